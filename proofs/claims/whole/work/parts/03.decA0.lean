theorem dX0_init_0 : decode cX0_init 0 = .ok (.aload_n 0, 1) := by decide +kernel
theorem dX0_init_1 : decode cX0_init 1 = .ok (.invokespecial 3, 3) := by decide +kernel
theorem dX0_init_4 : decode cX0_init 4 = .ok (.aload_n 0, 1) := by decide +kernel
theorem dX0_init_5 : decode cX0_init 5 = .ok (.bipush 7, 2) := by decide +kernel
theorem dX0_init_7 : decode cX0_init 7 = .ok (.newarray .int, 2) := by decide +kernel
theorem dX0_init_9 : decode cX0_init 9 = .ok (.putfield 9, 3) := by decide +kernel
theorem dX0_init_12 : decode cX0_init 12 = .ok (.aload_n 0, 1) := by decide +kernel
theorem dX0_init_13 : decode cX0_init 13 = .ok (.bipush 7, 2) := by decide +kernel
theorem dX0_init_15 : decode cX0_init 15 = .ok (.newarray .int, 2) := by decide +kernel
theorem dX0_init_17 : decode cX0_init 17 = .ok (.putfield 15, 3) := by decide +kernel
theorem dX0_init_20 : decode cX0_init 20 = .ok (.aload_n 0, 1) := by decide +kernel
theorem dX0_init_21 : decode cX0_init 21 = .ok (.sipush 128, 3) := by decide +kernel
theorem dX0_init_24 : decode cX0_init 24 = .ok (.newarray .int, 2) := by decide +kernel
theorem dX0_init_26 : decode cX0_init 26 = .ok (.putfield 18, 3) := by decide +kernel
theorem dX0_init_29 : decode cX0_init 29 = .ok (.aload_n 0, 1) := by decide +kernel
theorem dX0_init_30 : decode cX0_init 30 = .ok (.aload_n 1, 1) := by decide +kernel
theorem dX0_init_31 : decode cX0_init 31 = .ok (.putfield 21, 3) := by decide +kernel
theorem dX0_init_34 : decode cX0_init 34 = .ok (.return_, 1) := by decide +kernel
theorem dX0_gather_0 : decode cX0_gather 0 = .ok (.aload_n 0, 1) := by decide +kernel
theorem dX0_gather_1 : decode cX0_gather 1 = .ok (.aload_n 1, 1) := by decide +kernel
theorem dX0_gather_2 : decode cX0_gather 2 = .ok (.getfield 25, 3) := by decide +kernel
theorem dX0_gather_5 : decode cX0_gather 5 = .ok (.putfield 31, 3) := by decide +kernel
theorem dX0_gather_8 : decode cX0_gather 8 = .ok (.aload_n 0, 1) := by decide +kernel
theorem dX0_gather_9 : decode cX0_gather 9 = .ok (.iconst 0, 1) := by decide +kernel
theorem dX0_gather_10 : decode cX0_gather 10 = .ok (.putfield 32, 3) := by decide +kernel
theorem dX0_gather_13 : decode cX0_gather 13 = .ok (.iconst 0, 1) := by decide +kernel
theorem dX0_gather_14 : decode cX0_gather 14 = .ok (.istore_n 3, 1) := by decide +kernel
theorem dX0_gather_15 : decode cX0_gather 15 = .ok (.iload_n 3, 1) := by decide +kernel
theorem dX0_gather_16 : decode cX0_gather 16 = .ok (.bipush 7, 2) := by decide +kernel
theorem dX0_gather_18 : decode cX0_gather 18 = .ok (.if_icmp .ge 16, 3) := by decide +kernel
theorem dX0_gather_21 : decode cX0_gather 21 = .ok (.aload_n 0, 1) := by decide +kernel
theorem dX0_gather_22 : decode cX0_gather 22 = .ok (.getfield 9, 3) := by decide +kernel
theorem dX0_gather_25 : decode cX0_gather 25 = .ok (.iload_n 3, 1) := by decide +kernel
theorem dX0_gather_26 : decode cX0_gather 26 = .ok (.iconst 0, 1) := by decide +kernel
theorem dX0_gather_27 : decode cX0_gather 27 = .ok (.iastore, 1) := by decide +kernel
theorem dX0_gather_28 : decode cX0_gather 28 = .ok (.iinc 3 1, 3) := by decide +kernel
theorem dX0_gather_31 : decode cX0_gather 31 = .ok (.goto (-16), 3) := by decide +kernel
theorem dX0_gather_34 : decode cX0_gather 34 = .ok (.aload_n 2, 1) := by decide +kernel
theorem dX0_gather_35 : decode cX0_gather 35 = .ok (.invokevirtual 35, 3) := by decide +kernel
theorem dX0_gather_38 : decode cX0_gather 38 = .ok (.istore_n 3, 1) := by decide +kernel
theorem dX0_gather_39 : decode cX0_gather 39 = .ok (.iconst 0, 1) := by decide +kernel
theorem dX0_gather_40 : decode cX0_gather 40 = .ok (.istore 4, 2) := by decide +kernel
theorem dX0_gather_42 : decode cX0_gather 42 = .ok (.iload 4, 2) := by decide +kernel
theorem dX0_gather_44 : decode cX0_gather 44 = .ok (.aload_n 0, 1) := by decide +kernel
theorem dX0_gather_45 : decode cX0_gather 45 = .ok (.getfield 31, 3) := by decide +kernel
theorem dX0_gather_48 : decode cX0_gather 48 = .ok (.if_icmp .ge 74, 3) := by decide +kernel
theorem dX0_gather_51 : decode cX0_gather 51 = .ok (.aload_n 0, 1) := by decide +kernel
theorem dX0_gather_52 : decode cX0_gather 52 = .ok (.getfield 21, 3) := by decide +kernel
theorem dX0_gather_55 : decode cX0_gather 55 = .ok (.aload_n 1, 1) := by decide +kernel
theorem dX0_gather_56 : decode cX0_gather 56 = .ok (.aload_n 2, 1) := by decide +kernel
theorem dX0_gather_57 : decode cX0_gather 57 = .ok (.iload 4, 2) := by decide +kernel
theorem dX0_gather_59 : decode cX0_gather 59 = .ok (.iload_n 3, 1) := by decide +kernel
theorem dX0_gather_60 : decode cX0_gather 60 = .ok (.invokevirtual 41, 3) := by decide +kernel
theorem dX0_gather_63 : decode cX0_gather 63 = .ok (.istore 5, 2) := by decide +kernel
theorem dX0_gather_65 : decode cX0_gather 65 = .ok (.aload_n 2, 1) := by decide +kernel
theorem dX0_gather_66 : decode cX0_gather 66 = .ok (.getfield 47, 3) := by decide +kernel
theorem dX0_gather_69 : decode cX0_gather 69 = .ok (.iload 4, 2) := by decide +kernel
theorem dX0_gather_71 : decode cX0_gather 71 = .ok (.iaload, 1) := by decide +kernel
theorem dX0_gather_72 : decode cX0_gather 72 = .ok (.istore 6, 2) := by decide +kernel
theorem dX0_gather_74 : decode cX0_gather 74 = .ok (.aload_n 0, 1) := by decide +kernel
theorem dX0_gather_75 : decode cX0_gather 75 = .ok (.getfield 9, 3) := by decide +kernel
theorem dX0_gather_78 : decode cX0_gather 78 = .ok (.iload 6, 2) := by decide +kernel
theorem dX0_gather_80 : decode cX0_gather 80 = .ok (.ifCond .lt 17, 3) := by decide +kernel
theorem dX0_gather_83 : decode cX0_gather 83 = .ok (.iload 6, 2) := by decide +kernel
theorem dX0_gather_85 : decode cX0_gather 85 = .ok (.aload_n 0, 1) := by decide +kernel
theorem dX0_gather_86 : decode cX0_gather 86 = .ok (.getfield 31, 3) := by decide +kernel
theorem dX0_gather_89 : decode cX0_gather 89 = .ok (.if_icmp .ge 8, 3) := by decide +kernel
theorem dX0_gather_92 : decode cX0_gather 92 = .ok (.iload 6, 2) := by decide +kernel
theorem dX0_gather_94 : decode cX0_gather 94 = .ok (.goto 5, 3) := by decide +kernel
theorem dX0_gather_97 : decode cX0_gather 97 = .ok (.iload 4, 2) := by decide +kernel
theorem dX0_gather_99 : decode cX0_gather 99 = .ok (.dup2, 1) := by decide +kernel
theorem dX0_gather_100 : decode cX0_gather 100 = .ok (.iaload, 1) := by decide +kernel
theorem dX0_gather_101 : decode cX0_gather 101 = .ok (.iload 5, 2) := by decide +kernel
theorem dX0_gather_103 : decode cX0_gather 103 = .ok (.iadd, 1) := by decide +kernel
theorem dX0_gather_104 : decode cX0_gather 104 = .ok (.iastore, 1) := by decide +kernel
theorem dX0_gather_105 : decode cX0_gather 105 = .ok (.aload_n 0, 1) := by decide +kernel
theorem dX0_gather_106 : decode cX0_gather 106 = .ok (.dup, 1) := by decide +kernel
theorem dX0_gather_107 : decode cX0_gather 107 = .ok (.getfield 32, 3) := by decide +kernel
theorem dX0_gather_110 : decode cX0_gather 110 = .ok (.iload 5, 2) := by decide +kernel
theorem dX0_gather_112 : decode cX0_gather 112 = .ok (.iadd, 1) := by decide +kernel
theorem dX0_gather_113 : decode cX0_gather 113 = .ok (.putfield 32, 3) := by decide +kernel
theorem dX0_gather_116 : decode cX0_gather 116 = .ok (.iinc 4 1, 3) := by decide +kernel
theorem dX0_gather_119 : decode cX0_gather 119 = .ok (.goto (-77), 3) := by decide +kernel
theorem dX0_gather_122 : decode cX0_gather 122 = .ok (.return_, 1) := by decide +kernel
theorem dX0_countTurns_0 : decode cX0_countTurns 0 = .ok (.iconst 1, 1) := by decide +kernel
theorem dX0_countTurns_1 : decode cX0_countTurns 1 = .ok (.aload_n 0, 1) := by decide +kernel
theorem dX0_countTurns_2 : decode cX0_countTurns 2 = .ok (.getfield 31, 3) := by decide +kernel
theorem dX0_countTurns_5 : decode cX0_countTurns 5 = .ok (.ishl, 1) := by decide +kernel
theorem dX0_countTurns_6 : decode cX0_countTurns 6 = .ok (.istore_n 1, 1) := by decide +kernel
theorem dX0_countTurns_7 : decode cX0_countTurns 7 = .ok (.iconst 0, 1) := by decide +kernel
theorem dX0_countTurns_8 : decode cX0_countTurns 8 = .ok (.istore_n 2, 1) := by decide +kernel
theorem dX0_countTurns_9 : decode cX0_countTurns 9 = .ok (.iload_n 2, 1) := by decide +kernel
theorem dX0_countTurns_10 : decode cX0_countTurns 10 = .ok (.aload_n 0, 1) := by decide +kernel
theorem dX0_countTurns_11 : decode cX0_countTurns 11 = .ok (.getfield 31, 3) := by decide +kernel
theorem dX0_countTurns_14 : decode cX0_countTurns 14 = .ok (.if_icmp .ge 16, 3) := by decide +kernel
theorem dX0_countTurns_17 : decode cX0_countTurns 17 = .ok (.aload_n 0, 1) := by decide +kernel
theorem dX0_countTurns_18 : decode cX0_countTurns 18 = .ok (.getfield 15, 3) := by decide +kernel
theorem dX0_countTurns_21 : decode cX0_countTurns 21 = .ok (.iload_n 2, 1) := by decide +kernel
theorem dX0_countTurns_22 : decode cX0_countTurns 22 = .ok (.iconst 0, 1) := by decide +kernel
theorem dX0_countTurns_23 : decode cX0_countTurns 23 = .ok (.iastore, 1) := by decide +kernel
theorem dX0_countTurns_24 : decode cX0_countTurns 24 = .ok (.iinc 2 1, 3) := by decide +kernel
theorem dX0_countTurns_27 : decode cX0_countTurns 27 = .ok (.goto (-18), 3) := by decide +kernel
theorem dX0_countTurns_30 : decode cX0_countTurns 30 = .ok (.iconst 0, 1) := by decide +kernel
theorem dX0_countTurns_31 : decode cX0_countTurns 31 = .ok (.istore_n 2, 1) := by decide +kernel
theorem dX0_countTurns_32 : decode cX0_countTurns 32 = .ok (.iload_n 2, 1) := by decide +kernel
theorem dX0_countTurns_33 : decode cX0_countTurns 33 = .ok (.iload_n 1, 1) := by decide +kernel
theorem dX0_countTurns_34 : decode cX0_countTurns 34 = .ok (.if_icmp .ge 24, 3) := by decide +kernel
theorem dX0_countTurns_37 : decode cX0_countTurns 37 = .ok (.aload_n 0, 1) := by decide +kernel
theorem dX0_countTurns_38 : decode cX0_countTurns 38 = .ok (.getfield 18, 3) := by decide +kernel
theorem dX0_countTurns_41 : decode cX0_countTurns 41 = .ok (.iload_n 2, 1) := by decide +kernel
theorem dX0_countTurns_42 : decode cX0_countTurns 42 = .ok (.aload_n 0, 1) := by decide +kernel
theorem dX0_countTurns_43 : decode cX0_countTurns 43 = .ok (.aload_n 0, 1) := by decide +kernel
theorem dX0_countTurns_44 : decode cX0_countTurns 44 = .ok (.getfield 9, 3) := by decide +kernel
theorem dX0_countTurns_47 : decode cX0_countTurns 47 = .ok (.iload_n 2, 1) := by decide +kernel
theorem dX0_countTurns_48 : decode cX0_countTurns 48 = .ok (.invokevirtual 50, 3) := by decide +kernel
theorem dX0_countTurns_51 : decode cX0_countTurns 51 = .ok (.iastore, 1) := by decide +kernel
theorem dX0_countTurns_52 : decode cX0_countTurns 52 = .ok (.iinc 2 1, 3) := by decide +kernel
theorem dX0_countTurns_55 : decode cX0_countTurns 55 = .ok (.goto (-23), 3) := by decide +kernel
theorem dX0_countTurns_58 : decode cX0_countTurns 58 = .ok (.iconst 0, 1) := by decide +kernel
theorem dX0_countTurns_59 : decode cX0_countTurns 59 = .ok (.istore_n 2, 1) := by decide +kernel
theorem dX0_countTurns_60 : decode cX0_countTurns 60 = .ok (.iload_n 2, 1) := by decide +kernel
theorem dX0_countTurns_61 : decode cX0_countTurns 61 = .ok (.iload_n 1, 1) := by decide +kernel
theorem dX0_countTurns_62 : decode cX0_countTurns 62 = .ok (.if_icmp .ge 69, 3) := by decide +kernel
theorem dX0_countTurns_65 : decode cX0_countTurns 65 = .ok (.iconst 0, 1) := by decide +kernel
theorem dX0_countTurns_66 : decode cX0_countTurns 66 = .ok (.istore_n 3, 1) := by decide +kernel
theorem dX0_countTurns_67 : decode cX0_countTurns 67 = .ok (.iload_n 3, 1) := by decide +kernel
theorem dX0_countTurns_68 : decode cX0_countTurns 68 = .ok (.aload_n 0, 1) := by decide +kernel
theorem dX0_countTurns_69 : decode cX0_countTurns 69 = .ok (.getfield 31, 3) := by decide +kernel
theorem dX0_countTurns_72 : decode cX0_countTurns 72 = .ok (.if_icmp .ge 53, 3) := by decide +kernel
theorem dX0_countTurns_75 : decode cX0_countTurns 75 = .ok (.iconst 2, 1) := by decide +kernel
theorem dX0_countTurns_76 : decode cX0_countTurns 76 = .ok (.aload_n 0, 1) := by decide +kernel
theorem dX0_countTurns_77 : decode cX0_countTurns 77 = .ok (.getfield 18, 3) := by decide +kernel
theorem dX0_countTurns_80 : decode cX0_countTurns 80 = .ok (.iload_n 2, 1) := by decide +kernel
theorem dX0_countTurns_81 : decode cX0_countTurns 81 = .ok (.iaload, 1) := by decide +kernel
theorem dX0_countTurns_82 : decode cX0_countTurns 82 = .ok (.imul, 1) := by decide +kernel
theorem dX0_countTurns_83 : decode cX0_countTurns 83 = .ok (.aload_n 0, 1) := by decide +kernel
theorem dX0_countTurns_84 : decode cX0_countTurns 84 = .ok (.getfield 32, 3) := by decide +kernel
theorem dX0_countTurns_87 : decode cX0_countTurns 87 = .ok (.if_icmp .gt 38, 3) := by decide +kernel
theorem dX0_countTurns_90 : decode cX0_countTurns 90 = .ok (.iconst 2, 1) := by decide +kernel
theorem dX0_countTurns_91 : decode cX0_countTurns 91 = .ok (.aload_n 0, 1) := by decide +kernel
theorem dX0_countTurns_92 : decode cX0_countTurns 92 = .ok (.getfield 18, 3) := by decide +kernel
theorem dX0_countTurns_95 : decode cX0_countTurns 95 = .ok (.iload_n 2, 1) := by decide +kernel
theorem dX0_countTurns_96 : decode cX0_countTurns 96 = .ok (.iconst 1, 1) := by decide +kernel
theorem dX0_countTurns_97 : decode cX0_countTurns 97 = .ok (.iload_n 3, 1) := by decide +kernel
theorem dX0_countTurns_98 : decode cX0_countTurns 98 = .ok (.ishl, 1) := by decide +kernel
theorem dX0_countTurns_99 : decode cX0_countTurns 99 = .ok (.ior, 1) := by decide +kernel
theorem dX0_countTurns_100 : decode cX0_countTurns 100 = .ok (.iaload, 1) := by decide +kernel
theorem dX0_countTurns_101 : decode cX0_countTurns 101 = .ok (.imul, 1) := by decide +kernel
theorem dX0_countTurns_102 : decode cX0_countTurns 102 = .ok (.aload_n 0, 1) := by decide +kernel
theorem dX0_countTurns_103 : decode cX0_countTurns 103 = .ok (.getfield 32, 3) := by decide +kernel
theorem dX0_countTurns_106 : decode cX0_countTurns 106 = .ok (.if_icmp .le 13, 3) := by decide +kernel
theorem dX0_countTurns_109 : decode cX0_countTurns 109 = .ok (.aload_n 0, 1) := by decide +kernel
theorem dX0_countTurns_110 : decode cX0_countTurns 110 = .ok (.getfield 15, 3) := by decide +kernel
theorem dX0_countTurns_113 : decode cX0_countTurns 113 = .ok (.iload_n 3, 1) := by decide +kernel
theorem dX0_countTurns_114 : decode cX0_countTurns 114 = .ok (.dup2, 1) := by decide +kernel
theorem dX0_countTurns_115 : decode cX0_countTurns 115 = .ok (.iaload, 1) := by decide +kernel
theorem dX0_countTurns_116 : decode cX0_countTurns 116 = .ok (.iconst 1, 1) := by decide +kernel
theorem dX0_countTurns_117 : decode cX0_countTurns 117 = .ok (.iadd, 1) := by decide +kernel
theorem dX0_countTurns_118 : decode cX0_countTurns 118 = .ok (.iastore, 1) := by decide +kernel
theorem dX0_countTurns_119 : decode cX0_countTurns 119 = .ok (.iinc 3 1, 3) := by decide +kernel
theorem dX0_countTurns_122 : decode cX0_countTurns 122 = .ok (.goto (-55), 3) := by decide +kernel
theorem dX0_countTurns_125 : decode cX0_countTurns 125 = .ok (.iinc 2 1, 3) := by decide +kernel
theorem dX0_countTurns_128 : decode cX0_countTurns 128 = .ok (.goto (-68), 3) := by decide +kernel
theorem dX0_countTurns_131 : decode cX0_countTurns 131 = .ok (.return_, 1) := by decide +kernel
theorem dX0_allTurns_0 : decode cX0_allTurns 0 = .ok (.iconst 0, 1) := by decide +kernel
theorem dX0_allTurns_1 : decode cX0_allTurns 1 = .ok (.istore_n 1, 1) := by decide +kernel
theorem dX0_allTurns_2 : decode cX0_allTurns 2 = .ok (.iconst 0, 1) := by decide +kernel
theorem dX0_allTurns_3 : decode cX0_allTurns 3 = .ok (.istore_n 2, 1) := by decide +kernel
theorem dX0_allTurns_4 : decode cX0_allTurns 4 = .ok (.iload_n 2, 1) := by decide +kernel
theorem dX0_allTurns_5 : decode cX0_allTurns 5 = .ok (.aload_n 0, 1) := by decide +kernel
theorem dX0_allTurns_6 : decode cX0_allTurns 6 = .ok (.getfield 31, 3) := by decide +kernel
theorem dX0_allTurns_9 : decode cX0_allTurns 9 = .ok (.if_icmp .ge 18, 3) := by decide +kernel
theorem dX0_allTurns_12 : decode cX0_allTurns 12 = .ok (.iload_n 1, 1) := by decide +kernel
theorem dX0_allTurns_13 : decode cX0_allTurns 13 = .ok (.aload_n 0, 1) := by decide +kernel
theorem dX0_allTurns_14 : decode cX0_allTurns 14 = .ok (.getfield 15, 3) := by decide +kernel
theorem dX0_allTurns_17 : decode cX0_allTurns 17 = .ok (.iload_n 2, 1) := by decide +kernel
theorem dX0_allTurns_18 : decode cX0_allTurns 18 = .ok (.iaload, 1) := by decide +kernel
theorem dX0_allTurns_19 : decode cX0_allTurns 19 = .ok (.iadd, 1) := by decide +kernel
theorem dX0_allTurns_20 : decode cX0_allTurns 20 = .ok (.istore_n 1, 1) := by decide +kernel
theorem dX0_allTurns_21 : decode cX0_allTurns 21 = .ok (.iinc 2 1, 3) := by decide +kernel
theorem dX0_allTurns_24 : decode cX0_allTurns 24 = .ok (.goto (-20), 3) := by decide +kernel
theorem dX0_allTurns_27 : decode cX0_allTurns 27 = .ok (.iload_n 1, 1) := by decide +kernel
theorem dX0_allTurns_28 : decode cX0_allTurns 28 = .ok (.ireturn, 1) := by decide +kernel
theorem dX0_mostTurns_0 : decode cX0_mostTurns 0 = .ok (.iconst 0, 1) := by decide +kernel
theorem dX0_mostTurns_1 : decode cX0_mostTurns 1 = .ok (.istore_n 1, 1) := by decide +kernel
theorem dX0_mostTurns_2 : decode cX0_mostTurns 2 = .ok (.iconst 1, 1) := by decide +kernel
theorem dX0_mostTurns_3 : decode cX0_mostTurns 3 = .ok (.istore_n 2, 1) := by decide +kernel
theorem dX0_mostTurns_4 : decode cX0_mostTurns 4 = .ok (.iload_n 2, 1) := by decide +kernel
theorem dX0_mostTurns_5 : decode cX0_mostTurns 5 = .ok (.aload_n 0, 1) := by decide +kernel
theorem dX0_mostTurns_6 : decode cX0_mostTurns 6 = .ok (.getfield 31, 3) := by decide +kernel
theorem dX0_mostTurns_9 : decode cX0_mostTurns 9 = .ok (.if_icmp .ge 30, 3) := by decide +kernel
theorem dX0_mostTurns_12 : decode cX0_mostTurns 12 = .ok (.aload_n 0, 1) := by decide +kernel
theorem dX0_mostTurns_13 : decode cX0_mostTurns 13 = .ok (.getfield 15, 3) := by decide +kernel
theorem dX0_mostTurns_16 : decode cX0_mostTurns 16 = .ok (.iload_n 2, 1) := by decide +kernel
theorem dX0_mostTurns_17 : decode cX0_mostTurns 17 = .ok (.iaload, 1) := by decide +kernel
theorem dX0_mostTurns_18 : decode cX0_mostTurns 18 = .ok (.aload_n 0, 1) := by decide +kernel
theorem dX0_mostTurns_19 : decode cX0_mostTurns 19 = .ok (.getfield 15, 3) := by decide +kernel
theorem dX0_mostTurns_22 : decode cX0_mostTurns 22 = .ok (.iload_n 1, 1) := by decide +kernel
theorem dX0_mostTurns_23 : decode cX0_mostTurns 23 = .ok (.iaload, 1) := by decide +kernel
theorem dX0_mostTurns_24 : decode cX0_mostTurns 24 = .ok (.if_icmp .le 7, 3) := by decide +kernel
theorem dX0_mostTurns_27 : decode cX0_mostTurns 27 = .ok (.iload_n 2, 1) := by decide +kernel
theorem dX0_mostTurns_28 : decode cX0_mostTurns 28 = .ok (.goto 4, 3) := by decide +kernel
theorem dX0_mostTurns_31 : decode cX0_mostTurns 31 = .ok (.iload_n 1, 1) := by decide +kernel
theorem dX0_mostTurns_32 : decode cX0_mostTurns 32 = .ok (.istore_n 1, 1) := by decide +kernel
theorem dX0_mostTurns_33 : decode cX0_mostTurns 33 = .ok (.iinc 2 1, 3) := by decide +kernel
theorem dX0_mostTurns_36 : decode cX0_mostTurns 36 = .ok (.goto (-32), 3) := by decide +kernel
theorem dX0_mostTurns_39 : decode cX0_mostTurns 39 = .ok (.iload_n 1, 1) := by decide +kernel
theorem dX0_mostTurns_40 : decode cX0_mostTurns 40 = .ok (.ireturn, 1) := by decide +kernel
theorem dX0_sum_0 : decode cX0_sum 0 = .ok (.iconst 0, 1) := by decide +kernel
theorem dX0_sum_1 : decode cX0_sum 1 = .ok (.istore_n 3, 1) := by decide +kernel
theorem dX0_sum_2 : decode cX0_sum 2 = .ok (.iconst 0, 1) := by decide +kernel
theorem dX0_sum_3 : decode cX0_sum 3 = .ok (.istore 4, 2) := by decide +kernel
theorem dX0_sum_5 : decode cX0_sum 5 = .ok (.iload 4, 2) := by decide +kernel
theorem dX0_sum_7 : decode cX0_sum 7 = .ok (.bipush 7, 2) := by decide +kernel
theorem dX0_sum_9 : decode cX0_sum 9 = .ok (.if_icmp .ge 29, 3) := by decide +kernel
theorem dX0_sum_12 : decode cX0_sum 12 = .ok (.iload_n 3, 1) := by decide +kernel
theorem dX0_sum_13 : decode cX0_sum 13 = .ok (.iload_n 2, 1) := by decide +kernel
theorem dX0_sum_14 : decode cX0_sum 14 = .ok (.iload 4, 2) := by decide +kernel
theorem dX0_sum_16 : decode cX0_sum 16 = .ok (.ishr, 1) := by decide +kernel
theorem dX0_sum_17 : decode cX0_sum 17 = .ok (.iconst 1, 1) := by decide +kernel
theorem dX0_sum_18 : decode cX0_sum 18 = .ok (.iand, 1) := by decide +kernel
theorem dX0_sum_19 : decode cX0_sum 19 = .ok (.ifCond .ne 7, 3) := by decide +kernel
theorem dX0_sum_22 : decode cX0_sum 22 = .ok (.iconst 0, 1) := by decide +kernel
theorem dX0_sum_23 : decode cX0_sum 23 = .ok (.goto 7, 3) := by decide +kernel
theorem dX0_sum_26 : decode cX0_sum 26 = .ok (.aload_n 1, 1) := by decide +kernel
theorem dX0_sum_27 : decode cX0_sum 27 = .ok (.iload 4, 2) := by decide +kernel
theorem dX0_sum_29 : decode cX0_sum 29 = .ok (.iaload, 1) := by decide +kernel
theorem dX0_sum_30 : decode cX0_sum 30 = .ok (.iadd, 1) := by decide +kernel
theorem dX0_sum_31 : decode cX0_sum 31 = .ok (.istore_n 3, 1) := by decide +kernel
theorem dX0_sum_32 : decode cX0_sum 32 = .ok (.iinc 4 1, 3) := by decide +kernel
theorem dX0_sum_35 : decode cX0_sum 35 = .ok (.goto (-30), 3) := by decide +kernel
theorem dX0_sum_38 : decode cX0_sum 38 = .ok (.iload_n 3, 1) := by decide +kernel
theorem dX0_sum_39 : decode cX0_sum 39 = .ok (.ireturn, 1) := by decide +kernel
theorem dX0_fewestToMajority_0 : decode cX0_fewestToMajority 0 = .ok (.aload_n 0, 1) := by decide +kernel
theorem dX0_fewestToMajority_1 : decode cX0_fewestToMajority 1 = .ok (.aload_n 1, 1) := by decide +kernel
theorem dX0_fewestToMajority_2 : decode cX0_fewestToMajority 2 = .ok (.iconst 1, 1) := by decide +kernel
theorem dX0_fewestToMajority_3 : decode cX0_fewestToMajority 3 = .ok (.iload_n 3, 1) := by decide +kernel
theorem dX0_fewestToMajority_4 : decode cX0_fewestToMajority 4 = .ok (.ishl, 1) := by decide +kernel
theorem dX0_fewestToMajority_5 : decode cX0_fewestToMajority 5 = .ok (.iconst 1, 1) := by decide +kernel
theorem dX0_fewestToMajority_6 : decode cX0_fewestToMajority 6 = .ok (.isub, 1) := by decide +kernel
theorem dX0_fewestToMajority_7 : decode cX0_fewestToMajority 7 = .ok (.invokevirtual 50, 3) := by decide +kernel
theorem dX0_fewestToMajority_10 : decode cX0_fewestToMajority 10 = .ok (.istore 4, 2) := by decide +kernel
theorem dX0_fewestToMajority_12 : decode cX0_fewestToMajority 12 = .ok (.iload_n 2, 1) := by decide +kernel
theorem dX0_fewestToMajority_13 : decode cX0_fewestToMajority 13 = .ok (.istore 5, 2) := by decide +kernel
theorem dX0_fewestToMajority_15 : decode cX0_fewestToMajority 15 = .ok (.iconst 0, 1) := by decide +kernel
theorem dX0_fewestToMajority_16 : decode cX0_fewestToMajority 16 = .ok (.istore 6, 2) := by decide +kernel
theorem dX0_fewestToMajority_18 : decode cX0_fewestToMajority 18 = .ok (.iload 6, 2) := by decide +kernel
theorem dX0_fewestToMajority_20 : decode cX0_fewestToMajority 20 = .ok (.bipush 7, 2) := by decide +kernel
theorem dX0_fewestToMajority_22 : decode cX0_fewestToMajority 22 = .ok (.if_icmp .gt 54, 3) := by decide +kernel
theorem dX0_fewestToMajority_25 : decode cX0_fewestToMajority 25 = .ok (.iconst 2, 1) := by decide +kernel
theorem dX0_fewestToMajority_26 : decode cX0_fewestToMajority 26 = .ok (.aload_n 0, 1) := by decide +kernel
theorem dX0_fewestToMajority_27 : decode cX0_fewestToMajority 27 = .ok (.aload_n 1, 1) := by decide +kernel
theorem dX0_fewestToMajority_28 : decode cX0_fewestToMajority 28 = .ok (.iload 5, 2) := by decide +kernel
theorem dX0_fewestToMajority_30 : decode cX0_fewestToMajority 30 = .ok (.invokevirtual 50, 3) := by decide +kernel
theorem dX0_fewestToMajority_33 : decode cX0_fewestToMajority 33 = .ok (.imul, 1) := by decide +kernel
theorem dX0_fewestToMajority_34 : decode cX0_fewestToMajority 34 = .ok (.iload 4, 2) := by decide +kernel
theorem dX0_fewestToMajority_36 : decode cX0_fewestToMajority 36 = .ok (.if_icmp .le 6, 3) := by decide +kernel
theorem dX0_fewestToMajority_39 : decode cX0_fewestToMajority 39 = .ok (.iload 6, 2) := by decide +kernel
theorem dX0_fewestToMajority_41 : decode cX0_fewestToMajority 41 = .ok (.ireturn, 1) := by decide +kernel
theorem dX0_fewestToMajority_42 : decode cX0_fewestToMajority 42 = .ok (.aload_n 0, 1) := by decide +kernel
theorem dX0_fewestToMajority_43 : decode cX0_fewestToMajority 43 = .ok (.aload_n 1, 1) := by decide +kernel
theorem dX0_fewestToMajority_44 : decode cX0_fewestToMajority 44 = .ok (.iload 5, 2) := by decide +kernel
theorem dX0_fewestToMajority_46 : decode cX0_fewestToMajority 46 = .ok (.iload_n 3, 1) := by decide +kernel
theorem dX0_fewestToMajority_47 : decode cX0_fewestToMajority 47 = .ok (.invokevirtual 54, 3) := by decide +kernel
theorem dX0_fewestToMajority_50 : decode cX0_fewestToMajority 50 = .ok (.istore 7, 2) := by decide +kernel
theorem dX0_fewestToMajority_52 : decode cX0_fewestToMajority 52 = .ok (.iload 7, 2) := by decide +kernel
theorem dX0_fewestToMajority_54 : decode cX0_fewestToMajority 54 = .ok (.iconst (-1), 1) := by decide +kernel
theorem dX0_fewestToMajority_55 : decode cX0_fewestToMajority 55 = .ok (.if_icmp .ne 6, 3) := by decide +kernel
theorem dX0_fewestToMajority_58 : decode cX0_fewestToMajority 58 = .ok (.bipush (-2), 2) := by decide +kernel
theorem dX0_fewestToMajority_60 : decode cX0_fewestToMajority 60 = .ok (.ireturn, 1) := by decide +kernel
theorem dX0_fewestToMajority_61 : decode cX0_fewestToMajority 61 = .ok (.iload 5, 2) := by decide +kernel
theorem dX0_fewestToMajority_63 : decode cX0_fewestToMajority 63 = .ok (.iconst 1, 1) := by decide +kernel
theorem dX0_fewestToMajority_64 : decode cX0_fewestToMajority 64 = .ok (.iload 7, 2) := by decide +kernel
theorem dX0_fewestToMajority_66 : decode cX0_fewestToMajority 66 = .ok (.ishl, 1) := by decide +kernel
theorem dX0_fewestToMajority_67 : decode cX0_fewestToMajority 67 = .ok (.ior, 1) := by decide +kernel
theorem dX0_fewestToMajority_68 : decode cX0_fewestToMajority 68 = .ok (.istore 5, 2) := by decide +kernel
theorem dX0_fewestToMajority_70 : decode cX0_fewestToMajority 70 = .ok (.iinc 6 1, 3) := by decide +kernel
theorem dX0_fewestToMajority_73 : decode cX0_fewestToMajority 73 = .ok (.goto (-55), 3) := by decide +kernel
theorem dX0_fewestToMajority_76 : decode cX0_fewestToMajority 76 = .ok (.bipush (-2), 2) := by decide +kernel
theorem dX0_fewestToMajority_78 : decode cX0_fewestToMajority 78 = .ok (.ireturn, 1) := by decide +kernel
theorem dX0_largestOutside_0 : decode cX0_largestOutside 0 = .ok (.iconst (-1), 1) := by decide +kernel
theorem dX0_largestOutside_1 : decode cX0_largestOutside 1 = .ok (.istore 4, 2) := by decide +kernel
theorem dX0_largestOutside_3 : decode cX0_largestOutside 3 = .ok (.iconst 0, 1) := by decide +kernel
theorem dX0_largestOutside_4 : decode cX0_largestOutside 4 = .ok (.istore 5, 2) := by decide +kernel
theorem dX0_largestOutside_6 : decode cX0_largestOutside 6 = .ok (.iload 5, 2) := by decide +kernel
theorem dX0_largestOutside_8 : decode cX0_largestOutside 8 = .ok (.iload_n 3, 1) := by decide +kernel
theorem dX0_largestOutside_9 : decode cX0_largestOutside 9 = .ok (.if_icmp .ge 58, 3) := by decide +kernel
theorem dX0_largestOutside_12 : decode cX0_largestOutside 12 = .ok (.iload 5, 2) := by decide +kernel
theorem dX0_largestOutside_14 : decode cX0_largestOutside 14 = .ok (.bipush 7, 2) := by decide +kernel
theorem dX0_largestOutside_16 : decode cX0_largestOutside 16 = .ok (.if_icmp .ge 51, 3) := by decide +kernel
theorem dX0_largestOutside_19 : decode cX0_largestOutside 19 = .ok (.iload_n 2, 1) := by decide +kernel
theorem dX0_largestOutside_20 : decode cX0_largestOutside 20 = .ok (.iload 5, 2) := by decide +kernel
theorem dX0_largestOutside_22 : decode cX0_largestOutside 22 = .ok (.ishr, 1) := by decide +kernel
theorem dX0_largestOutside_23 : decode cX0_largestOutside 23 = .ok (.iconst 1, 1) := by decide +kernel
theorem dX0_largestOutside_24 : decode cX0_largestOutside 24 = .ok (.iand, 1) := by decide +kernel
theorem dX0_largestOutside_25 : decode cX0_largestOutside 25 = .ok (.ifCond .ne 7, 3) := by decide +kernel
theorem dX0_largestOutside_28 : decode cX0_largestOutside 28 = .ok (.iconst 1, 1) := by decide +kernel
theorem dX0_largestOutside_29 : decode cX0_largestOutside 29 = .ok (.goto 4, 3) := by decide +kernel
theorem dX0_largestOutside_32 : decode cX0_largestOutside 32 = .ok (.iconst 0, 1) := by decide +kernel
theorem dX0_largestOutside_33 : decode cX0_largestOutside 33 = .ok (.istore 6, 2) := by decide +kernel
theorem dX0_largestOutside_35 : decode cX0_largestOutside 35 = .ok (.iload 6, 2) := by decide +kernel
theorem dX0_largestOutside_37 : decode cX0_largestOutside 37 = .ok (.ifCond .eq 24, 3) := by decide +kernel
theorem dX0_largestOutside_40 : decode cX0_largestOutside 40 = .ok (.iload 4, 2) := by decide +kernel
theorem dX0_largestOutside_42 : decode cX0_largestOutside 42 = .ok (.iconst (-1), 1) := by decide +kernel
theorem dX0_largestOutside_43 : decode cX0_largestOutside 43 = .ok (.if_icmp .eq 14, 3) := by decide +kernel
theorem dX0_largestOutside_46 : decode cX0_largestOutside 46 = .ok (.aload_n 1, 1) := by decide +kernel
theorem dX0_largestOutside_47 : decode cX0_largestOutside 47 = .ok (.iload 5, 2) := by decide +kernel
theorem dX0_largestOutside_49 : decode cX0_largestOutside 49 = .ok (.iaload, 1) := by decide +kernel
theorem dX0_largestOutside_50 : decode cX0_largestOutside 50 = .ok (.aload_n 1, 1) := by decide +kernel
theorem dX0_largestOutside_51 : decode cX0_largestOutside 51 = .ok (.iload 4, 2) := by decide +kernel
theorem dX0_largestOutside_53 : decode cX0_largestOutside 53 = .ok (.iaload, 1) := by decide +kernel
theorem dX0_largestOutside_54 : decode cX0_largestOutside 54 = .ok (.if_icmp .le 7, 3) := by decide +kernel
theorem dX0_largestOutside_57 : decode cX0_largestOutside 57 = .ok (.iload 5, 2) := by decide +kernel
theorem dX0_largestOutside_59 : decode cX0_largestOutside 59 = .ok (.istore 4, 2) := by decide +kernel
theorem dX0_largestOutside_61 : decode cX0_largestOutside 61 = .ok (.iinc 5 1, 3) := by decide +kernel
theorem dX0_largestOutside_64 : decode cX0_largestOutside 64 = .ok (.goto (-58), 3) := by decide +kernel
theorem dX0_largestOutside_67 : decode cX0_largestOutside 67 = .ok (.iload 4, 2) := by decide +kernel
theorem dX0_largestOutside_69 : decode cX0_largestOutside 69 = .ok (.ireturn, 1) := by decide +kernel
theorem dX1_init_0 : decode cX1_init 0 = .ok (.aload_n 0, 1) := by decide +kernel
theorem dX1_init_1 : decode cX1_init 1 = .ok (.invokespecial 5, 3) := by decide +kernel
theorem dX1_init_4 : decode cX1_init 4 = .ok (.aload_n 0, 1) := by decide +kernel
theorem dX1_init_5 : decode cX1_init 5 = .ok (.sipush 410, 3) := by decide +kernel
theorem dX1_init_8 : decode cX1_init 8 = .ok (.newarray .int, 2) := by decide +kernel
theorem dX1_init_10 : decode cX1_init 10 = .ok (.putfield 11, 3) := by decide +kernel
theorem dX1_init_13 : decode cX1_init 13 = .ok (.aload_n 0, 1) := by decide +kernel
theorem dX1_init_14 : decode cX1_init 14 = .ok (.sipush 410, 3) := by decide +kernel
theorem dX1_init_17 : decode cX1_init 17 = .ok (.newarray .int, 2) := by decide +kernel
theorem dX1_init_19 : decode cX1_init 19 = .ok (.putfield 15, 3) := by decide +kernel
theorem dX1_init_22 : decode cX1_init 22 = .ok (.aload_n 0, 1) := by decide +kernel
theorem dX1_init_23 : decode cX1_init 23 = .ok (.iconst 5, 1) := by decide +kernel
theorem dX1_init_24 : decode cX1_init 24 = .ok (.newarray .int, 2) := by decide +kernel
theorem dX1_init_26 : decode cX1_init 26 = .ok (.putfield 18, 3) := by decide +kernel
theorem dX1_init_29 : decode cX1_init 29 = .ok (.aload_n 0, 1) := by decide +kernel
theorem dX1_init_30 : decode cX1_init 30 = .ok (.bipush 24, 2) := by decide +kernel
theorem dX1_init_32 : decode cX1_init 32 = .ok (.newarray .int, 2) := by decide +kernel
theorem dX1_init_34 : decode cX1_init 34 = .ok (.putfield 21, 3) := by decide +kernel
theorem dX1_init_37 : decode cX1_init 37 = .ok (.aload_n 0, 1) := by decide +kernel
theorem dX1_init_38 : decode cX1_init 38 = .ok (.bipush 9, 2) := by decide +kernel
theorem dX1_init_40 : decode cX1_init 40 = .ok (.newarray .int, 2) := by decide +kernel
theorem dX1_init_42 : decode cX1_init 42 = .ok (.putfield 24, 3) := by decide +kernel
theorem dX1_init_45 : decode cX1_init 45 = .ok (.return_, 1) := by decide +kernel
theorem dX1_reset_0 : decode cX1_reset 0 = .ok (.aload_n 0, 1) := by decide +kernel
theorem dX1_reset_1 : decode cX1_reset 1 = .ok (.iconst 0, 1) := by decide +kernel
theorem dX1_reset_2 : decode cX1_reset 2 = .ok (.putfield 27, 3) := by decide +kernel
theorem dX1_reset_5 : decode cX1_reset 5 = .ok (.aload_n 0, 1) := by decide +kernel
theorem dX1_reset_6 : decode cX1_reset 6 = .ok (.iconst 0, 1) := by decide +kernel
theorem dX1_reset_7 : decode cX1_reset 7 = .ok (.iconst 0, 1) := by decide +kernel
theorem dX1_reset_8 : decode cX1_reset 8 = .ok (.bipush 10, 2) := by decide +kernel
theorem dX1_reset_10 : decode cX1_reset 10 = .ok (.invokevirtual 31, 3) := by decide +kernel
theorem dX1_reset_13 : decode cX1_reset 13 = .ok (.aload_n 0, 1) := by decide +kernel
theorem dX1_reset_14 : decode cX1_reset 14 = .ok (.iconst 1, 1) := by decide +kernel
theorem dX1_reset_15 : decode cX1_reset 15 = .ok (.iconst 0, 1) := by decide +kernel
theorem dX1_reset_16 : decode cX1_reset 16 = .ok (.iconst 0, 1) := by decide +kernel
theorem dX1_reset_17 : decode cX1_reset 17 = .ok (.invokevirtual 31, 3) := by decide +kernel
theorem dX1_reset_20 : decode cX1_reset 20 = .ok (.aload_n 0, 1) := by decide +kernel
theorem dX1_reset_21 : decode cX1_reset 21 = .ok (.iconst 2, 1) := by decide +kernel
theorem dX1_reset_22 : decode cX1_reset 22 = .ok (.iconst 0, 1) := by decide +kernel
theorem dX1_reset_23 : decode cX1_reset 23 = .ok (.iconst 5, 1) := by decide +kernel
theorem dX1_reset_24 : decode cX1_reset 24 = .ok (.invokevirtual 31, 3) := by decide +kernel
theorem dX1_reset_27 : decode cX1_reset 27 = .ok (.aload_n 0, 1) := by decide +kernel
theorem dX1_reset_28 : decode cX1_reset 28 = .ok (.iconst 3, 1) := by decide +kernel
theorem dX1_reset_29 : decode cX1_reset 29 = .ok (.iconst 1, 1) := by decide +kernel
theorem dX1_reset_30 : decode cX1_reset 30 = .ok (.iconst 0, 1) := by decide +kernel
theorem dX1_reset_31 : decode cX1_reset 31 = .ok (.invokevirtual 31, 3) := by decide +kernel
theorem dX1_reset_34 : decode cX1_reset 34 = .ok (.aload_n 0, 1) := by decide +kernel
theorem dX1_reset_35 : decode cX1_reset 35 = .ok (.iconst 4, 1) := by decide +kernel
theorem dX1_reset_36 : decode cX1_reset 36 = .ok (.iconst 0, 1) := by decide +kernel
theorem dX1_reset_37 : decode cX1_reset 37 = .ok (.iconst 0, 1) := by decide +kernel
theorem dX1_reset_38 : decode cX1_reset 38 = .ok (.invokevirtual 31, 3) := by decide +kernel
theorem dX1_reset_41 : decode cX1_reset 41 = .ok (.return_, 1) := by decide +kernel
theorem dX1_putUntold_0 : decode cX1_putUntold 0 = .ok (.aload_n 0, 1) := by decide +kernel
theorem dX1_putUntold_1 : decode cX1_putUntold 1 = .ok (.iload_n 1, 1) := by decide +kernel
theorem dX1_putUntold_2 : decode cX1_putUntold 2 = .ok (.invokevirtual 35, 3) := by decide +kernel
theorem dX1_putUntold_5 : decode cX1_putUntold 5 = .ok (.aload_n 0, 1) := by decide +kernel
theorem dX1_putUntold_6 : decode cX1_putUntold 6 = .ok (.iload_n 2, 1) := by decide +kernel
theorem dX1_putUntold_7 : decode cX1_putUntold 7 = .ok (.iload_n 3, 1) := by decide +kernel
theorem dX1_putUntold_8 : decode cX1_putUntold 8 = .ok (.invokevirtual 39, 3) := by decide +kernel
theorem dX1_putUntold_11 : decode cX1_putUntold 11 = .ok (.pop, 1) := by decide +kernel
theorem dX1_putUntold_12 : decode cX1_putUntold 12 = .ok (.aload_n 0, 1) := by decide +kernel
theorem dX1_putUntold_13 : decode cX1_putUntold 13 = .ok (.bipush 7, 2) := by decide +kernel
theorem dX1_putUntold_15 : decode cX1_putUntold 15 = .ok (.iconst 0, 1) := by decide +kernel
theorem dX1_putUntold_16 : decode cX1_putUntold 16 = .ok (.invokevirtual 39, 3) := by decide +kernel
theorem dX1_putUntold_19 : decode cX1_putUntold 19 = .ok (.pop, 1) := by decide +kernel
theorem dX1_putUntold_20 : decode cX1_putUntold 20 = .ok (.return_, 1) := by decide +kernel
theorem dX1_startHere_0 : decode cX1_startHere 0 = .ok (.iload_n 1, 1) := by decide +kernel
theorem dX1_startHere_1 : decode cX1_startHere 1 = .ok (.ifCond .lt 18, 3) := by decide +kernel
theorem dX1_startHere_4 : decode cX1_startHere 4 = .ok (.iload_n 1, 1) := by decide +kernel
theorem dX1_startHere_5 : decode cX1_startHere 5 = .ok (.iconst 5, 1) := by decide +kernel
theorem dX1_startHere_6 : decode cX1_startHere 6 = .ok (.if_icmp .ge 13, 3) := by decide +kernel
theorem dX1_startHere_9 : decode cX1_startHere 9 = .ok (.aload_n 0, 1) := by decide +kernel
theorem dX1_startHere_10 : decode cX1_startHere 10 = .ok (.getfield 18, 3) := by decide +kernel
theorem dX1_startHere_13 : decode cX1_startHere 13 = .ok (.iload_n 1, 1) := by decide +kernel
theorem dX1_startHere_14 : decode cX1_startHere 14 = .ok (.aload_n 0, 1) := by decide +kernel
theorem dX1_startHere_15 : decode cX1_startHere 15 = .ok (.getfield 27, 3) := by decide +kernel
theorem dX1_startHere_18 : decode cX1_startHere 18 = .ok (.iastore, 1) := by decide +kernel
theorem dX1_startHere_19 : decode cX1_startHere 19 = .ok (.return_, 1) := by decide +kernel
theorem dX1_put_0 : decode cX1_put 0 = .ok (.aload_n 0, 1) := by decide +kernel
theorem dX1_put_1 : decode cX1_put 1 = .ok (.getfield 27, 3) := by decide +kernel
theorem dX1_put_4 : decode cX1_put 4 = .ok (.sipush 410, 3) := by decide +kernel
theorem dX1_put_7 : decode cX1_put 7 = .ok (.if_icmp .ge 33, 3) := by decide +kernel
theorem dX1_put_10 : decode cX1_put 10 = .ok (.aload_n 0, 1) := by decide +kernel
theorem dX1_put_11 : decode cX1_put 11 = .ok (.getfield 11, 3) := by decide +kernel
theorem dX1_put_14 : decode cX1_put 14 = .ok (.aload_n 0, 1) := by decide +kernel
theorem dX1_put_15 : decode cX1_put 15 = .ok (.getfield 27, 3) := by decide +kernel
theorem dX1_put_18 : decode cX1_put 18 = .ok (.iload_n 1, 1) := by decide +kernel
theorem dX1_put_19 : decode cX1_put 19 = .ok (.iastore, 1) := by decide +kernel
theorem dX1_put_20 : decode cX1_put 20 = .ok (.aload_n 0, 1) := by decide +kernel
theorem dX1_put_21 : decode cX1_put 21 = .ok (.getfield 15, 3) := by decide +kernel
theorem dX1_put_24 : decode cX1_put 24 = .ok (.aload_n 0, 1) := by decide +kernel
theorem dX1_put_25 : decode cX1_put 25 = .ok (.getfield 27, 3) := by decide +kernel
theorem dX1_put_28 : decode cX1_put 28 = .ok (.iload_n 2, 1) := by decide +kernel
theorem dX1_put_29 : decode cX1_put 29 = .ok (.iastore, 1) := by decide +kernel
theorem dX1_put_30 : decode cX1_put 30 = .ok (.aload_n 0, 1) := by decide +kernel
theorem dX1_put_31 : decode cX1_put 31 = .ok (.dup, 1) := by decide +kernel
theorem dX1_put_32 : decode cX1_put 32 = .ok (.getfield 27, 3) := by decide +kernel
theorem dX1_put_35 : decode cX1_put 35 = .ok (.iconst 1, 1) := by decide +kernel
theorem dX1_put_36 : decode cX1_put 36 = .ok (.iadd, 1) := by decide +kernel
theorem dX1_put_37 : decode cX1_put 37 = .ok (.putfield 27, 3) := by decide +kernel
theorem dX1_put_40 : decode cX1_put 40 = .ok (.aload_n 0, 1) := by decide +kernel
theorem dX1_put_41 : decode cX1_put 41 = .ok (.getfield 27, 3) := by decide +kernel
theorem dX1_put_44 : decode cX1_put 44 = .ok (.iconst 1, 1) := by decide +kernel
theorem dX1_put_45 : decode cX1_put 45 = .ok (.isub, 1) := by decide +kernel
theorem dX1_put_46 : decode cX1_put 46 = .ok (.ireturn, 1) := by decide +kernel
theorem dX1_leadHere_0 : decode cX1_leadHere 0 = .ok (.iload_n 1, 1) := by decide +kernel
theorem dX1_leadHere_1 : decode cX1_leadHere 1 = .ok (.ifCond .lt 21, 3) := by decide +kernel
theorem dX1_leadHere_4 : decode cX1_leadHere 4 = .ok (.iload_n 1, 1) := by decide +kernel
theorem dX1_leadHere_5 : decode cX1_leadHere 5 = .ok (.aload_n 0, 1) := by decide +kernel
theorem dX1_leadHere_6 : decode cX1_leadHere 6 = .ok (.getfield 27, 3) := by decide +kernel
theorem dX1_leadHere_9 : decode cX1_leadHere 9 = .ok (.if_icmp .ge 13, 3) := by decide +kernel
theorem dX1_leadHere_12 : decode cX1_leadHere 12 = .ok (.aload_n 0, 1) := by decide +kernel
theorem dX1_leadHere_13 : decode cX1_leadHere 13 = .ok (.getfield 15, 3) := by decide +kernel
theorem dX1_leadHere_16 : decode cX1_leadHere 16 = .ok (.iload_n 1, 1) := by decide +kernel
theorem dX1_leadHere_17 : decode cX1_leadHere 17 = .ok (.aload_n 0, 1) := by decide +kernel
theorem dX1_leadHere_18 : decode cX1_leadHere 18 = .ok (.getfield 27, 3) := by decide +kernel
theorem dX1_leadHere_21 : decode cX1_leadHere 21 = .ok (.iastore, 1) := by decide +kernel
theorem dX1_leadHere_22 : decode cX1_leadHere 22 = .ok (.return_, 1) := by decide +kernel
theorem dX1_value_0 : decode cX1_value 0 = .ok (.iload_n 1, 1) := by decide +kernel
theorem dX1_value_1 : decode cX1_value 1 = .ok (.ifCond .lt 17, 3) := by decide +kernel
theorem dX1_value_4 : decode cX1_value 4 = .ok (.iload_n 1, 1) := by decide +kernel
theorem dX1_value_5 : decode cX1_value 5 = .ok (.iconst 5, 1) := by decide +kernel
theorem dX1_value_6 : decode cX1_value 6 = .ok (.if_icmp .ge 12, 3) := by decide +kernel
theorem dX1_value_9 : decode cX1_value 9 = .ok (.aload_n 0, 1) := by decide +kernel
theorem dX1_value_10 : decode cX1_value 10 = .ok (.getfield 18, 3) := by decide +kernel
theorem dX1_value_13 : decode cX1_value 13 = .ok (.iload_n 1, 1) := by decide +kernel
theorem dX1_value_14 : decode cX1_value 14 = .ok (.iaload, 1) := by decide +kernel
theorem dX1_value_15 : decode cX1_value 15 = .ok (.goto 7, 3) := by decide +kernel
theorem dX1_value_18 : decode cX1_value 18 = .ok (.aload_n 0, 1) := by decide +kernel
theorem dX1_value_19 : decode cX1_value 19 = .ok (.getfield 27, 3) := by decide +kernel
theorem dX1_value_22 : decode cX1_value 22 = .ok (.istore_n 2, 1) := by decide +kernel
theorem dX1_value_23 : decode cX1_value 23 = .ok (.iconst 0, 1) := by decide +kernel
theorem dX1_value_24 : decode cX1_value 24 = .ok (.istore_n 3, 1) := by decide +kernel
theorem dX1_value_25 : decode cX1_value 25 = .ok (.iconst 0, 1) := by decide +kernel
theorem dX1_value_26 : decode cX1_value 26 = .ok (.istore 4, 2) := by decide +kernel
theorem dX1_value_28 : decode cX1_value 28 = .ok (.iload 4, 2) := by decide +kernel
theorem dX1_value_30 : decode cX1_value 30 = .ok (.aload_n 0, 1) := by decide +kernel
theorem dX1_value_31 : decode cX1_value 31 = .ok (.getfield 27, 3) := by decide +kernel
theorem dX1_value_34 : decode cX1_value 34 = .ok (.if_icmp .ge 202, 3) := by decide +kernel
theorem dX1_value_37 : decode cX1_value 37 = .ok (.iload_n 2, 1) := by decide +kernel
theorem dX1_value_38 : decode cX1_value 38 = .ok (.ifCond .lt 198, 3) := by decide +kernel
theorem dX1_value_41 : decode cX1_value 41 = .ok (.iload_n 2, 1) := by decide +kernel
theorem dX1_value_42 : decode cX1_value 42 = .ok (.aload_n 0, 1) := by decide +kernel
theorem dX1_value_43 : decode cX1_value 43 = .ok (.getfield 27, 3) := by decide +kernel
theorem dX1_value_46 : decode cX1_value 46 = .ok (.if_icmp .ge 190, 3) := by decide +kernel
theorem dX1_value_49 : decode cX1_value 49 = .ok (.aload_n 0, 1) := by decide +kernel
theorem dX1_value_50 : decode cX1_value 50 = .ok (.getfield 11, 3) := by decide +kernel
theorem dX1_value_53 : decode cX1_value 53 = .ok (.iload_n 2, 1) := by decide +kernel
theorem dX1_value_54 : decode cX1_value 54 = .ok (.iaload, 1) := by decide +kernel
theorem dX1_value_55 : decode cX1_value 55 = .ok (.istore 5, 2) := by decide +kernel
theorem dX1_value_57 : decode cX1_value 57 = .ok (.iload 5, 2) := by decide +kernel
theorem dX1_value_59 : decode cX1_value 59 = .ok (.bipush 7, 2) := by decide +kernel
theorem dX1_value_61 : decode cX1_value 61 = .ok (.if_icmp .ne 20, 3) := by decide +kernel
theorem dX1_value_64 : decode cX1_value 64 = .ok (.iload_n 3, 1) := by decide +kernel
theorem dX1_value_65 : decode cX1_value 65 = .ok (.ifCond .le 14, 3) := by decide +kernel
theorem dX1_value_68 : decode cX1_value 68 = .ok (.aload_n 0, 1) := by decide +kernel
theorem dX1_value_69 : decode cX1_value 69 = .ok (.getfield 21, 3) := by decide +kernel
theorem dX1_value_72 : decode cX1_value 72 = .ok (.iload_n 3, 1) := by decide +kernel
theorem dX1_value_73 : decode cX1_value 73 = .ok (.iconst 1, 1) := by decide +kernel
theorem dX1_value_74 : decode cX1_value 74 = .ok (.isub, 1) := by decide +kernel
theorem dX1_value_75 : decode cX1_value 75 = .ok (.iaload, 1) := by decide +kernel
theorem dX1_value_76 : decode cX1_value 76 = .ok (.goto 4, 3) := by decide +kernel
theorem dX1_value_79 : decode cX1_value 79 = .ok (.iconst 0, 1) := by decide +kernel
theorem dX1_value_80 : decode cX1_value 80 = .ok (.ireturn, 1) := by decide +kernel
theorem dX1_value_81 : decode cX1_value 81 = .ok (.iload 5, 2) := by decide +kernel
theorem dX1_value_83 : decode cX1_value 83 = .ok (.iconst 1, 1) := by decide +kernel
theorem dX1_value_84 : decode cX1_value 84 = .ok (.if_icmp .gt 50, 3) := by decide +kernel
theorem dX1_value_87 : decode cX1_value 87 = .ok (.iload_n 3, 1) := by decide +kernel
theorem dX1_value_88 : decode cX1_value 88 = .ok (.bipush 24, 2) := by decide +kernel
theorem dX1_value_90 : decode cX1_value 90 = .ok (.if_icmp .lt 5, 3) := by decide +kernel
theorem dX1_value_93 : decode cX1_value 93 = .ok (.iconst 0, 1) := by decide +kernel
theorem dX1_value_94 : decode cX1_value 94 = .ok (.ireturn, 1) := by decide +kernel
theorem dX1_value_95 : decode cX1_value 95 = .ok (.aload_n 0, 1) := by decide +kernel
theorem dX1_value_96 : decode cX1_value 96 = .ok (.getfield 21, 3) := by decide +kernel
theorem dX1_value_99 : decode cX1_value 99 = .ok (.iload_n 3, 1) := by decide +kernel
theorem dX1_value_100 : decode cX1_value 100 = .ok (.iload 5, 2) := by decide +kernel
theorem dX1_value_102 : decode cX1_value 102 = .ok (.ifCond .ne 12, 3) := by decide +kernel
theorem dX1_value_105 : decode cX1_value 105 = .ok (.aload_n 0, 1) := by decide +kernel
theorem dX1_value_106 : decode cX1_value 106 = .ok (.getfield 15, 3) := by decide +kernel
theorem dX1_value_109 : decode cX1_value 109 = .ok (.iload_n 2, 1) := by decide +kernel
theorem dX1_value_110 : decode cX1_value 110 = .ok (.iaload, 1) := by decide +kernel
theorem dX1_value_111 : decode cX1_value 111 = .ok (.goto 13, 3) := by decide +kernel
theorem dX1_value_114 : decode cX1_value 114 = .ok (.aload_n 0, 1) := by decide +kernel
theorem dX1_value_115 : decode cX1_value 115 = .ok (.aload_n 0, 1) := by decide +kernel
theorem dX1_value_116 : decode cX1_value 116 = .ok (.getfield 15, 3) := by decide +kernel
theorem dX1_value_119 : decode cX1_value 119 = .ok (.iload_n 2, 1) := by decide +kernel
theorem dX1_value_120 : decode cX1_value 120 = .ok (.iaload, 1) := by decide +kernel
theorem dX1_value_121 : decode cX1_value 121 = .ok (.invokevirtual 43, 3) := by decide +kernel
theorem dX1_value_124 : decode cX1_value 124 = .ok (.iastore, 1) := by decide +kernel
theorem dX1_value_125 : decode cX1_value 125 = .ok (.iinc 3 1, 3) := by decide +kernel
theorem dX1_value_128 : decode cX1_value 128 = .ok (.iinc 2 1, 3) := by decide +kernel
theorem dX1_value_131 : decode cX1_value 131 = .ok (.goto 99, 3) := by decide +kernel
theorem dX1_value_134 : decode cX1_value 134 = .ok (.iload_n 3, 1) := by decide +kernel
theorem dX1_value_135 : decode cX1_value 135 = .ok (.iconst 2, 1) := by decide +kernel
theorem dX1_value_136 : decode cX1_value 136 = .ok (.if_icmp .ge 5, 3) := by decide +kernel
theorem dX1_value_139 : decode cX1_value 139 = .ok (.iconst 0, 1) := by decide +kernel
theorem dX1_value_140 : decode cX1_value 140 = .ok (.ireturn, 1) := by decide +kernel
theorem dX1_value_141 : decode cX1_value 141 = .ok (.aload_n 0, 1) := by decide +kernel
theorem dX1_value_142 : decode cX1_value 142 = .ok (.getfield 21, 3) := by decide +kernel
theorem dX1_value_145 : decode cX1_value 145 = .ok (.iload_n 3, 1) := by decide +kernel
theorem dX1_value_146 : decode cX1_value 146 = .ok (.iconst 2, 1) := by decide +kernel
theorem dX1_value_147 : decode cX1_value 147 = .ok (.isub, 1) := by decide +kernel
theorem dX1_value_148 : decode cX1_value 148 = .ok (.iaload, 1) := by decide +kernel
theorem dX1_value_149 : decode cX1_value 149 = .ok (.istore 6, 2) := by decide +kernel
theorem dX1_value_151 : decode cX1_value 151 = .ok (.aload_n 0, 1) := by decide +kernel
theorem dX1_value_152 : decode cX1_value 152 = .ok (.getfield 21, 3) := by decide +kernel
theorem dX1_value_155 : decode cX1_value 155 = .ok (.iload_n 3, 1) := by decide +kernel
theorem dX1_value_156 : decode cX1_value 156 = .ok (.iconst 1, 1) := by decide +kernel
theorem dX1_value_157 : decode cX1_value 157 = .ok (.isub, 1) := by decide +kernel
theorem dX1_value_158 : decode cX1_value 158 = .ok (.iaload, 1) := by decide +kernel
theorem dX1_value_159 : decode cX1_value 159 = .ok (.istore 7, 2) := by decide +kernel
theorem dX1_value_161 : decode cX1_value 161 = .ok (.iload 5, 2) := by decide +kernel
theorem dX1_value_163 : decode cX1_value 163 = .ok (.bipush 6, 2) := by decide +kernel
theorem dX1_value_165 : decode cX1_value 165 = .ok (.if_icmp .ne 29, 3) := by decide +kernel
theorem dX1_value_168 : decode cX1_value 168 = .ok (.iinc 3 (-2), 3) := by decide +kernel
theorem dX1_value_171 : decode cX1_value 171 = .ok (.iload 6, 2) := by decide +kernel
theorem dX1_value_173 : decode cX1_value 173 = .ok (.iload 7, 2) := by decide +kernel
theorem dX1_value_175 : decode cX1_value 175 = .ok (.if_icmp .ge 9, 3) := by decide +kernel
theorem dX1_value_178 : decode cX1_value 178 = .ok (.iload_n 2, 1) := by decide +kernel
theorem dX1_value_179 : decode cX1_value 179 = .ok (.iconst 1, 1) := by decide +kernel
theorem dX1_value_180 : decode cX1_value 180 = .ok (.iadd, 1) := by decide +kernel
theorem dX1_value_181 : decode cX1_value 181 = .ok (.goto 9, 3) := by decide +kernel
theorem dX1_value_184 : decode cX1_value 184 = .ok (.aload_n 0, 1) := by decide +kernel
theorem dX1_value_185 : decode cX1_value 185 = .ok (.getfield 15, 3) := by decide +kernel
theorem dX1_value_188 : decode cX1_value 188 = .ok (.iload_n 2, 1) := by decide +kernel
theorem dX1_value_189 : decode cX1_value 189 = .ok (.iaload, 1) := by decide +kernel
theorem dX1_value_190 : decode cX1_value 190 = .ok (.istore_n 2, 1) := by decide +kernel
theorem dX1_value_191 : decode cX1_value 191 = .ok (.goto 39, 3) := by decide +kernel
theorem dX1_value_194 : decode cX1_value 194 = .ok (.iload 5, 2) := by decide +kernel
theorem dX1_value_196 : decode cX1_value 196 = .ok (.iconst 5, 1) := by decide +kernel
theorem dX1_value_197 : decode cX1_value 197 = .ok (.if_icmp .ne 10, 3) := by decide +kernel
theorem dX1_value_200 : decode cX1_value 200 = .ok (.iload 7, 2) := by decide +kernel
theorem dX1_value_202 : decode cX1_value 202 = .ok (.ifCond .ne 5, 3) := by decide +kernel
theorem dX1_value_205 : decode cX1_value 205 = .ok (.iconst 0, 1) := by decide +kernel
theorem dX1_value_206 : decode cX1_value 206 = .ok (.ireturn, 1) := by decide +kernel
theorem dX1_value_207 : decode cX1_value 207 = .ok (.iinc 3 (-1), 3) := by decide +kernel
theorem dX1_value_210 : decode cX1_value 210 = .ok (.aload_n 0, 1) := by decide +kernel
theorem dX1_value_211 : decode cX1_value 211 = .ok (.getfield 21, 3) := by decide +kernel
theorem dX1_value_214 : decode cX1_value 214 = .ok (.iload_n 3, 1) := by decide +kernel
theorem dX1_value_215 : decode cX1_value 215 = .ok (.iconst 1, 1) := by decide +kernel
theorem dX1_value_216 : decode cX1_value 216 = .ok (.isub, 1) := by decide +kernel
theorem dX1_value_217 : decode cX1_value 217 = .ok (.iload 5, 2) := by decide +kernel
theorem dX1_value_219 : decode cX1_value 219 = .ok (.iload 6, 2) := by decide +kernel
theorem dX1_value_221 : decode cX1_value 221 = .ok (.iload 7, 2) := by decide +kernel
theorem dX1_value_223 : decode cX1_value 223 = .ok (.invokestatic 47, 3) := by decide +kernel
theorem dX1_value_226 : decode cX1_value 226 = .ok (.iastore, 1) := by decide +kernel
theorem dX1_value_227 : decode cX1_value 227 = .ok (.iinc 2 1, 3) := by decide +kernel
theorem dX1_value_230 : decode cX1_value 230 = .ok (.iinc 4 1, 3) := by decide +kernel
theorem dX1_value_233 : decode cX1_value 233 = .ok (.goto (-205), 3) := by decide +kernel
theorem dX1_value_236 : decode cX1_value 236 = .ok (.iconst 0, 1) := by decide +kernel
theorem dX1_value_237 : decode cX1_value 237 = .ok (.ireturn, 1) := by decide +kernel
theorem dX1_varValue_0 : decode cX1_varValue 0 = .ok (.iload_n 1, 1) := by decide +kernel
theorem dX1_varValue_1 : decode cX1_varValue 1 = .ok (.ifCond .lt 18, 3) := by decide +kernel
theorem dX1_varValue_4 : decode cX1_varValue 4 = .ok (.iload_n 1, 1) := by decide +kernel
theorem dX1_varValue_5 : decode cX1_varValue 5 = .ok (.bipush 9, 2) := by decide +kernel
theorem dX1_varValue_7 : decode cX1_varValue 7 = .ok (.if_icmp .ge 12, 3) := by decide +kernel
theorem dX1_varValue_10 : decode cX1_varValue 10 = .ok (.aload_n 0, 1) := by decide +kernel
theorem dX1_varValue_11 : decode cX1_varValue 11 = .ok (.getfield 24, 3) := by decide +kernel
theorem dX1_varValue_14 : decode cX1_varValue 14 = .ok (.iload_n 1, 1) := by decide +kernel
theorem dX1_varValue_15 : decode cX1_varValue 15 = .ok (.iaload, 1) := by decide +kernel
theorem dX1_varValue_16 : decode cX1_varValue 16 = .ok (.goto 4, 3) := by decide +kernel
theorem dX1_varValue_19 : decode cX1_varValue 19 = .ok (.iconst 0, 1) := by decide +kernel
theorem dX1_varValue_20 : decode cX1_varValue 20 = .ok (.ireturn, 1) := by decide +kernel
theorem dX1_joined_0 : decode cX1_joined 0 = .ok (.iload_n 0, 1) := by decide +kernel
theorem dX1_joined_1 : decode cX1_joined 1 = .ok (.tableswitch 39 2 4 #[27, 31, 35], 27) := by decide +kernel
theorem dX1_joined_28 : decode cX1_joined 28 = .ok (.iload_n 1, 1) := by decide +kernel
theorem dX1_joined_29 : decode cX1_joined 29 = .ok (.iload_n 2, 1) := by decide +kernel
theorem dX1_joined_30 : decode cX1_joined 30 = .ok (.iadd, 1) := by decide +kernel
theorem dX1_joined_31 : decode cX1_joined 31 = .ok (.ireturn, 1) := by decide +kernel
theorem dX1_joined_32 : decode cX1_joined 32 = .ok (.iload_n 1, 1) := by decide +kernel
theorem dX1_joined_33 : decode cX1_joined 33 = .ok (.iload_n 2, 1) := by decide +kernel
theorem dX1_joined_34 : decode cX1_joined 34 = .ok (.isub, 1) := by decide +kernel
theorem dX1_joined_35 : decode cX1_joined 35 = .ok (.ireturn, 1) := by decide +kernel
theorem dX1_joined_36 : decode cX1_joined 36 = .ok (.iload_n 1, 1) := by decide +kernel
theorem dX1_joined_37 : decode cX1_joined 37 = .ok (.iload_n 2, 1) := by decide +kernel
theorem dX1_joined_38 : decode cX1_joined 38 = .ok (.imul, 1) := by decide +kernel
theorem dX1_joined_39 : decode cX1_joined 39 = .ok (.ireturn, 1) := by decide +kernel
theorem dX1_joined_40 : decode cX1_joined 40 = .ok (.iload_n 2, 1) := by decide +kernel
theorem dX1_joined_41 : decode cX1_joined 41 = .ok (.ifCond .ne 7, 3) := by decide +kernel
theorem dX1_joined_44 : decode cX1_joined 44 = .ok (.iconst 0, 1) := by decide +kernel
theorem dX1_joined_45 : decode cX1_joined 45 = .ok (.goto 6, 3) := by decide +kernel
theorem dX1_joined_48 : decode cX1_joined 48 = .ok (.iload_n 1, 1) := by decide +kernel
theorem dX1_joined_49 : decode cX1_joined 49 = .ok (.iload_n 2, 1) := by decide +kernel
theorem dX1_joined_50 : decode cX1_joined 50 = .ok (.idiv, 1) := by decide +kernel
theorem dX1_joined_51 : decode cX1_joined 51 = .ok (.ireturn, 1) := by decide +kernel
theorem dX2_init_0 : decode cX2_init 0 = .ok (.aload_n 0, 1) := by decide +kernel
theorem dX2_init_1 : decode cX2_init 1 = .ok (.invokespecial 3, 3) := by decide +kernel
theorem dX2_init_4 : decode cX2_init 4 = .ok (.aload_n 0, 1) := by decide +kernel
theorem dX2_init_5 : decode cX2_init 5 = .ok (.new 9, 3) := by decide +kernel
theorem dX2_init_8 : decode cX2_init 8 = .ok (.dup, 1) := by decide +kernel
theorem dX2_init_9 : decode cX2_init 9 = .ok (.invokespecial 11, 3) := by decide +kernel
theorem dX2_init_12 : decode cX2_init 12 = .ok (.putfield 12, 3) := by decide +kernel
theorem dX2_init_15 : decode cX2_init 15 = .ok (.aload_n 0, 1) := by decide +kernel
theorem dX2_init_16 : decode cX2_init 16 = .ok (.bipush 7, 2) := by decide +kernel
theorem dX2_init_18 : decode cX2_init 18 = .ok (.newarray .int, 2) := by decide +kernel
theorem dX2_init_20 : decode cX2_init 20 = .ok (.putfield 18, 3) := by decide +kernel
theorem dX2_init_23 : decode cX2_init 23 = .ok (.aload_n 0, 1) := by decide +kernel
theorem dX2_init_24 : decode cX2_init 24 = .ok (.bipush 7, 2) := by decide +kernel
theorem dX2_init_26 : decode cX2_init 26 = .ok (.newarray .int, 2) := by decide +kernel
theorem dX2_init_28 : decode cX2_init 28 = .ok (.putfield 22, 3) := by decide +kernel
theorem dX2_init_31 : decode cX2_init 31 = .ok (.aload_n 0, 1) := by decide +kernel
theorem dX2_init_32 : decode cX2_init 32 = .ok (.bipush 7, 2) := by decide +kernel
theorem dX2_init_34 : decode cX2_init 34 = .ok (.newarray .int, 2) := by decide +kernel
theorem dX2_init_36 : decode cX2_init 36 = .ok (.putfield 25, 3) := by decide +kernel
theorem dX2_init_39 : decode cX2_init 39 = .ok (.return_, 1) := by decide +kernel
theorem dX2_within_0 : decode cX2_within 0 = .ok (.iload_n 1, 1) := by decide +kernel
theorem dX2_within_1 : decode cX2_within 1 = .ok (.iload_n 2, 1) := by decide +kernel
theorem dX2_within_2 : decode cX2_within 2 = .ok (.iload_n 0, 1) := by decide +kernel
theorem dX2_within_3 : decode cX2_within 3 = .ok (.invokestatic 28, 3) := by decide +kernel
theorem dX2_within_6 : decode cX2_within 6 = .ok (.invokestatic 34, 3) := by decide +kernel
theorem dX2_within_9 : decode cX2_within 9 = .ok (.ireturn, 1) := by decide +kernel
theorem dX2_price_0 : decode cX2_price 0 = .ok (.aload_n 1, 1) := by decide +kernel
theorem dX2_price_1 : decode cX2_price 1 = .ok (.aload_n 2, 1) := by decide +kernel
theorem dX2_price_2 : decode cX2_price 2 = .ok (.aload_n 2, 1) := by decide +kernel
theorem dX2_price_3 : decode cX2_price 3 = .ok (.invokevirtual 37, 3) := by decide +kernel
theorem dX2_price_6 : decode cX2_price 6 = .ok (.invokestatic 41, 3) := by decide +kernel
theorem dX2_price_9 : decode cX2_price 9 = .ok (.astore_n 3, 1) := by decide +kernel
theorem dX2_price_10 : decode cX2_price 10 = .ok (.aload_n 3, 1) := by decide +kernel
theorem dX2_price_11 : decode cX2_price 11 = .ok (.bipush 7, 2) := by decide +kernel
theorem dX2_price_13 : decode cX2_price 13 = .ok (.aload_n 2, 1) := by decide +kernel
theorem dX2_price_14 : decode cX2_price 14 = .ok (.aload_n 2, 1) := by decide +kernel
theorem dX2_price_15 : decode cX2_price 15 = .ok (.getfield 47, 3) := by decide +kernel
theorem dX2_price_18 : decode cX2_price 18 = .ok (.invokevirtual 50, 3) := by decide +kernel
theorem dX2_price_21 : decode cX2_price 21 = .ok (.iastore, 1) := by decide +kernel
theorem dX2_price_22 : decode cX2_price 22 = .ok (.aload_n 1, 1) := by decide +kernel
theorem dX2_price_23 : decode cX2_price 23 = .ok (.getfield 54, 3) := by decide +kernel
theorem dX2_price_26 : decode cX2_price 26 = .ok (.iconst 0, 1) := by decide +kernel
theorem dX2_price_27 : decode cX2_price 27 = .ok (.invokevirtual 60, 3) := by decide +kernel
theorem dX2_price_30 : decode cX2_price 30 = .ok (.iconst 1, 1) := by decide +kernel
theorem dX2_price_31 : decode cX2_price 31 = .ok (.bipush 99, 2) := by decide +kernel
theorem dX2_price_33 : decode cX2_price 33 = .ok (.invokestatic 64, 3) := by decide +kernel
theorem dX2_price_36 : decode cX2_price 36 = .ok (.ireturn, 1) := by decide +kernel
theorem dX2_eaten_0 : decode cX2_eaten 0 = .ok (.aload_n 2, 1) := by decide +kernel
theorem dX2_eaten_1 : decode cX2_eaten 1 = .ok (.getfield 68, 3) := by decide +kernel
theorem dX2_eaten_4 : decode cX2_eaten 4 = .ok (.iload_n 3, 1) := by decide +kernel
theorem dX2_eaten_5 : decode cX2_eaten 5 = .ok (.iaload, 1) := by decide +kernel
theorem dX2_eaten_6 : decode cX2_eaten 6 = .ok (.istore 5, 2) := by decide +kernel
theorem dX2_eaten_8 : decode cX2_eaten 8 = .ok (.iload 5, 2) := by decide +kernel
theorem dX2_eaten_10 : decode cX2_eaten 10 = .ok (.ifCond .ne 5, 3) := by decide +kernel
theorem dX2_eaten_13 : decode cX2_eaten 13 = .ok (.iconst 0, 1) := by decide +kernel
theorem dX2_eaten_14 : decode cX2_eaten 14 = .ok (.ireturn, 1) := by decide +kernel
theorem dX2_eaten_15 : decode cX2_eaten 15 = .ok (.aload_n 1, 1) := by decide +kernel
theorem dX2_eaten_16 : decode cX2_eaten 16 = .ok (.aload_n 2, 1) := by decide +kernel
theorem dX2_eaten_17 : decode cX2_eaten 17 = .ok (.iload_n 3, 1) := by decide +kernel
theorem dX2_eaten_18 : decode cX2_eaten 18 = .ok (.iload 4, 2) := by decide +kernel
theorem dX2_eaten_20 : decode cX2_eaten 20 = .ok (.invokestatic 71, 3) := by decide +kernel
theorem dX2_eaten_23 : decode cX2_eaten 23 = .ok (.aload_n 1, 1) := by decide +kernel
theorem dX2_eaten_24 : decode cX2_eaten 24 = .ok (.getfield 54, 3) := by decide +kernel
theorem dX2_eaten_27 : decode cX2_eaten 27 = .ok (.iconst 1, 1) := by decide +kernel
theorem dX2_eaten_28 : decode cX2_eaten 28 = .ok (.invokevirtual 60, 3) := by decide +kernel
theorem dX2_eaten_31 : decode cX2_eaten 31 = .ok (.iconst 0, 1) := by decide +kernel
theorem dX2_eaten_32 : decode cX2_eaten 32 = .ok (.iload 5, 2) := by decide +kernel
theorem dX2_eaten_34 : decode cX2_eaten 34 = .ok (.invokestatic 64, 3) := by decide +kernel
theorem dX2_eaten_37 : decode cX2_eaten 37 = .ok (.ireturn, 1) := by decide +kernel
theorem dX2_rotten_0 : decode cX2_rotten 0 = .ok (.aload_n 2, 1) := by decide +kernel
theorem dX2_rotten_1 : decode cX2_rotten 1 = .ok (.iload_n 3, 1) := by decide +kernel
theorem dX2_rotten_2 : decode cX2_rotten 2 = .ok (.invokevirtual 75, 3) := by decide +kernel
theorem dX2_rotten_5 : decode cX2_rotten 5 = .ok (.istore 5, 2) := by decide +kernel
theorem dX2_rotten_7 : decode cX2_rotten 7 = .ok (.iload 5, 2) := by decide +kernel
theorem dX2_rotten_9 : decode cX2_rotten 9 = .ok (.ifCond .ne 5, 3) := by decide +kernel
theorem dX2_rotten_12 : decode cX2_rotten 12 = .ok (.iconst 0, 1) := by decide +kernel
theorem dX2_rotten_13 : decode cX2_rotten 13 = .ok (.ireturn, 1) := by decide +kernel
theorem dX2_rotten_14 : decode cX2_rotten 14 = .ok (.aload_n 1, 1) := by decide +kernel
theorem dX2_rotten_15 : decode cX2_rotten 15 = .ok (.aload_n 2, 1) := by decide +kernel
theorem dX2_rotten_16 : decode cX2_rotten 16 = .ok (.iload_n 3, 1) := by decide +kernel
theorem dX2_rotten_17 : decode cX2_rotten 17 = .ok (.iload 4, 2) := by decide +kernel
theorem dX2_rotten_19 : decode cX2_rotten 19 = .ok (.invokestatic 71, 3) := by decide +kernel
theorem dX2_rotten_22 : decode cX2_rotten 22 = .ok (.aload_n 1, 1) := by decide +kernel
theorem dX2_rotten_23 : decode cX2_rotten 23 = .ok (.getfield 54, 3) := by decide +kernel
theorem dX2_rotten_26 : decode cX2_rotten 26 = .ok (.iconst 4, 1) := by decide +kernel
theorem dX2_rotten_27 : decode cX2_rotten 27 = .ok (.invokevirtual 60, 3) := by decide +kernel
theorem dX2_rotten_30 : decode cX2_rotten 30 = .ok (.iconst 0, 1) := by decide +kernel
theorem dX2_rotten_31 : decode cX2_rotten 31 = .ok (.iload 5, 2) := by decide +kernel
theorem dX2_rotten_33 : decode cX2_rotten 33 = .ok (.invokestatic 64, 3) := by decide +kernel
theorem dX2_rotten_36 : decode cX2_rotten 36 = .ok (.ireturn, 1) := by decide +kernel
theorem dX2_caught_0 : decode cX2_caught 0 = .ok (.aload_n 1, 1) := by decide +kernel
theorem dX2_caught_1 : decode cX2_caught 1 = .ok (.aload_n 2, 1) := by decide +kernel
theorem dX2_caught_2 : decode cX2_caught 2 = .ok (.iload 4, 2) := by decide +kernel
theorem dX2_caught_4 : decode cX2_caught 4 = .ok (.invokestatic 41, 3) := by decide +kernel
theorem dX2_caught_7 : decode cX2_caught 7 = .ok (.astore 5, 2) := by decide +kernel
theorem dX2_caught_9 : decode cX2_caught 9 = .ok (.aload 5, 2) := by decide +kernel
theorem dX2_caught_11 : decode cX2_caught 11 = .ok (.iconst 0, 1) := by decide +kernel
theorem dX2_caught_12 : decode cX2_caught 12 = .ok (.aload_n 2, 1) := by decide +kernel
theorem dX2_caught_13 : decode cX2_caught 13 = .ok (.getfield 68, 3) := by decide +kernel
theorem dX2_caught_16 : decode cX2_caught 16 = .ok (.iload_n 3, 1) := by decide +kernel
theorem dX2_caught_17 : decode cX2_caught 17 = .ok (.iaload, 1) := by decide +kernel
theorem dX2_caught_18 : decode cX2_caught 18 = .ok (.iastore, 1) := by decide +kernel
theorem dX2_caught_19 : decode cX2_caught 19 = .ok (.aload 5, 2) := by decide +kernel
theorem dX2_caught_21 : decode cX2_caught 21 = .ok (.bipush 8, 2) := by decide +kernel
theorem dX2_caught_23 : decode cX2_caught 23 = .ok (.iload_n 3, 1) := by decide +kernel
theorem dX2_caught_24 : decode cX2_caught 24 = .ok (.iastore, 1) := by decide +kernel
theorem dX2_caught_25 : decode cX2_caught 25 = .ok (.aload_n 1, 1) := by decide +kernel
theorem dX2_caught_26 : decode cX2_caught 26 = .ok (.getfield 54, 3) := by decide +kernel
theorem dX2_caught_29 : decode cX2_caught 29 = .ok (.iconst 2, 1) := by decide +kernel
theorem dX2_caught_30 : decode cX2_caught 30 = .ok (.invokevirtual 60, 3) := by decide +kernel
theorem dX2_caught_33 : decode cX2_caught 33 = .ok (.iconst 0, 1) := by decide +kernel
theorem dX2_caught_34 : decode cX2_caught 34 = .ok (.bipush 99, 2) := by decide +kernel
theorem dX2_caught_36 : decode cX2_caught 36 = .ok (.invokestatic 64, 3) := by decide +kernel
theorem dX2_caught_39 : decode cX2_caught 39 = .ok (.ireturn, 1) := by decide +kernel
theorem dX2_votes_0 : decode cX2_votes 0 = .ok (.aload_n 1, 1) := by decide +kernel
theorem dX2_votes_1 : decode cX2_votes 1 = .ok (.aload_n 2, 1) := by decide +kernel
theorem dX2_votes_2 : decode cX2_votes 2 = .ok (.iload_n 3, 1) := by decide +kernel
theorem dX2_votes_3 : decode cX2_votes 3 = .ok (.iload 4, 2) := by decide +kernel
theorem dX2_votes_5 : decode cX2_votes 5 = .ok (.invokestatic 71, 3) := by decide +kernel
theorem dX2_votes_8 : decode cX2_votes 8 = .ok (.aload_n 1, 1) := by decide +kernel
theorem dX2_votes_9 : decode cX2_votes 9 = .ok (.getfield 54, 3) := by decide +kernel
theorem dX2_votes_12 : decode cX2_votes 12 = .ok (.iconst 3, 1) := by decide +kernel
theorem dX2_votes_13 : decode cX2_votes 13 = .ok (.invokevirtual 60, 3) := by decide +kernel
theorem dX2_votes_16 : decode cX2_votes 16 = .ok (.iconst 0, 1) := by decide +kernel
theorem dX2_votes_17 : decode cX2_votes 17 = .ok (.sipush 999, 3) := by decide +kernel
theorem dX2_votes_20 : decode cX2_votes 20 = .ok (.invokestatic 64, 3) := by decide +kernel
theorem dX2_votes_23 : decode cX2_votes 23 = .ok (.ireturn, 1) := by decide +kernel
theorem dX2_clearedVars_0 : decode cX2_clearedVars 0 = .ok (.aload_n 0, 1) := by decide +kernel
theorem dX2_clearedVars_1 : decode cX2_clearedVars 1 = .ok (.getfield 54, 3) := by decide +kernel
theorem dX2_clearedVars_4 : decode cX2_clearedVars 4 = .ok (.getfield 78, 3) := by decide +kernel
theorem dX2_clearedVars_7 : decode cX2_clearedVars 7 = .ok (.astore_n 3, 1) := by decide +kernel
theorem dX2_clearedVars_8 : decode cX2_clearedVars 8 = .ok (.iconst 0, 1) := by decide +kernel
theorem dX2_clearedVars_9 : decode cX2_clearedVars 9 = .ok (.istore 4, 2) := by decide +kernel
theorem dX2_clearedVars_11 : decode cX2_clearedVars 11 = .ok (.iload 4, 2) := by decide +kernel
theorem dX2_clearedVars_13 : decode cX2_clearedVars 13 = .ok (.bipush 9, 2) := by decide +kernel
theorem dX2_clearedVars_15 : decode cX2_clearedVars 15 = .ok (.if_icmp .ge 14, 3) := by decide +kernel
theorem dX2_clearedVars_18 : decode cX2_clearedVars 18 = .ok (.aload_n 3, 1) := by decide +kernel
theorem dX2_clearedVars_19 : decode cX2_clearedVars 19 = .ok (.iload 4, 2) := by decide +kernel
theorem dX2_clearedVars_21 : decode cX2_clearedVars 21 = .ok (.iconst 0, 1) := by decide +kernel
theorem dX2_clearedVars_22 : decode cX2_clearedVars 22 = .ok (.iastore, 1) := by decide +kernel
theorem dX2_clearedVars_23 : decode cX2_clearedVars 23 = .ok (.iinc 4 1, 3) := by decide +kernel
theorem dX2_clearedVars_26 : decode cX2_clearedVars 26 = .ok (.goto (-15), 3) := by decide +kernel
theorem dX2_clearedVars_29 : decode cX2_clearedVars 29 = .ok (.aload_n 3, 1) := by decide +kernel
theorem dX2_clearedVars_30 : decode cX2_clearedVars 30 = .ok (.iconst 1, 1) := by decide +kernel
theorem dX2_clearedVars_31 : decode cX2_clearedVars 31 = .ok (.iload_n 2, 1) := by decide +kernel
theorem dX2_clearedVars_32 : decode cX2_clearedVars 32 = .ok (.iastore, 1) := by decide +kernel
theorem dX2_clearedVars_33 : decode cX2_clearedVars 33 = .ok (.aload_n 3, 1) := by decide +kernel
theorem dX2_clearedVars_34 : decode cX2_clearedVars 34 = .ok (.iconst 2, 1) := by decide +kernel
theorem dX2_clearedVars_35 : decode cX2_clearedVars 35 = .ok (.aload_n 1, 1) := by decide +kernel
theorem dX2_clearedVars_36 : decode cX2_clearedVars 36 = .ok (.getfield 81, 3) := by decide +kernel
theorem dX2_clearedVars_39 : decode cX2_clearedVars 39 = .ok (.iastore, 1) := by decide +kernel
theorem dX2_clearedVars_40 : decode cX2_clearedVars 40 = .ok (.aload_n 3, 1) := by decide +kernel
theorem dX2_clearedVars_41 : decode cX2_clearedVars 41 = .ok (.areturn, 1) := by decide +kernel
theorem dX2_setVars_0 : decode cX2_setVars 0 = .ok (.aload_n 0, 1) := by decide +kernel
theorem dX2_setVars_1 : decode cX2_setVars 1 = .ok (.getfield 54, 3) := by decide +kernel
theorem dX2_setVars_4 : decode cX2_setVars 4 = .ok (.getfield 78, 3) := by decide +kernel
theorem dX2_setVars_7 : decode cX2_setVars 7 = .ok (.astore 4, 2) := by decide +kernel
theorem dX2_setVars_9 : decode cX2_setVars 9 = .ok (.aload 4, 2) := by decide +kernel
theorem dX2_setVars_11 : decode cX2_setVars 11 = .ok (.iconst 0, 1) := by decide +kernel
theorem dX2_setVars_12 : decode cX2_setVars 12 = .ok (.aload_n 1, 1) := by decide +kernel
theorem dX2_setVars_13 : decode cX2_setVars 13 = .ok (.getfield 68, 3) := by decide +kernel
theorem dX2_setVars_16 : decode cX2_setVars 16 = .ok (.iload_n 2, 1) := by decide +kernel
theorem dX2_setVars_17 : decode cX2_setVars 17 = .ok (.iaload, 1) := by decide +kernel
theorem dX2_setVars_18 : decode cX2_setVars 18 = .ok (.iastore, 1) := by decide +kernel
theorem dX2_setVars_19 : decode cX2_setVars 19 = .ok (.aload 4, 2) := by decide +kernel
theorem dX2_setVars_21 : decode cX2_setVars 21 = .ok (.iconst 1, 1) := by decide +kernel
theorem dX2_setVars_22 : decode cX2_setVars 22 = .ok (.iload_n 3, 1) := by decide +kernel
theorem dX2_setVars_23 : decode cX2_setVars 23 = .ok (.iastore, 1) := by decide +kernel
theorem dX2_setVars_24 : decode cX2_setVars 24 = .ok (.aload 4, 2) := by decide +kernel
theorem dX2_setVars_26 : decode cX2_setVars 26 = .ok (.iconst 2, 1) := by decide +kernel
theorem dX2_setVars_27 : decode cX2_setVars 27 = .ok (.aload_n 1, 1) := by decide +kernel
theorem dX2_setVars_28 : decode cX2_setVars 28 = .ok (.getfield 81, 3) := by decide +kernel
theorem dX2_setVars_31 : decode cX2_setVars 31 = .ok (.iastore, 1) := by decide +kernel
theorem dX2_setVars_32 : decode cX2_setVars 32 = .ok (.aload 4, 2) := by decide +kernel
theorem dX2_setVars_34 : decode cX2_setVars 34 = .ok (.iconst 3, 1) := by decide +kernel
theorem dX2_setVars_35 : decode cX2_setVars 35 = .ok (.aload_n 0, 1) := by decide +kernel
theorem dX2_setVars_36 : decode cX2_setVars 36 = .ok (.getfield 85, 3) := by decide +kernel
theorem dX2_setVars_39 : decode cX2_setVars 39 = .ok (.iload_n 2, 1) := by decide +kernel
theorem dX2_setVars_40 : decode cX2_setVars 40 = .ok (.iaload, 1) := by decide +kernel
theorem dX2_setVars_41 : decode cX2_setVars 41 = .ok (.iastore, 1) := by decide +kernel
theorem dX2_setVars_42 : decode cX2_setVars 42 = .ok (.aload 4, 2) := by decide +kernel
theorem dX2_setVars_44 : decode cX2_setVars 44 = .ok (.iconst 4, 1) := by decide +kernel
theorem dX2_setVars_45 : decode cX2_setVars 45 = .ok (.aload_n 1, 1) := by decide +kernel
theorem dX2_setVars_46 : decode cX2_setVars 46 = .ok (.getfield 88, 3) := by decide +kernel
theorem dX2_setVars_49 : decode cX2_setVars 49 = .ok (.iload_n 2, 1) := by decide +kernel
theorem dX2_setVars_50 : decode cX2_setVars 50 = .ok (.iaload, 1) := by decide +kernel
theorem dX2_setVars_51 : decode cX2_setVars 51 = .ok (.iastore, 1) := by decide +kernel
theorem dX2_setVars_52 : decode cX2_setVars 52 = .ok (.aload 4, 2) := by decide +kernel
theorem dX2_setVars_54 : decode cX2_setVars 54 = .ok (.iconst 5, 1) := by decide +kernel
theorem dX2_setVars_55 : decode cX2_setVars 55 = .ok (.aload_n 0, 1) := by decide +kernel
theorem dX2_setVars_56 : decode cX2_setVars 56 = .ok (.getfield 91, 3) := by decide +kernel
theorem dX2_setVars_59 : decode cX2_setVars 59 = .ok (.iload_n 2, 1) := by decide +kernel
theorem dX2_setVars_60 : decode cX2_setVars 60 = .ok (.iaload, 1) := by decide +kernel
theorem dX2_setVars_61 : decode cX2_setVars 61 = .ok (.iastore, 1) := by decide +kernel
theorem dX2_setVars_62 : decode cX2_setVars 62 = .ok (.aload 4, 2) := by decide +kernel
theorem dX2_setVars_64 : decode cX2_setVars 64 = .ok (.bipush 6, 2) := by decide +kernel
theorem dX2_setVars_66 : decode cX2_setVars 66 = .ok (.aload_n 1, 1) := by decide +kernel
theorem dX2_setVars_67 : decode cX2_setVars 67 = .ok (.getfield 94, 3) := by decide +kernel
theorem dX2_setVars_70 : decode cX2_setVars 70 = .ok (.iload_n 2, 1) := by decide +kernel
theorem dX2_setVars_71 : decode cX2_setVars 71 = .ok (.iaload, 1) := by decide +kernel
theorem dX2_setVars_72 : decode cX2_setVars 72 = .ok (.iastore, 1) := by decide +kernel
theorem dX2_setVars_73 : decode cX2_setVars 73 = .ok (.aload 4, 2) := by decide +kernel
theorem dX2_setVars_75 : decode cX2_setVars 75 = .ok (.bipush 7, 2) := by decide +kernel
theorem dX2_setVars_77 : decode cX2_setVars 77 = .ok (.aload_n 1, 1) := by decide +kernel
theorem dX2_setVars_78 : decode cX2_setVars 78 = .ok (.getfield 47, 3) := by decide +kernel
theorem dX2_setVars_81 : decode cX2_setVars 81 = .ok (.iload_n 2, 1) := by decide +kernel
theorem dX2_setVars_82 : decode cX2_setVars 82 = .ok (.iaload, 1) := by decide +kernel
theorem dX2_setVars_83 : decode cX2_setVars 83 = .ok (.iastore, 1) := by decide +kernel
theorem dX2_setVars_84 : decode cX2_setVars 84 = .ok (.aload 4, 2) := by decide +kernel
theorem dX2_setVars_86 : decode cX2_setVars 86 = .ok (.bipush 8, 2) := by decide +kernel
theorem dX2_setVars_88 : decode cX2_setVars 88 = .ok (.iload_n 2, 1) := by decide +kernel
theorem dX2_setVars_89 : decode cX2_setVars 89 = .ok (.iastore, 1) := by decide +kernel
theorem dX2_setVars_90 : decode cX2_setVars 90 = .ok (.return_, 1) := by decide +kernel
theorem dX2_isGlut_0 : decode cX2_isGlut 0 = .ok (.bipush 100, 2) := by decide +kernel
theorem dX2_isGlut_2 : decode cX2_isGlut 2 = .ok (.iload_n 3, 1) := by decide +kernel
theorem dX2_isGlut_3 : decode cX2_isGlut 3 = .ok (.iconst 4, 1) := by decide +kernel
theorem dX2_isGlut_4 : decode cX2_isGlut 4 = .ok (.iload_n 2, 1) := by decide +kernel
theorem dX2_isGlut_5 : decode cX2_isGlut 5 = .ok (.imul, 1) := by decide +kernel
theorem dX2_isGlut_6 : decode cX2_isGlut 6 = .ok (.invokestatic 97, 3) := by decide +kernel
theorem dX2_isGlut_9 : decode cX2_isGlut 9 = .ok (.aload_n 1, 1) := by decide +kernel
theorem dX2_isGlut_10 : decode cX2_isGlut 10 = .ok (.getfield 100, 3) := by decide +kernel
theorem dX2_isGlut_13 : decode cX2_isGlut 13 = .ok (.if_icmp .ge 7, 3) := by decide +kernel
theorem dX2_isGlut_16 : decode cX2_isGlut 16 = .ok (.iconst 1, 1) := by decide +kernel
theorem dX2_isGlut_17 : decode cX2_isGlut 17 = .ok (.goto 4, 3) := by decide +kernel
theorem dX2_isGlut_20 : decode cX2_isGlut 20 = .ok (.iconst 0, 1) := by decide +kernel
theorem dX2_isGlut_21 : decode cX2_isGlut 21 = .ok (.ireturn, 1) := by decide +kernel
theorem dX2_lot_0 : decode cX2_lot 0 = .ok (.iload_n 1, 1) := by decide +kernel
theorem dX2_lot_1 : decode cX2_lot 1 = .ok (.bipush 115, 2) := by decide +kernel
theorem dX2_lot_3 : decode cX2_lot 3 = .ok (.invokestatic 103, 3) := by decide +kernel
theorem dX2_lot_6 : decode cX2_lot 6 = .ok (.iload_n 2, 1) := by decide +kernel
theorem dX2_lot_7 : decode cX2_lot 7 = .ok (.invokestatic 103, 3) := by decide +kernel
theorem dX2_lot_10 : decode cX2_lot 10 = .ok (.istore_n 3, 1) := by decide +kernel
theorem dX2_lot_11 : decode cX2_lot 11 = .ok (.iload_n 0, 1) := by decide +kernel
theorem dX2_lot_12 : decode cX2_lot 12 = .ok (.iconst 1, 1) := by decide +kernel
theorem dX2_lot_13 : decode cX2_lot 13 = .ok (.if_icmp .ge 7, 3) := by decide +kernel
theorem dX2_lot_16 : decode cX2_lot 16 = .ok (.iconst 0, 1) := by decide +kernel
theorem dX2_lot_17 : decode cX2_lot 17 = .ok (.goto 8, 3) := by decide +kernel
theorem dX2_lot_20 : decode cX2_lot 20 = .ok (.iload_n 3, 1) := by decide +kernel
theorem dX2_lot_21 : decode cX2_lot 21 = .ok (.iconst 1, 1) := by decide +kernel
theorem dX2_lot_22 : decode cX2_lot 22 = .ok (.iushr, 1) := by decide +kernel
theorem dX2_lot_23 : decode cX2_lot 23 = .ok (.iload_n 0, 1) := by decide +kernel
theorem dX2_lot_24 : decode cX2_lot 24 = .ok (.irem, 1) := by decide +kernel
theorem dX2_lot_25 : decode cX2_lot 25 = .ok (.ireturn, 1) := by decide +kernel
theorem dX2_mixed_0 : decode cX2_mixed 0 = .ok (.iload_n 0, 1) := by decide +kernel
theorem dX2_mixed_1 : decode cX2_mixed 1 = .ok (.iload_n 1, 1) := by decide +kernel
theorem dX2_mixed_2 : decode cX2_mixed 2 = .ok (.ixor, 1) := by decide +kernel
theorem dX2_mixed_3 : decode cX2_mixed 3 = .ok (.ldc 106, 2) := by decide +kernel
theorem dX2_mixed_5 : decode cX2_mixed 5 = .ok (.imul, 1) := by decide +kernel
theorem dX2_mixed_6 : decode cX2_mixed 6 = .ok (.sipush 12345, 3) := by decide +kernel
theorem dX2_mixed_9 : decode cX2_mixed 9 = .ok (.iadd, 1) := by decide +kernel
theorem dX2_mixed_10 : decode cX2_mixed 10 = .ok (.istore_n 2, 1) := by decide +kernel
theorem dX2_mixed_11 : decode cX2_mixed 11 = .ok (.iload_n 2, 1) := by decide +kernel
theorem dX2_mixed_12 : decode cX2_mixed 12 = .ok (.iload_n 2, 1) := by decide +kernel
theorem dX2_mixed_13 : decode cX2_mixed 13 = .ok (.bipush 15, 2) := by decide +kernel
theorem dX2_mixed_15 : decode cX2_mixed 15 = .ok (.iushr, 1) := by decide +kernel
theorem dX2_mixed_16 : decode cX2_mixed 16 = .ok (.ixor, 1) := by decide +kernel
theorem dX2_mixed_17 : decode cX2_mixed 17 = .ok (.ireturn, 1) := by decide +kernel
theorem dX2_passMany_0 : decode cX2_passMany 0 = .ok (.iconst 0, 1) := by decide +kernel
theorem dX2_passMany_1 : decode cX2_passMany 1 = .ok (.istore 5, 2) := by decide +kernel
theorem dX2_passMany_3 : decode cX2_passMany 3 = .ok (.iload 5, 2) := by decide +kernel
theorem dX2_passMany_5 : decode cX2_passMany 5 = .ok (.iload_n 3, 1) := by decide +kernel
theorem dX2_passMany_6 : decode cX2_passMany 6 = .ok (.if_icmp .ge 17, 3) := by decide +kernel
theorem dX2_passMany_9 : decode cX2_passMany 9 = .ok (.aload_n 0, 1) := by decide +kernel
theorem dX2_passMany_10 : decode cX2_passMany 10 = .ok (.aload_n 1, 1) := by decide +kernel
theorem dX2_passMany_11 : decode cX2_passMany 11 = .ok (.aload_n 2, 1) := by decide +kernel
theorem dX2_passMany_12 : decode cX2_passMany 12 = .ok (.iload 4, 2) := by decide +kernel
theorem dX2_passMany_14 : decode cX2_passMany 14 = .ok (.invokevirtual 107, 3) := by decide +kernel
theorem dX2_passMany_17 : decode cX2_passMany 17 = .ok (.iinc 5 1, 3) := by decide +kernel
theorem dX2_passMany_20 : decode cX2_passMany 20 = .ok (.goto (-17), 3) := by decide +kernel
theorem dX2_passMany_23 : decode cX2_passMany 23 = .ok (.return_, 1) := by decide +kernel
theorem dX2_passOne_0 : decode cX2_passOne 0 = .ok (.aload_n 0, 1) := by decide +kernel
theorem dX2_passOne_1 : decode cX2_passOne 1 = .ok (.aload_n 1, 1) := by decide +kernel
theorem dX2_passOne_2 : decode cX2_passOne 2 = .ok (.aload_n 2, 1) := by decide +kernel
theorem dX2_passOne_3 : decode cX2_passOne 3 = .ok (.getfield 81, 3) := by decide +kernel
theorem dX2_passOne_6 : decode cX2_passOne 6 = .ok (.iload_n 3, 1) := by decide +kernel
theorem dX2_passOne_7 : decode cX2_passOne 7 = .ok (.invokevirtual 111, 3) := by decide +kernel
theorem dX2_passOne_10 : decode cX2_passOne 10 = .ok (.istore 4, 2) := by decide +kernel
theorem dX2_passOne_12 : decode cX2_passOne 12 = .ok (.aload_n 2, 1) := by decide +kernel
theorem dX2_passOne_13 : decode cX2_passOne 13 = .ok (.invokevirtual 37, 3) := by decide +kernel
theorem dX2_passOne_16 : decode cX2_passOne 16 = .ok (.istore 5, 2) := by decide +kernel
theorem dX2_passOne_18 : decode cX2_passOne 18 = .ok (.iconst 0, 1) := by decide +kernel
theorem dX2_passOne_19 : decode cX2_passOne 19 = .ok (.istore 6, 2) := by decide +kernel
theorem dX2_passOne_21 : decode cX2_passOne 21 = .ok (.iload 6, 2) := by decide +kernel
theorem dX2_passOne_23 : decode cX2_passOne 23 = .ok (.aload_n 1, 1) := by decide +kernel
theorem dX2_passOne_24 : decode cX2_passOne 24 = .ok (.getfield 115, 3) := by decide +kernel
theorem dX2_passOne_27 : decode cX2_passOne 27 = .ok (.if_icmp .ge 52, 3) := by decide +kernel
theorem dX2_passOne_30 : decode cX2_passOne 30 = .ok (.aload_n 0, 1) := by decide +kernel
theorem dX2_passOne_31 : decode cX2_passOne 31 = .ok (.getfield 18, 3) := by decide +kernel
theorem dX2_passOne_34 : decode cX2_passOne 34 = .ok (.iload 6, 2) := by decide +kernel
theorem dX2_passOne_36 : decode cX2_passOne 36 = .ok (.aload_n 0, 1) := by decide +kernel
theorem dX2_passOne_37 : decode cX2_passOne 37 = .ok (.aload_n 1, 1) := by decide +kernel
theorem dX2_passOne_38 : decode cX2_passOne 38 = .ok (.aload_n 2, 1) := by decide +kernel
theorem dX2_passOne_39 : decode cX2_passOne 39 = .ok (.iload 6, 2) := by decide +kernel
theorem dX2_passOne_41 : decode cX2_passOne 41 = .ok (.iload 5, 2) := by decide +kernel
theorem dX2_passOne_43 : decode cX2_passOne 43 = .ok (.invokevirtual 118, 3) := by decide +kernel
theorem dX2_passOne_46 : decode cX2_passOne 46 = .ok (.iastore, 1) := by decide +kernel
theorem dX2_passOne_47 : decode cX2_passOne 47 = .ok (.aload_n 0, 1) := by decide +kernel
theorem dX2_passOne_48 : decode cX2_passOne 48 = .ok (.getfield 22, 3) := by decide +kernel
theorem dX2_passOne_51 : decode cX2_passOne 51 = .ok (.iload 6, 2) := by decide +kernel
theorem dX2_passOne_53 : decode cX2_passOne 53 = .ok (.iload 4, 2) := by decide +kernel
theorem dX2_passOne_55 : decode cX2_passOne 55 = .ok (.ifCond .eq 16, 3) := by decide +kernel
theorem dX2_passOne_58 : decode cX2_passOne 58 = .ok (.aload_n 0, 1) := by decide +kernel
theorem dX2_passOne_59 : decode cX2_passOne 59 = .ok (.aload_n 1, 1) := by decide +kernel
theorem dX2_passOne_60 : decode cX2_passOne 60 = .ok (.aload_n 2, 1) := by decide +kernel
theorem dX2_passOne_61 : decode cX2_passOne 61 = .ok (.iload 6, 2) := by decide +kernel
theorem dX2_passOne_63 : decode cX2_passOne 63 = .ok (.iload 5, 2) := by decide +kernel
theorem dX2_passOne_65 : decode cX2_passOne 65 = .ok (.invokevirtual 122, 3) := by decide +kernel
theorem dX2_passOne_68 : decode cX2_passOne 68 = .ok (.goto 4, 3) := by decide +kernel
theorem dX2_passOne_71 : decode cX2_passOne 71 = .ok (.iconst 0, 1) := by decide +kernel
theorem dX2_passOne_72 : decode cX2_passOne 72 = .ok (.iastore, 1) := by decide +kernel
theorem dX2_passOne_73 : decode cX2_passOne 73 = .ok (.iinc 6 1, 3) := by decide +kernel
theorem dX2_passOne_76 : decode cX2_passOne 76 = .ok (.goto (-55), 3) := by decide +kernel
theorem dX2_passOne_79 : decode cX2_passOne 79 = .ok (.iconst 0, 1) := by decide +kernel
theorem dX2_passOne_80 : decode cX2_passOne 80 = .ok (.istore 6, 2) := by decide +kernel
theorem dX2_passOne_82 : decode cX2_passOne 82 = .ok (.iload 6, 2) := by decide +kernel
theorem dX2_passOne_84 : decode cX2_passOne 84 = .ok (.aload_n 1, 1) := by decide +kernel
theorem dX2_passOne_85 : decode cX2_passOne 85 = .ok (.getfield 115, 3) := by decide +kernel
theorem dX2_passOne_88 : decode cX2_passOne 88 = .ok (.if_icmp .ge 22, 3) := by decide +kernel
theorem dX2_passOne_91 : decode cX2_passOne 91 = .ok (.aload_n 2, 1) := by decide +kernel
theorem dX2_passOne_92 : decode cX2_passOne 92 = .ok (.iload 6, 2) := by decide +kernel
theorem dX2_passOne_94 : decode cX2_passOne 94 = .ok (.aload_n 0, 1) := by decide +kernel
theorem dX2_passOne_95 : decode cX2_passOne 95 = .ok (.getfield 18, 3) := by decide +kernel
theorem dX2_passOne_98 : decode cX2_passOne 98 = .ok (.iload 6, 2) := by decide +kernel
theorem dX2_passOne_100 : decode cX2_passOne 100 = .ok (.iaload, 1) := by decide +kernel
theorem dX2_passOne_101 : decode cX2_passOne 101 = .ok (.invokevirtual 125, 3) := by decide +kernel
theorem dX2_passOne_104 : decode cX2_passOne 104 = .ok (.iinc 6 1, 3) := by decide +kernel
theorem dX2_passOne_107 : decode cX2_passOne 107 = .ok (.goto (-25), 3) := by decide +kernel
theorem dX2_passOne_110 : decode cX2_passOne 110 = .ok (.aload_n 2, 1) := by decide +kernel
theorem dX2_passOne_111 : decode cX2_passOne 111 = .ok (.invokevirtual 37, 3) := by decide +kernel
theorem dX2_passOne_114 : decode cX2_passOne 114 = .ok (.istore 6, 2) := by decide +kernel
theorem dX2_passOne_116 : decode cX2_passOne 116 = .ok (.iconst 0, 1) := by decide +kernel
theorem dX2_passOne_117 : decode cX2_passOne 117 = .ok (.istore 7, 2) := by decide +kernel
theorem dX2_passOne_119 : decode cX2_passOne 119 = .ok (.iload 7, 2) := by decide +kernel
theorem dX2_passOne_121 : decode cX2_passOne 121 = .ok (.aload_n 1, 1) := by decide +kernel
theorem dX2_passOne_122 : decode cX2_passOne 122 = .ok (.getfield 115, 3) := by decide +kernel
theorem dX2_passOne_125 : decode cX2_passOne 125 = .ok (.if_icmp .ge 26, 3) := by decide +kernel
theorem dX2_passOne_128 : decode cX2_passOne 128 = .ok (.aload_n 0, 1) := by decide +kernel
theorem dX2_passOne_129 : decode cX2_passOne 129 = .ok (.getfield 25, 3) := by decide +kernel
theorem dX2_passOne_132 : decode cX2_passOne 132 = .ok (.iload 7, 2) := by decide +kernel
theorem dX2_passOne_134 : decode cX2_passOne 134 = .ok (.aload_n 0, 1) := by decide +kernel
theorem dX2_passOne_135 : decode cX2_passOne 135 = .ok (.aload_n 1, 1) := by decide +kernel
theorem dX2_passOne_136 : decode cX2_passOne 136 = .ok (.aload_n 2, 1) := by decide +kernel
theorem dX2_passOne_137 : decode cX2_passOne 137 = .ok (.iload 7, 2) := by decide +kernel
theorem dX2_passOne_139 : decode cX2_passOne 139 = .ok (.iload 6, 2) := by decide +kernel
theorem dX2_passOne_141 : decode cX2_passOne 141 = .ok (.invokevirtual 129, 3) := by decide +kernel
theorem dX2_passOne_144 : decode cX2_passOne 144 = .ok (.iastore, 1) := by decide +kernel
theorem dX2_passOne_145 : decode cX2_passOne 145 = .ok (.iinc 7 1, 3) := by decide +kernel
theorem dX2_passOne_148 : decode cX2_passOne 148 = .ok (.goto (-29), 3) := by decide +kernel
theorem dX2_passOne_151 : decode cX2_passOne 151 = .ok (.iconst 0, 1) := by decide +kernel
theorem dX2_passOne_152 : decode cX2_passOne 152 = .ok (.istore 7, 2) := by decide +kernel
theorem dX2_passOne_154 : decode cX2_passOne 154 = .ok (.iload 7, 2) := by decide +kernel
theorem dX2_passOne_156 : decode cX2_passOne 156 = .ok (.aload_n 1, 1) := by decide +kernel
theorem dX2_passOne_157 : decode cX2_passOne 157 = .ok (.getfield 115, 3) := by decide +kernel
theorem dX2_passOne_160 : decode cX2_passOne 160 = .ok (.if_icmp .ge 49, 3) := by decide +kernel
theorem dX2_passOne_163 : decode cX2_passOne 163 = .ok (.aload_n 2, 1) := by decide +kernel
theorem dX2_passOne_164 : decode cX2_passOne 164 = .ok (.getfield 68, 3) := by decide +kernel
theorem dX2_passOne_167 : decode cX2_passOne 167 = .ok (.iload 7, 2) := by decide +kernel
theorem dX2_passOne_169 : decode cX2_passOne 169 = .ok (.iaload, 1) := by decide +kernel
theorem dX2_passOne_170 : decode cX2_passOne 170 = .ok (.aload_n 0, 1) := by decide +kernel
theorem dX2_passOne_171 : decode cX2_passOne 171 = .ok (.getfield 25, 3) := by decide +kernel
theorem dX2_passOne_174 : decode cX2_passOne 174 = .ok (.iload 7, 2) := by decide +kernel
theorem dX2_passOne_176 : decode cX2_passOne 176 = .ok (.iaload, 1) := by decide +kernel
theorem dX2_passOne_177 : decode cX2_passOne 177 = .ok (.isub, 1) := by decide +kernel
theorem dX2_passOne_178 : decode cX2_passOne 178 = .ok (.istore 8, 2) := by decide +kernel
theorem dX2_passOne_180 : decode cX2_passOne 180 = .ok (.aload_n 2, 1) := by decide +kernel
theorem dX2_passOne_181 : decode cX2_passOne 181 = .ok (.getfield 68, 3) := by decide +kernel
theorem dX2_passOne_184 : decode cX2_passOne 184 = .ok (.iload 7, 2) := by decide +kernel
theorem dX2_passOne_186 : decode cX2_passOne 186 = .ok (.sipush 9999, 3) := by decide +kernel
theorem dX2_passOne_189 : decode cX2_passOne 189 = .ok (.iload 8, 2) := by decide +kernel
theorem dX2_passOne_191 : decode cX2_passOne 191 = .ok (.aload_n 0, 1) := by decide +kernel
theorem dX2_passOne_192 : decode cX2_passOne 192 = .ok (.getfield 22, 3) := by decide +kernel
theorem dX2_passOne_195 : decode cX2_passOne 195 = .ok (.iload 7, 2) := by decide +kernel
theorem dX2_passOne_197 : decode cX2_passOne 197 = .ok (.iaload, 1) := by decide +kernel
theorem dX2_passOne_198 : decode cX2_passOne 198 = .ok (.iadd, 1) := by decide +kernel
theorem dX2_passOne_199 : decode cX2_passOne 199 = .ok (.invokestatic 28, 3) := by decide +kernel
theorem dX2_passOne_202 : decode cX2_passOne 202 = .ok (.iastore, 1) := by decide +kernel
theorem dX2_passOne_203 : decode cX2_passOne 203 = .ok (.iinc 7 1, 3) := by decide +kernel
theorem dX2_passOne_206 : decode cX2_passOne 206 = .ok (.goto (-52), 3) := by decide +kernel
theorem dX2_passOne_209 : decode cX2_passOne 209 = .ok (.aload_n 2, 1) := by decide +kernel
theorem dX2_passOne_210 : decode cX2_passOne 210 = .ok (.dup, 1) := by decide +kernel
theorem dX2_passOne_211 : decode cX2_passOne 211 = .ok (.getfield 81, 3) := by decide +kernel
theorem dX2_passOne_214 : decode cX2_passOne 214 = .ok (.iconst 1, 1) := by decide +kernel
theorem dX2_passOne_215 : decode cX2_passOne 215 = .ok (.iadd, 1) := by decide +kernel
theorem dX2_passOne_216 : decode cX2_passOne 216 = .ok (.putfield 81, 3) := by decide +kernel
theorem dX2_passOne_219 : decode cX2_passOne 219 = .ok (.return_, 1) := by decide +kernel
theorem dX2_after_0 : decode cX2_after 0 = .ok (.aload_n 0, 1) := by decide +kernel
theorem dX2_after_1 : decode cX2_after 1 = .ok (.getfield 12, 3) := by decide +kernel
theorem dX2_after_4 : decode cX2_after 4 = .ok (.aload_n 2, 1) := by decide +kernel
theorem dX2_after_5 : decode cX2_after 5 = .ok (.invokevirtual 132, 3) := by decide +kernel
theorem dX2_after_8 : decode cX2_after 8 = .ok (.aload_n 0, 1) := by decide +kernel
theorem dX2_after_9 : decode cX2_after 9 = .ok (.aload_n 1, 1) := by decide +kernel
theorem dX2_after_10 : decode cX2_after 10 = .ok (.aload_n 0, 1) := by decide +kernel
theorem dX2_after_11 : decode cX2_after 11 = .ok (.getfield 12, 3) := by decide +kernel
theorem dX2_after_14 : decode cX2_after 14 = .ok (.iload_n 3, 1) := by decide +kernel
theorem dX2_after_15 : decode cX2_after 15 = .ok (.iload 4, 2) := by decide +kernel
theorem dX2_after_17 : decode cX2_after 17 = .ok (.invokevirtual 136, 3) := by decide +kernel
theorem dX2_after_20 : decode cX2_after 20 = .ok (.aload_n 0, 1) := by decide +kernel
theorem dX2_after_21 : decode cX2_after 21 = .ok (.getfield 12, 3) := by decide +kernel
theorem dX2_after_24 : decode cX2_after 24 = .ok (.areturn, 1) := by decide +kernel
theorem dX2_findBestSale_0 : decode cX2_findBestSale 0 = .ok (.aload_n 0, 1) := by decide +kernel
theorem dX2_findBestSale_1 : decode cX2_findBestSale 1 = .ok (.getfield 12, 3) := by decide +kernel
theorem dX2_findBestSale_4 : decode cX2_findBestSale 4 = .ok (.aload_n 2, 1) := by decide +kernel
theorem dX2_findBestSale_5 : decode cX2_findBestSale 5 = .ok (.invokevirtual 132, 3) := by decide +kernel
theorem dX2_findBestSale_8 : decode cX2_findBestSale 8 = .ok (.aload_n 0, 1) := by decide +kernel
theorem dX2_findBestSale_9 : decode cX2_findBestSale 9 = .ok (.iconst (-1), 1) := by decide +kernel
theorem dX2_findBestSale_10 : decode cX2_findBestSale 10 = .ok (.putfield 139, 3) := by decide +kernel
theorem dX2_findBestSale_13 : decode cX2_findBestSale 13 = .ok (.iconst 0, 1) := by decide +kernel
theorem dX2_findBestSale_14 : decode cX2_findBestSale 14 = .ok (.istore 5, 2) := by decide +kernel
theorem dX2_findBestSale_16 : decode cX2_findBestSale 16 = .ok (.iload 5, 2) := by decide +kernel
theorem dX2_findBestSale_18 : decode cX2_findBestSale 18 = .ok (.iload 4, 2) := by decide +kernel
theorem dX2_findBestSale_20 : decode cX2_findBestSale 20 = .ok (.if_icmp .gt 57, 3) := by decide +kernel
theorem dX2_findBestSale_23 : decode cX2_findBestSale 23 = .ok (.aload_n 0, 1) := by decide +kernel
theorem dX2_findBestSale_24 : decode cX2_findBestSale 24 = .ok (.aload_n 1, 1) := by decide +kernel
theorem dX2_findBestSale_25 : decode cX2_findBestSale 25 = .ok (.aload_n 0, 1) := by decide +kernel
theorem dX2_findBestSale_26 : decode cX2_findBestSale 26 = .ok (.getfield 12, 3) := by decide +kernel
theorem dX2_findBestSale_29 : decode cX2_findBestSale 29 = .ok (.iload 5, 2) := by decide +kernel
theorem dX2_findBestSale_31 : decode cX2_findBestSale 31 = .ok (.ifCond .ne 7, 3) := by decide +kernel
theorem dX2_findBestSale_34 : decode cX2_findBestSale 34 = .ok (.iconst 0, 1) := by decide +kernel
theorem dX2_findBestSale_35 : decode cX2_findBestSale 35 = .ok (.goto 4, 3) := by decide +kernel
theorem dX2_findBestSale_38 : decode cX2_findBestSale 38 = .ok (.iconst 1, 1) := by decide +kernel
theorem dX2_findBestSale_39 : decode cX2_findBestSale 39 = .ok (.aload_n 1, 1) := by decide +kernel
theorem dX2_findBestSale_40 : decode cX2_findBestSale 40 = .ok (.getfield 142, 3) := by decide +kernel
theorem dX2_findBestSale_43 : decode cX2_findBestSale 43 = .ok (.invokevirtual 136, 3) := by decide +kernel
theorem dX2_findBestSale_46 : decode cX2_findBestSale 46 = .ok (.aload_n 0, 1) := by decide +kernel
theorem dX2_findBestSale_47 : decode cX2_findBestSale 47 = .ok (.iload 5, 2) := by decide +kernel
theorem dX2_findBestSale_49 : decode cX2_findBestSale 49 = .ok (.aload_n 0, 1) := by decide +kernel
theorem dX2_findBestSale_50 : decode cX2_findBestSale 50 = .ok (.getfield 12, 3) := by decide +kernel
theorem dX2_findBestSale_53 : decode cX2_findBestSale 53 = .ok (.getfield 68, 3) := by decide +kernel
theorem dX2_findBestSale_56 : decode cX2_findBestSale 56 = .ok (.iload_n 3, 1) := by decide +kernel
theorem dX2_findBestSale_57 : decode cX2_findBestSale 57 = .ok (.iaload, 1) := by decide +kernel
theorem dX2_findBestSale_58 : decode cX2_findBestSale 58 = .ok (.aload_n 0, 1) := by decide +kernel
theorem dX2_findBestSale_59 : decode cX2_findBestSale 59 = .ok (.aload_n 1, 1) := by decide +kernel
theorem dX2_findBestSale_60 : decode cX2_findBestSale 60 = .ok (.aload_n 0, 1) := by decide +kernel
theorem dX2_findBestSale_61 : decode cX2_findBestSale 61 = .ok (.getfield 12, 3) := by decide +kernel
theorem dX2_findBestSale_64 : decode cX2_findBestSale 64 = .ok (.invokevirtual 145, 3) := by decide +kernel
theorem dX2_findBestSale_67 : decode cX2_findBestSale 67 = .ok (.imul, 1) := by decide +kernel
theorem dX2_findBestSale_68 : decode cX2_findBestSale 68 = .ok (.invokevirtual 149, 3) := by decide +kernel
theorem dX2_findBestSale_71 : decode cX2_findBestSale 71 = .ok (.iinc 5 1, 3) := by decide +kernel
theorem dX2_findBestSale_74 : decode cX2_findBestSale 74 = .ok (.goto (-58), 3) := by decide +kernel
theorem dX2_findBestSale_77 : decode cX2_findBestSale 77 = .ok (.return_, 1) := by decide +kernel
theorem dX2_findDearest_0 : decode cX2_findDearest 0 = .ok (.aload_n 0, 1) := by decide +kernel
theorem dX2_findDearest_1 : decode cX2_findDearest 1 = .ok (.getfield 12, 3) := by decide +kernel
theorem dX2_findDearest_4 : decode cX2_findDearest 4 = .ok (.aload_n 2, 1) := by decide +kernel
theorem dX2_findDearest_5 : decode cX2_findDearest 5 = .ok (.invokevirtual 132, 3) := by decide +kernel
theorem dX2_findDearest_8 : decode cX2_findDearest 8 = .ok (.aload_n 0, 1) := by decide +kernel
theorem dX2_findDearest_9 : decode cX2_findDearest 9 = .ok (.iconst (-1), 1) := by decide +kernel
theorem dX2_findDearest_10 : decode cX2_findDearest 10 = .ok (.putfield 139, 3) := by decide +kernel
theorem dX2_findDearest_13 : decode cX2_findDearest 13 = .ok (.iconst 0, 1) := by decide +kernel
theorem dX2_findDearest_14 : decode cX2_findDearest 14 = .ok (.istore 4, 2) := by decide +kernel
theorem dX2_findDearest_16 : decode cX2_findDearest 16 = .ok (.iload 4, 2) := by decide +kernel
theorem dX2_findDearest_18 : decode cX2_findDearest 18 = .ok (.iload_n 3, 1) := by decide +kernel
theorem dX2_findDearest_19 : decode cX2_findDearest 19 = .ok (.if_icmp .gt 47, 3) := by decide +kernel
theorem dX2_findDearest_22 : decode cX2_findDearest 22 = .ok (.aload_n 0, 1) := by decide +kernel
theorem dX2_findDearest_23 : decode cX2_findDearest 23 = .ok (.aload_n 1, 1) := by decide +kernel
theorem dX2_findDearest_24 : decode cX2_findDearest 24 = .ok (.aload_n 0, 1) := by decide +kernel
theorem dX2_findDearest_25 : decode cX2_findDearest 25 = .ok (.getfield 12, 3) := by decide +kernel
theorem dX2_findDearest_28 : decode cX2_findDearest 28 = .ok (.iload 4, 2) := by decide +kernel
theorem dX2_findDearest_30 : decode cX2_findDearest 30 = .ok (.ifCond .ne 7, 3) := by decide +kernel
theorem dX2_findDearest_33 : decode cX2_findDearest 33 = .ok (.iconst 0, 1) := by decide +kernel
theorem dX2_findDearest_34 : decode cX2_findDearest 34 = .ok (.goto 4, 3) := by decide +kernel
theorem dX2_findDearest_37 : decode cX2_findDearest 37 = .ok (.iconst 1, 1) := by decide +kernel
theorem dX2_findDearest_38 : decode cX2_findDearest 38 = .ok (.aload_n 1, 1) := by decide +kernel
theorem dX2_findDearest_39 : decode cX2_findDearest 39 = .ok (.getfield 142, 3) := by decide +kernel
theorem dX2_findDearest_42 : decode cX2_findDearest 42 = .ok (.invokevirtual 136, 3) := by decide +kernel
theorem dX2_findDearest_45 : decode cX2_findDearest 45 = .ok (.aload_n 0, 1) := by decide +kernel
theorem dX2_findDearest_46 : decode cX2_findDearest 46 = .ok (.iload 4, 2) := by decide +kernel
theorem dX2_findDearest_48 : decode cX2_findDearest 48 = .ok (.aload_n 0, 1) := by decide +kernel
theorem dX2_findDearest_49 : decode cX2_findDearest 49 = .ok (.aload_n 1, 1) := by decide +kernel
theorem dX2_findDearest_50 : decode cX2_findDearest 50 = .ok (.aload_n 0, 1) := by decide +kernel
theorem dX2_findDearest_51 : decode cX2_findDearest 51 = .ok (.getfield 12, 3) := by decide +kernel
theorem dX2_findDearest_54 : decode cX2_findDearest 54 = .ok (.invokevirtual 145, 3) := by decide +kernel
theorem dX2_findDearest_57 : decode cX2_findDearest 57 = .ok (.invokevirtual 149, 3) := by decide +kernel
theorem dX2_findDearest_60 : decode cX2_findDearest 60 = .ok (.iinc 4 1, 3) := by decide +kernel
theorem dX2_findDearest_63 : decode cX2_findDearest 63 = .ok (.goto (-47), 3) := by decide +kernel
theorem dX2_findDearest_66 : decode cX2_findDearest 66 = .ok (.return_, 1) := by decide +kernel
theorem dX2_weigh_0 : decode cX2_weigh 0 = .ok (.iload_n 2, 1) := by decide +kernel
theorem dX2_weigh_1 : decode cX2_weigh 1 = .ok (.aload_n 0, 1) := by decide +kernel
theorem dX2_weigh_2 : decode cX2_weigh 2 = .ok (.getfield 139, 3) := by decide +kernel
theorem dX2_weigh_5 : decode cX2_weigh 5 = .ok (.if_icmp .le 13, 3) := by decide +kernel
theorem dX2_weigh_8 : decode cX2_weigh 8 = .ok (.aload_n 0, 1) := by decide +kernel
theorem dX2_weigh_9 : decode cX2_weigh 9 = .ok (.iload_n 2, 1) := by decide +kernel
theorem dX2_weigh_10 : decode cX2_weigh 10 = .ok (.putfield 139, 3) := by decide +kernel
theorem dX2_weigh_13 : decode cX2_weigh 13 = .ok (.aload_n 0, 1) := by decide +kernel
theorem dX2_weigh_14 : decode cX2_weigh 14 = .ok (.iload_n 1, 1) := by decide +kernel
theorem dX2_weigh_15 : decode cX2_weigh 15 = .ok (.putfield 152, 3) := by decide +kernel
theorem dX2_weigh_18 : decode cX2_weigh 18 = .ok (.return_, 1) := by decide +kernel
theorem dX2_leastSalting_0 : decode cX2_leastSalting 0 = .ok (.aload_n 2, 1) := by decide +kernel
theorem dX2_leastSalting_1 : decode cX2_leastSalting 1 = .ok (.iload_n 3, 1) := by decide +kernel
theorem dX2_leastSalting_2 : decode cX2_leastSalting 2 = .ok (.invokevirtual 75, 3) := by decide +kernel
theorem dX2_leastSalting_5 : decode cX2_leastSalting 5 = .ok (.istore 5, 2) := by decide +kernel
theorem dX2_leastSalting_7 : decode cX2_leastSalting 7 = .ok (.aload_n 0, 1) := by decide +kernel
theorem dX2_leastSalting_8 : decode cX2_leastSalting 8 = .ok (.aload_n 1, 1) := by decide +kernel
theorem dX2_leastSalting_9 : decode cX2_leastSalting 9 = .ok (.aload_n 2, 1) := by decide +kernel
theorem dX2_leastSalting_10 : decode cX2_leastSalting 10 = .ok (.iload_n 3, 1) := by decide +kernel
theorem dX2_leastSalting_11 : decode cX2_leastSalting 11 = .ok (.iload 4, 2) := by decide +kernel
theorem dX2_leastSalting_13 : decode cX2_leastSalting 13 = .ok (.iload 5, 2) := by decide +kernel
theorem dX2_leastSalting_15 : decode cX2_leastSalting 15 = .ok (.invokevirtual 155, 3) := by decide +kernel
theorem dX2_leastSalting_18 : decode cX2_leastSalting 18 = .ok (.istore 6, 2) := by decide +kernel
theorem dX2_leastSalting_20 : decode cX2_leastSalting 20 = .ok (.iload 5, 2) := by decide +kernel
theorem dX2_leastSalting_22 : decode cX2_leastSalting 22 = .ok (.bipush 99, 2) := by decide +kernel
theorem dX2_leastSalting_24 : decode cX2_leastSalting 24 = .ok (.invokestatic 28, 3) := by decide +kernel
theorem dX2_leastSalting_27 : decode cX2_leastSalting 27 = .ok (.istore 7, 2) := by decide +kernel
theorem dX2_leastSalting_29 : decode cX2_leastSalting 29 = .ok (.iconst 0, 1) := by decide +kernel
theorem dX2_leastSalting_30 : decode cX2_leastSalting 30 = .ok (.istore 8, 2) := by decide +kernel
theorem dX2_leastSalting_32 : decode cX2_leastSalting 32 = .ok (.iload 8, 2) := by decide +kernel
theorem dX2_leastSalting_34 : decode cX2_leastSalting 34 = .ok (.iload 7, 2) := by decide +kernel
theorem dX2_leastSalting_36 : decode cX2_leastSalting 36 = .ok (.if_icmp .gt 28, 3) := by decide +kernel
theorem dX2_leastSalting_39 : decode cX2_leastSalting 39 = .ok (.aload_n 0, 1) := by decide +kernel
theorem dX2_leastSalting_40 : decode cX2_leastSalting 40 = .ok (.aload_n 1, 1) := by decide +kernel
theorem dX2_leastSalting_41 : decode cX2_leastSalting 41 = .ok (.aload_n 2, 1) := by decide +kernel
theorem dX2_leastSalting_42 : decode cX2_leastSalting 42 = .ok (.iload_n 3, 1) := by decide +kernel
theorem dX2_leastSalting_43 : decode cX2_leastSalting 43 = .ok (.iload 4, 2) := by decide +kernel
theorem dX2_leastSalting_45 : decode cX2_leastSalting 45 = .ok (.iload 8, 2) := by decide +kernel
theorem dX2_leastSalting_47 : decode cX2_leastSalting 47 = .ok (.invokevirtual 155, 3) := by decide +kernel
theorem dX2_leastSalting_50 : decode cX2_leastSalting 50 = .ok (.iload 6, 2) := by decide +kernel
theorem dX2_leastSalting_52 : decode cX2_leastSalting 52 = .ok (.if_icmp .lt 6, 3) := by decide +kernel
theorem dX2_leastSalting_55 : decode cX2_leastSalting 55 = .ok (.iload 8, 2) := by decide +kernel
theorem dX2_leastSalting_57 : decode cX2_leastSalting 57 = .ok (.ireturn, 1) := by decide +kernel
theorem dX2_leastSalting_58 : decode cX2_leastSalting 58 = .ok (.iinc 8 1, 3) := by decide +kernel
theorem dX2_leastSalting_61 : decode cX2_leastSalting 61 = .ok (.goto (-29), 3) := by decide +kernel
theorem dX2_leastSalting_64 : decode cX2_leastSalting 64 = .ok (.bipush (-2), 2) := by decide +kernel
theorem dX2_leastSalting_66 : decode cX2_leastSalting 66 = .ok (.ireturn, 1) := by decide +kernel
theorem dX2_fishIfSalted_0 : decode cX2_fishIfSalted 0 = .ok (.aload_n 0, 1) := by decide +kernel
theorem dX2_fishIfSalted_1 : decode cX2_fishIfSalted 1 = .ok (.getfield 12, 3) := by decide +kernel
theorem dX2_fishIfSalted_4 : decode cX2_fishIfSalted 4 = .ok (.aload_n 2, 1) := by decide +kernel
theorem dX2_fishIfSalted_5 : decode cX2_fishIfSalted 5 = .ok (.invokevirtual 132, 3) := by decide +kernel
theorem dX2_fishIfSalted_8 : decode cX2_fishIfSalted 8 = .ok (.aload_n 0, 1) := by decide +kernel
theorem dX2_fishIfSalted_9 : decode cX2_fishIfSalted 9 = .ok (.getfield 12, 3) := by decide +kernel
theorem dX2_fishIfSalted_12 : decode cX2_fishIfSalted 12 = .ok (.getfield 94, 3) := by decide +kernel
theorem dX2_fishIfSalted_15 : decode cX2_fishIfSalted 15 = .ok (.iload_n 3, 1) := by decide +kernel
theorem dX2_fishIfSalted_16 : decode cX2_fishIfSalted 16 = .ok (.dup2, 1) := by decide +kernel
theorem dX2_fishIfSalted_17 : decode cX2_fishIfSalted 17 = .ok (.iaload, 1) := by decide +kernel
theorem dX2_fishIfSalted_18 : decode cX2_fishIfSalted 18 = .ok (.iload 5, 2) := by decide +kernel
theorem dX2_fishIfSalted_20 : decode cX2_fishIfSalted 20 = .ok (.iadd, 1) := by decide +kernel
theorem dX2_fishIfSalted_21 : decode cX2_fishIfSalted 21 = .ok (.iastore, 1) := by decide +kernel
theorem dX2_fishIfSalted_22 : decode cX2_fishIfSalted 22 = .ok (.aload_n 0, 1) := by decide +kernel
theorem dX2_fishIfSalted_23 : decode cX2_fishIfSalted 23 = .ok (.aload_n 1, 1) := by decide +kernel
theorem dX2_fishIfSalted_24 : decode cX2_fishIfSalted 24 = .ok (.aload_n 0, 1) := by decide +kernel
theorem dX2_fishIfSalted_25 : decode cX2_fishIfSalted 25 = .ok (.getfield 12, 3) := by decide +kernel
theorem dX2_fishIfSalted_28 : decode cX2_fishIfSalted 28 = .ok (.iload 4, 2) := by decide +kernel
theorem dX2_fishIfSalted_30 : decode cX2_fishIfSalted 30 = .ok (.aload_n 1, 1) := by decide +kernel
theorem dX2_fishIfSalted_31 : decode cX2_fishIfSalted 31 = .ok (.getfield 142, 3) := by decide +kernel
theorem dX2_fishIfSalted_34 : decode cX2_fishIfSalted 34 = .ok (.invokevirtual 136, 3) := by decide +kernel
theorem dX2_fishIfSalted_37 : decode cX2_fishIfSalted 37 = .ok (.aload_n 0, 1) := by decide +kernel
theorem dX2_fishIfSalted_38 : decode cX2_fishIfSalted 38 = .ok (.getfield 12, 3) := by decide +kernel
theorem dX2_fishIfSalted_41 : decode cX2_fishIfSalted 41 = .ok (.getfield 68, 3) := by decide +kernel
theorem dX2_fishIfSalted_44 : decode cX2_fishIfSalted 44 = .ok (.iload_n 3, 1) := by decide +kernel
theorem dX2_fishIfSalted_45 : decode cX2_fishIfSalted 45 = .ok (.iaload, 1) := by decide +kernel
theorem dX2_fishIfSalted_46 : decode cX2_fishIfSalted 46 = .ok (.ireturn, 1) := by decide +kernel
theorem dX3_init_0 : decode cX3_init 0 = .ok (.aload_n 0, 1) := by decide +kernel
theorem dX3_init_1 : decode cX3_init 1 = .ok (.invokespecial 3, 3) := by decide +kernel
theorem dX3_init_4 : decode cX3_init 4 = .ok (.aload_n 0, 1) := by decide +kernel
theorem dX3_init_5 : decode cX3_init 5 = .ok (.bipush 20, 2) := by decide +kernel
theorem dX3_init_7 : decode cX3_init 7 = .ok (.newarray .int, 2) := by decide +kernel
theorem dX3_init_9 : decode cX3_init 9 = .ok (.putfield 9, 3) := by decide +kernel
theorem dX3_init_12 : decode cX3_init 12 = .ok (.aload_n 0, 1) := by decide +kernel
theorem dX3_init_13 : decode cX3_init 13 = .ok (.bipush 20, 2) := by decide +kernel
theorem dX3_init_15 : decode cX3_init 15 = .ok (.newarray .boolean, 2) := by decide +kernel
theorem dX3_init_17 : decode cX3_init 17 = .ok (.putfield 15, 3) := by decide +kernel
theorem dX3_init_20 : decode cX3_init 20 = .ok (.return_, 1) := by decide +kernel
theorem dX3_eaters_0 : decode cX3_eaters 0 = .ok (.iconst 1, 1) := by decide +kernel
theorem dX3_eaters_1 : decode cX3_eaters 1 = .ok (.iload_n 2, 1) := by decide +kernel
theorem dX3_eaters_2 : decode cX3_eaters 2 = .ok (.ishl, 1) := by decide +kernel
theorem dX3_eaters_3 : decode cX3_eaters 3 = .ok (.istore 4, 2) := by decide +kernel
theorem dX3_eaters_5 : decode cX3_eaters 5 = .ok (.iconst 0, 1) := by decide +kernel
theorem dX3_eaters_6 : decode cX3_eaters 6 = .ok (.istore 5, 2) := by decide +kernel
theorem dX3_eaters_8 : decode cX3_eaters 8 = .ok (.iload 5, 2) := by decide +kernel
theorem dX3_eaters_10 : decode cX3_eaters 10 = .ok (.aload_n 1, 1) := by decide +kernel
theorem dX3_eaters_11 : decode cX3_eaters 11 = .ok (.getfield 19, 3) := by decide +kernel
theorem dX3_eaters_14 : decode cX3_eaters 14 = .ok (.if_icmp .ge 80, 3) := by decide +kernel
theorem dX3_eaters_17 : decode cX3_eaters 17 = .ok (.iconst 0, 1) := by decide +kernel
theorem dX3_eaters_18 : decode cX3_eaters 18 = .ok (.istore 6, 2) := by decide +kernel
theorem dX3_eaters_20 : decode cX3_eaters 20 = .ok (.iload 6, 2) := by decide +kernel
theorem dX3_eaters_22 : decode cX3_eaters 22 = .ok (.aload_n 1, 1) := by decide +kernel
theorem dX3_eaters_23 : decode cX3_eaters 23 = .ok (.getfield 19, 3) := by decide +kernel
theorem dX3_eaters_26 : decode cX3_eaters 26 = .ok (.if_icmp .ge 62, 3) := by decide +kernel
theorem dX3_eaters_29 : decode cX3_eaters 29 = .ok (.iload_n 3, 1) := by decide +kernel
theorem dX3_eaters_30 : decode cX3_eaters 30 = .ok (.iload 6, 2) := by decide +kernel
theorem dX3_eaters_32 : decode cX3_eaters 32 = .ok (.ishr, 1) := by decide +kernel
theorem dX3_eaters_33 : decode cX3_eaters 33 = .ok (.iconst 1, 1) := by decide +kernel
theorem dX3_eaters_34 : decode cX3_eaters 34 = .ok (.iand, 1) := by decide +kernel
theorem dX3_eaters_35 : decode cX3_eaters 35 = .ok (.ifCond .ne 7, 3) := by decide +kernel
theorem dX3_eaters_38 : decode cX3_eaters 38 = .ok (.iconst 1, 1) := by decide +kernel
theorem dX3_eaters_39 : decode cX3_eaters 39 = .ok (.goto 4, 3) := by decide +kernel
theorem dX3_eaters_42 : decode cX3_eaters 42 = .ok (.iconst 0, 1) := by decide +kernel
theorem dX3_eaters_43 : decode cX3_eaters 43 = .ok (.istore 7, 2) := by decide +kernel
theorem dX3_eaters_45 : decode cX3_eaters 45 = .ok (.iload 7, 2) := by decide +kernel
theorem dX3_eaters_47 : decode cX3_eaters 47 = .ok (.ifCond .eq 35, 3) := by decide +kernel
theorem dX3_eaters_50 : decode cX3_eaters 50 = .ok (.aload_n 1, 1) := by decide +kernel
theorem dX3_eaters_51 : decode cX3_eaters 51 = .ok (.getfield 25, 3) := by decide +kernel
theorem dX3_eaters_54 : decode cX3_eaters 54 = .ok (.iload 6, 2) := by decide +kernel
theorem dX3_eaters_56 : decode cX3_eaters 56 = .ok (.iaload, 1) := by decide +kernel
theorem dX3_eaters_57 : decode cX3_eaters 57 = .ok (.iload 4, 2) := by decide +kernel
theorem dX3_eaters_59 : decode cX3_eaters 59 = .ok (.iand, 1) := by decide +kernel
theorem dX3_eaters_60 : decode cX3_eaters 60 = .ok (.invokestatic 28, 3) := by decide +kernel
theorem dX3_eaters_63 : decode cX3_eaters 63 = .ok (.aload_n 1, 1) := by decide +kernel
theorem dX3_eaters_64 : decode cX3_eaters 64 = .ok (.getfield 34, 3) := by decide +kernel
theorem dX3_eaters_67 : decode cX3_eaters 67 = .ok (.iload 6, 2) := by decide +kernel
theorem dX3_eaters_69 : decode cX3_eaters 69 = .ok (.iaload, 1) := by decide +kernel
theorem dX3_eaters_70 : decode cX3_eaters 70 = .ok (.if_icmp .lt 12, 3) := by decide +kernel
theorem dX3_eaters_73 : decode cX3_eaters 73 = .ok (.iload 4, 2) := by decide +kernel
theorem dX3_eaters_75 : decode cX3_eaters 75 = .ok (.iconst 1, 1) := by decide +kernel
theorem dX3_eaters_76 : decode cX3_eaters 76 = .ok (.iload 6, 2) := by decide +kernel
theorem dX3_eaters_78 : decode cX3_eaters 78 = .ok (.ishl, 1) := by decide +kernel
theorem dX3_eaters_79 : decode cX3_eaters 79 = .ok (.ior, 1) := by decide +kernel
theorem dX3_eaters_80 : decode cX3_eaters 80 = .ok (.istore 4, 2) := by decide +kernel
theorem dX3_eaters_82 : decode cX3_eaters 82 = .ok (.iinc 6 1, 3) := by decide +kernel
theorem dX3_eaters_85 : decode cX3_eaters 85 = .ok (.goto (-65), 3) := by decide +kernel
theorem dX3_eaters_88 : decode cX3_eaters 88 = .ok (.iinc 5 1, 3) := by decide +kernel
theorem dX3_eaters_91 : decode cX3_eaters 91 = .ok (.goto (-83), 3) := by decide +kernel
theorem dX3_eaters_94 : decode cX3_eaters 94 = .ok (.iload 4, 2) := by decide +kernel
theorem dX3_eaters_96 : decode cX3_eaters 96 = .ok (.ireturn, 1) := by decide +kernel
theorem dX3_eatsIn_0 : decode cX3_eatsIn 0 = .ok (.aload_n 0, 1) := by decide +kernel
theorem dX3_eatsIn_1 : decode cX3_eatsIn 1 = .ok (.aload_n 1, 1) := by decide +kernel
theorem dX3_eatsIn_2 : decode cX3_eatsIn 2 = .ok (.iload_n 2, 1) := by decide +kernel
theorem dX3_eatsIn_3 : decode cX3_eatsIn 3 = .ok (.iload_n 3, 1) := by decide +kernel
theorem dX3_eatsIn_4 : decode cX3_eatsIn 4 = .ok (.invokevirtual 37, 3) := by decide +kernel
theorem dX3_eatsIn_7 : decode cX3_eatsIn 7 = .ok (.iload 4, 2) := by decide +kernel
theorem dX3_eatsIn_9 : decode cX3_eatsIn 9 = .ok (.ishr, 1) := by decide +kernel
theorem dX3_eatsIn_10 : decode cX3_eatsIn 10 = .ok (.iconst 1, 1) := by decide +kernel
theorem dX3_eatsIn_11 : decode cX3_eatsIn 11 = .ok (.iand, 1) := by decide +kernel
theorem dX3_eatsIn_12 : decode cX3_eatsIn 12 = .ok (.iconst 1, 1) := by decide +kernel
theorem dX3_eatsIn_13 : decode cX3_eatsIn 13 = .ok (.if_icmp .ne 7, 3) := by decide +kernel
theorem dX3_eatsIn_16 : decode cX3_eatsIn 16 = .ok (.iconst 1, 1) := by decide +kernel
theorem dX3_eatsIn_17 : decode cX3_eatsIn 17 = .ok (.goto 4, 3) := by decide +kernel
theorem dX3_eatsIn_20 : decode cX3_eatsIn 20 = .ok (.iconst 0, 1) := by decide +kernel
theorem dX3_eatsIn_21 : decode cX3_eatsIn 21 = .ok (.ireturn, 1) := by decide +kernel
theorem dX3_widest_0 : decode cX3_widest 0 = .ok (.iconst 0, 1) := by decide +kernel
theorem dX3_widest_1 : decode cX3_widest 1 = .ok (.istore_n 2, 1) := by decide +kernel
theorem dX3_widest_2 : decode cX3_widest 2 = .ok (.iconst 0, 1) := by decide +kernel
theorem dX3_widest_3 : decode cX3_widest 3 = .ok (.istore_n 3, 1) := by decide +kernel
theorem dX3_widest_4 : decode cX3_widest 4 = .ok (.iconst 0, 1) := by decide +kernel
theorem dX3_widest_5 : decode cX3_widest 5 = .ok (.istore 4, 2) := by decide +kernel
theorem dX3_widest_7 : decode cX3_widest 7 = .ok (.iload 4, 2) := by decide +kernel
theorem dX3_widest_9 : decode cX3_widest 9 = .ok (.aload_n 1, 1) := by decide +kernel
theorem dX3_widest_10 : decode cX3_widest 10 = .ok (.getfield 19, 3) := by decide +kernel
theorem dX3_widest_13 : decode cX3_widest 13 = .ok (.if_icmp .ge 34, 3) := by decide +kernel
theorem dX3_widest_16 : decode cX3_widest 16 = .ok (.aload_n 0, 1) := by decide +kernel
theorem dX3_widest_17 : decode cX3_widest 17 = .ok (.aload_n 1, 1) := by decide +kernel
theorem dX3_widest_18 : decode cX3_widest 18 = .ok (.iload 4, 2) := by decide +kernel
theorem dX3_widest_20 : decode cX3_widest 20 = .ok (.iconst 0, 1) := by decide +kernel
theorem dX3_widest_21 : decode cX3_widest 21 = .ok (.invokevirtual 37, 3) := by decide +kernel
theorem dX3_widest_24 : decode cX3_widest 24 = .ok (.invokestatic 28, 3) := by decide +kernel
theorem dX3_widest_27 : decode cX3_widest 27 = .ok (.istore 5, 2) := by decide +kernel
theorem dX3_widest_29 : decode cX3_widest 29 = .ok (.iload 5, 2) := by decide +kernel
theorem dX3_widest_31 : decode cX3_widest 31 = .ok (.iload_n 3, 1) := by decide +kernel
theorem dX3_widest_32 : decode cX3_widest 32 = .ok (.if_icmp .le 9, 3) := by decide +kernel
theorem dX3_widest_35 : decode cX3_widest 35 = .ok (.iload 5, 2) := by decide +kernel
theorem dX3_widest_37 : decode cX3_widest 37 = .ok (.istore_n 3, 1) := by decide +kernel
theorem dX3_widest_38 : decode cX3_widest 38 = .ok (.iload 4, 2) := by decide +kernel
theorem dX3_widest_40 : decode cX3_widest 40 = .ok (.istore_n 2, 1) := by decide +kernel
theorem dX3_widest_41 : decode cX3_widest 41 = .ok (.iinc 4 1, 3) := by decide +kernel
theorem dX3_widest_44 : decode cX3_widest 44 = .ok (.goto (-37), 3) := by decide +kernel
theorem dX3_widest_47 : decode cX3_widest 47 = .ok (.iload_n 2, 1) := by decide +kernel
theorem dX3_widest_48 : decode cX3_widest 48 = .ok (.ireturn, 1) := by decide +kernel
theorem dX3_fewestCalmed_0 : decode cX3_fewestCalmed 0 = .ok (.bipush (-2), 2) := by decide +kernel
theorem dX3_fewestCalmed_2 : decode cX3_fewestCalmed 2 = .ok (.istore 4, 2) := by decide +kernel
theorem dX3_fewestCalmed_4 : decode cX3_fewestCalmed 4 = .ok (.iconst 1, 1) := by decide +kernel
theorem dX3_fewestCalmed_5 : decode cX3_fewestCalmed 5 = .ok (.iload_n 2, 1) := by decide +kernel
theorem dX3_fewestCalmed_6 : decode cX3_fewestCalmed 6 = .ok (.ishl, 1) := by decide +kernel
theorem dX3_fewestCalmed_7 : decode cX3_fewestCalmed 7 = .ok (.iconst 1, 1) := by decide +kernel
theorem dX3_fewestCalmed_8 : decode cX3_fewestCalmed 8 = .ok (.iload_n 3, 1) := by decide +kernel
theorem dX3_fewestCalmed_9 : decode cX3_fewestCalmed 9 = .ok (.ishl, 1) := by decide +kernel
theorem dX3_fewestCalmed_10 : decode cX3_fewestCalmed 10 = .ok (.ior, 1) := by decide +kernel
theorem dX3_fewestCalmed_11 : decode cX3_fewestCalmed 11 = .ok (.istore 5, 2) := by decide +kernel
theorem dX3_fewestCalmed_13 : decode cX3_fewestCalmed 13 = .ok (.iconst 0, 1) := by decide +kernel
theorem dX3_fewestCalmed_14 : decode cX3_fewestCalmed 14 = .ok (.istore 6, 2) := by decide +kernel
theorem dX3_fewestCalmed_16 : decode cX3_fewestCalmed 16 = .ok (.iload 6, 2) := by decide +kernel
theorem dX3_fewestCalmed_18 : decode cX3_fewestCalmed 18 = .ok (.iconst 1, 1) := by decide +kernel
theorem dX3_fewestCalmed_19 : decode cX3_fewestCalmed 19 = .ok (.aload_n 1, 1) := by decide +kernel
theorem dX3_fewestCalmed_20 : decode cX3_fewestCalmed 20 = .ok (.getfield 19, 3) := by decide +kernel
theorem dX3_fewestCalmed_23 : decode cX3_fewestCalmed 23 = .ok (.ishl, 1) := by decide +kernel
theorem dX3_fewestCalmed_24 : decode cX3_fewestCalmed 24 = .ok (.if_icmp .ge 71, 3) := by decide +kernel
theorem dX3_fewestCalmed_27 : decode cX3_fewestCalmed 27 = .ok (.iload 6, 2) := by decide +kernel
theorem dX3_fewestCalmed_29 : decode cX3_fewestCalmed 29 = .ok (.iload 5, 2) := by decide +kernel
theorem dX3_fewestCalmed_31 : decode cX3_fewestCalmed 31 = .ok (.iand, 1) := by decide +kernel
theorem dX3_fewestCalmed_32 : decode cX3_fewestCalmed 32 = .ok (.ifCond .ne 16, 3) := by decide +kernel
theorem dX3_fewestCalmed_35 : decode cX3_fewestCalmed 35 = .ok (.iload 6, 2) := by decide +kernel
theorem dX3_fewestCalmed_37 : decode cX3_fewestCalmed 37 = .ok (.invokestatic 28, 3) := by decide +kernel
theorem dX3_fewestCalmed_40 : decode cX3_fewestCalmed 40 = .ok (.iconst 3, 1) := by decide +kernel
theorem dX3_fewestCalmed_41 : decode cX3_fewestCalmed 41 = .ok (.if_icmp .gt 7, 3) := by decide +kernel
theorem dX3_fewestCalmed_44 : decode cX3_fewestCalmed 44 = .ok (.iconst 1, 1) := by decide +kernel
theorem dX3_fewestCalmed_45 : decode cX3_fewestCalmed 45 = .ok (.goto 4, 3) := by decide +kernel
theorem dX3_fewestCalmed_48 : decode cX3_fewestCalmed 48 = .ok (.iconst 0, 1) := by decide +kernel
theorem dX3_fewestCalmed_49 : decode cX3_fewestCalmed 49 = .ok (.istore 7, 2) := by decide +kernel
theorem dX3_fewestCalmed_51 : decode cX3_fewestCalmed 51 = .ok (.iload 7, 2) := by decide +kernel
theorem dX3_fewestCalmed_53 : decode cX3_fewestCalmed 53 = .ok (.ifCond .eq 36, 3) := by decide +kernel
theorem dX3_fewestCalmed_56 : decode cX3_fewestCalmed 56 = .ok (.iload 4, 2) := by decide +kernel
theorem dX3_fewestCalmed_58 : decode cX3_fewestCalmed 58 = .ok (.bipush (-2), 2) := by decide +kernel
theorem dX3_fewestCalmed_60 : decode cX3_fewestCalmed 60 = .ok (.if_icmp .eq 13, 3) := by decide +kernel
theorem dX3_fewestCalmed_63 : decode cX3_fewestCalmed 63 = .ok (.iload 6, 2) := by decide +kernel
theorem dX3_fewestCalmed_65 : decode cX3_fewestCalmed 65 = .ok (.iload 4, 2) := by decide +kernel
theorem dX3_fewestCalmed_67 : decode cX3_fewestCalmed 67 = .ok (.invokestatic 41, 3) := by decide +kernel
theorem dX3_fewestCalmed_70 : decode cX3_fewestCalmed 70 = .ok (.ifCond .eq 19, 3) := by decide +kernel
theorem dX3_fewestCalmed_73 : decode cX3_fewestCalmed 73 = .ok (.aload_n 0, 1) := by decide +kernel
theorem dX3_fewestCalmed_74 : decode cX3_fewestCalmed 74 = .ok (.aload_n 1, 1) := by decide +kernel
theorem dX3_fewestCalmed_75 : decode cX3_fewestCalmed 75 = .ok (.iload_n 2, 1) := by decide +kernel
theorem dX3_fewestCalmed_76 : decode cX3_fewestCalmed 76 = .ok (.iload 6, 2) := by decide +kernel
theorem dX3_fewestCalmed_78 : decode cX3_fewestCalmed 78 = .ok (.iload_n 3, 1) := by decide +kernel
theorem dX3_fewestCalmed_79 : decode cX3_fewestCalmed 79 = .ok (.invokevirtual 45, 3) := by decide +kernel
theorem dX3_fewestCalmed_82 : decode cX3_fewestCalmed 82 = .ok (.ifCond .ne 7, 3) := by decide +kernel
theorem dX3_fewestCalmed_85 : decode cX3_fewestCalmed 85 = .ok (.iload 6, 2) := by decide +kernel
theorem dX3_fewestCalmed_87 : decode cX3_fewestCalmed 87 = .ok (.istore 4, 2) := by decide +kernel
theorem dX3_fewestCalmed_89 : decode cX3_fewestCalmed 89 = .ok (.iinc 6 1, 3) := by decide +kernel
theorem dX3_fewestCalmed_92 : decode cX3_fewestCalmed 92 = .ok (.goto (-76), 3) := by decide +kernel
theorem dX3_fewestCalmed_95 : decode cX3_fewestCalmed 95 = .ok (.iload 4, 2) := by decide +kernel
theorem dX3_fewestCalmed_97 : decode cX3_fewestCalmed 97 = .ok (.ireturn, 1) := by decide +kernel
theorem dX3_isAhead_0 : decode cX3_isAhead 0 = .ok (.iload_n 0, 1) := by decide +kernel
theorem dX3_isAhead_1 : decode cX3_isAhead 1 = .ok (.invokestatic 28, 3) := by decide +kernel
theorem dX3_isAhead_4 : decode cX3_isAhead 4 = .ok (.istore_n 2, 1) := by decide +kernel
theorem dX3_isAhead_5 : decode cX3_isAhead 5 = .ok (.iload_n 1, 1) := by decide +kernel
theorem dX3_isAhead_6 : decode cX3_isAhead 6 = .ok (.invokestatic 28, 3) := by decide +kernel
theorem dX3_isAhead_9 : decode cX3_isAhead 9 = .ok (.istore_n 3, 1) := by decide +kernel
theorem dX3_isAhead_10 : decode cX3_isAhead 10 = .ok (.iload_n 0, 1) := by decide +kernel
theorem dX3_isAhead_11 : decode cX3_isAhead 11 = .ok (.iload_n 1, 1) := by decide +kernel
theorem dX3_isAhead_12 : decode cX3_isAhead 12 = .ok (.ixor, 1) := by decide +kernel
theorem dX3_isAhead_13 : decode cX3_isAhead 13 = .ok (.istore 4, 2) := by decide +kernel
theorem dX3_isAhead_15 : decode cX3_isAhead 15 = .ok (.iload 4, 2) := by decide +kernel
theorem dX3_isAhead_17 : decode cX3_isAhead 17 = .ok (.iload 4, 2) := by decide +kernel
theorem dX3_isAhead_19 : decode cX3_isAhead 19 = .ok (.ineg, 1) := by decide +kernel
theorem dX3_isAhead_20 : decode cX3_isAhead 20 = .ok (.iand, 1) := by decide +kernel
theorem dX3_isAhead_21 : decode cX3_isAhead 21 = .ok (.istore 5, 2) := by decide +kernel
theorem dX3_isAhead_23 : decode cX3_isAhead 23 = .ok (.iload_n 2, 1) := by decide +kernel
theorem dX3_isAhead_24 : decode cX3_isAhead 24 = .ok (.iload_n 3, 1) := by decide +kernel
theorem dX3_isAhead_25 : decode cX3_isAhead 25 = .ok (.if_icmp .lt 15, 3) := by decide +kernel
theorem dX3_isAhead_28 : decode cX3_isAhead 28 = .ok (.iload_n 2, 1) := by decide +kernel
theorem dX3_isAhead_29 : decode cX3_isAhead 29 = .ok (.iload_n 3, 1) := by decide +kernel
theorem dX3_isAhead_30 : decode cX3_isAhead 30 = .ok (.if_icmp .ne 14, 3) := by decide +kernel
theorem dX3_isAhead_33 : decode cX3_isAhead 33 = .ok (.iload_n 0, 1) := by decide +kernel
theorem dX3_isAhead_34 : decode cX3_isAhead 34 = .ok (.iload 5, 2) := by decide +kernel
theorem dX3_isAhead_36 : decode cX3_isAhead 36 = .ok (.iand, 1) := by decide +kernel
theorem dX3_isAhead_37 : decode cX3_isAhead 37 = .ok (.ifCond .eq 7, 3) := by decide +kernel
theorem dX3_isAhead_40 : decode cX3_isAhead 40 = .ok (.iconst 1, 1) := by decide +kernel
theorem dX3_isAhead_41 : decode cX3_isAhead 41 = .ok (.goto 4, 3) := by decide +kernel
theorem dX3_isAhead_44 : decode cX3_isAhead 44 = .ok (.iconst 0, 1) := by decide +kernel
theorem dX3_isAhead_45 : decode cX3_isAhead 45 = .ok (.ireturn, 1) := by decide +kernel
theorem dX3_member_0 : decode cX3_member 0 = .ok (.iconst 0, 1) := by decide +kernel
theorem dX3_member_1 : decode cX3_member 1 = .ok (.istore_n 3, 1) := by decide +kernel
theorem dX3_member_2 : decode cX3_member 2 = .ok (.iconst 0, 1) := by decide +kernel
theorem dX3_member_3 : decode cX3_member 3 = .ok (.istore 4, 2) := by decide +kernel
theorem dX3_member_5 : decode cX3_member 5 = .ok (.iload 4, 2) := by decide +kernel
theorem dX3_member_7 : decode cX3_member 7 = .ok (.bipush 7, 2) := by decide +kernel
theorem dX3_member_9 : decode cX3_member 9 = .ok (.if_icmp .ge 30, 3) := by decide +kernel
theorem dX3_member_12 : decode cX3_member 12 = .ok (.iload_n 1, 1) := by decide +kernel
theorem dX3_member_13 : decode cX3_member 13 = .ok (.iload 4, 2) := by decide +kernel
theorem dX3_member_15 : decode cX3_member 15 = .ok (.ishr, 1) := by decide +kernel
theorem dX3_member_16 : decode cX3_member 16 = .ok (.iconst 1, 1) := by decide +kernel
theorem dX3_member_17 : decode cX3_member 17 = .ok (.iand, 1) := by decide +kernel
theorem dX3_member_18 : decode cX3_member 18 = .ok (.iconst 1, 1) := by decide +kernel
theorem dX3_member_19 : decode cX3_member 19 = .ok (.if_icmp .ne 14, 3) := by decide +kernel
theorem dX3_member_22 : decode cX3_member 22 = .ok (.iload_n 3, 1) := by decide +kernel
theorem dX3_member_23 : decode cX3_member 23 = .ok (.iload_n 2, 1) := by decide +kernel
theorem dX3_member_24 : decode cX3_member 24 = .ok (.if_icmp .ne 6, 3) := by decide +kernel
theorem dX3_member_27 : decode cX3_member 27 = .ok (.iload 4, 2) := by decide +kernel
theorem dX3_member_29 : decode cX3_member 29 = .ok (.ireturn, 1) := by decide +kernel
theorem dX3_member_30 : decode cX3_member 30 = .ok (.iinc 3 1, 3) := by decide +kernel
theorem dX3_member_33 : decode cX3_member 33 = .ok (.iinc 4 1, 3) := by decide +kernel
theorem dX3_member_36 : decode cX3_member 36 = .ok (.goto (-31), 3) := by decide +kernel
theorem dX3_member_39 : decode cX3_member 39 = .ok (.iconst (-1), 1) := by decide +kernel
theorem dX3_member_40 : decode cX3_member 40 = .ok (.ireturn, 1) := by decide +kernel
theorem dX3_quietFor_0 : decode cX3_quietFor 0 = .ok (.iconst 0, 1) := by decide +kernel
theorem dX3_quietFor_1 : decode cX3_quietFor 1 = .ok (.istore_n 3, 1) := by decide +kernel
theorem dX3_quietFor_2 : decode cX3_quietFor 2 = .ok (.iconst 0, 1) := by decide +kernel
theorem dX3_quietFor_3 : decode cX3_quietFor 3 = .ok (.istore 4, 2) := by decide +kernel
theorem dX3_quietFor_5 : decode cX3_quietFor 5 = .ok (.iload 4, 2) := by decide +kernel
theorem dX3_quietFor_7 : decode cX3_quietFor 7 = .ok (.aload_n 1, 1) := by decide +kernel
theorem dX3_quietFor_8 : decode cX3_quietFor 8 = .ok (.getfield 19, 3) := by decide +kernel
theorem dX3_quietFor_11 : decode cX3_quietFor 11 = .ok (.if_icmp .ge 32, 3) := by decide +kernel
theorem dX3_quietFor_14 : decode cX3_quietFor 14 = .ok (.iload_n 3, 1) := by decide +kernel
theorem dX3_quietFor_15 : decode cX3_quietFor 15 = .ok (.aload_n 0, 1) := by decide +kernel
theorem dX3_quietFor_16 : decode cX3_quietFor 16 = .ok (.aload_n 1, 1) := by decide +kernel
theorem dX3_quietFor_17 : decode cX3_quietFor 17 = .ok (.iload 4, 2) := by decide +kernel
theorem dX3_quietFor_19 : decode cX3_quietFor 19 = .ok (.iconst 0, 1) := by decide +kernel
theorem dX3_quietFor_20 : decode cX3_quietFor 20 = .ok (.iload_n 2, 1) := by decide +kernel
theorem dX3_quietFor_21 : decode cX3_quietFor 21 = .ok (.invokevirtual 45, 3) := by decide +kernel
theorem dX3_quietFor_24 : decode cX3_quietFor 24 = .ok (.ifCond .eq 7, 3) := by decide +kernel
theorem dX3_quietFor_27 : decode cX3_quietFor 27 = .ok (.iconst 0, 1) := by decide +kernel
theorem dX3_quietFor_28 : decode cX3_quietFor 28 = .ok (.goto 7, 3) := by decide +kernel
theorem dX3_quietFor_31 : decode cX3_quietFor 31 = .ok (.iconst 1, 1) := by decide +kernel
theorem dX3_quietFor_32 : decode cX3_quietFor 32 = .ok (.iload 4, 2) := by decide +kernel
theorem dX3_quietFor_34 : decode cX3_quietFor 34 = .ok (.ishl, 1) := by decide +kernel
theorem dX3_quietFor_35 : decode cX3_quietFor 35 = .ok (.ior, 1) := by decide +kernel
theorem dX3_quietFor_36 : decode cX3_quietFor 36 = .ok (.istore_n 3, 1) := by decide +kernel
theorem dX3_quietFor_37 : decode cX3_quietFor 37 = .ok (.iinc 4 1, 3) := by decide +kernel
theorem dX3_quietFor_40 : decode cX3_quietFor 40 = .ok (.goto (-35), 3) := by decide +kernel
theorem dX3_quietFor_43 : decode cX3_quietFor 43 = .ok (.iload_n 3, 1) := by decide +kernel
theorem dX3_quietFor_44 : decode cX3_quietFor 44 = .ok (.ireturn, 1) := by decide +kernel
theorem dX3_note_0 : decode cX3_note 0 = .ok (.aload_n 0, 1) := by decide +kernel
theorem dX3_note_1 : decode cX3_note 1 = .ok (.getfield 49, 3) := by decide +kernel
theorem dX3_note_4 : decode cX3_note 4 = .ok (.ifCond .lt 12, 3) := by decide +kernel
theorem dX3_note_7 : decode cX3_note 7 = .ok (.aload_n 0, 1) := by decide +kernel
theorem dX3_note_8 : decode cX3_note 8 = .ok (.getfield 49, 3) := by decide +kernel
theorem dX3_note_11 : decode cX3_note 11 = .ok (.bipush 20, 2) := by decide +kernel
theorem dX3_note_13 : decode cX3_note 13 = .ok (.if_icmp .lt 5, 3) := by decide +kernel
theorem dX3_note_16 : decode cX3_note 16 = .ok (.iconst (-1), 1) := by decide +kernel
theorem dX3_note_17 : decode cX3_note 17 = .ok (.ireturn, 1) := by decide +kernel
theorem dX3_note_18 : decode cX3_note 18 = .ok (.aload_n 0, 1) := by decide +kernel
theorem dX3_note_19 : decode cX3_note 19 = .ok (.getfield 9, 3) := by decide +kernel
theorem dX3_note_22 : decode cX3_note 22 = .ok (.aload_n 0, 1) := by decide +kernel
theorem dX3_note_23 : decode cX3_note 23 = .ok (.getfield 49, 3) := by decide +kernel
theorem dX3_note_26 : decode cX3_note 26 = .ok (.iload_n 1, 1) := by decide +kernel
theorem dX3_note_27 : decode cX3_note 27 = .ok (.iastore, 1) := by decide +kernel
theorem dX3_note_28 : decode cX3_note 28 = .ok (.aload_n 0, 1) := by decide +kernel
theorem dX3_note_29 : decode cX3_note 29 = .ok (.getfield 15, 3) := by decide +kernel
theorem dX3_note_32 : decode cX3_note 32 = .ok (.aload_n 0, 1) := by decide +kernel
theorem dX3_note_33 : decode cX3_note 33 = .ok (.getfield 49, 3) := by decide +kernel
theorem dX3_note_36 : decode cX3_note 36 = .ok (.iload_n 2, 1) := by decide +kernel
theorem dX3_note_37 : decode cX3_note 37 = .ok (.bastore, 1) := by decide +kernel
theorem dX3_note_38 : decode cX3_note 38 = .ok (.aload_n 0, 1) := by decide +kernel
theorem dX3_note_39 : decode cX3_note 39 = .ok (.dup, 1) := by decide +kernel
theorem dX3_note_40 : decode cX3_note 40 = .ok (.getfield 49, 3) := by decide +kernel
theorem dX3_note_43 : decode cX3_note 43 = .ok (.iconst 1, 1) := by decide +kernel
theorem dX3_note_44 : decode cX3_note 44 = .ok (.iadd, 1) := by decide +kernel
theorem dX3_note_45 : decode cX3_note 45 = .ok (.putfield 49, 3) := by decide +kernel
theorem dX3_note_48 : decode cX3_note 48 = .ok (.aload_n 0, 1) := by decide +kernel
theorem dX3_note_49 : decode cX3_note 49 = .ok (.getfield 49, 3) := by decide +kernel
theorem dX3_note_52 : decode cX3_note 52 = .ok (.iconst 1, 1) := by decide +kernel
theorem dX3_note_53 : decode cX3_note 53 = .ok (.isub, 1) := by decide +kernel
theorem dX3_note_54 : decode cX3_note 54 = .ok (.ireturn, 1) := by decide +kernel
theorem dX3_suspects_0 : decode cX3_suspects 0 = .ok (.iconst 0, 1) := by decide +kernel
theorem dX3_suspects_1 : decode cX3_suspects 1 = .ok (.istore_n 3, 1) := by decide +kernel
theorem dX3_suspects_2 : decode cX3_suspects 2 = .ok (.iconst 0, 1) := by decide +kernel
theorem dX3_suspects_3 : decode cX3_suspects 3 = .ok (.istore 4, 2) := by decide +kernel
theorem dX3_suspects_5 : decode cX3_suspects 5 = .ok (.iload 4, 2) := by decide +kernel
theorem dX3_suspects_7 : decode cX3_suspects 7 = .ok (.aload_n 1, 1) := by decide +kernel
theorem dX3_suspects_8 : decode cX3_suspects 8 = .ok (.getfield 19, 3) := by decide +kernel
theorem dX3_suspects_11 : decode cX3_suspects 11 = .ok (.if_icmp .ge 36, 3) := by decide +kernel
theorem dX3_suspects_14 : decode cX3_suspects 14 = .ok (.iload_n 3, 1) := by decide +kernel
theorem dX3_suspects_15 : decode cX3_suspects 15 = .ok (.aload_n 0, 1) := by decide +kernel
theorem dX3_suspects_16 : decode cX3_suspects 16 = .ok (.aload_n 0, 1) := by decide +kernel
theorem dX3_suspects_17 : decode cX3_suspects 17 = .ok (.aload_n 1, 1) := by decide +kernel
theorem dX3_suspects_18 : decode cX3_suspects 18 = .ok (.iload 4, 2) := by decide +kernel
theorem dX3_suspects_20 : decode cX3_suspects 20 = .ok (.iconst 0, 1) := by decide +kernel
theorem dX3_suspects_21 : decode cX3_suspects 21 = .ok (.invokevirtual 37, 3) := by decide +kernel
theorem dX3_suspects_24 : decode cX3_suspects 24 = .ok (.iload_n 2, 1) := by decide +kernel
theorem dX3_suspects_25 : decode cX3_suspects 25 = .ok (.invokevirtual 52, 3) := by decide +kernel
theorem dX3_suspects_28 : decode cX3_suspects 28 = .ok (.ifCond .eq 10, 3) := by decide +kernel
theorem dX3_suspects_31 : decode cX3_suspects 31 = .ok (.iconst 1, 1) := by decide +kernel
theorem dX3_suspects_32 : decode cX3_suspects 32 = .ok (.iload 4, 2) := by decide +kernel
theorem dX3_suspects_34 : decode cX3_suspects 34 = .ok (.ishl, 1) := by decide +kernel
theorem dX3_suspects_35 : decode cX3_suspects 35 = .ok (.goto 4, 3) := by decide +kernel
theorem dX3_suspects_38 : decode cX3_suspects 38 = .ok (.iconst 0, 1) := by decide +kernel
theorem dX3_suspects_39 : decode cX3_suspects 39 = .ok (.ior, 1) := by decide +kernel
theorem dX3_suspects_40 : decode cX3_suspects 40 = .ok (.istore_n 3, 1) := by decide +kernel
theorem dX3_suspects_41 : decode cX3_suspects 41 = .ok (.iinc 4 1, 3) := by decide +kernel
theorem dX3_suspects_44 : decode cX3_suspects 44 = .ok (.goto (-39), 3) := by decide +kernel
theorem dX3_suspects_47 : decode cX3_suspects 47 = .ok (.iload_n 3, 1) := by decide +kernel
theorem dX3_suspects_48 : decode cX3_suspects 48 = .ok (.ireturn, 1) := by decide +kernel
theorem dX3_fits_0 : decode cX3_fits 0 = .ok (.iconst 1, 1) := by decide +kernel
theorem dX3_fits_1 : decode cX3_fits 1 = .ok (.istore_n 3, 1) := by decide +kernel
theorem dX3_fits_2 : decode cX3_fits 2 = .ok (.iconst 0, 1) := by decide +kernel
theorem dX3_fits_3 : decode cX3_fits 3 = .ok (.istore 4, 2) := by decide +kernel
theorem dX3_fits_5 : decode cX3_fits 5 = .ok (.iload 4, 2) := by decide +kernel
theorem dX3_fits_7 : decode cX3_fits 7 = .ok (.iload_n 2, 1) := by decide +kernel
theorem dX3_fits_8 : decode cX3_fits 8 = .ok (.if_icmp .ge 54, 3) := by decide +kernel
theorem dX3_fits_11 : decode cX3_fits 11 = .ok (.iload 4, 2) := by decide +kernel
theorem dX3_fits_13 : decode cX3_fits 13 = .ok (.bipush 20, 2) := by decide +kernel
theorem dX3_fits_15 : decode cX3_fits 15 = .ok (.if_icmp .ge 47, 3) := by decide +kernel
theorem dX3_fits_18 : decode cX3_fits 18 = .ok (.iload_n 3, 1) := by decide +kernel
theorem dX3_fits_19 : decode cX3_fits 19 = .ok (.iload_n 1, 1) := by decide +kernel
theorem dX3_fits_20 : decode cX3_fits 20 = .ok (.aload_n 0, 1) := by decide +kernel
theorem dX3_fits_21 : decode cX3_fits 21 = .ok (.getfield 9, 3) := by decide +kernel
theorem dX3_fits_24 : decode cX3_fits 24 = .ok (.iload 4, 2) := by decide +kernel
theorem dX3_fits_26 : decode cX3_fits 26 = .ok (.iaload, 1) := by decide +kernel
theorem dX3_fits_27 : decode cX3_fits 27 = .ok (.ishr, 1) := by decide +kernel
theorem dX3_fits_28 : decode cX3_fits 28 = .ok (.iconst 1, 1) := by decide +kernel
theorem dX3_fits_29 : decode cX3_fits 29 = .ok (.iand, 1) := by decide +kernel
theorem dX3_fits_30 : decode cX3_fits 30 = .ok (.iconst 1, 1) := by decide +kernel
theorem dX3_fits_31 : decode cX3_fits 31 = .ok (.if_icmp .ne 7, 3) := by decide +kernel
theorem dX3_fits_34 : decode cX3_fits 34 = .ok (.iconst 1, 1) := by decide +kernel
theorem dX3_fits_35 : decode cX3_fits 35 = .ok (.goto 4, 3) := by decide +kernel
theorem dX3_fits_38 : decode cX3_fits 38 = .ok (.iconst 0, 1) := by decide +kernel
theorem dX3_fits_39 : decode cX3_fits 39 = .ok (.aload_n 0, 1) := by decide +kernel
theorem dX3_fits_40 : decode cX3_fits 40 = .ok (.getfield 15, 3) := by decide +kernel
theorem dX3_fits_43 : decode cX3_fits 43 = .ok (.iload 4, 2) := by decide +kernel
theorem dX3_fits_45 : decode cX3_fits 45 = .ok (.baload, 1) := by decide +kernel
theorem dX3_fits_46 : decode cX3_fits 46 = .ok (.if_icmp .ne 7, 3) := by decide +kernel
theorem dX3_fits_49 : decode cX3_fits 49 = .ok (.iconst 1, 1) := by decide +kernel
theorem dX3_fits_50 : decode cX3_fits 50 = .ok (.goto 4, 3) := by decide +kernel
theorem dX3_fits_53 : decode cX3_fits 53 = .ok (.iconst 0, 1) := by decide +kernel
theorem dX3_fits_54 : decode cX3_fits 54 = .ok (.iand, 1) := by decide +kernel
theorem dX3_fits_55 : decode cX3_fits 55 = .ok (.istore_n 3, 1) := by decide +kernel
theorem dX3_fits_56 : decode cX3_fits 56 = .ok (.iinc 4 1, 3) := by decide +kernel
theorem dX3_fits_59 : decode cX3_fits 59 = .ok (.goto (-54), 3) := by decide +kernel
theorem dX3_fits_62 : decode cX3_fits 62 = .ok (.iload_n 3, 1) := by decide +kernel
theorem dX3_fits_63 : decode cX3_fits 63 = .ok (.ireturn, 1) := by decide +kernel
theorem dX3_bestQuestion_0 : decode cX3_bestQuestion 0 = .ok (.iconst (-1), 1) := by decide +kernel
theorem dX3_bestQuestion_1 : decode cX3_bestQuestion 1 = .ok (.istore_n 3, 1) := by decide +kernel
theorem dX3_bestQuestion_2 : decode cX3_bestQuestion 2 = .ok (.iconst 0, 1) := by decide +kernel
theorem dX3_bestQuestion_3 : decode cX3_bestQuestion 3 = .ok (.istore 4, 2) := by decide +kernel
theorem dX3_bestQuestion_5 : decode cX3_bestQuestion 5 = .ok (.iconst 0, 1) := by decide +kernel
theorem dX3_bestQuestion_6 : decode cX3_bestQuestion 6 = .ok (.istore 5, 2) := by decide +kernel
theorem dX3_bestQuestion_8 : decode cX3_bestQuestion 8 = .ok (.iload 5, 2) := by decide +kernel
theorem dX3_bestQuestion_10 : decode cX3_bestQuestion 10 = .ok (.aload_n 1, 1) := by decide +kernel
theorem dX3_bestQuestion_11 : decode cX3_bestQuestion 11 = .ok (.getfield 19, 3) := by decide +kernel
theorem dX3_bestQuestion_14 : decode cX3_bestQuestion 14 = .ok (.if_icmp .ge 56, 3) := by decide +kernel
theorem dX3_bestQuestion_17 : decode cX3_bestQuestion 17 = .ok (.iload_n 2, 1) := by decide +kernel
theorem dX3_bestQuestion_18 : decode cX3_bestQuestion 18 = .ok (.aload_n 0, 1) := by decide +kernel
theorem dX3_bestQuestion_19 : decode cX3_bestQuestion 19 = .ok (.aload_n 1, 1) := by decide +kernel
theorem dX3_bestQuestion_20 : decode cX3_bestQuestion 20 = .ok (.iload 5, 2) := by decide +kernel
theorem dX3_bestQuestion_22 : decode cX3_bestQuestion 22 = .ok (.invokevirtual 55, 3) := by decide +kernel
theorem dX3_bestQuestion_25 : decode cX3_bestQuestion 25 = .ok (.iand, 1) := by decide +kernel
theorem dX3_bestQuestion_26 : decode cX3_bestQuestion 26 = .ok (.invokestatic 28, 3) := by decide +kernel
theorem dX3_bestQuestion_29 : decode cX3_bestQuestion 29 = .ok (.istore 6, 2) := by decide +kernel
theorem dX3_bestQuestion_31 : decode cX3_bestQuestion 31 = .ok (.iload 6, 2) := by decide +kernel
theorem dX3_bestQuestion_33 : decode cX3_bestQuestion 33 = .ok (.iload_n 2, 1) := by decide +kernel
theorem dX3_bestQuestion_34 : decode cX3_bestQuestion 34 = .ok (.invokestatic 28, 3) := by decide +kernel
theorem dX3_bestQuestion_37 : decode cX3_bestQuestion 37 = .ok (.iload 6, 2) := by decide +kernel
theorem dX3_bestQuestion_39 : decode cX3_bestQuestion 39 = .ok (.isub, 1) := by decide +kernel
theorem dX3_bestQuestion_40 : decode cX3_bestQuestion 40 = .ok (.invokestatic 59, 3) := by decide +kernel
theorem dX3_bestQuestion_43 : decode cX3_bestQuestion 43 = .ok (.istore 7, 2) := by decide +kernel
theorem dX3_bestQuestion_45 : decode cX3_bestQuestion 45 = .ok (.iload_n 3, 1) := by decide +kernel
theorem dX3_bestQuestion_46 : decode cX3_bestQuestion 46 = .ok (.iconst (-1), 1) := by decide +kernel
theorem dX3_bestQuestion_47 : decode cX3_bestQuestion 47 = .ok (.if_icmp .eq 10, 3) := by decide +kernel
theorem dX3_bestQuestion_50 : decode cX3_bestQuestion 50 = .ok (.iload 7, 2) := by decide +kernel
theorem dX3_bestQuestion_52 : decode cX3_bestQuestion 52 = .ok (.iload 4, 2) := by decide +kernel
theorem dX3_bestQuestion_54 : decode cX3_bestQuestion 54 = .ok (.if_icmp .ge 10, 3) := by decide +kernel
theorem dX3_bestQuestion_57 : decode cX3_bestQuestion 57 = .ok (.iload 5, 2) := by decide +kernel
theorem dX3_bestQuestion_59 : decode cX3_bestQuestion 59 = .ok (.istore_n 3, 1) := by decide +kernel
theorem dX3_bestQuestion_60 : decode cX3_bestQuestion 60 = .ok (.iload 7, 2) := by decide +kernel
theorem dX3_bestQuestion_62 : decode cX3_bestQuestion 62 = .ok (.istore 4, 2) := by decide +kernel
theorem dX3_bestQuestion_64 : decode cX3_bestQuestion 64 = .ok (.iinc 5 1, 3) := by decide +kernel
theorem dX3_bestQuestion_67 : decode cX3_bestQuestion 67 = .ok (.goto (-59), 3) := by decide +kernel
theorem dX3_bestQuestion_70 : decode cX3_bestQuestion 70 = .ok (.iload_n 3, 1) := by decide +kernel
theorem dX3_bestQuestion_71 : decode cX3_bestQuestion 71 = .ok (.ireturn, 1) := by decide +kernel
theorem dX4_init_0 : decode cX4_init 0 = .ok (.aload_n 0, 1) := by decide +kernel
theorem dX4_init_1 : decode cX4_init 1 = .ok (.invokespecial 3, 3) := by decide +kernel
theorem dX4_init_4 : decode cX4_init 4 = .ok (.aload_n 0, 1) := by decide +kernel
theorem dX4_init_5 : decode cX4_init 5 = .ok (.aload_n 1, 1) := by decide +kernel
theorem dX4_init_6 : decode cX4_init 6 = .ok (.putfield 9, 3) := by decide +kernel
theorem dX4_init_9 : decode cX4_init 9 = .ok (.return_, 1) := by decide +kernel
theorem dX4_parse_0 : decode cX4_parse 0 = .ok (.aload_n 0, 1) := by decide +kernel
theorem dX4_parse_1 : decode cX4_parse 1 = .ok (.aload_n 1, 1) := by decide +kernel
theorem dX4_parse_2 : decode cX4_parse 2 = .ok (.putfield 15, 3) := by decide +kernel
theorem dX4_parse_5 : decode cX4_parse 5 = .ok (.aload_n 0, 1) := by decide +kernel
theorem dX4_parse_6 : decode cX4_parse 6 = .ok (.iconst 0, 1) := by decide +kernel
theorem dX4_parse_7 : decode cX4_parse 7 = .ok (.putfield 19, 3) := by decide +kernel
theorem dX4_parse_10 : decode cX4_parse 10 = .ok (.aload_n 0, 1) := by decide +kernel
theorem dX4_parse_11 : decode cX4_parse 11 = .ok (.aload_n 0, 1) := by decide +kernel
theorem dX4_parse_12 : decode cX4_parse 12 = .ok (.getfield 9, 3) := by decide +kernel
theorem dX4_parse_15 : decode cX4_parse 15 = .ok (.iconst 0, 1) := by decide +kernel
theorem dX4_parse_16 : decode cX4_parse 16 = .ok (.invokevirtual 23, 3) := by decide +kernel
theorem dX4_parse_19 : decode cX4_parse 19 = .ok (.putfield 29, 3) := by decide +kernel
theorem dX4_parse_22 : decode cX4_parse 22 = .ok (.aload_n 0, 1) := by decide +kernel
theorem dX4_parse_23 : decode cX4_parse 23 = .ok (.iconst 0, 1) := by decide +kernel
theorem dX4_parse_24 : decode cX4_parse 24 = .ok (.putfield 32, 3) := by decide +kernel
theorem dX4_parse_27 : decode cX4_parse 27 = .ok (.aload_n 0, 1) := by decide +kernel
theorem dX4_parse_28 : decode cX4_parse 28 = .ok (.iconst 0, 1) := by decide +kernel
theorem dX4_parse_29 : decode cX4_parse 29 = .ok (.putfield 35, 3) := by decide +kernel
theorem dX4_parse_32 : decode cX4_parse 32 = .ok (.aload_n 0, 1) := by decide +kernel
theorem dX4_parse_33 : decode cX4_parse 33 = .ok (.iconst 0, 1) := by decide +kernel
theorem dX4_parse_34 : decode cX4_parse 34 = .ok (.putfield 38, 3) := by decide +kernel
theorem dX4_parse_37 : decode cX4_parse 37 = .ok (.aload_n 0, 1) := by decide +kernel
theorem dX4_parse_38 : decode cX4_parse 38 = .ok (.iconst 0, 1) := by decide +kernel
theorem dX4_parse_39 : decode cX4_parse 39 = .ok (.putfield 41, 3) := by decide +kernel
theorem dX4_parse_42 : decode cX4_parse 42 = .ok (.iconst 0, 1) := by decide +kernel
theorem dX4_parse_43 : decode cX4_parse 43 = .ok (.istore_n 2, 1) := by decide +kernel
theorem dX4_parse_44 : decode cX4_parse 44 = .ok (.iload_n 2, 1) := by decide +kernel
theorem dX4_parse_45 : decode cX4_parse 45 = .ok (.sipush 400, 3) := by decide +kernel
theorem dX4_parse_48 : decode cX4_parse 48 = .ok (.if_icmp .gt 129, 3) := by decide +kernel
theorem dX4_parse_51 : decode cX4_parse 51 = .ok (.aload_n 0, 1) := by decide +kernel
theorem dX4_parse_52 : decode cX4_parse 52 = .ok (.getfield 41, 3) := by decide +kernel
theorem dX4_parse_55 : decode cX4_parse 55 = .ok (.ifCond .ne 122, 3) := by decide +kernel
theorem dX4_parse_58 : decode cX4_parse 58 = .ok (.aload_n 0, 1) := by decide +kernel
theorem dX4_parse_59 : decode cX4_parse 59 = .ok (.getfield 29, 3) := by decide +kernel
theorem dX4_parse_62 : decode cX4_parse 62 = .ok (.bipush 25, 2) := by decide +kernel
theorem dX4_parse_64 : decode cX4_parse 64 = .ok (.if_icmp .eq 113, 3) := by decide +kernel
theorem dX4_parse_67 : decode cX4_parse 67 = .ok (.aload_n 0, 1) := by decide +kernel
theorem dX4_parse_68 : decode cX4_parse 68 = .ok (.getfield 29, 3) := by decide +kernel
theorem dX4_parse_71 : decode cX4_parse 71 = .ok (.ifCond .ne 10, 3) := by decide +kernel
theorem dX4_parse_74 : decode cX4_parse 74 = .ok (.aload_n 0, 1) := by decide +kernel
theorem dX4_parse_75 : decode cX4_parse 75 = .ok (.invokevirtual 44, 3) := by decide +kernel
theorem dX4_parse_78 : decode cX4_parse 78 = .ok (.goto 93, 3) := by decide +kernel
theorem dX4_parse_81 : decode cX4_parse 81 = .ok (.aload_n 0, 1) := by decide +kernel
theorem dX4_parse_82 : decode cX4_parse 82 = .ok (.getfield 29, 3) := by decide +kernel
theorem dX4_parse_85 : decode cX4_parse 85 = .ok (.iconst 1, 1) := by decide +kernel
theorem dX4_parse_86 : decode cX4_parse 86 = .ok (.if_icmp .ne 10, 3) := by decide +kernel
theorem dX4_parse_89 : decode cX4_parse 89 = .ok (.aload_n 0, 1) := by decide +kernel
theorem dX4_parse_90 : decode cX4_parse 90 = .ok (.invokevirtual 47, 3) := by decide +kernel
theorem dX4_parse_93 : decode cX4_parse 93 = .ok (.goto 78, 3) := by decide +kernel
theorem dX4_parse_96 : decode cX4_parse 96 = .ok (.aload_n 0, 1) := by decide +kernel
theorem dX4_parse_97 : decode cX4_parse 97 = .ok (.getfield 29, 3) := by decide +kernel
theorem dX4_parse_100 : decode cX4_parse 100 = .ok (.iconst 2, 1) := by decide +kernel
theorem dX4_parse_101 : decode cX4_parse 101 = .ok (.if_icmp .ne 10, 3) := by decide +kernel
theorem dX4_parse_104 : decode cX4_parse 104 = .ok (.aload_n 0, 1) := by decide +kernel
theorem dX4_parse_105 : decode cX4_parse 105 = .ok (.invokevirtual 50, 3) := by decide +kernel
theorem dX4_parse_108 : decode cX4_parse 108 = .ok (.goto 63, 3) := by decide +kernel
theorem dX4_parse_111 : decode cX4_parse 111 = .ok (.aload_n 0, 1) := by decide +kernel
theorem dX4_parse_112 : decode cX4_parse 112 = .ok (.getfield 29, 3) := by decide +kernel
theorem dX4_parse_115 : decode cX4_parse 115 = .ok (.iconst 3, 1) := by decide +kernel
theorem dX4_parse_116 : decode cX4_parse 116 = .ok (.if_icmp .lt 25, 3) := by decide +kernel
theorem dX4_parse_119 : decode cX4_parse 119 = .ok (.aload_n 0, 1) := by decide +kernel
theorem dX4_parse_120 : decode cX4_parse 120 = .ok (.getfield 29, 3) := by decide +kernel
theorem dX4_parse_123 : decode cX4_parse 123 = .ok (.bipush 7, 2) := by decide +kernel
theorem dX4_parse_125 : decode cX4_parse 125 = .ok (.if_icmp .gt 16, 3) := by decide +kernel
theorem dX4_parse_128 : decode cX4_parse 128 = .ok (.aload_n 0, 1) := by decide +kernel
theorem dX4_parse_129 : decode cX4_parse 129 = .ok (.aload_n 0, 1) := by decide +kernel
theorem dX4_parse_130 : decode cX4_parse 130 = .ok (.getfield 29, 3) := by decide +kernel
theorem dX4_parse_133 : decode cX4_parse 133 = .ok (.iconst 3, 1) := by decide +kernel
theorem dX4_parse_134 : decode cX4_parse 134 = .ok (.isub, 1) := by decide +kernel
theorem dX4_parse_135 : decode cX4_parse 135 = .ok (.invokevirtual 53, 3) := by decide +kernel
theorem dX4_parse_138 : decode cX4_parse 138 = .ok (.goto 33, 3) := by decide +kernel
theorem dX4_parse_141 : decode cX4_parse 141 = .ok (.aload_n 0, 1) := by decide +kernel
theorem dX4_parse_142 : decode cX4_parse 142 = .ok (.getfield 29, 3) := by decide +kernel
theorem dX4_parse_145 : decode cX4_parse 145 = .ok (.bipush 8, 2) := by decide +kernel
theorem dX4_parse_147 : decode cX4_parse 147 = .ok (.if_icmp .lt 19, 3) := by decide +kernel
theorem dX4_parse_150 : decode cX4_parse 150 = .ok (.aload_n 0, 1) := by decide +kernel
theorem dX4_parse_151 : decode cX4_parse 151 = .ok (.getfield 29, 3) := by decide +kernel
theorem dX4_parse_154 : decode cX4_parse 154 = .ok (.bipush 10, 2) := by decide +kernel
theorem dX4_parse_156 : decode cX4_parse 156 = .ok (.if_icmp .gt 10, 3) := by decide +kernel
theorem dX4_parse_159 : decode cX4_parse 159 = .ok (.aload_n 0, 1) := by decide +kernel
theorem dX4_parse_160 : decode cX4_parse 160 = .ok (.invokevirtual 57, 3) := by decide +kernel
theorem dX4_parse_163 : decode cX4_parse 163 = .ok (.goto 8, 3) := by decide +kernel
theorem dX4_parse_166 : decode cX4_parse 166 = .ok (.aload_n 0, 1) := by decide +kernel
theorem dX4_parse_167 : decode cX4_parse 167 = .ok (.iconst 1, 1) := by decide +kernel
theorem dX4_parse_168 : decode cX4_parse 168 = .ok (.invokevirtual 60, 3) := by decide +kernel
theorem dX4_parse_171 : decode cX4_parse 171 = .ok (.iinc 2 1, 3) := by decide +kernel
theorem dX4_parse_174 : decode cX4_parse 174 = .ok (.goto (-130), 3) := by decide +kernel
theorem dX4_parse_177 : decode cX4_parse 177 = .ok (.return_, 1) := by decide +kernel
theorem dX4_fail_0 : decode cX4_fail 0 = .ok (.aload_n 0, 1) := by decide +kernel
theorem dX4_fail_1 : decode cX4_fail 1 = .ok (.aload_n 0, 1) := by decide +kernel
theorem dX4_fail_2 : decode cX4_fail 2 = .ok (.getfield 41, 3) := by decide +kernel
theorem dX4_fail_5 : decode cX4_fail 5 = .ok (.ifCond .ne 7, 3) := by decide +kernel
theorem dX4_fail_8 : decode cX4_fail 8 = .ok (.iload_n 1, 1) := by decide +kernel
theorem dX4_fail_9 : decode cX4_fail 9 = .ok (.goto 7, 3) := by decide +kernel
theorem dX4_fail_12 : decode cX4_fail 12 = .ok (.aload_n 0, 1) := by decide +kernel
theorem dX4_fail_13 : decode cX4_fail 13 = .ok (.getfield 41, 3) := by decide +kernel
theorem dX4_fail_16 : decode cX4_fail 16 = .ok (.putfield 41, 3) := by decide +kernel
theorem dX4_fail_19 : decode cX4_fail 19 = .ok (.return_, 1) := by decide +kernel
theorem dX4_take_0 : decode cX4_take 0 = .ok (.aload_n 0, 1) := by decide +kernel
theorem dX4_take_1 : decode cX4_take 1 = .ok (.getfield 29, 3) := by decide +kernel
theorem dX4_take_4 : decode cX4_take 4 = .ok (.iload_n 1, 1) := by decide +kernel
theorem dX4_take_5 : decode cX4_take 5 = .ok (.if_icmp .eq 8, 3) := by decide +kernel
theorem dX4_take_8 : decode cX4_take 8 = .ok (.aload_n 0, 1) := by decide +kernel
theorem dX4_take_9 : decode cX4_take 9 = .ok (.iconst 1, 1) := by decide +kernel
theorem dX4_take_10 : decode cX4_take 10 = .ok (.invokevirtual 60, 3) := by decide +kernel
theorem dX4_take_13 : decode cX4_take 13 = .ok (.aload_n 0, 1) := by decide +kernel
theorem dX4_take_14 : decode cX4_take 14 = .ok (.getfield 19, 3) := by decide +kernel
theorem dX4_take_17 : decode cX4_take 17 = .ok (.sipush 400, 3) := by decide +kernel
theorem dX4_take_20 : decode cX4_take 20 = .ok (.if_icmp .lt 8, 3) := by decide +kernel
theorem dX4_take_23 : decode cX4_take 23 = .ok (.aload_n 0, 1) := by decide +kernel
theorem dX4_take_24 : decode cX4_take 24 = .ok (.iconst 2, 1) := by decide +kernel
theorem dX4_take_25 : decode cX4_take 25 = .ok (.invokevirtual 60, 3) := by decide +kernel
theorem dX4_take_28 : decode cX4_take 28 = .ok (.aload_n 0, 1) := by decide +kernel
theorem dX4_take_29 : decode cX4_take 29 = .ok (.getfield 41, 3) := by decide +kernel
theorem dX4_take_32 : decode cX4_take 32 = .ok (.ifCond .ne 28, 3) := by decide +kernel
theorem dX4_take_35 : decode cX4_take 35 = .ok (.aload_n 0, 1) := by decide +kernel
theorem dX4_take_36 : decode cX4_take 36 = .ok (.dup, 1) := by decide +kernel
theorem dX4_take_37 : decode cX4_take 37 = .ok (.getfield 19, 3) := by decide +kernel
theorem dX4_take_40 : decode cX4_take 40 = .ok (.iconst 1, 1) := by decide +kernel
theorem dX4_take_41 : decode cX4_take 41 = .ok (.iadd, 1) := by decide +kernel
theorem dX4_take_42 : decode cX4_take 42 = .ok (.putfield 19, 3) := by decide +kernel
theorem dX4_take_45 : decode cX4_take 45 = .ok (.aload_n 0, 1) := by decide +kernel
theorem dX4_take_46 : decode cX4_take 46 = .ok (.aload_n 0, 1) := by decide +kernel
theorem dX4_take_47 : decode cX4_take 47 = .ok (.getfield 9, 3) := by decide +kernel
theorem dX4_take_50 : decode cX4_take 50 = .ok (.aload_n 0, 1) := by decide +kernel
theorem dX4_take_51 : decode cX4_take 51 = .ok (.getfield 19, 3) := by decide +kernel
theorem dX4_take_54 : decode cX4_take 54 = .ok (.invokevirtual 23, 3) := by decide +kernel
theorem dX4_take_57 : decode cX4_take 57 = .ok (.putfield 29, 3) := by decide +kernel
theorem dX4_take_60 : decode cX4_take 60 = .ok (.return_, 1) := by decide +kernel
theorem dX4_takeSort_0 : decode cX4_takeSort 0 = .ok (.iload_n 1, 1) := by decide +kernel
theorem dX4_takeSort_1 : decode cX4_takeSort 1 = .ok (.iload_n 2, 1) := by decide +kernel
theorem dX4_takeSort_2 : decode cX4_takeSort 2 = .ok (.if_icmp .lt 8, 3) := by decide +kernel
theorem dX4_takeSort_5 : decode cX4_takeSort 5 = .ok (.aload_n 0, 1) := by decide +kernel
theorem dX4_takeSort_6 : decode cX4_takeSort 6 = .ok (.iconst 2, 1) := by decide +kernel
theorem dX4_takeSort_7 : decode cX4_takeSort 7 = .ok (.invokevirtual 60, 3) := by decide +kernel
theorem dX4_takeSort_10 : decode cX4_takeSort 10 = .ok (.aload_n 0, 1) := by decide +kernel
theorem dX4_takeSort_11 : decode cX4_takeSort 11 = .ok (.aload_n 0, 1) := by decide +kernel
theorem dX4_takeSort_12 : decode cX4_takeSort 12 = .ok (.getfield 29, 3) := by decide +kernel
theorem dX4_takeSort_15 : decode cX4_takeSort 15 = .ok (.invokevirtual 63, 3) := by decide +kernel
theorem dX4_takeSort_18 : decode cX4_takeSort 18 = .ok (.return_, 1) := by decide +kernel
theorem dX4_parseNumber_0 : decode cX4_parseNumber 0 = .ok (.aload_n 0, 1) := by decide +kernel
theorem dX4_parseNumber_1 : decode cX4_parseNumber 1 = .ok (.aload_n 0, 1) := by decide +kernel
theorem dX4_parseNumber_2 : decode cX4_parseNumber 2 = .ok (.getfield 29, 3) := by decide +kernel
theorem dX4_parseNumber_5 : decode cX4_parseNumber 5 = .ok (.invokevirtual 63, 3) := by decide +kernel
theorem dX4_parseNumber_8 : decode cX4_parseNumber 8 = .ok (.aload_n 0, 1) := by decide +kernel
theorem dX4_parseNumber_9 : decode cX4_parseNumber 9 = .ok (.bipush 24, 2) := by decide +kernel
theorem dX4_parseNumber_11 : decode cX4_parseNumber 11 = .ok (.invokevirtual 63, 3) := by decide +kernel
theorem dX4_parseNumber_14 : decode cX4_parseNumber 14 = .ok (.aload_n 0, 1) := by decide +kernel
theorem dX4_parseNumber_15 : decode cX4_parseNumber 15 = .ok (.bipush 27, 2) := by decide +kernel
theorem dX4_parseNumber_17 : decode cX4_parseNumber 17 = .ok (.invokevirtual 63, 3) := by decide +kernel
theorem dX4_parseNumber_20 : decode cX4_parseNumber 20 = .ok (.return_, 1) := by decide +kernel
theorem dX4_parseHouse_0 : decode cX4_parseHouse 0 = .ok (.aload_n 0, 1) := by decide +kernel
theorem dX4_parseHouse_1 : decode cX4_parseHouse 1 = .ok (.aload_n 0, 1) := by decide +kernel
theorem dX4_parseHouse_2 : decode cX4_parseHouse 2 = .ok (.getfield 32, 3) := by decide +kernel
theorem dX4_parseHouse_5 : decode cX4_parseHouse 5 = .ok (.bipush 7, 2) := by decide +kernel
theorem dX4_parseHouse_7 : decode cX4_parseHouse 7 = .ok (.invokevirtual 66, 3) := by decide +kernel
theorem dX4_parseHouse_10 : decode cX4_parseHouse 10 = .ok (.aload_n 0, 1) := by decide +kernel
theorem dX4_parseHouse_11 : decode cX4_parseHouse 11 = .ok (.dup, 1) := by decide +kernel
theorem dX4_parseHouse_12 : decode cX4_parseHouse 12 = .ok (.getfield 32, 3) := by decide +kernel
theorem dX4_parseHouse_15 : decode cX4_parseHouse 15 = .ok (.iconst 1, 1) := by decide +kernel
theorem dX4_parseHouse_16 : decode cX4_parseHouse 16 = .ok (.iadd, 1) := by decide +kernel
theorem dX4_parseHouse_17 : decode cX4_parseHouse 17 = .ok (.putfield 32, 3) := by decide +kernel
theorem dX4_parseHouse_20 : decode cX4_parseHouse 20 = .ok (.aload_n 0, 1) := by decide +kernel
theorem dX4_parseHouse_21 : decode cX4_parseHouse 21 = .ok (.bipush 23, 2) := by decide +kernel
theorem dX4_parseHouse_23 : decode cX4_parseHouse 23 = .ok (.invokevirtual 63, 3) := by decide +kernel
theorem dX4_parseHouse_26 : decode cX4_parseHouse 26 = .ok (.iconst 0, 1) := by decide +kernel
theorem dX4_parseHouse_27 : decode cX4_parseHouse 27 = .ok (.istore_n 1, 1) := by decide +kernel
theorem dX4_parseHouse_28 : decode cX4_parseHouse 28 = .ok (.iload_n 1, 1) := by decide +kernel
theorem dX4_parseHouse_29 : decode cX4_parseHouse 29 = .ok (.iconst 4, 1) := by decide +kernel
theorem dX4_parseHouse_30 : decode cX4_parseHouse 30 = .ok (.if_icmp .ge 15, 3) := by decide +kernel
theorem dX4_parseHouse_33 : decode cX4_parseHouse 33 = .ok (.aload_n 0, 1) := by decide +kernel
theorem dX4_parseHouse_34 : decode cX4_parseHouse 34 = .ok (.bipush 24, 2) := by decide +kernel
theorem dX4_parseHouse_36 : decode cX4_parseHouse 36 = .ok (.invokevirtual 63, 3) := by decide +kernel
theorem dX4_parseHouse_39 : decode cX4_parseHouse 39 = .ok (.iinc 1 1, 3) := by decide +kernel
theorem dX4_parseHouse_42 : decode cX4_parseHouse 42 = .ok (.goto (-14), 3) := by decide +kernel
theorem dX4_parseHouse_45 : decode cX4_parseHouse 45 = .ok (.aload_n 0, 1) := by decide +kernel
theorem dX4_parseHouse_46 : decode cX4_parseHouse 46 = .ok (.bipush 27, 2) := by decide +kernel
theorem dX4_parseHouse_48 : decode cX4_parseHouse 48 = .ok (.invokevirtual 63, 3) := by decide +kernel
theorem dX4_parseHouse_51 : decode cX4_parseHouse 51 = .ok (.return_, 1) := by decide +kernel
theorem dX4_parseHearing_0 : decode cX4_parseHearing 0 = .ok (.aload_n 0, 1) := by decide +kernel
theorem dX4_parseHearing_1 : decode cX4_parseHearing 1 = .ok (.aload_n 0, 1) := by decide +kernel
theorem dX4_parseHearing_2 : decode cX4_parseHearing 2 = .ok (.getfield 35, 3) := by decide +kernel
theorem dX4_parseHearing_5 : decode cX4_parseHearing 5 = .ok (.bipush 16, 2) := by decide +kernel
theorem dX4_parseHearing_7 : decode cX4_parseHearing 7 = .ok (.invokevirtual 66, 3) := by decide +kernel
theorem dX4_parseHearing_10 : decode cX4_parseHearing 10 = .ok (.aload_n 0, 1) := by decide +kernel
theorem dX4_parseHearing_11 : decode cX4_parseHearing 11 = .ok (.dup, 1) := by decide +kernel
theorem dX4_parseHearing_12 : decode cX4_parseHearing 12 = .ok (.getfield 35, 3) := by decide +kernel
theorem dX4_parseHearing_15 : decode cX4_parseHearing 15 = .ok (.iconst 1, 1) := by decide +kernel
theorem dX4_parseHearing_16 : decode cX4_parseHearing 16 = .ok (.iadd, 1) := by decide +kernel
theorem dX4_parseHearing_17 : decode cX4_parseHearing 17 = .ok (.putfield 35, 3) := by decide +kernel
theorem dX4_parseHearing_20 : decode cX4_parseHearing 20 = .ok (.aload_n 0, 1) := by decide +kernel
theorem dX4_parseHearing_21 : decode cX4_parseHearing 21 = .ok (.bipush 23, 2) := by decide +kernel
theorem dX4_parseHearing_23 : decode cX4_parseHearing 23 = .ok (.invokevirtual 63, 3) := by decide +kernel
theorem dX4_parseHearing_26 : decode cX4_parseHearing 26 = .ok (.aload_n 0, 1) := by decide +kernel
theorem dX4_parseHearing_27 : decode cX4_parseHearing 27 = .ok (.bipush 23, 2) := by decide +kernel
theorem dX4_parseHearing_29 : decode cX4_parseHearing 29 = .ok (.invokevirtual 63, 3) := by decide +kernel
theorem dX4_parseHearing_32 : decode cX4_parseHearing 32 = .ok (.aload_n 0, 1) := by decide +kernel
theorem dX4_parseHearing_33 : decode cX4_parseHearing 33 = .ok (.bipush 27, 2) := by decide +kernel
theorem dX4_parseHearing_35 : decode cX4_parseHearing 35 = .ok (.invokevirtual 63, 3) := by decide +kernel
theorem dX4_parseHearing_38 : decode cX4_parseHearing 38 = .ok (.return_, 1) := by decide +kernel
theorem dX4_parseMotion_0 : decode cX4_parseMotion 0 = .ok (.aload_n 0, 1) := by decide +kernel
theorem dX4_parseMotion_1 : decode cX4_parseMotion 1 = .ok (.aload_n 0, 1) := by decide +kernel
theorem dX4_parseMotion_2 : decode cX4_parseMotion 2 = .ok (.getfield 38, 3) := by decide +kernel
theorem dX4_parseMotion_5 : decode cX4_parseMotion 5 = .ok (.iconst 5, 1) := by decide +kernel
theorem dX4_parseMotion_6 : decode cX4_parseMotion 6 = .ok (.invokevirtual 66, 3) := by decide +kernel
theorem dX4_parseMotion_9 : decode cX4_parseMotion 9 = .ok (.aload_n 0, 1) := by decide +kernel
theorem dX4_parseMotion_10 : decode cX4_parseMotion 10 = .ok (.dup, 1) := by decide +kernel
theorem dX4_parseMotion_11 : decode cX4_parseMotion 11 = .ok (.getfield 38, 3) := by decide +kernel
theorem dX4_parseMotion_14 : decode cX4_parseMotion 14 = .ok (.iconst 1, 1) := by decide +kernel
theorem dX4_parseMotion_15 : decode cX4_parseMotion 15 = .ok (.iadd, 1) := by decide +kernel
theorem dX4_parseMotion_16 : decode cX4_parseMotion 16 = .ok (.putfield 38, 3) := by decide +kernel
theorem dX4_parseMotion_19 : decode cX4_parseMotion 19 = .ok (.aload_n 0, 1) := by decide +kernel
theorem dX4_parseMotion_20 : decode cX4_parseMotion 20 = .ok (.bipush 23, 2) := by decide +kernel
theorem dX4_parseMotion_22 : decode cX4_parseMotion 22 = .ok (.invokevirtual 63, 3) := by decide +kernel
theorem dX4_parseMotion_25 : decode cX4_parseMotion 25 = .ok (.iconst 0, 1) := by decide +kernel
theorem dX4_parseMotion_26 : decode cX4_parseMotion 26 = .ok (.istore_n 1, 1) := by decide +kernel
theorem dX4_parseMotion_27 : decode cX4_parseMotion 27 = .ok (.iload_n 1, 1) := by decide +kernel
theorem dX4_parseMotion_28 : decode cX4_parseMotion 28 = .ok (.sipush 400, 3) := by decide +kernel
theorem dX4_parseMotion_31 : decode cX4_parseMotion 31 = .ok (.if_icmp .gt 33, 3) := by decide +kernel
theorem dX4_parseMotion_34 : decode cX4_parseMotion 34 = .ok (.aload_n 0, 1) := by decide +kernel
theorem dX4_parseMotion_35 : decode cX4_parseMotion 35 = .ok (.getfield 41, 3) := by decide +kernel
theorem dX4_parseMotion_38 : decode cX4_parseMotion 38 = .ok (.ifCond .ne 26, 3) := by decide +kernel
theorem dX4_parseMotion_41 : decode cX4_parseMotion 41 = .ok (.aload_n 0, 1) := by decide +kernel
theorem dX4_parseMotion_42 : decode cX4_parseMotion 42 = .ok (.getfield 29, 3) := by decide +kernel
theorem dX4_parseMotion_45 : decode cX4_parseMotion 45 = .ok (.bipush 23, 2) := by decide +kernel
theorem dX4_parseMotion_47 : decode cX4_parseMotion 47 = .ok (.if_icmp .ne 17, 3) := by decide +kernel
theorem dX4_parseMotion_50 : decode cX4_parseMotion 50 = .ok (.aload_n 0, 1) := by decide +kernel
theorem dX4_parseMotion_51 : decode cX4_parseMotion 51 = .ok (.aload_n 0, 1) := by decide +kernel
theorem dX4_parseMotion_52 : decode cX4_parseMotion 52 = .ok (.getfield 29, 3) := by decide +kernel
theorem dX4_parseMotion_55 : decode cX4_parseMotion 55 = .ok (.invokevirtual 63, 3) := by decide +kernel
theorem dX4_parseMotion_58 : decode cX4_parseMotion 58 = .ok (.iinc 1 1, 3) := by decide +kernel
theorem dX4_parseMotion_61 : decode cX4_parseMotion 61 = .ok (.goto (-34), 3) := by decide +kernel
theorem dX4_parseMotion_64 : decode cX4_parseMotion 64 = .ok (.aload_n 0, 1) := by decide +kernel
theorem dX4_parseMotion_65 : decode cX4_parseMotion 65 = .ok (.bipush 27, 2) := by decide +kernel
theorem dX4_parseMotion_67 : decode cX4_parseMotion 67 = .ok (.invokevirtual 63, 3) := by decide +kernel
theorem dX4_parseMotion_70 : decode cX4_parseMotion 70 = .ok (.return_, 1) := by decide +kernel
theorem dX4_parseLaw_0 : decode cX4_parseLaw 0 = .ok (.aload_n 0, 1) := by decide +kernel
theorem dX4_parseLaw_1 : decode cX4_parseLaw 1 = .ok (.aload_n 0, 1) := by decide +kernel
theorem dX4_parseLaw_2 : decode cX4_parseLaw 2 = .ok (.getfield 29, 3) := by decide +kernel
theorem dX4_parseLaw_5 : decode cX4_parseLaw 5 = .ok (.invokevirtual 63, 3) := by decide +kernel
theorem dX4_parseLaw_8 : decode cX4_parseLaw 8 = .ok (.aload_n 0, 1) := by decide +kernel
theorem dX4_parseLaw_9 : decode cX4_parseLaw 9 = .ok (.bipush 28, 2) := by decide +kernel
theorem dX4_parseLaw_11 : decode cX4_parseLaw 11 = .ok (.invokevirtual 63, 3) := by decide +kernel
theorem dX4_parseLaw_14 : decode cX4_parseLaw 14 = .ok (.aload_n 0, 1) := by decide +kernel
theorem dX4_parseLaw_15 : decode cX4_parseLaw 15 = .ok (.getfield 15, 3) := by decide +kernel
theorem dX4_parseLaw_18 : decode cX4_parseLaw 18 = .ok (.iload_n 1, 1) := by decide +kernel
theorem dX4_parseLaw_19 : decode cX4_parseLaw 19 = .ok (.invokevirtual 72, 3) := by decide +kernel
theorem dX4_parseLaw_22 : decode cX4_parseLaw 22 = .ok (.iconst 0, 1) := by decide +kernel
theorem dX4_parseLaw_23 : decode cX4_parseLaw 23 = .ok (.istore_n 2, 1) := by decide +kernel
theorem dX4_parseLaw_24 : decode cX4_parseLaw 24 = .ok (.iload_n 2, 1) := by decide +kernel
theorem dX4_parseLaw_25 : decode cX4_parseLaw 25 = .ok (.iconst 4, 1) := by decide +kernel
theorem dX4_parseLaw_26 : decode cX4_parseLaw 26 = .ok (.if_icmp .gt 94, 3) := by decide +kernel
theorem dX4_parseLaw_29 : decode cX4_parseLaw 29 = .ok (.aload_n 0, 1) := by decide +kernel
theorem dX4_parseLaw_30 : decode cX4_parseLaw 30 = .ok (.getfield 41, 3) := by decide +kernel
theorem dX4_parseLaw_33 : decode cX4_parseLaw 33 = .ok (.ifCond .ne 87, 3) := by decide +kernel
theorem dX4_parseLaw_36 : decode cX4_parseLaw 36 = .ok (.aload_n 0, 1) := by decide +kernel
theorem dX4_parseLaw_37 : decode cX4_parseLaw 37 = .ok (.getfield 29, 3) := by decide +kernel
theorem dX4_parseLaw_40 : decode cX4_parseLaw 40 = .ok (.bipush 11, 2) := by decide +kernel
theorem dX4_parseLaw_42 : decode cX4_parseLaw 42 = .ok (.if_icmp .ne 78, 3) := by decide +kernel
theorem dX4_parseLaw_45 : decode cX4_parseLaw 45 = .ok (.aload_n 0, 1) := by decide +kernel
theorem dX4_parseLaw_46 : decode cX4_parseLaw 46 = .ok (.iload_n 2, 1) := by decide +kernel
theorem dX4_parseLaw_47 : decode cX4_parseLaw 47 = .ok (.iconst 4, 1) := by decide +kernel
theorem dX4_parseLaw_48 : decode cX4_parseLaw 48 = .ok (.invokevirtual 66, 3) := by decide +kernel
theorem dX4_parseLaw_51 : decode cX4_parseLaw 51 = .ok (.aload_n 0, 1) := by decide +kernel
theorem dX4_parseLaw_52 : decode cX4_parseLaw 52 = .ok (.iconst 0, 1) := by decide +kernel
theorem dX4_parseLaw_53 : decode cX4_parseLaw 53 = .ok (.invokevirtual 77, 3) := by decide +kernel
theorem dX4_parseLaw_56 : decode cX4_parseLaw 56 = .ok (.aload_n 0, 1) := by decide +kernel
theorem dX4_parseLaw_57 : decode cX4_parseLaw 57 = .ok (.bipush 33, 2) := by decide +kernel
theorem dX4_parseLaw_59 : decode cX4_parseLaw 59 = .ok (.invokevirtual 63, 3) := by decide +kernel
theorem dX4_parseLaw_62 : decode cX4_parseLaw 62 = .ok (.aload_n 0, 1) := by decide +kernel
theorem dX4_parseLaw_63 : decode cX4_parseLaw 63 = .ok (.iconst 0, 1) := by decide +kernel
theorem dX4_parseLaw_64 : decode cX4_parseLaw 64 = .ok (.invokevirtual 77, 3) := by decide +kernel
theorem dX4_parseLaw_67 : decode cX4_parseLaw 67 = .ok (.aload_n 0, 1) := by decide +kernel
theorem dX4_parseLaw_68 : decode cX4_parseLaw 68 = .ok (.bipush 12, 2) := by decide +kernel
theorem dX4_parseLaw_70 : decode cX4_parseLaw 70 = .ok (.invokevirtual 63, 3) := by decide +kernel
theorem dX4_parseLaw_73 : decode cX4_parseLaw 73 = .ok (.aload_n 0, 1) := by decide +kernel
theorem dX4_parseLaw_74 : decode cX4_parseLaw 74 = .ok (.getfield 15, 3) := by decide +kernel
theorem dX4_parseLaw_77 : decode cX4_parseLaw 77 = .ok (.bipush 6, 2) := by decide +kernel
theorem dX4_parseLaw_79 : decode cX4_parseLaw 79 = .ok (.iconst 0, 1) := by decide +kernel
theorem dX4_parseLaw_80 : decode cX4_parseLaw 80 = .ok (.invokevirtual 80, 3) := by decide +kernel
theorem dX4_parseLaw_83 : decode cX4_parseLaw 83 = .ok (.istore_n 3, 1) := by decide +kernel
theorem dX4_parseLaw_84 : decode cX4_parseLaw 84 = .ok (.aload_n 0, 1) := by decide +kernel
theorem dX4_parseLaw_85 : decode cX4_parseLaw 85 = .ok (.iconst 0, 1) := by decide +kernel
theorem dX4_parseLaw_86 : decode cX4_parseLaw 86 = .ok (.invokevirtual 77, 3) := by decide +kernel
theorem dX4_parseLaw_89 : decode cX4_parseLaw 89 = .ok (.aload_n 0, 1) := by decide +kernel
theorem dX4_parseLaw_90 : decode cX4_parseLaw 90 = .ok (.bipush 13, 2) := by decide +kernel
theorem dX4_parseLaw_92 : decode cX4_parseLaw 92 = .ok (.invokevirtual 63, 3) := by decide +kernel
theorem dX4_parseLaw_95 : decode cX4_parseLaw 95 = .ok (.aload_n 0, 1) := by decide +kernel
theorem dX4_parseLaw_96 : decode cX4_parseLaw 96 = .ok (.getfield 15, 3) := by decide +kernel
theorem dX4_parseLaw_99 : decode cX4_parseLaw 99 = .ok (.bipush 7, 2) := by decide +kernel
theorem dX4_parseLaw_101 : decode cX4_parseLaw 101 = .ok (.iconst 0, 1) := by decide +kernel
theorem dX4_parseLaw_102 : decode cX4_parseLaw 102 = .ok (.invokevirtual 80, 3) := by decide +kernel
theorem dX4_parseLaw_105 : decode cX4_parseLaw 105 = .ok (.pop, 1) := by decide +kernel
theorem dX4_parseLaw_106 : decode cX4_parseLaw 106 = .ok (.aload_n 0, 1) := by decide +kernel
theorem dX4_parseLaw_107 : decode cX4_parseLaw 107 = .ok (.getfield 15, 3) := by decide +kernel
theorem dX4_parseLaw_110 : decode cX4_parseLaw 110 = .ok (.iload_n 3, 1) := by decide +kernel
theorem dX4_parseLaw_111 : decode cX4_parseLaw 111 = .ok (.invokevirtual 84, 3) := by decide +kernel
theorem dX4_parseLaw_114 : decode cX4_parseLaw 114 = .ok (.iinc 2 1, 3) := by decide +kernel
theorem dX4_parseLaw_117 : decode cX4_parseLaw 117 = .ok (.goto (-93), 3) := by decide +kernel
theorem dX4_parseLaw_120 : decode cX4_parseLaw 120 = .ok (.aload_n 0, 1) := by decide +kernel
theorem dX4_parseLaw_121 : decode cX4_parseLaw 121 = .ok (.iconst 0, 1) := by decide +kernel
theorem dX4_parseLaw_122 : decode cX4_parseLaw 122 = .ok (.invokevirtual 77, 3) := by decide +kernel
theorem dX4_parseLaw_125 : decode cX4_parseLaw 125 = .ok (.aload_n 0, 1) := by decide +kernel
theorem dX4_parseLaw_126 : decode cX4_parseLaw 126 = .ok (.bipush 27, 2) := by decide +kernel
theorem dX4_parseLaw_128 : decode cX4_parseLaw 128 = .ok (.invokevirtual 63, 3) := by decide +kernel
theorem dX4_parseLaw_131 : decode cX4_parseLaw 131 = .ok (.aload_n 0, 1) := by decide +kernel
theorem dX4_parseLaw_132 : decode cX4_parseLaw 132 = .ok (.getfield 15, 3) := by decide +kernel
theorem dX4_parseLaw_135 : decode cX4_parseLaw 135 = .ok (.bipush 7, 2) := by decide +kernel
theorem dX4_parseLaw_137 : decode cX4_parseLaw 137 = .ok (.iconst 0, 1) := by decide +kernel
theorem dX4_parseLaw_138 : decode cX4_parseLaw 138 = .ok (.invokevirtual 80, 3) := by decide +kernel
theorem dX4_parseLaw_141 : decode cX4_parseLaw 141 = .ok (.pop, 1) := by decide +kernel
theorem dX4_parseLaw_142 : decode cX4_parseLaw 142 = .ok (.return_, 1) := by decide +kernel
theorem dX4_parseSum_0 : decode cX4_parseSum 0 = .ok (.aload_n 0, 1) := by decide +kernel
theorem dX4_parseSum_1 : decode cX4_parseSum 1 = .ok (.iload_n 1, 1) := by decide +kernel
theorem dX4_parseSum_2 : decode cX4_parseSum 2 = .ok (.invokevirtual 87, 3) := by decide +kernel
theorem dX4_parseSum_5 : decode cX4_parseSum 5 = .ok (.iconst 0, 1) := by decide +kernel
theorem dX4_parseSum_6 : decode cX4_parseSum 6 = .ok (.istore_n 2, 1) := by decide +kernel
theorem dX4_parseSum_7 : decode cX4_parseSum 7 = .ok (.iload_n 2, 1) := by decide +kernel
theorem dX4_parseSum_8 : decode cX4_parseSum 8 = .ok (.sipush 400, 3) := by decide +kernel
theorem dX4_parseSum_11 : decode cX4_parseSum 11 = .ok (.if_icmp .gt 65, 3) := by decide +kernel
theorem dX4_parseSum_14 : decode cX4_parseSum 14 = .ok (.aload_n 0, 1) := by decide +kernel
theorem dX4_parseSum_15 : decode cX4_parseSum 15 = .ok (.getfield 41, 3) := by decide +kernel
theorem dX4_parseSum_18 : decode cX4_parseSum 18 = .ok (.ifCond .ne 58, 3) := by decide +kernel
theorem dX4_parseSum_21 : decode cX4_parseSum 21 = .ok (.aload_n 0, 1) := by decide +kernel
theorem dX4_parseSum_22 : decode cX4_parseSum 22 = .ok (.bipush 29, 2) := by decide +kernel
theorem dX4_parseSum_24 : decode cX4_parseSum 24 = .ok (.bipush 30, 2) := by decide +kernel
theorem dX4_parseSum_26 : decode cX4_parseSum 26 = .ok (.invokevirtual 90, 3) := by decide +kernel
theorem dX4_parseSum_29 : decode cX4_parseSum 29 = .ok (.ifCond .eq 47, 3) := by decide +kernel
theorem dX4_parseSum_32 : decode cX4_parseSum 32 = .ok (.aload_n 0, 1) := by decide +kernel
theorem dX4_parseSum_33 : decode cX4_parseSum 33 = .ok (.getfield 29, 3) := by decide +kernel
theorem dX4_parseSum_36 : decode cX4_parseSum 36 = .ok (.bipush 29, 2) := by decide +kernel
theorem dX4_parseSum_38 : decode cX4_parseSum 38 = .ok (.if_icmp .ne 7, 3) := by decide +kernel
theorem dX4_parseSum_41 : decode cX4_parseSum 41 = .ok (.iconst 2, 1) := by decide +kernel
theorem dX4_parseSum_42 : decode cX4_parseSum 42 = .ok (.goto 4, 3) := by decide +kernel
theorem dX4_parseSum_45 : decode cX4_parseSum 45 = .ok (.iconst 3, 1) := by decide +kernel
theorem dX4_parseSum_46 : decode cX4_parseSum 46 = .ok (.istore_n 3, 1) := by decide +kernel
theorem dX4_parseSum_47 : decode cX4_parseSum 47 = .ok (.aload_n 0, 1) := by decide +kernel
theorem dX4_parseSum_48 : decode cX4_parseSum 48 = .ok (.aload_n 0, 1) := by decide +kernel
theorem dX4_parseSum_49 : decode cX4_parseSum 49 = .ok (.getfield 29, 3) := by decide +kernel
theorem dX4_parseSum_52 : decode cX4_parseSum 52 = .ok (.invokevirtual 63, 3) := by decide +kernel
theorem dX4_parseSum_55 : decode cX4_parseSum 55 = .ok (.aload_n 0, 1) := by decide +kernel
theorem dX4_parseSum_56 : decode cX4_parseSum 56 = .ok (.iload_n 1, 1) := by decide +kernel
theorem dX4_parseSum_57 : decode cX4_parseSum 57 = .ok (.invokevirtual 87, 3) := by decide +kernel
theorem dX4_parseSum_60 : decode cX4_parseSum 60 = .ok (.aload_n 0, 1) := by decide +kernel
theorem dX4_parseSum_61 : decode cX4_parseSum 61 = .ok (.getfield 15, 3) := by decide +kernel
theorem dX4_parseSum_64 : decode cX4_parseSum 64 = .ok (.iload_n 3, 1) := by decide +kernel
theorem dX4_parseSum_65 : decode cX4_parseSum 65 = .ok (.iconst 0, 1) := by decide +kernel
theorem dX4_parseSum_66 : decode cX4_parseSum 66 = .ok (.invokevirtual 80, 3) := by decide +kernel
theorem dX4_parseSum_69 : decode cX4_parseSum 69 = .ok (.pop, 1) := by decide +kernel
theorem dX4_parseSum_70 : decode cX4_parseSum 70 = .ok (.iinc 2 1, 3) := by decide +kernel
theorem dX4_parseSum_73 : decode cX4_parseSum 73 = .ok (.goto (-66), 3) := by decide +kernel
theorem dX4_parseSum_76 : decode cX4_parseSum 76 = .ok (.return_, 1) := by decide +kernel
theorem dX4_parseProduct_0 : decode cX4_parseProduct 0 = .ok (.aload_n 0, 1) := by decide +kernel
theorem dX4_parseProduct_1 : decode cX4_parseProduct 1 = .ok (.iload_n 1, 1) := by decide +kernel
theorem dX4_parseProduct_2 : decode cX4_parseProduct 2 = .ok (.invokevirtual 94, 3) := by decide +kernel
theorem dX4_parseProduct_5 : decode cX4_parseProduct 5 = .ok (.iconst 0, 1) := by decide +kernel
theorem dX4_parseProduct_6 : decode cX4_parseProduct 6 = .ok (.istore_n 2, 1) := by decide +kernel
theorem dX4_parseProduct_7 : decode cX4_parseProduct 7 = .ok (.iload_n 2, 1) := by decide +kernel
theorem dX4_parseProduct_8 : decode cX4_parseProduct 8 = .ok (.sipush 400, 3) := by decide +kernel
theorem dX4_parseProduct_11 : decode cX4_parseProduct 11 = .ok (.if_icmp .gt 65, 3) := by decide +kernel
theorem dX4_parseProduct_14 : decode cX4_parseProduct 14 = .ok (.aload_n 0, 1) := by decide +kernel
theorem dX4_parseProduct_15 : decode cX4_parseProduct 15 = .ok (.getfield 41, 3) := by decide +kernel
theorem dX4_parseProduct_18 : decode cX4_parseProduct 18 = .ok (.ifCond .ne 58, 3) := by decide +kernel
theorem dX4_parseProduct_21 : decode cX4_parseProduct 21 = .ok (.aload_n 0, 1) := by decide +kernel
theorem dX4_parseProduct_22 : decode cX4_parseProduct 22 = .ok (.bipush 31, 2) := by decide +kernel
theorem dX4_parseProduct_24 : decode cX4_parseProduct 24 = .ok (.bipush 32, 2) := by decide +kernel
theorem dX4_parseProduct_26 : decode cX4_parseProduct 26 = .ok (.invokevirtual 90, 3) := by decide +kernel
theorem dX4_parseProduct_29 : decode cX4_parseProduct 29 = .ok (.ifCond .eq 47, 3) := by decide +kernel
theorem dX4_parseProduct_32 : decode cX4_parseProduct 32 = .ok (.aload_n 0, 1) := by decide +kernel
theorem dX4_parseProduct_33 : decode cX4_parseProduct 33 = .ok (.getfield 29, 3) := by decide +kernel
theorem dX4_parseProduct_36 : decode cX4_parseProduct 36 = .ok (.bipush 31, 2) := by decide +kernel
theorem dX4_parseProduct_38 : decode cX4_parseProduct 38 = .ok (.if_icmp .ne 7, 3) := by decide +kernel
theorem dX4_parseProduct_41 : decode cX4_parseProduct 41 = .ok (.iconst 4, 1) := by decide +kernel
theorem dX4_parseProduct_42 : decode cX4_parseProduct 42 = .ok (.goto 4, 3) := by decide +kernel
theorem dX4_parseProduct_45 : decode cX4_parseProduct 45 = .ok (.iconst 5, 1) := by decide +kernel
theorem dX4_parseProduct_46 : decode cX4_parseProduct 46 = .ok (.istore_n 3, 1) := by decide +kernel
theorem dX4_parseProduct_47 : decode cX4_parseProduct 47 = .ok (.aload_n 0, 1) := by decide +kernel
theorem dX4_parseProduct_48 : decode cX4_parseProduct 48 = .ok (.aload_n 0, 1) := by decide +kernel
theorem dX4_parseProduct_49 : decode cX4_parseProduct 49 = .ok (.getfield 29, 3) := by decide +kernel
theorem dX4_parseProduct_52 : decode cX4_parseProduct 52 = .ok (.invokevirtual 63, 3) := by decide +kernel
theorem dX4_parseProduct_55 : decode cX4_parseProduct 55 = .ok (.aload_n 0, 1) := by decide +kernel
theorem dX4_parseProduct_56 : decode cX4_parseProduct 56 = .ok (.iload_n 1, 1) := by decide +kernel
theorem dX4_parseProduct_57 : decode cX4_parseProduct 57 = .ok (.invokevirtual 94, 3) := by decide +kernel
theorem dX4_parseProduct_60 : decode cX4_parseProduct 60 = .ok (.aload_n 0, 1) := by decide +kernel
theorem dX4_parseProduct_61 : decode cX4_parseProduct 61 = .ok (.getfield 15, 3) := by decide +kernel
theorem dX4_parseProduct_64 : decode cX4_parseProduct 64 = .ok (.iload_n 3, 1) := by decide +kernel
theorem dX4_parseProduct_65 : decode cX4_parseProduct 65 = .ok (.iconst 0, 1) := by decide +kernel
theorem dX4_parseProduct_66 : decode cX4_parseProduct 66 = .ok (.invokevirtual 80, 3) := by decide +kernel
theorem dX4_parseProduct_69 : decode cX4_parseProduct 69 = .ok (.pop, 1) := by decide +kernel
theorem dX4_parseProduct_70 : decode cX4_parseProduct 70 = .ok (.iinc 2 1, 3) := by decide +kernel
theorem dX4_parseProduct_73 : decode cX4_parseProduct 73 = .ok (.goto (-66), 3) := by decide +kernel
theorem dX4_parseProduct_76 : decode cX4_parseProduct 76 = .ok (.return_, 1) := by decide +kernel
theorem dX4_isOne_0 : decode cX4_isOne 0 = .ok (.aload_n 0, 1) := by decide +kernel
theorem dX4_isOne_1 : decode cX4_isOne 1 = .ok (.getfield 29, 3) := by decide +kernel
theorem dX4_isOne_4 : decode cX4_isOne 4 = .ok (.iload_n 1, 1) := by decide +kernel
theorem dX4_isOne_5 : decode cX4_isOne 5 = .ok (.if_icmp .eq 11, 3) := by decide +kernel
theorem dX4_isOne_8 : decode cX4_isOne 8 = .ok (.aload_n 0, 1) := by decide +kernel
theorem dX4_isOne_9 : decode cX4_isOne 9 = .ok (.getfield 29, 3) := by decide +kernel
theorem dX4_isOne_12 : decode cX4_isOne 12 = .ok (.iload_n 2, 1) := by decide +kernel
theorem dX4_isOne_13 : decode cX4_isOne 13 = .ok (.if_icmp .ne 7, 3) := by decide +kernel
theorem dX4_isOne_16 : decode cX4_isOne 16 = .ok (.iconst 1, 1) := by decide +kernel
theorem dX4_isOne_17 : decode cX4_isOne 17 = .ok (.goto 4, 3) := by decide +kernel
theorem dX4_isOne_20 : decode cX4_isOne 20 = .ok (.iconst 0, 1) := by decide +kernel
theorem dX4_isOne_21 : decode cX4_isOne 21 = .ok (.ireturn, 1) := by decide +kernel
theorem dX4_parseUnit_0 : decode cX4_parseUnit 0 = .ok (.aload_n 0, 1) := by decide +kernel
theorem dX4_parseUnit_1 : decode cX4_parseUnit 1 = .ok (.getfield 41, 3) := by decide +kernel
theorem dX4_parseUnit_4 : decode cX4_parseUnit 4 = .ok (.ifCond .eq 4, 3) := by decide +kernel
theorem dX4_parseUnit_7 : decode cX4_parseUnit 7 = .ok (.return_, 1) := by decide +kernel
theorem dX4_parseUnit_8 : decode cX4_parseUnit 8 = .ok (.aload_n 0, 1) := by decide +kernel
theorem dX4_parseUnit_9 : decode cX4_parseUnit 9 = .ok (.getfield 29, 3) := by decide +kernel
theorem dX4_parseUnit_12 : decode cX4_parseUnit 12 = .ok (.bipush 24, 2) := by decide +kernel
theorem dX4_parseUnit_14 : decode cX4_parseUnit 14 = .ok (.if_icmp .ne 34, 3) := by decide +kernel
theorem dX4_parseUnit_17 : decode cX4_parseUnit 17 = .ok (.aload_n 0, 1) := by decide +kernel
theorem dX4_parseUnit_18 : decode cX4_parseUnit 18 = .ok (.getfield 15, 3) := by decide +kernel
theorem dX4_parseUnit_21 : decode cX4_parseUnit 21 = .ok (.iconst 0, 1) := by decide +kernel
theorem dX4_parseUnit_22 : decode cX4_parseUnit 22 = .ok (.aload_n 0, 1) := by decide +kernel
theorem dX4_parseUnit_23 : decode cX4_parseUnit 23 = .ok (.getfield 9, 3) := by decide +kernel
theorem dX4_parseUnit_26 : decode cX4_parseUnit 26 = .ok (.aload_n 0, 1) := by decide +kernel
theorem dX4_parseUnit_27 : decode cX4_parseUnit 27 = .ok (.getfield 19, 3) := by decide +kernel
theorem dX4_parseUnit_30 : decode cX4_parseUnit 30 = .ok (.invokevirtual 97, 3) := by decide +kernel
theorem dX4_parseUnit_33 : decode cX4_parseUnit 33 = .ok (.invokevirtual 80, 3) := by decide +kernel
theorem dX4_parseUnit_36 : decode cX4_parseUnit 36 = .ok (.pop, 1) := by decide +kernel
theorem dX4_parseUnit_37 : decode cX4_parseUnit 37 = .ok (.aload_n 0, 1) := by decide +kernel
theorem dX4_parseUnit_38 : decode cX4_parseUnit 38 = .ok (.aload_n 0, 1) := by decide +kernel
theorem dX4_parseUnit_39 : decode cX4_parseUnit 39 = .ok (.getfield 29, 3) := by decide +kernel
theorem dX4_parseUnit_42 : decode cX4_parseUnit 42 = .ok (.invokevirtual 63, 3) := by decide +kernel
theorem dX4_parseUnit_45 : decode cX4_parseUnit 45 = .ok (.goto 100, 3) := by decide +kernel
theorem dX4_parseUnit_48 : decode cX4_parseUnit 48 = .ok (.aload_n 0, 1) := by decide +kernel
theorem dX4_parseUnit_49 : decode cX4_parseUnit 49 = .ok (.getfield 29, 3) := by decide +kernel
theorem dX4_parseUnit_52 : decode cX4_parseUnit 52 = .ok (.bipush 14, 2) := by decide +kernel
theorem dX4_parseUnit_54 : decode cX4_parseUnit 54 = .ok (.if_icmp .lt 39, 3) := by decide +kernel
theorem dX4_parseUnit_57 : decode cX4_parseUnit 57 = .ok (.aload_n 0, 1) := by decide +kernel
theorem dX4_parseUnit_58 : decode cX4_parseUnit 58 = .ok (.getfield 29, 3) := by decide +kernel
theorem dX4_parseUnit_61 : decode cX4_parseUnit 61 = .ok (.bipush 22, 2) := by decide +kernel
theorem dX4_parseUnit_63 : decode cX4_parseUnit 63 = .ok (.if_icmp .gt 30, 3) := by decide +kernel
theorem dX4_parseUnit_66 : decode cX4_parseUnit 66 = .ok (.aload_n 0, 1) := by decide +kernel
theorem dX4_parseUnit_67 : decode cX4_parseUnit 67 = .ok (.getfield 15, 3) := by decide +kernel
theorem dX4_parseUnit_70 : decode cX4_parseUnit 70 = .ok (.iconst 1, 1) := by decide +kernel
theorem dX4_parseUnit_71 : decode cX4_parseUnit 71 = .ok (.aload_n 0, 1) := by decide +kernel
theorem dX4_parseUnit_72 : decode cX4_parseUnit 72 = .ok (.getfield 29, 3) := by decide +kernel
theorem dX4_parseUnit_75 : decode cX4_parseUnit 75 = .ok (.bipush 14, 2) := by decide +kernel
theorem dX4_parseUnit_77 : decode cX4_parseUnit 77 = .ok (.isub, 1) := by decide +kernel
theorem dX4_parseUnit_78 : decode cX4_parseUnit 78 = .ok (.invokevirtual 80, 3) := by decide +kernel
theorem dX4_parseUnit_81 : decode cX4_parseUnit 81 = .ok (.pop, 1) := by decide +kernel
theorem dX4_parseUnit_82 : decode cX4_parseUnit 82 = .ok (.aload_n 0, 1) := by decide +kernel
theorem dX4_parseUnit_83 : decode cX4_parseUnit 83 = .ok (.aload_n 0, 1) := by decide +kernel
theorem dX4_parseUnit_84 : decode cX4_parseUnit 84 = .ok (.getfield 29, 3) := by decide +kernel
theorem dX4_parseUnit_87 : decode cX4_parseUnit 87 = .ok (.invokevirtual 63, 3) := by decide +kernel
theorem dX4_parseUnit_90 : decode cX4_parseUnit 90 = .ok (.goto 55, 3) := by decide +kernel
theorem dX4_parseUnit_93 : decode cX4_parseUnit 93 = .ok (.aload_n 0, 1) := by decide +kernel
theorem dX4_parseUnit_94 : decode cX4_parseUnit 94 = .ok (.getfield 29, 3) := by decide +kernel
theorem dX4_parseUnit_97 : decode cX4_parseUnit 97 = .ok (.bipush 34, 2) := by decide +kernel
theorem dX4_parseUnit_99 : decode cX4_parseUnit 99 = .ok (.if_icmp .eq 11, 3) := by decide +kernel
theorem dX4_parseUnit_102 : decode cX4_parseUnit 102 = .ok (.aload_n 0, 1) := by decide +kernel
theorem dX4_parseUnit_103 : decode cX4_parseUnit 103 = .ok (.iconst 1, 1) := by decide +kernel
theorem dX4_parseUnit_104 : decode cX4_parseUnit 104 = .ok (.invokevirtual 60, 3) := by decide +kernel
theorem dX4_parseUnit_107 : decode cX4_parseUnit 107 = .ok (.goto 38, 3) := by decide +kernel
theorem dX4_parseUnit_110 : decode cX4_parseUnit 110 = .ok (.iload_n 1, 1) := by decide +kernel
theorem dX4_parseUnit_111 : decode cX4_parseUnit 111 = .ok (.bipush 6, 2) := by decide +kernel
theorem dX4_parseUnit_113 : decode cX4_parseUnit 113 = .ok (.if_icmp .lt 11, 3) := by decide +kernel
theorem dX4_parseUnit_116 : decode cX4_parseUnit 116 = .ok (.aload_n 0, 1) := by decide +kernel
theorem dX4_parseUnit_117 : decode cX4_parseUnit 117 = .ok (.iconst 2, 1) := by decide +kernel
theorem dX4_parseUnit_118 : decode cX4_parseUnit 118 = .ok (.invokevirtual 60, 3) := by decide +kernel
theorem dX4_parseUnit_121 : decode cX4_parseUnit 121 = .ok (.goto 24, 3) := by decide +kernel
theorem dX4_parseUnit_124 : decode cX4_parseUnit 124 = .ok (.aload_n 0, 1) := by decide +kernel
theorem dX4_parseUnit_125 : decode cX4_parseUnit 125 = .ok (.aload_n 0, 1) := by decide +kernel
theorem dX4_parseUnit_126 : decode cX4_parseUnit 126 = .ok (.getfield 29, 3) := by decide +kernel
theorem dX4_parseUnit_129 : decode cX4_parseUnit 129 = .ok (.invokevirtual 63, 3) := by decide +kernel
theorem dX4_parseUnit_132 : decode cX4_parseUnit 132 = .ok (.aload_n 0, 1) := by decide +kernel
theorem dX4_parseUnit_133 : decode cX4_parseUnit 133 = .ok (.iload_n 1, 1) := by decide +kernel
theorem dX4_parseUnit_134 : decode cX4_parseUnit 134 = .ok (.iconst 1, 1) := by decide +kernel
theorem dX4_parseUnit_135 : decode cX4_parseUnit 135 = .ok (.iadd, 1) := by decide +kernel
theorem dX4_parseUnit_136 : decode cX4_parseUnit 136 = .ok (.invokevirtual 77, 3) := by decide +kernel
theorem dX4_parseUnit_139 : decode cX4_parseUnit 139 = .ok (.aload_n 0, 1) := by decide +kernel
theorem dX4_parseUnit_140 : decode cX4_parseUnit 140 = .ok (.bipush 35, 2) := by decide +kernel
theorem dX4_parseUnit_142 : decode cX4_parseUnit 142 = .ok (.invokevirtual 63, 3) := by decide +kernel
theorem dX4_parseUnit_145 : decode cX4_parseUnit 145 = .ok (.return_, 1) := by decide +kernel
theorem dX5_init_0 : decode cX5_init 0 = .ok (.aload_n 0, 1) := by decide +kernel
theorem dX5_init_1 : decode cX5_init 1 = .ok (.invokespecial 1, 3) := by decide +kernel
theorem dX5_init_4 : decode cX5_init 4 = .ok (.aload_n 0, 1) := by decide +kernel
theorem dX5_init_5 : decode cX5_init 5 = .ok (.sipush 1520, 3) := by decide +kernel
theorem dX5_init_8 : decode cX5_init 8 = .ok (.newarray .int, 2) := by decide +kernel
theorem dX5_init_10 : decode cX5_init 10 = .ok (.putfield 11, 3) := by decide +kernel
theorem dX5_init_13 : decode cX5_init 13 = .ok (.aload_n 0, 1) := by decide +kernel
theorem dX5_init_14 : decode cX5_init 14 = .ok (.bipush 114, 2) := by decide +kernel
theorem dX5_init_16 : decode cX5_init 16 = .ok (.newarray .int, 2) := by decide +kernel
theorem dX5_init_18 : decode cX5_init 18 = .ok (.putfield 15, 3) := by decide +kernel
theorem dX5_init_21 : decode cX5_init 21 = .ok (.aload_n 0, 1) := by decide +kernel
theorem dX5_init_22 : decode cX5_init 22 = .ok (.iconst 3, 1) := by decide +kernel
theorem dX5_init_23 : decode cX5_init 23 = .ok (.newarray .boolean, 2) := by decide +kernel
theorem dX5_init_25 : decode cX5_init 25 = .ok (.putfield 18, 3) := by decide +kernel
theorem dX5_init_28 : decode cX5_init 28 = .ok (.return_, 1) := by decide +kernel
theorem dX5_clear_0 : decode cX5_clear 0 = .ok (.aload_n 0, 1) := by decide +kernel
theorem dX5_clear_1 : decode cX5_clear 1 = .ok (.iconst 0, 1) := by decide +kernel
theorem dX5_clear_2 : decode cX5_clear 2 = .ok (.putfield 22, 3) := by decide +kernel
theorem dX5_clear_5 : decode cX5_clear 5 = .ok (.iconst 0, 1) := by decide +kernel
theorem dX5_clear_6 : decode cX5_clear 6 = .ok (.istore_n 1, 1) := by decide +kernel
theorem dX5_clear_7 : decode cX5_clear 7 = .ok (.iload_n 1, 1) := by decide +kernel
theorem dX5_clear_8 : decode cX5_clear 8 = .ok (.iconst 3, 1) := by decide +kernel
theorem dX5_clear_9 : decode cX5_clear 9 = .ok (.if_icmp .ge 16, 3) := by decide +kernel
theorem dX5_clear_12 : decode cX5_clear 12 = .ok (.aload_n 0, 1) := by decide +kernel
theorem dX5_clear_13 : decode cX5_clear 13 = .ok (.getfield 18, 3) := by decide +kernel
theorem dX5_clear_16 : decode cX5_clear 16 = .ok (.iload_n 1, 1) := by decide +kernel
theorem dX5_clear_17 : decode cX5_clear 17 = .ok (.iconst 0, 1) := by decide +kernel
theorem dX5_clear_18 : decode cX5_clear 18 = .ok (.bastore, 1) := by decide +kernel
theorem dX5_clear_19 : decode cX5_clear 19 = .ok (.iinc 1 1, 3) := by decide +kernel
theorem dX5_clear_22 : decode cX5_clear 22 = .ok (.goto (-15), 3) := by decide +kernel
theorem dX5_clear_25 : decode cX5_clear 25 = .ok (.return_, 1) := by decide +kernel
theorem dX5_keep_0 : decode cX5_keep 0 = .ok (.aload_n 1, 1) := by decide +kernel
theorem dX5_keep_1 : decode cX5_keep 1 = .ok (.aload_n 0, 1) := by decide +kernel
theorem dX5_keep_2 : decode cX5_keep 2 = .ok (.getfield 11, 3) := by decide +kernel
theorem dX5_keep_5 : decode cX5_keep 5 = .ok (.aload_n 0, 1) := by decide +kernel
theorem dX5_keep_6 : decode cX5_keep 6 = .ok (.aload_n 0, 1) := by decide +kernel
theorem dX5_keep_7 : decode cX5_keep 7 = .ok (.getfield 22, 3) := by decide +kernel
theorem dX5_keep_10 : decode cX5_keep 10 = .ok (.invokevirtual 26, 3) := by decide +kernel
theorem dX5_keep_13 : decode cX5_keep 13 = .ok (.bipush 38, 2) := by decide +kernel
theorem dX5_keep_15 : decode cX5_keep 15 = .ok (.imul, 1) := by decide +kernel
theorem dX5_keep_16 : decode cX5_keep 16 = .ok (.invokevirtual 30, 3) := by decide +kernel
theorem dX5_keep_19 : decode cX5_keep 19 = .ok (.aload_n 0, 1) := by decide +kernel
theorem dX5_keep_20 : decode cX5_keep 20 = .ok (.getfield 22, 3) := by decide +kernel
theorem dX5_keep_23 : decode cX5_keep 23 = .ok (.bipush 40, 2) := by decide +kernel
theorem dX5_keep_25 : decode cX5_keep 25 = .ok (.if_icmp .ge 16, 3) := by decide +kernel
theorem dX5_keep_28 : decode cX5_keep 28 = .ok (.aload_n 0, 1) := by decide +kernel
theorem dX5_keep_29 : decode cX5_keep 29 = .ok (.dup, 1) := by decide +kernel
theorem dX5_keep_30 : decode cX5_keep 30 = .ok (.getfield 22, 3) := by decide +kernel
theorem dX5_keep_33 : decode cX5_keep 33 = .ok (.iconst 1, 1) := by decide +kernel
theorem dX5_keep_34 : decode cX5_keep 34 = .ok (.iadd, 1) := by decide +kernel
theorem dX5_keep_35 : decode cX5_keep 35 = .ok (.putfield 22, 3) := by decide +kernel
theorem dX5_keep_38 : decode cX5_keep 38 = .ok (.goto 12, 3) := by decide +kernel
theorem dX5_keep_41 : decode cX5_keep 41 = .ok (.aload_n 0, 1) := by decide +kernel
theorem dX5_keep_42 : decode cX5_keep 42 = .ok (.aload_n 0, 1) := by decide +kernel
theorem dX5_keep_43 : decode cX5_keep 43 = .ok (.iconst 1, 1) := by decide +kernel
theorem dX5_keep_44 : decode cX5_keep 44 = .ok (.invokevirtual 26, 3) := by decide +kernel
theorem dX5_keep_47 : decode cX5_keep 47 = .ok (.putfield 34, 3) := by decide +kernel
theorem dX5_keep_50 : decode cX5_keep 50 = .ok (.return_, 1) := by decide +kernel
theorem dX5_bringBack_0 : decode cX5_bringBack 0 = .ok (.aload_n 0, 1) := by decide +kernel
theorem dX5_bringBack_1 : decode cX5_bringBack 1 = .ok (.getfield 22, 3) := by decide +kernel
theorem dX5_bringBack_4 : decode cX5_bringBack 4 = .ok (.iconst 1, 1) := by decide +kernel
theorem dX5_bringBack_5 : decode cX5_bringBack 5 = .ok (.if_icmp .ge 5, 3) := by decide +kernel
theorem dX5_bringBack_8 : decode cX5_bringBack 8 = .ok (.iconst 0, 1) := by decide +kernel
theorem dX5_bringBack_9 : decode cX5_bringBack 9 = .ok (.ireturn, 1) := by decide +kernel
theorem dX5_bringBack_10 : decode cX5_bringBack 10 = .ok (.aload_n 0, 1) := by decide +kernel
theorem dX5_bringBack_11 : decode cX5_bringBack 11 = .ok (.dup, 1) := by decide +kernel
theorem dX5_bringBack_12 : decode cX5_bringBack 12 = .ok (.getfield 22, 3) := by decide +kernel
theorem dX5_bringBack_15 : decode cX5_bringBack 15 = .ok (.iconst 1, 1) := by decide +kernel
theorem dX5_bringBack_16 : decode cX5_bringBack 16 = .ok (.isub, 1) := by decide +kernel
theorem dX5_bringBack_17 : decode cX5_bringBack 17 = .ok (.putfield 22, 3) := by decide +kernel
theorem dX5_bringBack_20 : decode cX5_bringBack 20 = .ok (.aload_n 1, 1) := by decide +kernel
theorem dX5_bringBack_21 : decode cX5_bringBack 21 = .ok (.aload_n 0, 1) := by decide +kernel
theorem dX5_bringBack_22 : decode cX5_bringBack 22 = .ok (.getfield 11, 3) := by decide +kernel
theorem dX5_bringBack_25 : decode cX5_bringBack 25 = .ok (.aload_n 0, 1) := by decide +kernel
theorem dX5_bringBack_26 : decode cX5_bringBack 26 = .ok (.aload_n 0, 1) := by decide +kernel
theorem dX5_bringBack_27 : decode cX5_bringBack 27 = .ok (.getfield 22, 3) := by decide +kernel
theorem dX5_bringBack_30 : decode cX5_bringBack 30 = .ok (.invokevirtual 26, 3) := by decide +kernel
theorem dX5_bringBack_33 : decode cX5_bringBack 33 = .ok (.bipush 38, 2) := by decide +kernel
theorem dX5_bringBack_35 : decode cX5_bringBack 35 = .ok (.imul, 1) := by decide +kernel
theorem dX5_bringBack_36 : decode cX5_bringBack 36 = .ok (.invokevirtual 37, 3) := by decide +kernel
theorem dX5_bringBack_39 : decode cX5_bringBack 39 = .ok (.iconst 1, 1) := by decide +kernel
theorem dX5_bringBack_40 : decode cX5_bringBack 40 = .ok (.ireturn, 1) := by decide +kernel
theorem dX5_rowOf_0 : decode cX5_rowOf 0 = .ok (.aload_n 0, 1) := by decide +kernel
theorem dX5_rowOf_1 : decode cX5_rowOf 1 = .ok (.getfield 34, 3) := by decide +kernel
theorem dX5_rowOf_4 : decode cX5_rowOf 4 = .ok (.iload_n 1, 1) := by decide +kernel
theorem dX5_rowOf_5 : decode cX5_rowOf 5 = .ok (.iadd, 1) := by decide +kernel
theorem dX5_rowOf_6 : decode cX5_rowOf 6 = .ok (.bipush 40, 2) := by decide +kernel
theorem dX5_rowOf_8 : decode cX5_rowOf 8 = .ok (.irem, 1) := by decide +kernel
theorem dX5_rowOf_9 : decode cX5_rowOf 9 = .ok (.ireturn, 1) := by decide +kernel
theorem dX5_store_0 : decode cX5_store 0 = .ok (.iload_n 1, 1) := by decide +kernel
theorem dX5_store_1 : decode cX5_store 1 = .ok (.ifCond .lt 8, 3) := by decide +kernel
theorem dX5_store_4 : decode cX5_store 4 = .ok (.iload_n 1, 1) := by decide +kernel
theorem dX5_store_5 : decode cX5_store 5 = .ok (.iconst 3, 1) := by decide +kernel
theorem dX5_store_6 : decode cX5_store 6 = .ok (.if_icmp .lt 5, 3) := by decide +kernel
theorem dX5_store_9 : decode cX5_store 9 = .ok (.iconst 0, 1) := by decide +kernel
theorem dX5_store_10 : decode cX5_store 10 = .ok (.ireturn, 1) := by decide +kernel
theorem dX5_store_11 : decode cX5_store 11 = .ok (.aload_n 2, 1) := by decide +kernel
theorem dX5_store_12 : decode cX5_store 12 = .ok (.aload_n 0, 1) := by decide +kernel
theorem dX5_store_13 : decode cX5_store 13 = .ok (.getfield 15, 3) := by decide +kernel
theorem dX5_store_16 : decode cX5_store 16 = .ok (.iload_n 1, 1) := by decide +kernel
theorem dX5_store_17 : decode cX5_store 17 = .ok (.bipush 38, 2) := by decide +kernel
theorem dX5_store_19 : decode cX5_store 19 = .ok (.imul, 1) := by decide +kernel
theorem dX5_store_20 : decode cX5_store 20 = .ok (.invokevirtual 30, 3) := by decide +kernel
theorem dX5_store_23 : decode cX5_store 23 = .ok (.aload_n 0, 1) := by decide +kernel
theorem dX5_store_24 : decode cX5_store 24 = .ok (.getfield 18, 3) := by decide +kernel
theorem dX5_store_27 : decode cX5_store 27 = .ok (.iload_n 1, 1) := by decide +kernel
theorem dX5_store_28 : decode cX5_store 28 = .ok (.iconst 1, 1) := by decide +kernel
theorem dX5_store_29 : decode cX5_store 29 = .ok (.bastore, 1) := by decide +kernel
theorem dX5_store_30 : decode cX5_store 30 = .ok (.iconst 1, 1) := by decide +kernel
theorem dX5_store_31 : decode cX5_store 31 = .ok (.ireturn, 1) := by decide +kernel
theorem dX5_fetch_0 : decode cX5_fetch 0 = .ok (.iload_n 1, 1) := by decide +kernel
theorem dX5_fetch_1 : decode cX5_fetch 1 = .ok (.ifCond .lt 17, 3) := by decide +kernel
theorem dX5_fetch_4 : decode cX5_fetch 4 = .ok (.iload_n 1, 1) := by decide +kernel
theorem dX5_fetch_5 : decode cX5_fetch 5 = .ok (.iconst 3, 1) := by decide +kernel
theorem dX5_fetch_6 : decode cX5_fetch 6 = .ok (.if_icmp .ge 12, 3) := by decide +kernel
theorem dX5_fetch_9 : decode cX5_fetch 9 = .ok (.aload_n 0, 1) := by decide +kernel
theorem dX5_fetch_10 : decode cX5_fetch 10 = .ok (.getfield 18, 3) := by decide +kernel
theorem dX5_fetch_13 : decode cX5_fetch 13 = .ok (.iload_n 1, 1) := by decide +kernel
theorem dX5_fetch_14 : decode cX5_fetch 14 = .ok (.baload, 1) := by decide +kernel
theorem dX5_fetch_15 : decode cX5_fetch 15 = .ok (.ifCond .ne 5, 3) := by decide +kernel
theorem dX5_fetch_18 : decode cX5_fetch 18 = .ok (.iconst 0, 1) := by decide +kernel
theorem dX5_fetch_19 : decode cX5_fetch 19 = .ok (.ireturn, 1) := by decide +kernel
theorem dX5_fetch_20 : decode cX5_fetch 20 = .ok (.aload_n 2, 1) := by decide +kernel
theorem dX5_fetch_21 : decode cX5_fetch 21 = .ok (.aload_n 0, 1) := by decide +kernel
theorem dX5_fetch_22 : decode cX5_fetch 22 = .ok (.getfield 15, 3) := by decide +kernel
theorem dX5_fetch_25 : decode cX5_fetch 25 = .ok (.iload_n 1, 1) := by decide +kernel
theorem dX5_fetch_26 : decode cX5_fetch 26 = .ok (.bipush 38, 2) := by decide +kernel
theorem dX5_fetch_28 : decode cX5_fetch 28 = .ok (.imul, 1) := by decide +kernel
theorem dX5_fetch_29 : decode cX5_fetch 29 = .ok (.invokevirtual 37, 3) := by decide +kernel
theorem dX5_fetch_32 : decode cX5_fetch 32 = .ok (.aload_n 0, 1) := by decide +kernel
theorem dX5_fetch_33 : decode cX5_fetch 33 = .ok (.iconst 0, 1) := by decide +kernel
theorem dX5_fetch_34 : decode cX5_fetch 34 = .ok (.putfield 22, 3) := by decide +kernel
theorem dX5_fetch_37 : decode cX5_fetch 37 = .ok (.iconst 1, 1) := by decide +kernel
theorem dX5_fetch_38 : decode cX5_fetch 38 = .ok (.ireturn, 1) := by decide +kernel
theorem dX5_slotsHeld_0 : decode cX5_slotsHeld 0 = .ok (.iconst 0, 1) := by decide +kernel
theorem dX5_slotsHeld_1 : decode cX5_slotsHeld 1 = .ok (.istore_n 1, 1) := by decide +kernel
theorem dX5_slotsHeld_2 : decode cX5_slotsHeld 2 = .ok (.iconst 0, 1) := by decide +kernel
theorem dX5_slotsHeld_3 : decode cX5_slotsHeld 3 = .ok (.istore_n 2, 1) := by decide +kernel
theorem dX5_slotsHeld_4 : decode cX5_slotsHeld 4 = .ok (.iload_n 2, 1) := by decide +kernel
theorem dX5_slotsHeld_5 : decode cX5_slotsHeld 5 = .ok (.iconst 3, 1) := by decide +kernel
theorem dX5_slotsHeld_6 : decode cX5_slotsHeld 6 = .ok (.if_icmp .ge 26, 3) := by decide +kernel
theorem dX5_slotsHeld_9 : decode cX5_slotsHeld 9 = .ok (.iload_n 1, 1) := by decide +kernel
theorem dX5_slotsHeld_10 : decode cX5_slotsHeld 10 = .ok (.aload_n 0, 1) := by decide +kernel
theorem dX5_slotsHeld_11 : decode cX5_slotsHeld 11 = .ok (.getfield 18, 3) := by decide +kernel
theorem dX5_slotsHeld_14 : decode cX5_slotsHeld 14 = .ok (.iload_n 2, 1) := by decide +kernel
theorem dX5_slotsHeld_15 : decode cX5_slotsHeld 15 = .ok (.baload, 1) := by decide +kernel
theorem dX5_slotsHeld_16 : decode cX5_slotsHeld 16 = .ok (.ifCond .eq 7, 3) := by decide +kernel
theorem dX5_slotsHeld_19 : decode cX5_slotsHeld 19 = .ok (.iconst 1, 1) := by decide +kernel
theorem dX5_slotsHeld_20 : decode cX5_slotsHeld 20 = .ok (.goto 4, 3) := by decide +kernel
theorem dX5_slotsHeld_23 : decode cX5_slotsHeld 23 = .ok (.iconst 0, 1) := by decide +kernel
theorem dX5_slotsHeld_24 : decode cX5_slotsHeld 24 = .ok (.iadd, 1) := by decide +kernel
theorem dX5_slotsHeld_25 : decode cX5_slotsHeld 25 = .ok (.istore_n 1, 1) := by decide +kernel
theorem dX5_slotsHeld_26 : decode cX5_slotsHeld 26 = .ok (.iinc 2 1, 3) := by decide +kernel
theorem dX5_slotsHeld_29 : decode cX5_slotsHeld 29 = .ok (.goto (-25), 3) := by decide +kernel
theorem dX5_slotsHeld_32 : decode cX5_slotsHeld 32 = .ok (.iload_n 1, 1) := by decide +kernel
theorem dX5_slotsHeld_33 : decode cX5_slotsHeld 33 = .ok (.ireturn, 1) := by decide +kernel
theorem dX6_init_0 : decode cX6_init 0 = .ok (.aload_n 0, 1) := by decide +kernel
theorem dX6_init_1 : decode cX6_init 1 = .ok (.invokespecial 3, 3) := by decide +kernel
theorem dX6_init_4 : decode cX6_init 4 = .ok (.aload_n 0, 1) := by decide +kernel
theorem dX6_init_5 : decode cX6_init 5 = .ok (.bipush 7, 2) := by decide +kernel
theorem dX6_init_7 : decode cX6_init 7 = .ok (.newarray .int, 2) := by decide +kernel
theorem dX6_init_9 : decode cX6_init 9 = .ok (.putfield 9, 3) := by decide +kernel
theorem dX6_init_12 : decode cX6_init 12 = .ok (.aload_n 0, 1) := by decide +kernel
theorem dX6_init_13 : decode cX6_init 13 = .ok (.bipush 7, 2) := by decide +kernel
theorem dX6_init_15 : decode cX6_init 15 = .ok (.newarray .int, 2) := by decide +kernel
theorem dX6_init_17 : decode cX6_init 17 = .ok (.putfield 15, 3) := by decide +kernel
theorem dX6_init_20 : decode cX6_init 20 = .ok (.aload_n 0, 1) := by decide +kernel
theorem dX6_init_21 : decode cX6_init 21 = .ok (.bipush 7, 2) := by decide +kernel
theorem dX6_init_23 : decode cX6_init 23 = .ok (.newarray .int, 2) := by decide +kernel
theorem dX6_init_25 : decode cX6_init 25 = .ok (.putfield 18, 3) := by decide +kernel
theorem dX6_init_28 : decode cX6_init 28 = .ok (.aload_n 0, 1) := by decide +kernel
theorem dX6_init_29 : decode cX6_init 29 = .ok (.bipush 7, 2) := by decide +kernel
theorem dX6_init_31 : decode cX6_init 31 = .ok (.newarray .int, 2) := by decide +kernel
theorem dX6_init_33 : decode cX6_init 33 = .ok (.putfield 21, 3) := by decide +kernel
theorem dX6_init_36 : decode cX6_init 36 = .ok (.aload_n 0, 1) := by decide +kernel
theorem dX6_init_37 : decode cX6_init 37 = .ok (.bipush 7, 2) := by decide +kernel
theorem dX6_init_39 : decode cX6_init 39 = .ok (.newarray .int, 2) := by decide +kernel
theorem dX6_init_41 : decode cX6_init 41 = .ok (.putfield 24, 3) := by decide +kernel
theorem dX6_init_44 : decode cX6_init 44 = .ok (.return_, 1) := by decide +kernel
theorem dX6_begin_0 : decode cX6_begin 0 = .ok (.aload_n 0, 1) := by decide +kernel
theorem dX6_begin_1 : decode cX6_begin 1 = .ok (.aload_n 1, 1) := by decide +kernel
theorem dX6_begin_2 : decode cX6_begin 2 = .ok (.getfield 27, 3) := by decide +kernel
theorem dX6_begin_5 : decode cX6_begin 5 = .ok (.putfield 33, 3) := by decide +kernel
theorem dX6_begin_8 : decode cX6_begin 8 = .ok (.aload_n 0, 1) := by decide +kernel
theorem dX6_begin_9 : decode cX6_begin 9 = .ok (.iconst 0, 1) := by decide +kernel
theorem dX6_begin_10 : decode cX6_begin 10 = .ok (.putfield 34, 3) := by decide +kernel
theorem dX6_begin_13 : decode cX6_begin 13 = .ok (.aload_n 0, 1) := by decide +kernel
theorem dX6_begin_14 : decode cX6_begin 14 = .ok (.aload_n 1, 1) := by decide +kernel
theorem dX6_begin_15 : decode cX6_begin 15 = .ok (.getfield 37, 3) := by decide +kernel
theorem dX6_begin_18 : decode cX6_begin 18 = .ok (.putfield 40, 3) := by decide +kernel
theorem dX6_begin_21 : decode cX6_begin 21 = .ok (.iconst 0, 1) := by decide +kernel
theorem dX6_begin_22 : decode cX6_begin 22 = .ok (.istore_n 2, 1) := by decide +kernel
theorem dX6_begin_23 : decode cX6_begin 23 = .ok (.iload_n 2, 1) := by decide +kernel
theorem dX6_begin_24 : decode cX6_begin 24 = .ok (.bipush 7, 2) := by decide +kernel
theorem dX6_begin_26 : decode cX6_begin 26 = .ok (.if_icmp .ge 54, 3) := by decide +kernel
theorem dX6_begin_29 : decode cX6_begin 29 = .ok (.aload_n 0, 1) := by decide +kernel
theorem dX6_begin_30 : decode cX6_begin 30 = .ok (.getfield 9, 3) := by decide +kernel
theorem dX6_begin_33 : decode cX6_begin 33 = .ok (.iload_n 2, 1) := by decide +kernel
theorem dX6_begin_34 : decode cX6_begin 34 = .ok (.aload_n 1, 1) := by decide +kernel
theorem dX6_begin_35 : decode cX6_begin 35 = .ok (.getfield 41, 3) := by decide +kernel
theorem dX6_begin_38 : decode cX6_begin 38 = .ok (.iload_n 2, 1) := by decide +kernel
theorem dX6_begin_39 : decode cX6_begin 39 = .ok (.iaload, 1) := by decide +kernel
theorem dX6_begin_40 : decode cX6_begin 40 = .ok (.iastore, 1) := by decide +kernel
theorem dX6_begin_41 : decode cX6_begin 41 = .ok (.aload_n 0, 1) := by decide +kernel
theorem dX6_begin_42 : decode cX6_begin 42 = .ok (.getfield 15, 3) := by decide +kernel
theorem dX6_begin_45 : decode cX6_begin 45 = .ok (.iload_n 2, 1) := by decide +kernel
theorem dX6_begin_46 : decode cX6_begin 46 = .ok (.aload_n 1, 1) := by decide +kernel
theorem dX6_begin_47 : decode cX6_begin 47 = .ok (.getfield 42, 3) := by decide +kernel
theorem dX6_begin_50 : decode cX6_begin 50 = .ok (.iload_n 2, 1) := by decide +kernel
theorem dX6_begin_51 : decode cX6_begin 51 = .ok (.iaload, 1) := by decide +kernel
theorem dX6_begin_52 : decode cX6_begin 52 = .ok (.iastore, 1) := by decide +kernel
theorem dX6_begin_53 : decode cX6_begin 53 = .ok (.aload_n 0, 1) := by decide +kernel
theorem dX6_begin_54 : decode cX6_begin 54 = .ok (.getfield 18, 3) := by decide +kernel
theorem dX6_begin_57 : decode cX6_begin 57 = .ok (.iload_n 2, 1) := by decide +kernel
theorem dX6_begin_58 : decode cX6_begin 58 = .ok (.iconst 0, 1) := by decide +kernel
theorem dX6_begin_59 : decode cX6_begin 59 = .ok (.iastore, 1) := by decide +kernel
theorem dX6_begin_60 : decode cX6_begin 60 = .ok (.aload_n 0, 1) := by decide +kernel
theorem dX6_begin_61 : decode cX6_begin 61 = .ok (.getfield 21, 3) := by decide +kernel
theorem dX6_begin_64 : decode cX6_begin 64 = .ok (.iload_n 2, 1) := by decide +kernel
theorem dX6_begin_65 : decode cX6_begin 65 = .ok (.iconst 0, 1) := by decide +kernel
theorem dX6_begin_66 : decode cX6_begin 66 = .ok (.iastore, 1) := by decide +kernel
theorem dX6_begin_67 : decode cX6_begin 67 = .ok (.aload_n 0, 1) := by decide +kernel
theorem dX6_begin_68 : decode cX6_begin 68 = .ok (.getfield 24, 3) := by decide +kernel
theorem dX6_begin_71 : decode cX6_begin 71 = .ok (.iload_n 2, 1) := by decide +kernel
theorem dX6_begin_72 : decode cX6_begin 72 = .ok (.iconst (-1), 1) := by decide +kernel
theorem dX6_begin_73 : decode cX6_begin 73 = .ok (.iastore, 1) := by decide +kernel
theorem dX6_begin_74 : decode cX6_begin 74 = .ok (.iinc 2 1, 3) := by decide +kernel
theorem dX6_begin_77 : decode cX6_begin 77 = .ok (.goto (-54), 3) := by decide +kernel
theorem dX6_begin_80 : decode cX6_begin 80 = .ok (.return_, 1) := by decide +kernel
theorem dX6_copy_0 : decode cX6_copy 0 = .ok (.aload_n 1, 1) := by decide +kernel
theorem dX6_copy_1 : decode cX6_copy 1 = .ok (.getfield 9, 3) := by decide +kernel
theorem dX6_copy_4 : decode cX6_copy 4 = .ok (.iconst 0, 1) := by decide +kernel
theorem dX6_copy_5 : decode cX6_copy 5 = .ok (.aload_n 0, 1) := by decide +kernel
theorem dX6_copy_6 : decode cX6_copy 6 = .ok (.getfield 9, 3) := by decide +kernel
theorem dX6_copy_9 : decode cX6_copy 9 = .ok (.iconst 0, 1) := by decide +kernel
theorem dX6_copy_10 : decode cX6_copy 10 = .ok (.bipush 7, 2) := by decide +kernel
theorem dX6_copy_12 : decode cX6_copy 12 = .ok (.invokestatic 43, 3) := by decide +kernel
theorem dX6_copy_15 : decode cX6_copy 15 = .ok (.aload_n 1, 1) := by decide +kernel
theorem dX6_copy_16 : decode cX6_copy 16 = .ok (.getfield 15, 3) := by decide +kernel
theorem dX6_copy_19 : decode cX6_copy 19 = .ok (.iconst 0, 1) := by decide +kernel
theorem dX6_copy_20 : decode cX6_copy 20 = .ok (.aload_n 0, 1) := by decide +kernel
theorem dX6_copy_21 : decode cX6_copy 21 = .ok (.getfield 15, 3) := by decide +kernel
theorem dX6_copy_24 : decode cX6_copy 24 = .ok (.iconst 0, 1) := by decide +kernel
theorem dX6_copy_25 : decode cX6_copy 25 = .ok (.bipush 7, 2) := by decide +kernel
theorem dX6_copy_27 : decode cX6_copy 27 = .ok (.invokestatic 43, 3) := by decide +kernel
theorem dX6_copy_30 : decode cX6_copy 30 = .ok (.aload_n 1, 1) := by decide +kernel
theorem dX6_copy_31 : decode cX6_copy 31 = .ok (.getfield 18, 3) := by decide +kernel
theorem dX6_copy_34 : decode cX6_copy 34 = .ok (.iconst 0, 1) := by decide +kernel
theorem dX6_copy_35 : decode cX6_copy 35 = .ok (.aload_n 0, 1) := by decide +kernel
theorem dX6_copy_36 : decode cX6_copy 36 = .ok (.getfield 18, 3) := by decide +kernel
theorem dX6_copy_39 : decode cX6_copy 39 = .ok (.iconst 0, 1) := by decide +kernel
theorem dX6_copy_40 : decode cX6_copy 40 = .ok (.bipush 7, 2) := by decide +kernel
theorem dX6_copy_42 : decode cX6_copy 42 = .ok (.invokestatic 43, 3) := by decide +kernel
theorem dX6_copy_45 : decode cX6_copy 45 = .ok (.aload_n 1, 1) := by decide +kernel
theorem dX6_copy_46 : decode cX6_copy 46 = .ok (.getfield 21, 3) := by decide +kernel
theorem dX6_copy_49 : decode cX6_copy 49 = .ok (.iconst 0, 1) := by decide +kernel
theorem dX6_copy_50 : decode cX6_copy 50 = .ok (.aload_n 0, 1) := by decide +kernel
theorem dX6_copy_51 : decode cX6_copy 51 = .ok (.getfield 21, 3) := by decide +kernel
theorem dX6_copy_54 : decode cX6_copy 54 = .ok (.iconst 0, 1) := by decide +kernel
theorem dX6_copy_55 : decode cX6_copy 55 = .ok (.bipush 7, 2) := by decide +kernel
theorem dX6_copy_57 : decode cX6_copy 57 = .ok (.invokestatic 43, 3) := by decide +kernel
theorem dX6_copy_60 : decode cX6_copy 60 = .ok (.aload_n 1, 1) := by decide +kernel
theorem dX6_copy_61 : decode cX6_copy 61 = .ok (.getfield 24, 3) := by decide +kernel
theorem dX6_copy_64 : decode cX6_copy 64 = .ok (.iconst 0, 1) := by decide +kernel
theorem dX6_copy_65 : decode cX6_copy 65 = .ok (.aload_n 0, 1) := by decide +kernel
theorem dX6_copy_66 : decode cX6_copy 66 = .ok (.getfield 24, 3) := by decide +kernel
theorem dX6_copy_69 : decode cX6_copy 69 = .ok (.iconst 0, 1) := by decide +kernel
theorem dX6_copy_70 : decode cX6_copy 70 = .ok (.bipush 7, 2) := by decide +kernel
theorem dX6_copy_72 : decode cX6_copy 72 = .ok (.invokestatic 43, 3) := by decide +kernel
theorem dX6_copy_75 : decode cX6_copy 75 = .ok (.aload_n 0, 1) := by decide +kernel
theorem dX6_copy_76 : decode cX6_copy 76 = .ok (.aload_n 1, 1) := by decide +kernel
theorem dX6_copy_77 : decode cX6_copy 77 = .ok (.getfield 33, 3) := by decide +kernel
theorem dX6_copy_80 : decode cX6_copy 80 = .ok (.putfield 33, 3) := by decide +kernel
theorem dX6_copy_83 : decode cX6_copy 83 = .ok (.aload_n 0, 1) := by decide +kernel
theorem dX6_copy_84 : decode cX6_copy 84 = .ok (.aload_n 1, 1) := by decide +kernel
theorem dX6_copy_85 : decode cX6_copy 85 = .ok (.getfield 34, 3) := by decide +kernel
theorem dX6_copy_88 : decode cX6_copy 88 = .ok (.putfield 34, 3) := by decide +kernel
theorem dX6_copy_91 : decode cX6_copy 91 = .ok (.aload_n 0, 1) := by decide +kernel
theorem dX6_copy_92 : decode cX6_copy 92 = .ok (.aload_n 1, 1) := by decide +kernel
theorem dX6_copy_93 : decode cX6_copy 93 = .ok (.getfield 40, 3) := by decide +kernel
theorem dX6_copy_96 : decode cX6_copy 96 = .ok (.putfield 40, 3) := by decide +kernel
theorem dX6_copy_99 : decode cX6_copy 99 = .ok (.return_, 1) := by decide +kernel
theorem dX6_write_0 : decode cX6_write 0 = .ok (.aload_n 0, 1) := by decide +kernel
theorem dX6_write_1 : decode cX6_write 1 = .ok (.getfield 9, 3) := by decide +kernel
theorem dX6_write_4 : decode cX6_write 4 = .ok (.iconst 0, 1) := by decide +kernel
theorem dX6_write_5 : decode cX6_write 5 = .ok (.aload_n 1, 1) := by decide +kernel
theorem dX6_write_6 : decode cX6_write 6 = .ok (.iload_n 2, 1) := by decide +kernel
theorem dX6_write_7 : decode cX6_write 7 = .ok (.bipush 7, 2) := by decide +kernel
theorem dX6_write_9 : decode cX6_write 9 = .ok (.invokestatic 43, 3) := by decide +kernel
theorem dX6_write_12 : decode cX6_write 12 = .ok (.aload_n 0, 1) := by decide +kernel
theorem dX6_write_13 : decode cX6_write 13 = .ok (.getfield 15, 3) := by decide +kernel
theorem dX6_write_16 : decode cX6_write 16 = .ok (.iconst 0, 1) := by decide +kernel
theorem dX6_write_17 : decode cX6_write 17 = .ok (.aload_n 1, 1) := by decide +kernel
theorem dX6_write_18 : decode cX6_write 18 = .ok (.iload_n 2, 1) := by decide +kernel
theorem dX6_write_19 : decode cX6_write 19 = .ok (.bipush 7, 2) := by decide +kernel
theorem dX6_write_21 : decode cX6_write 21 = .ok (.iadd, 1) := by decide +kernel
theorem dX6_write_22 : decode cX6_write 22 = .ok (.bipush 7, 2) := by decide +kernel
theorem dX6_write_24 : decode cX6_write 24 = .ok (.invokestatic 43, 3) := by decide +kernel
theorem dX6_write_27 : decode cX6_write 27 = .ok (.aload_n 0, 1) := by decide +kernel
theorem dX6_write_28 : decode cX6_write 28 = .ok (.getfield 18, 3) := by decide +kernel
theorem dX6_write_31 : decode cX6_write 31 = .ok (.iconst 0, 1) := by decide +kernel
theorem dX6_write_32 : decode cX6_write 32 = .ok (.aload_n 1, 1) := by decide +kernel
theorem dX6_write_33 : decode cX6_write 33 = .ok (.iload_n 2, 1) := by decide +kernel
theorem dX6_write_34 : decode cX6_write 34 = .ok (.bipush 14, 2) := by decide +kernel
theorem dX6_write_36 : decode cX6_write 36 = .ok (.iadd, 1) := by decide +kernel
theorem dX6_write_37 : decode cX6_write 37 = .ok (.bipush 7, 2) := by decide +kernel
theorem dX6_write_39 : decode cX6_write 39 = .ok (.invokestatic 43, 3) := by decide +kernel
theorem dX6_write_42 : decode cX6_write 42 = .ok (.aload_n 0, 1) := by decide +kernel
theorem dX6_write_43 : decode cX6_write 43 = .ok (.getfield 21, 3) := by decide +kernel
theorem dX6_write_46 : decode cX6_write 46 = .ok (.iconst 0, 1) := by decide +kernel
theorem dX6_write_47 : decode cX6_write 47 = .ok (.aload_n 1, 1) := by decide +kernel
theorem dX6_write_48 : decode cX6_write 48 = .ok (.iload_n 2, 1) := by decide +kernel
theorem dX6_write_49 : decode cX6_write 49 = .ok (.bipush 21, 2) := by decide +kernel
theorem dX6_write_51 : decode cX6_write 51 = .ok (.iadd, 1) := by decide +kernel
theorem dX6_write_52 : decode cX6_write 52 = .ok (.bipush 7, 2) := by decide +kernel
theorem dX6_write_54 : decode cX6_write 54 = .ok (.invokestatic 43, 3) := by decide +kernel
theorem dX6_write_57 : decode cX6_write 57 = .ok (.aload_n 0, 1) := by decide +kernel
theorem dX6_write_58 : decode cX6_write 58 = .ok (.getfield 24, 3) := by decide +kernel
theorem dX6_write_61 : decode cX6_write 61 = .ok (.iconst 0, 1) := by decide +kernel
theorem dX6_write_62 : decode cX6_write 62 = .ok (.aload_n 1, 1) := by decide +kernel
theorem dX6_write_63 : decode cX6_write 63 = .ok (.iload_n 2, 1) := by decide +kernel
theorem dX6_write_64 : decode cX6_write 64 = .ok (.bipush 28, 2) := by decide +kernel
theorem dX6_write_66 : decode cX6_write 66 = .ok (.iadd, 1) := by decide +kernel
theorem dX6_write_67 : decode cX6_write 67 = .ok (.bipush 7, 2) := by decide +kernel
theorem dX6_write_69 : decode cX6_write 69 = .ok (.invokestatic 43, 3) := by decide +kernel
theorem dX6_write_72 : decode cX6_write 72 = .ok (.aload_n 1, 1) := by decide +kernel
theorem dX6_write_73 : decode cX6_write 73 = .ok (.iload_n 2, 1) := by decide +kernel
theorem dX6_write_74 : decode cX6_write 74 = .ok (.bipush 38, 2) := by decide +kernel
theorem dX6_write_76 : decode cX6_write 76 = .ok (.iadd, 1) := by decide +kernel
theorem dX6_write_77 : decode cX6_write 77 = .ok (.iconst 3, 1) := by decide +kernel
theorem dX6_write_78 : decode cX6_write 78 = .ok (.isub, 1) := by decide +kernel
theorem dX6_write_79 : decode cX6_write 79 = .ok (.aload_n 0, 1) := by decide +kernel
theorem dX6_write_80 : decode cX6_write 80 = .ok (.getfield 33, 3) := by decide +kernel
theorem dX6_write_83 : decode cX6_write 83 = .ok (.iastore, 1) := by decide +kernel
theorem dX6_write_84 : decode cX6_write 84 = .ok (.aload_n 1, 1) := by decide +kernel
theorem dX6_write_85 : decode cX6_write 85 = .ok (.iload_n 2, 1) := by decide +kernel
theorem dX6_write_86 : decode cX6_write 86 = .ok (.bipush 38, 2) := by decide +kernel
theorem dX6_write_88 : decode cX6_write 88 = .ok (.iadd, 1) := by decide +kernel
theorem dX6_write_89 : decode cX6_write 89 = .ok (.iconst 2, 1) := by decide +kernel
theorem dX6_write_90 : decode cX6_write 90 = .ok (.isub, 1) := by decide +kernel
theorem dX6_write_91 : decode cX6_write 91 = .ok (.aload_n 0, 1) := by decide +kernel
theorem dX6_write_92 : decode cX6_write 92 = .ok (.getfield 34, 3) := by decide +kernel
theorem dX6_write_95 : decode cX6_write 95 = .ok (.iastore, 1) := by decide +kernel
theorem dX6_write_96 : decode cX6_write 96 = .ok (.aload_n 1, 1) := by decide +kernel
theorem dX6_write_97 : decode cX6_write 97 = .ok (.iload_n 2, 1) := by decide +kernel
theorem dX6_write_98 : decode cX6_write 98 = .ok (.bipush 38, 2) := by decide +kernel
theorem dX6_write_100 : decode cX6_write 100 = .ok (.iadd, 1) := by decide +kernel
theorem dX6_write_101 : decode cX6_write 101 = .ok (.iconst 1, 1) := by decide +kernel
theorem dX6_write_102 : decode cX6_write 102 = .ok (.isub, 1) := by decide +kernel
theorem dX6_write_103 : decode cX6_write 103 = .ok (.aload_n 0, 1) := by decide +kernel
theorem dX6_write_104 : decode cX6_write 104 = .ok (.getfield 40, 3) := by decide +kernel
theorem dX6_write_107 : decode cX6_write 107 = .ok (.iastore, 1) := by decide +kernel
theorem dX6_write_108 : decode cX6_write 108 = .ok (.return_, 1) := by decide +kernel
theorem dX6_take_0 : decode cX6_take 0 = .ok (.aload_n 1, 1) := by decide +kernel
theorem dX6_take_1 : decode cX6_take 1 = .ok (.iload_n 2, 1) := by decide +kernel
theorem dX6_take_2 : decode cX6_take 2 = .ok (.aload_n 0, 1) := by decide +kernel
theorem dX6_take_3 : decode cX6_take 3 = .ok (.getfield 9, 3) := by decide +kernel
theorem dX6_take_6 : decode cX6_take 6 = .ok (.iconst 0, 1) := by decide +kernel
theorem dX6_take_7 : decode cX6_take 7 = .ok (.bipush 7, 2) := by decide +kernel
theorem dX6_take_9 : decode cX6_take 9 = .ok (.invokestatic 43, 3) := by decide +kernel
theorem dX6_take_12 : decode cX6_take 12 = .ok (.aload_n 1, 1) := by decide +kernel
theorem dX6_take_13 : decode cX6_take 13 = .ok (.iload_n 2, 1) := by decide +kernel
theorem dX6_take_14 : decode cX6_take 14 = .ok (.bipush 7, 2) := by decide +kernel
theorem dX6_take_16 : decode cX6_take 16 = .ok (.iadd, 1) := by decide +kernel
theorem dX6_take_17 : decode cX6_take 17 = .ok (.aload_n 0, 1) := by decide +kernel
theorem dX6_take_18 : decode cX6_take 18 = .ok (.getfield 15, 3) := by decide +kernel
theorem dX6_take_21 : decode cX6_take 21 = .ok (.iconst 0, 1) := by decide +kernel
theorem dX6_take_22 : decode cX6_take 22 = .ok (.bipush 7, 2) := by decide +kernel
theorem dX6_take_24 : decode cX6_take 24 = .ok (.invokestatic 43, 3) := by decide +kernel
theorem dX6_take_27 : decode cX6_take 27 = .ok (.aload_n 1, 1) := by decide +kernel
theorem dX6_take_28 : decode cX6_take 28 = .ok (.iload_n 2, 1) := by decide +kernel
theorem dX6_take_29 : decode cX6_take 29 = .ok (.bipush 14, 2) := by decide +kernel
theorem dX6_take_31 : decode cX6_take 31 = .ok (.iadd, 1) := by decide +kernel
theorem dX6_take_32 : decode cX6_take 32 = .ok (.aload_n 0, 1) := by decide +kernel
theorem dX6_take_33 : decode cX6_take 33 = .ok (.getfield 18, 3) := by decide +kernel
theorem dX6_take_36 : decode cX6_take 36 = .ok (.iconst 0, 1) := by decide +kernel
theorem dX6_take_37 : decode cX6_take 37 = .ok (.bipush 7, 2) := by decide +kernel
theorem dX6_take_39 : decode cX6_take 39 = .ok (.invokestatic 43, 3) := by decide +kernel
theorem dX6_take_42 : decode cX6_take 42 = .ok (.aload_n 1, 1) := by decide +kernel
theorem dX6_take_43 : decode cX6_take 43 = .ok (.iload_n 2, 1) := by decide +kernel
theorem dX6_take_44 : decode cX6_take 44 = .ok (.bipush 21, 2) := by decide +kernel
theorem dX6_take_46 : decode cX6_take 46 = .ok (.iadd, 1) := by decide +kernel
theorem dX6_take_47 : decode cX6_take 47 = .ok (.aload_n 0, 1) := by decide +kernel
theorem dX6_take_48 : decode cX6_take 48 = .ok (.getfield 21, 3) := by decide +kernel
theorem dX6_take_51 : decode cX6_take 51 = .ok (.iconst 0, 1) := by decide +kernel
theorem dX6_take_52 : decode cX6_take 52 = .ok (.bipush 7, 2) := by decide +kernel
theorem dX6_take_54 : decode cX6_take 54 = .ok (.invokestatic 43, 3) := by decide +kernel
theorem dX6_take_57 : decode cX6_take 57 = .ok (.aload_n 1, 1) := by decide +kernel
theorem dX6_take_58 : decode cX6_take 58 = .ok (.iload_n 2, 1) := by decide +kernel
theorem dX6_take_59 : decode cX6_take 59 = .ok (.bipush 28, 2) := by decide +kernel
theorem dX6_take_61 : decode cX6_take 61 = .ok (.iadd, 1) := by decide +kernel
theorem dX6_take_62 : decode cX6_take 62 = .ok (.aload_n 0, 1) := by decide +kernel
theorem dX6_take_63 : decode cX6_take 63 = .ok (.getfield 24, 3) := by decide +kernel
theorem dX6_take_66 : decode cX6_take 66 = .ok (.iconst 0, 1) := by decide +kernel
theorem dX6_take_67 : decode cX6_take 67 = .ok (.bipush 7, 2) := by decide +kernel
theorem dX6_take_69 : decode cX6_take 69 = .ok (.invokestatic 43, 3) := by decide +kernel
theorem dX6_take_72 : decode cX6_take 72 = .ok (.aload_n 0, 1) := by decide +kernel
theorem dX6_take_73 : decode cX6_take 73 = .ok (.aload_n 1, 1) := by decide +kernel
theorem dX6_take_74 : decode cX6_take 74 = .ok (.iload_n 2, 1) := by decide +kernel
theorem dX6_take_75 : decode cX6_take 75 = .ok (.bipush 38, 2) := by decide +kernel
theorem dX6_take_77 : decode cX6_take 77 = .ok (.iadd, 1) := by decide +kernel
theorem dX6_take_78 : decode cX6_take 78 = .ok (.iconst 3, 1) := by decide +kernel
theorem dX6_take_79 : decode cX6_take 79 = .ok (.isub, 1) := by decide +kernel
theorem dX6_take_80 : decode cX6_take 80 = .ok (.iaload, 1) := by decide +kernel
theorem dX6_take_81 : decode cX6_take 81 = .ok (.putfield 33, 3) := by decide +kernel
theorem dX6_take_84 : decode cX6_take 84 = .ok (.aload_n 0, 1) := by decide +kernel
theorem dX6_take_85 : decode cX6_take 85 = .ok (.aload_n 1, 1) := by decide +kernel
theorem dX6_take_86 : decode cX6_take 86 = .ok (.iload_n 2, 1) := by decide +kernel
theorem dX6_take_87 : decode cX6_take 87 = .ok (.bipush 38, 2) := by decide +kernel
theorem dX6_take_89 : decode cX6_take 89 = .ok (.iadd, 1) := by decide +kernel
theorem dX6_take_90 : decode cX6_take 90 = .ok (.iconst 2, 1) := by decide +kernel
theorem dX6_take_91 : decode cX6_take 91 = .ok (.isub, 1) := by decide +kernel
theorem dX6_take_92 : decode cX6_take 92 = .ok (.iaload, 1) := by decide +kernel
theorem dX6_take_93 : decode cX6_take 93 = .ok (.putfield 34, 3) := by decide +kernel
theorem dX6_take_96 : decode cX6_take 96 = .ok (.aload_n 0, 1) := by decide +kernel
theorem dX6_take_97 : decode cX6_take 97 = .ok (.aload_n 1, 1) := by decide +kernel
theorem dX6_take_98 : decode cX6_take 98 = .ok (.iload_n 2, 1) := by decide +kernel
theorem dX6_take_99 : decode cX6_take 99 = .ok (.bipush 38, 2) := by decide +kernel
theorem dX6_take_101 : decode cX6_take 101 = .ok (.iadd, 1) := by decide +kernel
theorem dX6_take_102 : decode cX6_take 102 = .ok (.iconst 1, 1) := by decide +kernel
theorem dX6_take_103 : decode cX6_take 103 = .ok (.isub, 1) := by decide +kernel
theorem dX6_take_104 : decode cX6_take 104 = .ok (.iaload, 1) := by decide +kernel
theorem dX6_take_105 : decode cX6_take 105 = .ok (.putfield 40, 3) := by decide +kernel
theorem dX6_take_108 : decode cX6_take 108 = .ok (.return_, 1) := by decide +kernel
theorem dX6_sum_0 : decode cX6_sum 0 = .ok (.iconst 0, 1) := by decide +kernel
theorem dX6_sum_1 : decode cX6_sum 1 = .ok (.istore_n 2, 1) := by decide +kernel
theorem dX6_sum_2 : decode cX6_sum 2 = .ok (.iconst 0, 1) := by decide +kernel
theorem dX6_sum_3 : decode cX6_sum 3 = .ok (.istore_n 3, 1) := by decide +kernel
theorem dX6_sum_4 : decode cX6_sum 4 = .ok (.iload_n 3, 1) := by decide +kernel
theorem dX6_sum_5 : decode cX6_sum 5 = .ok (.aload_n 0, 1) := by decide +kernel
theorem dX6_sum_6 : decode cX6_sum 6 = .ok (.getfield 33, 3) := by decide +kernel
theorem dX6_sum_9 : decode cX6_sum 9 = .ok (.if_icmp .ge 15, 3) := by decide +kernel
theorem dX6_sum_12 : decode cX6_sum 12 = .ok (.iload_n 2, 1) := by decide +kernel
theorem dX6_sum_13 : decode cX6_sum 13 = .ok (.aload_n 1, 1) := by decide +kernel
theorem dX6_sum_14 : decode cX6_sum 14 = .ok (.iload_n 3, 1) := by decide +kernel
theorem dX6_sum_15 : decode cX6_sum 15 = .ok (.iaload, 1) := by decide +kernel
theorem dX6_sum_16 : decode cX6_sum 16 = .ok (.iadd, 1) := by decide +kernel
theorem dX6_sum_17 : decode cX6_sum 17 = .ok (.istore_n 2, 1) := by decide +kernel
theorem dX6_sum_18 : decode cX6_sum 18 = .ok (.iinc 3 1, 3) := by decide +kernel
theorem dX6_sum_21 : decode cX6_sum 21 = .ok (.goto (-17), 3) := by decide +kernel
theorem dX6_sum_24 : decode cX6_sum 24 = .ok (.iload_n 2, 1) := by decide +kernel
theorem dX6_sum_25 : decode cX6_sum 25 = .ok (.ireturn, 1) := by decide +kernel
theorem dX6_allFish_0 : decode cX6_allFish 0 = .ok (.aload_n 0, 1) := by decide +kernel
theorem dX6_allFish_1 : decode cX6_allFish 1 = .ok (.aload_n 0, 1) := by decide +kernel
theorem dX6_allFish_2 : decode cX6_allFish 2 = .ok (.getfield 9, 3) := by decide +kernel
theorem dX6_allFish_5 : decode cX6_allFish 5 = .ok (.invokevirtual 49, 3) := by decide +kernel
theorem dX6_allFish_8 : decode cX6_allFish 8 = .ok (.ireturn, 1) := by decide +kernel
theorem dX6_fresh_0 : decode cX6_fresh 0 = .ok (.aload_n 0, 1) := by decide +kernel
theorem dX6_fresh_1 : decode cX6_fresh 1 = .ok (.getfield 9, 3) := by decide +kernel
theorem dX6_fresh_4 : decode cX6_fresh 4 = .ok (.iload_n 1, 1) := by decide +kernel
theorem dX6_fresh_5 : decode cX6_fresh 5 = .ok (.iaload, 1) := by decide +kernel
theorem dX6_fresh_6 : decode cX6_fresh 6 = .ok (.aload_n 0, 1) := by decide +kernel
theorem dX6_fresh_7 : decode cX6_fresh 7 = .ok (.getfield 18, 3) := by decide +kernel
theorem dX6_fresh_10 : decode cX6_fresh 10 = .ok (.iload_n 1, 1) := by decide +kernel
theorem dX6_fresh_11 : decode cX6_fresh 11 = .ok (.iaload, 1) := by decide +kernel
theorem dX6_fresh_12 : decode cX6_fresh 12 = .ok (.isub, 1) := by decide +kernel
theorem dX6_fresh_13 : decode cX6_fresh 13 = .ok (.ireturn, 1) := by decide +kernel
theorem dX6_consume_0 : decode cX6_consume 0 = .ok (.aload_n 0, 1) := by decide +kernel
theorem dX6_consume_1 : decode cX6_consume 1 = .ok (.getfield 9, 3) := by decide +kernel
theorem dX6_consume_4 : decode cX6_consume 4 = .ok (.iload_n 1, 1) := by decide +kernel
theorem dX6_consume_5 : decode cX6_consume 5 = .ok (.dup2, 1) := by decide +kernel
theorem dX6_consume_6 : decode cX6_consume 6 = .ok (.iaload, 1) := by decide +kernel
theorem dX6_consume_7 : decode cX6_consume 7 = .ok (.iload_n 2, 1) := by decide +kernel
theorem dX6_consume_8 : decode cX6_consume 8 = .ok (.isub, 1) := by decide +kernel
theorem dX6_consume_9 : decode cX6_consume 9 = .ok (.iastore, 1) := by decide +kernel
theorem dX6_consume_10 : decode cX6_consume 10 = .ok (.aload_n 0, 1) := by decide +kernel
theorem dX6_consume_11 : decode cX6_consume 11 = .ok (.getfield 18, 3) := by decide +kernel
theorem dX6_consume_14 : decode cX6_consume 14 = .ok (.iload_n 1, 1) := by decide +kernel
theorem dX6_consume_15 : decode cX6_consume 15 = .ok (.aload_n 0, 1) := by decide +kernel
theorem dX6_consume_16 : decode cX6_consume 16 = .ok (.getfield 18, 3) := by decide +kernel
theorem dX6_consume_19 : decode cX6_consume 19 = .ok (.iload_n 1, 1) := by decide +kernel
theorem dX6_consume_20 : decode cX6_consume 20 = .ok (.iaload, 1) := by decide +kernel
theorem dX6_consume_21 : decode cX6_consume 21 = .ok (.aload_n 0, 1) := by decide +kernel
theorem dX6_consume_22 : decode cX6_consume 22 = .ok (.getfield 9, 3) := by decide +kernel
theorem dX6_consume_25 : decode cX6_consume 25 = .ok (.iload_n 1, 1) := by decide +kernel
theorem dX6_consume_26 : decode cX6_consume 26 = .ok (.iaload, 1) := by decide +kernel
theorem dX6_consume_27 : decode cX6_consume 27 = .ok (.invokestatic 53, 3) := by decide +kernel
theorem dX6_consume_30 : decode cX6_consume 30 = .ok (.iastore, 1) := by decide +kernel
theorem dX6_consume_31 : decode cX6_consume 31 = .ok (.aload_n 0, 1) := by decide +kernel
theorem dX6_consume_32 : decode cX6_consume 32 = .ok (.getfield 21, 3) := by decide +kernel
theorem dX6_consume_35 : decode cX6_consume 35 = .ok (.iload_n 1, 1) := by decide +kernel
theorem dX6_consume_36 : decode cX6_consume 36 = .ok (.dup2, 1) := by decide +kernel
theorem dX6_consume_37 : decode cX6_consume 37 = .ok (.iaload, 1) := by decide +kernel
theorem dX6_consume_38 : decode cX6_consume 38 = .ok (.iload_n 2, 1) := by decide +kernel
theorem dX6_consume_39 : decode cX6_consume 39 = .ok (.iadd, 1) := by decide +kernel
theorem dX6_consume_40 : decode cX6_consume 40 = .ok (.iastore, 1) := by decide +kernel
theorem dX6_consume_41 : decode cX6_consume 41 = .ok (.return_, 1) := by decide +kernel
theorem dX6_move_0 : decode cX6_move 0 = .ok (.iconst 0, 1) := by decide +kernel
theorem dX6_move_1 : decode cX6_move 1 = .ok (.iload_n 3, 1) := by decide +kernel
theorem dX6_move_2 : decode cX6_move 2 = .ok (.aload_n 0, 1) := by decide +kernel
theorem dX6_move_3 : decode cX6_move 3 = .ok (.iload_n 1, 1) := by decide +kernel
theorem dX6_move_4 : decode cX6_move 4 = .ok (.invokevirtual 59, 3) := by decide +kernel
theorem dX6_move_7 : decode cX6_move 7 = .ok (.isub, 1) := by decide +kernel
theorem dX6_move_8 : decode cX6_move 8 = .ok (.invokestatic 63, 3) := by decide +kernel
theorem dX6_move_11 : decode cX6_move 11 = .ok (.istore 4, 2) := by decide +kernel
theorem dX6_move_13 : decode cX6_move 13 = .ok (.aload_n 0, 1) := by decide +kernel
theorem dX6_move_14 : decode cX6_move 14 = .ok (.getfield 9, 3) := by decide +kernel
theorem dX6_move_17 : decode cX6_move 17 = .ok (.iload_n 1, 1) := by decide +kernel
theorem dX6_move_18 : decode cX6_move 18 = .ok (.dup2, 1) := by decide +kernel
theorem dX6_move_19 : decode cX6_move 19 = .ok (.iaload, 1) := by decide +kernel
theorem dX6_move_20 : decode cX6_move 20 = .ok (.iload_n 3, 1) := by decide +kernel
theorem dX6_move_21 : decode cX6_move 21 = .ok (.isub, 1) := by decide +kernel
theorem dX6_move_22 : decode cX6_move 22 = .ok (.iastore, 1) := by decide +kernel
theorem dX6_move_23 : decode cX6_move 23 = .ok (.aload_n 0, 1) := by decide +kernel
theorem dX6_move_24 : decode cX6_move 24 = .ok (.getfield 18, 3) := by decide +kernel
theorem dX6_move_27 : decode cX6_move 27 = .ok (.iload_n 1, 1) := by decide +kernel
theorem dX6_move_28 : decode cX6_move 28 = .ok (.dup2, 1) := by decide +kernel
theorem dX6_move_29 : decode cX6_move 29 = .ok (.iaload, 1) := by decide +kernel
theorem dX6_move_30 : decode cX6_move 30 = .ok (.iload 4, 2) := by decide +kernel
theorem dX6_move_32 : decode cX6_move 32 = .ok (.isub, 1) := by decide +kernel
theorem dX6_move_33 : decode cX6_move 33 = .ok (.iastore, 1) := by decide +kernel
theorem dX6_move_34 : decode cX6_move 34 = .ok (.aload_n 0, 1) := by decide +kernel
theorem dX6_move_35 : decode cX6_move 35 = .ok (.getfield 9, 3) := by decide +kernel
theorem dX6_move_38 : decode cX6_move 38 = .ok (.iload_n 2, 1) := by decide +kernel
theorem dX6_move_39 : decode cX6_move 39 = .ok (.dup2, 1) := by decide +kernel
theorem dX6_move_40 : decode cX6_move 40 = .ok (.iaload, 1) := by decide +kernel
theorem dX6_move_41 : decode cX6_move 41 = .ok (.iload_n 3, 1) := by decide +kernel
theorem dX6_move_42 : decode cX6_move 42 = .ok (.iadd, 1) := by decide +kernel
theorem dX6_move_43 : decode cX6_move 43 = .ok (.iastore, 1) := by decide +kernel
theorem dX6_move_44 : decode cX6_move 44 = .ok (.aload_n 0, 1) := by decide +kernel
theorem dX6_move_45 : decode cX6_move 45 = .ok (.getfield 18, 3) := by decide +kernel
theorem dX6_move_48 : decode cX6_move 48 = .ok (.iload_n 2, 1) := by decide +kernel
theorem dX6_move_49 : decode cX6_move 49 = .ok (.dup2, 1) := by decide +kernel
theorem dX6_move_50 : decode cX6_move 50 = .ok (.iaload, 1) := by decide +kernel
theorem dX6_move_51 : decode cX6_move 51 = .ok (.iload 4, 2) := by decide +kernel
theorem dX6_move_53 : decode cX6_move 53 = .ok (.iadd, 1) := by decide +kernel
theorem dX6_move_54 : decode cX6_move 54 = .ok (.iastore, 1) := by decide +kernel
theorem dX6_move_55 : decode cX6_move 55 = .ok (.return_, 1) := by decide +kernel
theorem dX6_hasProxy_0 : decode cX6_hasProxy 0 = .ok (.iconst 0, 1) := by decide +kernel
theorem dX6_hasProxy_1 : decode cX6_hasProxy 1 = .ok (.istore_n 2, 1) := by decide +kernel
theorem dX6_hasProxy_2 : decode cX6_hasProxy 2 = .ok (.iconst 0, 1) := by decide +kernel
theorem dX6_hasProxy_3 : decode cX6_hasProxy 3 = .ok (.istore_n 3, 1) := by decide +kernel
theorem dX6_hasProxy_4 : decode cX6_hasProxy 4 = .ok (.iload_n 3, 1) := by decide +kernel
theorem dX6_hasProxy_5 : decode cX6_hasProxy 5 = .ok (.aload_n 0, 1) := by decide +kernel
theorem dX6_hasProxy_6 : decode cX6_hasProxy 6 = .ok (.getfield 33, 3) := by decide +kernel
theorem dX6_hasProxy_9 : decode cX6_hasProxy 9 = .ok (.if_icmp .ge 27, 3) := by decide +kernel
theorem dX6_hasProxy_12 : decode cX6_hasProxy 12 = .ok (.iload_n 2, 1) := by decide +kernel
theorem dX6_hasProxy_13 : decode cX6_hasProxy 13 = .ok (.aload_n 0, 1) := by decide +kernel
theorem dX6_hasProxy_14 : decode cX6_hasProxy 14 = .ok (.getfield 24, 3) := by decide +kernel
theorem dX6_hasProxy_17 : decode cX6_hasProxy 17 = .ok (.iload_n 3, 1) := by decide +kernel
theorem dX6_hasProxy_18 : decode cX6_hasProxy 18 = .ok (.iaload, 1) := by decide +kernel
theorem dX6_hasProxy_19 : decode cX6_hasProxy 19 = .ok (.iload_n 1, 1) := by decide +kernel
theorem dX6_hasProxy_20 : decode cX6_hasProxy 20 = .ok (.if_icmp .ne 7, 3) := by decide +kernel
theorem dX6_hasProxy_23 : decode cX6_hasProxy 23 = .ok (.iconst 1, 1) := by decide +kernel
theorem dX6_hasProxy_24 : decode cX6_hasProxy 24 = .ok (.goto 4, 3) := by decide +kernel
theorem dX6_hasProxy_27 : decode cX6_hasProxy 27 = .ok (.iconst 0, 1) := by decide +kernel
theorem dX6_hasProxy_28 : decode cX6_hasProxy 28 = .ok (.ior, 1) := by decide +kernel
theorem dX6_hasProxy_29 : decode cX6_hasProxy 29 = .ok (.istore_n 2, 1) := by decide +kernel
theorem dX6_hasProxy_30 : decode cX6_hasProxy 30 = .ok (.iinc 3 1, 3) := by decide +kernel
theorem dX6_hasProxy_33 : decode cX6_hasProxy 33 = .ok (.goto (-29), 3) := by decide +kernel
theorem dX6_hasProxy_36 : decode cX6_hasProxy 36 = .ok (.iload_n 2, 1) := by decide +kernel
theorem dX6_hasProxy_37 : decode cX6_hasProxy 37 = .ok (.ireturn, 1) := by decide +kernel
theorem dX6_fewestFish_0 : decode cX6_fewestFish 0 = .ok (.iconst 0, 1) := by decide +kernel
theorem dX6_fewestFish_1 : decode cX6_fewestFish 1 = .ok (.istore_n 1, 1) := by decide +kernel
theorem dX6_fewestFish_2 : decode cX6_fewestFish 2 = .ok (.iconst 1, 1) := by decide +kernel
theorem dX6_fewestFish_3 : decode cX6_fewestFish 3 = .ok (.istore_n 2, 1) := by decide +kernel
theorem dX6_fewestFish_4 : decode cX6_fewestFish 4 = .ok (.iload_n 2, 1) := by decide +kernel
theorem dX6_fewestFish_5 : decode cX6_fewestFish 5 = .ok (.aload_n 0, 1) := by decide +kernel
theorem dX6_fewestFish_6 : decode cX6_fewestFish 6 = .ok (.getfield 33, 3) := by decide +kernel
theorem dX6_fewestFish_9 : decode cX6_fewestFish 9 = .ok (.if_icmp .ge 30, 3) := by decide +kernel
theorem dX6_fewestFish_12 : decode cX6_fewestFish 12 = .ok (.aload_n 0, 1) := by decide +kernel
theorem dX6_fewestFish_13 : decode cX6_fewestFish 13 = .ok (.getfield 9, 3) := by decide +kernel
theorem dX6_fewestFish_16 : decode cX6_fewestFish 16 = .ok (.iload_n 2, 1) := by decide +kernel
theorem dX6_fewestFish_17 : decode cX6_fewestFish 17 = .ok (.iaload, 1) := by decide +kernel
theorem dX6_fewestFish_18 : decode cX6_fewestFish 18 = .ok (.aload_n 0, 1) := by decide +kernel
theorem dX6_fewestFish_19 : decode cX6_fewestFish 19 = .ok (.getfield 9, 3) := by decide +kernel
theorem dX6_fewestFish_22 : decode cX6_fewestFish 22 = .ok (.iload_n 1, 1) := by decide +kernel
theorem dX6_fewestFish_23 : decode cX6_fewestFish 23 = .ok (.iaload, 1) := by decide +kernel
theorem dX6_fewestFish_24 : decode cX6_fewestFish 24 = .ok (.if_icmp .ge 7, 3) := by decide +kernel
theorem dX6_fewestFish_27 : decode cX6_fewestFish 27 = .ok (.iload_n 2, 1) := by decide +kernel
theorem dX6_fewestFish_28 : decode cX6_fewestFish 28 = .ok (.goto 4, 3) := by decide +kernel
theorem dX6_fewestFish_31 : decode cX6_fewestFish 31 = .ok (.iload_n 1, 1) := by decide +kernel
theorem dX6_fewestFish_32 : decode cX6_fewestFish 32 = .ok (.istore_n 1, 1) := by decide +kernel
theorem dX6_fewestFish_33 : decode cX6_fewestFish 33 = .ok (.iinc 2 1, 3) := by decide +kernel
theorem dX6_fewestFish_36 : decode cX6_fewestFish 36 = .ok (.goto (-32), 3) := by decide +kernel
theorem dX6_fewestFish_39 : decode cX6_fewestFish 39 = .ok (.iload_n 1, 1) := by decide +kernel
theorem dX6_fewestFish_40 : decode cX6_fewestFish 40 = .ok (.ireturn, 1) := by decide +kernel
theorem dX7_init_0 : decode cX7_init 0 = .ok (.aload_n 0, 1) := by decide +kernel
theorem dX7_init_1 : decode cX7_init 1 = .ok (.invokespecial 3, 3) := by decide +kernel
theorem dX7_init_4 : decode cX7_init 4 = .ok (.aload_n 0, 1) := by decide +kernel
theorem dX7_init_5 : decode cX7_init 5 = .ok (.sipush 2000, 3) := by decide +kernel
theorem dX7_init_8 : decode cX7_init 8 = .ok (.newarray .byte, 2) := by decide +kernel
theorem dX7_init_10 : decode cX7_init 10 = .ok (.putfield 11, 3) := by decide +kernel
theorem dX7_init_13 : decode cX7_init 13 = .ok (.return_, 1) := by decide +kernel
theorem dX7_hasRoom_0 : decode cX7_hasRoom 0 = .ok (.aload_n 0, 1) := by decide +kernel
theorem dX7_hasRoom_1 : decode cX7_hasRoom 1 = .ok (.getfield 15, 3) := by decide +kernel
theorem dX7_hasRoom_4 : decode cX7_hasRoom 4 = .ok (.iload_n 1, 1) := by decide +kernel
theorem dX7_hasRoom_5 : decode cX7_hasRoom 5 = .ok (.iadd, 1) := by decide +kernel
theorem dX7_hasRoom_6 : decode cX7_hasRoom 6 = .ok (.sipush 2000, 3) := by decide +kernel
