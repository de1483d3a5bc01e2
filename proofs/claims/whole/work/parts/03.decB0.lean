theorem dX11_init_0 : decode cX11_init 0 = .ok (.aload_n 0, 1) := by decide +kernel
theorem dX11_init_1 : decode cX11_init 1 = .ok (.invokespecial 1, 3) := by decide +kernel
theorem dX11_init_4 : decode cX11_init 4 = .ok (.aload_n 0, 1) := by decide +kernel
theorem dX11_init_5 : decode cX11_init 5 = .ok (.new 7, 3) := by decide +kernel
theorem dX11_init_8 : decode cX11_init 8 = .ok (.dup, 1) := by decide +kernel
theorem dX11_init_9 : decode cX11_init 9 = .ok (.invokespecial 9, 3) := by decide +kernel
theorem dX11_init_12 : decode cX11_init 12 = .ok (.putfield 10, 3) := by decide +kernel
theorem dX11_init_15 : decode cX11_init 15 = .ok (.aload_n 0, 1) := by decide +kernel
theorem dX11_init_16 : decode cX11_init 16 = .ok (.new 16, 3) := by decide +kernel
theorem dX11_init_19 : decode cX11_init 19 = .ok (.dup, 1) := by decide +kernel
theorem dX11_init_20 : decode cX11_init 20 = .ok (.aload_n 0, 1) := by decide +kernel
theorem dX11_init_21 : decode cX11_init 21 = .ok (.getfield 10, 3) := by decide +kernel
theorem dX11_init_24 : decode cX11_init 24 = .ok (.invokespecial 18, 3) := by decide +kernel
theorem dX11_init_27 : decode cX11_init 27 = .ok (.putfield 21, 3) := by decide +kernel
theorem dX11_init_30 : decode cX11_init 30 = .ok (.aload_n 0, 1) := by decide +kernel
theorem dX11_init_31 : decode cX11_init 31 = .ok (.new 25, 3) := by decide +kernel
theorem dX11_init_34 : decode cX11_init 34 = .ok (.dup, 1) := by decide +kernel
theorem dX11_init_35 : decode cX11_init 35 = .ok (.aload_n 0, 1) := by decide +kernel
theorem dX11_init_36 : decode cX11_init 36 = .ok (.getfield 21, 3) := by decide +kernel
theorem dX11_init_39 : decode cX11_init 39 = .ok (.invokespecial 27, 3) := by decide +kernel
theorem dX11_init_42 : decode cX11_init 42 = .ok (.putfield 30, 3) := by decide +kernel
theorem dX11_init_45 : decode cX11_init 45 = .ok (.aload_n 0, 1) := by decide +kernel
theorem dX11_init_46 : decode cX11_init 46 = .ok (.new 34, 3) := by decide +kernel
theorem dX11_init_49 : decode cX11_init 49 = .ok (.dup, 1) := by decide +kernel
theorem dX11_init_50 : decode cX11_init 50 = .ok (.aload_n 0, 1) := by decide +kernel
theorem dX11_init_51 : decode cX11_init 51 = .ok (.getfield 21, 3) := by decide +kernel
theorem dX11_init_54 : decode cX11_init 54 = .ok (.invokespecial 36, 3) := by decide +kernel
theorem dX11_init_57 : decode cX11_init 57 = .ok (.putfield 37, 3) := by decide +kernel
theorem dX11_init_60 : decode cX11_init 60 = .ok (.aload_n 0, 1) := by decide +kernel
theorem dX11_init_61 : decode cX11_init 61 = .ok (.new 41, 3) := by decide +kernel
theorem dX11_init_64 : decode cX11_init 64 = .ok (.dup, 1) := by decide +kernel
theorem dX11_init_65 : decode cX11_init 65 = .ok (.invokespecial 43, 3) := by decide +kernel
theorem dX11_init_68 : decode cX11_init 68 = .ok (.putfield 44, 3) := by decide +kernel
theorem dX11_init_71 : decode cX11_init 71 = .ok (.aload_n 0, 1) := by decide +kernel
theorem dX11_init_72 : decode cX11_init 72 = .ok (.new 48, 3) := by decide +kernel
theorem dX11_init_75 : decode cX11_init 75 = .ok (.dup, 1) := by decide +kernel
theorem dX11_init_76 : decode cX11_init 76 = .ok (.invokespecial 50, 3) := by decide +kernel
theorem dX11_init_79 : decode cX11_init 79 = .ok (.putfield 51, 3) := by decide +kernel
theorem dX11_init_82 : decode cX11_init 82 = .ok (.aload_n 0, 1) := by decide +kernel
theorem dX11_init_83 : decode cX11_init 83 = .ok (.new 55, 3) := by decide +kernel
theorem dX11_init_86 : decode cX11_init 86 = .ok (.dup, 1) := by decide +kernel
theorem dX11_init_87 : decode cX11_init 87 = .ok (.invokespecial 57, 3) := by decide +kernel
theorem dX11_init_90 : decode cX11_init 90 = .ok (.putfield 58, 3) := by decide +kernel
theorem dX11_init_93 : decode cX11_init 93 = .ok (.aload_n 0, 1) := by decide +kernel
theorem dX11_init_94 : decode cX11_init 94 = .ok (.new 62, 3) := by decide +kernel
theorem dX11_init_97 : decode cX11_init 97 = .ok (.dup, 1) := by decide +kernel
theorem dX11_init_98 : decode cX11_init 98 = .ok (.aload_n 0, 1) := by decide +kernel
theorem dX11_init_99 : decode cX11_init 99 = .ok (.getfield 58, 3) := by decide +kernel
theorem dX11_init_102 : decode cX11_init 102 = .ok (.invokespecial 64, 3) := by decide +kernel
theorem dX11_init_105 : decode cX11_init 105 = .ok (.putfield 67, 3) := by decide +kernel
theorem dX11_init_108 : decode cX11_init 108 = .ok (.aload_n 0, 1) := by decide +kernel
theorem dX11_init_109 : decode cX11_init 109 = .ok (.new 71, 3) := by decide +kernel
theorem dX11_init_112 : decode cX11_init 112 = .ok (.dup, 1) := by decide +kernel
theorem dX11_init_113 : decode cX11_init 113 = .ok (.invokespecial 73, 3) := by decide +kernel
theorem dX11_init_116 : decode cX11_init 116 = .ok (.putfield 74, 3) := by decide +kernel
theorem dX11_init_119 : decode cX11_init 119 = .ok (.aload_n 0, 1) := by decide +kernel
theorem dX11_init_120 : decode cX11_init 120 = .ok (.new 78, 3) := by decide +kernel
theorem dX11_init_123 : decode cX11_init 123 = .ok (.dup, 1) := by decide +kernel
theorem dX11_init_124 : decode cX11_init 124 = .ok (.invokespecial 80, 3) := by decide +kernel
theorem dX11_init_127 : decode cX11_init 127 = .ok (.putfield 81, 3) := by decide +kernel
theorem dX11_init_130 : decode cX11_init 130 = .ok (.aload_n 0, 1) := by decide +kernel
theorem dX11_init_131 : decode cX11_init 131 = .ok (.new 78, 3) := by decide +kernel
theorem dX11_init_134 : decode cX11_init 134 = .ok (.dup, 1) := by decide +kernel
theorem dX11_init_135 : decode cX11_init 135 = .ok (.invokespecial 80, 3) := by decide +kernel
theorem dX11_init_138 : decode cX11_init 138 = .ok (.putfield 85, 3) := by decide +kernel
theorem dX11_init_141 : decode cX11_init 141 = .ok (.aload_n 0, 1) := by decide +kernel
theorem dX11_init_142 : decode cX11_init 142 = .ok (.iconst (-1), 1) := by decide +kernel
theorem dX11_init_143 : decode cX11_init 143 = .ok (.putfield 88, 3) := by decide +kernel
theorem dX11_init_146 : decode cX11_init 146 = .ok (.aload_n 0, 1) := by decide +kernel
theorem dX11_init_147 : decode cX11_init 147 = .ok (.getfield 44, 3) := by decide +kernel
theorem dX11_init_150 : decode cX11_init 150 = .ok (.aload_n 0, 1) := by decide +kernel
theorem dX11_init_151 : decode cX11_init 151 = .ok (.getfield 81, 3) := by decide +kernel
theorem dX11_init_154 : decode cX11_init 154 = .ok (.invokevirtual 92, 3) := by decide +kernel
theorem dX11_init_157 : decode cX11_init 157 = .ok (.return_, 1) := by decide +kernel
theorem dX11_feed_0 : decode cX11_feed 0 = .ok (.aload_n 0, 1) := by decide +kernel
theorem dX11_feed_1 : decode cX11_feed 1 = .ok (.getfield 10, 3) := by decide +kernel
theorem dX11_feed_4 : decode cX11_feed 4 = .ok (.bipush 20, 2) := by decide +kernel
theorem dX11_feed_6 : decode cX11_feed 6 = .ok (.invokevirtual 96, 3) := by decide +kernel
theorem dX11_feed_9 : decode cX11_feed 9 = .ok (.ifCond .ne 5, 3) := by decide +kernel
theorem dX11_feed_12 : decode cX11_feed 12 = .ok (.iconst (-1), 1) := by decide +kernel
theorem dX11_feed_13 : decode cX11_feed 13 = .ok (.ireturn, 1) := by decide +kernel
theorem dX11_feed_14 : decode cX11_feed 14 = .ok (.aload_n 0, 1) := by decide +kernel
theorem dX11_feed_15 : decode cX11_feed 15 = .ok (.getfield 10, 3) := by decide +kernel
theorem dX11_feed_18 : decode cX11_feed 18 = .ok (.iload_n 1, 1) := by decide +kernel
theorem dX11_feed_19 : decode cX11_feed 19 = .ok (.invokevirtual 100, 3) := by decide +kernel
theorem dX11_feed_22 : decode cX11_feed 22 = .ok (.aload_n 0, 1) := by decide +kernel
theorem dX11_feed_23 : decode cX11_feed 23 = .ok (.getfield 10, 3) := by decide +kernel
theorem dX11_feed_26 : decode cX11_feed 26 = .ok (.iload_n 2, 1) := by decide +kernel
theorem dX11_feed_27 : decode cX11_feed 27 = .ok (.invokevirtual 100, 3) := by decide +kernel
theorem dX11_feed_30 : decode cX11_feed 30 = .ok (.aload_n 0, 1) := by decide +kernel
theorem dX11_feed_31 : decode cX11_feed 31 = .ok (.getfield 10, 3) := by decide +kernel
theorem dX11_feed_34 : decode cX11_feed 34 = .ok (.iload_n 3, 1) := by decide +kernel
theorem dX11_feed_35 : decode cX11_feed 35 = .ok (.invokevirtual 100, 3) := by decide +kernel
theorem dX11_feed_38 : decode cX11_feed 38 = .ok (.aload_n 0, 1) := by decide +kernel
theorem dX11_feed_39 : decode cX11_feed 39 = .ok (.getfield 10, 3) := by decide +kernel
theorem dX11_feed_42 : decode cX11_feed 42 = .ok (.iload 4, 2) := by decide +kernel
theorem dX11_feed_44 : decode cX11_feed 44 = .ok (.invokevirtual 100, 3) := by decide +kernel
theorem dX11_feed_47 : decode cX11_feed 47 = .ok (.aload_n 0, 1) := by decide +kernel
theorem dX11_feed_48 : decode cX11_feed 48 = .ok (.getfield 10, 3) := by decide +kernel
theorem dX11_feed_51 : decode cX11_feed 51 = .ok (.iload 5, 2) := by decide +kernel
theorem dX11_feed_53 : decode cX11_feed 53 = .ok (.invokevirtual 100, 3) := by decide +kernel
theorem dX11_feed_56 : decode cX11_feed 56 = .ok (.aload_n 0, 1) := by decide +kernel
theorem dX11_feed_57 : decode cX11_feed 57 = .ok (.getfield 10, 3) := by decide +kernel
theorem dX11_feed_60 : decode cX11_feed 60 = .ok (.getfield 104, 3) := by decide +kernel
theorem dX11_feed_63 : decode cX11_feed 63 = .ok (.ireturn, 1) := by decide +kernel
theorem dX11_back_0 : decode cX11_back 0 = .ok (.iload_n 1, 1) := by decide +kernel
theorem dX11_back_1 : decode cX11_back 1 = .ok (.ifCond .lt 14, 3) := by decide +kernel
theorem dX11_back_4 : decode cX11_back 4 = .ok (.iload_n 1, 1) := by decide +kernel
theorem dX11_back_5 : decode cX11_back 5 = .ok (.aload_n 0, 1) := by decide +kernel
theorem dX11_back_6 : decode cX11_back 6 = .ok (.getfield 10, 3) := by decide +kernel
theorem dX11_back_9 : decode cX11_back 9 = .ok (.getfield 104, 3) := by decide +kernel
theorem dX11_back_12 : decode cX11_back 12 = .ok (.if_icmp .le 5, 3) := by decide +kernel
theorem dX11_back_15 : decode cX11_back 15 = .ok (.iconst (-1), 1) := by decide +kernel
theorem dX11_back_16 : decode cX11_back 16 = .ok (.ireturn, 1) := by decide +kernel
theorem dX11_back_17 : decode cX11_back 17 = .ok (.aload_n 0, 1) := by decide +kernel
theorem dX11_back_18 : decode cX11_back 18 = .ok (.getfield 10, 3) := by decide +kernel
theorem dX11_back_21 : decode cX11_back 21 = .ok (.dup, 1) := by decide +kernel
theorem dX11_back_22 : decode cX11_back 22 = .ok (.getfield 104, 3) := by decide +kernel
theorem dX11_back_25 : decode cX11_back 25 = .ok (.iload_n 1, 1) := by decide +kernel
theorem dX11_back_26 : decode cX11_back 26 = .ok (.isub, 1) := by decide +kernel
theorem dX11_back_27 : decode cX11_back 27 = .ok (.putfield 104, 3) := by decide +kernel
theorem dX11_back_30 : decode cX11_back 30 = .ok (.aload_n 0, 1) := by decide +kernel
theorem dX11_back_31 : decode cX11_back 31 = .ok (.getfield 10, 3) := by decide +kernel
theorem dX11_back_34 : decode cX11_back 34 = .ok (.getfield 104, 3) := by decide +kernel
theorem dX11_back_37 : decode cX11_back 37 = .ok (.ireturn, 1) := by decide +kernel
theorem dX11_read_0 : decode cX11_read 0 = .ok (.aload_n 0, 1) := by decide +kernel
theorem dX11_read_1 : decode cX11_read 1 = .ok (.getfield 85, 3) := by decide +kernel
theorem dX11_read_4 : decode cX11_read 4 = .ok (.invokevirtual 107, 3) := by decide +kernel
theorem dX11_read_7 : decode cX11_read 7 = .ok (.aload_n 0, 1) := by decide +kernel
theorem dX11_read_8 : decode cX11_read 8 = .ok (.getfield 21, 3) := by decide +kernel
theorem dX11_read_11 : decode cX11_read 11 = .ok (.invokevirtual 110, 3) := by decide +kernel
theorem dX11_read_14 : decode cX11_read 14 = .ok (.aload_n 0, 1) := by decide +kernel
theorem dX11_read_15 : decode cX11_read 15 = .ok (.getfield 30, 3) := by decide +kernel
theorem dX11_read_18 : decode cX11_read 18 = .ok (.aload_n 0, 1) := by decide +kernel
theorem dX11_read_19 : decode cX11_read 19 = .ok (.getfield 85, 3) := by decide +kernel
theorem dX11_read_22 : decode cX11_read 22 = .ok (.getfield 113, 3) := by decide +kernel
theorem dX11_read_25 : decode cX11_read 25 = .ok (.invokevirtual 117, 3) := by decide +kernel
theorem dX11_read_28 : decode cX11_read 28 = .ok (.aload_n 0, 1) := by decide +kernel
theorem dX11_read_29 : decode cX11_read 29 = .ok (.getfield 30, 3) := by decide +kernel
theorem dX11_read_32 : decode cX11_read 32 = .ok (.getfield 121, 3) := by decide +kernel
theorem dX11_read_35 : decode cX11_read 35 = .ok (.istore_n 1, 1) := by decide +kernel
theorem dX11_read_36 : decode cX11_read 36 = .ok (.aload_n 0, 1) := by decide +kernel
theorem dX11_read_37 : decode cX11_read 37 = .ok (.getfield 30, 3) := by decide +kernel
theorem dX11_read_40 : decode cX11_read 40 = .ok (.getfield 124, 3) := by decide +kernel
theorem dX11_read_43 : decode cX11_read 43 = .ok (.istore_n 2, 1) := by decide +kernel
theorem dX11_read_44 : decode cX11_read 44 = .ok (.iload_n 1, 1) := by decide +kernel
theorem dX11_read_45 : decode cX11_read 45 = .ok (.ifCond .ne 30, 3) := by decide +kernel
theorem dX11_read_48 : decode cX11_read 48 = .ok (.aload_n 0, 1) := by decide +kernel
theorem dX11_read_49 : decode cX11_read 49 = .ok (.getfield 37, 3) := by decide +kernel
theorem dX11_read_52 : decode cX11_read 52 = .ok (.aload_n 0, 1) := by decide +kernel
theorem dX11_read_53 : decode cX11_read 53 = .ok (.getfield 85, 3) := by decide +kernel
theorem dX11_read_56 : decode cX11_read 56 = .ok (.invokevirtual 127, 3) := by decide +kernel
theorem dX11_read_59 : decode cX11_read 59 = .ok (.aload_n 0, 1) := by decide +kernel
theorem dX11_read_60 : decode cX11_read 60 = .ok (.getfield 37, 3) := by decide +kernel
theorem dX11_read_63 : decode cX11_read 63 = .ok (.getfield 130, 3) := by decide +kernel
theorem dX11_read_66 : decode cX11_read 66 = .ok (.istore_n 1, 1) := by decide +kernel
theorem dX11_read_67 : decode cX11_read 67 = .ok (.aload_n 0, 1) := by decide +kernel
theorem dX11_read_68 : decode cX11_read 68 = .ok (.getfield 37, 3) := by decide +kernel
theorem dX11_read_71 : decode cX11_read 71 = .ok (.getfield 131, 3) := by decide +kernel
theorem dX11_read_74 : decode cX11_read 74 = .ok (.istore_n 2, 1) := by decide +kernel
theorem dX11_read_75 : decode cX11_read 75 = .ok (.aload_n 0, 1) := by decide +kernel
theorem dX11_read_76 : decode cX11_read 76 = .ok (.iload_n 1, 1) := by decide +kernel
theorem dX11_read_77 : decode cX11_read 77 = .ok (.ifCond .ne 7, 3) := by decide +kernel
theorem dX11_read_80 : decode cX11_read 80 = .ok (.iconst (-1), 1) := by decide +kernel
theorem dX11_read_81 : decode cX11_read 81 = .ok (.goto 11, 3) := by decide +kernel
theorem dX11_read_84 : decode cX11_read 84 = .ok (.aload_n 0, 1) := by decide +kernel
theorem dX11_read_85 : decode cX11_read 85 = .ok (.getfield 21, 3) := by decide +kernel
theorem dX11_read_88 : decode cX11_read 88 = .ok (.iload_n 2, 1) := by decide +kernel
theorem dX11_read_89 : decode cX11_read 89 = .ok (.invokevirtual 134, 3) := by decide +kernel
theorem dX11_read_92 : decode cX11_read 92 = .ok (.putfield 88, 3) := by decide +kernel
theorem dX11_read_95 : decode cX11_read 95 = .ok (.aload_n 0, 1) := by decide +kernel
theorem dX11_read_96 : decode cX11_read 96 = .ok (.getfield 10, 3) := by decide +kernel
theorem dX11_read_99 : decode cX11_read 99 = .ok (.iconst 0, 1) := by decide +kernel
theorem dX11_read_100 : decode cX11_read 100 = .ok (.putfield 104, 3) := by decide +kernel
theorem dX11_read_103 : decode cX11_read 103 = .ok (.iload_n 1, 1) := by decide +kernel
theorem dX11_read_104 : decode cX11_read 104 = .ok (.ifCond .ne 7, 3) := by decide +kernel
theorem dX11_read_107 : decode cX11_read 107 = .ok (.aload_n 0, 1) := by decide +kernel
theorem dX11_read_108 : decode cX11_read 108 = .ok (.invokevirtual 138, 3) := by decide +kernel
theorem dX11_read_111 : decode cX11_read 111 = .ok (.iload_n 1, 1) := by decide +kernel
theorem dX11_read_112 : decode cX11_read 112 = .ok (.ireturn, 1) := by decide +kernel
theorem dX11_place_0 : decode cX11_place 0 = .ok (.aload_n 0, 1) := by decide +kernel
theorem dX11_place_1 : decode cX11_place 1 = .ok (.getfield 88, 3) := by decide +kernel
theorem dX11_place_4 : decode cX11_place 4 = .ok (.ireturn, 1) := by decide +kernel
theorem dX11_house_0 : decode cX11_house 0 = .ok (.aload_n 0, 1) := by decide +kernel
theorem dX11_house_1 : decode cX11_house 1 = .ok (.iload_n 1, 1) := by decide +kernel
theorem dX11_house_2 : decode cX11_house 2 = .ok (.invokevirtual 141, 3) := by decide +kernel
theorem dX11_house_5 : decode cX11_house 5 = .ok (.ifCond .ne 5, 3) := by decide +kernel
theorem dX11_house_8 : decode cX11_house 8 = .ok (.iconst (-1), 1) := by decide +kernel
theorem dX11_house_9 : decode cX11_house 9 = .ok (.ireturn, 1) := by decide +kernel
theorem dX11_house_10 : decode cX11_house 10 = .ok (.iload_n 2, 1) := by decide +kernel
theorem dX11_house_11 : decode cX11_house 11 = .ok (.tableswitch 181 0 9 #[53, 63, 73, 83, 93, 103, 113, 141, 165, 171], 53) := by decide +kernel
theorem dX11_house_64 : decode cX11_house 64 = .ok (.aload_n 0, 1) := by decide +kernel
theorem dX11_house_65 : decode cX11_house 65 = .ok (.getfield 44, 3) := by decide +kernel
theorem dX11_house_68 : decode cX11_house 68 = .ok (.getfield 144, 3) := by decide +kernel
theorem dX11_house_71 : decode cX11_house 71 = .ok (.iload_n 1, 1) := by decide +kernel
theorem dX11_house_72 : decode cX11_house 72 = .ok (.iaload, 1) := by decide +kernel
theorem dX11_house_73 : decode cX11_house 73 = .ok (.ireturn, 1) := by decide +kernel
theorem dX11_house_74 : decode cX11_house 74 = .ok (.aload_n 0, 1) := by decide +kernel
theorem dX11_house_75 : decode cX11_house 75 = .ok (.getfield 44, 3) := by decide +kernel
theorem dX11_house_78 : decode cX11_house 78 = .ok (.getfield 148, 3) := by decide +kernel
theorem dX11_house_81 : decode cX11_house 81 = .ok (.iload_n 1, 1) := by decide +kernel
theorem dX11_house_82 : decode cX11_house 82 = .ok (.iaload, 1) := by decide +kernel
theorem dX11_house_83 : decode cX11_house 83 = .ok (.ireturn, 1) := by decide +kernel
theorem dX11_house_84 : decode cX11_house 84 = .ok (.aload_n 0, 1) := by decide +kernel
theorem dX11_house_85 : decode cX11_house 85 = .ok (.getfield 81, 3) := by decide +kernel
theorem dX11_house_88 : decode cX11_house 88 = .ok (.getfield 151, 3) := by decide +kernel
theorem dX11_house_91 : decode cX11_house 91 = .ok (.iload_n 1, 1) := by decide +kernel
theorem dX11_house_92 : decode cX11_house 92 = .ok (.iaload, 1) := by decide +kernel
theorem dX11_house_93 : decode cX11_house 93 = .ok (.ireturn, 1) := by decide +kernel
theorem dX11_house_94 : decode cX11_house 94 = .ok (.aload_n 0, 1) := by decide +kernel
theorem dX11_house_95 : decode cX11_house 95 = .ok (.getfield 81, 3) := by decide +kernel
theorem dX11_house_98 : decode cX11_house 98 = .ok (.getfield 154, 3) := by decide +kernel
theorem dX11_house_101 : decode cX11_house 101 = .ok (.iload_n 1, 1) := by decide +kernel
theorem dX11_house_102 : decode cX11_house 102 = .ok (.iaload, 1) := by decide +kernel
theorem dX11_house_103 : decode cX11_house 103 = .ok (.ireturn, 1) := by decide +kernel
theorem dX11_house_104 : decode cX11_house 104 = .ok (.aload_n 0, 1) := by decide +kernel
theorem dX11_house_105 : decode cX11_house 105 = .ok (.getfield 44, 3) := by decide +kernel
theorem dX11_house_108 : decode cX11_house 108 = .ok (.getfield 157, 3) := by decide +kernel
theorem dX11_house_111 : decode cX11_house 111 = .ok (.iload_n 1, 1) := by decide +kernel
theorem dX11_house_112 : decode cX11_house 112 = .ok (.iaload, 1) := by decide +kernel
theorem dX11_house_113 : decode cX11_house 113 = .ok (.ireturn, 1) := by decide +kernel
theorem dX11_house_114 : decode cX11_house 114 = .ok (.aload_n 0, 1) := by decide +kernel
theorem dX11_house_115 : decode cX11_house 115 = .ok (.getfield 44, 3) := by decide +kernel
theorem dX11_house_118 : decode cX11_house 118 = .ok (.getfield 160, 3) := by decide +kernel
theorem dX11_house_121 : decode cX11_house 121 = .ok (.iload_n 1, 1) := by decide +kernel
theorem dX11_house_122 : decode cX11_house 122 = .ok (.iaload, 1) := by decide +kernel
theorem dX11_house_123 : decode cX11_house 123 = .ok (.ireturn, 1) := by decide +kernel
theorem dX11_house_124 : decode cX11_house 124 = .ok (.aload_n 0, 1) := by decide +kernel
theorem dX11_house_125 : decode cX11_house 125 = .ok (.getfield 44, 3) := by decide +kernel
theorem dX11_house_128 : decode cX11_house 128 = .ok (.getfield 163, 3) := by decide +kernel
theorem dX11_house_131 : decode cX11_house 131 = .ok (.iload_n 1, 1) := by decide +kernel
theorem dX11_house_132 : decode cX11_house 132 = .ok (.iaload, 1) := by decide +kernel
theorem dX11_house_133 : decode cX11_house 133 = .ok (.iconst (-1), 1) := by decide +kernel
theorem dX11_house_134 : decode cX11_house 134 = .ok (.if_icmp .ne 8, 3) := by decide +kernel
theorem dX11_house_137 : decode cX11_house 137 = .ok (.bipush (-2), 2) := by decide +kernel
theorem dX11_house_139 : decode cX11_house 139 = .ok (.goto 12, 3) := by decide +kernel
theorem dX11_house_142 : decode cX11_house 142 = .ok (.aload_n 0, 1) := by decide +kernel
theorem dX11_house_143 : decode cX11_house 143 = .ok (.getfield 44, 3) := by decide +kernel
theorem dX11_house_146 : decode cX11_house 146 = .ok (.getfield 163, 3) := by decide +kernel
theorem dX11_house_149 : decode cX11_house 149 = .ok (.iload_n 1, 1) := by decide +kernel
theorem dX11_house_150 : decode cX11_house 150 = .ok (.iaload, 1) := by decide +kernel
theorem dX11_house_151 : decode cX11_house 151 = .ok (.ireturn, 1) := by decide +kernel
theorem dX11_house_152 : decode cX11_house 152 = .ok (.aload_n 0, 1) := by decide +kernel
theorem dX11_house_153 : decode cX11_house 153 = .ok (.getfield 58, 3) := by decide +kernel
theorem dX11_house_156 : decode cX11_house 156 = .ok (.aload_n 0, 1) := by decide +kernel
theorem dX11_house_157 : decode cX11_house 157 = .ok (.getfield 81, 3) := by decide +kernel
theorem dX11_house_160 : decode cX11_house 160 = .ok (.aload_n 0, 1) := by decide +kernel
theorem dX11_house_161 : decode cX11_house 161 = .ok (.getfield 44, 3) := by decide +kernel
theorem dX11_house_164 : decode cX11_house 164 = .ok (.iload_n 1, 1) := by decide +kernel
theorem dX11_house_165 : decode cX11_house 165 = .ok (.aload_n 0, 1) := by decide +kernel
theorem dX11_house_166 : decode cX11_house 166 = .ok (.getfield 44, 3) := by decide +kernel
theorem dX11_house_169 : decode cX11_house 169 = .ok (.invokevirtual 166, 3) := by decide +kernel
theorem dX11_house_172 : decode cX11_house 172 = .ok (.invokevirtual 170, 3) := by decide +kernel
theorem dX11_house_175 : decode cX11_house 175 = .ok (.ireturn, 1) := by decide +kernel
theorem dX11_house_176 : decode cX11_house 176 = .ok (.aload_n 0, 1) := by decide +kernel
theorem dX11_house_177 : decode cX11_house 177 = .ok (.iload_n 1, 1) := by decide +kernel
theorem dX11_house_178 : decode cX11_house 178 = .ok (.invokevirtual 174, 3) := by decide +kernel
theorem dX11_house_181 : decode cX11_house 181 = .ok (.ireturn, 1) := by decide +kernel
theorem dX11_house_182 : decode cX11_house 182 = .ok (.aload_n 0, 1) := by decide +kernel
theorem dX11_house_183 : decode cX11_house 183 = .ok (.getfield 81, 3) := by decide +kernel
theorem dX11_house_186 : decode cX11_house 186 = .ok (.getfield 177, 3) := by decide +kernel
theorem dX11_house_189 : decode cX11_house 189 = .ok (.iload_n 1, 1) := by decide +kernel
theorem dX11_house_190 : decode cX11_house 190 = .ok (.iaload, 1) := by decide +kernel
theorem dX11_house_191 : decode cX11_house 191 = .ok (.ireturn, 1) := by decide +kernel
theorem dX11_house_192 : decode cX11_house 192 = .ok (.iconst (-1), 1) := by decide +kernel
theorem dX11_house_193 : decode cX11_house 193 = .ok (.ireturn, 1) := by decide +kernel
theorem dX11_tells_0 : decode cX11_tells 0 = .ok (.iload_n 2, 1) := by decide +kernel
theorem dX11_tells_1 : decode cX11_tells 1 = .ok (.ifCond .ne 19, 3) := by decide +kernel
theorem dX11_tells_4 : decode cX11_tells 4 = .ok (.aload_n 0, 1) := by decide +kernel
theorem dX11_tells_5 : decode cX11_tells 5 = .ok (.getfield 58, 3) := by decide +kernel
theorem dX11_tells_8 : decode cX11_tells 8 = .ok (.aload_n 0, 1) := by decide +kernel
theorem dX11_tells_9 : decode cX11_tells 9 = .ok (.getfield 81, 3) := by decide +kernel
theorem dX11_tells_12 : decode cX11_tells 12 = .ok (.aload_n 0, 1) := by decide +kernel
theorem dX11_tells_13 : decode cX11_tells 13 = .ok (.getfield 44, 3) := by decide +kernel
theorem dX11_tells_16 : decode cX11_tells 16 = .ok (.invokevirtual 180, 3) := by decide +kernel
theorem dX11_tells_19 : decode cX11_tells 19 = .ok (.ireturn, 1) := by decide +kernel
theorem dX11_tells_20 : decode cX11_tells 20 = .ok (.aload_n 0, 1) := by decide +kernel
theorem dX11_tells_21 : decode cX11_tells 21 = .ok (.iload_n 1, 1) := by decide +kernel
theorem dX11_tells_22 : decode cX11_tells 22 = .ok (.invokevirtual 141, 3) := by decide +kernel
theorem dX11_tells_25 : decode cX11_tells 25 = .ok (.ifCond .ne 5, 3) := by decide +kernel
theorem dX11_tells_28 : decode cX11_tells 28 = .ok (.iconst (-1), 1) := by decide +kernel
theorem dX11_tells_29 : decode cX11_tells 29 = .ok (.ireturn, 1) := by decide +kernel
theorem dX11_tells_30 : decode cX11_tells 30 = .ok (.iload_n 2, 1) := by decide +kernel
theorem dX11_tells_31 : decode cX11_tells 31 = .ok (.tableswitch 97 1 3 #[25, 49, 73], 25) := by decide +kernel
theorem dX11_tells_56 : decode cX11_tells 56 = .ok (.aload_n 0, 1) := by decide +kernel
theorem dX11_tells_57 : decode cX11_tells 57 = .ok (.getfield 58, 3) := by decide +kernel
theorem dX11_tells_60 : decode cX11_tells 60 = .ok (.aload_n 0, 1) := by decide +kernel
theorem dX11_tells_61 : decode cX11_tells 61 = .ok (.getfield 81, 3) := by decide +kernel
theorem dX11_tells_64 : decode cX11_tells 64 = .ok (.aload_n 0, 1) := by decide +kernel
theorem dX11_tells_65 : decode cX11_tells 65 = .ok (.getfield 44, 3) := by decide +kernel
theorem dX11_tells_68 : decode cX11_tells 68 = .ok (.iload_n 1, 1) := by decide +kernel
theorem dX11_tells_69 : decode cX11_tells 69 = .ok (.aload_n 0, 1) := by decide +kernel
theorem dX11_tells_70 : decode cX11_tells 70 = .ok (.getfield 44, 3) := by decide +kernel
theorem dX11_tells_73 : decode cX11_tells 73 = .ok (.invokevirtual 166, 3) := by decide +kernel
theorem dX11_tells_76 : decode cX11_tells 76 = .ok (.invokevirtual 184, 3) := by decide +kernel
theorem dX11_tells_79 : decode cX11_tells 79 = .ok (.ireturn, 1) := by decide +kernel
theorem dX11_tells_80 : decode cX11_tells 80 = .ok (.aload_n 0, 1) := by decide +kernel
theorem dX11_tells_81 : decode cX11_tells 81 = .ok (.getfield 58, 3) := by decide +kernel
theorem dX11_tells_84 : decode cX11_tells 84 = .ok (.aload_n 0, 1) := by decide +kernel
theorem dX11_tells_85 : decode cX11_tells 85 = .ok (.getfield 81, 3) := by decide +kernel
theorem dX11_tells_88 : decode cX11_tells 88 = .ok (.aload_n 0, 1) := by decide +kernel
theorem dX11_tells_89 : decode cX11_tells 89 = .ok (.getfield 44, 3) := by decide +kernel
theorem dX11_tells_92 : decode cX11_tells 92 = .ok (.iload_n 1, 1) := by decide +kernel
theorem dX11_tells_93 : decode cX11_tells 93 = .ok (.aload_n 0, 1) := by decide +kernel
theorem dX11_tells_94 : decode cX11_tells 94 = .ok (.getfield 44, 3) := by decide +kernel
theorem dX11_tells_97 : decode cX11_tells 97 = .ok (.invokevirtual 166, 3) := by decide +kernel
theorem dX11_tells_100 : decode cX11_tells 100 = .ok (.invokevirtual 187, 3) := by decide +kernel
theorem dX11_tells_103 : decode cX11_tells 103 = .ok (.ireturn, 1) := by decide +kernel
theorem dX11_tells_104 : decode cX11_tells 104 = .ok (.aload_n 0, 1) := by decide +kernel
theorem dX11_tells_105 : decode cX11_tells 105 = .ok (.getfield 58, 3) := by decide +kernel
theorem dX11_tells_108 : decode cX11_tells 108 = .ok (.aload_n 0, 1) := by decide +kernel
theorem dX11_tells_109 : decode cX11_tells 109 = .ok (.getfield 81, 3) := by decide +kernel
theorem dX11_tells_112 : decode cX11_tells 112 = .ok (.aload_n 0, 1) := by decide +kernel
theorem dX11_tells_113 : decode cX11_tells 113 = .ok (.getfield 44, 3) := by decide +kernel
theorem dX11_tells_116 : decode cX11_tells 116 = .ok (.iload_n 1, 1) := by decide +kernel
theorem dX11_tells_117 : decode cX11_tells 117 = .ok (.aload_n 0, 1) := by decide +kernel
theorem dX11_tells_118 : decode cX11_tells 118 = .ok (.getfield 44, 3) := by decide +kernel
theorem dX11_tells_121 : decode cX11_tells 121 = .ok (.invokevirtual 166, 3) := by decide +kernel
theorem dX11_tells_124 : decode cX11_tells 124 = .ok (.invokevirtual 190, 3) := by decide +kernel
theorem dX11_tells_127 : decode cX11_tells 127 = .ok (.ireturn, 1) := by decide +kernel
theorem dX11_tells_128 : decode cX11_tells 128 = .ok (.iconst (-1), 1) := by decide +kernel
theorem dX11_tells_129 : decode cX11_tells 129 = .ok (.ireturn, 1) := by decide +kernel
theorem dX11_buy_0 : decode cX11_buy 0 = .ok (.aload_n 0, 1) := by decide +kernel
theorem dX11_buy_1 : decode cX11_buy 1 = .ok (.iload_n 1, 1) := by decide +kernel
theorem dX11_buy_2 : decode cX11_buy 2 = .ok (.invokevirtual 141, 3) := by decide +kernel
theorem dX11_buy_5 : decode cX11_buy 5 = .ok (.ifCond .eq 24, 3) := by decide +kernel
theorem dX11_buy_8 : decode cX11_buy 8 = .ok (.aload_n 0, 1) := by decide +kernel
theorem dX11_buy_9 : decode cX11_buy 9 = .ok (.iload_n 2, 1) := by decide +kernel
theorem dX11_buy_10 : decode cX11_buy 10 = .ok (.invokevirtual 141, 3) := by decide +kernel
theorem dX11_buy_13 : decode cX11_buy 13 = .ok (.ifCond .eq 16, 3) := by decide +kernel
theorem dX11_buy_16 : decode cX11_buy 16 = .ok (.iload_n 1, 1) := by decide +kernel
theorem dX11_buy_17 : decode cX11_buy 17 = .ok (.iload_n 2, 1) := by decide +kernel
theorem dX11_buy_18 : decode cX11_buy 18 = .ok (.if_icmp .eq 11, 3) := by decide +kernel
theorem dX11_buy_21 : decode cX11_buy 21 = .ok (.aload_n 0, 1) := by decide +kernel
theorem dX11_buy_22 : decode cX11_buy 22 = .ok (.iload_n 3, 1) := by decide +kernel
theorem dX11_buy_23 : decode cX11_buy 23 = .ok (.invokevirtual 193, 3) := by decide +kernel
theorem dX11_buy_26 : decode cX11_buy 26 = .ok (.ifCond .ne 5, 3) := by decide +kernel
theorem dX11_buy_29 : decode cX11_buy 29 = .ok (.iconst (-1), 1) := by decide +kernel
theorem dX11_buy_30 : decode cX11_buy 30 = .ok (.ireturn, 1) := by decide +kernel
theorem dX11_buy_31 : decode cX11_buy 31 = .ok (.iload_n 3, 1) := by decide +kernel
theorem dX11_buy_32 : decode cX11_buy 32 = .ok (.aload_n 0, 1) := by decide +kernel
theorem dX11_buy_33 : decode cX11_buy 33 = .ok (.getfield 58, 3) := by decide +kernel
theorem dX11_buy_36 : decode cX11_buy 36 = .ok (.aload_n 0, 1) := by decide +kernel
theorem dX11_buy_37 : decode cX11_buy 37 = .ok (.getfield 81, 3) := by decide +kernel
theorem dX11_buy_40 : decode cX11_buy 40 = .ok (.aload_n 0, 1) := by decide +kernel
theorem dX11_buy_41 : decode cX11_buy 41 = .ok (.getfield 44, 3) := by decide +kernel
theorem dX11_buy_44 : decode cX11_buy 44 = .ok (.invokevirtual 180, 3) := by decide +kernel
theorem dX11_buy_47 : decode cX11_buy 47 = .ok (.imul, 1) := by decide +kernel
theorem dX11_buy_48 : decode cX11_buy 48 = .ok (.istore 4, 2) := by decide +kernel
theorem dX11_buy_50 : decode cX11_buy 50 = .ok (.aload_n 0, 1) := by decide +kernel
theorem dX11_buy_51 : decode cX11_buy 51 = .ok (.getfield 44, 3) := by decide +kernel
theorem dX11_buy_54 : decode cX11_buy 54 = .ok (.getfield 144, 3) := by decide +kernel
theorem dX11_buy_57 : decode cX11_buy 57 = .ok (.iload_n 2, 1) := by decide +kernel
theorem dX11_buy_58 : decode cX11_buy 58 = .ok (.iaload, 1) := by decide +kernel
theorem dX11_buy_59 : decode cX11_buy 59 = .ok (.iload_n 3, 1) := by decide +kernel
theorem dX11_buy_60 : decode cX11_buy 60 = .ok (.if_icmp .lt 52, 3) := by decide +kernel
theorem dX11_buy_63 : decode cX11_buy 63 = .ok (.aload_n 0, 1) := by decide +kernel
theorem dX11_buy_64 : decode cX11_buy 64 = .ok (.getfield 44, 3) := by decide +kernel
theorem dX11_buy_67 : decode cX11_buy 67 = .ok (.getfield 148, 3) := by decide +kernel
theorem dX11_buy_70 : decode cX11_buy 70 = .ok (.iload_n 1, 1) := by decide +kernel
theorem dX11_buy_71 : decode cX11_buy 71 = .ok (.iaload, 1) := by decide +kernel
theorem dX11_buy_72 : decode cX11_buy 72 = .ok (.iload 4, 2) := by decide +kernel
theorem dX11_buy_74 : decode cX11_buy 74 = .ok (.if_icmp .lt 38, 3) := by decide +kernel
theorem dX11_buy_77 : decode cX11_buy 77 = .ok (.aload_n 0, 1) := by decide +kernel
theorem dX11_buy_78 : decode cX11_buy 78 = .ok (.getfield 44, 3) := by decide +kernel
theorem dX11_buy_81 : decode cX11_buy 81 = .ok (.getfield 144, 3) := by decide +kernel
theorem dX11_buy_84 : decode cX11_buy 84 = .ok (.iload_n 1, 1) := by decide +kernel
theorem dX11_buy_85 : decode cX11_buy 85 = .ok (.iaload, 1) := by decide +kernel
theorem dX11_buy_86 : decode cX11_buy 86 = .ok (.iload_n 3, 1) := by decide +kernel
theorem dX11_buy_87 : decode cX11_buy 87 = .ok (.iadd, 1) := by decide +kernel
theorem dX11_buy_88 : decode cX11_buy 88 = .ok (.sipush 9999, 3) := by decide +kernel
theorem dX11_buy_91 : decode cX11_buy 91 = .ok (.if_icmp .gt 21, 3) := by decide +kernel
theorem dX11_buy_94 : decode cX11_buy 94 = .ok (.aload_n 0, 1) := by decide +kernel
theorem dX11_buy_95 : decode cX11_buy 95 = .ok (.getfield 44, 3) := by decide +kernel
theorem dX11_buy_98 : decode cX11_buy 98 = .ok (.getfield 148, 3) := by decide +kernel
theorem dX11_buy_101 : decode cX11_buy 101 = .ok (.iload_n 2, 1) := by decide +kernel
theorem dX11_buy_102 : decode cX11_buy 102 = .ok (.iaload, 1) := by decide +kernel
theorem dX11_buy_103 : decode cX11_buy 103 = .ok (.iload 4, 2) := by decide +kernel
theorem dX11_buy_105 : decode cX11_buy 105 = .ok (.iadd, 1) := by decide +kernel
theorem dX11_buy_106 : decode cX11_buy 106 = .ok (.sipush 9999, 3) := by decide +kernel
theorem dX11_buy_109 : decode cX11_buy 109 = .ok (.if_icmp .le 6, 3) := by decide +kernel
theorem dX11_buy_112 : decode cX11_buy 112 = .ok (.bipush (-2), 2) := by decide +kernel
theorem dX11_buy_114 : decode cX11_buy 114 = .ok (.ireturn, 1) := by decide +kernel
theorem dX11_buy_115 : decode cX11_buy 115 = .ok (.aload_n 0, 1) := by decide +kernel
theorem dX11_buy_116 : decode cX11_buy 116 = .ok (.getfield 51, 3) := by decide +kernel
theorem dX11_buy_119 : decode cX11_buy 119 = .ok (.aload_n 0, 1) := by decide +kernel
theorem dX11_buy_120 : decode cX11_buy 120 = .ok (.getfield 44, 3) := by decide +kernel
theorem dX11_buy_123 : decode cX11_buy 123 = .ok (.invokevirtual 196, 3) := by decide +kernel
theorem dX11_buy_126 : decode cX11_buy 126 = .ok (.aload_n 0, 1) := by decide +kernel
theorem dX11_buy_127 : decode cX11_buy 127 = .ok (.getfield 44, 3) := by decide +kernel
theorem dX11_buy_130 : decode cX11_buy 130 = .ok (.iload_n 2, 1) := by decide +kernel
theorem dX11_buy_131 : decode cX11_buy 131 = .ok (.iload_n 1, 1) := by decide +kernel
theorem dX11_buy_132 : decode cX11_buy 132 = .ok (.iload_n 3, 1) := by decide +kernel
theorem dX11_buy_133 : decode cX11_buy 133 = .ok (.invokevirtual 200, 3) := by decide +kernel
theorem dX11_buy_136 : decode cX11_buy 136 = .ok (.aload_n 0, 1) := by decide +kernel
theorem dX11_buy_137 : decode cX11_buy 137 = .ok (.getfield 44, 3) := by decide +kernel
theorem dX11_buy_140 : decode cX11_buy 140 = .ok (.getfield 148, 3) := by decide +kernel
theorem dX11_buy_143 : decode cX11_buy 143 = .ok (.iload_n 1, 1) := by decide +kernel
theorem dX11_buy_144 : decode cX11_buy 144 = .ok (.dup2, 1) := by decide +kernel
theorem dX11_buy_145 : decode cX11_buy 145 = .ok (.iaload, 1) := by decide +kernel
theorem dX11_buy_146 : decode cX11_buy 146 = .ok (.iload 4, 2) := by decide +kernel
theorem dX11_buy_148 : decode cX11_buy 148 = .ok (.isub, 1) := by decide +kernel
theorem dX11_buy_149 : decode cX11_buy 149 = .ok (.iastore, 1) := by decide +kernel
theorem dX11_buy_150 : decode cX11_buy 150 = .ok (.aload_n 0, 1) := by decide +kernel
theorem dX11_buy_151 : decode cX11_buy 151 = .ok (.getfield 44, 3) := by decide +kernel
theorem dX11_buy_154 : decode cX11_buy 154 = .ok (.getfield 148, 3) := by decide +kernel
theorem dX11_buy_157 : decode cX11_buy 157 = .ok (.iload_n 2, 1) := by decide +kernel
theorem dX11_buy_158 : decode cX11_buy 158 = .ok (.dup2, 1) := by decide +kernel
theorem dX11_buy_159 : decode cX11_buy 159 = .ok (.iaload, 1) := by decide +kernel
theorem dX11_buy_160 : decode cX11_buy 160 = .ok (.iload 4, 2) := by decide +kernel
theorem dX11_buy_162 : decode cX11_buy 162 = .ok (.iadd, 1) := by decide +kernel
theorem dX11_buy_163 : decode cX11_buy 163 = .ok (.iastore, 1) := by decide +kernel
theorem dX11_buy_164 : decode cX11_buy 164 = .ok (.iload 4, 2) := by decide +kernel
theorem dX11_buy_166 : decode cX11_buy 166 = .ok (.ireturn, 1) := by decide +kernel
theorem dX11_eat_0 : decode cX11_eat 0 = .ok (.aload_n 0, 1) := by decide +kernel
theorem dX11_eat_1 : decode cX11_eat 1 = .ok (.iload_n 1, 1) := by decide +kernel
theorem dX11_eat_2 : decode cX11_eat 2 = .ok (.invokevirtual 141, 3) := by decide +kernel
theorem dX11_eat_5 : decode cX11_eat 5 = .ok (.ifCond .eq 11, 3) := by decide +kernel
theorem dX11_eat_8 : decode cX11_eat 8 = .ok (.aload_n 0, 1) := by decide +kernel
theorem dX11_eat_9 : decode cX11_eat 9 = .ok (.iload_n 2, 1) := by decide +kernel
theorem dX11_eat_10 : decode cX11_eat 10 = .ok (.invokevirtual 193, 3) := by decide +kernel
theorem dX11_eat_13 : decode cX11_eat 13 = .ok (.ifCond .ne 5, 3) := by decide +kernel
theorem dX11_eat_16 : decode cX11_eat 16 = .ok (.iconst (-1), 1) := by decide +kernel
theorem dX11_eat_17 : decode cX11_eat 17 = .ok (.ireturn, 1) := by decide +kernel
theorem dX11_eat_18 : decode cX11_eat 18 = .ok (.aload_n 0, 1) := by decide +kernel
theorem dX11_eat_19 : decode cX11_eat 19 = .ok (.getfield 44, 3) := by decide +kernel
theorem dX11_eat_22 : decode cX11_eat 22 = .ok (.getfield 144, 3) := by decide +kernel
theorem dX11_eat_25 : decode cX11_eat 25 = .ok (.iload_n 1, 1) := by decide +kernel
theorem dX11_eat_26 : decode cX11_eat 26 = .ok (.iaload, 1) := by decide +kernel
theorem dX11_eat_27 : decode cX11_eat 27 = .ok (.iload_n 2, 1) := by decide +kernel
theorem dX11_eat_28 : decode cX11_eat 28 = .ok (.if_icmp .ge 6, 3) := by decide +kernel
theorem dX11_eat_31 : decode cX11_eat 31 = .ok (.bipush (-2), 2) := by decide +kernel
theorem dX11_eat_33 : decode cX11_eat 33 = .ok (.ireturn, 1) := by decide +kernel
theorem dX11_eat_34 : decode cX11_eat 34 = .ok (.aload_n 0, 1) := by decide +kernel
theorem dX11_eat_35 : decode cX11_eat 35 = .ok (.getfield 51, 3) := by decide +kernel
theorem dX11_eat_38 : decode cX11_eat 38 = .ok (.aload_n 0, 1) := by decide +kernel
theorem dX11_eat_39 : decode cX11_eat 39 = .ok (.getfield 44, 3) := by decide +kernel
theorem dX11_eat_42 : decode cX11_eat 42 = .ok (.invokevirtual 196, 3) := by decide +kernel
theorem dX11_eat_45 : decode cX11_eat 45 = .ok (.aload_n 0, 1) := by decide +kernel
theorem dX11_eat_46 : decode cX11_eat 46 = .ok (.getfield 44, 3) := by decide +kernel
theorem dX11_eat_49 : decode cX11_eat 49 = .ok (.iload_n 1, 1) := by decide +kernel
theorem dX11_eat_50 : decode cX11_eat 50 = .ok (.iload_n 2, 1) := by decide +kernel
theorem dX11_eat_51 : decode cX11_eat 51 = .ok (.invokevirtual 204, 3) := by decide +kernel
theorem dX11_eat_54 : decode cX11_eat 54 = .ok (.aload_n 0, 1) := by decide +kernel
theorem dX11_eat_55 : decode cX11_eat 55 = .ok (.getfield 44, 3) := by decide +kernel
theorem dX11_eat_58 : decode cX11_eat 58 = .ok (.getfield 144, 3) := by decide +kernel
theorem dX11_eat_61 : decode cX11_eat 61 = .ok (.iload_n 1, 1) := by decide +kernel
theorem dX11_eat_62 : decode cX11_eat 62 = .ok (.iaload, 1) := by decide +kernel
theorem dX11_eat_63 : decode cX11_eat 63 = .ok (.ireturn, 1) := by decide +kernel
theorem dX11_salts_0 : decode cX11_salts 0 = .ok (.aload_n 0, 1) := by decide +kernel
theorem dX11_salts_1 : decode cX11_salts 1 = .ok (.iload_n 1, 1) := by decide +kernel
theorem dX11_salts_2 : decode cX11_salts 2 = .ok (.invokevirtual 141, 3) := by decide +kernel
theorem dX11_salts_5 : decode cX11_salts 5 = .ok (.ifCond .eq 11, 3) := by decide +kernel
theorem dX11_salts_8 : decode cX11_salts 8 = .ok (.aload_n 0, 1) := by decide +kernel
theorem dX11_salts_9 : decode cX11_salts 9 = .ok (.iload_n 2, 1) := by decide +kernel
theorem dX11_salts_10 : decode cX11_salts 10 = .ok (.invokevirtual 193, 3) := by decide +kernel
theorem dX11_salts_13 : decode cX11_salts 13 = .ok (.ifCond .ne 5, 3) := by decide +kernel
theorem dX11_salts_16 : decode cX11_salts 16 = .ok (.iconst (-1), 1) := by decide +kernel
theorem dX11_salts_17 : decode cX11_salts 17 = .ok (.ireturn, 1) := by decide +kernel
theorem dX11_salts_18 : decode cX11_salts 18 = .ok (.aload_n 0, 1) := by decide +kernel
theorem dX11_salts_19 : decode cX11_salts 19 = .ok (.getfield 44, 3) := by decide +kernel
theorem dX11_salts_22 : decode cX11_salts 22 = .ok (.iload_n 1, 1) := by decide +kernel
theorem dX11_salts_23 : decode cX11_salts 23 = .ok (.invokevirtual 208, 3) := by decide +kernel
theorem dX11_salts_26 : decode cX11_salts 26 = .ok (.iload_n 2, 1) := by decide +kernel
theorem dX11_salts_27 : decode cX11_salts 27 = .ok (.if_icmp .lt 14, 3) := by decide +kernel
theorem dX11_salts_30 : decode cX11_salts 30 = .ok (.aload_n 0, 1) := by decide +kernel
theorem dX11_salts_31 : decode cX11_salts 31 = .ok (.getfield 44, 3) := by decide +kernel
theorem dX11_salts_34 : decode cX11_salts 34 = .ok (.getfield 211, 3) := by decide +kernel
theorem dX11_salts_37 : decode cX11_salts 37 = .ok (.iload_n 2, 1) := by decide +kernel
theorem dX11_salts_38 : decode cX11_salts 38 = .ok (.if_icmp .ge 6, 3) := by decide +kernel
theorem dX11_salts_41 : decode cX11_salts 41 = .ok (.bipush (-2), 2) := by decide +kernel
theorem dX11_salts_43 : decode cX11_salts 43 = .ok (.ireturn, 1) := by decide +kernel
theorem dX11_salts_44 : decode cX11_salts 44 = .ok (.aload_n 0, 1) := by decide +kernel
theorem dX11_salts_45 : decode cX11_salts 45 = .ok (.getfield 51, 3) := by decide +kernel
theorem dX11_salts_48 : decode cX11_salts 48 = .ok (.aload_n 0, 1) := by decide +kernel
theorem dX11_salts_49 : decode cX11_salts 49 = .ok (.getfield 44, 3) := by decide +kernel
theorem dX11_salts_52 : decode cX11_salts 52 = .ok (.invokevirtual 196, 3) := by decide +kernel
theorem dX11_salts_55 : decode cX11_salts 55 = .ok (.aload_n 0, 1) := by decide +kernel
theorem dX11_salts_56 : decode cX11_salts 56 = .ok (.getfield 44, 3) := by decide +kernel
theorem dX11_salts_59 : decode cX11_salts 59 = .ok (.getfield 157, 3) := by decide +kernel
theorem dX11_salts_62 : decode cX11_salts 62 = .ok (.iload_n 1, 1) := by decide +kernel
theorem dX11_salts_63 : decode cX11_salts 63 = .ok (.dup2, 1) := by decide +kernel
theorem dX11_salts_64 : decode cX11_salts 64 = .ok (.iaload, 1) := by decide +kernel
theorem dX11_salts_65 : decode cX11_salts 65 = .ok (.iload_n 2, 1) := by decide +kernel
theorem dX11_salts_66 : decode cX11_salts 66 = .ok (.iadd, 1) := by decide +kernel
theorem dX11_salts_67 : decode cX11_salts 67 = .ok (.iastore, 1) := by decide +kernel
theorem dX11_salts_68 : decode cX11_salts 68 = .ok (.aload_n 0, 1) := by decide +kernel
theorem dX11_salts_69 : decode cX11_salts 69 = .ok (.getfield 44, 3) := by decide +kernel
theorem dX11_salts_72 : decode cX11_salts 72 = .ok (.dup, 1) := by decide +kernel
theorem dX11_salts_73 : decode cX11_salts 73 = .ok (.getfield 211, 3) := by decide +kernel
theorem dX11_salts_76 : decode cX11_salts 76 = .ok (.iload_n 2, 1) := by decide +kernel
theorem dX11_salts_77 : decode cX11_salts 77 = .ok (.isub, 1) := by decide +kernel
theorem dX11_salts_78 : decode cX11_salts 78 = .ok (.putfield 211, 3) := by decide +kernel
theorem dX11_salts_81 : decode cX11_salts 81 = .ok (.aload_n 0, 1) := by decide +kernel
theorem dX11_salts_82 : decode cX11_salts 82 = .ok (.getfield 44, 3) := by decide +kernel
theorem dX11_salts_85 : decode cX11_salts 85 = .ok (.getfield 211, 3) := by decide +kernel
theorem dX11_salts_88 : decode cX11_salts 88 = .ok (.ireturn, 1) := by decide +kernel
theorem dX11_proxy_0 : decode cX11_proxy 0 = .ok (.aload_n 0, 1) := by decide +kernel
theorem dX11_proxy_1 : decode cX11_proxy 1 = .ok (.iload_n 1, 1) := by decide +kernel
theorem dX11_proxy_2 : decode cX11_proxy 2 = .ok (.invokevirtual 141, 3) := by decide +kernel
theorem dX11_proxy_5 : decode cX11_proxy 5 = .ok (.ifCond .eq 20, 3) := by decide +kernel
theorem dX11_proxy_8 : decode cX11_proxy 8 = .ok (.iload_n 2, 1) := by decide +kernel
theorem dX11_proxy_9 : decode cX11_proxy 9 = .ok (.iconst (-1), 1) := by decide +kernel
theorem dX11_proxy_10 : decode cX11_proxy 10 = .ok (.if_icmp .eq 11, 3) := by decide +kernel
theorem dX11_proxy_13 : decode cX11_proxy 13 = .ok (.aload_n 0, 1) := by decide +kernel
theorem dX11_proxy_14 : decode cX11_proxy 14 = .ok (.iload_n 2, 1) := by decide +kernel
theorem dX11_proxy_15 : decode cX11_proxy 15 = .ok (.invokevirtual 141, 3) := by decide +kernel
theorem dX11_proxy_18 : decode cX11_proxy 18 = .ok (.ifCond .eq 7, 3) := by decide +kernel
theorem dX11_proxy_21 : decode cX11_proxy 21 = .ok (.iconst 1, 1) := by decide +kernel
theorem dX11_proxy_22 : decode cX11_proxy 22 = .ok (.goto 4, 3) := by decide +kernel
theorem dX11_proxy_25 : decode cX11_proxy 25 = .ok (.iconst 0, 1) := by decide +kernel
theorem dX11_proxy_26 : decode cX11_proxy 26 = .ok (.istore_n 3, 1) := by decide +kernel
theorem dX11_proxy_27 : decode cX11_proxy 27 = .ok (.iload_n 3, 1) := by decide +kernel
theorem dX11_proxy_28 : decode cX11_proxy 28 = .ok (.ifCond .eq 21, 3) := by decide +kernel
theorem dX11_proxy_31 : decode cX11_proxy 31 = .ok (.iload_n 1, 1) := by decide +kernel
theorem dX11_proxy_32 : decode cX11_proxy 32 = .ok (.iload_n 2, 1) := by decide +kernel
theorem dX11_proxy_33 : decode cX11_proxy 33 = .ok (.if_icmp .eq 16, 3) := by decide +kernel
theorem dX11_proxy_36 : decode cX11_proxy 36 = .ok (.aload_n 0, 1) := by decide +kernel
theorem dX11_proxy_37 : decode cX11_proxy 37 = .ok (.getfield 44, 3) := by decide +kernel
theorem dX11_proxy_40 : decode cX11_proxy 40 = .ok (.getfield 163, 3) := by decide +kernel
theorem dX11_proxy_43 : decode cX11_proxy 43 = .ok (.iload_n 1, 1) := by decide +kernel
theorem dX11_proxy_44 : decode cX11_proxy 44 = .ok (.iaload, 1) := by decide +kernel
theorem dX11_proxy_45 : decode cX11_proxy 45 = .ok (.iload_n 2, 1) := by decide +kernel
theorem dX11_proxy_46 : decode cX11_proxy 46 = .ok (.if_icmp .ne 5, 3) := by decide +kernel
theorem dX11_proxy_49 : decode cX11_proxy 49 = .ok (.iconst 0, 1) := by decide +kernel
theorem dX11_proxy_50 : decode cX11_proxy 50 = .ok (.ireturn, 1) := by decide +kernel
theorem dX11_proxy_51 : decode cX11_proxy 51 = .ok (.iload_n 2, 1) := by decide +kernel
theorem dX11_proxy_52 : decode cX11_proxy 52 = .ok (.iconst (-1), 1) := by decide +kernel
theorem dX11_proxy_53 : decode cX11_proxy 53 = .ok (.if_icmp .eq 29, 3) := by decide +kernel
theorem dX11_proxy_56 : decode cX11_proxy 56 = .ok (.aload_n 0, 1) := by decide +kernel
theorem dX11_proxy_57 : decode cX11_proxy 57 = .ok (.getfield 44, 3) := by decide +kernel
theorem dX11_proxy_60 : decode cX11_proxy 60 = .ok (.iload_n 1, 1) := by decide +kernel
theorem dX11_proxy_61 : decode cX11_proxy 61 = .ok (.invokevirtual 214, 3) := by decide +kernel
theorem dX11_proxy_64 : decode cX11_proxy 64 = .ok (.ifCond .ne 16, 3) := by decide +kernel
theorem dX11_proxy_67 : decode cX11_proxy 67 = .ok (.aload_n 0, 1) := by decide +kernel
theorem dX11_proxy_68 : decode cX11_proxy 68 = .ok (.getfield 44, 3) := by decide +kernel
theorem dX11_proxy_71 : decode cX11_proxy 71 = .ok (.getfield 163, 3) := by decide +kernel
theorem dX11_proxy_74 : decode cX11_proxy 74 = .ok (.iload_n 2, 1) := by decide +kernel
theorem dX11_proxy_75 : decode cX11_proxy 75 = .ok (.iaload, 1) := by decide +kernel
theorem dX11_proxy_76 : decode cX11_proxy 76 = .ok (.iconst (-1), 1) := by decide +kernel
theorem dX11_proxy_77 : decode cX11_proxy 77 = .ok (.if_icmp .eq 5, 3) := by decide +kernel
theorem dX11_proxy_80 : decode cX11_proxy 80 = .ok (.iconst 0, 1) := by decide +kernel
theorem dX11_proxy_81 : decode cX11_proxy 81 = .ok (.ireturn, 1) := by decide +kernel
theorem dX11_proxy_82 : decode cX11_proxy 82 = .ok (.aload_n 0, 1) := by decide +kernel
theorem dX11_proxy_83 : decode cX11_proxy 83 = .ok (.getfield 51, 3) := by decide +kernel
theorem dX11_proxy_86 : decode cX11_proxy 86 = .ok (.aload_n 0, 1) := by decide +kernel
theorem dX11_proxy_87 : decode cX11_proxy 87 = .ok (.getfield 44, 3) := by decide +kernel
theorem dX11_proxy_90 : decode cX11_proxy 90 = .ok (.invokevirtual 196, 3) := by decide +kernel
theorem dX11_proxy_93 : decode cX11_proxy 93 = .ok (.aload_n 0, 1) := by decide +kernel
theorem dX11_proxy_94 : decode cX11_proxy 94 = .ok (.getfield 44, 3) := by decide +kernel
theorem dX11_proxy_97 : decode cX11_proxy 97 = .ok (.getfield 163, 3) := by decide +kernel
theorem dX11_proxy_100 : decode cX11_proxy 100 = .ok (.iload_n 1, 1) := by decide +kernel
theorem dX11_proxy_101 : decode cX11_proxy 101 = .ok (.iload_n 2, 1) := by decide +kernel
theorem dX11_proxy_102 : decode cX11_proxy 102 = .ok (.iastore, 1) := by decide +kernel
theorem dX11_proxy_103 : decode cX11_proxy 103 = .ok (.iconst 1, 1) := by decide +kernel
theorem dX11_proxy_104 : decode cX11_proxy 104 = .ok (.ireturn, 1) := by decide +kernel
theorem dX11_days_0 : decode cX11_days 0 = .ok (.aload_n 0, 1) := by decide +kernel
theorem dX11_days_1 : decode cX11_days 1 = .ok (.iload_n 1, 1) := by decide +kernel
theorem dX11_days_2 : decode cX11_days 2 = .ok (.invokevirtual 217, 3) := by decide +kernel
theorem dX11_days_5 : decode cX11_days 5 = .ok (.ifCond .ne 5, 3) := by decide +kernel
theorem dX11_days_8 : decode cX11_days 8 = .ok (.iconst (-1), 1) := by decide +kernel
theorem dX11_days_9 : decode cX11_days 9 = .ok (.ireturn, 1) := by decide +kernel
theorem dX11_days_10 : decode cX11_days 10 = .ok (.iload_n 1, 1) := by decide +kernel
theorem dX11_days_11 : decode cX11_days 11 = .ok (.ifCond .le 37, 3) := by decide +kernel
theorem dX11_days_14 : decode cX11_days 14 = .ok (.aload_n 0, 1) := by decide +kernel
theorem dX11_days_15 : decode cX11_days 15 = .ok (.getfield 51, 3) := by decide +kernel
theorem dX11_days_18 : decode cX11_days 18 = .ok (.aload_n 0, 1) := by decide +kernel
theorem dX11_days_19 : decode cX11_days 19 = .ok (.getfield 44, 3) := by decide +kernel
theorem dX11_days_22 : decode cX11_days 22 = .ok (.invokevirtual 196, 3) := by decide +kernel
theorem dX11_days_25 : decode cX11_days 25 = .ok (.aload_n 0, 1) := by decide +kernel
theorem dX11_days_26 : decode cX11_days 26 = .ok (.getfield 58, 3) := by decide +kernel
theorem dX11_days_29 : decode cX11_days 29 = .ok (.aload_n 0, 1) := by decide +kernel
theorem dX11_days_30 : decode cX11_days 30 = .ok (.getfield 81, 3) := by decide +kernel
theorem dX11_days_33 : decode cX11_days 33 = .ok (.aload_n 0, 1) := by decide +kernel
theorem dX11_days_34 : decode cX11_days 34 = .ok (.getfield 44, 3) := by decide +kernel
theorem dX11_days_37 : decode cX11_days 37 = .ok (.iload_n 1, 1) := by decide +kernel
theorem dX11_days_38 : decode cX11_days 38 = .ok (.aload_n 0, 1) := by decide +kernel
theorem dX11_days_39 : decode cX11_days 39 = .ok (.getfield 81, 3) := by decide +kernel
theorem dX11_days_42 : decode cX11_days 42 = .ok (.getfield 220, 3) := by decide +kernel
theorem dX11_days_45 : decode cX11_days 45 = .ok (.invokevirtual 223, 3) := by decide +kernel
theorem dX11_days_48 : decode cX11_days 48 = .ok (.aload_n 0, 1) := by decide +kernel
theorem dX11_days_49 : decode cX11_days 49 = .ok (.getfield 44, 3) := by decide +kernel
theorem dX11_days_52 : decode cX11_days 52 = .ok (.getfield 227, 3) := by decide +kernel
theorem dX11_days_55 : decode cX11_days 55 = .ok (.ireturn, 1) := by decide +kernel
theorem dX11_undo_0 : decode cX11_undo 0 = .ok (.aload_n 0, 1) := by decide +kernel
theorem dX11_undo_1 : decode cX11_undo 1 = .ok (.getfield 51, 3) := by decide +kernel
theorem dX11_undo_4 : decode cX11_undo 4 = .ok (.aload_n 0, 1) := by decide +kernel
theorem dX11_undo_5 : decode cX11_undo 5 = .ok (.getfield 44, 3) := by decide +kernel
theorem dX11_undo_8 : decode cX11_undo 8 = .ok (.invokevirtual 230, 3) := by decide +kernel
theorem dX11_undo_11 : decode cX11_undo 11 = .ok (.ireturn, 1) := by decide +kernel
theorem dX11_panic_0 : decode cX11_panic 0 = .ok (.aload_n 0, 1) := by decide +kernel
theorem dX11_panic_1 : decode cX11_panic 1 = .ok (.iload_n 1, 1) := by decide +kernel
theorem dX11_panic_2 : decode cX11_panic 2 = .ok (.invokevirtual 141, 3) := by decide +kernel
theorem dX11_panic_5 : decode cX11_panic 5 = .ok (.ifCond .eq 19, 3) := by decide +kernel
theorem dX11_panic_8 : decode cX11_panic 8 = .ok (.aload_n 0, 1) := by decide +kernel
theorem dX11_panic_9 : decode cX11_panic 9 = .ok (.getfield 74, 3) := by decide +kernel
theorem dX11_panic_12 : decode cX11_panic 12 = .ok (.aload_n 0, 1) := by decide +kernel
theorem dX11_panic_13 : decode cX11_panic 13 = .ok (.getfield 81, 3) := by decide +kernel
theorem dX11_panic_16 : decode cX11_panic 16 = .ok (.iload_n 1, 1) := by decide +kernel
theorem dX11_panic_17 : decode cX11_panic 17 = .ok (.iconst 0, 1) := by decide +kernel
theorem dX11_panic_18 : decode cX11_panic 18 = .ok (.invokevirtual 234, 3) := by decide +kernel
theorem dX11_panic_21 : decode cX11_panic 21 = .ok (.goto 4, 3) := by decide +kernel
theorem dX11_panic_24 : decode cX11_panic 24 = .ok (.iconst (-1), 1) := by decide +kernel
theorem dX11_panic_25 : decode cX11_panic 25 = .ok (.ireturn, 1) := by decide +kernel
theorem dX11_spark_0 : decode cX11_spark 0 = .ok (.aload_n 0, 1) := by decide +kernel
theorem dX11_spark_1 : decode cX11_spark 1 = .ok (.iload_n 1, 1) := by decide +kernel
theorem dX11_spark_2 : decode cX11_spark 2 = .ok (.invokevirtual 238, 3) := by decide +kernel
theorem dX11_spark_5 : decode cX11_spark 5 = .ok (.ifCond .ne 5, 3) := by decide +kernel
theorem dX11_spark_8 : decode cX11_spark 8 = .ok (.iconst (-1), 1) := by decide +kernel
theorem dX11_spark_9 : decode cX11_spark 9 = .ok (.ireturn, 1) := by decide +kernel
theorem dX11_spark_10 : decode cX11_spark 10 = .ok (.aload_n 0, 1) := by decide +kernel
theorem dX11_spark_11 : decode cX11_spark 11 = .ok (.getfield 81, 3) := by decide +kernel
theorem dX11_spark_14 : decode cX11_spark 14 = .ok (.getfield 241, 3) := by decide +kernel
theorem dX11_spark_17 : decode cX11_spark 17 = .ok (.ifCond .ne 6, 3) := by decide +kernel
theorem dX11_spark_20 : decode cX11_spark 20 = .ok (.bipush (-2), 2) := by decide +kernel
theorem dX11_spark_22 : decode cX11_spark 22 = .ok (.ireturn, 1) := by decide +kernel
theorem dX11_spark_23 : decode cX11_spark 23 = .ok (.aload_n 0, 1) := by decide +kernel
theorem dX11_spark_24 : decode cX11_spark 24 = .ok (.getfield 74, 3) := by decide +kernel
theorem dX11_spark_27 : decode cX11_spark 27 = .ok (.aload_n 0, 1) := by decide +kernel
theorem dX11_spark_28 : decode cX11_spark 28 = .ok (.getfield 81, 3) := by decide +kernel
theorem dX11_spark_31 : decode cX11_spark 31 = .ok (.invokevirtual 244, 3) := by decide +kernel
theorem dX11_spark_34 : decode cX11_spark 34 = .ok (.istore_n 2, 1) := by decide +kernel
theorem dX11_spark_35 : decode cX11_spark 35 = .ok (.iload_n 1, 1) := by decide +kernel
theorem dX11_spark_36 : decode cX11_spark 36 = .ok (.ifCond .ne 7, 3) := by decide +kernel
theorem dX11_spark_39 : decode cX11_spark 39 = .ok (.iload_n 2, 1) := by decide +kernel
theorem dX11_spark_40 : decode cX11_spark 40 = .ok (.goto 19, 3) := by decide +kernel
theorem dX11_spark_43 : decode cX11_spark 43 = .ok (.aload_n 0, 1) := by decide +kernel
theorem dX11_spark_44 : decode cX11_spark 44 = .ok (.getfield 74, 3) := by decide +kernel
theorem dX11_spark_47 : decode cX11_spark 47 = .ok (.aload_n 0, 1) := by decide +kernel
theorem dX11_spark_48 : decode cX11_spark 48 = .ok (.getfield 81, 3) := by decide +kernel
theorem dX11_spark_51 : decode cX11_spark 51 = .ok (.iload_n 2, 1) := by decide +kernel
theorem dX11_spark_52 : decode cX11_spark 52 = .ok (.iconst 0, 1) := by decide +kernel
theorem dX11_spark_53 : decode cX11_spark 53 = .ok (.invokevirtual 234, 3) := by decide +kernel
theorem dX11_spark_56 : decode cX11_spark 56 = .ok (.invokestatic 248, 3) := by decide +kernel
theorem dX11_spark_59 : decode cX11_spark 59 = .ok (.ireturn, 1) := by decide +kernel
theorem dX11_calm_0 : decode cX11_calm 0 = .ok (.aload_n 0, 1) := by decide +kernel
theorem dX11_calm_1 : decode cX11_calm 1 = .ok (.iload_n 1, 1) := by decide +kernel
theorem dX11_calm_2 : decode cX11_calm 2 = .ok (.invokevirtual 141, 3) := by decide +kernel
theorem dX11_calm_5 : decode cX11_calm 5 = .ok (.ifCond .eq 26, 3) := by decide +kernel
theorem dX11_calm_8 : decode cX11_calm 8 = .ok (.aload_n 0, 1) := by decide +kernel
theorem dX11_calm_9 : decode cX11_calm 9 = .ok (.iload_n 2, 1) := by decide +kernel
theorem dX11_calm_10 : decode cX11_calm 10 = .ok (.invokevirtual 141, 3) := by decide +kernel
theorem dX11_calm_13 : decode cX11_calm 13 = .ok (.ifCond .eq 18, 3) := by decide +kernel
theorem dX11_calm_16 : decode cX11_calm 16 = .ok (.iload_n 1, 1) := by decide +kernel
theorem dX11_calm_17 : decode cX11_calm 17 = .ok (.iload_n 2, 1) := by decide +kernel
theorem dX11_calm_18 : decode cX11_calm 18 = .ok (.if_icmp .eq 13, 3) := by decide +kernel
theorem dX11_calm_21 : decode cX11_calm 21 = .ok (.iload_n 3, 1) := by decide +kernel
theorem dX11_calm_22 : decode cX11_calm 22 = .ok (.iconst (-1), 1) := by decide +kernel
theorem dX11_calm_23 : decode cX11_calm 23 = .ok (.if_icmp .lt 8, 3) := by decide +kernel
theorem dX11_calm_26 : decode cX11_calm 26 = .ok (.iload_n 3, 1) := by decide +kernel
theorem dX11_calm_27 : decode cX11_calm 27 = .ok (.iconst 2, 1) := by decide +kernel
theorem dX11_calm_28 : decode cX11_calm 28 = .ok (.if_icmp .le 5, 3) := by decide +kernel
theorem dX11_calm_31 : decode cX11_calm 31 = .ok (.iconst (-1), 1) := by decide +kernel
theorem dX11_calm_32 : decode cX11_calm 32 = .ok (.ireturn, 1) := by decide +kernel
theorem dX11_calm_33 : decode cX11_calm 33 = .ok (.aload_n 0, 1) := by decide +kernel
theorem dX11_calm_34 : decode cX11_calm 34 = .ok (.getfield 74, 3) := by decide +kernel
theorem dX11_calm_37 : decode cX11_calm 37 = .ok (.aload_n 0, 1) := by decide +kernel
theorem dX11_calm_38 : decode cX11_calm 38 = .ok (.getfield 81, 3) := by decide +kernel
theorem dX11_calm_41 : decode cX11_calm 41 = .ok (.iload_n 1, 1) := by decide +kernel
theorem dX11_calm_42 : decode cX11_calm 42 = .ok (.iload_n 2, 1) := by decide +kernel
theorem dX11_calm_43 : decode cX11_calm 43 = .ok (.invokevirtual 253, 3) := by decide +kernel
theorem dX11_calm_46 : decode cX11_calm 46 = .ok (.istore 4, 2) := by decide +kernel
theorem dX11_calm_48 : decode cX11_calm 48 = .ok (.iload 4, 2) := by decide +kernel
theorem dX11_calm_50 : decode cX11_calm 50 = .ok (.bipush (-2), 2) := by decide +kernel
theorem dX11_calm_52 : decode cX11_calm 52 = .ok (.if_icmp .ne 6, 3) := by decide +kernel
theorem dX11_calm_55 : decode cX11_calm 55 = .ok (.bipush (-2), 2) := by decide +kernel
theorem dX11_calm_57 : decode cX11_calm 57 = .ok (.ireturn, 1) := by decide +kernel
theorem dX11_calm_58 : decode cX11_calm 58 = .ok (.iload_n 3, 1) := by decide +kernel
theorem dX11_calm_59 : decode cX11_calm 59 = .ok (.iconst (-1), 1) := by decide +kernel
theorem dX11_calm_60 : decode cX11_calm 60 = .ok (.if_icmp .ne 11, 3) := by decide +kernel
theorem dX11_calm_63 : decode cX11_calm 63 = .ok (.iload 4, 2) := by decide +kernel
theorem dX11_calm_65 : decode cX11_calm 65 = .ok (.invokestatic 248, 3) := by decide +kernel
theorem dX11_calm_68 : decode cX11_calm 68 = .ok (.goto 13, 3) := by decide +kernel
theorem dX11_calm_71 : decode cX11_calm 71 = .ok (.aload_n 0, 1) := by decide +kernel
theorem dX11_calm_72 : decode cX11_calm 72 = .ok (.getfield 74, 3) := by decide +kernel
theorem dX11_calm_75 : decode cX11_calm 75 = .ok (.iload 4, 2) := by decide +kernel
theorem dX11_calm_77 : decode cX11_calm 77 = .ok (.iload_n 3, 1) := by decide +kernel
theorem dX11_calm_78 : decode cX11_calm 78 = .ok (.invokevirtual 256, 3) := by decide +kernel
theorem dX11_calm_81 : decode cX11_calm 81 = .ok (.ireturn, 1) := by decide +kernel
theorem dX11_power_0 : decode cX11_power 0 = .ok (.aload_n 0, 1) := by decide +kernel
theorem dX11_power_1 : decode cX11_power 1 = .ok (.iload_n 1, 1) := by decide +kernel
theorem dX11_power_2 : decode cX11_power 2 = .ok (.invokevirtual 141, 3) := by decide +kernel
theorem dX11_power_5 : decode cX11_power 5 = .ok (.ifCond .ne 5, 3) := by decide +kernel
theorem dX11_power_8 : decode cX11_power 8 = .ok (.iconst (-1), 1) := by decide +kernel
theorem dX11_power_9 : decode cX11_power 9 = .ok (.ireturn, 1) := by decide +kernel
theorem dX11_power_10 : decode cX11_power 10 = .ok (.aload_n 0, 1) := by decide +kernel
theorem dX11_power_11 : decode cX11_power 11 = .ok (.getfield 67, 3) := by decide +kernel
theorem dX11_power_14 : decode cX11_power 14 = .ok (.aload_n 0, 1) := by decide +kernel
theorem dX11_power_15 : decode cX11_power 15 = .ok (.getfield 81, 3) := by decide +kernel
theorem dX11_power_18 : decode cX11_power 18 = .ok (.aload_n 0, 1) := by decide +kernel
theorem dX11_power_19 : decode cX11_power 19 = .ok (.getfield 44, 3) := by decide +kernel
theorem dX11_power_22 : decode cX11_power 22 = .ok (.invokevirtual 260, 3) := by decide +kernel
theorem dX11_power_25 : decode cX11_power 25 = .ok (.aload_n 0, 1) := by decide +kernel
theorem dX11_power_26 : decode cX11_power 26 = .ok (.getfield 67, 3) := by decide +kernel
theorem dX11_power_29 : decode cX11_power 29 = .ok (.invokevirtual 264, 3) := by decide +kernel
theorem dX11_power_32 : decode cX11_power 32 = .ok (.aload_n 0, 1) := by decide +kernel
theorem dX11_power_33 : decode cX11_power 33 = .ok (.getfield 67, 3) := by decide +kernel
theorem dX11_power_36 : decode cX11_power 36 = .ok (.getfield 267, 3) := by decide +kernel
theorem dX11_power_39 : decode cX11_power 39 = .ok (.iload_n 1, 1) := by decide +kernel
theorem dX11_power_40 : decode cX11_power 40 = .ok (.iaload, 1) := by decide +kernel
theorem dX11_power_41 : decode cX11_power 41 = .ok (.istore_n 3, 1) := by decide +kernel
theorem dX11_power_42 : decode cX11_power 42 = .ok (.aload_n 0, 1) := by decide +kernel
theorem dX11_power_43 : decode cX11_power 43 = .ok (.getfield 67, 3) := by decide +kernel
theorem dX11_power_46 : decode cX11_power 46 = .ok (.invokevirtual 270, 3) := by decide +kernel
theorem dX11_power_49 : decode cX11_power 49 = .ok (.istore 4, 2) := by decide +kernel
theorem dX11_power_51 : decode cX11_power 51 = .ok (.iload_n 3, 1) := by decide +kernel
theorem dX11_power_52 : decode cX11_power 52 = .ok (.iload 4, 2) := by decide +kernel
theorem dX11_power_54 : decode cX11_power 54 = .ok (.invokestatic 273, 3) := by decide +kernel
theorem dX11_power_57 : decode cX11_power 57 = .ok (.istore 5, 2) := by decide +kernel
theorem dX11_power_59 : decode cX11_power 59 = .ok (.iload 5, 2) := by decide +kernel
theorem dX11_power_61 : decode cX11_power 61 = .ok (.iconst 1, 1) := by decide +kernel
theorem dX11_power_62 : decode cX11_power 62 = .ok (.if_icmp .ge 13, 3) := by decide +kernel
theorem dX11_power_65 : decode cX11_power 65 = .ok (.iload_n 2, 1) := by decide +kernel
theorem dX11_power_66 : decode cX11_power 66 = .ok (.ifCond .eq 7, 3) := by decide +kernel
theorem dX11_power_69 : decode cX11_power 69 = .ok (.iconst 1, 1) := by decide +kernel
theorem dX11_power_70 : decode cX11_power 70 = .ok (.goto 4, 3) := by decide +kernel
theorem dX11_power_73 : decode cX11_power 73 = .ok (.iconst 0, 1) := by decide +kernel
theorem dX11_power_74 : decode cX11_power 74 = .ok (.ireturn, 1) := by decide +kernel
theorem dX11_power_75 : decode cX11_power 75 = .ok (.iload_n 2, 1) := by decide +kernel
theorem dX11_power_76 : decode cX11_power 76 = .ok (.ifCond .eq 8, 3) := by decide +kernel
theorem dX11_power_79 : decode cX11_power 79 = .ok (.iload 4, 2) := by decide +kernel
theorem dX11_power_81 : decode cX11_power 81 = .ok (.goto 4, 3) := by decide +kernel
theorem dX11_power_84 : decode cX11_power 84 = .ok (.iload_n 3, 1) := by decide +kernel
theorem dX11_power_85 : decode cX11_power 85 = .ok (.iload 5, 2) := by decide +kernel
theorem dX11_power_87 : decode cX11_power 87 = .ok (.idiv, 1) := by decide +kernel
theorem dX11_power_88 : decode cX11_power 88 = .ok (.ireturn, 1) := by decide +kernel
theorem dX11_strongest_0 : decode cX11_strongest 0 = .ok (.aload_n 0, 1) := by decide +kernel
theorem dX11_strongest_1 : decode cX11_strongest 1 = .ok (.iload_n 1, 1) := by decide +kernel
theorem dX11_strongest_2 : decode cX11_strongest 2 = .ok (.invokevirtual 238, 3) := by decide +kernel
theorem dX11_strongest_5 : decode cX11_strongest 5 = .ok (.ifCond .ne 5, 3) := by decide +kernel
theorem dX11_strongest_8 : decode cX11_strongest 8 = .ok (.iconst (-1), 1) := by decide +kernel
theorem dX11_strongest_9 : decode cX11_strongest 9 = .ok (.ireturn, 1) := by decide +kernel
theorem dX11_strongest_10 : decode cX11_strongest 10 = .ok (.aload_n 0, 1) := by decide +kernel
theorem dX11_strongest_11 : decode cX11_strongest 11 = .ok (.getfield 81, 3) := by decide +kernel
theorem dX11_strongest_14 : decode cX11_strongest 14 = .ok (.getfield 241, 3) := by decide +kernel
theorem dX11_strongest_17 : decode cX11_strongest 17 = .ok (.ifCond .ne 6, 3) := by decide +kernel
theorem dX11_strongest_20 : decode cX11_strongest 20 = .ok (.bipush (-2), 2) := by decide +kernel
theorem dX11_strongest_22 : decode cX11_strongest 22 = .ok (.ireturn, 1) := by decide +kernel
theorem dX11_strongest_23 : decode cX11_strongest 23 = .ok (.aload_n 0, 1) := by decide +kernel
theorem dX11_strongest_24 : decode cX11_strongest 24 = .ok (.getfield 67, 3) := by decide +kernel
theorem dX11_strongest_27 : decode cX11_strongest 27 = .ok (.aload_n 0, 1) := by decide +kernel
theorem dX11_strongest_28 : decode cX11_strongest 28 = .ok (.getfield 81, 3) := by decide +kernel
theorem dX11_strongest_31 : decode cX11_strongest 31 = .ok (.aload_n 0, 1) := by decide +kernel
theorem dX11_strongest_32 : decode cX11_strongest 32 = .ok (.getfield 44, 3) := by decide +kernel
theorem dX11_strongest_35 : decode cX11_strongest 35 = .ok (.invokevirtual 260, 3) := by decide +kernel
theorem dX11_strongest_38 : decode cX11_strongest 38 = .ok (.aload_n 0, 1) := by decide +kernel
theorem dX11_strongest_39 : decode cX11_strongest 39 = .ok (.getfield 67, 3) := by decide +kernel
theorem dX11_strongest_42 : decode cX11_strongest 42 = .ok (.invokevirtual 264, 3) := by decide +kernel
theorem dX11_strongest_45 : decode cX11_strongest 45 = .ok (.aload_n 0, 1) := by decide +kernel
theorem dX11_strongest_46 : decode cX11_strongest 46 = .ok (.getfield 67, 3) := by decide +kernel
theorem dX11_strongest_49 : decode cX11_strongest 49 = .ok (.invokevirtual 276, 3) := by decide +kernel
theorem dX11_strongest_52 : decode cX11_strongest 52 = .ok (.istore_n 2, 1) := by decide +kernel
theorem dX11_strongest_53 : decode cX11_strongest 53 = .ok (.iload_n 1, 1) := by decide +kernel
theorem dX11_strongest_54 : decode cX11_strongest 54 = .ok (.ifCond .ne 7, 3) := by decide +kernel
theorem dX11_strongest_57 : decode cX11_strongest 57 = .ok (.iload_n 2, 1) := by decide +kernel
theorem dX11_strongest_58 : decode cX11_strongest 58 = .ok (.goto 12, 3) := by decide +kernel
theorem dX11_strongest_61 : decode cX11_strongest 61 = .ok (.aload_n 0, 1) := by decide +kernel
theorem dX11_strongest_62 : decode cX11_strongest 62 = .ok (.getfield 67, 3) := by decide +kernel
theorem dX11_strongest_65 : decode cX11_strongest 65 = .ok (.getfield 267, 3) := by decide +kernel
theorem dX11_strongest_68 : decode cX11_strongest 68 = .ok (.iload_n 2, 1) := by decide +kernel
theorem dX11_strongest_69 : decode cX11_strongest 69 = .ok (.iaload, 1) := by decide +kernel
theorem dX11_strongest_70 : decode cX11_strongest 70 = .ok (.ireturn, 1) := by decide +kernel
theorem dX11_allies_0 : decode cX11_allies 0 = .ok (.aload_n 0, 1) := by decide +kernel
theorem dX11_allies_1 : decode cX11_allies 1 = .ok (.iload_n 1, 1) := by decide +kernel
theorem dX11_allies_2 : decode cX11_allies 2 = .ok (.invokevirtual 141, 3) := by decide +kernel
theorem dX11_allies_5 : decode cX11_allies 5 = .ok (.ifCond .ne 5, 3) := by decide +kernel
theorem dX11_allies_8 : decode cX11_allies 8 = .ok (.iconst (-1), 1) := by decide +kernel
theorem dX11_allies_9 : decode cX11_allies 9 = .ok (.ireturn, 1) := by decide +kernel
theorem dX11_allies_10 : decode cX11_allies 10 = .ok (.aload_n 0, 1) := by decide +kernel
theorem dX11_allies_11 : decode cX11_allies 11 = .ok (.getfield 67, 3) := by decide +kernel
theorem dX11_allies_14 : decode cX11_allies 14 = .ok (.aload_n 0, 1) := by decide +kernel
theorem dX11_allies_15 : decode cX11_allies 15 = .ok (.getfield 81, 3) := by decide +kernel
theorem dX11_allies_18 : decode cX11_allies 18 = .ok (.aload_n 0, 1) := by decide +kernel
theorem dX11_allies_19 : decode cX11_allies 19 = .ok (.getfield 44, 3) := by decide +kernel
theorem dX11_allies_22 : decode cX11_allies 22 = .ok (.invokevirtual 260, 3) := by decide +kernel
theorem dX11_allies_25 : decode cX11_allies 25 = .ok (.aload_n 0, 1) := by decide +kernel
theorem dX11_allies_26 : decode cX11_allies 26 = .ok (.getfield 67, 3) := by decide +kernel
theorem dX11_allies_29 : decode cX11_allies 29 = .ok (.aload_n 0, 1) := by decide +kernel
theorem dX11_allies_30 : decode cX11_allies 30 = .ok (.getfield 67, 3) := by decide +kernel
theorem dX11_allies_33 : decode cX11_allies 33 = .ok (.getfield 279, 3) := by decide +kernel
theorem dX11_allies_36 : decode cX11_allies 36 = .ok (.iconst 1, 1) := by decide +kernel
theorem dX11_allies_37 : decode cX11_allies 37 = .ok (.iload_n 1, 1) := by decide +kernel
theorem dX11_allies_38 : decode cX11_allies 38 = .ok (.ishl, 1) := by decide +kernel
theorem dX11_allies_39 : decode cX11_allies 39 = .ok (.aload_n 0, 1) := by decide +kernel
theorem dX11_allies_40 : decode cX11_allies 40 = .ok (.getfield 81, 3) := by decide +kernel
theorem dX11_allies_43 : decode cX11_allies 43 = .ok (.getfield 241, 3) := by decide +kernel
theorem dX11_allies_46 : decode cX11_allies 46 = .ok (.invokevirtual 282, 3) := by decide +kernel
theorem dX11_allies_49 : decode cX11_allies 49 = .ok (.ireturn, 1) := by decide +kernel
theorem dX11_takeover_0 : decode cX11_takeover 0 = .ok (.aload_n 0, 1) := by decide +kernel
theorem dX11_takeover_1 : decode cX11_takeover 1 = .ok (.iload_n 1, 1) := by decide +kernel
theorem dX11_takeover_2 : decode cX11_takeover 2 = .ok (.invokevirtual 141, 3) := by decide +kernel
theorem dX11_takeover_5 : decode cX11_takeover 5 = .ok (.ifCond .eq 11, 3) := by decide +kernel
theorem dX11_takeover_8 : decode cX11_takeover 8 = .ok (.aload_n 0, 1) := by decide +kernel
theorem dX11_takeover_9 : decode cX11_takeover 9 = .ok (.iload_n 2, 1) := by decide +kernel
theorem dX11_takeover_10 : decode cX11_takeover 10 = .ok (.invokevirtual 238, 3) := by decide +kernel
theorem dX11_takeover_13 : decode cX11_takeover 13 = .ok (.ifCond .ne 5, 3) := by decide +kernel
theorem dX11_takeover_16 : decode cX11_takeover 16 = .ok (.iconst (-1), 1) := by decide +kernel
theorem dX11_takeover_17 : decode cX11_takeover 17 = .ok (.ireturn, 1) := by decide +kernel
theorem dX11_takeover_18 : decode cX11_takeover 18 = .ok (.aload_n 0, 1) := by decide +kernel
theorem dX11_takeover_19 : decode cX11_takeover 19 = .ok (.getfield 44, 3) := by decide +kernel
theorem dX11_takeover_22 : decode cX11_takeover 22 = .ok (.invokevirtual 166, 3) := by decide +kernel
theorem dX11_takeover_25 : decode cX11_takeover 25 = .ok (.istore_n 3, 1) := by decide +kernel
theorem dX11_takeover_26 : decode cX11_takeover 26 = .ok (.iconst 0, 1) := by decide +kernel
theorem dX11_takeover_27 : decode cX11_takeover 27 = .ok (.iload_n 3, 1) := by decide +kernel
theorem dX11_takeover_28 : decode cX11_takeover 28 = .ok (.iconst 2, 1) := by decide +kernel
theorem dX11_takeover_29 : decode cX11_takeover 29 = .ok (.idiv, 1) := by decide +kernel
theorem dX11_takeover_30 : decode cX11_takeover 30 = .ok (.iconst 1, 1) := by decide +kernel
theorem dX11_takeover_31 : decode cX11_takeover 31 = .ok (.iadd, 1) := by decide +kernel
theorem dX11_takeover_32 : decode cX11_takeover 32 = .ok (.aload_n 0, 1) := by decide +kernel
theorem dX11_takeover_33 : decode cX11_takeover 33 = .ok (.getfield 44, 3) := by decide +kernel
theorem dX11_takeover_36 : decode cX11_takeover 36 = .ok (.getfield 144, 3) := by decide +kernel
theorem dX11_takeover_39 : decode cX11_takeover 39 = .ok (.iload_n 1, 1) := by decide +kernel
theorem dX11_takeover_40 : decode cX11_takeover 40 = .ok (.iaload, 1) := by decide +kernel
theorem dX11_takeover_41 : decode cX11_takeover 41 = .ok (.isub, 1) := by decide +kernel
theorem dX11_takeover_42 : decode cX11_takeover 42 = .ok (.invokestatic 286, 3) := by decide +kernel
theorem dX11_takeover_45 : decode cX11_takeover 45 = .ok (.istore 4, 2) := by decide +kernel
theorem dX11_takeover_47 : decode cX11_takeover 47 = .ok (.iload 4, 2) := by decide +kernel
theorem dX11_takeover_49 : decode cX11_takeover 49 = .ok (.aload_n 0, 1) := by decide +kernel
theorem dX11_takeover_50 : decode cX11_takeover 50 = .ok (.getfield 58, 3) := by decide +kernel
theorem dX11_takeover_53 : decode cX11_takeover 53 = .ok (.aload_n 0, 1) := by decide +kernel
theorem dX11_takeover_54 : decode cX11_takeover 54 = .ok (.getfield 81, 3) := by decide +kernel
theorem dX11_takeover_57 : decode cX11_takeover 57 = .ok (.aload_n 0, 1) := by decide +kernel
theorem dX11_takeover_58 : decode cX11_takeover 58 = .ok (.getfield 44, 3) := by decide +kernel
theorem dX11_takeover_61 : decode cX11_takeover 61 = .ok (.invokevirtual 180, 3) := by decide +kernel
theorem dX11_takeover_64 : decode cX11_takeover 64 = .ok (.imul, 1) := by decide +kernel
theorem dX11_takeover_65 : decode cX11_takeover 65 = .ok (.istore 5, 2) := by decide +kernel
theorem dX11_takeover_67 : decode cX11_takeover 67 = .ok (.iload_n 3, 1) := by decide +kernel
theorem dX11_takeover_68 : decode cX11_takeover 68 = .ok (.ifCond .eq 17, 3) := by decide +kernel
theorem dX11_takeover_71 : decode cX11_takeover 71 = .ok (.iload 5, 2) := by decide +kernel
theorem dX11_takeover_73 : decode cX11_takeover 73 = .ok (.aload_n 0, 1) := by decide +kernel
theorem dX11_takeover_74 : decode cX11_takeover 74 = .ok (.getfield 44, 3) := by decide +kernel
theorem dX11_takeover_77 : decode cX11_takeover 77 = .ok (.getfield 148, 3) := by decide +kernel
theorem dX11_takeover_80 : decode cX11_takeover 80 = .ok (.iload_n 1, 1) := by decide +kernel
theorem dX11_takeover_81 : decode cX11_takeover 81 = .ok (.iaload, 1) := by decide +kernel
theorem dX11_takeover_82 : decode cX11_takeover 82 = .ok (.if_icmp .le 6, 3) := by decide +kernel
theorem dX11_takeover_85 : decode cX11_takeover 85 = .ok (.bipush (-2), 2) := by decide +kernel
theorem dX11_takeover_87 : decode cX11_takeover 87 = .ok (.ireturn, 1) := by decide +kernel
theorem dX11_takeover_88 : decode cX11_takeover 88 = .ok (.iload_n 2, 1) := by decide +kernel
theorem dX11_takeover_89 : decode cX11_takeover 89 = .ok (.ifCond .ne 8, 3) := by decide +kernel
theorem dX11_takeover_92 : decode cX11_takeover 92 = .ok (.iload 5, 2) := by decide +kernel
theorem dX11_takeover_94 : decode cX11_takeover 94 = .ok (.goto 27, 3) := by decide +kernel
theorem dX11_takeover_97 : decode cX11_takeover 97 = .ok (.aload_n 0, 1) := by decide +kernel
theorem dX11_takeover_98 : decode cX11_takeover 98 = .ok (.getfield 67, 3) := by decide +kernel
theorem dX11_takeover_101 : decode cX11_takeover 101 = .ok (.aload_n 0, 1) := by decide +kernel
theorem dX11_takeover_102 : decode cX11_takeover 102 = .ok (.getfield 44, 3) := by decide +kernel
theorem dX11_takeover_105 : decode cX11_takeover 105 = .ok (.getfield 144, 3) := by decide +kernel
theorem dX11_takeover_108 : decode cX11_takeover 108 = .ok (.iconst 1, 1) := by decide +kernel
theorem dX11_takeover_109 : decode cX11_takeover 109 = .ok (.iload_n 1, 1) := by decide +kernel
theorem dX11_takeover_110 : decode cX11_takeover 110 = .ok (.ishl, 1) := by decide +kernel
theorem dX11_takeover_111 : decode cX11_takeover 111 = .ok (.aload_n 0, 1) := by decide +kernel
theorem dX11_takeover_112 : decode cX11_takeover 112 = .ok (.getfield 81, 3) := by decide +kernel
theorem dX11_takeover_115 : decode cX11_takeover 115 = .ok (.getfield 241, 3) := by decide +kernel
theorem dX11_takeover_118 : decode cX11_takeover 118 = .ok (.invokevirtual 282, 3) := by decide +kernel
theorem dX11_takeover_121 : decode cX11_takeover 121 = .ok (.ireturn, 1) := by decide +kernel
theorem dX11_motion_0 : decode cX11_motion 0 = .ok (.iload_n 1, 1) := by decide +kernel
theorem dX11_motion_1 : decode cX11_motion 1 = .ok (.ifCond .lt 23, 3) := by decide +kernel
theorem dX11_motion_4 : decode cX11_motion 4 = .ok (.iload_n 1, 1) := by decide +kernel
theorem dX11_motion_5 : decode cX11_motion 5 = .ok (.aload_n 0, 1) := by decide +kernel
theorem dX11_motion_6 : decode cX11_motion 6 = .ok (.getfield 81, 3) := by decide +kernel
theorem dX11_motion_9 : decode cX11_motion 9 = .ok (.getfield 291, 3) := by decide +kernel
theorem dX11_motion_12 : decode cX11_motion 12 = .ok (.if_icmp .ge 12, 3) := by decide +kernel
theorem dX11_motion_15 : decode cX11_motion 15 = .ok (.iload_n 2, 1) := by decide +kernel
theorem dX11_motion_16 : decode cX11_motion 16 = .ok (.ifCond .lt 8, 3) := by decide +kernel
theorem dX11_motion_19 : decode cX11_motion 19 = .ok (.iload_n 2, 1) := by decide +kernel
theorem dX11_motion_20 : decode cX11_motion 20 = .ok (.iconst 2, 1) := by decide +kernel
theorem dX11_motion_21 : decode cX11_motion 21 = .ok (.if_icmp .le 5, 3) := by decide +kernel
theorem dX11_motion_24 : decode cX11_motion 24 = .ok (.iconst (-1), 1) := by decide +kernel
theorem dX11_motion_25 : decode cX11_motion 25 = .ok (.ireturn, 1) := by decide +kernel
theorem dX11_motion_26 : decode cX11_motion 26 = .ok (.aload_n 0, 1) := by decide +kernel
theorem dX11_motion_27 : decode cX11_motion 27 = .ok (.getfield 67, 3) := by decide +kernel
theorem dX11_motion_30 : decode cX11_motion 30 = .ok (.aload_n 0, 1) := by decide +kernel
theorem dX11_motion_31 : decode cX11_motion 31 = .ok (.getfield 81, 3) := by decide +kernel
theorem dX11_motion_34 : decode cX11_motion 34 = .ok (.aload_n 0, 1) := by decide +kernel
theorem dX11_motion_35 : decode cX11_motion 35 = .ok (.getfield 44, 3) := by decide +kernel
theorem dX11_motion_38 : decode cX11_motion 38 = .ok (.invokevirtual 260, 3) := by decide +kernel
theorem dX11_motion_41 : decode cX11_motion 41 = .ok (.aload_n 0, 1) := by decide +kernel
theorem dX11_motion_42 : decode cX11_motion 42 = .ok (.getfield 81, 3) := by decide +kernel
theorem dX11_motion_45 : decode cX11_motion 45 = .ok (.getfield 294, 3) := by decide +kernel
theorem dX11_motion_48 : decode cX11_motion 48 = .ok (.iload_n 1, 1) := by decide +kernel
theorem dX11_motion_49 : decode cX11_motion 49 = .ok (.iaload, 1) := by decide +kernel
theorem dX11_motion_50 : decode cX11_motion 50 = .ok (.istore_n 3, 1) := by decide +kernel
theorem dX11_motion_51 : decode cX11_motion 51 = .ok (.aload_n 0, 1) := by decide +kernel
theorem dX11_motion_52 : decode cX11_motion 52 = .ok (.getfield 67, 3) := by decide +kernel
theorem dX11_motion_55 : decode cX11_motion 55 = .ok (.aload_n 0, 1) := by decide +kernel
theorem dX11_motion_56 : decode cX11_motion 56 = .ok (.getfield 67, 3) := by decide +kernel
theorem dX11_motion_59 : decode cX11_motion 59 = .ok (.getfield 279, 3) := by decide +kernel
theorem dX11_motion_62 : decode cX11_motion 62 = .ok (.iload_n 3, 1) := by decide +kernel
theorem dX11_motion_63 : decode cX11_motion 63 = .ok (.invokevirtual 297, 3) := by decide +kernel
theorem dX11_motion_66 : decode cX11_motion 66 = .ok (.istore 4, 2) := by decide +kernel
theorem dX11_motion_68 : decode cX11_motion 68 = .ok (.iload_n 2, 1) := by decide +kernel
theorem dX11_motion_69 : decode cX11_motion 69 = .ok (.ifCond .ne 24, 3) := by decide +kernel
theorem dX11_motion_72 : decode cX11_motion 72 = .ok (.iload 4, 2) := by decide +kernel
theorem dX11_motion_74 : decode cX11_motion 74 = .ok (.aload_n 0, 1) := by decide +kernel
theorem dX11_motion_75 : decode cX11_motion 75 = .ok (.getfield 67, 3) := by decide +kernel
theorem dX11_motion_78 : decode cX11_motion 78 = .ok (.getfield 301, 3) := by decide +kernel
theorem dX11_motion_81 : decode cX11_motion 81 = .ok (.iload 4, 2) := by decide +kernel
theorem dX11_motion_83 : decode cX11_motion 83 = .ok (.isub, 1) := by decide +kernel
theorem dX11_motion_84 : decode cX11_motion 84 = .ok (.if_icmp .le 7, 3) := by decide +kernel
theorem dX11_motion_87 : decode cX11_motion 87 = .ok (.iconst 1, 1) := by decide +kernel
theorem dX11_motion_88 : decode cX11_motion 88 = .ok (.goto 4, 3) := by decide +kernel
theorem dX11_motion_91 : decode cX11_motion 91 = .ok (.iconst 0, 1) := by decide +kernel
theorem dX11_motion_92 : decode cX11_motion 92 = .ok (.ireturn, 1) := by decide +kernel
theorem dX11_motion_93 : decode cX11_motion 93 = .ok (.iload_n 2, 1) := by decide +kernel
theorem dX11_motion_94 : decode cX11_motion 94 = .ok (.iconst 1, 1) := by decide +kernel
theorem dX11_motion_95 : decode cX11_motion 95 = .ok (.if_icmp .ne 8, 3) := by decide +kernel
theorem dX11_motion_98 : decode cX11_motion 98 = .ok (.iload 4, 2) := by decide +kernel
theorem dX11_motion_100 : decode cX11_motion 100 = .ok (.goto 25, 3) := by decide +kernel
theorem dX11_motion_103 : decode cX11_motion 103 = .ok (.aload_n 0, 1) := by decide +kernel
theorem dX11_motion_104 : decode cX11_motion 104 = .ok (.getfield 67, 3) := by decide +kernel
theorem dX11_motion_107 : decode cX11_motion 107 = .ok (.aload_n 0, 1) := by decide +kernel
theorem dX11_motion_108 : decode cX11_motion 108 = .ok (.getfield 67, 3) := by decide +kernel
theorem dX11_motion_111 : decode cX11_motion 111 = .ok (.getfield 279, 3) := by decide +kernel
theorem dX11_motion_114 : decode cX11_motion 114 = .ok (.iload_n 3, 1) := by decide +kernel
theorem dX11_motion_115 : decode cX11_motion 115 = .ok (.aload_n 0, 1) := by decide +kernel
theorem dX11_motion_116 : decode cX11_motion 116 = .ok (.getfield 81, 3) := by decide +kernel
theorem dX11_motion_119 : decode cX11_motion 119 = .ok (.getfield 241, 3) := by decide +kernel
theorem dX11_motion_122 : decode cX11_motion 122 = .ok (.invokevirtual 282, 3) := by decide +kernel
theorem dX11_motion_125 : decode cX11_motion 125 = .ok (.ireturn, 1) := by decide +kernel
theorem dX11_sell_0 : decode cX11_sell 0 = .ok (.aload_n 0, 1) := by decide +kernel
theorem dX11_sell_1 : decode cX11_sell 1 = .ok (.iload_n 1, 1) := by decide +kernel
theorem dX11_sell_2 : decode cX11_sell 2 = .ok (.invokevirtual 141, 3) := by decide +kernel
theorem dX11_sell_5 : decode cX11_sell 5 = .ok (.ifCond .eq 19, 3) := by decide +kernel
theorem dX11_sell_8 : decode cX11_sell 8 = .ok (.aload_n 0, 1) := by decide +kernel
theorem dX11_sell_9 : decode cX11_sell 9 = .ok (.iload_n 2, 1) := by decide +kernel
theorem dX11_sell_10 : decode cX11_sell 10 = .ok (.invokevirtual 304, 3) := by decide +kernel
theorem dX11_sell_13 : decode cX11_sell 13 = .ok (.ifCond .eq 11, 3) := by decide +kernel
theorem dX11_sell_16 : decode cX11_sell 16 = .ok (.aload_n 0, 1) := by decide +kernel
theorem dX11_sell_17 : decode cX11_sell 17 = .ok (.iload_n 3, 1) := by decide +kernel
theorem dX11_sell_18 : decode cX11_sell 18 = .ok (.invokevirtual 238, 3) := by decide +kernel
theorem dX11_sell_21 : decode cX11_sell 21 = .ok (.ifCond .ne 5, 3) := by decide +kernel
theorem dX11_sell_24 : decode cX11_sell 24 = .ok (.iconst (-1), 1) := by decide +kernel
theorem dX11_sell_25 : decode cX11_sell 25 = .ok (.ireturn, 1) := by decide +kernel
theorem dX11_sell_26 : decode cX11_sell 26 = .ok (.aload_n 0, 1) := by decide +kernel
theorem dX11_sell_27 : decode cX11_sell 27 = .ok (.getfield 58, 3) := by decide +kernel
theorem dX11_sell_30 : decode cX11_sell 30 = .ok (.aload_n 0, 1) := by decide +kernel
theorem dX11_sell_31 : decode cX11_sell 31 = .ok (.getfield 81, 3) := by decide +kernel
theorem dX11_sell_34 : decode cX11_sell 34 = .ok (.aload_n 0, 1) := by decide +kernel
theorem dX11_sell_35 : decode cX11_sell 35 = .ok (.getfield 44, 3) := by decide +kernel
theorem dX11_sell_38 : decode cX11_sell 38 = .ok (.iload_n 1, 1) := by decide +kernel
theorem dX11_sell_39 : decode cX11_sell 39 = .ok (.iload_n 2, 1) := by decide +kernel
theorem dX11_sell_40 : decode cX11_sell 40 = .ok (.invokevirtual 307, 3) := by decide +kernel
theorem dX11_sell_43 : decode cX11_sell 43 = .ok (.iload_n 3, 1) := by decide +kernel
theorem dX11_sell_44 : decode cX11_sell 44 = .ok (.ifCond .ne 13, 3) := by decide +kernel
theorem dX11_sell_47 : decode cX11_sell 47 = .ok (.aload_n 0, 1) := by decide +kernel
theorem dX11_sell_48 : decode cX11_sell 48 = .ok (.getfield 58, 3) := by decide +kernel
theorem dX11_sell_51 : decode cX11_sell 51 = .ok (.getfield 310, 3) := by decide +kernel
theorem dX11_sell_54 : decode cX11_sell 54 = .ok (.goto 10, 3) := by decide +kernel
theorem dX11_sell_57 : decode cX11_sell 57 = .ok (.aload_n 0, 1) := by decide +kernel
theorem dX11_sell_58 : decode cX11_sell 58 = .ok (.getfield 58, 3) := by decide +kernel
theorem dX11_sell_61 : decode cX11_sell 61 = .ok (.getfield 313, 3) := by decide +kernel
theorem dX11_sell_64 : decode cX11_sell 64 = .ok (.ireturn, 1) := by decide +kernel
theorem dX11_salting_0 : decode cX11_salting 0 = .ok (.aload_n 0, 1) := by decide +kernel
theorem dX11_salting_1 : decode cX11_salting 1 = .ok (.iload_n 1, 1) := by decide +kernel
theorem dX11_salting_2 : decode cX11_salting 2 = .ok (.invokevirtual 141, 3) := by decide +kernel
theorem dX11_salting_5 : decode cX11_salting 5 = .ok (.ifCond .eq 15, 3) := by decide +kernel
theorem dX11_salting_8 : decode cX11_salting 8 = .ok (.aload_n 0, 1) := by decide +kernel
theorem dX11_salting_9 : decode cX11_salting 9 = .ok (.iload_n 2, 1) := by decide +kernel
theorem dX11_salting_10 : decode cX11_salting 10 = .ok (.invokevirtual 304, 3) := by decide +kernel
theorem dX11_salting_13 : decode cX11_salting 13 = .ok (.ifCond .eq 7, 3) := by decide +kernel
theorem dX11_salting_16 : decode cX11_salting 16 = .ok (.iload_n 2, 1) := by decide +kernel
theorem dX11_salting_17 : decode cX11_salting 17 = .ok (.ifCond .ne 5, 3) := by decide +kernel
theorem dX11_salting_20 : decode cX11_salting 20 = .ok (.iconst (-1), 1) := by decide +kernel
theorem dX11_salting_21 : decode cX11_salting 21 = .ok (.ireturn, 1) := by decide +kernel
theorem dX11_salting_22 : decode cX11_salting 22 = .ok (.aload_n 0, 1) := by decide +kernel
theorem dX11_salting_23 : decode cX11_salting 23 = .ok (.getfield 58, 3) := by decide +kernel
theorem dX11_salting_26 : decode cX11_salting 26 = .ok (.aload_n 0, 1) := by decide +kernel
theorem dX11_salting_27 : decode cX11_salting 27 = .ok (.getfield 81, 3) := by decide +kernel
theorem dX11_salting_30 : decode cX11_salting 30 = .ok (.aload_n 0, 1) := by decide +kernel
theorem dX11_salting_31 : decode cX11_salting 31 = .ok (.getfield 44, 3) := by decide +kernel
theorem dX11_salting_34 : decode cX11_salting 34 = .ok (.iload_n 1, 1) := by decide +kernel
theorem dX11_salting_35 : decode cX11_salting 35 = .ok (.iload_n 2, 1) := by decide +kernel
theorem dX11_salting_36 : decode cX11_salting 36 = .ok (.invokevirtual 316, 3) := by decide +kernel
theorem dX11_salting_39 : decode cX11_salting 39 = .ok (.ireturn, 1) := by decide +kernel
theorem dX11_dearest_0 : decode cX11_dearest 0 = .ok (.aload_n 0, 1) := by decide +kernel
theorem dX11_dearest_1 : decode cX11_dearest 1 = .ok (.iload_n 1, 1) := by decide +kernel
theorem dX11_dearest_2 : decode cX11_dearest 2 = .ok (.invokevirtual 304, 3) := by decide +kernel
theorem dX11_dearest_5 : decode cX11_dearest 5 = .ok (.ifCond .eq 11, 3) := by decide +kernel
theorem dX11_dearest_8 : decode cX11_dearest 8 = .ok (.aload_n 0, 1) := by decide +kernel
theorem dX11_dearest_9 : decode cX11_dearest 9 = .ok (.iload_n 2, 1) := by decide +kernel
theorem dX11_dearest_10 : decode cX11_dearest 10 = .ok (.invokevirtual 238, 3) := by decide +kernel
theorem dX11_dearest_13 : decode cX11_dearest 13 = .ok (.ifCond .ne 5, 3) := by decide +kernel
theorem dX11_dearest_16 : decode cX11_dearest 16 = .ok (.iconst (-1), 1) := by decide +kernel
theorem dX11_dearest_17 : decode cX11_dearest 17 = .ok (.ireturn, 1) := by decide +kernel
theorem dX11_dearest_18 : decode cX11_dearest 18 = .ok (.aload_n 0, 1) := by decide +kernel
theorem dX11_dearest_19 : decode cX11_dearest 19 = .ok (.getfield 58, 3) := by decide +kernel
theorem dX11_dearest_22 : decode cX11_dearest 22 = .ok (.aload_n 0, 1) := by decide +kernel
theorem dX11_dearest_23 : decode cX11_dearest 23 = .ok (.getfield 81, 3) := by decide +kernel
theorem dX11_dearest_26 : decode cX11_dearest 26 = .ok (.aload_n 0, 1) := by decide +kernel
theorem dX11_dearest_27 : decode cX11_dearest 27 = .ok (.getfield 44, 3) := by decide +kernel
theorem dX11_dearest_30 : decode cX11_dearest 30 = .ok (.iload_n 1, 1) := by decide +kernel
theorem dX11_dearest_31 : decode cX11_dearest 31 = .ok (.invokevirtual 319, 3) := by decide +kernel
theorem dX11_dearest_34 : decode cX11_dearest 34 = .ok (.iload_n 2, 1) := by decide +kernel
theorem dX11_dearest_35 : decode cX11_dearest 35 = .ok (.ifCond .ne 13, 3) := by decide +kernel
theorem dX11_dearest_38 : decode cX11_dearest 38 = .ok (.aload_n 0, 1) := by decide +kernel
theorem dX11_dearest_39 : decode cX11_dearest 39 = .ok (.getfield 58, 3) := by decide +kernel
theorem dX11_dearest_42 : decode cX11_dearest 42 = .ok (.getfield 310, 3) := by decide +kernel
theorem dX11_dearest_45 : decode cX11_dearest 45 = .ok (.goto 10, 3) := by decide +kernel
theorem dX11_dearest_48 : decode cX11_dearest 48 = .ok (.aload_n 0, 1) := by decide +kernel
theorem dX11_dearest_49 : decode cX11_dearest 49 = .ok (.getfield 58, 3) := by decide +kernel
theorem dX11_dearest_52 : decode cX11_dearest 52 = .ok (.getfield 313, 3) := by decide +kernel
theorem dX11_dearest_55 : decode cX11_dearest 55 = .ok (.ireturn, 1) := by decide +kernel
theorem dX11_poorest_0 : decode cX11_poorest 0 = .ok (.aload_n 0, 1) := by decide +kernel
theorem dX11_poorest_1 : decode cX11_poorest 1 = .ok (.iload_n 1, 1) := by decide +kernel
theorem dX11_poorest_2 : decode cX11_poorest 2 = .ok (.invokevirtual 217, 3) := by decide +kernel
theorem dX11_poorest_5 : decode cX11_poorest 5 = .ok (.ifCond .eq 11, 3) := by decide +kernel
theorem dX11_poorest_8 : decode cX11_poorest 8 = .ok (.aload_n 0, 1) := by decide +kernel
theorem dX11_poorest_9 : decode cX11_poorest 9 = .ok (.iload_n 2, 1) := by decide +kernel
theorem dX11_poorest_10 : decode cX11_poorest 10 = .ok (.invokevirtual 238, 3) := by decide +kernel
theorem dX11_poorest_13 : decode cX11_poorest 13 = .ok (.ifCond .ne 5, 3) := by decide +kernel
theorem dX11_poorest_16 : decode cX11_poorest 16 = .ok (.iconst (-1), 1) := by decide +kernel
theorem dX11_poorest_17 : decode cX11_poorest 17 = .ok (.ireturn, 1) := by decide +kernel
theorem dX11_poorest_18 : decode cX11_poorest 18 = .ok (.aload_n 0, 1) := by decide +kernel
theorem dX11_poorest_19 : decode cX11_poorest 19 = .ok (.getfield 81, 3) := by decide +kernel
theorem dX11_poorest_22 : decode cX11_poorest 22 = .ok (.getfield 241, 3) := by decide +kernel
theorem dX11_poorest_25 : decode cX11_poorest 25 = .ok (.ifCond .ne 6, 3) := by decide +kernel
theorem dX11_poorest_28 : decode cX11_poorest 28 = .ok (.bipush (-2), 2) := by decide +kernel
theorem dX11_poorest_30 : decode cX11_poorest 30 = .ok (.ireturn, 1) := by decide +kernel
theorem dX11_poorest_31 : decode cX11_poorest 31 = .ok (.aload_n 0, 1) := by decide +kernel
theorem dX11_poorest_32 : decode cX11_poorest 32 = .ok (.getfield 58, 3) := by decide +kernel
theorem dX11_poorest_35 : decode cX11_poorest 35 = .ok (.aload_n 0, 1) := by decide +kernel
theorem dX11_poorest_36 : decode cX11_poorest 36 = .ok (.getfield 81, 3) := by decide +kernel
theorem dX11_poorest_39 : decode cX11_poorest 39 = .ok (.aload_n 0, 1) := by decide +kernel
theorem dX11_poorest_40 : decode cX11_poorest 40 = .ok (.getfield 44, 3) := by decide +kernel
theorem dX11_poorest_43 : decode cX11_poorest 43 = .ok (.iload_n 1, 1) := by decide +kernel
theorem dX11_poorest_44 : decode cX11_poorest 44 = .ok (.aload_n 0, 1) := by decide +kernel
theorem dX11_poorest_45 : decode cX11_poorest 45 = .ok (.getfield 81, 3) := by decide +kernel
theorem dX11_poorest_48 : decode cX11_poorest 48 = .ok (.getfield 220, 3) := by decide +kernel
theorem dX11_poorest_51 : decode cX11_poorest 51 = .ok (.invokevirtual 323, 3) := by decide +kernel
theorem dX11_poorest_54 : decode cX11_poorest 54 = .ok (.astore_n 3, 1) := by decide +kernel
theorem dX11_poorest_55 : decode cX11_poorest 55 = .ok (.aload_n 3, 1) := by decide +kernel
theorem dX11_poorest_56 : decode cX11_poorest 56 = .ok (.invokevirtual 327, 3) := by decide +kernel
theorem dX11_poorest_59 : decode cX11_poorest 59 = .ok (.istore 4, 2) := by decide +kernel
theorem dX11_poorest_61 : decode cX11_poorest 61 = .ok (.iload_n 2, 1) := by decide +kernel
theorem dX11_poorest_62 : decode cX11_poorest 62 = .ok (.ifCond .ne 8, 3) := by decide +kernel
theorem dX11_poorest_65 : decode cX11_poorest 65 = .ok (.iload 4, 2) := by decide +kernel
theorem dX11_poorest_67 : decode cX11_poorest 67 = .ok (.goto 10, 3) := by decide +kernel
theorem dX11_poorest_70 : decode cX11_poorest 70 = .ok (.aload_n 3, 1) := by decide +kernel
theorem dX11_poorest_71 : decode cX11_poorest 71 = .ok (.getfield 144, 3) := by decide +kernel
theorem dX11_poorest_74 : decode cX11_poorest 74 = .ok (.iload 4, 2) := by decide +kernel
theorem dX11_poorest_76 : decode cX11_poorest 76 = .ok (.iaload, 1) := by decide +kernel
theorem dX11_poorest_77 : decode cX11_poorest 77 = .ok (.ireturn, 1) := by decide +kernel
theorem dX11_quiet_0 : decode cX11_quiet 0 = .ok (.aload_n 0, 1) := by decide +kernel
theorem dX11_quiet_1 : decode cX11_quiet 1 = .ok (.iload_n 1, 1) := by decide +kernel
theorem dX11_quiet_2 : decode cX11_quiet 2 = .ok (.invokevirtual 141, 3) := by decide +kernel
theorem dX11_quiet_5 : decode cX11_quiet 5 = .ok (.ifCond .eq 18, 3) := by decide +kernel
theorem dX11_quiet_8 : decode cX11_quiet 8 = .ok (.aload_n 0, 1) := by decide +kernel
theorem dX11_quiet_9 : decode cX11_quiet 9 = .ok (.getfield 74, 3) := by decide +kernel
theorem dX11_quiet_12 : decode cX11_quiet 12 = .ok (.aload_n 0, 1) := by decide +kernel
theorem dX11_quiet_13 : decode cX11_quiet 13 = .ok (.getfield 81, 3) := by decide +kernel
theorem dX11_quiet_16 : decode cX11_quiet 16 = .ok (.iload_n 1, 1) := by decide +kernel
theorem dX11_quiet_17 : decode cX11_quiet 17 = .ok (.invokevirtual 330, 3) := by decide +kernel
theorem dX11_quiet_20 : decode cX11_quiet 20 = .ok (.goto 4, 3) := by decide +kernel
theorem dX11_quiet_23 : decode cX11_quiet 23 = .ok (.iconst (-1), 1) := by decide +kernel
theorem dX11_quiet_24 : decode cX11_quiet 24 = .ok (.ireturn, 1) := by decide +kernel
theorem dX11_share_0 : decode cX11_share 0 = .ok (.aload_n 0, 1) := by decide +kernel
theorem dX11_share_1 : decode cX11_share 1 = .ok (.iload_n 1, 1) := by decide +kernel
theorem dX11_share_2 : decode cX11_share 2 = .ok (.invokevirtual 141, 3) := by decide +kernel
theorem dX11_share_5 : decode cX11_share 5 = .ok (.ifCond .ne 5, 3) := by decide +kernel
theorem dX11_share_8 : decode cX11_share 8 = .ok (.iconst (-1), 1) := by decide +kernel
theorem dX11_share_9 : decode cX11_share 9 = .ok (.ireturn, 1) := by decide +kernel
theorem dX11_share_10 : decode cX11_share 10 = .ok (.aload_n 0, 1) := by decide +kernel
theorem dX11_share_11 : decode cX11_share 11 = .ok (.getfield 81, 3) := by decide +kernel
theorem dX11_share_14 : decode cX11_share 14 = .ok (.invokevirtual 334, 3) := by decide +kernel
theorem dX11_share_17 : decode cX11_share 17 = .ok (.istore_n 2, 1) := by decide +kernel
theorem dX11_share_18 : decode cX11_share 18 = .ok (.iload_n 2, 1) := by decide +kernel
theorem dX11_share_19 : decode cX11_share 19 = .ok (.ifCond .gt 7, 3) := by decide +kernel
theorem dX11_share_22 : decode cX11_share 22 = .ok (.iconst 0, 1) := by decide +kernel
theorem dX11_share_23 : decode cX11_share 23 = .ok (.goto 22, 3) := by decide +kernel
theorem dX11_share_26 : decode cX11_share 26 = .ok (.aload_n 0, 1) := by decide +kernel
theorem dX11_share_27 : decode cX11_share 27 = .ok (.getfield 44, 3) := by decide +kernel
theorem dX11_share_30 : decode cX11_share 30 = .ok (.invokevirtual 166, 3) := by decide +kernel
theorem dX11_share_33 : decode cX11_share 33 = .ok (.aload_n 0, 1) := by decide +kernel
theorem dX11_share_34 : decode cX11_share 34 = .ok (.getfield 81, 3) := by decide +kernel
theorem dX11_share_37 : decode cX11_share 37 = .ok (.getfield 151, 3) := by decide +kernel
theorem dX11_share_40 : decode cX11_share 40 = .ok (.iload_n 1, 1) := by decide +kernel
theorem dX11_share_41 : decode cX11_share 41 = .ok (.iaload, 1) := by decide +kernel
theorem dX11_share_42 : decode cX11_share 42 = .ok (.imul, 1) := by decide +kernel
theorem dX11_share_43 : decode cX11_share 43 = .ok (.iload_n 2, 1) := by decide +kernel
theorem dX11_share_44 : decode cX11_share 44 = .ok (.idiv, 1) := by decide +kernel
theorem dX11_share_45 : decode cX11_share 45 = .ok (.ireturn, 1) := by decide +kernel
theorem dX11_priceIn_0 : decode cX11_priceIn 0 = .ok (.aload_n 0, 1) := by decide +kernel
theorem dX11_priceIn_1 : decode cX11_priceIn 1 = .ok (.iload_n 1, 1) := by decide +kernel
theorem dX11_priceIn_2 : decode cX11_priceIn 2 = .ok (.invokevirtual 217, 3) := by decide +kernel
theorem dX11_priceIn_5 : decode cX11_priceIn 5 = .ok (.ifCond .eq 40, 3) := by decide +kernel
theorem dX11_priceIn_8 : decode cX11_priceIn 8 = .ok (.aload_n 0, 1) := by decide +kernel
theorem dX11_priceIn_9 : decode cX11_priceIn 9 = .ok (.getfield 58, 3) := by decide +kernel
theorem dX11_priceIn_12 : decode cX11_priceIn 12 = .ok (.aload_n 0, 1) := by decide +kernel
theorem dX11_priceIn_13 : decode cX11_priceIn 13 = .ok (.getfield 81, 3) := by decide +kernel
theorem dX11_priceIn_16 : decode cX11_priceIn 16 = .ok (.aload_n 0, 1) := by decide +kernel
theorem dX11_priceIn_17 : decode cX11_priceIn 17 = .ok (.getfield 58, 3) := by decide +kernel
theorem dX11_priceIn_20 : decode cX11_priceIn 20 = .ok (.aload_n 0, 1) := by decide +kernel
theorem dX11_priceIn_21 : decode cX11_priceIn 21 = .ok (.getfield 81, 3) := by decide +kernel
theorem dX11_priceIn_24 : decode cX11_priceIn 24 = .ok (.aload_n 0, 1) := by decide +kernel
theorem dX11_priceIn_25 : decode cX11_priceIn 25 = .ok (.getfield 44, 3) := by decide +kernel
theorem dX11_priceIn_28 : decode cX11_priceIn 28 = .ok (.iload_n 1, 1) := by decide +kernel
theorem dX11_priceIn_29 : decode cX11_priceIn 29 = .ok (.aload_n 0, 1) := by decide +kernel
theorem dX11_priceIn_30 : decode cX11_priceIn 30 = .ok (.getfield 81, 3) := by decide +kernel
theorem dX11_priceIn_33 : decode cX11_priceIn 33 = .ok (.getfield 220, 3) := by decide +kernel
theorem dX11_priceIn_36 : decode cX11_priceIn 36 = .ok (.invokevirtual 323, 3) := by decide +kernel
theorem dX11_priceIn_39 : decode cX11_priceIn 39 = .ok (.invokevirtual 180, 3) := by decide +kernel
theorem dX11_priceIn_42 : decode cX11_priceIn 42 = .ok (.goto 4, 3) := by decide +kernel
theorem dX11_priceIn_45 : decode cX11_priceIn 45 = .ok (.iconst (-1), 1) := by decide +kernel
theorem dX11_priceIn_46 : decode cX11_priceIn 46 = .ok (.ireturn, 1) := by decide +kernel
theorem dX11_then_0 : decode cX11_then 0 = .ok (.aload_n 0, 1) := by decide +kernel
theorem dX11_then_1 : decode cX11_then 1 = .ok (.iload_n 1, 1) := by decide +kernel
theorem dX11_then_2 : decode cX11_then 2 = .ok (.invokevirtual 141, 3) := by decide +kernel
theorem dX11_then_5 : decode cX11_then 5 = .ok (.ifCond .eq 20, 3) := by decide +kernel
theorem dX11_then_8 : decode cX11_then 8 = .ok (.aload_n 0, 1) := by decide +kernel
theorem dX11_then_9 : decode cX11_then 9 = .ok (.iload_n 2, 1) := by decide +kernel
theorem dX11_then_10 : decode cX11_then 10 = .ok (.invokevirtual 217, 3) := by decide +kernel
theorem dX11_then_13 : decode cX11_then 13 = .ok (.ifCond .eq 12, 3) := by decide +kernel
theorem dX11_then_16 : decode cX11_then 16 = .ok (.iload_n 3, 1) := by decide +kernel
theorem dX11_then_17 : decode cX11_then 17 = .ok (.ifCond .lt 8, 3) := by decide +kernel
theorem dX11_then_20 : decode cX11_then 20 = .ok (.iload_n 3, 1) := by decide +kernel
theorem dX11_then_21 : decode cX11_then 21 = .ok (.iconst 2, 1) := by decide +kernel
theorem dX11_then_22 : decode cX11_then 22 = .ok (.if_icmp .le 5, 3) := by decide +kernel
theorem dX11_then_25 : decode cX11_then 25 = .ok (.iconst (-1), 1) := by decide +kernel
theorem dX11_then_26 : decode cX11_then 26 = .ok (.ireturn, 1) := by decide +kernel
theorem dX11_then_27 : decode cX11_then 27 = .ok (.aload_n 0, 1) := by decide +kernel
theorem dX11_then_28 : decode cX11_then 28 = .ok (.getfield 58, 3) := by decide +kernel
theorem dX11_then_31 : decode cX11_then 31 = .ok (.aload_n 0, 1) := by decide +kernel
theorem dX11_then_32 : decode cX11_then 32 = .ok (.getfield 81, 3) := by decide +kernel
theorem dX11_then_35 : decode cX11_then 35 = .ok (.aload_n 0, 1) := by decide +kernel
theorem dX11_then_36 : decode cX11_then 36 = .ok (.getfield 44, 3) := by decide +kernel
theorem dX11_then_39 : decode cX11_then 39 = .ok (.iload_n 2, 1) := by decide +kernel
theorem dX11_then_40 : decode cX11_then 40 = .ok (.aload_n 0, 1) := by decide +kernel
theorem dX11_then_41 : decode cX11_then 41 = .ok (.getfield 81, 3) := by decide +kernel
theorem dX11_then_44 : decode cX11_then 44 = .ok (.getfield 220, 3) := by decide +kernel
theorem dX11_then_47 : decode cX11_then 47 = .ok (.invokevirtual 323, 3) := by decide +kernel
theorem dX11_then_50 : decode cX11_then 50 = .ok (.astore 4, 2) := by decide +kernel
theorem dX11_then_52 : decode cX11_then 52 = .ok (.iload_n 3, 1) := by decide +kernel
theorem dX11_then_53 : decode cX11_then 53 = .ok (.lookupswitch 53 #[(0, 27), (1, 35)], 27) := by decide +kernel
theorem dX11_then_80 : decode cX11_then 80 = .ok (.aload 4, 2) := by decide +kernel
theorem dX11_then_82 : decode cX11_then 82 = .ok (.getfield 144, 3) := by decide +kernel
theorem dX11_then_85 : decode cX11_then 85 = .ok (.iload_n 1, 1) := by decide +kernel
theorem dX11_then_86 : decode cX11_then 86 = .ok (.iaload, 1) := by decide +kernel
theorem dX11_then_87 : decode cX11_then 87 = .ok (.ireturn, 1) := by decide +kernel
theorem dX11_then_88 : decode cX11_then 88 = .ok (.aload 4, 2) := by decide +kernel
theorem dX11_then_90 : decode cX11_then 90 = .ok (.getfield 160, 3) := by decide +kernel
theorem dX11_then_93 : decode cX11_then 93 = .ok (.iload_n 1, 1) := by decide +kernel
theorem dX11_then_94 : decode cX11_then 94 = .ok (.iaload, 1) := by decide +kernel
theorem dX11_then_95 : decode cX11_then 95 = .ok (.aload_n 0, 1) := by decide +kernel
theorem dX11_then_96 : decode cX11_then 96 = .ok (.getfield 44, 3) := by decide +kernel
theorem dX11_then_99 : decode cX11_then 99 = .ok (.getfield 160, 3) := by decide +kernel
theorem dX11_then_102 : decode cX11_then 102 = .ok (.iload_n 1, 1) := by decide +kernel
theorem dX11_then_103 : decode cX11_then 103 = .ok (.iaload, 1) := by decide +kernel
theorem dX11_then_104 : decode cX11_then 104 = .ok (.isub, 1) := by decide +kernel
theorem dX11_then_105 : decode cX11_then 105 = .ok (.ireturn, 1) := by decide +kernel
theorem dX11_then_106 : decode cX11_then 106 = .ok (.aload 4, 2) := by decide +kernel
theorem dX11_then_108 : decode cX11_then 108 = .ok (.getfield 157, 3) := by decide +kernel
theorem dX11_then_111 : decode cX11_then 111 = .ok (.iload_n 1, 1) := by decide +kernel
theorem dX11_then_112 : decode cX11_then 112 = .ok (.iaload, 1) := by decide +kernel
theorem dX11_then_113 : decode cX11_then 113 = .ok (.ireturn, 1) := by decide +kernel
theorem dX11_allIn_0 : decode cX11_allIn 0 = .ok (.aload_n 0, 1) := by decide +kernel
theorem dX11_allIn_1 : decode cX11_allIn 1 = .ok (.iload_n 1, 1) := by decide +kernel
theorem dX11_allIn_2 : decode cX11_allIn 2 = .ok (.invokevirtual 217, 3) := by decide +kernel
theorem dX11_allIn_5 : decode cX11_allIn 5 = .ok (.ifCond .eq 32, 3) := by decide +kernel
theorem dX11_allIn_8 : decode cX11_allIn 8 = .ok (.aload_n 0, 1) := by decide +kernel
theorem dX11_allIn_9 : decode cX11_allIn 9 = .ok (.getfield 58, 3) := by decide +kernel
theorem dX11_allIn_12 : decode cX11_allIn 12 = .ok (.aload_n 0, 1) := by decide +kernel
theorem dX11_allIn_13 : decode cX11_allIn 13 = .ok (.getfield 81, 3) := by decide +kernel
theorem dX11_allIn_16 : decode cX11_allIn 16 = .ok (.aload_n 0, 1) := by decide +kernel
theorem dX11_allIn_17 : decode cX11_allIn 17 = .ok (.getfield 44, 3) := by decide +kernel
theorem dX11_allIn_20 : decode cX11_allIn 20 = .ok (.iload_n 1, 1) := by decide +kernel
theorem dX11_allIn_21 : decode cX11_allIn 21 = .ok (.aload_n 0, 1) := by decide +kernel
theorem dX11_allIn_22 : decode cX11_allIn 22 = .ok (.getfield 81, 3) := by decide +kernel
theorem dX11_allIn_25 : decode cX11_allIn 25 = .ok (.getfield 220, 3) := by decide +kernel
theorem dX11_allIn_28 : decode cX11_allIn 28 = .ok (.invokevirtual 323, 3) := by decide +kernel
theorem dX11_allIn_31 : decode cX11_allIn 31 = .ok (.invokevirtual 166, 3) := by decide +kernel
theorem dX11_allIn_34 : decode cX11_allIn 34 = .ok (.goto 4, 3) := by decide +kernel
theorem dX11_allIn_37 : decode cX11_allIn 37 = .ok (.iconst (-1), 1) := by decide +kernel
theorem dX11_allIn_38 : decode cX11_allIn 38 = .ok (.ireturn, 1) := by decide +kernel
theorem dX11_deals_0 : decode cX11_deals 0 = .ok (.aload_n 0, 1) := by decide +kernel
theorem dX11_deals_1 : decode cX11_deals 1 = .ok (.iload_n 1, 1) := by decide +kernel
theorem dX11_deals_2 : decode cX11_deals 2 = .ok (.invokevirtual 238, 3) := by decide +kernel
theorem dX11_deals_5 : decode cX11_deals 5 = .ok (.ifCond .ne 5, 3) := by decide +kernel
theorem dX11_deals_8 : decode cX11_deals 8 = .ok (.iconst (-1), 1) := by decide +kernel
theorem dX11_deals_9 : decode cX11_deals 9 = .ok (.ireturn, 1) := by decide +kernel
theorem dX11_deals_10 : decode cX11_deals 10 = .ok (.aload_n 0, 1) := by decide +kernel
theorem dX11_deals_11 : decode cX11_deals 11 = .ok (.getfield 58, 3) := by decide +kernel
theorem dX11_deals_14 : decode cX11_deals 14 = .ok (.aload_n 0, 1) := by decide +kernel
theorem dX11_deals_15 : decode cX11_deals 15 = .ok (.getfield 81, 3) := by decide +kernel
theorem dX11_deals_18 : decode cX11_deals 18 = .ok (.aload_n 0, 1) := by decide +kernel
theorem dX11_deals_19 : decode cX11_deals 19 = .ok (.getfield 44, 3) := by decide +kernel
theorem dX11_deals_22 : decode cX11_deals 22 = .ok (.invokevirtual 180, 3) := by decide +kernel
theorem dX11_deals_25 : decode cX11_deals 25 = .ok (.istore_n 2, 1) := by decide +kernel
theorem dX11_deals_26 : decode cX11_deals 26 = .ok (.iconst 0, 1) := by decide +kernel
theorem dX11_deals_27 : decode cX11_deals 27 = .ok (.istore_n 3, 1) := by decide +kernel
theorem dX11_deals_28 : decode cX11_deals 28 = .ok (.bipush (-2), 2) := by decide +kernel
theorem dX11_deals_30 : decode cX11_deals 30 = .ok (.istore 4, 2) := by decide +kernel
theorem dX11_deals_32 : decode cX11_deals 32 = .ok (.iconst 0, 1) := by decide +kernel
theorem dX11_deals_33 : decode cX11_deals 33 = .ok (.istore 5, 2) := by decide +kernel
theorem dX11_deals_35 : decode cX11_deals 35 = .ok (.iload 5, 2) := by decide +kernel
theorem dX11_deals_37 : decode cX11_deals 37 = .ok (.aload_n 0, 1) := by decide +kernel
theorem dX11_deals_38 : decode cX11_deals 38 = .ok (.getfield 81, 3) := by decide +kernel
theorem dX11_deals_41 : decode cX11_deals 41 = .ok (.getfield 241, 3) := by decide +kernel
theorem dX11_deals_44 : decode cX11_deals 44 = .ok (.if_icmp .ge 64, 3) := by decide +kernel
theorem dX11_deals_47 : decode cX11_deals 47 = .ok (.iconst 0, 1) := by decide +kernel
theorem dX11_deals_48 : decode cX11_deals 48 = .ok (.istore 6, 2) := by decide +kernel
theorem dX11_deals_50 : decode cX11_deals 50 = .ok (.iload 6, 2) := by decide +kernel
theorem dX11_deals_52 : decode cX11_deals 52 = .ok (.aload_n 0, 1) := by decide +kernel
theorem dX11_deals_53 : decode cX11_deals 53 = .ok (.getfield 81, 3) := by decide +kernel
theorem dX11_deals_56 : decode cX11_deals 56 = .ok (.getfield 241, 3) := by decide +kernel
theorem dX11_deals_59 : decode cX11_deals 59 = .ok (.if_icmp .ge 43, 3) := by decide +kernel
theorem dX11_deals_62 : decode cX11_deals 62 = .ok (.aload_n 0, 1) := by decide +kernel
theorem dX11_deals_63 : decode cX11_deals 63 = .ok (.iload 5, 2) := by decide +kernel
theorem dX11_deals_65 : decode cX11_deals 65 = .ok (.iload 6, 2) := by decide +kernel
theorem dX11_deals_67 : decode cX11_deals 67 = .ok (.iload_n 2, 1) := by decide +kernel
theorem dX11_deals_68 : decode cX11_deals 68 = .ok (.invokevirtual 337, 3) := by decide +kernel
theorem dX11_deals_71 : decode cX11_deals 71 = .ok (.ifCond .eq 25, 3) := by decide +kernel
theorem dX11_deals_74 : decode cX11_deals 74 = .ok (.iload_n 3, 1) := by decide +kernel
theorem dX11_deals_75 : decode cX11_deals 75 = .ok (.ifCond .ne 14, 3) := by decide +kernel
theorem dX11_deals_78 : decode cX11_deals 78 = .ok (.bipush 10, 2) := by decide +kernel
theorem dX11_deals_80 : decode cX11_deals 80 = .ok (.iload 5, 2) := by decide +kernel
theorem dX11_deals_82 : decode cX11_deals 82 = .ok (.imul, 1) := by decide +kernel
theorem dX11_deals_83 : decode cX11_deals 83 = .ok (.iload 6, 2) := by decide +kernel
theorem dX11_deals_85 : decode cX11_deals 85 = .ok (.iadd, 1) := by decide +kernel
theorem dX11_deals_86 : decode cX11_deals 86 = .ok (.goto 5, 3) := by decide +kernel
theorem dX11_deals_89 : decode cX11_deals 89 = .ok (.iload 4, 2) := by decide +kernel
theorem dX11_deals_91 : decode cX11_deals 91 = .ok (.istore 4, 2) := by decide +kernel
theorem dX11_deals_93 : decode cX11_deals 93 = .ok (.iinc 3 1, 3) := by decide +kernel
theorem dX11_deals_96 : decode cX11_deals 96 = .ok (.iinc 6 1, 3) := by decide +kernel
theorem dX11_deals_99 : decode cX11_deals 99 = .ok (.goto (-49), 3) := by decide +kernel
theorem dX11_deals_102 : decode cX11_deals 102 = .ok (.iinc 5 1, 3) := by decide +kernel
theorem dX11_deals_105 : decode cX11_deals 105 = .ok (.goto (-70), 3) := by decide +kernel
theorem dX11_deals_108 : decode cX11_deals 108 = .ok (.iload_n 1, 1) := by decide +kernel
theorem dX11_deals_109 : decode cX11_deals 109 = .ok (.ifCond .ne 7, 3) := by decide +kernel
theorem dX11_deals_112 : decode cX11_deals 112 = .ok (.iload_n 3, 1) := by decide +kernel
theorem dX11_deals_113 : decode cX11_deals 113 = .ok (.goto 5, 3) := by decide +kernel
theorem dX11_deals_116 : decode cX11_deals 116 = .ok (.iload 4, 2) := by decide +kernel
theorem dX11_deals_118 : decode cX11_deals 118 = .ok (.ireturn, 1) := by decide +kernel
theorem dX11_ruin_0 : decode cX11_ruin 0 = .ok (.aload_n 0, 1) := by decide +kernel
theorem dX11_ruin_1 : decode cX11_ruin 1 = .ok (.iload_n 1, 1) := by decide +kernel
theorem dX11_ruin_2 : decode cX11_ruin 2 = .ok (.invokevirtual 141, 3) := by decide +kernel
theorem dX11_ruin_5 : decode cX11_ruin 5 = .ok (.ifCond .eq 22, 3) := by decide +kernel
theorem dX11_ruin_8 : decode cX11_ruin 8 = .ok (.aload_n 0, 1) := by decide +kernel
theorem dX11_ruin_9 : decode cX11_ruin 9 = .ok (.iload_n 2, 1) := by decide +kernel
theorem dX11_ruin_10 : decode cX11_ruin 10 = .ok (.invokevirtual 217, 3) := by decide +kernel
theorem dX11_ruin_13 : decode cX11_ruin 13 = .ok (.ifCond .eq 14, 3) := by decide +kernel
theorem dX11_ruin_16 : decode cX11_ruin 16 = .ok (.iload_n 3, 1) := by decide +kernel
theorem dX11_ruin_17 : decode cX11_ruin 17 = .ok (.iconst 1, 1) := by decide +kernel
theorem dX11_ruin_18 : decode cX11_ruin 18 = .ok (.if_icmp .lt 9, 3) := by decide +kernel
theorem dX11_ruin_21 : decode cX11_ruin 21 = .ok (.iload_n 3, 1) := by decide +kernel
theorem dX11_ruin_22 : decode cX11_ruin 22 = .ok (.bipush 20, 2) := by decide +kernel
theorem dX11_ruin_24 : decode cX11_ruin 24 = .ok (.if_icmp .le 5, 3) := by decide +kernel
theorem dX11_ruin_27 : decode cX11_ruin 27 = .ok (.iconst (-1), 1) := by decide +kernel
theorem dX11_ruin_28 : decode cX11_ruin 28 = .ok (.ireturn, 1) := by decide +kernel
theorem dX11_ruin_29 : decode cX11_ruin 29 = .ok (.iconst 0, 1) := by decide +kernel
theorem dX11_ruin_30 : decode cX11_ruin 30 = .ok (.istore 4, 2) := by decide +kernel
theorem dX11_ruin_32 : decode cX11_ruin 32 = .ok (.iconst 0, 1) := by decide +kernel
theorem dX11_ruin_33 : decode cX11_ruin 33 = .ok (.istore 5, 2) := by decide +kernel
theorem dX11_ruin_35 : decode cX11_ruin 35 = .ok (.iload 5, 2) := by decide +kernel
theorem dX11_ruin_37 : decode cX11_ruin 37 = .ok (.iload_n 3, 1) := by decide +kernel
theorem dX11_ruin_38 : decode cX11_ruin 38 = .ok (.if_icmp .ge 46, 3) := by decide +kernel
theorem dX11_ruin_41 : decode cX11_ruin 41 = .ok (.aload_n 0, 1) := by decide +kernel
theorem dX11_ruin_42 : decode cX11_ruin 42 = .ok (.getfield 58, 3) := by decide +kernel
theorem dX11_ruin_45 : decode cX11_ruin 45 = .ok (.aload_n 0, 1) := by decide +kernel
theorem dX11_ruin_46 : decode cX11_ruin 46 = .ok (.getfield 81, 3) := by decide +kernel
theorem dX11_ruin_49 : decode cX11_ruin 49 = .ok (.aload_n 0, 1) := by decide +kernel
theorem dX11_ruin_50 : decode cX11_ruin 50 = .ok (.getfield 44, 3) := by decide +kernel
theorem dX11_ruin_53 : decode cX11_ruin 53 = .ok (.iload_n 2, 1) := by decide +kernel
theorem dX11_ruin_54 : decode cX11_ruin 54 = .ok (.aload_n 0, 1) := by decide +kernel
theorem dX11_ruin_55 : decode cX11_ruin 55 = .ok (.getfield 81, 3) := by decide +kernel
theorem dX11_ruin_58 : decode cX11_ruin 58 = .ok (.getfield 220, 3) := by decide +kernel
theorem dX11_ruin_61 : decode cX11_ruin 61 = .ok (.iload 5, 2) := by decide +kernel
theorem dX11_ruin_63 : decode cX11_ruin 63 = .ok (.iadd, 1) := by decide +kernel
theorem dX11_ruin_64 : decode cX11_ruin 64 = .ok (.invokevirtual 323, 3) := by decide +kernel
theorem dX11_ruin_67 : decode cX11_ruin 67 = .ok (.getfield 144, 3) := by decide +kernel
theorem dX11_ruin_70 : decode cX11_ruin 70 = .ok (.iload_n 1, 1) := by decide +kernel
theorem dX11_ruin_71 : decode cX11_ruin 71 = .ok (.iaload, 1) := by decide +kernel
theorem dX11_ruin_72 : decode cX11_ruin 72 = .ok (.ifCond .ne 6, 3) := by decide +kernel
theorem dX11_ruin_75 : decode cX11_ruin 75 = .ok (.iinc 4 1, 3) := by decide +kernel
theorem dX11_ruin_78 : decode cX11_ruin 78 = .ok (.iinc 5 1, 3) := by decide +kernel
theorem dX11_ruin_81 : decode cX11_ruin 81 = .ok (.goto (-46), 3) := by decide +kernel
theorem dX11_ruin_84 : decode cX11_ruin 84 = .ok (.iload 4, 2) := by decide +kernel
theorem dX11_ruin_86 : decode cX11_ruin 86 = .ok (.ireturn, 1) := by decide +kernel
theorem dX11_tell_0 : decode cX11_tell 0 = .ok (.aload_n 0, 1) := by decide +kernel
theorem dX11_tell_1 : decode cX11_tell 1 = .ok (.iload_n 1, 1) := by decide +kernel
theorem dX11_tell_2 : decode cX11_tell 2 = .ok (.invokevirtual 141, 3) := by decide +kernel
theorem dX11_tell_5 : decode cX11_tell 5 = .ok (.ifCond .eq 15, 3) := by decide +kernel
theorem dX11_tell_8 : decode cX11_tell 8 = .ok (.aload_n 0, 1) := by decide +kernel
theorem dX11_tell_9 : decode cX11_tell 9 = .ok (.getfield 74, 3) := by decide +kernel
theorem dX11_tell_12 : decode cX11_tell 12 = .ok (.getfield 341, 3) := by decide +kernel
theorem dX11_tell_15 : decode cX11_tell 15 = .ok (.bipush 20, 2) := by decide +kernel
theorem dX11_tell_17 : decode cX11_tell 17 = .ok (.if_icmp .lt 5, 3) := by decide +kernel
theorem dX11_tell_20 : decode cX11_tell 20 = .ok (.iconst (-1), 1) := by decide +kernel
theorem dX11_tell_21 : decode cX11_tell 21 = .ok (.ireturn, 1) := by decide +kernel
theorem dX11_tell_22 : decode cX11_tell 22 = .ok (.aload_n 0, 1) := by decide +kernel
theorem dX11_tell_23 : decode cX11_tell 23 = .ok (.getfield 74, 3) := by decide +kernel
theorem dX11_tell_26 : decode cX11_tell 26 = .ok (.iload_n 1, 1) := by decide +kernel
theorem dX11_tell_27 : decode cX11_tell 27 = .ok (.iload_n 2, 1) := by decide +kernel
theorem dX11_tell_28 : decode cX11_tell 28 = .ok (.invokevirtual 344, 3) := by decide +kernel
theorem dX11_tell_31 : decode cX11_tell 31 = .ok (.ireturn, 1) := by decide +kernel
theorem dX11_forget_0 : decode cX11_forget 0 = .ok (.aload_n 0, 1) := by decide +kernel
theorem dX11_forget_1 : decode cX11_forget 1 = .ok (.getfield 74, 3) := by decide +kernel
theorem dX11_forget_4 : decode cX11_forget 4 = .ok (.getfield 341, 3) := by decide +kernel
theorem dX11_forget_7 : decode cX11_forget 7 = .ok (.istore_n 1, 1) := by decide +kernel
theorem dX11_forget_8 : decode cX11_forget 8 = .ok (.aload_n 0, 1) := by decide +kernel
theorem dX11_forget_9 : decode cX11_forget 9 = .ok (.getfield 74, 3) := by decide +kernel
theorem dX11_forget_12 : decode cX11_forget 12 = .ok (.iconst 0, 1) := by decide +kernel
theorem dX11_forget_13 : decode cX11_forget 13 = .ok (.putfield 341, 3) := by decide +kernel
theorem dX11_forget_16 : decode cX11_forget 16 = .ok (.iload_n 1, 1) := by decide +kernel
theorem dX11_forget_17 : decode cX11_forget 17 = .ok (.ireturn, 1) := by decide +kernel
theorem dX11_began_0 : decode cX11_began 0 = .ok (.iload_n 1, 1) := by decide +kernel
theorem dX11_began_1 : decode cX11_began 1 = .ok (.ifCond .lt 22, 3) := by decide +kernel
theorem dX11_began_4 : decode cX11_began 4 = .ok (.iload_n 1, 1) := by decide +kernel
theorem dX11_began_5 : decode cX11_began 5 = .ok (.aload_n 0, 1) := by decide +kernel
theorem dX11_began_6 : decode cX11_began 6 = .ok (.getfield 74, 3) := by decide +kernel
theorem dX11_began_9 : decode cX11_began 9 = .ok (.getfield 341, 3) := by decide +kernel
theorem dX11_began_12 : decode cX11_began 12 = .ok (.if_icmp .gt 11, 3) := by decide +kernel
theorem dX11_began_15 : decode cX11_began 15 = .ok (.aload_n 0, 1) := by decide +kernel
theorem dX11_began_16 : decode cX11_began 16 = .ok (.iload_n 2, 1) := by decide +kernel
theorem dX11_began_17 : decode cX11_began 17 = .ok (.invokevirtual 238, 3) := by decide +kernel
theorem dX11_began_20 : decode cX11_began 20 = .ok (.ifCond .ne 5, 3) := by decide +kernel
theorem dX11_began_23 : decode cX11_began 23 = .ok (.iconst (-1), 1) := by decide +kernel
theorem dX11_began_24 : decode cX11_began 24 = .ok (.ireturn, 1) := by decide +kernel
theorem dX11_began_25 : decode cX11_began 25 = .ok (.aload_n 0, 1) := by decide +kernel
theorem dX11_began_26 : decode cX11_began 26 = .ok (.getfield 74, 3) := by decide +kernel
theorem dX11_began_29 : decode cX11_began 29 = .ok (.aload_n 0, 1) := by decide +kernel
theorem dX11_began_30 : decode cX11_began 30 = .ok (.getfield 81, 3) := by decide +kernel
theorem dX11_began_33 : decode cX11_began 33 = .ok (.iload_n 1, 1) := by decide +kernel
theorem dX11_began_34 : decode cX11_began 34 = .ok (.invokevirtual 348, 3) := by decide +kernel
theorem dX11_began_37 : decode cX11_began 37 = .ok (.istore_n 3, 1) := by decide +kernel
theorem dX11_began_38 : decode cX11_began 38 = .ok (.iload_n 2, 1) := by decide +kernel
theorem dX11_began_39 : decode cX11_began 39 = .ok (.ifCond .ne 10, 3) := by decide +kernel
theorem dX11_began_42 : decode cX11_began 42 = .ok (.iload_n 3, 1) := by decide +kernel
theorem dX11_began_43 : decode cX11_began 43 = .ok (.invokestatic 248, 3) := by decide +kernel
theorem dX11_began_46 : decode cX11_began 46 = .ok (.goto 4, 3) := by decide +kernel
theorem dX11_began_49 : decode cX11_began 49 = .ok (.iload_n 3, 1) := by decide +kernel
theorem dX11_began_50 : decode cX11_began 50 = .ok (.ireturn, 1) := by decide +kernel
theorem dX11_ask_0 : decode cX11_ask 0 = .ok (.iload_n 1, 1) := by decide +kernel
theorem dX11_ask_1 : decode cX11_ask 1 = .ok (.ifCond .lt 14, 3) := by decide +kernel
theorem dX11_ask_4 : decode cX11_ask 4 = .ok (.iload_n 1, 1) := by decide +kernel
theorem dX11_ask_5 : decode cX11_ask 5 = .ok (.aload_n 0, 1) := by decide +kernel
theorem dX11_ask_6 : decode cX11_ask 6 = .ok (.getfield 74, 3) := by decide +kernel
theorem dX11_ask_9 : decode cX11_ask 9 = .ok (.getfield 341, 3) := by decide +kernel
theorem dX11_ask_12 : decode cX11_ask 12 = .ok (.if_icmp .le 5, 3) := by decide +kernel
theorem dX11_ask_15 : decode cX11_ask 15 = .ok (.iconst (-1), 1) := by decide +kernel
theorem dX11_ask_16 : decode cX11_ask 16 = .ok (.ireturn, 1) := by decide +kernel
theorem dX11_ask_17 : decode cX11_ask 17 = .ok (.aload_n 0, 1) := by decide +kernel
theorem dX11_ask_18 : decode cX11_ask 18 = .ok (.getfield 74, 3) := by decide +kernel
theorem dX11_ask_21 : decode cX11_ask 21 = .ok (.aload_n 0, 1) := by decide +kernel
theorem dX11_ask_22 : decode cX11_ask 22 = .ok (.getfield 81, 3) := by decide +kernel
theorem dX11_ask_25 : decode cX11_ask 25 = .ok (.iload_n 1, 1) := by decide +kernel
theorem dX11_ask_26 : decode cX11_ask 26 = .ok (.invokevirtual 348, 3) := by decide +kernel
theorem dX11_ask_29 : decode cX11_ask 29 = .ok (.istore_n 2, 1) := by decide +kernel
theorem dX11_ask_30 : decode cX11_ask 30 = .ok (.iload_n 2, 1) := by decide +kernel
theorem dX11_ask_31 : decode cX11_ask 31 = .ok (.ifCond .ne 8, 3) := by decide +kernel
theorem dX11_ask_34 : decode cX11_ask 34 = .ok (.bipush (-2), 2) := by decide +kernel
theorem dX11_ask_36 : decode cX11_ask 36 = .ok (.goto 15, 3) := by decide +kernel
theorem dX11_ask_39 : decode cX11_ask 39 = .ok (.aload_n 0, 1) := by decide +kernel
theorem dX11_ask_40 : decode cX11_ask 40 = .ok (.getfield 74, 3) := by decide +kernel
theorem dX11_ask_43 : decode cX11_ask 43 = .ok (.aload_n 0, 1) := by decide +kernel
theorem dX11_ask_44 : decode cX11_ask 44 = .ok (.getfield 81, 3) := by decide +kernel
theorem dX11_ask_47 : decode cX11_ask 47 = .ok (.iload_n 2, 1) := by decide +kernel
theorem dX11_ask_48 : decode cX11_ask 48 = .ok (.invokevirtual 351, 3) := by decide +kernel
theorem dX11_ask_51 : decode cX11_ask 51 = .ok (.ireturn, 1) := by decide +kernel
theorem dX11_hold_0 : decode cX11_hold 0 = .ok (.aload_n 0, 1) := by decide +kernel
theorem dX11_hold_1 : decode cX11_hold 1 = .ok (.getfield 51, 3) := by decide +kernel
theorem dX11_hold_4 : decode cX11_hold 4 = .ok (.iload_n 1, 1) := by decide +kernel
theorem dX11_hold_5 : decode cX11_hold 5 = .ok (.aload_n 0, 1) := by decide +kernel
theorem dX11_hold_6 : decode cX11_hold 6 = .ok (.getfield 44, 3) := by decide +kernel
theorem dX11_hold_9 : decode cX11_hold 9 = .ok (.invokevirtual 354, 3) := by decide +kernel
theorem dX11_hold_12 : decode cX11_hold 12 = .ok (.ireturn, 1) := by decide +kernel
theorem dX11_restore_0 : decode cX11_restore 0 = .ok (.aload_n 0, 1) := by decide +kernel
theorem dX11_restore_1 : decode cX11_restore 1 = .ok (.getfield 51, 3) := by decide +kernel
theorem dX11_restore_4 : decode cX11_restore 4 = .ok (.iload_n 1, 1) := by decide +kernel
theorem dX11_restore_5 : decode cX11_restore 5 = .ok (.aload_n 0, 1) := by decide +kernel
theorem dX11_restore_6 : decode cX11_restore 6 = .ok (.getfield 44, 3) := by decide +kernel
theorem dX11_restore_9 : decode cX11_restore 9 = .ok (.invokevirtual 358, 3) := by decide +kernel
theorem dX11_restore_12 : decode cX11_restore 12 = .ok (.ireturn, 1) := by decide +kernel
theorem dX11_count_0 : decode cX11_count 0 = .ok (.iload_n 1, 1) := by decide +kernel
theorem dX11_count_1 : decode cX11_count 1 = .ok (.tableswitch 239 0 14 #[75, 83, 91, 99, 107, 115, 130, 145, 153, 161, 169, 177, 185, 190, 224], 75) := by decide +kernel
theorem dX11_count_76 : decode cX11_count 76 = .ok (.aload_n 0, 1) := by decide +kernel
theorem dX11_count_77 : decode cX11_count 77 = .ok (.getfield 81, 3) := by decide +kernel
theorem dX11_count_80 : decode cX11_count 80 = .ok (.getfield 241, 3) := by decide +kernel
theorem dX11_count_83 : decode cX11_count 83 = .ok (.ireturn, 1) := by decide +kernel
theorem dX11_count_84 : decode cX11_count 84 = .ok (.aload_n 0, 1) := by decide +kernel
theorem dX11_count_85 : decode cX11_count 85 = .ok (.getfield 81, 3) := by decide +kernel
theorem dX11_count_88 : decode cX11_count 88 = .ok (.getfield 361, 3) := by decide +kernel
theorem dX11_count_91 : decode cX11_count 91 = .ok (.ireturn, 1) := by decide +kernel
theorem dX11_count_92 : decode cX11_count 92 = .ok (.aload_n 0, 1) := by decide +kernel
theorem dX11_count_93 : decode cX11_count 93 = .ok (.getfield 81, 3) := by decide +kernel
theorem dX11_count_96 : decode cX11_count 96 = .ok (.getfield 291, 3) := by decide +kernel
theorem dX11_count_99 : decode cX11_count 99 = .ok (.ireturn, 1) := by decide +kernel
theorem dX11_count_100 : decode cX11_count 100 = .ok (.aload_n 0, 1) := by decide +kernel
theorem dX11_count_101 : decode cX11_count 101 = .ok (.getfield 44, 3) := by decide +kernel
theorem dX11_count_104 : decode cX11_count 104 = .ok (.getfield 227, 3) := by decide +kernel
theorem dX11_count_107 : decode cX11_count 107 = .ok (.ireturn, 1) := by decide +kernel
theorem dX11_count_108 : decode cX11_count 108 = .ok (.aload_n 0, 1) := by decide +kernel
theorem dX11_count_109 : decode cX11_count 109 = .ok (.getfield 44, 3) := by decide +kernel
theorem dX11_count_112 : decode cX11_count 112 = .ok (.invokevirtual 166, 3) := by decide +kernel
theorem dX11_count_115 : decode cX11_count 115 = .ok (.ireturn, 1) := by decide +kernel
theorem dX11_count_116 : decode cX11_count 116 = .ok (.aload_n 0, 1) := by decide +kernel
theorem dX11_count_117 : decode cX11_count 117 = .ok (.getfield 44, 3) := by decide +kernel
theorem dX11_count_120 : decode cX11_count 120 = .ok (.aload_n 0, 1) := by decide +kernel
theorem dX11_count_121 : decode cX11_count 121 = .ok (.getfield 44, 3) := by decide +kernel
theorem dX11_count_124 : decode cX11_count 124 = .ok (.getfield 148, 3) := by decide +kernel
theorem dX11_count_127 : decode cX11_count 127 = .ok (.invokevirtual 364, 3) := by decide +kernel
theorem dX11_count_130 : decode cX11_count 130 = .ok (.ireturn, 1) := by decide +kernel
theorem dX11_count_131 : decode cX11_count 131 = .ok (.aload_n 0, 1) := by decide +kernel
theorem dX11_count_132 : decode cX11_count 132 = .ok (.getfield 44, 3) := by decide +kernel
theorem dX11_count_135 : decode cX11_count 135 = .ok (.aload_n 0, 1) := by decide +kernel
theorem dX11_count_136 : decode cX11_count 136 = .ok (.getfield 44, 3) := by decide +kernel
theorem dX11_count_139 : decode cX11_count 139 = .ok (.getfield 160, 3) := by decide +kernel
theorem dX11_count_142 : decode cX11_count 142 = .ok (.invokevirtual 364, 3) := by decide +kernel
theorem dX11_count_145 : decode cX11_count 145 = .ok (.ireturn, 1) := by decide +kernel
theorem dX11_count_146 : decode cX11_count 146 = .ok (.aload_n 0, 1) := by decide +kernel
theorem dX11_count_147 : decode cX11_count 147 = .ok (.getfield 44, 3) := by decide +kernel
theorem dX11_count_150 : decode cX11_count 150 = .ok (.getfield 211, 3) := by decide +kernel
theorem dX11_count_153 : decode cX11_count 153 = .ok (.ireturn, 1) := by decide +kernel
theorem dX11_count_154 : decode cX11_count 154 = .ok (.aload_n 0, 1) := by decide +kernel
theorem dX11_count_155 : decode cX11_count 155 = .ok (.getfield 10, 3) := by decide +kernel
theorem dX11_count_158 : decode cX11_count 158 = .ok (.getfield 104, 3) := by decide +kernel
theorem dX11_count_161 : decode cX11_count 161 = .ok (.ireturn, 1) := by decide +kernel
theorem dX11_count_162 : decode cX11_count 162 = .ok (.aload_n 0, 1) := by decide +kernel
theorem dX11_count_163 : decode cX11_count 163 = .ok (.getfield 51, 3) := by decide +kernel
theorem dX11_count_166 : decode cX11_count 166 = .ok (.getfield 367, 3) := by decide +kernel
theorem dX11_count_169 : decode cX11_count 169 = .ok (.ireturn, 1) := by decide +kernel
theorem dX11_count_170 : decode cX11_count 170 = .ok (.aload_n 0, 1) := by decide +kernel
theorem dX11_count_171 : decode cX11_count 171 = .ok (.getfield 74, 3) := by decide +kernel
theorem dX11_count_174 : decode cX11_count 174 = .ok (.getfield 341, 3) := by decide +kernel
theorem dX11_count_177 : decode cX11_count 177 = .ok (.ireturn, 1) := by decide +kernel
theorem dX11_count_178 : decode cX11_count 178 = .ok (.aload_n 0, 1) := by decide +kernel
theorem dX11_count_179 : decode cX11_count 179 = .ok (.getfield 51, 3) := by decide +kernel
theorem dX11_count_182 : decode cX11_count 182 = .ok (.invokevirtual 370, 3) := by decide +kernel
theorem dX11_count_185 : decode cX11_count 185 = .ok (.ireturn, 1) := by decide +kernel
theorem dX11_count_186 : decode cX11_count 186 = .ok (.aload_n 0, 1) := by decide +kernel
theorem dX11_count_187 : decode cX11_count 187 = .ok (.invokevirtual 373, 3) := by decide +kernel
theorem dX11_count_190 : decode cX11_count 190 = .ok (.ireturn, 1) := by decide +kernel
theorem dX11_count_191 : decode cX11_count 191 = .ok (.aload_n 0, 1) := by decide +kernel
theorem dX11_count_192 : decode cX11_count 192 = .ok (.getfield 58, 3) := by decide +kernel
theorem dX11_count_195 : decode cX11_count 195 = .ok (.aload_n 0, 1) := by decide +kernel
theorem dX11_count_196 : decode cX11_count 196 = .ok (.getfield 81, 3) := by decide +kernel
theorem dX11_count_199 : decode cX11_count 199 = .ok (.aload_n 0, 1) := by decide +kernel
theorem dX11_count_200 : decode cX11_count 200 = .ok (.getfield 44, 3) := by decide +kernel
theorem dX11_count_203 : decode cX11_count 203 = .ok (.getfield 227, 3) := by decide +kernel
theorem dX11_count_206 : decode cX11_count 206 = .ok (.aload_n 0, 1) := by decide +kernel
theorem dX11_count_207 : decode cX11_count 207 = .ok (.getfield 81, 3) := by decide +kernel
theorem dX11_count_210 : decode cX11_count 210 = .ok (.getfield 220, 3) := by decide +kernel
theorem dX11_count_213 : decode cX11_count 213 = .ok (.invokevirtual 376, 3) := by decide +kernel
theorem dX11_count_216 : decode cX11_count 216 = .ok (.ifCond .eq 7, 3) := by decide +kernel
theorem dX11_count_219 : decode cX11_count 219 = .ok (.iconst 1, 1) := by decide +kernel
theorem dX11_count_220 : decode cX11_count 220 = .ok (.goto 4, 3) := by decide +kernel
theorem dX11_count_223 : decode cX11_count 223 = .ok (.iconst 0, 1) := by decide +kernel
theorem dX11_count_224 : decode cX11_count 224 = .ok (.ireturn, 1) := by decide +kernel
theorem dX11_count_225 : decode cX11_count 225 = .ok (.aload_n 0, 1) := by decide +kernel
theorem dX11_count_226 : decode cX11_count 226 = .ok (.getfield 44, 3) := by decide +kernel
theorem dX11_count_229 : decode cX11_count 229 = .ok (.aload_n 0, 1) := by decide +kernel
theorem dX11_count_230 : decode cX11_count 230 = .ok (.getfield 44, 3) := by decide +kernel
theorem dX11_count_233 : decode cX11_count 233 = .ok (.getfield 157, 3) := by decide +kernel
theorem dX11_count_236 : decode cX11_count 236 = .ok (.invokevirtual 364, 3) := by decide +kernel
theorem dX11_count_239 : decode cX11_count 239 = .ok (.ireturn, 1) := by decide +kernel
theorem dX11_count_240 : decode cX11_count 240 = .ok (.iconst (-1), 1) := by decide +kernel
theorem dX11_count_241 : decode cX11_count 241 = .ok (.ireturn, 1) := by decide +kernel
theorem dX11_takeDraft_0 : decode cX11_takeDraft 0 = .ok (.aload_n 0, 1) := by decide +kernel
theorem dX11_takeDraft_1 : decode cX11_takeDraft 1 = .ok (.getfield 81, 3) := by decide +kernel
theorem dX11_takeDraft_4 : decode cX11_takeDraft 4 = .ok (.astore_n 1, 1) := by decide +kernel
theorem dX11_takeDraft_5 : decode cX11_takeDraft 5 = .ok (.aload_n 0, 1) := by decide +kernel
theorem dX11_takeDraft_6 : decode cX11_takeDraft 6 = .ok (.aload_n 0, 1) := by decide +kernel
theorem dX11_takeDraft_7 : decode cX11_takeDraft 7 = .ok (.getfield 85, 3) := by decide +kernel
theorem dX11_takeDraft_10 : decode cX11_takeDraft 10 = .ok (.putfield 81, 3) := by decide +kernel
theorem dX11_takeDraft_13 : decode cX11_takeDraft 13 = .ok (.aload_n 0, 1) := by decide +kernel
theorem dX11_takeDraft_14 : decode cX11_takeDraft 14 = .ok (.aload_n 1, 1) := by decide +kernel
theorem dX11_takeDraft_15 : decode cX11_takeDraft 15 = .ok (.putfield 85, 3) := by decide +kernel
theorem dX11_takeDraft_18 : decode cX11_takeDraft 18 = .ok (.aload_n 0, 1) := by decide +kernel
theorem dX11_takeDraft_19 : decode cX11_takeDraft 19 = .ok (.getfield 44, 3) := by decide +kernel
theorem dX11_takeDraft_22 : decode cX11_takeDraft 22 = .ok (.aload_n 0, 1) := by decide +kernel
theorem dX11_takeDraft_23 : decode cX11_takeDraft 23 = .ok (.getfield 81, 3) := by decide +kernel
theorem dX11_takeDraft_26 : decode cX11_takeDraft 26 = .ok (.invokevirtual 92, 3) := by decide +kernel
theorem dX11_takeDraft_29 : decode cX11_takeDraft 29 = .ok (.aload_n 0, 1) := by decide +kernel
theorem dX11_takeDraft_30 : decode cX11_takeDraft 30 = .ok (.getfield 51, 3) := by decide +kernel
theorem dX11_takeDraft_33 : decode cX11_takeDraft 33 = .ok (.invokevirtual 380, 3) := by decide +kernel
theorem dX11_takeDraft_36 : decode cX11_takeDraft 36 = .ok (.aload_n 0, 1) := by decide +kernel
theorem dX11_takeDraft_37 : decode cX11_takeDraft 37 = .ok (.getfield 74, 3) := by decide +kernel
theorem dX11_takeDraft_40 : decode cX11_takeDraft 40 = .ok (.iconst 0, 1) := by decide +kernel
theorem dX11_takeDraft_41 : decode cX11_takeDraft 41 = .ok (.putfield 341, 3) := by decide +kernel
theorem dX11_takeDraft_44 : decode cX11_takeDraft 44 = .ok (.return_, 1) := by decide +kernel
theorem dX11_isHouse_0 : decode cX11_isHouse 0 = .ok (.iload_n 1, 1) := by decide +kernel
theorem dX11_isHouse_1 : decode cX11_isHouse 1 = .ok (.ifCond .lt 18, 3) := by decide +kernel
theorem dX11_isHouse_4 : decode cX11_isHouse 4 = .ok (.iload_n 1, 1) := by decide +kernel
theorem dX11_isHouse_5 : decode cX11_isHouse 5 = .ok (.aload_n 0, 1) := by decide +kernel
theorem dX11_isHouse_6 : decode cX11_isHouse 6 = .ok (.getfield 81, 3) := by decide +kernel
theorem dX11_isHouse_9 : decode cX11_isHouse 9 = .ok (.getfield 241, 3) := by decide +kernel
theorem dX11_isHouse_12 : decode cX11_isHouse 12 = .ok (.if_icmp .ge 7, 3) := by decide +kernel
theorem dX11_isHouse_15 : decode cX11_isHouse 15 = .ok (.iconst 1, 1) := by decide +kernel
theorem dX11_isHouse_16 : decode cX11_isHouse 16 = .ok (.goto 4, 3) := by decide +kernel
theorem dX11_isHouse_19 : decode cX11_isHouse 19 = .ok (.iconst 0, 1) := by decide +kernel
theorem dX11_isHouse_20 : decode cX11_isHouse 20 = .ok (.ireturn, 1) := by decide +kernel
theorem dX11_isByHand_0 : decode cX11_isByHand 0 = .ok (.iload_n 1, 1) := by decide +kernel
theorem dX11_isByHand_1 : decode cX11_isByHand 1 = .ok (.iconst 1, 1) := by decide +kernel
theorem dX11_isByHand_2 : decode cX11_isByHand 2 = .ok (.if_icmp .lt 13, 3) := by decide +kernel
theorem dX11_isByHand_5 : decode cX11_isByHand 5 = .ok (.iload_n 1, 1) := by decide +kernel
theorem dX11_isByHand_6 : decode cX11_isByHand 6 = .ok (.bipush 99, 2) := by decide +kernel
theorem dX11_isByHand_8 : decode cX11_isByHand 8 = .ok (.if_icmp .gt 7, 3) := by decide +kernel
theorem dX11_isByHand_11 : decode cX11_isByHand 11 = .ok (.iconst 1, 1) := by decide +kernel
theorem dX11_isByHand_12 : decode cX11_isByHand 12 = .ok (.goto 4, 3) := by decide +kernel
theorem dX11_isByHand_15 : decode cX11_isByHand 15 = .ok (.iconst 0, 1) := by decide +kernel
theorem dX11_isByHand_16 : decode cX11_isByHand 16 = .ok (.ireturn, 1) := by decide +kernel
theorem dX11_isSpan_0 : decode cX11_isSpan 0 = .ok (.iload_n 1, 1) := by decide +kernel
theorem dX11_isSpan_1 : decode cX11_isSpan 1 = .ok (.ifCond .lt 13, 3) := by decide +kernel
theorem dX11_isSpan_4 : decode cX11_isSpan 4 = .ok (.iload_n 1, 1) := by decide +kernel
theorem dX11_isSpan_5 : decode cX11_isSpan 5 = .ok (.bipush 60, 2) := by decide +kernel
theorem dX11_isSpan_7 : decode cX11_isSpan 7 = .ok (.if_icmp .gt 7, 3) := by decide +kernel
theorem dX11_isSpan_10 : decode cX11_isSpan 10 = .ok (.iconst 1, 1) := by decide +kernel
theorem dX11_isSpan_11 : decode cX11_isSpan 11 = .ok (.goto 4, 3) := by decide +kernel
theorem dX11_isSpan_14 : decode cX11_isSpan 14 = .ok (.iconst 0, 1) := by decide +kernel
theorem dX11_isSpan_15 : decode cX11_isSpan 15 = .ok (.ireturn, 1) := by decide +kernel
theorem dX11_isLook_0 : decode cX11_isLook 0 = .ok (.iload_n 1, 1) := by decide +kernel
theorem dX11_isLook_1 : decode cX11_isLook 1 = .ok (.ifCond .lt 13, 3) := by decide +kernel
theorem dX11_isLook_4 : decode cX11_isLook 4 = .ok (.iload_n 1, 1) := by decide +kernel
theorem dX11_isLook_5 : decode cX11_isLook 5 = .ok (.bipush 24, 2) := by decide +kernel
theorem dX11_isLook_7 : decode cX11_isLook 7 = .ok (.if_icmp .gt 7, 3) := by decide +kernel
theorem dX11_isLook_10 : decode cX11_isLook 10 = .ok (.iconst 1, 1) := by decide +kernel
theorem dX11_isLook_11 : decode cX11_isLook 11 = .ok (.goto 4, 3) := by decide +kernel
theorem dX11_isLook_14 : decode cX11_isLook 14 = .ok (.iconst 0, 1) := by decide +kernel
theorem dX11_isLook_15 : decode cX11_isLook 15 = .ok (.ireturn, 1) := by decide +kernel
theorem dX11_isFirstOrSecond_0 : decode cX11_isFirstOrSecond 0 = .ok (.iload_n 1, 1) := by decide +kernel
theorem dX11_isFirstOrSecond_1 : decode cX11_isFirstOrSecond 1 = .ok (.ifCond .eq 8, 3) := by decide +kernel
theorem dX11_isFirstOrSecond_4 : decode cX11_isFirstOrSecond 4 = .ok (.iload_n 1, 1) := by decide +kernel
theorem dX11_isFirstOrSecond_5 : decode cX11_isFirstOrSecond 5 = .ok (.iconst 1, 1) := by decide +kernel
theorem dX11_isFirstOrSecond_6 : decode cX11_isFirstOrSecond 6 = .ok (.if_icmp .ne 7, 3) := by decide +kernel
theorem dX11_isFirstOrSecond_9 : decode cX11_isFirstOrSecond 9 = .ok (.iconst 1, 1) := by decide +kernel
theorem dX11_isFirstOrSecond_10 : decode cX11_isFirstOrSecond 10 = .ok (.goto 4, 3) := by decide +kernel
theorem dX11_isFirstOrSecond_13 : decode cX11_isFirstOrSecond 13 = .ok (.iconst 0, 1) := by decide +kernel
theorem dX11_isFirstOrSecond_14 : decode cX11_isFirstOrSecond 14 = .ok (.ireturn, 1) := by decide +kernel
theorem dX11_isDeal_0 : decode cX11_isDeal 0 = .ok (.aload_n 0, 1) := by decide +kernel
theorem dX11_isDeal_1 : decode cX11_isDeal 1 = .ok (.getfield 44, 3) := by decide +kernel
theorem dX11_isDeal_4 : decode cX11_isDeal 4 = .ok (.getfield 144, 3) := by decide +kernel
theorem dX11_isDeal_7 : decode cX11_isDeal 7 = .ok (.iload_n 1, 1) := by decide +kernel
theorem dX11_isDeal_8 : decode cX11_isDeal 8 = .ok (.iaload, 1) := by decide +kernel
theorem dX11_isDeal_9 : decode cX11_isDeal 9 = .ok (.ifCond .le 54, 3) := by decide +kernel
theorem dX11_isDeal_12 : decode cX11_isDeal 12 = .ok (.aload_n 0, 1) := by decide +kernel
theorem dX11_isDeal_13 : decode cX11_isDeal 13 = .ok (.getfield 44, 3) := by decide +kernel
theorem dX11_isDeal_16 : decode cX11_isDeal 16 = .ok (.getfield 148, 3) := by decide +kernel
theorem dX11_isDeal_19 : decode cX11_isDeal 19 = .ok (.iload_n 1, 1) := by decide +kernel
theorem dX11_isDeal_20 : decode cX11_isDeal 20 = .ok (.iaload, 1) := by decide +kernel
theorem dX11_isDeal_21 : decode cX11_isDeal 21 = .ok (.iload_n 3, 1) := by decide +kernel
theorem dX11_isDeal_22 : decode cX11_isDeal 22 = .ok (.if_icmp .ge 41, 3) := by decide +kernel
theorem dX11_isDeal_25 : decode cX11_isDeal 25 = .ok (.aload_n 0, 1) := by decide +kernel
theorem dX11_isDeal_26 : decode cX11_isDeal 26 = .ok (.getfield 44, 3) := by decide +kernel
theorem dX11_isDeal_29 : decode cX11_isDeal 29 = .ok (.getfield 148, 3) := by decide +kernel
theorem dX11_isDeal_32 : decode cX11_isDeal 32 = .ok (.iload_n 2, 1) := by decide +kernel
theorem dX11_isDeal_33 : decode cX11_isDeal 33 = .ok (.iaload, 1) := by decide +kernel
theorem dX11_isDeal_34 : decode cX11_isDeal 34 = .ok (.iload_n 3, 1) := by decide +kernel
theorem dX11_isDeal_35 : decode cX11_isDeal 35 = .ok (.if_icmp .lt 28, 3) := by decide +kernel
theorem dX11_isDeal_38 : decode cX11_isDeal 38 = .ok (.aload_n 0, 1) := by decide +kernel
theorem dX11_isDeal_39 : decode cX11_isDeal 39 = .ok (.getfield 81, 3) := by decide +kernel
theorem dX11_isDeal_42 : decode cX11_isDeal 42 = .ok (.getfield 151, 3) := by decide +kernel
theorem dX11_isDeal_45 : decode cX11_isDeal 45 = .ok (.iload_n 2, 1) := by decide +kernel
theorem dX11_isDeal_46 : decode cX11_isDeal 46 = .ok (.iaload, 1) := by decide +kernel
theorem dX11_isDeal_47 : decode cX11_isDeal 47 = .ok (.aload_n 0, 1) := by decide +kernel
theorem dX11_isDeal_48 : decode cX11_isDeal 48 = .ok (.getfield 81, 3) := by decide +kernel
theorem dX11_isDeal_51 : decode cX11_isDeal 51 = .ok (.getfield 151, 3) := by decide +kernel
theorem dX11_isDeal_54 : decode cX11_isDeal 54 = .ok (.iload_n 1, 1) := by decide +kernel
theorem dX11_isDeal_55 : decode cX11_isDeal 55 = .ok (.iaload, 1) := by decide +kernel
theorem dX11_isDeal_56 : decode cX11_isDeal 56 = .ok (.if_icmp .le 7, 3) := by decide +kernel
theorem dX11_isDeal_59 : decode cX11_isDeal 59 = .ok (.iconst 1, 1) := by decide +kernel
theorem dX11_isDeal_60 : decode cX11_isDeal 60 = .ok (.goto 4, 3) := by decide +kernel
theorem dX11_isDeal_63 : decode cX11_isDeal 63 = .ok (.iconst 0, 1) := by decide +kernel
theorem dX11_isDeal_64 : decode cX11_isDeal 64 = .ok (.ireturn, 1) := by decide +kernel
theorem dX11_votesHad_0 : decode cX11_votesHad 0 = .ok (.aload_n 0, 1) := by decide +kernel
theorem dX11_votesHad_1 : decode cX11_votesHad 1 = .ok (.getfield 67, 3) := by decide +kernel
theorem dX11_votesHad_4 : decode cX11_votesHad 4 = .ok (.aload_n 0, 1) := by decide +kernel
theorem dX11_votesHad_5 : decode cX11_votesHad 5 = .ok (.getfield 81, 3) := by decide +kernel
theorem dX11_votesHad_8 : decode cX11_votesHad 8 = .ok (.aload_n 0, 1) := by decide +kernel
theorem dX11_votesHad_9 : decode cX11_votesHad 9 = .ok (.getfield 44, 3) := by decide +kernel
theorem dX11_votesHad_12 : decode cX11_votesHad 12 = .ok (.invokevirtual 260, 3) := by decide +kernel
theorem dX11_votesHad_15 : decode cX11_votesHad 15 = .ok (.aload_n 0, 1) := by decide +kernel
theorem dX11_votesHad_16 : decode cX11_votesHad 16 = .ok (.getfield 67, 3) := by decide +kernel
theorem dX11_votesHad_19 : decode cX11_votesHad 19 = .ok (.getfield 279, 3) := by decide +kernel
theorem dX11_votesHad_22 : decode cX11_votesHad 22 = .ok (.iload_n 1, 1) := by decide +kernel
theorem dX11_votesHad_23 : decode cX11_votesHad 23 = .ok (.iaload, 1) := by decide +kernel
theorem dX11_votesHad_24 : decode cX11_votesHad 24 = .ok (.ireturn, 1) := by decide +kernel
theorem dX11_allVotes_0 : decode cX11_allVotes 0 = .ok (.aload_n 0, 1) := by decide +kernel
theorem dX11_allVotes_1 : decode cX11_allVotes 1 = .ok (.getfield 67, 3) := by decide +kernel
theorem dX11_allVotes_4 : decode cX11_allVotes 4 = .ok (.aload_n 0, 1) := by decide +kernel
theorem dX11_allVotes_5 : decode cX11_allVotes 5 = .ok (.getfield 81, 3) := by decide +kernel
theorem dX11_allVotes_8 : decode cX11_allVotes 8 = .ok (.aload_n 0, 1) := by decide +kernel
theorem dX11_allVotes_9 : decode cX11_allVotes 9 = .ok (.getfield 44, 3) := by decide +kernel
theorem dX11_allVotes_12 : decode cX11_allVotes 12 = .ok (.invokevirtual 260, 3) := by decide +kernel
theorem dX11_allVotes_15 : decode cX11_allVotes 15 = .ok (.aload_n 0, 1) := by decide +kernel
theorem dX11_allVotes_16 : decode cX11_allVotes 16 = .ok (.getfield 67, 3) := by decide +kernel
theorem dX11_allVotes_19 : decode cX11_allVotes 19 = .ok (.getfield 301, 3) := by decide +kernel
theorem dX11_allVotes_22 : decode cX11_allVotes 22 = .ok (.ireturn, 1) := by decide +kernel
theorem dX11_divisor_0 : decode cX11_divisor 0 = .ok (.iload_n 0, 1) := by decide +kernel
theorem dX11_divisor_1 : decode cX11_divisor 1 = .ok (.iload_n 1, 1) := by decide +kernel
theorem dX11_divisor_2 : decode cX11_divisor 2 = .ok (.invokestatic 286, 3) := by decide +kernel
theorem dX11_divisor_5 : decode cX11_divisor 5 = .ok (.istore_n 2, 1) := by decide +kernel
theorem dX11_divisor_6 : decode cX11_divisor 6 = .ok (.iload_n 0, 1) := by decide +kernel
theorem dX11_divisor_7 : decode cX11_divisor 7 = .ok (.iload_n 1, 1) := by decide +kernel
theorem dX11_divisor_8 : decode cX11_divisor 8 = .ok (.invokestatic 381, 3) := by decide +kernel
theorem dX11_divisor_11 : decode cX11_divisor 11 = .ok (.istore_n 3, 1) := by decide +kernel
theorem dX11_divisor_12 : decode cX11_divisor 12 = .ok (.iconst 0, 1) := by decide +kernel
theorem dX11_divisor_13 : decode cX11_divisor 13 = .ok (.istore 4, 2) := by decide +kernel
theorem dX11_divisor_15 : decode cX11_divisor 15 = .ok (.iload 4, 2) := by decide +kernel
theorem dX11_divisor_17 : decode cX11_divisor 17 = .ok (.bipush 64, 2) := by decide +kernel
theorem dX11_divisor_19 : decode cX11_divisor 19 = .ok (.if_icmp .ge 23, 3) := by decide +kernel
theorem dX11_divisor_22 : decode cX11_divisor 22 = .ok (.iload_n 3, 1) := by decide +kernel
theorem dX11_divisor_23 : decode cX11_divisor 23 = .ok (.ifCond .le 19, 3) := by decide +kernel
theorem dX11_divisor_26 : decode cX11_divisor 26 = .ok (.iload_n 2, 1) := by decide +kernel
theorem dX11_divisor_27 : decode cX11_divisor 27 = .ok (.iload_n 3, 1) := by decide +kernel
theorem dX11_divisor_28 : decode cX11_divisor 28 = .ok (.irem, 1) := by decide +kernel
theorem dX11_divisor_29 : decode cX11_divisor 29 = .ok (.istore 5, 2) := by decide +kernel
theorem dX11_divisor_31 : decode cX11_divisor 31 = .ok (.iload_n 3, 1) := by decide +kernel
theorem dX11_divisor_32 : decode cX11_divisor 32 = .ok (.istore_n 2, 1) := by decide +kernel
theorem dX11_divisor_33 : decode cX11_divisor 33 = .ok (.iload 5, 2) := by decide +kernel
theorem dX11_divisor_35 : decode cX11_divisor 35 = .ok (.istore_n 3, 1) := by decide +kernel
theorem dX11_divisor_36 : decode cX11_divisor 36 = .ok (.iinc 4 1, 3) := by decide +kernel
theorem dX11_divisor_39 : decode cX11_divisor 39 = .ok (.goto (-24), 3) := by decide +kernel
theorem dX11_divisor_42 : decode cX11_divisor 42 = .ok (.iload_n 2, 1) := by decide +kernel
theorem dX11_divisor_43 : decode cX11_divisor 43 = .ok (.ireturn, 1) := by decide +kernel
