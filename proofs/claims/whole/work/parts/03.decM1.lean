theorem dX12_ownVotes_13 : decode cX12_ownVotes 13 = .ok (.invokevirtual 339, 3) := by decide +kernel
theorem dX12_ownVotes_16 : decode cX12_ownVotes 16 = .ok (.iconst 0, 1) := by decide +kernel
theorem dX12_ownVotes_17 : decode cX12_ownVotes 17 = .ok (.sipush 999, 3) := by decide +kernel
theorem dX12_ownVotes_20 : decode cX12_ownVotes 20 = .ok (.invokestatic 342, 3) := by decide +kernel
theorem dX12_ownVotes_23 : decode cX12_ownVotes 23 = .ok (.ireturn, 1) := by decide +kernel
theorem dX12_rotsNow_0 : decode cX12_rotsNow 0 = .ok (.aload_n 0, 1) := by decide +kernel
theorem dX12_rotsNow_1 : decode cX12_rotsNow 1 = .ok (.iload_n 1, 1) := by decide +kernel
theorem dX12_rotsNow_2 : decode cX12_rotsNow 2 = .ok (.invokevirtual 345, 3) := by decide +kernel
theorem dX12_rotsNow_5 : decode cX12_rotsNow 5 = .ok (.aload_n 0, 1) := by decide +kernel
theorem dX12_rotsNow_6 : decode cX12_rotsNow 6 = .ok (.iconst 4, 1) := by decide +kernel
theorem dX12_rotsNow_7 : decode cX12_rotsNow 7 = .ok (.iconst 0, 1) := by decide +kernel
theorem dX12_rotsNow_8 : decode cX12_rotsNow 8 = .ok (.invokevirtual 339, 3) := by decide +kernel
theorem dX12_rotsNow_11 : decode cX12_rotsNow 11 = .ok (.iconst 0, 1) := by decide +kernel
theorem dX12_rotsNow_12 : decode cX12_rotsNow 12 = .ok (.aload_n 0, 1) := by decide +kernel
theorem dX12_rotsNow_13 : decode cX12_rotsNow 13 = .ok (.getfield 122, 3) := by decide +kernel
theorem dX12_rotsNow_16 : decode cX12_rotsNow 16 = .ok (.iload_n 1, 1) := by decide +kernel
theorem dX12_rotsNow_17 : decode cX12_rotsNow 17 = .ok (.iaload, 1) := by decide +kernel
theorem dX12_rotsNow_18 : decode cX12_rotsNow 18 = .ok (.aload_n 0, 1) := by decide +kernel
theorem dX12_rotsNow_19 : decode cX12_rotsNow 19 = .ok (.getfield 122, 3) := by decide +kernel
theorem dX12_rotsNow_22 : decode cX12_rotsNow 22 = .ok (.bipush 14, 2) := by decide +kernel
theorem dX12_rotsNow_24 : decode cX12_rotsNow 24 = .ok (.iload_n 1, 1) := by decide +kernel
theorem dX12_rotsNow_25 : decode cX12_rotsNow 25 = .ok (.iadd, 1) := by decide +kernel
theorem dX12_rotsNow_26 : decode cX12_rotsNow 26 = .ok (.iaload, 1) := by decide +kernel
theorem dX12_rotsNow_27 : decode cX12_rotsNow 27 = .ok (.isub, 1) := by decide +kernel
theorem dX12_rotsNow_28 : decode cX12_rotsNow 28 = .ok (.invokestatic 342, 3) := by decide +kernel
theorem dX12_rotsNow_31 : decode cX12_rotsNow 31 = .ok (.ireturn, 1) := by decide +kernel
theorem dX12_eatsUp_0 : decode cX12_eatsUp 0 = .ok (.aload_n 0, 1) := by decide +kernel
theorem dX12_eatsUp_1 : decode cX12_eatsUp 1 = .ok (.getfield 122, 3) := by decide +kernel
theorem dX12_eatsUp_4 : decode cX12_eatsUp 4 = .ok (.iload_n 1, 1) := by decide +kernel
theorem dX12_eatsUp_5 : decode cX12_eatsUp 5 = .ok (.dup2, 1) := by decide +kernel
theorem dX12_eatsUp_6 : decode cX12_eatsUp 6 = .ok (.iaload, 1) := by decide +kernel
theorem dX12_eatsUp_7 : decode cX12_eatsUp 7 = .ok (.iload_n 2, 1) := by decide +kernel
theorem dX12_eatsUp_8 : decode cX12_eatsUp 8 = .ok (.isub, 1) := by decide +kernel
theorem dX12_eatsUp_9 : decode cX12_eatsUp 9 = .ok (.iastore, 1) := by decide +kernel
theorem dX12_eatsUp_10 : decode cX12_eatsUp 10 = .ok (.aload_n 0, 1) := by decide +kernel
theorem dX12_eatsUp_11 : decode cX12_eatsUp 11 = .ok (.getfield 122, 3) := by decide +kernel
theorem dX12_eatsUp_14 : decode cX12_eatsUp 14 = .ok (.bipush 21, 2) := by decide +kernel
theorem dX12_eatsUp_16 : decode cX12_eatsUp 16 = .ok (.iload_n 1, 1) := by decide +kernel
theorem dX12_eatsUp_17 : decode cX12_eatsUp 17 = .ok (.iadd, 1) := by decide +kernel
theorem dX12_eatsUp_18 : decode cX12_eatsUp 18 = .ok (.dup2, 1) := by decide +kernel
theorem dX12_eatsUp_19 : decode cX12_eatsUp 19 = .ok (.iaload, 1) := by decide +kernel
theorem dX12_eatsUp_20 : decode cX12_eatsUp 20 = .ok (.iload_n 2, 1) := by decide +kernel
theorem dX12_eatsUp_21 : decode cX12_eatsUp 21 = .ok (.iadd, 1) := by decide +kernel
theorem dX12_eatsUp_22 : decode cX12_eatsUp 22 = .ok (.iastore, 1) := by decide +kernel
theorem dX12_eatsUp_23 : decode cX12_eatsUp 23 = .ok (.aload_n 0, 1) := by decide +kernel
theorem dX12_eatsUp_24 : decode cX12_eatsUp 24 = .ok (.getfield 122, 3) := by decide +kernel
theorem dX12_eatsUp_27 : decode cX12_eatsUp 27 = .ok (.bipush 14, 2) := by decide +kernel
theorem dX12_eatsUp_29 : decode cX12_eatsUp 29 = .ok (.iload_n 1, 1) := by decide +kernel
theorem dX12_eatsUp_30 : decode cX12_eatsUp 30 = .ok (.iadd, 1) := by decide +kernel
theorem dX12_eatsUp_31 : decode cX12_eatsUp 31 = .ok (.iaload, 1) := by decide +kernel
theorem dX12_eatsUp_32 : decode cX12_eatsUp 32 = .ok (.aload_n 0, 1) := by decide +kernel
theorem dX12_eatsUp_33 : decode cX12_eatsUp 33 = .ok (.getfield 122, 3) := by decide +kernel
theorem dX12_eatsUp_36 : decode cX12_eatsUp 36 = .ok (.iload_n 1, 1) := by decide +kernel
theorem dX12_eatsUp_37 : decode cX12_eatsUp 37 = .ok (.iaload, 1) := by decide +kernel
theorem dX12_eatsUp_38 : decode cX12_eatsUp 38 = .ok (.if_icmp .le 18, 3) := by decide +kernel
theorem dX12_eatsUp_41 : decode cX12_eatsUp 41 = .ok (.aload_n 0, 1) := by decide +kernel
theorem dX12_eatsUp_42 : decode cX12_eatsUp 42 = .ok (.getfield 122, 3) := by decide +kernel
theorem dX12_eatsUp_45 : decode cX12_eatsUp 45 = .ok (.bipush 14, 2) := by decide +kernel
theorem dX12_eatsUp_47 : decode cX12_eatsUp 47 = .ok (.iload_n 1, 1) := by decide +kernel
theorem dX12_eatsUp_48 : decode cX12_eatsUp 48 = .ok (.iadd, 1) := by decide +kernel
theorem dX12_eatsUp_49 : decode cX12_eatsUp 49 = .ok (.aload_n 0, 1) := by decide +kernel
theorem dX12_eatsUp_50 : decode cX12_eatsUp 50 = .ok (.getfield 122, 3) := by decide +kernel
theorem dX12_eatsUp_53 : decode cX12_eatsUp 53 = .ok (.iload_n 1, 1) := by decide +kernel
theorem dX12_eatsUp_54 : decode cX12_eatsUp 54 = .ok (.iaload, 1) := by decide +kernel
theorem dX12_eatsUp_55 : decode cX12_eatsUp 55 = .ok (.iastore, 1) := by decide +kernel
theorem dX12_eatsUp_56 : decode cX12_eatsUp 56 = .ok (.return_, 1) := by decide +kernel
theorem dX12_dayGoes_0 : decode cX12_dayGoes 0 = .ok (.aload_n 0, 1) := by decide +kernel
theorem dX12_dayGoes_1 : decode cX12_dayGoes 1 = .ok (.invokevirtual 348, 3) := by decide +kernel
theorem dX12_dayGoes_4 : decode cX12_dayGoes 4 = .ok (.istore_n 1, 1) := by decide +kernel
theorem dX12_dayGoes_5 : decode cX12_dayGoes 5 = .ok (.iconst 0, 1) := by decide +kernel
theorem dX12_dayGoes_6 : decode cX12_dayGoes 6 = .ok (.istore_n 2, 1) := by decide +kernel
theorem dX12_dayGoes_7 : decode cX12_dayGoes 7 = .ok (.iload_n 2, 1) := by decide +kernel
theorem dX12_dayGoes_8 : decode cX12_dayGoes 8 = .ok (.aload_n 0, 1) := by decide +kernel
theorem dX12_dayGoes_9 : decode cX12_dayGoes 9 = .ok (.getfield 46, 3) := by decide +kernel
theorem dX12_dayGoes_12 : decode cX12_dayGoes 12 = .ok (.aload_n 0, 1) := by decide +kernel
theorem dX12_dayGoes_13 : decode cX12_dayGoes 13 = .ok (.getfield 233, 3) := by decide +kernel
theorem dX12_dayGoes_16 : decode cX12_dayGoes 16 = .ok (.iaload, 1) := by decide +kernel
theorem dX12_dayGoes_17 : decode cX12_dayGoes 17 = .ok (.if_icmp .ge 39, 3) := by decide +kernel
theorem dX12_dayGoes_20 : decode cX12_dayGoes 20 = .ok (.aload_n 0, 1) := by decide +kernel
theorem dX12_dayGoes_21 : decode cX12_dayGoes 21 = .ok (.getfield 125, 3) := by decide +kernel
theorem dX12_dayGoes_24 : decode cX12_dayGoes 24 = .ok (.iload_n 2, 1) := by decide +kernel
theorem dX12_dayGoes_25 : decode cX12_dayGoes 25 = .ok (.aload_n 0, 1) := by decide +kernel
theorem dX12_dayGoes_26 : decode cX12_dayGoes 26 = .ok (.iload_n 2, 1) := by decide +kernel
theorem dX12_dayGoes_27 : decode cX12_dayGoes 27 = .ok (.invokevirtual 352, 3) := by decide +kernel
theorem dX12_dayGoes_30 : decode cX12_dayGoes 30 = .ok (.iastore, 1) := by decide +kernel
theorem dX12_dayGoes_31 : decode cX12_dayGoes 31 = .ok (.aload_n 0, 1) := by decide +kernel
theorem dX12_dayGoes_32 : decode cX12_dayGoes 32 = .ok (.getfield 128, 3) := by decide +kernel
theorem dX12_dayGoes_35 : decode cX12_dayGoes 35 = .ok (.iload_n 2, 1) := by decide +kernel
theorem dX12_dayGoes_36 : decode cX12_dayGoes 36 = .ok (.iload_n 1, 1) := by decide +kernel
theorem dX12_dayGoes_37 : decode cX12_dayGoes 37 = .ok (.ifCond .eq 11, 3) := by decide +kernel
theorem dX12_dayGoes_40 : decode cX12_dayGoes 40 = .ok (.aload_n 0, 1) := by decide +kernel
theorem dX12_dayGoes_41 : decode cX12_dayGoes 41 = .ok (.iload_n 2, 1) := by decide +kernel
theorem dX12_dayGoes_42 : decode cX12_dayGoes 42 = .ok (.invokevirtual 355, 3) := by decide +kernel
theorem dX12_dayGoes_45 : decode cX12_dayGoes 45 = .ok (.goto 4, 3) := by decide +kernel
theorem dX12_dayGoes_48 : decode cX12_dayGoes 48 = .ok (.iconst 0, 1) := by decide +kernel
theorem dX12_dayGoes_49 : decode cX12_dayGoes 49 = .ok (.iastore, 1) := by decide +kernel
theorem dX12_dayGoes_50 : decode cX12_dayGoes 50 = .ok (.iinc 2 1, 3) := by decide +kernel
theorem dX12_dayGoes_53 : decode cX12_dayGoes 53 = .ok (.goto (-46), 3) := by decide +kernel
theorem dX12_dayGoes_56 : decode cX12_dayGoes 56 = .ok (.iconst 0, 1) := by decide +kernel
theorem dX12_dayGoes_57 : decode cX12_dayGoes 57 = .ok (.istore_n 2, 1) := by decide +kernel
theorem dX12_dayGoes_58 : decode cX12_dayGoes 58 = .ok (.iload_n 2, 1) := by decide +kernel
theorem dX12_dayGoes_59 : decode cX12_dayGoes 59 = .ok (.aload_n 0, 1) := by decide +kernel
theorem dX12_dayGoes_60 : decode cX12_dayGoes 60 = .ok (.getfield 46, 3) := by decide +kernel
theorem dX12_dayGoes_63 : decode cX12_dayGoes 63 = .ok (.aload_n 0, 1) := by decide +kernel
theorem dX12_dayGoes_64 : decode cX12_dayGoes 64 = .ok (.getfield 233, 3) := by decide +kernel
theorem dX12_dayGoes_67 : decode cX12_dayGoes 67 = .ok (.iaload, 1) := by decide +kernel
theorem dX12_dayGoes_68 : decode cX12_dayGoes 68 = .ok (.if_icmp .ge 20, 3) := by decide +kernel
theorem dX12_dayGoes_71 : decode cX12_dayGoes 71 = .ok (.aload_n 0, 1) := by decide +kernel
theorem dX12_dayGoes_72 : decode cX12_dayGoes 72 = .ok (.iload_n 2, 1) := by decide +kernel
theorem dX12_dayGoes_73 : decode cX12_dayGoes 73 = .ok (.aload_n 0, 1) := by decide +kernel
theorem dX12_dayGoes_74 : decode cX12_dayGoes 74 = .ok (.getfield 125, 3) := by decide +kernel
theorem dX12_dayGoes_77 : decode cX12_dayGoes 77 = .ok (.iload_n 2, 1) := by decide +kernel
theorem dX12_dayGoes_78 : decode cX12_dayGoes 78 = .ok (.iaload, 1) := by decide +kernel
theorem dX12_dayGoes_79 : decode cX12_dayGoes 79 = .ok (.invokevirtual 358, 3) := by decide +kernel
theorem dX12_dayGoes_82 : decode cX12_dayGoes 82 = .ok (.iinc 2 1, 3) := by decide +kernel
theorem dX12_dayGoes_85 : decode cX12_dayGoes 85 = .ok (.goto (-27), 3) := by decide +kernel
theorem dX12_dayGoes_88 : decode cX12_dayGoes 88 = .ok (.iconst 0, 1) := by decide +kernel
theorem dX12_dayGoes_89 : decode cX12_dayGoes 89 = .ok (.istore_n 2, 1) := by decide +kernel
theorem dX12_dayGoes_90 : decode cX12_dayGoes 90 = .ok (.iload_n 2, 1) := by decide +kernel
theorem dX12_dayGoes_91 : decode cX12_dayGoes 91 = .ok (.aload_n 0, 1) := by decide +kernel
theorem dX12_dayGoes_92 : decode cX12_dayGoes 92 = .ok (.getfield 46, 3) := by decide +kernel
theorem dX12_dayGoes_95 : decode cX12_dayGoes 95 = .ok (.aload_n 0, 1) := by decide +kernel
theorem dX12_dayGoes_96 : decode cX12_dayGoes 96 = .ok (.getfield 233, 3) := by decide +kernel
theorem dX12_dayGoes_99 : decode cX12_dayGoes 99 = .ok (.iaload, 1) := by decide +kernel
theorem dX12_dayGoes_100 : decode cX12_dayGoes 100 = .ok (.if_icmp .ge 20, 3) := by decide +kernel
theorem dX12_dayGoes_103 : decode cX12_dayGoes 103 = .ok (.aload_n 0, 1) := by decide +kernel
theorem dX12_dayGoes_104 : decode cX12_dayGoes 104 = .ok (.getfield 131, 3) := by decide +kernel
theorem dX12_dayGoes_107 : decode cX12_dayGoes 107 = .ok (.iload_n 2, 1) := by decide +kernel
theorem dX12_dayGoes_108 : decode cX12_dayGoes 108 = .ok (.aload_n 0, 1) := by decide +kernel
theorem dX12_dayGoes_109 : decode cX12_dayGoes 109 = .ok (.iload_n 2, 1) := by decide +kernel
theorem dX12_dayGoes_110 : decode cX12_dayGoes 110 = .ok (.invokevirtual 361, 3) := by decide +kernel
theorem dX12_dayGoes_113 : decode cX12_dayGoes 113 = .ok (.iastore, 1) := by decide +kernel
theorem dX12_dayGoes_114 : decode cX12_dayGoes 114 = .ok (.iinc 2 1, 3) := by decide +kernel
theorem dX12_dayGoes_117 : decode cX12_dayGoes 117 = .ok (.goto (-27), 3) := by decide +kernel
theorem dX12_dayGoes_120 : decode cX12_dayGoes 120 = .ok (.iconst 0, 1) := by decide +kernel
theorem dX12_dayGoes_121 : decode cX12_dayGoes 121 = .ok (.istore_n 2, 1) := by decide +kernel
theorem dX12_dayGoes_122 : decode cX12_dayGoes 122 = .ok (.iload_n 2, 1) := by decide +kernel
theorem dX12_dayGoes_123 : decode cX12_dayGoes 123 = .ok (.aload_n 0, 1) := by decide +kernel
theorem dX12_dayGoes_124 : decode cX12_dayGoes 124 = .ok (.getfield 46, 3) := by decide +kernel
theorem dX12_dayGoes_127 : decode cX12_dayGoes 127 = .ok (.aload_n 0, 1) := by decide +kernel
theorem dX12_dayGoes_128 : decode cX12_dayGoes 128 = .ok (.getfield 233, 3) := by decide +kernel
theorem dX12_dayGoes_131 : decode cX12_dayGoes 131 = .ok (.iaload, 1) := by decide +kernel
theorem dX12_dayGoes_132 : decode cX12_dayGoes 132 = .ok (.if_icmp .ge 42, 3) := by decide +kernel
theorem dX12_dayGoes_135 : decode cX12_dayGoes 135 = .ok (.aload_n 0, 1) := by decide +kernel
theorem dX12_dayGoes_136 : decode cX12_dayGoes 136 = .ok (.getfield 122, 3) := by decide +kernel
theorem dX12_dayGoes_139 : decode cX12_dayGoes 139 = .ok (.iload_n 2, 1) := by decide +kernel
theorem dX12_dayGoes_140 : decode cX12_dayGoes 140 = .ok (.aload_n 0, 1) := by decide +kernel
theorem dX12_dayGoes_141 : decode cX12_dayGoes 141 = .ok (.getfield 122, 3) := by decide +kernel
theorem dX12_dayGoes_144 : decode cX12_dayGoes 144 = .ok (.iload_n 2, 1) := by decide +kernel
theorem dX12_dayGoes_145 : decode cX12_dayGoes 145 = .ok (.iaload, 1) := by decide +kernel
theorem dX12_dayGoes_146 : decode cX12_dayGoes 146 = .ok (.aload_n 0, 1) := by decide +kernel
theorem dX12_dayGoes_147 : decode cX12_dayGoes 147 = .ok (.getfield 131, 3) := by decide +kernel
theorem dX12_dayGoes_150 : decode cX12_dayGoes 150 = .ok (.iload_n 2, 1) := by decide +kernel
theorem dX12_dayGoes_151 : decode cX12_dayGoes 151 = .ok (.iaload, 1) := by decide +kernel
theorem dX12_dayGoes_152 : decode cX12_dayGoes 152 = .ok (.isub, 1) := by decide +kernel
theorem dX12_dayGoes_153 : decode cX12_dayGoes 153 = .ok (.aload_n 0, 1) := by decide +kernel
theorem dX12_dayGoes_154 : decode cX12_dayGoes 154 = .ok (.getfield 128, 3) := by decide +kernel
theorem dX12_dayGoes_157 : decode cX12_dayGoes 157 = .ok (.iload_n 2, 1) := by decide +kernel
theorem dX12_dayGoes_158 : decode cX12_dayGoes 158 = .ok (.iaload, 1) := by decide +kernel
theorem dX12_dayGoes_159 : decode cX12_dayGoes 159 = .ok (.iadd, 1) := by decide +kernel
theorem dX12_dayGoes_160 : decode cX12_dayGoes 160 = .ok (.iconst 0, 1) := by decide +kernel
theorem dX12_dayGoes_161 : decode cX12_dayGoes 161 = .ok (.sipush 9999, 3) := by decide +kernel
theorem dX12_dayGoes_164 : decode cX12_dayGoes 164 = .ok (.invokestatic 342, 3) := by decide +kernel
theorem dX12_dayGoes_167 : decode cX12_dayGoes 167 = .ok (.iastore, 1) := by decide +kernel
theorem dX12_dayGoes_168 : decode cX12_dayGoes 168 = .ok (.iinc 2 1, 3) := by decide +kernel
theorem dX12_dayGoes_171 : decode cX12_dayGoes 171 = .ok (.goto (-49), 3) := by decide +kernel
theorem dX12_dayGoes_174 : decode cX12_dayGoes 174 = .ok (.aload_n 0, 1) := by decide +kernel
theorem dX12_dayGoes_175 : decode cX12_dayGoes 175 = .ok (.getfield 122, 3) := by decide +kernel
theorem dX12_dayGoes_178 : decode cX12_dayGoes 178 = .ok (.bipush 36, 2) := by decide +kernel
theorem dX12_dayGoes_180 : decode cX12_dayGoes 180 = .ok (.dup2, 1) := by decide +kernel
theorem dX12_dayGoes_181 : decode cX12_dayGoes 181 = .ok (.iaload, 1) := by decide +kernel
theorem dX12_dayGoes_182 : decode cX12_dayGoes 182 = .ok (.iconst 1, 1) := by decide +kernel
theorem dX12_dayGoes_183 : decode cX12_dayGoes 183 = .ok (.iadd, 1) := by decide +kernel
theorem dX12_dayGoes_184 : decode cX12_dayGoes 184 = .ok (.iastore, 1) := by decide +kernel
theorem dX12_dayGoes_185 : decode cX12_dayGoes 185 = .ok (.return_, 1) := by decide +kernel
theorem dX12_goes_0 : decode cX12_goes 0 = .ok (.iconst 0, 1) := by decide +kernel
theorem dX12_goes_1 : decode cX12_goes 1 = .ok (.istore_n 2, 1) := by decide +kernel
theorem dX12_goes_2 : decode cX12_goes 2 = .ok (.iload_n 2, 1) := by decide +kernel
theorem dX12_goes_3 : decode cX12_goes 3 = .ok (.iload_n 1, 1) := by decide +kernel
theorem dX12_goes_4 : decode cX12_goes 4 = .ok (.if_icmp .ge 13, 3) := by decide +kernel
theorem dX12_goes_7 : decode cX12_goes 7 = .ok (.aload_n 0, 1) := by decide +kernel
theorem dX12_goes_8 : decode cX12_goes 8 = .ok (.invokevirtual 364, 3) := by decide +kernel
theorem dX12_goes_11 : decode cX12_goes 11 = .ok (.iinc 2 1, 3) := by decide +kernel
theorem dX12_goes_14 : decode cX12_goes 14 = .ok (.goto (-12), 3) := by decide +kernel
theorem dX12_goes_17 : decode cX12_goes 17 = .ok (.return_, 1) := by decide +kernel
theorem dX12_votesOf_0 : decode cX12_votesOf 0 = .ok (.aload_n 0, 1) := by decide +kernel
theorem dX12_votesOf_1 : decode cX12_votesOf 1 = .ok (.getfield 122, 3) := by decide +kernel
theorem dX12_votesOf_4 : decode cX12_votesOf 4 = .ok (.bipush 28, 2) := by decide +kernel
theorem dX12_votesOf_6 : decode cX12_votesOf 6 = .ok (.iload_n 1, 1) := by decide +kernel
theorem dX12_votesOf_7 : decode cX12_votesOf 7 = .ok (.iadd, 1) := by decide +kernel
theorem dX12_votesOf_8 : decode cX12_votesOf 8 = .ok (.iaload, 1) := by decide +kernel
theorem dX12_votesOf_9 : decode cX12_votesOf 9 = .ok (.ifCond .lt 5, 3) := by decide +kernel
theorem dX12_votesOf_12 : decode cX12_votesOf 12 = .ok (.iconst 0, 1) := by decide +kernel
theorem dX12_votesOf_13 : decode cX12_votesOf 13 = .ok (.ireturn, 1) := by decide +kernel
theorem dX12_votesOf_14 : decode cX12_votesOf 14 = .ok (.aload_n 0, 1) := by decide +kernel
theorem dX12_votesOf_15 : decode cX12_votesOf 15 = .ok (.iload_n 1, 1) := by decide +kernel
theorem dX12_votesOf_16 : decode cX12_votesOf 16 = .ok (.invokevirtual 367, 3) := by decide +kernel
theorem dX12_votesOf_19 : decode cX12_votesOf 19 = .ok (.istore_n 2, 1) := by decide +kernel
theorem dX12_votesOf_20 : decode cX12_votesOf 20 = .ok (.iconst 0, 1) := by decide +kernel
theorem dX12_votesOf_21 : decode cX12_votesOf 21 = .ok (.istore_n 3, 1) := by decide +kernel
theorem dX12_votesOf_22 : decode cX12_votesOf 22 = .ok (.iload_n 3, 1) := by decide +kernel
theorem dX12_votesOf_23 : decode cX12_votesOf 23 = .ok (.aload_n 0, 1) := by decide +kernel
theorem dX12_votesOf_24 : decode cX12_votesOf 24 = .ok (.getfield 46, 3) := by decide +kernel
theorem dX12_votesOf_27 : decode cX12_votesOf 27 = .ok (.aload_n 0, 1) := by decide +kernel
theorem dX12_votesOf_28 : decode cX12_votesOf 28 = .ok (.getfield 233, 3) := by decide +kernel
theorem dX12_votesOf_31 : decode cX12_votesOf 31 = .ok (.iaload, 1) := by decide +kernel
theorem dX12_votesOf_32 : decode cX12_votesOf 32 = .ok (.if_icmp .ge 30, 3) := by decide +kernel
theorem dX12_votesOf_35 : decode cX12_votesOf 35 = .ok (.aload_n 0, 1) := by decide +kernel
theorem dX12_votesOf_36 : decode cX12_votesOf 36 = .ok (.getfield 122, 3) := by decide +kernel
theorem dX12_votesOf_39 : decode cX12_votesOf 39 = .ok (.bipush 28, 2) := by decide +kernel
theorem dX12_votesOf_41 : decode cX12_votesOf 41 = .ok (.iload_n 3, 1) := by decide +kernel
theorem dX12_votesOf_42 : decode cX12_votesOf 42 = .ok (.iadd, 1) := by decide +kernel
theorem dX12_votesOf_43 : decode cX12_votesOf 43 = .ok (.iaload, 1) := by decide +kernel
theorem dX12_votesOf_44 : decode cX12_votesOf 44 = .ok (.iload_n 1, 1) := by decide +kernel
theorem dX12_votesOf_45 : decode cX12_votesOf 45 = .ok (.if_icmp .ne 11, 3) := by decide +kernel
theorem dX12_votesOf_48 : decode cX12_votesOf 48 = .ok (.iload_n 2, 1) := by decide +kernel
theorem dX12_votesOf_49 : decode cX12_votesOf 49 = .ok (.aload_n 0, 1) := by decide +kernel
theorem dX12_votesOf_50 : decode cX12_votesOf 50 = .ok (.iload_n 3, 1) := by decide +kernel
theorem dX12_votesOf_51 : decode cX12_votesOf 51 = .ok (.invokevirtual 367, 3) := by decide +kernel
theorem dX12_votesOf_54 : decode cX12_votesOf 54 = .ok (.iadd, 1) := by decide +kernel
theorem dX12_votesOf_55 : decode cX12_votesOf 55 = .ok (.istore_n 2, 1) := by decide +kernel
theorem dX12_votesOf_56 : decode cX12_votesOf 56 = .ok (.iinc 3 1, 3) := by decide +kernel
theorem dX12_votesOf_59 : decode cX12_votesOf 59 = .ok (.goto (-37), 3) := by decide +kernel
theorem dX12_votesOf_62 : decode cX12_votesOf 62 = .ok (.iload_n 2, 1) := by decide +kernel
theorem dX12_votesOf_63 : decode cX12_votesOf 63 = .ok (.ireturn, 1) := by decide +kernel
theorem dX12_house_0 : decode cX12_house 0 = .ok (.aload_n 0, 1) := by decide +kernel
theorem dX12_house_1 : decode cX12_house 1 = .ok (.iload_n 1, 1) := by decide +kernel
theorem dX12_house_2 : decode cX12_house 2 = .ok (.invokevirtual 370, 3) := by decide +kernel
theorem dX12_house_5 : decode cX12_house 5 = .ok (.ifCond .ne 5, 3) := by decide +kernel
theorem dX12_house_8 : decode cX12_house 8 = .ok (.iconst (-1), 1) := by decide +kernel
theorem dX12_house_9 : decode cX12_house 9 = .ok (.ireturn, 1) := by decide +kernel
theorem dX12_house_10 : decode cX12_house 10 = .ok (.aload_n 0, 1) := by decide +kernel
theorem dX12_house_11 : decode cX12_house 11 = .ok (.invokevirtual 373, 3) := by decide +kernel
theorem dX12_house_14 : decode cX12_house 14 = .ok (.iload_n 2, 1) := by decide +kernel
theorem dX12_house_15 : decode cX12_house 15 = .ok (.tableswitch 157 0 9 #[53, 60, 70, 85, 100, 110, 120, 130, 136, 142], 53) := by decide +kernel
theorem dX12_house_68 : decode cX12_house 68 = .ok (.aload_n 0, 1) := by decide +kernel
theorem dX12_house_69 : decode cX12_house 69 = .ok (.getfield 122, 3) := by decide +kernel
theorem dX12_house_72 : decode cX12_house 72 = .ok (.iload_n 1, 1) := by decide +kernel
theorem dX12_house_73 : decode cX12_house 73 = .ok (.iaload, 1) := by decide +kernel
theorem dX12_house_74 : decode cX12_house 74 = .ok (.ireturn, 1) := by decide +kernel
theorem dX12_house_75 : decode cX12_house 75 = .ok (.aload_n 0, 1) := by decide +kernel
theorem dX12_house_76 : decode cX12_house 76 = .ok (.getfield 122, 3) := by decide +kernel
theorem dX12_house_79 : decode cX12_house 79 = .ok (.bipush 7, 2) := by decide +kernel
theorem dX12_house_81 : decode cX12_house 81 = .ok (.iload_n 1, 1) := by decide +kernel
theorem dX12_house_82 : decode cX12_house 82 = .ok (.iadd, 1) := by decide +kernel
theorem dX12_house_83 : decode cX12_house 83 = .ok (.iaload, 1) := by decide +kernel
theorem dX12_house_84 : decode cX12_house 84 = .ok (.ireturn, 1) := by decide +kernel
theorem dX12_house_85 : decode cX12_house 85 = .ok (.aload_n 0, 1) := by decide +kernel
theorem dX12_house_86 : decode cX12_house 86 = .ok (.getfield 55, 3) := by decide +kernel
theorem dX12_house_89 : decode cX12_house 89 = .ok (.bipush 7, 2) := by decide +kernel
theorem dX12_house_91 : decode cX12_house 91 = .ok (.aload_n 0, 1) := by decide +kernel
theorem dX12_house_92 : decode cX12_house 92 = .ok (.getfield 233, 3) := by decide +kernel
theorem dX12_house_95 : decode cX12_house 95 = .ok (.imul, 1) := by decide +kernel
theorem dX12_house_96 : decode cX12_house 96 = .ok (.iload_n 1, 1) := by decide +kernel
theorem dX12_house_97 : decode cX12_house 97 = .ok (.iadd, 1) := by decide +kernel
theorem dX12_house_98 : decode cX12_house 98 = .ok (.iaload, 1) := by decide +kernel
theorem dX12_house_99 : decode cX12_house 99 = .ok (.ireturn, 1) := by decide +kernel
theorem dX12_house_100 : decode cX12_house 100 = .ok (.aload_n 0, 1) := by decide +kernel
theorem dX12_house_101 : decode cX12_house 101 = .ok (.getfield 58, 3) := by decide +kernel
theorem dX12_house_104 : decode cX12_house 104 = .ok (.bipush 7, 2) := by decide +kernel
theorem dX12_house_106 : decode cX12_house 106 = .ok (.aload_n 0, 1) := by decide +kernel
theorem dX12_house_107 : decode cX12_house 107 = .ok (.getfield 233, 3) := by decide +kernel
theorem dX12_house_110 : decode cX12_house 110 = .ok (.imul, 1) := by decide +kernel
theorem dX12_house_111 : decode cX12_house 111 = .ok (.iload_n 1, 1) := by decide +kernel
theorem dX12_house_112 : decode cX12_house 112 = .ok (.iadd, 1) := by decide +kernel
theorem dX12_house_113 : decode cX12_house 113 = .ok (.iaload, 1) := by decide +kernel
theorem dX12_house_114 : decode cX12_house 114 = .ok (.ireturn, 1) := by decide +kernel
theorem dX12_house_115 : decode cX12_house 115 = .ok (.aload_n 0, 1) := by decide +kernel
theorem dX12_house_116 : decode cX12_house 116 = .ok (.getfield 122, 3) := by decide +kernel
theorem dX12_house_119 : decode cX12_house 119 = .ok (.bipush 14, 2) := by decide +kernel
theorem dX12_house_121 : decode cX12_house 121 = .ok (.iload_n 1, 1) := by decide +kernel
theorem dX12_house_122 : decode cX12_house 122 = .ok (.iadd, 1) := by decide +kernel
theorem dX12_house_123 : decode cX12_house 123 = .ok (.iaload, 1) := by decide +kernel
theorem dX12_house_124 : decode cX12_house 124 = .ok (.ireturn, 1) := by decide +kernel
theorem dX12_house_125 : decode cX12_house 125 = .ok (.aload_n 0, 1) := by decide +kernel
theorem dX12_house_126 : decode cX12_house 126 = .ok (.getfield 122, 3) := by decide +kernel
theorem dX12_house_129 : decode cX12_house 129 = .ok (.bipush 21, 2) := by decide +kernel
theorem dX12_house_131 : decode cX12_house 131 = .ok (.iload_n 1, 1) := by decide +kernel
theorem dX12_house_132 : decode cX12_house 132 = .ok (.iadd, 1) := by decide +kernel
theorem dX12_house_133 : decode cX12_house 133 = .ok (.iaload, 1) := by decide +kernel
theorem dX12_house_134 : decode cX12_house 134 = .ok (.ireturn, 1) := by decide +kernel
theorem dX12_house_135 : decode cX12_house 135 = .ok (.aload_n 0, 1) := by decide +kernel
theorem dX12_house_136 : decode cX12_house 136 = .ok (.getfield 122, 3) := by decide +kernel
theorem dX12_house_139 : decode cX12_house 139 = .ok (.bipush 28, 2) := by decide +kernel
theorem dX12_house_141 : decode cX12_house 141 = .ok (.iload_n 1, 1) := by decide +kernel
theorem dX12_house_142 : decode cX12_house 142 = .ok (.iadd, 1) := by decide +kernel
theorem dX12_house_143 : decode cX12_house 143 = .ok (.iaload, 1) := by decide +kernel
theorem dX12_house_144 : decode cX12_house 144 = .ok (.ireturn, 1) := by decide +kernel
theorem dX12_house_145 : decode cX12_house 145 = .ok (.aload_n 0, 1) := by decide +kernel
theorem dX12_house_146 : decode cX12_house 146 = .ok (.iload_n 1, 1) := by decide +kernel
theorem dX12_house_147 : decode cX12_house 147 = .ok (.invokevirtual 367, 3) := by decide +kernel
theorem dX12_house_150 : decode cX12_house 150 = .ok (.ireturn, 1) := by decide +kernel
theorem dX12_house_151 : decode cX12_house 151 = .ok (.aload_n 0, 1) := by decide +kernel
theorem dX12_house_152 : decode cX12_house 152 = .ok (.iload_n 1, 1) := by decide +kernel
theorem dX12_house_153 : decode cX12_house 153 = .ok (.invokevirtual 376, 3) := by decide +kernel
theorem dX12_house_156 : decode cX12_house 156 = .ok (.ireturn, 1) := by decide +kernel
theorem dX12_house_157 : decode cX12_house 157 = .ok (.aload_n 0, 1) := by decide +kernel
theorem dX12_house_158 : decode cX12_house 158 = .ok (.getfield 61, 3) := by decide +kernel
theorem dX12_house_161 : decode cX12_house 161 = .ok (.bipush 7, 2) := by decide +kernel
theorem dX12_house_163 : decode cX12_house 163 = .ok (.aload_n 0, 1) := by decide +kernel
theorem dX12_house_164 : decode cX12_house 164 = .ok (.getfield 233, 3) := by decide +kernel
theorem dX12_house_167 : decode cX12_house 167 = .ok (.imul, 1) := by decide +kernel
theorem dX12_house_168 : decode cX12_house 168 = .ok (.iload_n 1, 1) := by decide +kernel
theorem dX12_house_169 : decode cX12_house 169 = .ok (.iadd, 1) := by decide +kernel
theorem dX12_house_170 : decode cX12_house 170 = .ok (.iaload, 1) := by decide +kernel
theorem dX12_house_171 : decode cX12_house 171 = .ok (.ireturn, 1) := by decide +kernel
theorem dX12_house_172 : decode cX12_house 172 = .ok (.iconst (-1), 1) := by decide +kernel
theorem dX12_house_173 : decode cX12_house 173 = .ok (.ireturn, 1) := by decide +kernel
theorem dX12_tells_0 : decode cX12_tells 0 = .ok (.iload_n 2, 1) := by decide +kernel
theorem dX12_tells_1 : decode cX12_tells 1 = .ok (.iconst 0, 1) := by decide +kernel
theorem dX12_tells_2 : decode cX12_tells 2 = .ok (.iconst 3, 1) := by decide +kernel
theorem dX12_tells_3 : decode cX12_tells 3 = .ok (.invokestatic 319, 3) := by decide +kernel
theorem dX12_tells_6 : decode cX12_tells 6 = .ok (.ifCond .eq 15, 3) := by decide +kernel
theorem dX12_tells_9 : decode cX12_tells 9 = .ok (.iload_n 2, 1) := by decide +kernel
theorem dX12_tells_10 : decode cX12_tells 10 = .ok (.ifCond .le 13, 3) := by decide +kernel
theorem dX12_tells_13 : decode cX12_tells 13 = .ok (.aload_n 0, 1) := by decide +kernel
theorem dX12_tells_14 : decode cX12_tells 14 = .ok (.iload_n 1, 1) := by decide +kernel
theorem dX12_tells_15 : decode cX12_tells 15 = .ok (.invokevirtual 370, 3) := by decide +kernel
theorem dX12_tells_18 : decode cX12_tells 18 = .ok (.ifCond .ne 5, 3) := by decide +kernel
theorem dX12_tells_21 : decode cX12_tells 21 = .ok (.iconst (-1), 1) := by decide +kernel
theorem dX12_tells_22 : decode cX12_tells 22 = .ok (.ireturn, 1) := by decide +kernel
theorem dX12_tells_23 : decode cX12_tells 23 = .ok (.aload_n 0, 1) := by decide +kernel
theorem dX12_tells_24 : decode cX12_tells 24 = .ok (.invokevirtual 373, 3) := by decide +kernel
theorem dX12_tells_27 : decode cX12_tells 27 = .ok (.iload_n 2, 1) := by decide +kernel
theorem dX12_tells_28 : decode cX12_tells 28 = .ok (.tableswitch 45 0 2 #[28, 33, 39], 28) := by decide +kernel
theorem dX12_tells_56 : decode cX12_tells 56 = .ok (.aload_n 0, 1) := by decide +kernel
theorem dX12_tells_57 : decode cX12_tells 57 = .ok (.invokevirtual 379, 3) := by decide +kernel
theorem dX12_tells_60 : decode cX12_tells 60 = .ok (.ireturn, 1) := by decide +kernel
theorem dX12_tells_61 : decode cX12_tells 61 = .ok (.aload_n 0, 1) := by decide +kernel
theorem dX12_tells_62 : decode cX12_tells 62 = .ok (.iload_n 1, 1) := by decide +kernel
theorem dX12_tells_63 : decode cX12_tells 63 = .ok (.invokevirtual 352, 3) := by decide +kernel
theorem dX12_tells_66 : decode cX12_tells 66 = .ok (.ireturn, 1) := by decide +kernel
theorem dX12_tells_67 : decode cX12_tells 67 = .ok (.aload_n 0, 1) := by decide +kernel
theorem dX12_tells_68 : decode cX12_tells 68 = .ok (.iload_n 1, 1) := by decide +kernel
theorem dX12_tells_69 : decode cX12_tells 69 = .ok (.invokevirtual 361, 3) := by decide +kernel
theorem dX12_tells_72 : decode cX12_tells 72 = .ok (.ireturn, 1) := by decide +kernel
theorem dX12_tells_73 : decode cX12_tells 73 = .ok (.aload_n 0, 1) := by decide +kernel
theorem dX12_tells_74 : decode cX12_tells 74 = .ok (.iload_n 1, 1) := by decide +kernel
theorem dX12_tells_75 : decode cX12_tells 75 = .ok (.invokevirtual 355, 3) := by decide +kernel
theorem dX12_tells_78 : decode cX12_tells 78 = .ok (.ireturn, 1) := by decide +kernel
theorem dX12_records_0 : decode cX12_records 0 = .ok (.aload_n 0, 1) := by decide +kernel
theorem dX12_records_1 : decode cX12_records 1 = .ok (.getfield 251, 3) := by decide +kernel
theorem dX12_records_4 : decode cX12_records 4 = .ok (.bipush 40, 2) := by decide +kernel
theorem dX12_records_6 : decode cX12_records 6 = .ok (.if_icmp .ne 43, 3) := by decide +kernel
theorem dX12_records_9 : decode cX12_records 9 = .ok (.iconst 0, 1) := by decide +kernel
theorem dX12_records_10 : decode cX12_records 10 = .ok (.istore_n 1, 1) := by decide +kernel
theorem dX12_records_11 : decode cX12_records 11 = .ok (.iload_n 1, 1) := by decide +kernel
theorem dX12_records_12 : decode cX12_records 12 = .ok (.sipush 1443, 3) := by decide +kernel
theorem dX12_records_15 : decode cX12_records 15 = .ok (.if_icmp .ge 24, 3) := by decide +kernel
theorem dX12_records_18 : decode cX12_records 18 = .ok (.aload_n 0, 1) := by decide +kernel
theorem dX12_records_19 : decode cX12_records 19 = .ok (.getfield 134, 3) := by decide +kernel
theorem dX12_records_22 : decode cX12_records 22 = .ok (.iload_n 1, 1) := by decide +kernel
theorem dX12_records_23 : decode cX12_records 23 = .ok (.aload_n 0, 1) := by decide +kernel
theorem dX12_records_24 : decode cX12_records 24 = .ok (.getfield 134, 3) := by decide +kernel
theorem dX12_records_27 : decode cX12_records 27 = .ok (.iload_n 1, 1) := by decide +kernel
theorem dX12_records_28 : decode cX12_records 28 = .ok (.bipush 37, 2) := by decide +kernel
theorem dX12_records_30 : decode cX12_records 30 = .ok (.iadd, 1) := by decide +kernel
theorem dX12_records_31 : decode cX12_records 31 = .ok (.iaload, 1) := by decide +kernel
theorem dX12_records_32 : decode cX12_records 32 = .ok (.iastore, 1) := by decide +kernel
theorem dX12_records_33 : decode cX12_records 33 = .ok (.iinc 1 1, 3) := by decide +kernel
theorem dX12_records_36 : decode cX12_records 36 = .ok (.goto (-25), 3) := by decide +kernel
theorem dX12_records_39 : decode cX12_records 39 = .ok (.aload_n 0, 1) := by decide +kernel
theorem dX12_records_40 : decode cX12_records 40 = .ok (.dup, 1) := by decide +kernel
theorem dX12_records_41 : decode cX12_records 41 = .ok (.getfield 251, 3) := by decide +kernel
theorem dX12_records_44 : decode cX12_records 44 = .ok (.iconst 1, 1) := by decide +kernel
theorem dX12_records_45 : decode cX12_records 45 = .ok (.isub, 1) := by decide +kernel
theorem dX12_records_46 : decode cX12_records 46 = .ok (.putfield 251, 3) := by decide +kernel
theorem dX12_records_49 : decode cX12_records 49 = .ok (.iconst 0, 1) := by decide +kernel
theorem dX12_records_50 : decode cX12_records 50 = .ok (.istore_n 1, 1) := by decide +kernel
theorem dX12_records_51 : decode cX12_records 51 = .ok (.iload_n 1, 1) := by decide +kernel
theorem dX12_records_52 : decode cX12_records 52 = .ok (.bipush 37, 2) := by decide +kernel
theorem dX12_records_54 : decode cX12_records 54 = .ok (.if_icmp .ge 29, 3) := by decide +kernel
theorem dX12_records_57 : decode cX12_records 57 = .ok (.aload_n 0, 1) := by decide +kernel
theorem dX12_records_58 : decode cX12_records 58 = .ok (.getfield 134, 3) := by decide +kernel
theorem dX12_records_61 : decode cX12_records 61 = .ok (.bipush 37, 2) := by decide +kernel
theorem dX12_records_63 : decode cX12_records 63 = .ok (.aload_n 0, 1) := by decide +kernel
theorem dX12_records_64 : decode cX12_records 64 = .ok (.getfield 251, 3) := by decide +kernel
theorem dX12_records_67 : decode cX12_records 67 = .ok (.imul, 1) := by decide +kernel
theorem dX12_records_68 : decode cX12_records 68 = .ok (.iload_n 1, 1) := by decide +kernel
theorem dX12_records_69 : decode cX12_records 69 = .ok (.iadd, 1) := by decide +kernel
theorem dX12_records_70 : decode cX12_records 70 = .ok (.aload_n 0, 1) := by decide +kernel
theorem dX12_records_71 : decode cX12_records 71 = .ok (.getfield 119, 3) := by decide +kernel
theorem dX12_records_74 : decode cX12_records 74 = .ok (.iload_n 1, 1) := by decide +kernel
theorem dX12_records_75 : decode cX12_records 75 = .ok (.iaload, 1) := by decide +kernel
theorem dX12_records_76 : decode cX12_records 76 = .ok (.iastore, 1) := by decide +kernel
theorem dX12_records_77 : decode cX12_records 77 = .ok (.iinc 1 1, 3) := by decide +kernel
theorem dX12_records_80 : decode cX12_records 80 = .ok (.goto (-29), 3) := by decide +kernel
theorem dX12_records_83 : decode cX12_records 83 = .ok (.aload_n 0, 1) := by decide +kernel
theorem dX12_records_84 : decode cX12_records 84 = .ok (.dup, 1) := by decide +kernel
theorem dX12_records_85 : decode cX12_records 85 = .ok (.getfield 251, 3) := by decide +kernel
theorem dX12_records_88 : decode cX12_records 88 = .ok (.iconst 1, 1) := by decide +kernel
theorem dX12_records_89 : decode cX12_records 89 = .ok (.iadd, 1) := by decide +kernel
theorem dX12_records_90 : decode cX12_records 90 = .ok (.putfield 251, 3) := by decide +kernel
theorem dX12_records_93 : decode cX12_records 93 = .ok (.aload_n 0, 1) := by decide +kernel
theorem dX12_records_94 : decode cX12_records 94 = .ok (.invokevirtual 163, 3) := by decide +kernel
theorem dX12_records_97 : decode cX12_records 97 = .ok (.return_, 1) := by decide +kernel
theorem dX12_isSome_0 : decode cX12_isSome 0 = .ok (.iload_n 0, 1) := by decide +kernel
theorem dX12_isSome_1 : decode cX12_isSome 1 = .ok (.iconst 1, 1) := by decide +kernel
theorem dX12_isSome_2 : decode cX12_isSome 2 = .ok (.bipush 99, 2) := by decide +kernel
theorem dX12_isSome_4 : decode cX12_isSome 4 = .ok (.invokestatic 319, 3) := by decide +kernel
theorem dX12_isSome_7 : decode cX12_isSome 7 = .ok (.ireturn, 1) := by decide +kernel
theorem dX12_buy_0 : decode cX12_buy 0 = .ok (.aload_n 0, 1) := by decide +kernel
theorem dX12_buy_1 : decode cX12_buy 1 = .ok (.iload_n 1, 1) := by decide +kernel
theorem dX12_buy_2 : decode cX12_buy 2 = .ok (.invokevirtual 370, 3) := by decide +kernel
theorem dX12_buy_5 : decode cX12_buy 5 = .ok (.ifCond .eq 23, 3) := by decide +kernel
theorem dX12_buy_8 : decode cX12_buy 8 = .ok (.aload_n 0, 1) := by decide +kernel
theorem dX12_buy_9 : decode cX12_buy 9 = .ok (.iload_n 2, 1) := by decide +kernel
theorem dX12_buy_10 : decode cX12_buy 10 = .ok (.invokevirtual 370, 3) := by decide +kernel
theorem dX12_buy_13 : decode cX12_buy 13 = .ok (.ifCond .eq 15, 3) := by decide +kernel
theorem dX12_buy_16 : decode cX12_buy 16 = .ok (.iload_n 1, 1) := by decide +kernel
theorem dX12_buy_17 : decode cX12_buy 17 = .ok (.iload_n 2, 1) := by decide +kernel
theorem dX12_buy_18 : decode cX12_buy 18 = .ok (.if_icmp .eq 10, 3) := by decide +kernel
theorem dX12_buy_21 : decode cX12_buy 21 = .ok (.iload_n 3, 1) := by decide +kernel
theorem dX12_buy_22 : decode cX12_buy 22 = .ok (.invokestatic 382, 3) := by decide +kernel
theorem dX12_buy_25 : decode cX12_buy 25 = .ok (.ifCond .ne 5, 3) := by decide +kernel
theorem dX12_buy_28 : decode cX12_buy 28 = .ok (.iconst (-1), 1) := by decide +kernel
theorem dX12_buy_29 : decode cX12_buy 29 = .ok (.ireturn, 1) := by decide +kernel
theorem dX12_buy_30 : decode cX12_buy 30 = .ok (.aload_n 0, 1) := by decide +kernel
theorem dX12_buy_31 : decode cX12_buy 31 = .ok (.invokevirtual 373, 3) := by decide +kernel
theorem dX12_buy_34 : decode cX12_buy 34 = .ok (.iload_n 3, 1) := by decide +kernel
theorem dX12_buy_35 : decode cX12_buy 35 = .ok (.aload_n 0, 1) := by decide +kernel
theorem dX12_buy_36 : decode cX12_buy 36 = .ok (.invokevirtual 379, 3) := by decide +kernel
theorem dX12_buy_39 : decode cX12_buy 39 = .ok (.imul, 1) := by decide +kernel
theorem dX12_buy_40 : decode cX12_buy 40 = .ok (.istore 4, 2) := by decide +kernel
theorem dX12_buy_42 : decode cX12_buy 42 = .ok (.aload_n 0, 1) := by decide +kernel
theorem dX12_buy_43 : decode cX12_buy 43 = .ok (.getfield 122, 3) := by decide +kernel
theorem dX12_buy_46 : decode cX12_buy 46 = .ok (.iload_n 2, 1) := by decide +kernel
theorem dX12_buy_47 : decode cX12_buy 47 = .ok (.iaload, 1) := by decide +kernel
theorem dX12_buy_48 : decode cX12_buy 48 = .ok (.iload_n 3, 1) := by decide +kernel
theorem dX12_buy_49 : decode cX12_buy 49 = .ok (.if_icmp .lt 49, 3) := by decide +kernel
theorem dX12_buy_52 : decode cX12_buy 52 = .ok (.aload_n 0, 1) := by decide +kernel
theorem dX12_buy_53 : decode cX12_buy 53 = .ok (.getfield 122, 3) := by decide +kernel
theorem dX12_buy_56 : decode cX12_buy 56 = .ok (.bipush 7, 2) := by decide +kernel
theorem dX12_buy_58 : decode cX12_buy 58 = .ok (.iload_n 1, 1) := by decide +kernel
theorem dX12_buy_59 : decode cX12_buy 59 = .ok (.iadd, 1) := by decide +kernel
theorem dX12_buy_60 : decode cX12_buy 60 = .ok (.iaload, 1) := by decide +kernel
theorem dX12_buy_61 : decode cX12_buy 61 = .ok (.iload 4, 2) := by decide +kernel
theorem dX12_buy_63 : decode cX12_buy 63 = .ok (.if_icmp .lt 35, 3) := by decide +kernel
theorem dX12_buy_66 : decode cX12_buy 66 = .ok (.aload_n 0, 1) := by decide +kernel
theorem dX12_buy_67 : decode cX12_buy 67 = .ok (.getfield 122, 3) := by decide +kernel
theorem dX12_buy_70 : decode cX12_buy 70 = .ok (.iload_n 1, 1) := by decide +kernel
theorem dX12_buy_71 : decode cX12_buy 71 = .ok (.iaload, 1) := by decide +kernel
theorem dX12_buy_72 : decode cX12_buy 72 = .ok (.iload_n 3, 1) := by decide +kernel
theorem dX12_buy_73 : decode cX12_buy 73 = .ok (.iadd, 1) := by decide +kernel
theorem dX12_buy_74 : decode cX12_buy 74 = .ok (.sipush 9999, 3) := by decide +kernel
theorem dX12_buy_77 : decode cX12_buy 77 = .ok (.if_icmp .gt 21, 3) := by decide +kernel
theorem dX12_buy_80 : decode cX12_buy 80 = .ok (.aload_n 0, 1) := by decide +kernel
theorem dX12_buy_81 : decode cX12_buy 81 = .ok (.getfield 122, 3) := by decide +kernel
theorem dX12_buy_84 : decode cX12_buy 84 = .ok (.bipush 7, 2) := by decide +kernel
theorem dX12_buy_86 : decode cX12_buy 86 = .ok (.iload_n 2, 1) := by decide +kernel
theorem dX12_buy_87 : decode cX12_buy 87 = .ok (.iadd, 1) := by decide +kernel
theorem dX12_buy_88 : decode cX12_buy 88 = .ok (.iaload, 1) := by decide +kernel
theorem dX12_buy_89 : decode cX12_buy 89 = .ok (.iload 4, 2) := by decide +kernel
theorem dX12_buy_91 : decode cX12_buy 91 = .ok (.iadd, 1) := by decide +kernel
theorem dX12_buy_92 : decode cX12_buy 92 = .ok (.sipush 9999, 3) := by decide +kernel
theorem dX12_buy_95 : decode cX12_buy 95 = .ok (.if_icmp .le 6, 3) := by decide +kernel
theorem dX12_buy_98 : decode cX12_buy 98 = .ok (.bipush (-2), 2) := by decide +kernel
theorem dX12_buy_100 : decode cX12_buy 100 = .ok (.ireturn, 1) := by decide +kernel
theorem dX12_buy_101 : decode cX12_buy 101 = .ok (.aload_n 0, 1) := by decide +kernel
theorem dX12_buy_102 : decode cX12_buy 102 = .ok (.getfield 122, 3) := by decide +kernel
theorem dX12_buy_105 : decode cX12_buy 105 = .ok (.iload_n 2, 1) := by decide +kernel
theorem dX12_buy_106 : decode cX12_buy 106 = .ok (.iaload, 1) := by decide +kernel
theorem dX12_buy_107 : decode cX12_buy 107 = .ok (.aload_n 0, 1) := by decide +kernel
theorem dX12_buy_108 : decode cX12_buy 108 = .ok (.getfield 122, 3) := by decide +kernel
theorem dX12_buy_111 : decode cX12_buy 111 = .ok (.bipush 14, 2) := by decide +kernel
theorem dX12_buy_113 : decode cX12_buy 113 = .ok (.iload_n 2, 1) := by decide +kernel
theorem dX12_buy_114 : decode cX12_buy 114 = .ok (.iadd, 1) := by decide +kernel
theorem dX12_buy_115 : decode cX12_buy 115 = .ok (.iaload, 1) := by decide +kernel
theorem dX12_buy_116 : decode cX12_buy 116 = .ok (.isub, 1) := by decide +kernel
theorem dX12_buy_117 : decode cX12_buy 117 = .ok (.istore 5, 2) := by decide +kernel
theorem dX12_buy_119 : decode cX12_buy 119 = .ok (.iload_n 3, 1) := by decide +kernel
theorem dX12_buy_120 : decode cX12_buy 120 = .ok (.iload 5, 2) := by decide +kernel
theorem dX12_buy_122 : decode cX12_buy 122 = .ok (.if_icmp .le 10, 3) := by decide +kernel
theorem dX12_buy_125 : decode cX12_buy 125 = .ok (.iload_n 3, 1) := by decide +kernel
theorem dX12_buy_126 : decode cX12_buy 126 = .ok (.iload 5, 2) := by decide +kernel
theorem dX12_buy_128 : decode cX12_buy 128 = .ok (.isub, 1) := by decide +kernel
theorem dX12_buy_129 : decode cX12_buy 129 = .ok (.goto 4, 3) := by decide +kernel
theorem dX12_buy_132 : decode cX12_buy 132 = .ok (.iconst 0, 1) := by decide +kernel
theorem dX12_buy_133 : decode cX12_buy 133 = .ok (.istore 6, 2) := by decide +kernel
theorem dX12_buy_135 : decode cX12_buy 135 = .ok (.aload_n 0, 1) := by decide +kernel
theorem dX12_buy_136 : decode cX12_buy 136 = .ok (.getfield 122, 3) := by decide +kernel
theorem dX12_buy_139 : decode cX12_buy 139 = .ok (.iload_n 2, 1) := by decide +kernel
theorem dX12_buy_140 : decode cX12_buy 140 = .ok (.dup2, 1) := by decide +kernel
theorem dX12_buy_141 : decode cX12_buy 141 = .ok (.iaload, 1) := by decide +kernel
theorem dX12_buy_142 : decode cX12_buy 142 = .ok (.iload_n 3, 1) := by decide +kernel
theorem dX12_buy_143 : decode cX12_buy 143 = .ok (.isub, 1) := by decide +kernel
theorem dX12_buy_144 : decode cX12_buy 144 = .ok (.iastore, 1) := by decide +kernel
theorem dX12_buy_145 : decode cX12_buy 145 = .ok (.aload_n 0, 1) := by decide +kernel
theorem dX12_buy_146 : decode cX12_buy 146 = .ok (.getfield 122, 3) := by decide +kernel
theorem dX12_buy_149 : decode cX12_buy 149 = .ok (.bipush 14, 2) := by decide +kernel
theorem dX12_buy_151 : decode cX12_buy 151 = .ok (.iload_n 2, 1) := by decide +kernel
theorem dX12_buy_152 : decode cX12_buy 152 = .ok (.iadd, 1) := by decide +kernel
theorem dX12_buy_153 : decode cX12_buy 153 = .ok (.dup2, 1) := by decide +kernel
theorem dX12_buy_154 : decode cX12_buy 154 = .ok (.iaload, 1) := by decide +kernel
theorem dX12_buy_155 : decode cX12_buy 155 = .ok (.iload 6, 2) := by decide +kernel
theorem dX12_buy_157 : decode cX12_buy 157 = .ok (.isub, 1) := by decide +kernel
theorem dX12_buy_158 : decode cX12_buy 158 = .ok (.iastore, 1) := by decide +kernel
theorem dX12_buy_159 : decode cX12_buy 159 = .ok (.aload_n 0, 1) := by decide +kernel
theorem dX12_buy_160 : decode cX12_buy 160 = .ok (.getfield 122, 3) := by decide +kernel
theorem dX12_buy_163 : decode cX12_buy 163 = .ok (.iload_n 1, 1) := by decide +kernel
theorem dX12_buy_164 : decode cX12_buy 164 = .ok (.dup2, 1) := by decide +kernel
theorem dX12_buy_165 : decode cX12_buy 165 = .ok (.iaload, 1) := by decide +kernel
theorem dX12_buy_166 : decode cX12_buy 166 = .ok (.iload_n 3, 1) := by decide +kernel
theorem dX12_buy_167 : decode cX12_buy 167 = .ok (.iadd, 1) := by decide +kernel
theorem dX12_buy_168 : decode cX12_buy 168 = .ok (.iastore, 1) := by decide +kernel
theorem dX12_buy_169 : decode cX12_buy 169 = .ok (.aload_n 0, 1) := by decide +kernel
theorem dX12_buy_170 : decode cX12_buy 170 = .ok (.getfield 122, 3) := by decide +kernel
theorem dX12_buy_173 : decode cX12_buy 173 = .ok (.bipush 14, 2) := by decide +kernel
theorem dX12_buy_175 : decode cX12_buy 175 = .ok (.iload_n 1, 1) := by decide +kernel
theorem dX12_buy_176 : decode cX12_buy 176 = .ok (.iadd, 1) := by decide +kernel
theorem dX12_buy_177 : decode cX12_buy 177 = .ok (.dup2, 1) := by decide +kernel
theorem dX12_buy_178 : decode cX12_buy 178 = .ok (.iaload, 1) := by decide +kernel
theorem dX12_buy_179 : decode cX12_buy 179 = .ok (.iload 6, 2) := by decide +kernel
theorem dX12_buy_181 : decode cX12_buy 181 = .ok (.iadd, 1) := by decide +kernel
theorem dX12_buy_182 : decode cX12_buy 182 = .ok (.iastore, 1) := by decide +kernel
theorem dX12_buy_183 : decode cX12_buy 183 = .ok (.aload_n 0, 1) := by decide +kernel
theorem dX12_buy_184 : decode cX12_buy 184 = .ok (.getfield 122, 3) := by decide +kernel
theorem dX12_buy_187 : decode cX12_buy 187 = .ok (.bipush 7, 2) := by decide +kernel
theorem dX12_buy_189 : decode cX12_buy 189 = .ok (.iload_n 1, 1) := by decide +kernel
theorem dX12_buy_190 : decode cX12_buy 190 = .ok (.iadd, 1) := by decide +kernel
theorem dX12_buy_191 : decode cX12_buy 191 = .ok (.dup2, 1) := by decide +kernel
theorem dX12_buy_192 : decode cX12_buy 192 = .ok (.iaload, 1) := by decide +kernel
theorem dX12_buy_193 : decode cX12_buy 193 = .ok (.iload 4, 2) := by decide +kernel
theorem dX12_buy_195 : decode cX12_buy 195 = .ok (.isub, 1) := by decide +kernel
theorem dX12_buy_196 : decode cX12_buy 196 = .ok (.iastore, 1) := by decide +kernel
theorem dX12_buy_197 : decode cX12_buy 197 = .ok (.aload_n 0, 1) := by decide +kernel
theorem dX12_buy_198 : decode cX12_buy 198 = .ok (.getfield 122, 3) := by decide +kernel
theorem dX12_buy_201 : decode cX12_buy 201 = .ok (.bipush 7, 2) := by decide +kernel
theorem dX12_buy_203 : decode cX12_buy 203 = .ok (.iload_n 2, 1) := by decide +kernel
theorem dX12_buy_204 : decode cX12_buy 204 = .ok (.iadd, 1) := by decide +kernel
theorem dX12_buy_205 : decode cX12_buy 205 = .ok (.dup2, 1) := by decide +kernel
theorem dX12_buy_206 : decode cX12_buy 206 = .ok (.iaload, 1) := by decide +kernel
theorem dX12_buy_207 : decode cX12_buy 207 = .ok (.iload 4, 2) := by decide +kernel
theorem dX12_buy_209 : decode cX12_buy 209 = .ok (.iadd, 1) := by decide +kernel
theorem dX12_buy_210 : decode cX12_buy 210 = .ok (.iastore, 1) := by decide +kernel
theorem dX12_buy_211 : decode cX12_buy 211 = .ok (.aload_n 0, 1) := by decide +kernel
theorem dX12_buy_212 : decode cX12_buy 212 = .ok (.invokevirtual 385, 3) := by decide +kernel
theorem dX12_buy_215 : decode cX12_buy 215 = .ok (.iload 4, 2) := by decide +kernel
theorem dX12_buy_217 : decode cX12_buy 217 = .ok (.ireturn, 1) := by decide +kernel
theorem dX12_eat_0 : decode cX12_eat 0 = .ok (.aload_n 0, 1) := by decide +kernel
theorem dX12_eat_1 : decode cX12_eat 1 = .ok (.iload_n 1, 1) := by decide +kernel
theorem dX12_eat_2 : decode cX12_eat 2 = .ok (.invokevirtual 370, 3) := by decide +kernel
theorem dX12_eat_5 : decode cX12_eat 5 = .ok (.ifCond .eq 10, 3) := by decide +kernel
theorem dX12_eat_8 : decode cX12_eat 8 = .ok (.iload_n 2, 1) := by decide +kernel
theorem dX12_eat_9 : decode cX12_eat 9 = .ok (.invokestatic 382, 3) := by decide +kernel
theorem dX12_eat_12 : decode cX12_eat 12 = .ok (.ifCond .ne 5, 3) := by decide +kernel
theorem dX12_eat_15 : decode cX12_eat 15 = .ok (.iconst (-1), 1) := by decide +kernel
theorem dX12_eat_16 : decode cX12_eat 16 = .ok (.ireturn, 1) := by decide +kernel
theorem dX12_eat_17 : decode cX12_eat 17 = .ok (.aload_n 0, 1) := by decide +kernel
theorem dX12_eat_18 : decode cX12_eat 18 = .ok (.getfield 119, 3) := by decide +kernel
theorem dX12_eat_21 : decode cX12_eat 21 = .ok (.iload_n 1, 1) := by decide +kernel
theorem dX12_eat_22 : decode cX12_eat 22 = .ok (.iaload, 1) := by decide +kernel
theorem dX12_eat_23 : decode cX12_eat 23 = .ok (.iload_n 2, 1) := by decide +kernel
theorem dX12_eat_24 : decode cX12_eat 24 = .ok (.if_icmp .ge 6, 3) := by decide +kernel
theorem dX12_eat_27 : decode cX12_eat 27 = .ok (.bipush (-2), 2) := by decide +kernel
theorem dX12_eat_29 : decode cX12_eat 29 = .ok (.ireturn, 1) := by decide +kernel
theorem dX12_eat_30 : decode cX12_eat 30 = .ok (.aload_n 0, 1) := by decide +kernel
theorem dX12_eat_31 : decode cX12_eat 31 = .ok (.invokevirtual 373, 3) := by decide +kernel
theorem dX12_eat_34 : decode cX12_eat 34 = .ok (.aload_n 0, 1) := by decide +kernel
theorem dX12_eat_35 : decode cX12_eat 35 = .ok (.iload_n 1, 1) := by decide +kernel
theorem dX12_eat_36 : decode cX12_eat 36 = .ok (.iload_n 2, 1) := by decide +kernel
theorem dX12_eat_37 : decode cX12_eat 37 = .ok (.invokevirtual 358, 3) := by decide +kernel
theorem dX12_eat_40 : decode cX12_eat 40 = .ok (.aload_n 0, 1) := by decide +kernel
theorem dX12_eat_41 : decode cX12_eat 41 = .ok (.invokevirtual 385, 3) := by decide +kernel
theorem dX12_eat_44 : decode cX12_eat 44 = .ok (.aload_n 0, 1) := by decide +kernel
theorem dX12_eat_45 : decode cX12_eat 45 = .ok (.getfield 119, 3) := by decide +kernel
theorem dX12_eat_48 : decode cX12_eat 48 = .ok (.iload_n 1, 1) := by decide +kernel
theorem dX12_eat_49 : decode cX12_eat 49 = .ok (.iaload, 1) := by decide +kernel
theorem dX12_eat_50 : decode cX12_eat 50 = .ok (.ireturn, 1) := by decide +kernel
theorem dX12_salts_0 : decode cX12_salts 0 = .ok (.aload_n 0, 1) := by decide +kernel
theorem dX12_salts_1 : decode cX12_salts 1 = .ok (.iload_n 1, 1) := by decide +kernel
theorem dX12_salts_2 : decode cX12_salts 2 = .ok (.invokevirtual 370, 3) := by decide +kernel
theorem dX12_salts_5 : decode cX12_salts 5 = .ok (.ifCond .eq 10, 3) := by decide +kernel
theorem dX12_salts_8 : decode cX12_salts 8 = .ok (.iload_n 2, 1) := by decide +kernel
theorem dX12_salts_9 : decode cX12_salts 9 = .ok (.invokestatic 382, 3) := by decide +kernel
theorem dX12_salts_12 : decode cX12_salts 12 = .ok (.ifCond .ne 5, 3) := by decide +kernel
theorem dX12_salts_15 : decode cX12_salts 15 = .ok (.iconst (-1), 1) := by decide +kernel
theorem dX12_salts_16 : decode cX12_salts 16 = .ok (.ireturn, 1) := by decide +kernel
theorem dX12_salts_17 : decode cX12_salts 17 = .ok (.aload_n 0, 1) := by decide +kernel
theorem dX12_salts_18 : decode cX12_salts 18 = .ok (.getfield 119, 3) := by decide +kernel
theorem dX12_salts_21 : decode cX12_salts 21 = .ok (.iload_n 1, 1) := by decide +kernel
theorem dX12_salts_22 : decode cX12_salts 22 = .ok (.iaload, 1) := by decide +kernel
theorem dX12_salts_23 : decode cX12_salts 23 = .ok (.aload_n 0, 1) := by decide +kernel
theorem dX12_salts_24 : decode cX12_salts 24 = .ok (.getfield 119, 3) := by decide +kernel
theorem dX12_salts_27 : decode cX12_salts 27 = .ok (.bipush 14, 2) := by decide +kernel
theorem dX12_salts_29 : decode cX12_salts 29 = .ok (.iload_n 1, 1) := by decide +kernel
theorem dX12_salts_30 : decode cX12_salts 30 = .ok (.iadd, 1) := by decide +kernel
theorem dX12_salts_31 : decode cX12_salts 31 = .ok (.iaload, 1) := by decide +kernel
theorem dX12_salts_32 : decode cX12_salts 32 = .ok (.isub, 1) := by decide +kernel
theorem dX12_salts_33 : decode cX12_salts 33 = .ok (.iload_n 2, 1) := by decide +kernel
theorem dX12_salts_34 : decode cX12_salts 34 = .ok (.if_icmp .lt 14, 3) := by decide +kernel
theorem dX12_salts_37 : decode cX12_salts 37 = .ok (.aload_n 0, 1) := by decide +kernel
theorem dX12_salts_38 : decode cX12_salts 38 = .ok (.getfield 119, 3) := by decide +kernel
theorem dX12_salts_41 : decode cX12_salts 41 = .ok (.bipush 35, 2) := by decide +kernel
theorem dX12_salts_43 : decode cX12_salts 43 = .ok (.iaload, 1) := by decide +kernel
theorem dX12_salts_44 : decode cX12_salts 44 = .ok (.iload_n 2, 1) := by decide +kernel
theorem dX12_salts_45 : decode cX12_salts 45 = .ok (.if_icmp .ge 6, 3) := by decide +kernel
theorem dX12_salts_48 : decode cX12_salts 48 = .ok (.bipush (-2), 2) := by decide +kernel
theorem dX12_salts_50 : decode cX12_salts 50 = .ok (.ireturn, 1) := by decide +kernel
theorem dX12_salts_51 : decode cX12_salts 51 = .ok (.aload_n 0, 1) := by decide +kernel
theorem dX12_salts_52 : decode cX12_salts 52 = .ok (.invokevirtual 373, 3) := by decide +kernel
theorem dX12_salts_55 : decode cX12_salts 55 = .ok (.aload_n 0, 1) := by decide +kernel
theorem dX12_salts_56 : decode cX12_salts 56 = .ok (.getfield 122, 3) := by decide +kernel
theorem dX12_salts_59 : decode cX12_salts 59 = .ok (.bipush 14, 2) := by decide +kernel
theorem dX12_salts_61 : decode cX12_salts 61 = .ok (.iload_n 1, 1) := by decide +kernel
theorem dX12_salts_62 : decode cX12_salts 62 = .ok (.iadd, 1) := by decide +kernel
theorem dX12_salts_63 : decode cX12_salts 63 = .ok (.dup2, 1) := by decide +kernel
theorem dX12_salts_64 : decode cX12_salts 64 = .ok (.iaload, 1) := by decide +kernel
theorem dX12_salts_65 : decode cX12_salts 65 = .ok (.iload_n 2, 1) := by decide +kernel
theorem dX12_salts_66 : decode cX12_salts 66 = .ok (.iadd, 1) := by decide +kernel
theorem dX12_salts_67 : decode cX12_salts 67 = .ok (.iastore, 1) := by decide +kernel
theorem dX12_salts_68 : decode cX12_salts 68 = .ok (.aload_n 0, 1) := by decide +kernel
theorem dX12_salts_69 : decode cX12_salts 69 = .ok (.getfield 122, 3) := by decide +kernel
theorem dX12_salts_72 : decode cX12_salts 72 = .ok (.bipush 35, 2) := by decide +kernel
theorem dX12_salts_74 : decode cX12_salts 74 = .ok (.dup2, 1) := by decide +kernel
theorem dX12_salts_75 : decode cX12_salts 75 = .ok (.iaload, 1) := by decide +kernel
theorem dX12_salts_76 : decode cX12_salts 76 = .ok (.iload_n 2, 1) := by decide +kernel
theorem dX12_salts_77 : decode cX12_salts 77 = .ok (.isub, 1) := by decide +kernel
theorem dX12_salts_78 : decode cX12_salts 78 = .ok (.iastore, 1) := by decide +kernel
theorem dX12_salts_79 : decode cX12_salts 79 = .ok (.aload_n 0, 1) := by decide +kernel
theorem dX12_salts_80 : decode cX12_salts 80 = .ok (.invokevirtual 385, 3) := by decide +kernel
theorem dX12_salts_83 : decode cX12_salts 83 = .ok (.aload_n 0, 1) := by decide +kernel
theorem dX12_salts_84 : decode cX12_salts 84 = .ok (.getfield 119, 3) := by decide +kernel
theorem dX12_salts_87 : decode cX12_salts 87 = .ok (.bipush 35, 2) := by decide +kernel
theorem dX12_salts_89 : decode cX12_salts 89 = .ok (.iaload, 1) := by decide +kernel
theorem dX12_salts_90 : decode cX12_salts 90 = .ok (.ireturn, 1) := by decide +kernel
theorem dX12_hasProxy_0 : decode cX12_hasProxy 0 = .ok (.iconst 0, 1) := by decide +kernel
theorem dX12_hasProxy_1 : decode cX12_hasProxy 1 = .ok (.istore_n 2, 1) := by decide +kernel
theorem dX12_hasProxy_2 : decode cX12_hasProxy 2 = .ok (.iload_n 2, 1) := by decide +kernel
theorem dX12_hasProxy_3 : decode cX12_hasProxy 3 = .ok (.aload_n 0, 1) := by decide +kernel
theorem dX12_hasProxy_4 : decode cX12_hasProxy 4 = .ok (.getfield 46, 3) := by decide +kernel
theorem dX12_hasProxy_7 : decode cX12_hasProxy 7 = .ok (.aload_n 0, 1) := by decide +kernel
theorem dX12_hasProxy_8 : decode cX12_hasProxy 8 = .ok (.getfield 233, 3) := by decide +kernel
theorem dX12_hasProxy_11 : decode cX12_hasProxy 11 = .ok (.iaload, 1) := by decide +kernel
theorem dX12_hasProxy_12 : decode cX12_hasProxy 12 = .ok (.if_icmp .ge 24, 3) := by decide +kernel
theorem dX12_hasProxy_15 : decode cX12_hasProxy 15 = .ok (.aload_n 0, 1) := by decide +kernel
theorem dX12_hasProxy_16 : decode cX12_hasProxy 16 = .ok (.getfield 119, 3) := by decide +kernel
theorem dX12_hasProxy_19 : decode cX12_hasProxy 19 = .ok (.bipush 28, 2) := by decide +kernel
theorem dX12_hasProxy_21 : decode cX12_hasProxy 21 = .ok (.iload_n 2, 1) := by decide +kernel
theorem dX12_hasProxy_22 : decode cX12_hasProxy 22 = .ok (.iadd, 1) := by decide +kernel
theorem dX12_hasProxy_23 : decode cX12_hasProxy 23 = .ok (.iaload, 1) := by decide +kernel
theorem dX12_hasProxy_24 : decode cX12_hasProxy 24 = .ok (.iload_n 1, 1) := by decide +kernel
theorem dX12_hasProxy_25 : decode cX12_hasProxy 25 = .ok (.if_icmp .ne 5, 3) := by decide +kernel
theorem dX12_hasProxy_28 : decode cX12_hasProxy 28 = .ok (.iconst 1, 1) := by decide +kernel
theorem dX12_hasProxy_29 : decode cX12_hasProxy 29 = .ok (.ireturn, 1) := by decide +kernel
theorem dX12_hasProxy_30 : decode cX12_hasProxy 30 = .ok (.iinc 2 1, 3) := by decide +kernel
theorem dX12_hasProxy_33 : decode cX12_hasProxy 33 = .ok (.goto (-31), 3) := by decide +kernel
theorem dX12_hasProxy_36 : decode cX12_hasProxy 36 = .ok (.iconst 0, 1) := by decide +kernel
theorem dX12_hasProxy_37 : decode cX12_hasProxy 37 = .ok (.ireturn, 1) := by decide +kernel
theorem dX12_proxy_0 : decode cX12_proxy 0 = .ok (.aload_n 0, 1) := by decide +kernel
theorem dX12_proxy_1 : decode cX12_proxy 1 = .ok (.iload_n 1, 1) := by decide +kernel
theorem dX12_proxy_2 : decode cX12_proxy 2 = .ok (.invokevirtual 370, 3) := by decide +kernel
theorem dX12_proxy_5 : decode cX12_proxy 5 = .ok (.ifCond .eq 21, 3) := by decide +kernel
theorem dX12_proxy_8 : decode cX12_proxy 8 = .ok (.iload_n 2, 1) := by decide +kernel
theorem dX12_proxy_9 : decode cX12_proxy 9 = .ok (.iconst (-1), 1) := by decide +kernel
theorem dX12_proxy_10 : decode cX12_proxy 10 = .ok (.if_icmp .eq 18, 3) := by decide +kernel
theorem dX12_proxy_13 : decode cX12_proxy 13 = .ok (.aload_n 0, 1) := by decide +kernel
theorem dX12_proxy_14 : decode cX12_proxy 14 = .ok (.iload_n 2, 1) := by decide +kernel
theorem dX12_proxy_15 : decode cX12_proxy 15 = .ok (.invokevirtual 370, 3) := by decide +kernel
theorem dX12_proxy_18 : decode cX12_proxy 18 = .ok (.ifCond .eq 8, 3) := by decide +kernel
theorem dX12_proxy_21 : decode cX12_proxy 21 = .ok (.iload_n 1, 1) := by decide +kernel
theorem dX12_proxy_22 : decode cX12_proxy 22 = .ok (.iload_n 2, 1) := by decide +kernel
theorem dX12_proxy_23 : decode cX12_proxy 23 = .ok (.if_icmp .ne 5, 3) := by decide +kernel
theorem dX12_proxy_26 : decode cX12_proxy 26 = .ok (.iconst 0, 1) := by decide +kernel
theorem dX12_proxy_27 : decode cX12_proxy 27 = .ok (.ireturn, 1) := by decide +kernel
theorem dX12_proxy_28 : decode cX12_proxy 28 = .ok (.iload_n 2, 1) := by decide +kernel
theorem dX12_proxy_29 : decode cX12_proxy 29 = .ok (.iconst (-1), 1) := by decide +kernel
theorem dX12_proxy_30 : decode cX12_proxy 30 = .ok (.if_icmp .ne 8, 3) := by decide +kernel
theorem dX12_proxy_33 : decode cX12_proxy 33 = .ok (.bipush (-2), 2) := by decide +kernel
theorem dX12_proxy_35 : decode cX12_proxy 35 = .ok (.goto 4, 3) := by decide +kernel
theorem dX12_proxy_38 : decode cX12_proxy 38 = .ok (.iload_n 2, 1) := by decide +kernel
theorem dX12_proxy_39 : decode cX12_proxy 39 = .ok (.istore_n 3, 1) := by decide +kernel
theorem dX12_proxy_40 : decode cX12_proxy 40 = .ok (.aload_n 0, 1) := by decide +kernel
theorem dX12_proxy_41 : decode cX12_proxy 41 = .ok (.getfield 119, 3) := by decide +kernel
theorem dX12_proxy_44 : decode cX12_proxy 44 = .ok (.bipush 28, 2) := by decide +kernel
theorem dX12_proxy_46 : decode cX12_proxy 46 = .ok (.iload_n 1, 1) := by decide +kernel
theorem dX12_proxy_47 : decode cX12_proxy 47 = .ok (.iadd, 1) := by decide +kernel
theorem dX12_proxy_48 : decode cX12_proxy 48 = .ok (.iaload, 1) := by decide +kernel
theorem dX12_proxy_49 : decode cX12_proxy 49 = .ok (.iload_n 3, 1) := by decide +kernel
theorem dX12_proxy_50 : decode cX12_proxy 50 = .ok (.if_icmp .eq 28, 3) := by decide +kernel
theorem dX12_proxy_53 : decode cX12_proxy 53 = .ok (.aload_n 0, 1) := by decide +kernel
theorem dX12_proxy_54 : decode cX12_proxy 54 = .ok (.iload_n 1, 1) := by decide +kernel
theorem dX12_proxy_55 : decode cX12_proxy 55 = .ok (.invokevirtual 388, 3) := by decide +kernel
theorem dX12_proxy_58 : decode cX12_proxy 58 = .ok (.ifCond .ne 20, 3) := by decide +kernel
theorem dX12_proxy_61 : decode cX12_proxy 61 = .ok (.iload_n 2, 1) := by decide +kernel
theorem dX12_proxy_62 : decode cX12_proxy 62 = .ok (.iconst (-1), 1) := by decide +kernel
theorem dX12_proxy_63 : decode cX12_proxy 63 = .ok (.if_icmp .eq 17, 3) := by decide +kernel
theorem dX12_proxy_66 : decode cX12_proxy 66 = .ok (.aload_n 0, 1) := by decide +kernel
theorem dX12_proxy_67 : decode cX12_proxy 67 = .ok (.getfield 119, 3) := by decide +kernel
theorem dX12_proxy_70 : decode cX12_proxy 70 = .ok (.bipush 28, 2) := by decide +kernel
theorem dX12_proxy_72 : decode cX12_proxy 72 = .ok (.iload_n 2, 1) := by decide +kernel
theorem dX12_proxy_73 : decode cX12_proxy 73 = .ok (.iadd, 1) := by decide +kernel
theorem dX12_proxy_74 : decode cX12_proxy 74 = .ok (.iaload, 1) := by decide +kernel
theorem dX12_proxy_75 : decode cX12_proxy 75 = .ok (.ifCond .lt 5, 3) := by decide +kernel
theorem dX12_proxy_78 : decode cX12_proxy 78 = .ok (.iconst 0, 1) := by decide +kernel
theorem dX12_proxy_79 : decode cX12_proxy 79 = .ok (.ireturn, 1) := by decide +kernel
theorem dX12_proxy_80 : decode cX12_proxy 80 = .ok (.aload_n 0, 1) := by decide +kernel
theorem dX12_proxy_81 : decode cX12_proxy 81 = .ok (.invokevirtual 373, 3) := by decide +kernel
theorem dX12_proxy_84 : decode cX12_proxy 84 = .ok (.aload_n 0, 1) := by decide +kernel
theorem dX12_proxy_85 : decode cX12_proxy 85 = .ok (.getfield 122, 3) := by decide +kernel
theorem dX12_proxy_88 : decode cX12_proxy 88 = .ok (.bipush 28, 2) := by decide +kernel
theorem dX12_proxy_90 : decode cX12_proxy 90 = .ok (.iload_n 1, 1) := by decide +kernel
theorem dX12_proxy_91 : decode cX12_proxy 91 = .ok (.iadd, 1) := by decide +kernel
theorem dX12_proxy_92 : decode cX12_proxy 92 = .ok (.iload_n 3, 1) := by decide +kernel
theorem dX12_proxy_93 : decode cX12_proxy 93 = .ok (.iastore, 1) := by decide +kernel
theorem dX12_proxy_94 : decode cX12_proxy 94 = .ok (.aload_n 0, 1) := by decide +kernel
theorem dX12_proxy_95 : decode cX12_proxy 95 = .ok (.invokevirtual 385, 3) := by decide +kernel
theorem dX12_proxy_98 : decode cX12_proxy 98 = .ok (.iconst 1, 1) := by decide +kernel
theorem dX12_proxy_99 : decode cX12_proxy 99 = .ok (.ireturn, 1) := by decide +kernel
theorem dX12_days_0 : decode cX12_days 0 = .ok (.iload_n 1, 1) := by decide +kernel
theorem dX12_days_1 : decode cX12_days 1 = .ok (.iconst 0, 1) := by decide +kernel
theorem dX12_days_2 : decode cX12_days 2 = .ok (.bipush 60, 2) := by decide +kernel
theorem dX12_days_4 : decode cX12_days 4 = .ok (.invokestatic 319, 3) := by decide +kernel
theorem dX12_days_7 : decode cX12_days 7 = .ok (.ifCond .ne 5, 3) := by decide +kernel
theorem dX12_days_10 : decode cX12_days 10 = .ok (.iconst (-1), 1) := by decide +kernel
theorem dX12_days_11 : decode cX12_days 11 = .ok (.ireturn, 1) := by decide +kernel
theorem dX12_days_12 : decode cX12_days 12 = .ok (.iload_n 1, 1) := by decide +kernel
theorem dX12_days_13 : decode cX12_days 13 = .ok (.ifCond .ne 11, 3) := by decide +kernel
theorem dX12_days_16 : decode cX12_days 16 = .ok (.aload_n 0, 1) := by decide +kernel
theorem dX12_days_17 : decode cX12_days 17 = .ok (.getfield 119, 3) := by decide +kernel
theorem dX12_days_20 : decode cX12_days 20 = .ok (.bipush 36, 2) := by decide +kernel
theorem dX12_days_22 : decode cX12_days 22 = .ok (.iaload, 1) := by decide +kernel
theorem dX12_days_23 : decode cX12_days 23 = .ok (.ireturn, 1) := by decide +kernel
theorem dX12_days_24 : decode cX12_days 24 = .ok (.aload_n 0, 1) := by decide +kernel
theorem dX12_days_25 : decode cX12_days 25 = .ok (.invokevirtual 373, 3) := by decide +kernel
theorem dX12_days_28 : decode cX12_days 28 = .ok (.aload_n 0, 1) := by decide +kernel
theorem dX12_days_29 : decode cX12_days 29 = .ok (.iload_n 1, 1) := by decide +kernel
theorem dX12_days_30 : decode cX12_days 30 = .ok (.invokevirtual 391, 3) := by decide +kernel
theorem dX12_days_33 : decode cX12_days 33 = .ok (.aload_n 0, 1) := by decide +kernel
theorem dX12_days_34 : decode cX12_days 34 = .ok (.invokevirtual 385, 3) := by decide +kernel
theorem dX12_days_37 : decode cX12_days 37 = .ok (.aload_n 0, 1) := by decide +kernel
theorem dX12_days_38 : decode cX12_days 38 = .ok (.getfield 119, 3) := by decide +kernel
theorem dX12_days_41 : decode cX12_days 41 = .ok (.bipush 36, 2) := by decide +kernel
theorem dX12_days_43 : decode cX12_days 43 = .ok (.iaload, 1) := by decide +kernel
theorem dX12_days_44 : decode cX12_days 44 = .ok (.ireturn, 1) := by decide +kernel
theorem dX12_undo_0 : decode cX12_undo 0 = .ok (.aload_n 0, 1) := by decide +kernel
theorem dX12_undo_1 : decode cX12_undo 1 = .ok (.getfield 251, 3) := by decide +kernel
theorem dX12_undo_4 : decode cX12_undo 4 = .ok (.ifCond .ne 5, 3) := by decide +kernel
theorem dX12_undo_7 : decode cX12_undo 7 = .ok (.iconst 0, 1) := by decide +kernel
theorem dX12_undo_8 : decode cX12_undo 8 = .ok (.ireturn, 1) := by decide +kernel
theorem dX12_undo_9 : decode cX12_undo 9 = .ok (.aload_n 0, 1) := by decide +kernel
theorem dX12_undo_10 : decode cX12_undo 10 = .ok (.dup, 1) := by decide +kernel
theorem dX12_undo_11 : decode cX12_undo 11 = .ok (.getfield 251, 3) := by decide +kernel
theorem dX12_undo_14 : decode cX12_undo 14 = .ok (.iconst 1, 1) := by decide +kernel
theorem dX12_undo_15 : decode cX12_undo 15 = .ok (.isub, 1) := by decide +kernel
theorem dX12_undo_16 : decode cX12_undo 16 = .ok (.putfield 251, 3) := by decide +kernel
theorem dX12_undo_19 : decode cX12_undo 19 = .ok (.iconst 0, 1) := by decide +kernel
theorem dX12_undo_20 : decode cX12_undo 20 = .ok (.istore_n 1, 1) := by decide +kernel
theorem dX12_undo_21 : decode cX12_undo 21 = .ok (.iload_n 1, 1) := by decide +kernel
theorem dX12_undo_22 : decode cX12_undo 22 = .ok (.bipush 37, 2) := by decide +kernel
theorem dX12_undo_24 : decode cX12_undo 24 = .ok (.if_icmp .ge 29, 3) := by decide +kernel
theorem dX12_undo_27 : decode cX12_undo 27 = .ok (.aload_n 0, 1) := by decide +kernel
theorem dX12_undo_28 : decode cX12_undo 28 = .ok (.getfield 119, 3) := by decide +kernel
theorem dX12_undo_31 : decode cX12_undo 31 = .ok (.iload_n 1, 1) := by decide +kernel
theorem dX12_undo_32 : decode cX12_undo 32 = .ok (.aload_n 0, 1) := by decide +kernel
theorem dX12_undo_33 : decode cX12_undo 33 = .ok (.getfield 134, 3) := by decide +kernel
theorem dX12_undo_36 : decode cX12_undo 36 = .ok (.bipush 37, 2) := by decide +kernel
theorem dX12_undo_38 : decode cX12_undo 38 = .ok (.aload_n 0, 1) := by decide +kernel
theorem dX12_undo_39 : decode cX12_undo 39 = .ok (.getfield 251, 3) := by decide +kernel
theorem dX12_undo_42 : decode cX12_undo 42 = .ok (.imul, 1) := by decide +kernel
theorem dX12_undo_43 : decode cX12_undo 43 = .ok (.iload_n 1, 1) := by decide +kernel
theorem dX12_undo_44 : decode cX12_undo 44 = .ok (.iadd, 1) := by decide +kernel
theorem dX12_undo_45 : decode cX12_undo 45 = .ok (.iaload, 1) := by decide +kernel
theorem dX12_undo_46 : decode cX12_undo 46 = .ok (.iastore, 1) := by decide +kernel
theorem dX12_undo_47 : decode cX12_undo 47 = .ok (.iinc 1 1, 3) := by decide +kernel
theorem dX12_undo_50 : decode cX12_undo 50 = .ok (.goto (-29), 3) := by decide +kernel
theorem dX12_undo_53 : decode cX12_undo 53 = .ok (.iconst 1, 1) := by decide +kernel
theorem dX12_undo_54 : decode cX12_undo 54 = .ok (.ireturn, 1) := by decide +kernel
theorem dX12_panicBy_0 : decode cX12_panicBy 0 = .ok (.iconst 1, 1) := by decide +kernel
theorem dX12_panicBy_1 : decode cX12_panicBy 1 = .ok (.iload_n 1, 1) := by decide +kernel
theorem dX12_panicBy_2 : decode cX12_panicBy 2 = .ok (.ishl, 1) := by decide +kernel
theorem dX12_panicBy_3 : decode cX12_panicBy 3 = .ok (.istore_n 3, 1) := by decide +kernel
theorem dX12_panicBy_4 : decode cX12_panicBy 4 = .ok (.iconst 0, 1) := by decide +kernel
theorem dX12_panicBy_5 : decode cX12_panicBy 5 = .ok (.istore 4, 2) := by decide +kernel
theorem dX12_panicBy_7 : decode cX12_panicBy 7 = .ok (.iload 4, 2) := by decide +kernel
theorem dX12_panicBy_9 : decode cX12_panicBy 9 = .ok (.aload_n 0, 1) := by decide +kernel
theorem dX12_panicBy_10 : decode cX12_panicBy 10 = .ok (.getfield 46, 3) := by decide +kernel
theorem dX12_panicBy_13 : decode cX12_panicBy 13 = .ok (.aload_n 0, 1) := by decide +kernel
theorem dX12_panicBy_14 : decode cX12_panicBy 14 = .ok (.getfield 233, 3) := by decide +kernel
theorem dX12_panicBy_17 : decode cX12_panicBy 17 = .ok (.iaload, 1) := by decide +kernel
theorem dX12_panicBy_18 : decode cX12_panicBy 18 = .ok (.if_icmp .ge 94, 3) := by decide +kernel
theorem dX12_panicBy_21 : decode cX12_panicBy 21 = .ok (.iload_n 3, 1) := by decide +kernel
theorem dX12_panicBy_22 : decode cX12_panicBy 22 = .ok (.istore 5, 2) := by decide +kernel
theorem dX12_panicBy_24 : decode cX12_panicBy 24 = .ok (.iconst 0, 1) := by decide +kernel
theorem dX12_panicBy_25 : decode cX12_panicBy 25 = .ok (.istore 6, 2) := by decide +kernel
theorem dX12_panicBy_27 : decode cX12_panicBy 27 = .ok (.iload 6, 2) := by decide +kernel
theorem dX12_panicBy_29 : decode cX12_panicBy 29 = .ok (.aload_n 0, 1) := by decide +kernel
theorem dX12_panicBy_30 : decode cX12_panicBy 30 = .ok (.getfield 46, 3) := by decide +kernel
theorem dX12_panicBy_33 : decode cX12_panicBy 33 = .ok (.aload_n 0, 1) := by decide +kernel
theorem dX12_panicBy_34 : decode cX12_panicBy 34 = .ok (.getfield 233, 3) := by decide +kernel
theorem dX12_panicBy_37 : decode cX12_panicBy 37 = .ok (.iaload, 1) := by decide +kernel
theorem dX12_panicBy_38 : decode cX12_panicBy 38 = .ok (.if_icmp .ge 65, 3) := by decide +kernel
theorem dX12_panicBy_41 : decode cX12_panicBy 41 = .ok (.iload_n 2, 1) := by decide +kernel
theorem dX12_panicBy_42 : decode cX12_panicBy 42 = .ok (.iload 6, 2) := by decide +kernel
theorem dX12_panicBy_44 : decode cX12_panicBy 44 = .ok (.ishr, 1) := by decide +kernel
theorem dX12_panicBy_45 : decode cX12_panicBy 45 = .ok (.iconst 1, 1) := by decide +kernel
theorem dX12_panicBy_46 : decode cX12_panicBy 46 = .ok (.iand, 1) := by decide +kernel
theorem dX12_panicBy_47 : decode cX12_panicBy 47 = .ok (.ifCond .ne 50, 3) := by decide +kernel
theorem dX12_panicBy_50 : decode cX12_panicBy 50 = .ok (.aload_n 0, 1) := by decide +kernel
theorem dX12_panicBy_51 : decode cX12_panicBy 51 = .ok (.getfield 61, 3) := by decide +kernel
theorem dX12_panicBy_54 : decode cX12_panicBy 54 = .ok (.bipush 7, 2) := by decide +kernel
theorem dX12_panicBy_56 : decode cX12_panicBy 56 = .ok (.aload_n 0, 1) := by decide +kernel
theorem dX12_panicBy_57 : decode cX12_panicBy 57 = .ok (.getfield 233, 3) := by decide +kernel
theorem dX12_panicBy_60 : decode cX12_panicBy 60 = .ok (.imul, 1) := by decide +kernel
theorem dX12_panicBy_61 : decode cX12_panicBy 61 = .ok (.iload 6, 2) := by decide +kernel
theorem dX12_panicBy_63 : decode cX12_panicBy 63 = .ok (.iadd, 1) := by decide +kernel
theorem dX12_panicBy_64 : decode cX12_panicBy 64 = .ok (.iaload, 1) := by decide +kernel
theorem dX12_panicBy_65 : decode cX12_panicBy 65 = .ok (.iload_n 3, 1) := by decide +kernel
theorem dX12_panicBy_66 : decode cX12_panicBy 66 = .ok (.iand, 1) := by decide +kernel
theorem dX12_panicBy_67 : decode cX12_panicBy 67 = .ok (.invokestatic 394, 3) := by decide +kernel
theorem dX12_panicBy_70 : decode cX12_panicBy 70 = .ok (.aload_n 0, 1) := by decide +kernel
theorem dX12_panicBy_71 : decode cX12_panicBy 71 = .ok (.getfield 58, 3) := by decide +kernel
theorem dX12_panicBy_74 : decode cX12_panicBy 74 = .ok (.bipush 7, 2) := by decide +kernel
theorem dX12_panicBy_76 : decode cX12_panicBy 76 = .ok (.aload_n 0, 1) := by decide +kernel
theorem dX12_panicBy_77 : decode cX12_panicBy 77 = .ok (.getfield 233, 3) := by decide +kernel
theorem dX12_panicBy_80 : decode cX12_panicBy 80 = .ok (.imul, 1) := by decide +kernel
theorem dX12_panicBy_81 : decode cX12_panicBy 81 = .ok (.iload 6, 2) := by decide +kernel
theorem dX12_panicBy_83 : decode cX12_panicBy 83 = .ok (.iadd, 1) := by decide +kernel
theorem dX12_panicBy_84 : decode cX12_panicBy 84 = .ok (.iaload, 1) := by decide +kernel
theorem dX12_panicBy_85 : decode cX12_panicBy 85 = .ok (.if_icmp .lt 12, 3) := by decide +kernel
theorem dX12_panicBy_88 : decode cX12_panicBy 88 = .ok (.iload 5, 2) := by decide +kernel
theorem dX12_panicBy_90 : decode cX12_panicBy 90 = .ok (.iconst 1, 1) := by decide +kernel
theorem dX12_panicBy_91 : decode cX12_panicBy 91 = .ok (.iload 6, 2) := by decide +kernel
theorem dX12_panicBy_93 : decode cX12_panicBy 93 = .ok (.ishl, 1) := by decide +kernel
theorem dX12_panicBy_94 : decode cX12_panicBy 94 = .ok (.ior, 1) := by decide +kernel
theorem dX12_panicBy_95 : decode cX12_panicBy 95 = .ok (.istore 5, 2) := by decide +kernel
theorem dX12_panicBy_97 : decode cX12_panicBy 97 = .ok (.iinc 6 1, 3) := by decide +kernel
theorem dX12_panicBy_100 : decode cX12_panicBy 100 = .ok (.goto (-73), 3) := by decide +kernel
theorem dX12_panicBy_103 : decode cX12_panicBy 103 = .ok (.iload 5, 2) := by decide +kernel
theorem dX12_panicBy_105 : decode cX12_panicBy 105 = .ok (.istore_n 3, 1) := by decide +kernel
theorem dX12_panicBy_106 : decode cX12_panicBy 106 = .ok (.iinc 4 1, 3) := by decide +kernel
theorem dX12_panicBy_109 : decode cX12_panicBy 109 = .ok (.goto (-102), 3) := by decide +kernel
theorem dX12_panicBy_112 : decode cX12_panicBy 112 = .ok (.iload_n 3, 1) := by decide +kernel
theorem dX12_panicBy_113 : decode cX12_panicBy 113 = .ok (.ireturn, 1) := by decide +kernel
theorem dX12_panic_0 : decode cX12_panic 0 = .ok (.aload_n 0, 1) := by decide +kernel
theorem dX12_panic_1 : decode cX12_panic 1 = .ok (.iload_n 1, 1) := by decide +kernel
theorem dX12_panic_2 : decode cX12_panic 2 = .ok (.invokevirtual 370, 3) := by decide +kernel
theorem dX12_panic_5 : decode cX12_panic 5 = .ok (.ifCond .eq 12, 3) := by decide +kernel
theorem dX12_panic_8 : decode cX12_panic 8 = .ok (.aload_n 0, 1) := by decide +kernel
theorem dX12_panic_9 : decode cX12_panic 9 = .ok (.iload_n 1, 1) := by decide +kernel
theorem dX12_panic_10 : decode cX12_panic 10 = .ok (.iconst 0, 1) := by decide +kernel
theorem dX12_panic_11 : decode cX12_panic 11 = .ok (.invokevirtual 397, 3) := by decide +kernel
theorem dX12_panic_14 : decode cX12_panic 14 = .ok (.goto 4, 3) := by decide +kernel
theorem dX12_panic_17 : decode cX12_panic 17 = .ok (.iconst (-1), 1) := by decide +kernel
theorem dX12_panic_18 : decode cX12_panic 18 = .ok (.ireturn, 1) := by decide +kernel
theorem dX12_spark_0 : decode cX12_spark 0 = .ok (.iload_n 1, 1) := by decide +kernel
theorem dX12_spark_1 : decode cX12_spark 1 = .ok (.iconst 0, 1) := by decide +kernel
theorem dX12_spark_2 : decode cX12_spark 2 = .ok (.iconst 1, 1) := by decide +kernel
theorem dX12_spark_3 : decode cX12_spark 3 = .ok (.invokestatic 319, 3) := by decide +kernel
theorem dX12_spark_6 : decode cX12_spark 6 = .ok (.ifCond .ne 5, 3) := by decide +kernel
theorem dX12_spark_9 : decode cX12_spark 9 = .ok (.iconst (-1), 1) := by decide +kernel
theorem dX12_spark_10 : decode cX12_spark 10 = .ok (.ireturn, 1) := by decide +kernel
theorem dX12_spark_11 : decode cX12_spark 11 = .ok (.bipush (-2), 2) := by decide +kernel
theorem dX12_spark_13 : decode cX12_spark 13 = .ok (.istore_n 2, 1) := by decide +kernel
theorem dX12_spark_14 : decode cX12_spark 14 = .ok (.bipush (-2), 2) := by decide +kernel
theorem dX12_spark_16 : decode cX12_spark 16 = .ok (.istore_n 3, 1) := by decide +kernel
theorem dX12_spark_17 : decode cX12_spark 17 = .ok (.iconst 0, 1) := by decide +kernel
theorem dX12_spark_18 : decode cX12_spark 18 = .ok (.istore 4, 2) := by decide +kernel
theorem dX12_spark_20 : decode cX12_spark 20 = .ok (.iload 4, 2) := by decide +kernel
theorem dX12_spark_22 : decode cX12_spark 22 = .ok (.aload_n 0, 1) := by decide +kernel
theorem dX12_spark_23 : decode cX12_spark 23 = .ok (.getfield 46, 3) := by decide +kernel
theorem dX12_spark_26 : decode cX12_spark 26 = .ok (.aload_n 0, 1) := by decide +kernel
theorem dX12_spark_27 : decode cX12_spark 27 = .ok (.getfield 233, 3) := by decide +kernel
theorem dX12_spark_30 : decode cX12_spark 30 = .ok (.iaload, 1) := by decide +kernel
theorem dX12_spark_31 : decode cX12_spark 31 = .ok (.if_icmp .ge 36, 3) := by decide +kernel
theorem dX12_spark_34 : decode cX12_spark 34 = .ok (.aload_n 0, 1) := by decide +kernel
theorem dX12_spark_35 : decode cX12_spark 35 = .ok (.iload 4, 2) := by decide +kernel
theorem dX12_spark_37 : decode cX12_spark 37 = .ok (.iconst 0, 1) := by decide +kernel
theorem dX12_spark_38 : decode cX12_spark 38 = .ok (.invokevirtual 397, 3) := by decide +kernel
theorem dX12_spark_41 : decode cX12_spark 41 = .ok (.invokestatic 394, 3) := by decide +kernel
theorem dX12_spark_44 : decode cX12_spark 44 = .ok (.istore 5, 2) := by decide +kernel
theorem dX12_spark_46 : decode cX12_spark 46 = .ok (.iload 5, 2) := by decide +kernel
theorem dX12_spark_48 : decode cX12_spark 48 = .ok (.iload_n 3, 1) := by decide +kernel
theorem dX12_spark_49 : decode cX12_spark 49 = .ok (.if_icmp .gt 6, 3) := by decide +kernel
theorem dX12_spark_52 : decode cX12_spark 52 = .ok (.goto 9, 3) := by decide +kernel
theorem dX12_spark_55 : decode cX12_spark 55 = .ok (.iload 4, 2) := by decide +kernel
theorem dX12_spark_57 : decode cX12_spark 57 = .ok (.istore_n 2, 1) := by decide +kernel
theorem dX12_spark_58 : decode cX12_spark 58 = .ok (.iload 5, 2) := by decide +kernel
theorem dX12_spark_60 : decode cX12_spark 60 = .ok (.istore_n 3, 1) := by decide +kernel
theorem dX12_spark_61 : decode cX12_spark 61 = .ok (.iinc 4 1, 3) := by decide +kernel
theorem dX12_spark_64 : decode cX12_spark 64 = .ok (.goto (-44), 3) := by decide +kernel
theorem dX12_spark_67 : decode cX12_spark 67 = .ok (.iload_n 1, 1) := by decide +kernel
theorem dX12_spark_68 : decode cX12_spark 68 = .ok (.ifCond .ne 7, 3) := by decide +kernel
theorem dX12_spark_71 : decode cX12_spark 71 = .ok (.iload_n 2, 1) := by decide +kernel
theorem dX12_spark_72 : decode cX12_spark 72 = .ok (.goto 4, 3) := by decide +kernel
theorem dX12_spark_75 : decode cX12_spark 75 = .ok (.iload_n 3, 1) := by decide +kernel
theorem dX12_spark_76 : decode cX12_spark 76 = .ok (.ireturn, 1) := by decide +kernel
theorem dX12_ithOf_0 : decode cX12_ithOf 0 = .ok (.iconst 0, 1) := by decide +kernel
theorem dX12_ithOf_1 : decode cX12_ithOf 1 = .ok (.istore_n 2, 1) := by decide +kernel
theorem dX12_ithOf_2 : decode cX12_ithOf 2 = .ok (.iconst 0, 1) := by decide +kernel
theorem dX12_ithOf_3 : decode cX12_ithOf 3 = .ok (.istore_n 3, 1) := by decide +kernel
theorem dX12_ithOf_4 : decode cX12_ithOf 4 = .ok (.iload_n 3, 1) := by decide +kernel
theorem dX12_ithOf_5 : decode cX12_ithOf 5 = .ok (.bipush 7, 2) := by decide +kernel
theorem dX12_ithOf_7 : decode cX12_ithOf 7 = .ok (.if_icmp .ge 30, 3) := by decide +kernel
theorem dX12_ithOf_10 : decode cX12_ithOf 10 = .ok (.iload_n 0, 1) := by decide +kernel
theorem dX12_ithOf_11 : decode cX12_ithOf 11 = .ok (.iload_n 3, 1) := by decide +kernel
theorem dX12_ithOf_12 : decode cX12_ithOf 12 = .ok (.ishr, 1) := by decide +kernel
theorem dX12_ithOf_13 : decode cX12_ithOf 13 = .ok (.iconst 1, 1) := by decide +kernel
theorem dX12_ithOf_14 : decode cX12_ithOf 14 = .ok (.iand, 1) := by decide +kernel
theorem dX12_ithOf_15 : decode cX12_ithOf 15 = .ok (.ifCond .ne 6, 3) := by decide +kernel
theorem dX12_ithOf_18 : decode cX12_ithOf 18 = .ok (.goto 13, 3) := by decide +kernel
theorem dX12_ithOf_21 : decode cX12_ithOf 21 = .ok (.iload_n 2, 1) := by decide +kernel
theorem dX12_ithOf_22 : decode cX12_ithOf 22 = .ok (.iload_n 1, 1) := by decide +kernel
theorem dX12_ithOf_23 : decode cX12_ithOf 23 = .ok (.if_icmp .ne 5, 3) := by decide +kernel
theorem dX12_ithOf_26 : decode cX12_ithOf 26 = .ok (.iload_n 3, 1) := by decide +kernel
theorem dX12_ithOf_27 : decode cX12_ithOf 27 = .ok (.ireturn, 1) := by decide +kernel
theorem dX12_ithOf_28 : decode cX12_ithOf 28 = .ok (.iinc 2 1, 3) := by decide +kernel
theorem dX12_ithOf_31 : decode cX12_ithOf 31 = .ok (.iinc 3 1, 3) := by decide +kernel
theorem dX12_ithOf_34 : decode cX12_ithOf 34 = .ok (.goto (-30), 3) := by decide +kernel
theorem dX12_ithOf_37 : decode cX12_ithOf 37 = .ok (.iconst (-1), 1) := by decide +kernel
theorem dX12_ithOf_38 : decode cX12_ithOf 38 = .ok (.ireturn, 1) := by decide +kernel
theorem dX12_isEarlier_0 : decode cX12_isEarlier 0 = .ok (.iconst 0, 1) := by decide +kernel
theorem dX12_isEarlier_1 : decode cX12_isEarlier 1 = .ok (.istore_n 2, 1) := by decide +kernel
theorem dX12_isEarlier_2 : decode cX12_isEarlier 2 = .ok (.iload_n 2, 1) := by decide +kernel
theorem dX12_isEarlier_3 : decode cX12_isEarlier 3 = .ok (.iconst 3, 1) := by decide +kernel
theorem dX12_isEarlier_4 : decode cX12_isEarlier 4 = .ok (.if_icmp .ge 41, 3) := by decide +kernel
theorem dX12_isEarlier_7 : decode cX12_isEarlier 7 = .ok (.iload_n 0, 1) := by decide +kernel
theorem dX12_isEarlier_8 : decode cX12_isEarlier 8 = .ok (.iload_n 2, 1) := by decide +kernel
theorem dX12_isEarlier_9 : decode cX12_isEarlier 9 = .ok (.invokestatic 400, 3) := by decide +kernel
theorem dX12_isEarlier_12 : decode cX12_isEarlier 12 = .ok (.iload_n 1, 1) := by decide +kernel
theorem dX12_isEarlier_13 : decode cX12_isEarlier 13 = .ok (.iload_n 2, 1) := by decide +kernel
theorem dX12_isEarlier_14 : decode cX12_isEarlier 14 = .ok (.invokestatic 400, 3) := by decide +kernel
theorem dX12_isEarlier_17 : decode cX12_isEarlier 17 = .ok (.if_icmp .eq 22, 3) := by decide +kernel
theorem dX12_isEarlier_20 : decode cX12_isEarlier 20 = .ok (.iload_n 0, 1) := by decide +kernel
theorem dX12_isEarlier_21 : decode cX12_isEarlier 21 = .ok (.iload_n 2, 1) := by decide +kernel
theorem dX12_isEarlier_22 : decode cX12_isEarlier 22 = .ok (.invokestatic 400, 3) := by decide +kernel
theorem dX12_isEarlier_25 : decode cX12_isEarlier 25 = .ok (.iload_n 1, 1) := by decide +kernel
theorem dX12_isEarlier_26 : decode cX12_isEarlier 26 = .ok (.iload_n 2, 1) := by decide +kernel
theorem dX12_isEarlier_27 : decode cX12_isEarlier 27 = .ok (.invokestatic 400, 3) := by decide +kernel
theorem dX12_isEarlier_30 : decode cX12_isEarlier 30 = .ok (.if_icmp .ge 7, 3) := by decide +kernel
theorem dX12_isEarlier_33 : decode cX12_isEarlier 33 = .ok (.iconst 1, 1) := by decide +kernel
theorem dX12_isEarlier_34 : decode cX12_isEarlier 34 = .ok (.goto 4, 3) := by decide +kernel
theorem dX12_isEarlier_37 : decode cX12_isEarlier 37 = .ok (.iconst 0, 1) := by decide +kernel
theorem dX12_isEarlier_38 : decode cX12_isEarlier 38 = .ok (.ireturn, 1) := by decide +kernel
theorem dX12_isEarlier_39 : decode cX12_isEarlier 39 = .ok (.iinc 2 1, 3) := by decide +kernel
theorem dX12_isEarlier_42 : decode cX12_isEarlier 42 = .ok (.goto (-40), 3) := by decide +kernel
theorem dX12_isEarlier_45 : decode cX12_isEarlier 45 = .ok (.iconst 0, 1) := by decide +kernel
theorem dX12_isEarlier_46 : decode cX12_isEarlier 46 = .ok (.ireturn, 1) := by decide +kernel
theorem dX12_calm_0 : decode cX12_calm 0 = .ok (.aload_n 0, 1) := by decide +kernel
theorem dX12_calm_1 : decode cX12_calm 1 = .ok (.iload_n 1, 1) := by decide +kernel
theorem dX12_calm_2 : decode cX12_calm 2 = .ok (.invokevirtual 370, 3) := by decide +kernel
theorem dX12_calm_5 : decode cX12_calm 5 = .ok (.ifCond .eq 25, 3) := by decide +kernel
theorem dX12_calm_8 : decode cX12_calm 8 = .ok (.aload_n 0, 1) := by decide +kernel
theorem dX12_calm_9 : decode cX12_calm 9 = .ok (.iload_n 2, 1) := by decide +kernel
theorem dX12_calm_10 : decode cX12_calm 10 = .ok (.invokevirtual 370, 3) := by decide +kernel
theorem dX12_calm_13 : decode cX12_calm 13 = .ok (.ifCond .eq 17, 3) := by decide +kernel
theorem dX12_calm_16 : decode cX12_calm 16 = .ok (.iload_n 1, 1) := by decide +kernel
theorem dX12_calm_17 : decode cX12_calm 17 = .ok (.iload_n 2, 1) := by decide +kernel
theorem dX12_calm_18 : decode cX12_calm 18 = .ok (.if_icmp .eq 12, 3) := by decide +kernel
theorem dX12_calm_21 : decode cX12_calm 21 = .ok (.iload_n 3, 1) := by decide +kernel
theorem dX12_calm_22 : decode cX12_calm 22 = .ok (.iconst (-1), 1) := by decide +kernel
theorem dX12_calm_23 : decode cX12_calm 23 = .ok (.iconst 2, 1) := by decide +kernel
theorem dX12_calm_24 : decode cX12_calm 24 = .ok (.invokestatic 319, 3) := by decide +kernel
theorem dX12_calm_27 : decode cX12_calm 27 = .ok (.ifCond .ne 5, 3) := by decide +kernel
theorem dX12_calm_30 : decode cX12_calm 30 = .ok (.iconst (-1), 1) := by decide +kernel
theorem dX12_calm_31 : decode cX12_calm 31 = .ok (.ireturn, 1) := by decide +kernel
theorem dX12_calm_32 : decode cX12_calm 32 = .ok (.iconst 1, 1) := by decide +kernel
theorem dX12_calm_33 : decode cX12_calm 33 = .ok (.iload_n 1, 1) := by decide +kernel
theorem dX12_calm_34 : decode cX12_calm 34 = .ok (.ishl, 1) := by decide +kernel
theorem dX12_calm_35 : decode cX12_calm 35 = .ok (.iconst 1, 1) := by decide +kernel
theorem dX12_calm_36 : decode cX12_calm 36 = .ok (.iload_n 2, 1) := by decide +kernel
theorem dX12_calm_37 : decode cX12_calm 37 = .ok (.ishl, 1) := by decide +kernel
theorem dX12_calm_38 : decode cX12_calm 38 = .ok (.ior, 1) := by decide +kernel
theorem dX12_calm_39 : decode cX12_calm 39 = .ok (.istore 4, 2) := by decide +kernel
theorem dX12_calm_41 : decode cX12_calm 41 = .ok (.iconst (-1), 1) := by decide +kernel
theorem dX12_calm_42 : decode cX12_calm 42 = .ok (.istore 5, 2) := by decide +kernel
theorem dX12_calm_44 : decode cX12_calm 44 = .ok (.iconst 0, 1) := by decide +kernel
theorem dX12_calm_45 : decode cX12_calm 45 = .ok (.istore 6, 2) := by decide +kernel
theorem dX12_calm_47 : decode cX12_calm 47 = .ok (.iload 6, 2) := by decide +kernel
theorem dX12_calm_49 : decode cX12_calm 49 = .ok (.iconst 1, 1) := by decide +kernel
theorem dX12_calm_50 : decode cX12_calm 50 = .ok (.aload_n 0, 1) := by decide +kernel
theorem dX12_calm_51 : decode cX12_calm 51 = .ok (.getfield 46, 3) := by decide +kernel
theorem dX12_calm_54 : decode cX12_calm 54 = .ok (.aload_n 0, 1) := by decide +kernel
theorem dX12_calm_55 : decode cX12_calm 55 = .ok (.getfield 233, 3) := by decide +kernel
theorem dX12_calm_58 : decode cX12_calm 58 = .ok (.iaload, 1) := by decide +kernel
theorem dX12_calm_59 : decode cX12_calm 59 = .ok (.ishl, 1) := by decide +kernel
theorem dX12_calm_60 : decode cX12_calm 60 = .ok (.if_icmp .ge 89, 3) := by decide +kernel
theorem dX12_calm_63 : decode cX12_calm 63 = .ok (.iload 6, 2) := by decide +kernel
theorem dX12_calm_65 : decode cX12_calm 65 = .ok (.iload 4, 2) := by decide +kernel
theorem dX12_calm_67 : decode cX12_calm 67 = .ok (.iand, 1) := by decide +kernel
theorem dX12_calm_68 : decode cX12_calm 68 = .ok (.ifCond .ne 75, 3) := by decide +kernel
theorem dX12_calm_71 : decode cX12_calm 71 = .ok (.iload 6, 2) := by decide +kernel
theorem dX12_calm_73 : decode cX12_calm 73 = .ok (.invokestatic 394, 3) := by decide +kernel
theorem dX12_calm_76 : decode cX12_calm 76 = .ok (.iconst 3, 1) := by decide +kernel
theorem dX12_calm_77 : decode cX12_calm 77 = .ok (.if_icmp .gt 66, 3) := by decide +kernel
theorem dX12_calm_80 : decode cX12_calm 80 = .ok (.aload_n 0, 1) := by decide +kernel
theorem dX12_calm_81 : decode cX12_calm 81 = .ok (.iload_n 1, 1) := by decide +kernel
theorem dX12_calm_82 : decode cX12_calm 82 = .ok (.iload 6, 2) := by decide +kernel
theorem dX12_calm_84 : decode cX12_calm 84 = .ok (.invokevirtual 397, 3) := by decide +kernel
theorem dX12_calm_87 : decode cX12_calm 87 = .ok (.iload_n 2, 1) := by decide +kernel
theorem dX12_calm_88 : decode cX12_calm 88 = .ok (.ishr, 1) := by decide +kernel
theorem dX12_calm_89 : decode cX12_calm 89 = .ok (.iconst 1, 1) := by decide +kernel
theorem dX12_calm_90 : decode cX12_calm 90 = .ok (.iand, 1) := by decide +kernel
theorem dX12_calm_91 : decode cX12_calm 91 = .ok (.iconst 1, 1) := by decide +kernel
theorem dX12_calm_92 : decode cX12_calm 92 = .ok (.if_icmp .ne 6, 3) := by decide +kernel
theorem dX12_calm_95 : decode cX12_calm 95 = .ok (.goto 48, 3) := by decide +kernel
theorem dX12_calm_98 : decode cX12_calm 98 = .ok (.iload 5, 2) := by decide +kernel
theorem dX12_calm_100 : decode cX12_calm 100 = .ok (.ifCond .lt 39, 3) := by decide +kernel
theorem dX12_calm_103 : decode cX12_calm 103 = .ok (.iload 6, 2) := by decide +kernel
theorem dX12_calm_105 : decode cX12_calm 105 = .ok (.invokestatic 394, 3) := by decide +kernel
theorem dX12_calm_108 : decode cX12_calm 108 = .ok (.iload 5, 2) := by decide +kernel
theorem dX12_calm_110 : decode cX12_calm 110 = .ok (.invokestatic 394, 3) := by decide +kernel
theorem dX12_calm_113 : decode cX12_calm 113 = .ok (.if_icmp .lt 26, 3) := by decide +kernel
theorem dX12_calm_116 : decode cX12_calm 116 = .ok (.iload 6, 2) := by decide +kernel
theorem dX12_calm_118 : decode cX12_calm 118 = .ok (.invokestatic 394, 3) := by decide +kernel
theorem dX12_calm_121 : decode cX12_calm 121 = .ok (.iload 5, 2) := by decide +kernel
theorem dX12_calm_123 : decode cX12_calm 123 = .ok (.invokestatic 394, 3) := by decide +kernel
theorem dX12_calm_126 : decode cX12_calm 126 = .ok (.if_icmp .ne 17, 3) := by decide +kernel
theorem dX12_calm_129 : decode cX12_calm 129 = .ok (.iload 6, 2) := by decide +kernel
theorem dX12_calm_131 : decode cX12_calm 131 = .ok (.iload 5, 2) := by decide +kernel
theorem dX12_calm_133 : decode cX12_calm 133 = .ok (.invokestatic 403, 3) := by decide +kernel
theorem dX12_calm_136 : decode cX12_calm 136 = .ok (.ifCond .eq 7, 3) := by decide +kernel
theorem dX12_calm_139 : decode cX12_calm 139 = .ok (.iload 6, 2) := by decide +kernel
theorem dX12_calm_141 : decode cX12_calm 141 = .ok (.istore 5, 2) := by decide +kernel
theorem dX12_calm_143 : decode cX12_calm 143 = .ok (.iinc 6 1, 3) := by decide +kernel
theorem dX12_calm_146 : decode cX12_calm 146 = .ok (.goto (-99), 3) := by decide +kernel
theorem dX12_calm_149 : decode cX12_calm 149 = .ok (.iload 5, 2) := by decide +kernel
theorem dX12_calm_151 : decode cX12_calm 151 = .ok (.ifCond .ge 6, 3) := by decide +kernel
theorem dX12_calm_154 : decode cX12_calm 154 = .ok (.bipush (-2), 2) := by decide +kernel
theorem dX12_calm_156 : decode cX12_calm 156 = .ok (.ireturn, 1) := by decide +kernel
theorem dX12_calm_157 : decode cX12_calm 157 = .ok (.iload_n 3, 1) := by decide +kernel
theorem dX12_calm_158 : decode cX12_calm 158 = .ok (.iconst (-1), 1) := by decide +kernel
theorem dX12_calm_159 : decode cX12_calm 159 = .ok (.if_icmp .ne 11, 3) := by decide +kernel
theorem dX12_calm_162 : decode cX12_calm 162 = .ok (.iload 5, 2) := by decide +kernel
theorem dX12_calm_164 : decode cX12_calm 164 = .ok (.invokestatic 394, 3) := by decide +kernel
theorem dX12_calm_167 : decode cX12_calm 167 = .ok (.goto 9, 3) := by decide +kernel
theorem dX12_calm_170 : decode cX12_calm 170 = .ok (.iload 5, 2) := by decide +kernel
theorem dX12_calm_172 : decode cX12_calm 172 = .ok (.iload_n 3, 1) := by decide +kernel
theorem dX12_calm_173 : decode cX12_calm 173 = .ok (.invokestatic 400, 3) := by decide +kernel
theorem dX12_calm_176 : decode cX12_calm 176 = .ok (.ireturn, 1) := by decide +kernel
theorem dX12_fillsVotes_0 : decode cX12_fillsVotes 0 = .ok (.aload_n 0, 1) := by decide +kernel
theorem dX12_fillsVotes_1 : decode cX12_fillsVotes 1 = .ok (.invokevirtual 373, 3) := by decide +kernel
theorem dX12_fillsVotes_4 : decode cX12_fillsVotes 4 = .ok (.aload_n 0, 1) := by decide +kernel
theorem dX12_fillsVotes_5 : decode cX12_fillsVotes 5 = .ok (.iconst 0, 1) := by decide +kernel
theorem dX12_fillsVotes_6 : decode cX12_fillsVotes 6 = .ok (.putfield 407, 3) := by decide +kernel
theorem dX12_fillsVotes_9 : decode cX12_fillsVotes 9 = .ok (.iconst 0, 1) := by decide +kernel
theorem dX12_fillsVotes_10 : decode cX12_fillsVotes 10 = .ok (.istore_n 1, 1) := by decide +kernel
theorem dX12_fillsVotes_11 : decode cX12_fillsVotes 11 = .ok (.iload_n 1, 1) := by decide +kernel
theorem dX12_fillsVotes_12 : decode cX12_fillsVotes 12 = .ok (.aload_n 0, 1) := by decide +kernel
theorem dX12_fillsVotes_13 : decode cX12_fillsVotes 13 = .ok (.getfield 46, 3) := by decide +kernel
theorem dX12_fillsVotes_16 : decode cX12_fillsVotes 16 = .ok (.aload_n 0, 1) := by decide +kernel
theorem dX12_fillsVotes_17 : decode cX12_fillsVotes 17 = .ok (.getfield 233, 3) := by decide +kernel
theorem dX12_fillsVotes_20 : decode cX12_fillsVotes 20 = .ok (.iaload, 1) := by decide +kernel
theorem dX12_fillsVotes_21 : decode cX12_fillsVotes 21 = .ok (.if_icmp .ge 35, 3) := by decide +kernel
theorem dX12_fillsVotes_24 : decode cX12_fillsVotes 24 = .ok (.aload_n 0, 1) := by decide +kernel
theorem dX12_fillsVotes_25 : decode cX12_fillsVotes 25 = .ok (.getfield 137, 3) := by decide +kernel
theorem dX12_fillsVotes_28 : decode cX12_fillsVotes 28 = .ok (.iload_n 1, 1) := by decide +kernel
theorem dX12_fillsVotes_29 : decode cX12_fillsVotes 29 = .ok (.aload_n 0, 1) := by decide +kernel
theorem dX12_fillsVotes_30 : decode cX12_fillsVotes 30 = .ok (.iload_n 1, 1) := by decide +kernel
theorem dX12_fillsVotes_31 : decode cX12_fillsVotes 31 = .ok (.invokevirtual 376, 3) := by decide +kernel
theorem dX12_fillsVotes_34 : decode cX12_fillsVotes 34 = .ok (.iastore, 1) := by decide +kernel
theorem dX12_fillsVotes_35 : decode cX12_fillsVotes 35 = .ok (.aload_n 0, 1) := by decide +kernel
theorem dX12_fillsVotes_36 : decode cX12_fillsVotes 36 = .ok (.dup, 1) := by decide +kernel
theorem dX12_fillsVotes_37 : decode cX12_fillsVotes 37 = .ok (.getfield 407, 3) := by decide +kernel
theorem dX12_fillsVotes_40 : decode cX12_fillsVotes 40 = .ok (.aload_n 0, 1) := by decide +kernel
theorem dX12_fillsVotes_41 : decode cX12_fillsVotes 41 = .ok (.getfield 137, 3) := by decide +kernel
theorem dX12_fillsVotes_44 : decode cX12_fillsVotes 44 = .ok (.iload_n 1, 1) := by decide +kernel
theorem dX12_fillsVotes_45 : decode cX12_fillsVotes 45 = .ok (.iaload, 1) := by decide +kernel
theorem dX12_fillsVotes_46 : decode cX12_fillsVotes 46 = .ok (.iadd, 1) := by decide +kernel
theorem dX12_fillsVotes_47 : decode cX12_fillsVotes 47 = .ok (.putfield 407, 3) := by decide +kernel
theorem dX12_fillsVotes_50 : decode cX12_fillsVotes 50 = .ok (.iinc 1 1, 3) := by decide +kernel
theorem dX12_fillsVotes_53 : decode cX12_fillsVotes 53 = .ok (.goto (-42), 3) := by decide +kernel
theorem dX12_fillsVotes_56 : decode cX12_fillsVotes 56 = .ok (.return_, 1) := by decide +kernel
theorem dX12_turnsOf_0 : decode cX12_turnsOf 0 = .ok (.iconst 0, 1) := by decide +kernel
theorem dX12_turnsOf_1 : decode cX12_turnsOf 1 = .ok (.istore_n 2, 1) := by decide +kernel
theorem dX12_turnsOf_2 : decode cX12_turnsOf 2 = .ok (.iconst 0, 1) := by decide +kernel
theorem dX12_turnsOf_3 : decode cX12_turnsOf 3 = .ok (.istore_n 3, 1) := by decide +kernel
theorem dX12_turnsOf_4 : decode cX12_turnsOf 4 = .ok (.iload_n 3, 1) := by decide +kernel
theorem dX12_turnsOf_5 : decode cX12_turnsOf 5 = .ok (.iconst 1, 1) := by decide +kernel
theorem dX12_turnsOf_6 : decode cX12_turnsOf 6 = .ok (.aload_n 0, 1) := by decide +kernel
theorem dX12_turnsOf_7 : decode cX12_turnsOf 7 = .ok (.getfield 46, 3) := by decide +kernel
theorem dX12_turnsOf_10 : decode cX12_turnsOf 10 = .ok (.aload_n 0, 1) := by decide +kernel
theorem dX12_turnsOf_11 : decode cX12_turnsOf 11 = .ok (.getfield 233, 3) := by decide +kernel
theorem dX12_turnsOf_14 : decode cX12_turnsOf 14 = .ok (.iaload, 1) := by decide +kernel
theorem dX12_turnsOf_15 : decode cX12_turnsOf 15 = .ok (.ishl, 1) := by decide +kernel
theorem dX12_turnsOf_16 : decode cX12_turnsOf 16 = .ok (.if_icmp .ge 101, 3) := by decide +kernel
theorem dX12_turnsOf_19 : decode cX12_turnsOf 19 = .ok (.iload_n 3, 1) := by decide +kernel
theorem dX12_turnsOf_20 : decode cX12_turnsOf 20 = .ok (.iload_n 1, 1) := by decide +kernel
theorem dX12_turnsOf_21 : decode cX12_turnsOf 21 = .ok (.ishr, 1) := by decide +kernel
theorem dX12_turnsOf_22 : decode cX12_turnsOf 22 = .ok (.iconst 1, 1) := by decide +kernel
theorem dX12_turnsOf_23 : decode cX12_turnsOf 23 = .ok (.iand, 1) := by decide +kernel
theorem dX12_turnsOf_24 : decode cX12_turnsOf 24 = .ok (.iconst 1, 1) := by decide +kernel
theorem dX12_turnsOf_25 : decode cX12_turnsOf 25 = .ok (.if_icmp .ne 6, 3) := by decide +kernel
theorem dX12_turnsOf_28 : decode cX12_turnsOf 28 = .ok (.goto 83, 3) := by decide +kernel
theorem dX12_turnsOf_31 : decode cX12_turnsOf 31 = .ok (.iconst 0, 1) := by decide +kernel
theorem dX12_turnsOf_32 : decode cX12_turnsOf 32 = .ok (.istore 4, 2) := by decide +kernel
theorem dX12_turnsOf_34 : decode cX12_turnsOf 34 = .ok (.iconst 0, 1) := by decide +kernel
theorem dX12_turnsOf_35 : decode cX12_turnsOf 35 = .ok (.istore 5, 2) := by decide +kernel
theorem dX12_turnsOf_37 : decode cX12_turnsOf 37 = .ok (.iload 5, 2) := by decide +kernel
theorem dX12_turnsOf_39 : decode cX12_turnsOf 39 = .ok (.aload_n 0, 1) := by decide +kernel
theorem dX12_turnsOf_40 : decode cX12_turnsOf 40 = .ok (.getfield 46, 3) := by decide +kernel
theorem dX12_turnsOf_43 : decode cX12_turnsOf 43 = .ok (.aload_n 0, 1) := by decide +kernel
theorem dX12_turnsOf_44 : decode cX12_turnsOf 44 = .ok (.getfield 233, 3) := by decide +kernel
theorem dX12_turnsOf_47 : decode cX12_turnsOf 47 = .ok (.iaload, 1) := by decide +kernel
theorem dX12_turnsOf_48 : decode cX12_turnsOf 48 = .ok (.if_icmp .ge 31, 3) := by decide +kernel
theorem dX12_turnsOf_51 : decode cX12_turnsOf 51 = .ok (.iload_n 3, 1) := by decide +kernel
theorem dX12_turnsOf_52 : decode cX12_turnsOf 52 = .ok (.iload 5, 2) := by decide +kernel
theorem dX12_turnsOf_54 : decode cX12_turnsOf 54 = .ok (.ishr, 1) := by decide +kernel
theorem dX12_turnsOf_55 : decode cX12_turnsOf 55 = .ok (.iconst 1, 1) := by decide +kernel
theorem dX12_turnsOf_56 : decode cX12_turnsOf 56 = .ok (.iand, 1) := by decide +kernel
theorem dX12_turnsOf_57 : decode cX12_turnsOf 57 = .ok (.iconst 1, 1) := by decide +kernel
theorem dX12_turnsOf_58 : decode cX12_turnsOf 58 = .ok (.if_icmp .ne 15, 3) := by decide +kernel
theorem dX12_turnsOf_61 : decode cX12_turnsOf 61 = .ok (.iload 4, 2) := by decide +kernel
theorem dX12_turnsOf_63 : decode cX12_turnsOf 63 = .ok (.aload_n 0, 1) := by decide +kernel
theorem dX12_turnsOf_64 : decode cX12_turnsOf 64 = .ok (.getfield 137, 3) := by decide +kernel
theorem dX12_turnsOf_67 : decode cX12_turnsOf 67 = .ok (.iload 5, 2) := by decide +kernel
theorem dX12_turnsOf_69 : decode cX12_turnsOf 69 = .ok (.iaload, 1) := by decide +kernel
theorem dX12_turnsOf_70 : decode cX12_turnsOf 70 = .ok (.iadd, 1) := by decide +kernel
theorem dX12_turnsOf_71 : decode cX12_turnsOf 71 = .ok (.istore 4, 2) := by decide +kernel
theorem dX12_turnsOf_73 : decode cX12_turnsOf 73 = .ok (.iinc 5 1, 3) := by decide +kernel
theorem dX12_turnsOf_76 : decode cX12_turnsOf 76 = .ok (.goto (-39), 3) := by decide +kernel
theorem dX12_turnsOf_79 : decode cX12_turnsOf 79 = .ok (.iconst 2, 1) := by decide +kernel
theorem dX12_turnsOf_80 : decode cX12_turnsOf 80 = .ok (.iload 4, 2) := by decide +kernel
theorem dX12_turnsOf_82 : decode cX12_turnsOf 82 = .ok (.imul, 1) := by decide +kernel
theorem dX12_turnsOf_83 : decode cX12_turnsOf 83 = .ok (.aload_n 0, 1) := by decide +kernel
theorem dX12_turnsOf_84 : decode cX12_turnsOf 84 = .ok (.getfield 407, 3) := by decide +kernel
theorem dX12_turnsOf_87 : decode cX12_turnsOf 87 = .ok (.if_icmp .gt 24, 3) := by decide +kernel
theorem dX12_turnsOf_90 : decode cX12_turnsOf 90 = .ok (.iconst 2, 1) := by decide +kernel
theorem dX12_turnsOf_91 : decode cX12_turnsOf 91 = .ok (.iload 4, 2) := by decide +kernel
theorem dX12_turnsOf_93 : decode cX12_turnsOf 93 = .ok (.aload_n 0, 1) := by decide +kernel
theorem dX12_turnsOf_94 : decode cX12_turnsOf 94 = .ok (.getfield 137, 3) := by decide +kernel
theorem dX12_turnsOf_97 : decode cX12_turnsOf 97 = .ok (.iload_n 1, 1) := by decide +kernel
theorem dX12_turnsOf_98 : decode cX12_turnsOf 98 = .ok (.iaload, 1) := by decide +kernel
theorem dX12_turnsOf_99 : decode cX12_turnsOf 99 = .ok (.iadd, 1) := by decide +kernel
theorem dX12_turnsOf_100 : decode cX12_turnsOf 100 = .ok (.imul, 1) := by decide +kernel
theorem dX12_turnsOf_101 : decode cX12_turnsOf 101 = .ok (.aload_n 0, 1) := by decide +kernel
theorem dX12_turnsOf_102 : decode cX12_turnsOf 102 = .ok (.getfield 407, 3) := by decide +kernel
theorem dX12_turnsOf_105 : decode cX12_turnsOf 105 = .ok (.if_icmp .le 6, 3) := by decide +kernel
theorem dX12_turnsOf_108 : decode cX12_turnsOf 108 = .ok (.iinc 2 1, 3) := by decide +kernel
theorem dX12_turnsOf_111 : decode cX12_turnsOf 111 = .ok (.iinc 3 1, 3) := by decide +kernel
theorem dX12_turnsOf_114 : decode cX12_turnsOf 114 = .ok (.goto (-110), 3) := by decide +kernel
theorem dX12_turnsOf_117 : decode cX12_turnsOf 117 = .ok (.iload_n 2, 1) := by decide +kernel
theorem dX12_turnsOf_118 : decode cX12_turnsOf 118 = .ok (.ireturn, 1) := by decide +kernel
theorem dX12_power_0 : decode cX12_power 0 = .ok (.aload_n 0, 1) := by decide +kernel
theorem dX12_power_1 : decode cX12_power 1 = .ok (.iload_n 1, 1) := by decide +kernel
theorem dX12_power_2 : decode cX12_power 2 = .ok (.invokevirtual 370, 3) := by decide +kernel
theorem dX12_power_5 : decode cX12_power 5 = .ok (.ifCond .ne 5, 3) := by decide +kernel
theorem dX12_power_8 : decode cX12_power 8 = .ok (.iconst (-1), 1) := by decide +kernel
theorem dX12_power_9 : decode cX12_power 9 = .ok (.ireturn, 1) := by decide +kernel
theorem dX12_power_10 : decode cX12_power 10 = .ok (.aload_n 0, 1) := by decide +kernel
theorem dX12_power_11 : decode cX12_power 11 = .ok (.invokevirtual 410, 3) := by decide +kernel
theorem dX12_power_14 : decode cX12_power 14 = .ok (.aload_n 0, 1) := by decide +kernel
theorem dX12_power_15 : decode cX12_power 15 = .ok (.iload_n 1, 1) := by decide +kernel
theorem dX12_power_16 : decode cX12_power 16 = .ok (.invokevirtual 413, 3) := by decide +kernel
theorem dX12_power_19 : decode cX12_power 19 = .ok (.istore_n 3, 1) := by decide +kernel
theorem dX12_power_20 : decode cX12_power 20 = .ok (.iconst 0, 1) := by decide +kernel
theorem dX12_power_21 : decode cX12_power 21 = .ok (.istore 4, 2) := by decide +kernel
theorem dX12_power_23 : decode cX12_power 23 = .ok (.iconst 0, 1) := by decide +kernel
theorem dX12_power_24 : decode cX12_power 24 = .ok (.istore 5, 2) := by decide +kernel
theorem dX12_power_26 : decode cX12_power 26 = .ok (.iload 5, 2) := by decide +kernel
theorem dX12_power_28 : decode cX12_power 28 = .ok (.aload_n 0, 1) := by decide +kernel
theorem dX12_power_29 : decode cX12_power 29 = .ok (.getfield 46, 3) := by decide +kernel
theorem dX12_power_32 : decode cX12_power 32 = .ok (.aload_n 0, 1) := by decide +kernel
theorem dX12_power_33 : decode cX12_power 33 = .ok (.getfield 233, 3) := by decide +kernel
theorem dX12_power_36 : decode cX12_power 36 = .ok (.iaload, 1) := by decide +kernel
theorem dX12_power_37 : decode cX12_power 37 = .ok (.if_icmp .ge 20, 3) := by decide +kernel
theorem dX12_power_40 : decode cX12_power 40 = .ok (.iload 4, 2) := by decide +kernel
theorem dX12_power_42 : decode cX12_power 42 = .ok (.aload_n 0, 1) := by decide +kernel
theorem dX12_power_43 : decode cX12_power 43 = .ok (.iload 5, 2) := by decide +kernel
theorem dX12_power_45 : decode cX12_power 45 = .ok (.invokevirtual 413, 3) := by decide +kernel
theorem dX12_power_48 : decode cX12_power 48 = .ok (.iadd, 1) := by decide +kernel
theorem dX12_power_49 : decode cX12_power 49 = .ok (.istore 4, 2) := by decide +kernel
theorem dX12_power_51 : decode cX12_power 51 = .ok (.iinc 5 1, 3) := by decide +kernel
theorem dX12_power_54 : decode cX12_power 54 = .ok (.goto (-28), 3) := by decide +kernel
theorem dX12_power_57 : decode cX12_power 57 = .ok (.iload_n 3, 1) := by decide +kernel
theorem dX12_power_58 : decode cX12_power 58 = .ok (.istore 5, 2) := by decide +kernel
theorem dX12_power_60 : decode cX12_power 60 = .ok (.iload 4, 2) := by decide +kernel
theorem dX12_power_62 : decode cX12_power 62 = .ok (.istore 6, 2) := by decide +kernel
theorem dX12_power_64 : decode cX12_power 64 = .ok (.iload 6, 2) := by decide +kernel
theorem dX12_power_66 : decode cX12_power 66 = .ok (.ifCond .le 21, 3) := by decide +kernel
theorem dX12_power_69 : decode cX12_power 69 = .ok (.iload 5, 2) := by decide +kernel
theorem dX12_power_71 : decode cX12_power 71 = .ok (.iload 6, 2) := by decide +kernel
theorem dX12_power_73 : decode cX12_power 73 = .ok (.irem, 1) := by decide +kernel
theorem dX12_power_74 : decode cX12_power 74 = .ok (.istore 7, 2) := by decide +kernel
theorem dX12_power_76 : decode cX12_power 76 = .ok (.iload 6, 2) := by decide +kernel
theorem dX12_power_78 : decode cX12_power 78 = .ok (.istore 5, 2) := by decide +kernel
theorem dX12_power_80 : decode cX12_power 80 = .ok (.iload 7, 2) := by decide +kernel
theorem dX12_power_82 : decode cX12_power 82 = .ok (.istore 6, 2) := by decide +kernel
theorem dX12_power_84 : decode cX12_power 84 = .ok (.goto (-20), 3) := by decide +kernel
theorem dX12_power_87 : decode cX12_power 87 = .ok (.iload 4, 2) := by decide +kernel
theorem dX12_power_89 : decode cX12_power 89 = .ok (.ifCond .ne 13, 3) := by decide +kernel
theorem dX12_power_92 : decode cX12_power 92 = .ok (.iload_n 2, 1) := by decide +kernel
theorem dX12_power_93 : decode cX12_power 93 = .ok (.ifCond .eq 7, 3) := by decide +kernel
theorem dX12_power_96 : decode cX12_power 96 = .ok (.iconst 1, 1) := by decide +kernel
theorem dX12_power_97 : decode cX12_power 97 = .ok (.goto 4, 3) := by decide +kernel
theorem dX12_power_100 : decode cX12_power 100 = .ok (.iconst 0, 1) := by decide +kernel
theorem dX12_power_101 : decode cX12_power 101 = .ok (.ireturn, 1) := by decide +kernel
theorem dX12_power_102 : decode cX12_power 102 = .ok (.iload_n 2, 1) := by decide +kernel
theorem dX12_power_103 : decode cX12_power 103 = .ok (.ifCond .eq 11, 3) := by decide +kernel
theorem dX12_power_106 : decode cX12_power 106 = .ok (.iload 4, 2) := by decide +kernel
theorem dX12_power_108 : decode cX12_power 108 = .ok (.iload 5, 2) := by decide +kernel
theorem dX12_power_110 : decode cX12_power 110 = .ok (.idiv, 1) := by decide +kernel
theorem dX12_power_111 : decode cX12_power 111 = .ok (.goto 7, 3) := by decide +kernel
theorem dX12_power_114 : decode cX12_power 114 = .ok (.iload_n 3, 1) := by decide +kernel
theorem dX12_power_115 : decode cX12_power 115 = .ok (.iload 5, 2) := by decide +kernel
theorem dX12_power_117 : decode cX12_power 117 = .ok (.idiv, 1) := by decide +kernel
theorem dX12_power_118 : decode cX12_power 118 = .ok (.ireturn, 1) := by decide +kernel
theorem dX12_strongest_0 : decode cX12_strongest 0 = .ok (.iload_n 1, 1) := by decide +kernel
theorem dX12_strongest_1 : decode cX12_strongest 1 = .ok (.iconst 0, 1) := by decide +kernel
theorem dX12_strongest_2 : decode cX12_strongest 2 = .ok (.iconst 1, 1) := by decide +kernel
theorem dX12_strongest_3 : decode cX12_strongest 3 = .ok (.invokestatic 319, 3) := by decide +kernel
theorem dX12_strongest_6 : decode cX12_strongest 6 = .ok (.ifCond .ne 5, 3) := by decide +kernel
theorem dX12_strongest_9 : decode cX12_strongest 9 = .ok (.iconst (-1), 1) := by decide +kernel
theorem dX12_strongest_10 : decode cX12_strongest 10 = .ok (.ireturn, 1) := by decide +kernel
theorem dX12_strongest_11 : decode cX12_strongest 11 = .ok (.aload_n 0, 1) := by decide +kernel
theorem dX12_strongest_12 : decode cX12_strongest 12 = .ok (.invokevirtual 410, 3) := by decide +kernel
theorem dX12_strongest_15 : decode cX12_strongest 15 = .ok (.bipush (-2), 2) := by decide +kernel
theorem dX12_strongest_17 : decode cX12_strongest 17 = .ok (.istore_n 2, 1) := by decide +kernel
theorem dX12_strongest_18 : decode cX12_strongest 18 = .ok (.bipush (-2), 2) := by decide +kernel
theorem dX12_strongest_20 : decode cX12_strongest 20 = .ok (.istore_n 3, 1) := by decide +kernel
theorem dX12_strongest_21 : decode cX12_strongest 21 = .ok (.iconst 0, 1) := by decide +kernel
theorem dX12_strongest_22 : decode cX12_strongest 22 = .ok (.istore 4, 2) := by decide +kernel
theorem dX12_strongest_24 : decode cX12_strongest 24 = .ok (.iload 4, 2) := by decide +kernel
theorem dX12_strongest_26 : decode cX12_strongest 26 = .ok (.aload_n 0, 1) := by decide +kernel
theorem dX12_strongest_27 : decode cX12_strongest 27 = .ok (.getfield 46, 3) := by decide +kernel
theorem dX12_strongest_30 : decode cX12_strongest 30 = .ok (.aload_n 0, 1) := by decide +kernel
theorem dX12_strongest_31 : decode cX12_strongest 31 = .ok (.getfield 233, 3) := by decide +kernel
theorem dX12_strongest_34 : decode cX12_strongest 34 = .ok (.iaload, 1) := by decide +kernel
theorem dX12_strongest_35 : decode cX12_strongest 35 = .ok (.if_icmp .ge 32, 3) := by decide +kernel
theorem dX12_strongest_38 : decode cX12_strongest 38 = .ok (.aload_n 0, 1) := by decide +kernel
theorem dX12_strongest_39 : decode cX12_strongest 39 = .ok (.iload 4, 2) := by decide +kernel
theorem dX12_strongest_41 : decode cX12_strongest 41 = .ok (.invokevirtual 413, 3) := by decide +kernel
theorem dX12_strongest_44 : decode cX12_strongest 44 = .ok (.istore 5, 2) := by decide +kernel
theorem dX12_strongest_46 : decode cX12_strongest 46 = .ok (.iload 5, 2) := by decide +kernel
theorem dX12_strongest_48 : decode cX12_strongest 48 = .ok (.iload_n 3, 1) := by decide +kernel
theorem dX12_strongest_49 : decode cX12_strongest 49 = .ok (.if_icmp .gt 6, 3) := by decide +kernel
theorem dX12_strongest_52 : decode cX12_strongest 52 = .ok (.goto 9, 3) := by decide +kernel
theorem dX12_strongest_55 : decode cX12_strongest 55 = .ok (.iload 4, 2) := by decide +kernel
theorem dX12_strongest_57 : decode cX12_strongest 57 = .ok (.istore_n 2, 1) := by decide +kernel
theorem dX12_strongest_58 : decode cX12_strongest 58 = .ok (.iload 5, 2) := by decide +kernel
theorem dX12_strongest_60 : decode cX12_strongest 60 = .ok (.istore_n 3, 1) := by decide +kernel
theorem dX12_strongest_61 : decode cX12_strongest 61 = .ok (.iinc 4 1, 3) := by decide +kernel
theorem dX12_strongest_64 : decode cX12_strongest 64 = .ok (.goto (-40), 3) := by decide +kernel
theorem dX12_strongest_67 : decode cX12_strongest 67 = .ok (.iload_n 1, 1) := by decide +kernel
theorem dX12_strongest_68 : decode cX12_strongest 68 = .ok (.ifCond .ne 7, 3) := by decide +kernel
theorem dX12_strongest_71 : decode cX12_strongest 71 = .ok (.iload_n 2, 1) := by decide +kernel
theorem dX12_strongest_72 : decode cX12_strongest 72 = .ok (.goto 4, 3) := by decide +kernel
theorem dX12_strongest_75 : decode cX12_strongest 75 = .ok (.iload_n 3, 1) := by decide +kernel
theorem dX12_strongest_76 : decode cX12_strongest 76 = .ok (.ireturn, 1) := by decide +kernel
theorem dX12_mostOf_0 : decode cX12_mostOf 0 = .ok (.iconst (-1), 1) := by decide +kernel
theorem dX12_mostOf_1 : decode cX12_mostOf 1 = .ok (.istore_n 2, 1) := by decide +kernel
theorem dX12_mostOf_2 : decode cX12_mostOf 2 = .ok (.iconst 0, 1) := by decide +kernel
theorem dX12_mostOf_3 : decode cX12_mostOf 3 = .ok (.istore_n 3, 1) := by decide +kernel
theorem dX12_mostOf_4 : decode cX12_mostOf 4 = .ok (.iload_n 3, 1) := by decide +kernel
theorem dX12_mostOf_5 : decode cX12_mostOf 5 = .ok (.aload_n 0, 1) := by decide +kernel
theorem dX12_mostOf_6 : decode cX12_mostOf 6 = .ok (.getfield 46, 3) := by decide +kernel
theorem dX12_mostOf_9 : decode cX12_mostOf 9 = .ok (.aload_n 0, 1) := by decide +kernel
theorem dX12_mostOf_10 : decode cX12_mostOf 10 = .ok (.getfield 233, 3) := by decide +kernel
theorem dX12_mostOf_13 : decode cX12_mostOf 13 = .ok (.iaload, 1) := by decide +kernel
theorem dX12_mostOf_14 : decode cX12_mostOf 14 = .ok (.if_icmp .ge 39, 3) := by decide +kernel
theorem dX12_mostOf_17 : decode cX12_mostOf 17 = .ok (.iload_n 1, 1) := by decide +kernel
theorem dX12_mostOf_18 : decode cX12_mostOf 18 = .ok (.iload_n 3, 1) := by decide +kernel
theorem dX12_mostOf_19 : decode cX12_mostOf 19 = .ok (.ishr, 1) := by decide +kernel
theorem dX12_mostOf_20 : decode cX12_mostOf 20 = .ok (.iconst 1, 1) := by decide +kernel
theorem dX12_mostOf_21 : decode cX12_mostOf 21 = .ok (.iand, 1) := by decide +kernel
theorem dX12_mostOf_22 : decode cX12_mostOf 22 = .ok (.iconst 1, 1) := by decide +kernel
theorem dX12_mostOf_23 : decode cX12_mostOf 23 = .ok (.if_icmp .ne 24, 3) := by decide +kernel
theorem dX12_mostOf_26 : decode cX12_mostOf 26 = .ok (.iload_n 2, 1) := by decide +kernel
theorem dX12_mostOf_27 : decode cX12_mostOf 27 = .ok (.ifCond .lt 18, 3) := by decide +kernel
theorem dX12_mostOf_30 : decode cX12_mostOf 30 = .ok (.aload_n 0, 1) := by decide +kernel
theorem dX12_mostOf_31 : decode cX12_mostOf 31 = .ok (.getfield 137, 3) := by decide +kernel
theorem dX12_mostOf_34 : decode cX12_mostOf 34 = .ok (.iload_n 3, 1) := by decide +kernel
theorem dX12_mostOf_35 : decode cX12_mostOf 35 = .ok (.iaload, 1) := by decide +kernel
theorem dX12_mostOf_36 : decode cX12_mostOf 36 = .ok (.aload_n 0, 1) := by decide +kernel
theorem dX12_mostOf_37 : decode cX12_mostOf 37 = .ok (.getfield 137, 3) := by decide +kernel
theorem dX12_mostOf_40 : decode cX12_mostOf 40 = .ok (.iload_n 2, 1) := by decide +kernel
theorem dX12_mostOf_41 : decode cX12_mostOf 41 = .ok (.iaload, 1) := by decide +kernel
theorem dX12_mostOf_42 : decode cX12_mostOf 42 = .ok (.if_icmp .le 5, 3) := by decide +kernel
theorem dX12_mostOf_45 : decode cX12_mostOf 45 = .ok (.iload_n 3, 1) := by decide +kernel
theorem dX12_mostOf_46 : decode cX12_mostOf 46 = .ok (.istore_n 2, 1) := by decide +kernel
theorem dX12_mostOf_47 : decode cX12_mostOf 47 = .ok (.iinc 3 1, 3) := by decide +kernel
theorem dX12_mostOf_50 : decode cX12_mostOf 50 = .ok (.goto (-46), 3) := by decide +kernel
theorem dX12_mostOf_53 : decode cX12_mostOf 53 = .ok (.iload_n 2, 1) := by decide +kernel
theorem dX12_mostOf_54 : decode cX12_mostOf 54 = .ok (.ireturn, 1) := by decide +kernel
theorem dX12_fewestFrom_0 : decode cX12_fewestFrom 0 = .ok (.iload_n 2, 1) := by decide +kernel
theorem dX12_fewestFrom_1 : decode cX12_fewestFrom 1 = .ok (.istore_n 3, 1) := by decide +kernel
theorem dX12_fewestFrom_2 : decode cX12_fewestFrom 2 = .ok (.iload_n 1, 1) := by decide +kernel
theorem dX12_fewestFrom_3 : decode cX12_fewestFrom 3 = .ok (.istore 4, 2) := by decide +kernel
theorem dX12_fewestFrom_5 : decode cX12_fewestFrom 5 = .ok (.iconst 0, 1) := by decide +kernel
theorem dX12_fewestFrom_6 : decode cX12_fewestFrom 6 = .ok (.istore 5, 2) := by decide +kernel
theorem dX12_fewestFrom_8 : decode cX12_fewestFrom 8 = .ok (.iconst 2, 1) := by decide +kernel
theorem dX12_fewestFrom_9 : decode cX12_fewestFrom 9 = .ok (.iload 4, 2) := by decide +kernel
theorem dX12_fewestFrom_11 : decode cX12_fewestFrom 11 = .ok (.imul, 1) := by decide +kernel
theorem dX12_fewestFrom_12 : decode cX12_fewestFrom 12 = .ok (.aload_n 0, 1) := by decide +kernel
theorem dX12_fewestFrom_13 : decode cX12_fewestFrom 13 = .ok (.getfield 407, 3) := by decide +kernel
theorem dX12_fewestFrom_16 : decode cX12_fewestFrom 16 = .ok (.if_icmp .gt 45, 3) := by decide +kernel
theorem dX12_fewestFrom_19 : decode cX12_fewestFrom 19 = .ok (.aload_n 0, 1) := by decide +kernel
theorem dX12_fewestFrom_20 : decode cX12_fewestFrom 20 = .ok (.iload_n 3, 1) := by decide +kernel
theorem dX12_fewestFrom_21 : decode cX12_fewestFrom 21 = .ok (.invokevirtual 416, 3) := by decide +kernel
theorem dX12_fewestFrom_24 : decode cX12_fewestFrom 24 = .ok (.istore 6, 2) := by decide +kernel
theorem dX12_fewestFrom_26 : decode cX12_fewestFrom 26 = .ok (.iload 6, 2) := by decide +kernel
theorem dX12_fewestFrom_28 : decode cX12_fewestFrom 28 = .ok (.ifCond .ge 6, 3) := by decide +kernel
theorem dX12_fewestFrom_31 : decode cX12_fewestFrom 31 = .ok (.bipush (-2), 2) := by decide +kernel
theorem dX12_fewestFrom_33 : decode cX12_fewestFrom 33 = .ok (.ireturn, 1) := by decide +kernel
theorem dX12_fewestFrom_34 : decode cX12_fewestFrom 34 = .ok (.iload_n 3, 1) := by decide +kernel
theorem dX12_fewestFrom_35 : decode cX12_fewestFrom 35 = .ok (.iconst 1, 1) := by decide +kernel
theorem dX12_fewestFrom_36 : decode cX12_fewestFrom 36 = .ok (.iload 6, 2) := by decide +kernel
theorem dX12_fewestFrom_38 : decode cX12_fewestFrom 38 = .ok (.ishl, 1) := by decide +kernel
theorem dX12_fewestFrom_39 : decode cX12_fewestFrom 39 = .ok (.iconst (-1), 1) := by decide +kernel
theorem dX12_fewestFrom_40 : decode cX12_fewestFrom 40 = .ok (.ixor, 1) := by decide +kernel
theorem dX12_fewestFrom_41 : decode cX12_fewestFrom 41 = .ok (.iand, 1) := by decide +kernel
theorem dX12_fewestFrom_42 : decode cX12_fewestFrom 42 = .ok (.istore_n 3, 1) := by decide +kernel
theorem dX12_fewestFrom_43 : decode cX12_fewestFrom 43 = .ok (.iload 4, 2) := by decide +kernel
theorem dX12_fewestFrom_45 : decode cX12_fewestFrom 45 = .ok (.aload_n 0, 1) := by decide +kernel
theorem dX12_fewestFrom_46 : decode cX12_fewestFrom 46 = .ok (.getfield 137, 3) := by decide +kernel
theorem dX12_fewestFrom_49 : decode cX12_fewestFrom 49 = .ok (.iload 6, 2) := by decide +kernel
theorem dX12_fewestFrom_51 : decode cX12_fewestFrom 51 = .ok (.iaload, 1) := by decide +kernel
theorem dX12_fewestFrom_52 : decode cX12_fewestFrom 52 = .ok (.iadd, 1) := by decide +kernel
theorem dX12_fewestFrom_53 : decode cX12_fewestFrom 53 = .ok (.istore 4, 2) := by decide +kernel
theorem dX12_fewestFrom_55 : decode cX12_fewestFrom 55 = .ok (.iinc 5 1, 3) := by decide +kernel
theorem dX12_fewestFrom_58 : decode cX12_fewestFrom 58 = .ok (.goto (-50), 3) := by decide +kernel
theorem dX12_fewestFrom_61 : decode cX12_fewestFrom 61 = .ok (.iload 5, 2) := by decide +kernel
theorem dX12_fewestFrom_63 : decode cX12_fewestFrom 63 = .ok (.ireturn, 1) := by decide +kernel
theorem dX12_everybody_0 : decode cX12_everybody 0 = .ok (.iconst 1, 1) := by decide +kernel
theorem dX12_everybody_1 : decode cX12_everybody 1 = .ok (.aload_n 0, 1) := by decide +kernel
theorem dX12_everybody_2 : decode cX12_everybody 2 = .ok (.getfield 46, 3) := by decide +kernel
theorem dX12_everybody_5 : decode cX12_everybody 5 = .ok (.aload_n 0, 1) := by decide +kernel
theorem dX12_everybody_6 : decode cX12_everybody 6 = .ok (.getfield 233, 3) := by decide +kernel
theorem dX12_everybody_9 : decode cX12_everybody 9 = .ok (.iaload, 1) := by decide +kernel
theorem dX12_everybody_10 : decode cX12_everybody 10 = .ok (.ishl, 1) := by decide +kernel
theorem dX12_everybody_11 : decode cX12_everybody 11 = .ok (.iconst 1, 1) := by decide +kernel
theorem dX12_everybody_12 : decode cX12_everybody 12 = .ok (.isub, 1) := by decide +kernel
theorem dX12_everybody_13 : decode cX12_everybody 13 = .ok (.ireturn, 1) := by decide +kernel
theorem dX12_allies_0 : decode cX12_allies 0 = .ok (.aload_n 0, 1) := by decide +kernel
theorem dX12_allies_1 : decode cX12_allies 1 = .ok (.iload_n 1, 1) := by decide +kernel
theorem dX12_allies_2 : decode cX12_allies 2 = .ok (.invokevirtual 370, 3) := by decide +kernel
theorem dX12_allies_5 : decode cX12_allies 5 = .ok (.ifCond .ne 5, 3) := by decide +kernel
theorem dX12_allies_8 : decode cX12_allies 8 = .ok (.iconst (-1), 1) := by decide +kernel
theorem dX12_allies_9 : decode cX12_allies 9 = .ok (.ireturn, 1) := by decide +kernel
theorem dX12_allies_10 : decode cX12_allies 10 = .ok (.aload_n 0, 1) := by decide +kernel
theorem dX12_allies_11 : decode cX12_allies 11 = .ok (.invokevirtual 410, 3) := by decide +kernel
theorem dX12_allies_14 : decode cX12_allies 14 = .ok (.aload_n 0, 1) := by decide +kernel
theorem dX12_allies_15 : decode cX12_allies 15 = .ok (.aload_n 0, 1) := by decide +kernel
theorem dX12_allies_16 : decode cX12_allies 16 = .ok (.getfield 137, 3) := by decide +kernel
theorem dX12_allies_19 : decode cX12_allies 19 = .ok (.iload_n 1, 1) := by decide +kernel
theorem dX12_allies_20 : decode cX12_allies 20 = .ok (.iaload, 1) := by decide +kernel
theorem dX12_allies_21 : decode cX12_allies 21 = .ok (.aload_n 0, 1) := by decide +kernel
theorem dX12_allies_22 : decode cX12_allies 22 = .ok (.invokevirtual 419, 3) := by decide +kernel
theorem dX12_allies_25 : decode cX12_allies 25 = .ok (.iconst 1, 1) := by decide +kernel
theorem dX12_allies_26 : decode cX12_allies 26 = .ok (.iload_n 1, 1) := by decide +kernel
theorem dX12_allies_27 : decode cX12_allies 27 = .ok (.ishl, 1) := by decide +kernel
theorem dX12_allies_28 : decode cX12_allies 28 = .ok (.iconst (-1), 1) := by decide +kernel
theorem dX12_allies_29 : decode cX12_allies 29 = .ok (.ixor, 1) := by decide +kernel
theorem dX12_allies_30 : decode cX12_allies 30 = .ok (.iand, 1) := by decide +kernel
theorem dX12_allies_31 : decode cX12_allies 31 = .ok (.invokevirtual 422, 3) := by decide +kernel
theorem dX12_allies_34 : decode cX12_allies 34 = .ok (.ireturn, 1) := by decide +kernel
theorem dX12_motion_0 : decode cX12_motion 0 = .ok (.iload_n 1, 1) := by decide +kernel
theorem dX12_motion_1 : decode cX12_motion 1 = .ok (.iconst 0, 1) := by decide +kernel
theorem dX12_motion_2 : decode cX12_motion 2 = .ok (.aload_n 0, 1) := by decide +kernel
theorem dX12_motion_3 : decode cX12_motion 3 = .ok (.getfield 67, 3) := by decide +kernel
theorem dX12_motion_6 : decode cX12_motion 6 = .ok (.aload_n 0, 1) := by decide +kernel
theorem dX12_motion_7 : decode cX12_motion 7 = .ok (.getfield 233, 3) := by decide +kernel
theorem dX12_motion_10 : decode cX12_motion 10 = .ok (.iaload, 1) := by decide +kernel
theorem dX12_motion_11 : decode cX12_motion 11 = .ok (.iconst 1, 1) := by decide +kernel
theorem dX12_motion_12 : decode cX12_motion 12 = .ok (.isub, 1) := by decide +kernel
theorem dX12_motion_13 : decode cX12_motion 13 = .ok (.invokestatic 319, 3) := by decide +kernel
theorem dX12_motion_16 : decode cX12_motion 16 = .ok (.ifCond .eq 12, 3) := by decide +kernel
theorem dX12_motion_19 : decode cX12_motion 19 = .ok (.iload_n 2, 1) := by decide +kernel
theorem dX12_motion_20 : decode cX12_motion 20 = .ok (.iconst 0, 1) := by decide +kernel
theorem dX12_motion_21 : decode cX12_motion 21 = .ok (.iconst 2, 1) := by decide +kernel
theorem dX12_motion_22 : decode cX12_motion 22 = .ok (.invokestatic 319, 3) := by decide +kernel
theorem dX12_motion_25 : decode cX12_motion 25 = .ok (.ifCond .ne 5, 3) := by decide +kernel
theorem dX12_motion_28 : decode cX12_motion 28 = .ok (.iconst (-1), 1) := by decide +kernel
theorem dX12_motion_29 : decode cX12_motion 29 = .ok (.ireturn, 1) := by decide +kernel
theorem dX12_motion_30 : decode cX12_motion 30 = .ok (.aload_n 0, 1) := by decide +kernel
theorem dX12_motion_31 : decode cX12_motion 31 = .ok (.invokevirtual 410, 3) := by decide +kernel
theorem dX12_motion_34 : decode cX12_motion 34 = .ok (.aload_n 0, 1) := by decide +kernel
theorem dX12_motion_35 : decode cX12_motion 35 = .ok (.getfield 70, 3) := by decide +kernel
theorem dX12_motion_38 : decode cX12_motion 38 = .ok (.iconst 5, 1) := by decide +kernel
theorem dX12_motion_39 : decode cX12_motion 39 = .ok (.aload_n 0, 1) := by decide +kernel
theorem dX12_motion_40 : decode cX12_motion 40 = .ok (.getfield 233, 3) := by decide +kernel
theorem dX12_motion_43 : decode cX12_motion 43 = .ok (.imul, 1) := by decide +kernel
theorem dX12_motion_44 : decode cX12_motion 44 = .ok (.iload_n 1, 1) := by decide +kernel
theorem dX12_motion_45 : decode cX12_motion 45 = .ok (.iadd, 1) := by decide +kernel
theorem dX12_motion_46 : decode cX12_motion 46 = .ok (.iaload, 1) := by decide +kernel
theorem dX12_motion_47 : decode cX12_motion 47 = .ok (.istore_n 3, 1) := by decide +kernel
theorem dX12_motion_48 : decode cX12_motion 48 = .ok (.iconst 0, 1) := by decide +kernel
theorem dX12_motion_49 : decode cX12_motion 49 = .ok (.istore 4, 2) := by decide +kernel
theorem dX12_motion_51 : decode cX12_motion 51 = .ok (.iconst 0, 1) := by decide +kernel
theorem dX12_motion_52 : decode cX12_motion 52 = .ok (.istore 5, 2) := by decide +kernel
theorem dX12_motion_54 : decode cX12_motion 54 = .ok (.iload 5, 2) := by decide +kernel
theorem dX12_motion_56 : decode cX12_motion 56 = .ok (.aload_n 0, 1) := by decide +kernel
theorem dX12_motion_57 : decode cX12_motion 57 = .ok (.getfield 46, 3) := by decide +kernel
theorem dX12_motion_60 : decode cX12_motion 60 = .ok (.aload_n 0, 1) := by decide +kernel
theorem dX12_motion_61 : decode cX12_motion 61 = .ok (.getfield 233, 3) := by decide +kernel
theorem dX12_motion_64 : decode cX12_motion 64 = .ok (.iaload, 1) := by decide +kernel
theorem dX12_motion_65 : decode cX12_motion 65 = .ok (.if_icmp .ge 31, 3) := by decide +kernel
theorem dX12_motion_68 : decode cX12_motion 68 = .ok (.iload_n 3, 1) := by decide +kernel
theorem dX12_motion_69 : decode cX12_motion 69 = .ok (.iload 5, 2) := by decide +kernel
theorem dX12_motion_71 : decode cX12_motion 71 = .ok (.ishr, 1) := by decide +kernel
theorem dX12_motion_72 : decode cX12_motion 72 = .ok (.iconst 1, 1) := by decide +kernel
theorem dX12_motion_73 : decode cX12_motion 73 = .ok (.iand, 1) := by decide +kernel
theorem dX12_motion_74 : decode cX12_motion 74 = .ok (.iconst 1, 1) := by decide +kernel
theorem dX12_motion_75 : decode cX12_motion 75 = .ok (.if_icmp .ne 15, 3) := by decide +kernel
theorem dX12_motion_78 : decode cX12_motion 78 = .ok (.iload 4, 2) := by decide +kernel
theorem dX12_motion_80 : decode cX12_motion 80 = .ok (.aload_n 0, 1) := by decide +kernel
theorem dX12_motion_81 : decode cX12_motion 81 = .ok (.getfield 137, 3) := by decide +kernel
theorem dX12_motion_84 : decode cX12_motion 84 = .ok (.iload 5, 2) := by decide +kernel
theorem dX12_motion_86 : decode cX12_motion 86 = .ok (.iaload, 1) := by decide +kernel
theorem dX12_motion_87 : decode cX12_motion 87 = .ok (.iadd, 1) := by decide +kernel
theorem dX12_motion_88 : decode cX12_motion 88 = .ok (.istore 4, 2) := by decide +kernel
theorem dX12_motion_90 : decode cX12_motion 90 = .ok (.iinc 5 1, 3) := by decide +kernel
theorem dX12_motion_93 : decode cX12_motion 93 = .ok (.goto (-39), 3) := by decide +kernel
theorem dX12_motion_96 : decode cX12_motion 96 = .ok (.iload_n 2, 1) := by decide +kernel
theorem dX12_motion_97 : decode cX12_motion 97 = .ok (.lookupswitch 47 #[(0, 27), (1, 44)], 27) := by decide +kernel
theorem dX12_motion_124 : decode cX12_motion 124 = .ok (.iconst 2, 1) := by decide +kernel
theorem dX12_motion_125 : decode cX12_motion 125 = .ok (.iload 4, 2) := by decide +kernel
theorem dX12_motion_127 : decode cX12_motion 127 = .ok (.imul, 1) := by decide +kernel
theorem dX12_motion_128 : decode cX12_motion 128 = .ok (.aload_n 0, 1) := by decide +kernel
theorem dX12_motion_129 : decode cX12_motion 129 = .ok (.getfield 407, 3) := by decide +kernel
theorem dX12_motion_132 : decode cX12_motion 132 = .ok (.if_icmp .le 7, 3) := by decide +kernel
theorem dX12_motion_135 : decode cX12_motion 135 = .ok (.iconst 1, 1) := by decide +kernel
theorem dX12_motion_136 : decode cX12_motion 136 = .ok (.goto 4, 3) := by decide +kernel
theorem dX12_motion_139 : decode cX12_motion 139 = .ok (.iconst 0, 1) := by decide +kernel
theorem dX12_motion_140 : decode cX12_motion 140 = .ok (.ireturn, 1) := by decide +kernel
theorem dX12_motion_141 : decode cX12_motion 141 = .ok (.iload 4, 2) := by decide +kernel
theorem dX12_motion_143 : decode cX12_motion 143 = .ok (.ireturn, 1) := by decide +kernel
theorem dX12_motion_144 : decode cX12_motion 144 = .ok (.aload_n 0, 1) := by decide +kernel
theorem dX12_motion_145 : decode cX12_motion 145 = .ok (.iload 4, 2) := by decide +kernel
theorem dX12_motion_147 : decode cX12_motion 147 = .ok (.aload_n 0, 1) := by decide +kernel
theorem dX12_motion_148 : decode cX12_motion 148 = .ok (.invokevirtual 419, 3) := by decide +kernel
theorem dX12_motion_151 : decode cX12_motion 151 = .ok (.iload_n 3, 1) := by decide +kernel
theorem dX12_motion_152 : decode cX12_motion 152 = .ok (.iconst (-1), 1) := by decide +kernel
theorem dX12_motion_153 : decode cX12_motion 153 = .ok (.ixor, 1) := by decide +kernel
theorem dX12_motion_154 : decode cX12_motion 154 = .ok (.iand, 1) := by decide +kernel
theorem dX12_motion_155 : decode cX12_motion 155 = .ok (.invokevirtual 422, 3) := by decide +kernel
theorem dX12_motion_158 : decode cX12_motion 158 = .ok (.ireturn, 1) := by decide +kernel
theorem dX12_takeover_0 : decode cX12_takeover 0 = .ok (.aload_n 0, 1) := by decide +kernel
theorem dX12_takeover_1 : decode cX12_takeover 1 = .ok (.iload_n 1, 1) := by decide +kernel
theorem dX12_takeover_2 : decode cX12_takeover 2 = .ok (.invokevirtual 370, 3) := by decide +kernel
theorem dX12_takeover_5 : decode cX12_takeover 5 = .ok (.ifCond .eq 12, 3) := by decide +kernel
theorem dX12_takeover_8 : decode cX12_takeover 8 = .ok (.iload_n 2, 1) := by decide +kernel
theorem dX12_takeover_9 : decode cX12_takeover 9 = .ok (.iconst 0, 1) := by decide +kernel
theorem dX12_takeover_10 : decode cX12_takeover 10 = .ok (.iconst 1, 1) := by decide +kernel
theorem dX12_takeover_11 : decode cX12_takeover 11 = .ok (.invokestatic 319, 3) := by decide +kernel
theorem dX12_takeover_14 : decode cX12_takeover 14 = .ok (.ifCond .ne 5, 3) := by decide +kernel
theorem dX12_takeover_17 : decode cX12_takeover 17 = .ok (.iconst (-1), 1) := by decide +kernel
theorem dX12_takeover_18 : decode cX12_takeover 18 = .ok (.ireturn, 1) := by decide +kernel
theorem dX12_takeover_19 : decode cX12_takeover 19 = .ok (.aload_n 0, 1) := by decide +kernel
theorem dX12_takeover_20 : decode cX12_takeover 20 = .ok (.invokevirtual 373, 3) := by decide +kernel
theorem dX12_takeover_23 : decode cX12_takeover 23 = .ok (.aload_n 0, 1) := by decide +kernel
theorem dX12_takeover_24 : decode cX12_takeover 24 = .ok (.iconst 0, 1) := by decide +kernel
theorem dX12_takeover_25 : decode cX12_takeover 25 = .ok (.invokevirtual 330, 3) := by decide +kernel
theorem dX12_takeover_28 : decode cX12_takeover 28 = .ok (.istore_n 3, 1) := by decide +kernel
theorem dX12_takeover_29 : decode cX12_takeover 29 = .ok (.iload_n 3, 1) := by decide +kernel
theorem dX12_takeover_30 : decode cX12_takeover 30 = .ok (.iconst 2, 1) := by decide +kernel
theorem dX12_takeover_31 : decode cX12_takeover 31 = .ok (.idiv, 1) := by decide +kernel
theorem dX12_takeover_32 : decode cX12_takeover 32 = .ok (.iconst 1, 1) := by decide +kernel
theorem dX12_takeover_33 : decode cX12_takeover 33 = .ok (.iadd, 1) := by decide +kernel
theorem dX12_takeover_34 : decode cX12_takeover 34 = .ok (.aload_n 0, 1) := by decide +kernel
theorem dX12_takeover_35 : decode cX12_takeover 35 = .ok (.getfield 122, 3) := by decide +kernel
theorem dX12_takeover_38 : decode cX12_takeover 38 = .ok (.iload_n 1, 1) := by decide +kernel
theorem dX12_takeover_39 : decode cX12_takeover 39 = .ok (.iaload, 1) := by decide +kernel
theorem dX12_takeover_40 : decode cX12_takeover 40 = .ok (.isub, 1) := by decide +kernel
theorem dX12_takeover_41 : decode cX12_takeover 41 = .ok (.istore 4, 2) := by decide +kernel
theorem dX12_takeover_43 : decode cX12_takeover 43 = .ok (.iload_n 3, 1) := by decide +kernel
theorem dX12_takeover_44 : decode cX12_takeover 44 = .ok (.ifCond .ne 6, 3) := by decide +kernel
theorem dX12_takeover_47 : decode cX12_takeover 47 = .ok (.bipush (-2), 2) := by decide +kernel
theorem dX12_takeover_49 : decode cX12_takeover 49 = .ok (.ireturn, 1) := by decide +kernel
theorem dX12_takeover_50 : decode cX12_takeover 50 = .ok (.iload 4, 2) := by decide +kernel
theorem dX12_takeover_52 : decode cX12_takeover 52 = .ok (.ifCond .gt 5, 3) := by decide +kernel
theorem dX12_takeover_55 : decode cX12_takeover 55 = .ok (.iconst 0, 1) := by decide +kernel
theorem dX12_takeover_56 : decode cX12_takeover 56 = .ok (.ireturn, 1) := by decide +kernel
theorem dX12_takeover_57 : decode cX12_takeover 57 = .ok (.iload 4, 2) := by decide +kernel
theorem dX12_takeover_59 : decode cX12_takeover 59 = .ok (.aload_n 0, 1) := by decide +kernel
theorem dX12_takeover_60 : decode cX12_takeover 60 = .ok (.invokevirtual 379, 3) := by decide +kernel
theorem dX12_takeover_63 : decode cX12_takeover 63 = .ok (.imul, 1) := by decide +kernel
theorem dX12_takeover_64 : decode cX12_takeover 64 = .ok (.istore 5, 2) := by decide +kernel
theorem dX12_takeover_66 : decode cX12_takeover 66 = .ok (.iload 5, 2) := by decide +kernel
theorem dX12_takeover_68 : decode cX12_takeover 68 = .ok (.aload_n 0, 1) := by decide +kernel
theorem dX12_takeover_69 : decode cX12_takeover 69 = .ok (.getfield 122, 3) := by decide +kernel
theorem dX12_takeover_72 : decode cX12_takeover 72 = .ok (.bipush 7, 2) := by decide +kernel
theorem dX12_takeover_74 : decode cX12_takeover 74 = .ok (.iload_n 1, 1) := by decide +kernel
theorem dX12_takeover_75 : decode cX12_takeover 75 = .ok (.iadd, 1) := by decide +kernel
theorem dX12_takeover_76 : decode cX12_takeover 76 = .ok (.iaload, 1) := by decide +kernel
theorem dX12_takeover_77 : decode cX12_takeover 77 = .ok (.if_icmp .le 6, 3) := by decide +kernel
theorem dX12_takeover_80 : decode cX12_takeover 80 = .ok (.bipush (-2), 2) := by decide +kernel
theorem dX12_takeover_82 : decode cX12_takeover 82 = .ok (.ireturn, 1) := by decide +kernel
theorem dX12_takeover_83 : decode cX12_takeover 83 = .ok (.iload_n 2, 1) := by decide +kernel
theorem dX12_takeover_84 : decode cX12_takeover 84 = .ok (.ifCond .ne 6, 3) := by decide +kernel
theorem dX12_takeover_87 : decode cX12_takeover 87 = .ok (.iload 5, 2) := by decide +kernel
theorem dX12_takeover_89 : decode cX12_takeover 89 = .ok (.ireturn, 1) := by decide +kernel
theorem dX12_takeover_90 : decode cX12_takeover 90 = .ok (.iconst 0, 1) := by decide +kernel
theorem dX12_takeover_91 : decode cX12_takeover 91 = .ok (.istore 6, 2) := by decide +kernel
theorem dX12_takeover_93 : decode cX12_takeover 93 = .ok (.iconst 1, 1) := by decide +kernel
theorem dX12_takeover_94 : decode cX12_takeover 94 = .ok (.iload_n 1, 1) := by decide +kernel
theorem dX12_takeover_95 : decode cX12_takeover 95 = .ok (.ishl, 1) := by decide +kernel
theorem dX12_takeover_96 : decode cX12_takeover 96 = .ok (.istore 7, 2) := by decide +kernel
theorem dX12_takeover_98 : decode cX12_takeover 98 = .ok (.iload 4, 2) := by decide +kernel
theorem dX12_takeover_100 : decode cX12_takeover 100 = .ok (.ifCond .le 92, 3) := by decide +kernel
theorem dX12_takeover_103 : decode cX12_takeover 103 = .ok (.iconst (-1), 1) := by decide +kernel
theorem dX12_takeover_104 : decode cX12_takeover 104 = .ok (.istore 8, 2) := by decide +kernel
theorem dX12_takeover_106 : decode cX12_takeover 106 = .ok (.iconst 0, 1) := by decide +kernel
theorem dX12_takeover_107 : decode cX12_takeover 107 = .ok (.istore 9, 2) := by decide +kernel
theorem dX12_takeover_109 : decode cX12_takeover 109 = .ok (.iload 9, 2) := by decide +kernel
theorem dX12_takeover_111 : decode cX12_takeover 111 = .ok (.aload_n 0, 1) := by decide +kernel
theorem dX12_takeover_112 : decode cX12_takeover 112 = .ok (.getfield 46, 3) := by decide +kernel
theorem dX12_takeover_115 : decode cX12_takeover 115 = .ok (.aload_n 0, 1) := by decide +kernel
theorem dX12_takeover_116 : decode cX12_takeover 116 = .ok (.getfield 233, 3) := by decide +kernel
theorem dX12_takeover_119 : decode cX12_takeover 119 = .ok (.iaload, 1) := by decide +kernel
theorem dX12_takeover_120 : decode cX12_takeover 120 = .ok (.if_icmp .ge 45, 3) := by decide +kernel
theorem dX12_takeover_123 : decode cX12_takeover 123 = .ok (.iload 7, 2) := by decide +kernel
theorem dX12_takeover_125 : decode cX12_takeover 125 = .ok (.iload 9, 2) := by decide +kernel
theorem dX12_takeover_127 : decode cX12_takeover 127 = .ok (.ishr, 1) := by decide +kernel
theorem dX12_takeover_128 : decode cX12_takeover 128 = .ok (.iconst 1, 1) := by decide +kernel
theorem dX12_takeover_129 : decode cX12_takeover 129 = .ok (.iand, 1) := by decide +kernel
theorem dX12_takeover_130 : decode cX12_takeover 130 = .ok (.ifCond .ne 29, 3) := by decide +kernel
theorem dX12_takeover_133 : decode cX12_takeover 133 = .ok (.iload 8, 2) := by decide +kernel
theorem dX12_takeover_135 : decode cX12_takeover 135 = .ok (.ifCond .lt 20, 3) := by decide +kernel
theorem dX12_takeover_138 : decode cX12_takeover 138 = .ok (.aload_n 0, 1) := by decide +kernel
theorem dX12_takeover_139 : decode cX12_takeover 139 = .ok (.getfield 122, 3) := by decide +kernel
theorem dX12_takeover_142 : decode cX12_takeover 142 = .ok (.iload 9, 2) := by decide +kernel
theorem dX12_takeover_144 : decode cX12_takeover 144 = .ok (.iaload, 1) := by decide +kernel
theorem dX12_takeover_145 : decode cX12_takeover 145 = .ok (.aload_n 0, 1) := by decide +kernel
theorem dX12_takeover_146 : decode cX12_takeover 146 = .ok (.getfield 122, 3) := by decide +kernel
theorem dX12_takeover_149 : decode cX12_takeover 149 = .ok (.iload 8, 2) := by decide +kernel
theorem dX12_takeover_151 : decode cX12_takeover 151 = .ok (.iaload, 1) := by decide +kernel
theorem dX12_takeover_152 : decode cX12_takeover 152 = .ok (.if_icmp .le 7, 3) := by decide +kernel
theorem dX12_takeover_155 : decode cX12_takeover 155 = .ok (.iload 9, 2) := by decide +kernel
theorem dX12_takeover_157 : decode cX12_takeover 157 = .ok (.istore 8, 2) := by decide +kernel
theorem dX12_takeover_159 : decode cX12_takeover 159 = .ok (.iinc 9 1, 3) := by decide +kernel
theorem dX12_takeover_162 : decode cX12_takeover 162 = .ok (.goto (-53), 3) := by decide +kernel
theorem dX12_takeover_165 : decode cX12_takeover 165 = .ok (.iload 7, 2) := by decide +kernel
theorem dX12_takeover_167 : decode cX12_takeover 167 = .ok (.iconst 1, 1) := by decide +kernel
theorem dX12_takeover_168 : decode cX12_takeover 168 = .ok (.iload 8, 2) := by decide +kernel
theorem dX12_takeover_170 : decode cX12_takeover 170 = .ok (.ishl, 1) := by decide +kernel
theorem dX12_takeover_171 : decode cX12_takeover 171 = .ok (.ior, 1) := by decide +kernel
theorem dX12_takeover_172 : decode cX12_takeover 172 = .ok (.istore 7, 2) := by decide +kernel
theorem dX12_takeover_174 : decode cX12_takeover 174 = .ok (.iload 4, 2) := by decide +kernel
theorem dX12_takeover_176 : decode cX12_takeover 176 = .ok (.aload_n 0, 1) := by decide +kernel
theorem dX12_takeover_177 : decode cX12_takeover 177 = .ok (.getfield 122, 3) := by decide +kernel
theorem dX12_takeover_180 : decode cX12_takeover 180 = .ok (.iload 8, 2) := by decide +kernel
theorem dX12_takeover_182 : decode cX12_takeover 182 = .ok (.iaload, 1) := by decide +kernel
theorem dX12_takeover_183 : decode cX12_takeover 183 = .ok (.isub, 1) := by decide +kernel
theorem dX12_takeover_184 : decode cX12_takeover 184 = .ok (.istore 4, 2) := by decide +kernel
theorem dX12_takeover_186 : decode cX12_takeover 186 = .ok (.iinc 6 1, 3) := by decide +kernel
theorem dX12_takeover_189 : decode cX12_takeover 189 = .ok (.goto (-91), 3) := by decide +kernel
theorem dX12_takeover_192 : decode cX12_takeover 192 = .ok (.iload 6, 2) := by decide +kernel
theorem dX12_takeover_194 : decode cX12_takeover 194 = .ok (.ireturn, 1) := by decide +kernel
theorem dX12_isFew_0 : decode cX12_isFew 0 = .ok (.iload_n 0, 1) := by decide +kernel
theorem dX12_isFew_1 : decode cX12_isFew 1 = .ok (.iconst 0, 1) := by decide +kernel
theorem dX12_isFew_2 : decode cX12_isFew 2 = .ok (.bipush 24, 2) := by decide +kernel
theorem dX12_isFew_4 : decode cX12_isFew 4 = .ok (.invokestatic 319, 3) := by decide +kernel
theorem dX12_isFew_7 : decode cX12_isFew 7 = .ok (.ireturn, 1) := by decide +kernel
theorem dX12_isLong_0 : decode cX12_isLong 0 = .ok (.iload_n 0, 1) := by decide +kernel
theorem dX12_isLong_1 : decode cX12_isLong 1 = .ok (.iconst 0, 1) := by decide +kernel
theorem dX12_isLong_2 : decode cX12_isLong 2 = .ok (.bipush 60, 2) := by decide +kernel
theorem dX12_isLong_4 : decode cX12_isLong 4 = .ok (.invokestatic 319, 3) := by decide +kernel
theorem dX12_isLong_7 : decode cX12_isLong 7 = .ok (.ireturn, 1) := by decide +kernel
theorem dX12_sell_0 : decode cX12_sell 0 = .ok (.aload_n 0, 1) := by decide +kernel
theorem dX12_sell_1 : decode cX12_sell 1 = .ok (.iload_n 1, 1) := by decide +kernel
theorem dX12_sell_2 : decode cX12_sell 2 = .ok (.invokevirtual 370, 3) := by decide +kernel
theorem dX12_sell_5 : decode cX12_sell 5 = .ok (.ifCond .eq 19, 3) := by decide +kernel
theorem dX12_sell_8 : decode cX12_sell 8 = .ok (.iload_n 2, 1) := by decide +kernel
theorem dX12_sell_9 : decode cX12_sell 9 = .ok (.invokestatic 425, 3) := by decide +kernel
theorem dX12_sell_12 : decode cX12_sell 12 = .ok (.ifCond .eq 12, 3) := by decide +kernel
theorem dX12_sell_15 : decode cX12_sell 15 = .ok (.iload_n 3, 1) := by decide +kernel
theorem dX12_sell_16 : decode cX12_sell 16 = .ok (.iconst 0, 1) := by decide +kernel
theorem dX12_sell_17 : decode cX12_sell 17 = .ok (.iconst 1, 1) := by decide +kernel
theorem dX12_sell_18 : decode cX12_sell 18 = .ok (.invokestatic 319, 3) := by decide +kernel
theorem dX12_sell_21 : decode cX12_sell 21 = .ok (.ifCond .ne 5, 3) := by decide +kernel
theorem dX12_sell_24 : decode cX12_sell 24 = .ok (.iconst (-1), 1) := by decide +kernel
theorem dX12_sell_25 : decode cX12_sell 25 = .ok (.ireturn, 1) := by decide +kernel
theorem dX12_sell_26 : decode cX12_sell 26 = .ok (.aload_n 0, 1) := by decide +kernel
theorem dX12_sell_27 : decode cX12_sell 27 = .ok (.invokevirtual 373, 3) := by decide +kernel
theorem dX12_sell_30 : decode cX12_sell 30 = .ok (.iconst 0, 1) := by decide +kernel
theorem dX12_sell_31 : decode cX12_sell 31 = .ok (.istore 4, 2) := by decide +kernel
theorem dX12_sell_33 : decode cX12_sell 33 = .ok (.iconst (-1), 1) := by decide +kernel
theorem dX12_sell_34 : decode cX12_sell 34 = .ok (.istore 5, 2) := by decide +kernel
theorem dX12_sell_36 : decode cX12_sell 36 = .ok (.iconst 0, 1) := by decide +kernel
theorem dX12_sell_37 : decode cX12_sell 37 = .ok (.istore 6, 2) := by decide +kernel
theorem dX12_sell_39 : decode cX12_sell 39 = .ok (.iload 6, 2) := by decide +kernel
theorem dX12_sell_41 : decode cX12_sell 41 = .ok (.iload_n 2, 1) := by decide +kernel
theorem dX12_sell_42 : decode cX12_sell 42 = .ok (.if_icmp .gt 41, 3) := by decide +kernel
theorem dX12_sell_45 : decode cX12_sell 45 = .ok (.aload_n 0, 1) := by decide +kernel
theorem dX12_sell_46 : decode cX12_sell 46 = .ok (.getfield 122, 3) := by decide +kernel
theorem dX12_sell_49 : decode cX12_sell 49 = .ok (.iload_n 1, 1) := by decide +kernel
theorem dX12_sell_50 : decode cX12_sell 50 = .ok (.iaload, 1) := by decide +kernel
theorem dX12_sell_51 : decode cX12_sell 51 = .ok (.aload_n 0, 1) := by decide +kernel
theorem dX12_sell_52 : decode cX12_sell 52 = .ok (.invokevirtual 379, 3) := by decide +kernel
theorem dX12_sell_55 : decode cX12_sell 55 = .ok (.imul, 1) := by decide +kernel
theorem dX12_sell_56 : decode cX12_sell 56 = .ok (.istore 7, 2) := by decide +kernel
theorem dX12_sell_58 : decode cX12_sell 58 = .ok (.iload 7, 2) := by decide +kernel
theorem dX12_sell_60 : decode cX12_sell 60 = .ok (.iload 5, 2) := by decide +kernel
theorem dX12_sell_62 : decode cX12_sell 62 = .ok (.if_icmp .le 11, 3) := by decide +kernel
theorem dX12_sell_65 : decode cX12_sell 65 = .ok (.iload 6, 2) := by decide +kernel
theorem dX12_sell_67 : decode cX12_sell 67 = .ok (.istore 4, 2) := by decide +kernel
theorem dX12_sell_69 : decode cX12_sell 69 = .ok (.iload 7, 2) := by decide +kernel
theorem dX12_sell_71 : decode cX12_sell 71 = .ok (.istore 5, 2) := by decide +kernel
theorem dX12_sell_73 : decode cX12_sell 73 = .ok (.aload_n 0, 1) := by decide +kernel
theorem dX12_sell_74 : decode cX12_sell 74 = .ok (.invokevirtual 364, 3) := by decide +kernel
theorem dX12_sell_77 : decode cX12_sell 77 = .ok (.iinc 6 1, 3) := by decide +kernel
theorem dX12_sell_80 : decode cX12_sell 80 = .ok (.goto (-41), 3) := by decide +kernel
theorem dX12_sell_83 : decode cX12_sell 83 = .ok (.iload_n 3, 1) := by decide +kernel
theorem dX12_sell_84 : decode cX12_sell 84 = .ok (.ifCond .ne 8, 3) := by decide +kernel
theorem dX12_sell_87 : decode cX12_sell 87 = .ok (.iload 4, 2) := by decide +kernel
theorem dX12_sell_89 : decode cX12_sell 89 = .ok (.goto 5, 3) := by decide +kernel
theorem dX12_sell_92 : decode cX12_sell 92 = .ok (.iload 5, 2) := by decide +kernel
theorem dX12_sell_94 : decode cX12_sell 94 = .ok (.ireturn, 1) := by decide +kernel
theorem dX12_hasWith_0 : decode cX12_hasWith 0 = .ok (.aload_n 0, 1) := by decide +kernel
theorem dX12_hasWith_1 : decode cX12_hasWith 1 = .ok (.invokevirtual 373, 3) := by decide +kernel
theorem dX12_hasWith_4 : decode cX12_hasWith 4 = .ok (.aload_n 0, 1) := by decide +kernel
theorem dX12_hasWith_5 : decode cX12_hasWith 5 = .ok (.getfield 122, 3) := by decide +kernel
theorem dX12_hasWith_8 : decode cX12_hasWith 8 = .ok (.bipush 14, 2) := by decide +kernel
theorem dX12_hasWith_10 : decode cX12_hasWith 10 = .ok (.iload_n 1, 1) := by decide +kernel
theorem dX12_hasWith_11 : decode cX12_hasWith 11 = .ok (.iadd, 1) := by decide +kernel
theorem dX12_hasWith_12 : decode cX12_hasWith 12 = .ok (.dup2, 1) := by decide +kernel
theorem dX12_hasWith_13 : decode cX12_hasWith 13 = .ok (.iaload, 1) := by decide +kernel
theorem dX12_hasWith_14 : decode cX12_hasWith 14 = .ok (.iload_n 2, 1) := by decide +kernel
theorem dX12_hasWith_15 : decode cX12_hasWith 15 = .ok (.iadd, 1) := by decide +kernel
theorem dX12_hasWith_16 : decode cX12_hasWith 16 = .ok (.iastore, 1) := by decide +kernel
theorem dX12_hasWith_17 : decode cX12_hasWith 17 = .ok (.aload_n 0, 1) := by decide +kernel
theorem dX12_hasWith_18 : decode cX12_hasWith 18 = .ok (.iload_n 3, 1) := by decide +kernel
theorem dX12_hasWith_19 : decode cX12_hasWith 19 = .ok (.invokevirtual 391, 3) := by decide +kernel
theorem dX12_hasWith_22 : decode cX12_hasWith 22 = .ok (.aload_n 0, 1) := by decide +kernel
theorem dX12_hasWith_23 : decode cX12_hasWith 23 = .ok (.getfield 122, 3) := by decide +kernel
theorem dX12_hasWith_26 : decode cX12_hasWith 26 = .ok (.iload_n 1, 1) := by decide +kernel
theorem dX12_hasWith_27 : decode cX12_hasWith 27 = .ok (.iaload, 1) := by decide +kernel
theorem dX12_hasWith_28 : decode cX12_hasWith 28 = .ok (.ireturn, 1) := by decide +kernel
theorem dX12_salting_0 : decode cX12_salting 0 = .ok (.aload_n 0, 1) := by decide +kernel
theorem dX12_salting_1 : decode cX12_salting 1 = .ok (.iload_n 1, 1) := by decide +kernel
theorem dX12_salting_2 : decode cX12_salting 2 = .ok (.invokevirtual 370, 3) := by decide +kernel
theorem dX12_salting_5 : decode cX12_salting 5 = .ok (.ifCond .eq 13, 3) := by decide +kernel
theorem dX12_salting_8 : decode cX12_salting 8 = .ok (.iload_n 2, 1) := by decide +kernel
theorem dX12_salting_9 : decode cX12_salting 9 = .ok (.iconst 1, 1) := by decide +kernel
theorem dX12_salting_10 : decode cX12_salting 10 = .ok (.bipush 24, 2) := by decide +kernel
theorem dX12_salting_12 : decode cX12_salting 12 = .ok (.invokestatic 319, 3) := by decide +kernel
theorem dX12_salting_15 : decode cX12_salting 15 = .ok (.ifCond .ne 5, 3) := by decide +kernel
theorem dX12_salting_18 : decode cX12_salting 18 = .ok (.iconst (-1), 1) := by decide +kernel
theorem dX12_salting_19 : decode cX12_salting 19 = .ok (.ireturn, 1) := by decide +kernel
theorem dX12_salting_20 : decode cX12_salting 20 = .ok (.aload_n 0, 1) := by decide +kernel
theorem dX12_salting_21 : decode cX12_salting 21 = .ok (.getfield 119, 3) := by decide +kernel
theorem dX12_salting_24 : decode cX12_salting 24 = .ok (.iload_n 1, 1) := by decide +kernel
theorem dX12_salting_25 : decode cX12_salting 25 = .ok (.iaload, 1) := by decide +kernel
theorem dX12_salting_26 : decode cX12_salting 26 = .ok (.aload_n 0, 1) := by decide +kernel
theorem dX12_salting_27 : decode cX12_salting 27 = .ok (.getfield 119, 3) := by decide +kernel
theorem dX12_salting_30 : decode cX12_salting 30 = .ok (.bipush 14, 2) := by decide +kernel
theorem dX12_salting_32 : decode cX12_salting 32 = .ok (.iload_n 1, 1) := by decide +kernel
theorem dX12_salting_33 : decode cX12_salting 33 = .ok (.iadd, 1) := by decide +kernel
theorem dX12_salting_34 : decode cX12_salting 34 = .ok (.iaload, 1) := by decide +kernel
theorem dX12_salting_35 : decode cX12_salting 35 = .ok (.isub, 1) := by decide +kernel
theorem dX12_salting_36 : decode cX12_salting 36 = .ok (.istore_n 3, 1) := by decide +kernel
theorem dX12_salting_37 : decode cX12_salting 37 = .ok (.aload_n 0, 1) := by decide +kernel
theorem dX12_salting_38 : decode cX12_salting 38 = .ok (.iload_n 1, 1) := by decide +kernel
theorem dX12_salting_39 : decode cX12_salting 39 = .ok (.iload_n 3, 1) := by decide +kernel
theorem dX12_salting_40 : decode cX12_salting 40 = .ok (.iload_n 2, 1) := by decide +kernel
theorem dX12_salting_41 : decode cX12_salting 41 = .ok (.invokevirtual 428, 3) := by decide +kernel
theorem dX12_salting_44 : decode cX12_salting 44 = .ok (.istore 4, 2) := by decide +kernel
theorem dX12_salting_46 : decode cX12_salting 46 = .ok (.iconst 0, 1) := by decide +kernel
theorem dX12_salting_47 : decode cX12_salting 47 = .ok (.istore 5, 2) := by decide +kernel
theorem dX12_salting_49 : decode cX12_salting 49 = .ok (.iload 5, 2) := by decide +kernel
theorem dX12_salting_51 : decode cX12_salting 51 = .ok (.bipush 99, 2) := by decide +kernel
theorem dX12_salting_53 : decode cX12_salting 53 = .ok (.if_icmp .gt 31, 3) := by decide +kernel
theorem dX12_salting_56 : decode cX12_salting 56 = .ok (.iload 5, 2) := by decide +kernel
theorem dX12_salting_58 : decode cX12_salting 58 = .ok (.iload_n 3, 1) := by decide +kernel
theorem dX12_salting_59 : decode cX12_salting 59 = .ok (.if_icmp .gt 25, 3) := by decide +kernel
theorem dX12_salting_62 : decode cX12_salting 62 = .ok (.aload_n 0, 1) := by decide +kernel
theorem dX12_salting_63 : decode cX12_salting 63 = .ok (.iload_n 1, 1) := by decide +kernel
theorem dX12_salting_64 : decode cX12_salting 64 = .ok (.iload 5, 2) := by decide +kernel
theorem dX12_salting_66 : decode cX12_salting 66 = .ok (.iload_n 2, 1) := by decide +kernel
theorem dX12_salting_67 : decode cX12_salting 67 = .ok (.invokevirtual 428, 3) := by decide +kernel
theorem dX12_salting_70 : decode cX12_salting 70 = .ok (.iload 4, 2) := by decide +kernel
theorem dX12_salting_72 : decode cX12_salting 72 = .ok (.if_icmp .lt 6, 3) := by decide +kernel
theorem dX12_salting_75 : decode cX12_salting 75 = .ok (.iload 5, 2) := by decide +kernel
theorem dX12_salting_77 : decode cX12_salting 77 = .ok (.ireturn, 1) := by decide +kernel
theorem dX12_salting_78 : decode cX12_salting 78 = .ok (.iinc 5 1, 3) := by decide +kernel
theorem dX12_salting_81 : decode cX12_salting 81 = .ok (.goto (-32), 3) := by decide +kernel
theorem dX12_salting_84 : decode cX12_salting 84 = .ok (.bipush (-2), 2) := by decide +kernel
theorem dX12_salting_86 : decode cX12_salting 86 = .ok (.ireturn, 1) := by decide +kernel
theorem dX12_dearest_0 : decode cX12_dearest 0 = .ok (.iload_n 1, 1) := by decide +kernel
theorem dX12_dearest_1 : decode cX12_dearest 1 = .ok (.invokestatic 425, 3) := by decide +kernel
theorem dX12_dearest_4 : decode cX12_dearest 4 = .ok (.ifCond .eq 12, 3) := by decide +kernel
theorem dX12_dearest_7 : decode cX12_dearest 7 = .ok (.iload_n 2, 1) := by decide +kernel
theorem dX12_dearest_8 : decode cX12_dearest 8 = .ok (.iconst 0, 1) := by decide +kernel
theorem dX12_dearest_9 : decode cX12_dearest 9 = .ok (.iconst 1, 1) := by decide +kernel
theorem dX12_dearest_10 : decode cX12_dearest 10 = .ok (.invokestatic 319, 3) := by decide +kernel
theorem dX12_dearest_13 : decode cX12_dearest 13 = .ok (.ifCond .ne 5, 3) := by decide +kernel
theorem dX12_dearest_16 : decode cX12_dearest 16 = .ok (.iconst (-1), 1) := by decide +kernel
theorem dX12_dearest_17 : decode cX12_dearest 17 = .ok (.ireturn, 1) := by decide +kernel
theorem dX12_dearest_18 : decode cX12_dearest 18 = .ok (.aload_n 0, 1) := by decide +kernel
theorem dX12_dearest_19 : decode cX12_dearest 19 = .ok (.invokevirtual 373, 3) := by decide +kernel
theorem dX12_dearest_22 : decode cX12_dearest 22 = .ok (.iconst 0, 1) := by decide +kernel
theorem dX12_dearest_23 : decode cX12_dearest 23 = .ok (.istore_n 3, 1) := by decide +kernel
theorem dX12_dearest_24 : decode cX12_dearest 24 = .ok (.iconst (-1), 1) := by decide +kernel
theorem dX12_dearest_25 : decode cX12_dearest 25 = .ok (.istore 4, 2) := by decide +kernel
theorem dX12_dearest_27 : decode cX12_dearest 27 = .ok (.iconst 0, 1) := by decide +kernel
theorem dX12_dearest_28 : decode cX12_dearest 28 = .ok (.istore 5, 2) := by decide +kernel
theorem dX12_dearest_30 : decode cX12_dearest 30 = .ok (.iload 5, 2) := by decide +kernel
theorem dX12_dearest_32 : decode cX12_dearest 32 = .ok (.iload_n 1, 1) := by decide +kernel
theorem dX12_dearest_33 : decode cX12_dearest 33 = .ok (.if_icmp .gt 33, 3) := by decide +kernel
theorem dX12_dearest_36 : decode cX12_dearest 36 = .ok (.aload_n 0, 1) := by decide +kernel
theorem dX12_dearest_37 : decode cX12_dearest 37 = .ok (.invokevirtual 379, 3) := by decide +kernel
theorem dX12_dearest_40 : decode cX12_dearest 40 = .ok (.istore 6, 2) := by decide +kernel
theorem dX12_dearest_42 : decode cX12_dearest 42 = .ok (.iload 6, 2) := by decide +kernel
theorem dX12_dearest_44 : decode cX12_dearest 44 = .ok (.iload 4, 2) := by decide +kernel
theorem dX12_dearest_46 : decode cX12_dearest 46 = .ok (.if_icmp .le 10, 3) := by decide +kernel
theorem dX12_dearest_49 : decode cX12_dearest 49 = .ok (.iload 5, 2) := by decide +kernel
theorem dX12_dearest_51 : decode cX12_dearest 51 = .ok (.istore_n 3, 1) := by decide +kernel
theorem dX12_dearest_52 : decode cX12_dearest 52 = .ok (.iload 6, 2) := by decide +kernel
theorem dX12_dearest_54 : decode cX12_dearest 54 = .ok (.istore 4, 2) := by decide +kernel
theorem dX12_dearest_56 : decode cX12_dearest 56 = .ok (.aload_n 0, 1) := by decide +kernel
theorem dX12_dearest_57 : decode cX12_dearest 57 = .ok (.invokevirtual 364, 3) := by decide +kernel
theorem dX12_dearest_60 : decode cX12_dearest 60 = .ok (.iinc 5 1, 3) := by decide +kernel
theorem dX12_dearest_63 : decode cX12_dearest 63 = .ok (.goto (-33), 3) := by decide +kernel
theorem dX12_dearest_66 : decode cX12_dearest 66 = .ok (.iload_n 2, 1) := by decide +kernel
theorem dX12_dearest_67 : decode cX12_dearest 67 = .ok (.ifCond .ne 7, 3) := by decide +kernel
theorem dX12_dearest_70 : decode cX12_dearest 70 = .ok (.iload_n 3, 1) := by decide +kernel
theorem dX12_dearest_71 : decode cX12_dearest 71 = .ok (.goto 5, 3) := by decide +kernel
theorem dX12_dearest_74 : decode cX12_dearest 74 = .ok (.iload 4, 2) := by decide +kernel
theorem dX12_dearest_76 : decode cX12_dearest 76 = .ok (.ireturn, 1) := by decide +kernel
theorem dX12_poorest_0 : decode cX12_poorest 0 = .ok (.iload_n 1, 1) := by decide +kernel
theorem dX12_poorest_1 : decode cX12_poorest 1 = .ok (.invokestatic 431, 3) := by decide +kernel
theorem dX12_poorest_4 : decode cX12_poorest 4 = .ok (.ifCond .eq 12, 3) := by decide +kernel
theorem dX12_poorest_7 : decode cX12_poorest 7 = .ok (.iload_n 2, 1) := by decide +kernel
theorem dX12_poorest_8 : decode cX12_poorest 8 = .ok (.iconst 0, 1) := by decide +kernel
theorem dX12_poorest_9 : decode cX12_poorest 9 = .ok (.iconst 1, 1) := by decide +kernel
theorem dX12_poorest_10 : decode cX12_poorest 10 = .ok (.invokestatic 319, 3) := by decide +kernel
theorem dX12_poorest_13 : decode cX12_poorest 13 = .ok (.ifCond .ne 5, 3) := by decide +kernel
theorem dX12_poorest_16 : decode cX12_poorest 16 = .ok (.iconst (-1), 1) := by decide +kernel
theorem dX12_poorest_17 : decode cX12_poorest 17 = .ok (.ireturn, 1) := by decide +kernel
theorem dX12_poorest_18 : decode cX12_poorest 18 = .ok (.aload_n 0, 1) := by decide +kernel
theorem dX12_poorest_19 : decode cX12_poorest 19 = .ok (.invokevirtual 373, 3) := by decide +kernel
theorem dX12_poorest_22 : decode cX12_poorest 22 = .ok (.aload_n 0, 1) := by decide +kernel
theorem dX12_poorest_23 : decode cX12_poorest 23 = .ok (.iload_n 1, 1) := by decide +kernel
theorem dX12_poorest_24 : decode cX12_poorest 24 = .ok (.invokevirtual 391, 3) := by decide +kernel
theorem dX12_poorest_27 : decode cX12_poorest 27 = .ok (.bipush (-2), 2) := by decide +kernel
theorem dX12_poorest_29 : decode cX12_poorest 29 = .ok (.istore_n 3, 1) := by decide +kernel
theorem dX12_poorest_30 : decode cX12_poorest 30 = .ok (.iconst 0, 1) := by decide +kernel
theorem dX12_poorest_31 : decode cX12_poorest 31 = .ok (.istore 4, 2) := by decide +kernel
theorem dX12_poorest_33 : decode cX12_poorest 33 = .ok (.iload 4, 2) := by decide +kernel
theorem dX12_poorest_35 : decode cX12_poorest 35 = .ok (.aload_n 0, 1) := by decide +kernel
theorem dX12_poorest_36 : decode cX12_poorest 36 = .ok (.getfield 46, 3) := by decide +kernel
theorem dX12_poorest_39 : decode cX12_poorest 39 = .ok (.aload_n 0, 1) := by decide +kernel
theorem dX12_poorest_40 : decode cX12_poorest 40 = .ok (.getfield 233, 3) := by decide +kernel
theorem dX12_poorest_43 : decode cX12_poorest 43 = .ok (.iaload, 1) := by decide +kernel
theorem dX12_poorest_44 : decode cX12_poorest 44 = .ok (.if_icmp .ge 32, 3) := by decide +kernel
theorem dX12_poorest_47 : decode cX12_poorest 47 = .ok (.iload_n 3, 1) := by decide +kernel
theorem dX12_poorest_48 : decode cX12_poorest 48 = .ok (.ifCond .lt 19, 3) := by decide +kernel
theorem dX12_poorest_51 : decode cX12_poorest 51 = .ok (.aload_n 0, 1) := by decide +kernel
theorem dX12_poorest_52 : decode cX12_poorest 52 = .ok (.getfield 122, 3) := by decide +kernel
theorem dX12_poorest_55 : decode cX12_poorest 55 = .ok (.iload 4, 2) := by decide +kernel
theorem dX12_poorest_57 : decode cX12_poorest 57 = .ok (.iaload, 1) := by decide +kernel
theorem dX12_poorest_58 : decode cX12_poorest 58 = .ok (.aload_n 0, 1) := by decide +kernel
theorem dX12_poorest_59 : decode cX12_poorest 59 = .ok (.getfield 122, 3) := by decide +kernel
theorem dX12_poorest_62 : decode cX12_poorest 62 = .ok (.iload_n 3, 1) := by decide +kernel
theorem dX12_poorest_63 : decode cX12_poorest 63 = .ok (.iaload, 1) := by decide +kernel
theorem dX12_poorest_64 : decode cX12_poorest 64 = .ok (.if_icmp .ge 6, 3) := by decide +kernel
theorem dX12_poorest_67 : decode cX12_poorest 67 = .ok (.iload 4, 2) := by decide +kernel
theorem dX12_poorest_69 : decode cX12_poorest 69 = .ok (.istore_n 3, 1) := by decide +kernel
theorem dX12_poorest_70 : decode cX12_poorest 70 = .ok (.iinc 4 1, 3) := by decide +kernel
theorem dX12_poorest_73 : decode cX12_poorest 73 = .ok (.goto (-40), 3) := by decide +kernel
theorem dX12_poorest_76 : decode cX12_poorest 76 = .ok (.iload_n 3, 1) := by decide +kernel
theorem dX12_poorest_77 : decode cX12_poorest 77 = .ok (.ifCond .lt 7, 3) := by decide +kernel
theorem dX12_poorest_80 : decode cX12_poorest 80 = .ok (.iload_n 2, 1) := by decide +kernel
theorem dX12_poorest_81 : decode cX12_poorest 81 = .ok (.ifCond .ne 7, 3) := by decide +kernel
theorem dX12_poorest_84 : decode cX12_poorest 84 = .ok (.iload_n 3, 1) := by decide +kernel
theorem dX12_poorest_85 : decode cX12_poorest 85 = .ok (.goto 9, 3) := by decide +kernel
theorem dX12_poorest_88 : decode cX12_poorest 88 = .ok (.aload_n 0, 1) := by decide +kernel
theorem dX12_poorest_89 : decode cX12_poorest 89 = .ok (.getfield 122, 3) := by decide +kernel
theorem dX12_poorest_92 : decode cX12_poorest 92 = .ok (.iload_n 3, 1) := by decide +kernel
theorem dX12_poorest_93 : decode cX12_poorest 93 = .ok (.iaload, 1) := by decide +kernel
theorem dX12_poorest_94 : decode cX12_poorest 94 = .ok (.ireturn, 1) := by decide +kernel
theorem dX12_quiet_0 : decode cX12_quiet 0 = .ok (.aload_n 0, 1) := by decide +kernel
theorem dX12_quiet_1 : decode cX12_quiet 1 = .ok (.iload_n 1, 1) := by decide +kernel
theorem dX12_quiet_2 : decode cX12_quiet 2 = .ok (.invokevirtual 370, 3) := by decide +kernel
theorem dX12_quiet_5 : decode cX12_quiet 5 = .ok (.ifCond .ne 5, 3) := by decide +kernel
theorem dX12_quiet_8 : decode cX12_quiet 8 = .ok (.iconst (-1), 1) := by decide +kernel
theorem dX12_quiet_9 : decode cX12_quiet 9 = .ok (.ireturn, 1) := by decide +kernel
theorem dX12_quiet_10 : decode cX12_quiet 10 = .ok (.iconst 0, 1) := by decide +kernel
theorem dX12_quiet_11 : decode cX12_quiet 11 = .ok (.istore_n 2, 1) := by decide +kernel
theorem dX12_quiet_12 : decode cX12_quiet 12 = .ok (.iconst 0, 1) := by decide +kernel
theorem dX12_quiet_13 : decode cX12_quiet 13 = .ok (.istore_n 3, 1) := by decide +kernel
theorem dX12_quiet_14 : decode cX12_quiet 14 = .ok (.iload_n 3, 1) := by decide +kernel
theorem dX12_quiet_15 : decode cX12_quiet 15 = .ok (.aload_n 0, 1) := by decide +kernel
theorem dX12_quiet_16 : decode cX12_quiet 16 = .ok (.getfield 46, 3) := by decide +kernel
theorem dX12_quiet_19 : decode cX12_quiet 19 = .ok (.aload_n 0, 1) := by decide +kernel
theorem dX12_quiet_20 : decode cX12_quiet 20 = .ok (.getfield 233, 3) := by decide +kernel
theorem dX12_quiet_23 : decode cX12_quiet 23 = .ok (.iaload, 1) := by decide +kernel
theorem dX12_quiet_24 : decode cX12_quiet 24 = .ok (.if_icmp .ge 28, 3) := by decide +kernel
theorem dX12_quiet_27 : decode cX12_quiet 27 = .ok (.aload_n 0, 1) := by decide +kernel
theorem dX12_quiet_28 : decode cX12_quiet 28 = .ok (.iload_n 3, 1) := by decide +kernel
theorem dX12_quiet_29 : decode cX12_quiet 29 = .ok (.iconst 0, 1) := by decide +kernel
theorem dX12_quiet_30 : decode cX12_quiet 30 = .ok (.invokevirtual 397, 3) := by decide +kernel
theorem dX12_quiet_33 : decode cX12_quiet 33 = .ok (.iload_n 1, 1) := by decide +kernel
theorem dX12_quiet_34 : decode cX12_quiet 34 = .ok (.ishr, 1) := by decide +kernel
theorem dX12_quiet_35 : decode cX12_quiet 35 = .ok (.iconst 1, 1) := by decide +kernel
theorem dX12_quiet_36 : decode cX12_quiet 36 = .ok (.iand, 1) := by decide +kernel
theorem dX12_quiet_37 : decode cX12_quiet 37 = .ok (.ifCond .ne 9, 3) := by decide +kernel
theorem dX12_quiet_40 : decode cX12_quiet 40 = .ok (.iload_n 2, 1) := by decide +kernel
theorem dX12_quiet_41 : decode cX12_quiet 41 = .ok (.iconst 1, 1) := by decide +kernel
theorem dX12_quiet_42 : decode cX12_quiet 42 = .ok (.iload_n 3, 1) := by decide +kernel
theorem dX12_quiet_43 : decode cX12_quiet 43 = .ok (.ishl, 1) := by decide +kernel
theorem dX12_quiet_44 : decode cX12_quiet 44 = .ok (.ior, 1) := by decide +kernel
theorem dX12_quiet_45 : decode cX12_quiet 45 = .ok (.istore_n 2, 1) := by decide +kernel
theorem dX12_quiet_46 : decode cX12_quiet 46 = .ok (.iinc 3 1, 3) := by decide +kernel
theorem dX12_quiet_49 : decode cX12_quiet 49 = .ok (.goto (-35), 3) := by decide +kernel
theorem dX12_quiet_52 : decode cX12_quiet 52 = .ok (.iload_n 2, 1) := by decide +kernel
theorem dX12_quiet_53 : decode cX12_quiet 53 = .ok (.ireturn, 1) := by decide +kernel
theorem dX12_share_0 : decode cX12_share 0 = .ok (.aload_n 0, 1) := by decide +kernel
theorem dX12_share_1 : decode cX12_share 1 = .ok (.iload_n 1, 1) := by decide +kernel
theorem dX12_share_2 : decode cX12_share 2 = .ok (.invokevirtual 370, 3) := by decide +kernel
theorem dX12_share_5 : decode cX12_share 5 = .ok (.ifCond .ne 5, 3) := by decide +kernel
theorem dX12_share_8 : decode cX12_share 8 = .ok (.iconst (-1), 1) := by decide +kernel
theorem dX12_share_9 : decode cX12_share 9 = .ok (.ireturn, 1) := by decide +kernel
theorem dX12_share_10 : decode cX12_share 10 = .ok (.aload_n 0, 1) := by decide +kernel
theorem dX12_share_11 : decode cX12_share 11 = .ok (.invokevirtual 373, 3) := by decide +kernel
theorem dX12_share_14 : decode cX12_share 14 = .ok (.iconst 0, 1) := by decide +kernel
theorem dX12_share_15 : decode cX12_share 15 = .ok (.istore_n 2, 1) := by decide +kernel
theorem dX12_share_16 : decode cX12_share 16 = .ok (.iconst 0, 1) := by decide +kernel
theorem dX12_share_17 : decode cX12_share 17 = .ok (.istore_n 3, 1) := by decide +kernel
theorem dX12_share_18 : decode cX12_share 18 = .ok (.iload_n 3, 1) := by decide +kernel
theorem dX12_share_19 : decode cX12_share 19 = .ok (.aload_n 0, 1) := by decide +kernel
theorem dX12_share_20 : decode cX12_share 20 = .ok (.getfield 46, 3) := by decide +kernel
theorem dX12_share_23 : decode cX12_share 23 = .ok (.aload_n 0, 1) := by decide +kernel
theorem dX12_share_24 : decode cX12_share 24 = .ok (.getfield 233, 3) := by decide +kernel
theorem dX12_share_27 : decode cX12_share 27 = .ok (.iaload, 1) := by decide +kernel
theorem dX12_share_28 : decode cX12_share 28 = .ok (.if_icmp .ge 26, 3) := by decide +kernel
theorem dX12_share_31 : decode cX12_share 31 = .ok (.iload_n 2, 1) := by decide +kernel
theorem dX12_share_32 : decode cX12_share 32 = .ok (.aload_n 0, 1) := by decide +kernel
theorem dX12_share_33 : decode cX12_share 33 = .ok (.getfield 55, 3) := by decide +kernel
theorem dX12_share_36 : decode cX12_share 36 = .ok (.bipush 7, 2) := by decide +kernel
theorem dX12_share_38 : decode cX12_share 38 = .ok (.aload_n 0, 1) := by decide +kernel
theorem dX12_share_39 : decode cX12_share 39 = .ok (.getfield 233, 3) := by decide +kernel
theorem dX12_share_42 : decode cX12_share 42 = .ok (.imul, 1) := by decide +kernel
theorem dX12_share_43 : decode cX12_share 43 = .ok (.iload_n 3, 1) := by decide +kernel
theorem dX12_share_44 : decode cX12_share 44 = .ok (.iadd, 1) := by decide +kernel
theorem dX12_share_45 : decode cX12_share 45 = .ok (.iaload, 1) := by decide +kernel
theorem dX12_share_46 : decode cX12_share 46 = .ok (.iadd, 1) := by decide +kernel
theorem dX12_share_47 : decode cX12_share 47 = .ok (.istore_n 2, 1) := by decide +kernel
theorem dX12_share_48 : decode cX12_share 48 = .ok (.iinc 3 1, 3) := by decide +kernel
theorem dX12_share_51 : decode cX12_share 51 = .ok (.goto (-33), 3) := by decide +kernel
theorem dX12_share_54 : decode cX12_share 54 = .ok (.iload_n 2, 1) := by decide +kernel
theorem dX12_share_55 : decode cX12_share 55 = .ok (.ifCond .ne 7, 3) := by decide +kernel
theorem dX12_share_58 : decode cX12_share 58 = .ok (.iconst 0, 1) := by decide +kernel
theorem dX12_share_59 : decode cX12_share 59 = .ok (.goto 25, 3) := by decide +kernel
theorem dX12_share_62 : decode cX12_share 62 = .ok (.aload_n 0, 1) := by decide +kernel
theorem dX12_share_63 : decode cX12_share 63 = .ok (.iconst 0, 1) := by decide +kernel
theorem dX12_share_64 : decode cX12_share 64 = .ok (.invokevirtual 330, 3) := by decide +kernel
theorem dX12_share_67 : decode cX12_share 67 = .ok (.aload_n 0, 1) := by decide +kernel
theorem dX12_share_68 : decode cX12_share 68 = .ok (.getfield 55, 3) := by decide +kernel
theorem dX12_share_71 : decode cX12_share 71 = .ok (.bipush 7, 2) := by decide +kernel
theorem dX12_share_73 : decode cX12_share 73 = .ok (.aload_n 0, 1) := by decide +kernel
theorem dX12_share_74 : decode cX12_share 74 = .ok (.getfield 233, 3) := by decide +kernel
theorem dX12_share_77 : decode cX12_share 77 = .ok (.imul, 1) := by decide +kernel
theorem dX12_share_78 : decode cX12_share 78 = .ok (.iload_n 1, 1) := by decide +kernel
theorem dX12_share_79 : decode cX12_share 79 = .ok (.iadd, 1) := by decide +kernel
theorem dX12_share_80 : decode cX12_share 80 = .ok (.iaload, 1) := by decide +kernel
theorem dX12_share_81 : decode cX12_share 81 = .ok (.imul, 1) := by decide +kernel
theorem dX12_share_82 : decode cX12_share 82 = .ok (.iload_n 2, 1) := by decide +kernel
theorem dX12_share_83 : decode cX12_share 83 = .ok (.idiv, 1) := by decide +kernel
theorem dX12_share_84 : decode cX12_share 84 = .ok (.ireturn, 1) := by decide +kernel
theorem dX12_priceIn_0 : decode cX12_priceIn 0 = .ok (.iload_n 1, 1) := by decide +kernel
theorem dX12_priceIn_1 : decode cX12_priceIn 1 = .ok (.invokestatic 431, 3) := by decide +kernel
theorem dX12_priceIn_4 : decode cX12_priceIn 4 = .ok (.ifCond .ne 5, 3) := by decide +kernel
theorem dX12_priceIn_7 : decode cX12_priceIn 7 = .ok (.iconst (-1), 1) := by decide +kernel
theorem dX12_priceIn_8 : decode cX12_priceIn 8 = .ok (.ireturn, 1) := by decide +kernel
theorem dX12_priceIn_9 : decode cX12_priceIn 9 = .ok (.aload_n 0, 1) := by decide +kernel
theorem dX12_priceIn_10 : decode cX12_priceIn 10 = .ok (.invokevirtual 373, 3) := by decide +kernel
theorem dX12_priceIn_13 : decode cX12_priceIn 13 = .ok (.aload_n 0, 1) := by decide +kernel
theorem dX12_priceIn_14 : decode cX12_priceIn 14 = .ok (.iload_n 1, 1) := by decide +kernel
theorem dX12_priceIn_15 : decode cX12_priceIn 15 = .ok (.invokevirtual 391, 3) := by decide +kernel
theorem dX12_priceIn_18 : decode cX12_priceIn 18 = .ok (.aload_n 0, 1) := by decide +kernel
theorem dX12_priceIn_19 : decode cX12_priceIn 19 = .ok (.invokevirtual 379, 3) := by decide +kernel
theorem dX12_priceIn_22 : decode cX12_priceIn 22 = .ok (.ireturn, 1) := by decide +kernel
theorem dX12_then_0 : decode cX12_then 0 = .ok (.aload_n 0, 1) := by decide +kernel
theorem dX12_then_1 : decode cX12_then 1 = .ok (.iload_n 1, 1) := by decide +kernel
theorem dX12_then_2 : decode cX12_then 2 = .ok (.invokevirtual 370, 3) := by decide +kernel
theorem dX12_then_5 : decode cX12_then 5 = .ok (.ifCond .eq 19, 3) := by decide +kernel
theorem dX12_then_8 : decode cX12_then 8 = .ok (.iload_n 2, 1) := by decide +kernel
theorem dX12_then_9 : decode cX12_then 9 = .ok (.invokestatic 431, 3) := by decide +kernel
theorem dX12_then_12 : decode cX12_then 12 = .ok (.ifCond .eq 12, 3) := by decide +kernel
theorem dX12_then_15 : decode cX12_then 15 = .ok (.iload_n 3, 1) := by decide +kernel
theorem dX12_then_16 : decode cX12_then 16 = .ok (.iconst 0, 1) := by decide +kernel
theorem dX12_then_17 : decode cX12_then 17 = .ok (.iconst 2, 1) := by decide +kernel
theorem dX12_then_18 : decode cX12_then 18 = .ok (.invokestatic 319, 3) := by decide +kernel
theorem dX12_then_21 : decode cX12_then 21 = .ok (.ifCond .ne 5, 3) := by decide +kernel
theorem dX12_then_24 : decode cX12_then 24 = .ok (.iconst (-1), 1) := by decide +kernel
theorem dX12_then_25 : decode cX12_then 25 = .ok (.ireturn, 1) := by decide +kernel
theorem dX12_then_26 : decode cX12_then 26 = .ok (.aload_n 0, 1) := by decide +kernel
theorem dX12_then_27 : decode cX12_then 27 = .ok (.invokevirtual 373, 3) := by decide +kernel
theorem dX12_then_30 : decode cX12_then 30 = .ok (.aload_n 0, 1) := by decide +kernel
theorem dX12_then_31 : decode cX12_then 31 = .ok (.iload_n 2, 1) := by decide +kernel
theorem dX12_then_32 : decode cX12_then 32 = .ok (.invokevirtual 391, 3) := by decide +kernel
theorem dX12_then_35 : decode cX12_then 35 = .ok (.iload_n 3, 1) := by decide +kernel
theorem dX12_then_36 : decode cX12_then 36 = .ok (.ifCond .ne 12, 3) := by decide +kernel
theorem dX12_then_39 : decode cX12_then 39 = .ok (.aload_n 0, 1) := by decide +kernel
theorem dX12_then_40 : decode cX12_then 40 = .ok (.getfield 122, 3) := by decide +kernel
theorem dX12_then_43 : decode cX12_then 43 = .ok (.iload_n 1, 1) := by decide +kernel
theorem dX12_then_44 : decode cX12_then 44 = .ok (.iaload, 1) := by decide +kernel
theorem dX12_then_45 : decode cX12_then 45 = .ok (.goto 39, 3) := by decide +kernel
theorem dX12_then_48 : decode cX12_then 48 = .ok (.iload_n 3, 1) := by decide +kernel
theorem dX12_then_49 : decode cX12_then 49 = .ok (.iconst 1, 1) := by decide +kernel
theorem dX12_then_50 : decode cX12_then 50 = .ok (.if_icmp .ne 25, 3) := by decide +kernel
theorem dX12_then_53 : decode cX12_then 53 = .ok (.aload_n 0, 1) := by decide +kernel
theorem dX12_then_54 : decode cX12_then 54 = .ok (.getfield 122, 3) := by decide +kernel
theorem dX12_then_57 : decode cX12_then 57 = .ok (.bipush 21, 2) := by decide +kernel
theorem dX12_then_59 : decode cX12_then 59 = .ok (.iload_n 1, 1) := by decide +kernel
theorem dX12_then_60 : decode cX12_then 60 = .ok (.iadd, 1) := by decide +kernel
theorem dX12_then_61 : decode cX12_then 61 = .ok (.iaload, 1) := by decide +kernel
theorem dX12_then_62 : decode cX12_then 62 = .ok (.aload_n 0, 1) := by decide +kernel
theorem dX12_then_63 : decode cX12_then 63 = .ok (.getfield 119, 3) := by decide +kernel
theorem dX12_then_66 : decode cX12_then 66 = .ok (.bipush 21, 2) := by decide +kernel
theorem dX12_then_68 : decode cX12_then 68 = .ok (.iload_n 1, 1) := by decide +kernel
theorem dX12_then_69 : decode cX12_then 69 = .ok (.iadd, 1) := by decide +kernel
theorem dX12_then_70 : decode cX12_then 70 = .ok (.iaload, 1) := by decide +kernel
theorem dX12_then_71 : decode cX12_then 71 = .ok (.isub, 1) := by decide +kernel
theorem dX12_then_72 : decode cX12_then 72 = .ok (.goto 12, 3) := by decide +kernel
theorem dX12_then_75 : decode cX12_then 75 = .ok (.aload_n 0, 1) := by decide +kernel
theorem dX12_then_76 : decode cX12_then 76 = .ok (.getfield 122, 3) := by decide +kernel
theorem dX12_then_79 : decode cX12_then 79 = .ok (.bipush 14, 2) := by decide +kernel
theorem dX12_then_81 : decode cX12_then 81 = .ok (.iload_n 1, 1) := by decide +kernel
theorem dX12_then_82 : decode cX12_then 82 = .ok (.iadd, 1) := by decide +kernel
theorem dX12_then_83 : decode cX12_then 83 = .ok (.iaload, 1) := by decide +kernel
theorem dX12_then_84 : decode cX12_then 84 = .ok (.ireturn, 1) := by decide +kernel
theorem dX12_allIn_0 : decode cX12_allIn 0 = .ok (.iload_n 1, 1) := by decide +kernel
theorem dX12_allIn_1 : decode cX12_allIn 1 = .ok (.invokestatic 431, 3) := by decide +kernel
theorem dX12_allIn_4 : decode cX12_allIn 4 = .ok (.ifCond .ne 5, 3) := by decide +kernel
theorem dX12_allIn_7 : decode cX12_allIn 7 = .ok (.iconst (-1), 1) := by decide +kernel
theorem dX12_allIn_8 : decode cX12_allIn 8 = .ok (.ireturn, 1) := by decide +kernel
theorem dX12_allIn_9 : decode cX12_allIn 9 = .ok (.aload_n 0, 1) := by decide +kernel
theorem dX12_allIn_10 : decode cX12_allIn 10 = .ok (.invokevirtual 373, 3) := by decide +kernel
theorem dX12_allIn_13 : decode cX12_allIn 13 = .ok (.aload_n 0, 1) := by decide +kernel
theorem dX12_allIn_14 : decode cX12_allIn 14 = .ok (.iload_n 1, 1) := by decide +kernel
theorem dX12_allIn_15 : decode cX12_allIn 15 = .ok (.invokevirtual 391, 3) := by decide +kernel
theorem dX12_allIn_18 : decode cX12_allIn 18 = .ok (.aload_n 0, 1) := by decide +kernel
theorem dX12_allIn_19 : decode cX12_allIn 19 = .ok (.iconst 0, 1) := by decide +kernel
theorem dX12_allIn_20 : decode cX12_allIn 20 = .ok (.invokevirtual 330, 3) := by decide +kernel
theorem dX12_allIn_23 : decode cX12_allIn 23 = .ok (.ireturn, 1) := by decide +kernel
theorem dX12_deals_0 : decode cX12_deals 0 = .ok (.iload_n 1, 1) := by decide +kernel
theorem dX12_deals_1 : decode cX12_deals 1 = .ok (.iconst 0, 1) := by decide +kernel
theorem dX12_deals_2 : decode cX12_deals 2 = .ok (.iconst 1, 1) := by decide +kernel
theorem dX12_deals_3 : decode cX12_deals 3 = .ok (.invokestatic 319, 3) := by decide +kernel
theorem dX12_deals_6 : decode cX12_deals 6 = .ok (.ifCond .ne 5, 3) := by decide +kernel
theorem dX12_deals_9 : decode cX12_deals 9 = .ok (.iconst (-1), 1) := by decide +kernel
theorem dX12_deals_10 : decode cX12_deals 10 = .ok (.ireturn, 1) := by decide +kernel
theorem dX12_deals_11 : decode cX12_deals 11 = .ok (.aload_n 0, 1) := by decide +kernel
theorem dX12_deals_12 : decode cX12_deals 12 = .ok (.invokevirtual 373, 3) := by decide +kernel
theorem dX12_deals_15 : decode cX12_deals 15 = .ok (.aload_n 0, 1) := by decide +kernel
theorem dX12_deals_16 : decode cX12_deals 16 = .ok (.invokevirtual 379, 3) := by decide +kernel
theorem dX12_deals_19 : decode cX12_deals 19 = .ok (.istore_n 2, 1) := by decide +kernel
theorem dX12_deals_20 : decode cX12_deals 20 = .ok (.iconst 0, 1) := by decide +kernel
theorem dX12_deals_21 : decode cX12_deals 21 = .ok (.istore_n 3, 1) := by decide +kernel
theorem dX12_deals_22 : decode cX12_deals 22 = .ok (.bipush (-2), 2) := by decide +kernel
theorem dX12_deals_24 : decode cX12_deals 24 = .ok (.istore 4, 2) := by decide +kernel
theorem dX12_deals_26 : decode cX12_deals 26 = .ok (.iconst 0, 1) := by decide +kernel
theorem dX12_deals_27 : decode cX12_deals 27 = .ok (.istore 5, 2) := by decide +kernel
theorem dX12_deals_29 : decode cX12_deals 29 = .ok (.iload 5, 2) := by decide +kernel
theorem dX12_deals_31 : decode cX12_deals 31 = .ok (.aload_n 0, 1) := by decide +kernel
theorem dX12_deals_32 : decode cX12_deals 32 = .ok (.getfield 46, 3) := by decide +kernel
theorem dX12_deals_35 : decode cX12_deals 35 = .ok (.aload_n 0, 1) := by decide +kernel
theorem dX12_deals_36 : decode cX12_deals 36 = .ok (.getfield 233, 3) := by decide +kernel
theorem dX12_deals_39 : decode cX12_deals 39 = .ok (.iaload, 1) := by decide +kernel
theorem dX12_deals_40 : decode cX12_deals 40 = .ok (.if_icmp .ge 124, 3) := by decide +kernel
theorem dX12_deals_43 : decode cX12_deals 43 = .ok (.iconst 0, 1) := by decide +kernel
theorem dX12_deals_44 : decode cX12_deals 44 = .ok (.istore 6, 2) := by decide +kernel
theorem dX12_deals_46 : decode cX12_deals 46 = .ok (.iload 6, 2) := by decide +kernel
theorem dX12_deals_48 : decode cX12_deals 48 = .ok (.aload_n 0, 1) := by decide +kernel
theorem dX12_deals_49 : decode cX12_deals 49 = .ok (.getfield 46, 3) := by decide +kernel
theorem dX12_deals_52 : decode cX12_deals 52 = .ok (.aload_n 0, 1) := by decide +kernel
theorem dX12_deals_53 : decode cX12_deals 53 = .ok (.getfield 233, 3) := by decide +kernel
theorem dX12_deals_56 : decode cX12_deals 56 = .ok (.iaload, 1) := by decide +kernel
theorem dX12_deals_57 : decode cX12_deals 57 = .ok (.if_icmp .ge 101, 3) := by decide +kernel
theorem dX12_deals_60 : decode cX12_deals 60 = .ok (.aload_n 0, 1) := by decide +kernel
theorem dX12_deals_61 : decode cX12_deals 61 = .ok (.getfield 122, 3) := by decide +kernel
theorem dX12_deals_64 : decode cX12_deals 64 = .ok (.iload 5, 2) := by decide +kernel
theorem dX12_deals_66 : decode cX12_deals 66 = .ok (.iaload, 1) := by decide +kernel
theorem dX12_deals_67 : decode cX12_deals 67 = .ok (.ifCond .eq 85, 3) := by decide +kernel
theorem dX12_deals_70 : decode cX12_deals 70 = .ok (.aload_n 0, 1) := by decide +kernel
theorem dX12_deals_71 : decode cX12_deals 71 = .ok (.getfield 122, 3) := by decide +kernel
theorem dX12_deals_74 : decode cX12_deals 74 = .ok (.bipush 7, 2) := by decide +kernel
theorem dX12_deals_76 : decode cX12_deals 76 = .ok (.iload 5, 2) := by decide +kernel
theorem dX12_deals_78 : decode cX12_deals 78 = .ok (.iadd, 1) := by decide +kernel
theorem dX12_deals_79 : decode cX12_deals 79 = .ok (.iaload, 1) := by decide +kernel
theorem dX12_deals_80 : decode cX12_deals 80 = .ok (.iload_n 2, 1) := by decide +kernel
theorem dX12_deals_81 : decode cX12_deals 81 = .ok (.if_icmp .ge 71, 3) := by decide +kernel
theorem dX12_deals_84 : decode cX12_deals 84 = .ok (.aload_n 0, 1) := by decide +kernel
theorem dX12_deals_85 : decode cX12_deals 85 = .ok (.getfield 122, 3) := by decide +kernel
theorem dX12_deals_88 : decode cX12_deals 88 = .ok (.bipush 7, 2) := by decide +kernel
theorem dX12_deals_90 : decode cX12_deals 90 = .ok (.iload 6, 2) := by decide +kernel
theorem dX12_deals_92 : decode cX12_deals 92 = .ok (.iadd, 1) := by decide +kernel
theorem dX12_deals_93 : decode cX12_deals 93 = .ok (.iaload, 1) := by decide +kernel
theorem dX12_deals_94 : decode cX12_deals 94 = .ok (.iload_n 2, 1) := by decide +kernel
theorem dX12_deals_95 : decode cX12_deals 95 = .ok (.if_icmp .lt 57, 3) := by decide +kernel
theorem dX12_deals_98 : decode cX12_deals 98 = .ok (.aload_n 0, 1) := by decide +kernel
theorem dX12_deals_99 : decode cX12_deals 99 = .ok (.getfield 55, 3) := by decide +kernel
theorem dX12_deals_102 : decode cX12_deals 102 = .ok (.bipush 7, 2) := by decide +kernel
theorem dX12_deals_104 : decode cX12_deals 104 = .ok (.aload_n 0, 1) := by decide +kernel
theorem dX12_deals_105 : decode cX12_deals 105 = .ok (.getfield 233, 3) := by decide +kernel
theorem dX12_deals_108 : decode cX12_deals 108 = .ok (.imul, 1) := by decide +kernel
theorem dX12_deals_109 : decode cX12_deals 109 = .ok (.iload 6, 2) := by decide +kernel
theorem dX12_deals_111 : decode cX12_deals 111 = .ok (.iadd, 1) := by decide +kernel
theorem dX12_deals_112 : decode cX12_deals 112 = .ok (.iaload, 1) := by decide +kernel
theorem dX12_deals_113 : decode cX12_deals 113 = .ok (.aload_n 0, 1) := by decide +kernel
theorem dX12_deals_114 : decode cX12_deals 114 = .ok (.getfield 55, 3) := by decide +kernel
theorem dX12_deals_117 : decode cX12_deals 117 = .ok (.bipush 7, 2) := by decide +kernel
theorem dX12_deals_119 : decode cX12_deals 119 = .ok (.aload_n 0, 1) := by decide +kernel
theorem dX12_deals_120 : decode cX12_deals 120 = .ok (.getfield 233, 3) := by decide +kernel
theorem dX12_deals_123 : decode cX12_deals 123 = .ok (.imul, 1) := by decide +kernel
theorem dX12_deals_124 : decode cX12_deals 124 = .ok (.iload 5, 2) := by decide +kernel
theorem dX12_deals_126 : decode cX12_deals 126 = .ok (.iadd, 1) := by decide +kernel
theorem dX12_deals_127 : decode cX12_deals 127 = .ok (.iaload, 1) := by decide +kernel
theorem dX12_deals_128 : decode cX12_deals 128 = .ok (.if_icmp .gt 6, 3) := by decide +kernel
theorem dX12_deals_131 : decode cX12_deals 131 = .ok (.goto 21, 3) := by decide +kernel
theorem dX12_deals_134 : decode cX12_deals 134 = .ok (.iinc 3 1, 3) := by decide +kernel
theorem dX12_deals_137 : decode cX12_deals 137 = .ok (.iload 4, 2) := by decide +kernel
theorem dX12_deals_139 : decode cX12_deals 139 = .ok (.ifCond .ge 13, 3) := by decide +kernel
theorem dX12_deals_142 : decode cX12_deals 142 = .ok (.bipush 10, 2) := by decide +kernel
theorem dX12_deals_144 : decode cX12_deals 144 = .ok (.iload 5, 2) := by decide +kernel
theorem dX12_deals_146 : decode cX12_deals 146 = .ok (.imul, 1) := by decide +kernel
theorem dX12_deals_147 : decode cX12_deals 147 = .ok (.iload 6, 2) := by decide +kernel
theorem dX12_deals_149 : decode cX12_deals 149 = .ok (.iadd, 1) := by decide +kernel
theorem dX12_deals_150 : decode cX12_deals 150 = .ok (.istore 4, 2) := by decide +kernel
theorem dX12_deals_152 : decode cX12_deals 152 = .ok (.iinc 6 1, 3) := by decide +kernel
theorem dX12_deals_155 : decode cX12_deals 155 = .ok (.goto (-109), 3) := by decide +kernel
theorem dX12_deals_158 : decode cX12_deals 158 = .ok (.iinc 5 1, 3) := by decide +kernel
theorem dX12_deals_161 : decode cX12_deals 161 = .ok (.goto (-132), 3) := by decide +kernel
theorem dX12_deals_164 : decode cX12_deals 164 = .ok (.iload_n 1, 1) := by decide +kernel
theorem dX12_deals_165 : decode cX12_deals 165 = .ok (.ifCond .ne 7, 3) := by decide +kernel
theorem dX12_deals_168 : decode cX12_deals 168 = .ok (.iload_n 3, 1) := by decide +kernel
theorem dX12_deals_169 : decode cX12_deals 169 = .ok (.goto 5, 3) := by decide +kernel
theorem dX12_deals_172 : decode cX12_deals 172 = .ok (.iload 4, 2) := by decide +kernel
theorem dX12_deals_174 : decode cX12_deals 174 = .ok (.ireturn, 1) := by decide +kernel
theorem dX12_ruin_0 : decode cX12_ruin 0 = .ok (.aload_n 0, 1) := by decide +kernel
theorem dX12_ruin_1 : decode cX12_ruin 1 = .ok (.iload_n 1, 1) := by decide +kernel
theorem dX12_ruin_2 : decode cX12_ruin 2 = .ok (.invokevirtual 370, 3) := by decide +kernel
theorem dX12_ruin_5 : decode cX12_ruin 5 = .ok (.ifCond .eq 20, 3) := by decide +kernel
theorem dX12_ruin_8 : decode cX12_ruin 8 = .ok (.iload_n 2, 1) := by decide +kernel
theorem dX12_ruin_9 : decode cX12_ruin 9 = .ok (.invokestatic 431, 3) := by decide +kernel
theorem dX12_ruin_12 : decode cX12_ruin 12 = .ok (.ifCond .eq 13, 3) := by decide +kernel
theorem dX12_ruin_15 : decode cX12_ruin 15 = .ok (.iload_n 3, 1) := by decide +kernel
theorem dX12_ruin_16 : decode cX12_ruin 16 = .ok (.iconst 1, 1) := by decide +kernel
theorem dX12_ruin_17 : decode cX12_ruin 17 = .ok (.bipush 20, 2) := by decide +kernel
theorem dX12_ruin_19 : decode cX12_ruin 19 = .ok (.invokestatic 319, 3) := by decide +kernel
theorem dX12_ruin_22 : decode cX12_ruin 22 = .ok (.ifCond .ne 5, 3) := by decide +kernel
theorem dX12_ruin_25 : decode cX12_ruin 25 = .ok (.iconst (-1), 1) := by decide +kernel
theorem dX12_ruin_26 : decode cX12_ruin 26 = .ok (.ireturn, 1) := by decide +kernel
theorem dX12_ruin_27 : decode cX12_ruin 27 = .ok (.iconst 0, 1) := by decide +kernel
theorem dX12_ruin_28 : decode cX12_ruin 28 = .ok (.istore 4, 2) := by decide +kernel
theorem dX12_ruin_30 : decode cX12_ruin 30 = .ok (.iconst 0, 1) := by decide +kernel
theorem dX12_ruin_31 : decode cX12_ruin 31 = .ok (.istore 5, 2) := by decide +kernel
theorem dX12_ruin_33 : decode cX12_ruin 33 = .ok (.iload 5, 2) := by decide +kernel
theorem dX12_ruin_35 : decode cX12_ruin 35 = .ok (.iload_n 3, 1) := by decide +kernel
theorem dX12_ruin_36 : decode cX12_ruin 36 = .ok (.if_icmp .ge 41, 3) := by decide +kernel
theorem dX12_ruin_39 : decode cX12_ruin 39 = .ok (.aload_n 0, 1) := by decide +kernel
theorem dX12_ruin_40 : decode cX12_ruin 40 = .ok (.invokevirtual 373, 3) := by decide +kernel
theorem dX12_ruin_43 : decode cX12_ruin 43 = .ok (.aload_n 0, 1) := by decide +kernel
theorem dX12_ruin_44 : decode cX12_ruin 44 = .ok (.dup, 1) := by decide +kernel
theorem dX12_ruin_45 : decode cX12_ruin 45 = .ok (.getfield 323, 3) := by decide +kernel
theorem dX12_ruin_48 : decode cX12_ruin 48 = .ok (.iload 5, 2) := by decide +kernel
theorem dX12_ruin_50 : decode cX12_ruin 50 = .ok (.iadd, 1) := by decide +kernel
theorem dX12_ruin_51 : decode cX12_ruin 51 = .ok (.putfield 323, 3) := by decide +kernel
theorem dX12_ruin_54 : decode cX12_ruin 54 = .ok (.aload_n 0, 1) := by decide +kernel
theorem dX12_ruin_55 : decode cX12_ruin 55 = .ok (.iload_n 2, 1) := by decide +kernel
theorem dX12_ruin_56 : decode cX12_ruin 56 = .ok (.invokevirtual 391, 3) := by decide +kernel
theorem dX12_ruin_59 : decode cX12_ruin 59 = .ok (.aload_n 0, 1) := by decide +kernel
theorem dX12_ruin_60 : decode cX12_ruin 60 = .ok (.getfield 122, 3) := by decide +kernel
theorem dX12_ruin_63 : decode cX12_ruin 63 = .ok (.iload_n 1, 1) := by decide +kernel
theorem dX12_ruin_64 : decode cX12_ruin 64 = .ok (.iaload, 1) := by decide +kernel
theorem dX12_ruin_65 : decode cX12_ruin 65 = .ok (.ifCond .ne 6, 3) := by decide +kernel
theorem dX12_ruin_68 : decode cX12_ruin 68 = .ok (.iinc 4 1, 3) := by decide +kernel
theorem dX12_ruin_71 : decode cX12_ruin 71 = .ok (.iinc 5 1, 3) := by decide +kernel
theorem dX12_ruin_74 : decode cX12_ruin 74 = .ok (.goto (-41), 3) := by decide +kernel
theorem dX12_ruin_77 : decode cX12_ruin 77 = .ok (.iload 4, 2) := by decide +kernel
theorem dX12_ruin_79 : decode cX12_ruin 79 = .ok (.ireturn, 1) := by decide +kernel
theorem dX12_tell_0 : decode cX12_tell 0 = .ok (.aload_n 0, 1) := by decide +kernel
theorem dX12_tell_1 : decode cX12_tell 1 = .ok (.getfield 254, 3) := by decide +kernel
theorem dX12_tell_4 : decode cX12_tell 4 = .ok (.bipush 20, 2) := by decide +kernel
theorem dX12_tell_6 : decode cX12_tell 6 = .ok (.if_icmp .eq 11, 3) := by decide +kernel
theorem dX12_tell_9 : decode cX12_tell 9 = .ok (.aload_n 0, 1) := by decide +kernel
theorem dX12_tell_10 : decode cX12_tell 10 = .ok (.iload_n 1, 1) := by decide +kernel
theorem dX12_tell_11 : decode cX12_tell 11 = .ok (.invokevirtual 370, 3) := by decide +kernel
theorem dX12_tell_14 : decode cX12_tell 14 = .ok (.ifCond .ne 5, 3) := by decide +kernel
theorem dX12_tell_17 : decode cX12_tell 17 = .ok (.iconst (-1), 1) := by decide +kernel
theorem dX12_tell_18 : decode cX12_tell 18 = .ok (.ireturn, 1) := by decide +kernel
theorem dX12_tell_19 : decode cX12_tell 19 = .ok (.aload_n 0, 1) := by decide +kernel
theorem dX12_tell_20 : decode cX12_tell 20 = .ok (.getfield 140, 3) := by decide +kernel
theorem dX12_tell_23 : decode cX12_tell 23 = .ok (.aload_n 0, 1) := by decide +kernel
theorem dX12_tell_24 : decode cX12_tell 24 = .ok (.getfield 254, 3) := by decide +kernel
theorem dX12_tell_27 : decode cX12_tell 27 = .ok (.iload_n 1, 1) := by decide +kernel
theorem dX12_tell_28 : decode cX12_tell 28 = .ok (.iastore, 1) := by decide +kernel
theorem dX12_tell_29 : decode cX12_tell 29 = .ok (.aload_n 0, 1) := by decide +kernel
theorem dX12_tell_30 : decode cX12_tell 30 = .ok (.getfield 143, 3) := by decide +kernel
theorem dX12_tell_33 : decode cX12_tell 33 = .ok (.aload_n 0, 1) := by decide +kernel
theorem dX12_tell_34 : decode cX12_tell 34 = .ok (.getfield 254, 3) := by decide +kernel
theorem dX12_tell_37 : decode cX12_tell 37 = .ok (.iload_n 2, 1) := by decide +kernel
theorem dX12_tell_38 : decode cX12_tell 38 = .ok (.ifCond .eq 7, 3) := by decide +kernel
theorem dX12_tell_41 : decode cX12_tell 41 = .ok (.iconst 1, 1) := by decide +kernel
theorem dX12_tell_42 : decode cX12_tell 42 = .ok (.goto 4, 3) := by decide +kernel
theorem dX12_tell_45 : decode cX12_tell 45 = .ok (.iconst 0, 1) := by decide +kernel
theorem dX12_tell_46 : decode cX12_tell 46 = .ok (.iastore, 1) := by decide +kernel
theorem dX12_tell_47 : decode cX12_tell 47 = .ok (.aload_n 0, 1) := by decide +kernel
theorem dX12_tell_48 : decode cX12_tell 48 = .ok (.dup, 1) := by decide +kernel
theorem dX12_tell_49 : decode cX12_tell 49 = .ok (.getfield 254, 3) := by decide +kernel
theorem dX12_tell_52 : decode cX12_tell 52 = .ok (.iconst 1, 1) := by decide +kernel
theorem dX12_tell_53 : decode cX12_tell 53 = .ok (.iadd, 1) := by decide +kernel
theorem dX12_tell_54 : decode cX12_tell 54 = .ok (.putfield 254, 3) := by decide +kernel
theorem dX12_tell_57 : decode cX12_tell 57 = .ok (.aload_n 0, 1) := by decide +kernel
theorem dX12_tell_58 : decode cX12_tell 58 = .ok (.getfield 254, 3) := by decide +kernel
theorem dX12_tell_61 : decode cX12_tell 61 = .ok (.iconst 1, 1) := by decide +kernel
theorem dX12_tell_62 : decode cX12_tell 62 = .ok (.isub, 1) := by decide +kernel
theorem dX12_tell_63 : decode cX12_tell 63 = .ok (.ireturn, 1) := by decide +kernel
theorem dX12_forget_0 : decode cX12_forget 0 = .ok (.aload_n 0, 1) := by decide +kernel
theorem dX12_forget_1 : decode cX12_forget 1 = .ok (.getfield 254, 3) := by decide +kernel
theorem dX12_forget_4 : decode cX12_forget 4 = .ok (.istore_n 1, 1) := by decide +kernel
theorem dX12_forget_5 : decode cX12_forget 5 = .ok (.aload_n 0, 1) := by decide +kernel
theorem dX12_forget_6 : decode cX12_forget 6 = .ok (.iconst 0, 1) := by decide +kernel
theorem dX12_forget_7 : decode cX12_forget 7 = .ok (.putfield 254, 3) := by decide +kernel
theorem dX12_forget_10 : decode cX12_forget 10 = .ok (.iload_n 1, 1) := by decide +kernel
theorem dX12_forget_11 : decode cX12_forget 11 = .ok (.ireturn, 1) := by decide +kernel
theorem dX12_beganBits_0 : decode cX12_beganBits 0 = .ok (.iconst 0, 1) := by decide +kernel
theorem dX12_beganBits_1 : decode cX12_beganBits 1 = .ok (.istore_n 2, 1) := by decide +kernel
theorem dX12_beganBits_2 : decode cX12_beganBits 2 = .ok (.iconst 0, 1) := by decide +kernel
theorem dX12_beganBits_3 : decode cX12_beganBits 3 = .ok (.istore_n 3, 1) := by decide +kernel
theorem dX12_beganBits_4 : decode cX12_beganBits 4 = .ok (.iload_n 3, 1) := by decide +kernel
theorem dX12_beganBits_5 : decode cX12_beganBits 5 = .ok (.aload_n 0, 1) := by decide +kernel
theorem dX12_beganBits_6 : decode cX12_beganBits 6 = .ok (.getfield 46, 3) := by decide +kernel
theorem dX12_beganBits_9 : decode cX12_beganBits 9 = .ok (.aload_n 0, 1) := by decide +kernel
theorem dX12_beganBits_10 : decode cX12_beganBits 10 = .ok (.getfield 233, 3) := by decide +kernel
theorem dX12_beganBits_13 : decode cX12_beganBits 13 = .ok (.iaload, 1) := by decide +kernel
theorem dX12_beganBits_14 : decode cX12_beganBits 14 = .ok (.if_icmp .ge 71, 3) := by decide +kernel
theorem dX12_beganBits_17 : decode cX12_beganBits 17 = .ok (.aload_n 0, 1) := by decide +kernel
theorem dX12_beganBits_18 : decode cX12_beganBits 18 = .ok (.iload_n 3, 1) := by decide +kernel
theorem dX12_beganBits_19 : decode cX12_beganBits 19 = .ok (.iconst 0, 1) := by decide +kernel
theorem dX12_beganBits_20 : decode cX12_beganBits 20 = .ok (.invokevirtual 397, 3) := by decide +kernel
theorem dX12_beganBits_23 : decode cX12_beganBits 23 = .ok (.istore 4, 2) := by decide +kernel
theorem dX12_beganBits_25 : decode cX12_beganBits 25 = .ok (.iconst 1, 1) := by decide +kernel
theorem dX12_beganBits_26 : decode cX12_beganBits 26 = .ok (.istore 5, 2) := by decide +kernel
theorem dX12_beganBits_28 : decode cX12_beganBits 28 = .ok (.iconst 0, 1) := by decide +kernel
theorem dX12_beganBits_29 : decode cX12_beganBits 29 = .ok (.istore 6, 2) := by decide +kernel
theorem dX12_beganBits_31 : decode cX12_beganBits 31 = .ok (.iload 6, 2) := by decide +kernel
theorem dX12_beganBits_33 : decode cX12_beganBits 33 = .ok (.iload_n 1, 1) := by decide +kernel
theorem dX12_beganBits_34 : decode cX12_beganBits 34 = .ok (.if_icmp .ge 34, 3) := by decide +kernel
theorem dX12_beganBits_37 : decode cX12_beganBits 37 = .ok (.iload 4, 2) := by decide +kernel
theorem dX12_beganBits_39 : decode cX12_beganBits 39 = .ok (.aload_n 0, 1) := by decide +kernel
theorem dX12_beganBits_40 : decode cX12_beganBits 40 = .ok (.getfield 140, 3) := by decide +kernel
theorem dX12_beganBits_43 : decode cX12_beganBits 43 = .ok (.iload 6, 2) := by decide +kernel
theorem dX12_beganBits_45 : decode cX12_beganBits 45 = .ok (.iaload, 1) := by decide +kernel
theorem dX12_beganBits_46 : decode cX12_beganBits 46 = .ok (.ishr, 1) := by decide +kernel
theorem dX12_beganBits_47 : decode cX12_beganBits 47 = .ok (.iconst 1, 1) := by decide +kernel
theorem dX12_beganBits_48 : decode cX12_beganBits 48 = .ok (.iand, 1) := by decide +kernel
theorem dX12_beganBits_49 : decode cX12_beganBits 49 = .ok (.aload_n 0, 1) := by decide +kernel
theorem dX12_beganBits_50 : decode cX12_beganBits 50 = .ok (.getfield 143, 3) := by decide +kernel
theorem dX12_beganBits_53 : decode cX12_beganBits 53 = .ok (.iload 6, 2) := by decide +kernel
theorem dX12_beganBits_55 : decode cX12_beganBits 55 = .ok (.iaload, 1) := by decide +kernel
theorem dX12_beganBits_56 : decode cX12_beganBits 56 = .ok (.if_icmp .eq 6, 3) := by decide +kernel
theorem dX12_beganBits_59 : decode cX12_beganBits 59 = .ok (.iconst 0, 1) := by decide +kernel
theorem dX12_beganBits_60 : decode cX12_beganBits 60 = .ok (.istore 5, 2) := by decide +kernel
theorem dX12_beganBits_62 : decode cX12_beganBits 62 = .ok (.iinc 6 1, 3) := by decide +kernel
theorem dX12_beganBits_65 : decode cX12_beganBits 65 = .ok (.goto (-34), 3) := by decide +kernel
theorem dX12_beganBits_68 : decode cX12_beganBits 68 = .ok (.iload 5, 2) := by decide +kernel
theorem dX12_beganBits_70 : decode cX12_beganBits 70 = .ok (.ifCond .eq 9, 3) := by decide +kernel
theorem dX12_beganBits_73 : decode cX12_beganBits 73 = .ok (.iload_n 2, 1) := by decide +kernel
theorem dX12_beganBits_74 : decode cX12_beganBits 74 = .ok (.iconst 1, 1) := by decide +kernel
theorem dX12_beganBits_75 : decode cX12_beganBits 75 = .ok (.iload_n 3, 1) := by decide +kernel
theorem dX12_beganBits_76 : decode cX12_beganBits 76 = .ok (.ishl, 1) := by decide +kernel
theorem dX12_beganBits_77 : decode cX12_beganBits 77 = .ok (.ior, 1) := by decide +kernel
theorem dX12_beganBits_78 : decode cX12_beganBits 78 = .ok (.istore_n 2, 1) := by decide +kernel
theorem dX12_beganBits_79 : decode cX12_beganBits 79 = .ok (.iinc 3 1, 3) := by decide +kernel
theorem dX12_beganBits_82 : decode cX12_beganBits 82 = .ok (.goto (-78), 3) := by decide +kernel
theorem dX12_beganBits_85 : decode cX12_beganBits 85 = .ok (.iload_n 2, 1) := by decide +kernel
theorem dX12_beganBits_86 : decode cX12_beganBits 86 = .ok (.ireturn, 1) := by decide +kernel
theorem dX12_began_0 : decode cX12_began 0 = .ok (.iload_n 1, 1) := by decide +kernel
theorem dX12_began_1 : decode cX12_began 1 = .ok (.iconst 0, 1) := by decide +kernel
theorem dX12_began_2 : decode cX12_began 2 = .ok (.aload_n 0, 1) := by decide +kernel
theorem dX12_began_3 : decode cX12_began 3 = .ok (.getfield 254, 3) := by decide +kernel
theorem dX12_began_6 : decode cX12_began 6 = .ok (.invokestatic 319, 3) := by decide +kernel
theorem dX12_began_9 : decode cX12_began 9 = .ok (.ifCond .eq 12, 3) := by decide +kernel
theorem dX12_began_12 : decode cX12_began 12 = .ok (.iload_n 2, 1) := by decide +kernel
theorem dX12_began_13 : decode cX12_began 13 = .ok (.iconst 0, 1) := by decide +kernel
theorem dX12_began_14 : decode cX12_began 14 = .ok (.iconst 1, 1) := by decide +kernel
theorem dX12_began_15 : decode cX12_began 15 = .ok (.invokestatic 319, 3) := by decide +kernel
theorem dX12_began_18 : decode cX12_began 18 = .ok (.ifCond .ne 5, 3) := by decide +kernel
theorem dX12_began_21 : decode cX12_began 21 = .ok (.iconst (-1), 1) := by decide +kernel
theorem dX12_began_22 : decode cX12_began 22 = .ok (.ireturn, 1) := by decide +kernel
theorem dX12_began_23 : decode cX12_began 23 = .ok (.aload_n 0, 1) := by decide +kernel
theorem dX12_began_24 : decode cX12_began 24 = .ok (.iload_n 1, 1) := by decide +kernel
theorem dX12_began_25 : decode cX12_began 25 = .ok (.invokevirtual 434, 3) := by decide +kernel
theorem dX12_began_28 : decode cX12_began 28 = .ok (.istore_n 3, 1) := by decide +kernel
theorem dX12_began_29 : decode cX12_began 29 = .ok (.iload_n 2, 1) := by decide +kernel
theorem dX12_began_30 : decode cX12_began 30 = .ok (.ifCond .ne 10, 3) := by decide +kernel
theorem dX12_began_33 : decode cX12_began 33 = .ok (.iload_n 3, 1) := by decide +kernel
theorem dX12_began_34 : decode cX12_began 34 = .ok (.invokestatic 394, 3) := by decide +kernel
theorem dX12_began_37 : decode cX12_began 37 = .ok (.goto 4, 3) := by decide +kernel
theorem dX12_began_40 : decode cX12_began 40 = .ok (.iload_n 3, 1) := by decide +kernel
theorem dX12_began_41 : decode cX12_began 41 = .ok (.ireturn, 1) := by decide +kernel
theorem dX12_ask_0 : decode cX12_ask 0 = .ok (.iload_n 1, 1) := by decide +kernel
theorem dX12_ask_1 : decode cX12_ask 1 = .ok (.iconst 0, 1) := by decide +kernel
theorem dX12_ask_2 : decode cX12_ask 2 = .ok (.aload_n 0, 1) := by decide +kernel
theorem dX12_ask_3 : decode cX12_ask 3 = .ok (.getfield 254, 3) := by decide +kernel
theorem dX12_ask_6 : decode cX12_ask 6 = .ok (.invokestatic 319, 3) := by decide +kernel
theorem dX12_ask_9 : decode cX12_ask 9 = .ok (.ifCond .ne 5, 3) := by decide +kernel
theorem dX12_ask_12 : decode cX12_ask 12 = .ok (.iconst (-1), 1) := by decide +kernel
theorem dX12_ask_13 : decode cX12_ask 13 = .ok (.ireturn, 1) := by decide +kernel
theorem dX12_ask_14 : decode cX12_ask 14 = .ok (.aload_n 0, 1) := by decide +kernel
theorem dX12_ask_15 : decode cX12_ask 15 = .ok (.iload_n 1, 1) := by decide +kernel
theorem dX12_ask_16 : decode cX12_ask 16 = .ok (.invokevirtual 434, 3) := by decide +kernel
theorem dX12_ask_19 : decode cX12_ask 19 = .ok (.istore_n 2, 1) := by decide +kernel
theorem dX12_ask_20 : decode cX12_ask 20 = .ok (.bipush (-2), 2) := by decide +kernel
theorem dX12_ask_22 : decode cX12_ask 22 = .ok (.istore_n 3, 1) := by decide +kernel
theorem dX12_ask_23 : decode cX12_ask 23 = .ok (.iconst 0, 1) := by decide +kernel
theorem dX12_ask_24 : decode cX12_ask 24 = .ok (.istore 4, 2) := by decide +kernel
theorem dX12_ask_26 : decode cX12_ask 26 = .ok (.iconst 0, 1) := by decide +kernel
theorem dX12_ask_27 : decode cX12_ask 27 = .ok (.istore 5, 2) := by decide +kernel
theorem dX12_ask_29 : decode cX12_ask 29 = .ok (.iload 5, 2) := by decide +kernel
theorem dX12_ask_31 : decode cX12_ask 31 = .ok (.aload_n 0, 1) := by decide +kernel
theorem dX12_ask_32 : decode cX12_ask 32 = .ok (.getfield 46, 3) := by decide +kernel
theorem dX12_ask_35 : decode cX12_ask 35 = .ok (.aload_n 0, 1) := by decide +kernel
theorem dX12_ask_36 : decode cX12_ask 36 = .ok (.getfield 233, 3) := by decide +kernel
theorem dX12_ask_39 : decode cX12_ask 39 = .ok (.iaload, 1) := by decide +kernel
theorem dX12_ask_40 : decode cX12_ask 40 = .ok (.if_icmp .ge 113, 3) := by decide +kernel
theorem dX12_ask_43 : decode cX12_ask 43 = .ok (.iload_n 2, 1) := by decide +kernel
theorem dX12_ask_44 : decode cX12_ask 44 = .ok (.ifCond .eq 109, 3) := by decide +kernel
theorem dX12_ask_47 : decode cX12_ask 47 = .ok (.iconst 0, 1) := by decide +kernel
theorem dX12_ask_48 : decode cX12_ask 48 = .ok (.istore 6, 2) := by decide +kernel
theorem dX12_ask_50 : decode cX12_ask 50 = .ok (.iconst 0, 1) := by decide +kernel
theorem dX12_ask_51 : decode cX12_ask 51 = .ok (.istore 7, 2) := by decide +kernel
theorem dX12_ask_53 : decode cX12_ask 53 = .ok (.iload 7, 2) := by decide +kernel
theorem dX12_ask_55 : decode cX12_ask 55 = .ok (.aload_n 0, 1) := by decide +kernel
theorem dX12_ask_56 : decode cX12_ask 56 = .ok (.getfield 46, 3) := by decide +kernel
theorem dX12_ask_59 : decode cX12_ask 59 = .ok (.aload_n 0, 1) := by decide +kernel
theorem dX12_ask_60 : decode cX12_ask 60 = .ok (.getfield 233, 3) := by decide +kernel
theorem dX12_ask_63 : decode cX12_ask 63 = .ok (.iaload, 1) := by decide +kernel
theorem dX12_ask_64 : decode cX12_ask 64 = .ok (.if_icmp .ge 36, 3) := by decide +kernel
theorem dX12_ask_67 : decode cX12_ask 67 = .ok (.iload_n 2, 1) := by decide +kernel
theorem dX12_ask_68 : decode cX12_ask 68 = .ok (.iload 7, 2) := by decide +kernel
theorem dX12_ask_70 : decode cX12_ask 70 = .ok (.ishr, 1) := by decide +kernel
theorem dX12_ask_71 : decode cX12_ask 71 = .ok (.iconst 1, 1) := by decide +kernel
theorem dX12_ask_72 : decode cX12_ask 72 = .ok (.iand, 1) := by decide +kernel
theorem dX12_ask_73 : decode cX12_ask 73 = .ok (.iconst 1, 1) := by decide +kernel
theorem dX12_ask_74 : decode cX12_ask 74 = .ok (.if_icmp .ne 20, 3) := by decide +kernel
theorem dX12_ask_77 : decode cX12_ask 77 = .ok (.iload 6, 2) := by decide +kernel
theorem dX12_ask_79 : decode cX12_ask 79 = .ok (.aload_n 0, 1) := by decide +kernel
theorem dX12_ask_80 : decode cX12_ask 80 = .ok (.iload 7, 2) := by decide +kernel
theorem dX12_ask_82 : decode cX12_ask 82 = .ok (.iconst 0, 1) := by decide +kernel
theorem dX12_ask_83 : decode cX12_ask 83 = .ok (.invokevirtual 397, 3) := by decide +kernel
theorem dX12_ask_86 : decode cX12_ask 86 = .ok (.iload 5, 2) := by decide +kernel
theorem dX12_ask_88 : decode cX12_ask 88 = .ok (.ishr, 1) := by decide +kernel
theorem dX12_ask_89 : decode cX12_ask 89 = .ok (.iconst 1, 1) := by decide +kernel
theorem dX12_ask_90 : decode cX12_ask 90 = .ok (.iand, 1) := by decide +kernel
theorem dX12_ask_91 : decode cX12_ask 91 = .ok (.iadd, 1) := by decide +kernel
theorem dX12_ask_92 : decode cX12_ask 92 = .ok (.istore 6, 2) := by decide +kernel
theorem dX12_ask_94 : decode cX12_ask 94 = .ok (.iinc 7 1, 3) := by decide +kernel
theorem dX12_ask_97 : decode cX12_ask 97 = .ok (.goto (-44), 3) := by decide +kernel
theorem dX12_ask_100 : decode cX12_ask 100 = .ok (.iload 6, 2) := by decide +kernel
theorem dX12_ask_102 : decode cX12_ask 102 = .ok (.iload_n 2, 1) := by decide +kernel
theorem dX12_ask_103 : decode cX12_ask 103 = .ok (.invokestatic 394, 3) := by decide +kernel
theorem dX12_ask_106 : decode cX12_ask 106 = .ok (.iload 6, 2) := by decide +kernel
theorem dX12_ask_108 : decode cX12_ask 108 = .ok (.isub, 1) := by decide +kernel
theorem dX12_ask_109 : decode cX12_ask 109 = .ok (.if_icmp .le 8, 3) := by decide +kernel
theorem dX12_ask_112 : decode cX12_ask 112 = .ok (.iload 6, 2) := by decide +kernel
theorem dX12_ask_114 : decode cX12_ask 114 = .ok (.goto 10, 3) := by decide +kernel
theorem dX12_ask_117 : decode cX12_ask 117 = .ok (.iload_n 2, 1) := by decide +kernel
theorem dX12_ask_118 : decode cX12_ask 118 = .ok (.invokestatic 394, 3) := by decide +kernel
theorem dX12_ask_121 : decode cX12_ask 121 = .ok (.iload 6, 2) := by decide +kernel
theorem dX12_ask_123 : decode cX12_ask 123 = .ok (.isub, 1) := by decide +kernel
theorem dX12_ask_124 : decode cX12_ask 124 = .ok (.istore 7, 2) := by decide +kernel
theorem dX12_ask_126 : decode cX12_ask 126 = .ok (.iload_n 3, 1) := by decide +kernel
theorem dX12_ask_127 : decode cX12_ask 127 = .ok (.ifCond .lt 13, 3) := by decide +kernel
theorem dX12_ask_130 : decode cX12_ask 130 = .ok (.iload 7, 2) := by decide +kernel
theorem dX12_ask_132 : decode cX12_ask 132 = .ok (.iload 4, 2) := by decide +kernel
theorem dX12_ask_134 : decode cX12_ask 134 = .ok (.if_icmp .lt 6, 3) := by decide +kernel
theorem dX12_ask_137 : decode cX12_ask 137 = .ok (.goto 10, 3) := by decide +kernel
theorem dX12_ask_140 : decode cX12_ask 140 = .ok (.iload 5, 2) := by decide +kernel
theorem dX12_ask_142 : decode cX12_ask 142 = .ok (.istore_n 3, 1) := by decide +kernel
theorem dX12_ask_143 : decode cX12_ask 143 = .ok (.iload 7, 2) := by decide +kernel
theorem dX12_ask_145 : decode cX12_ask 145 = .ok (.istore 4, 2) := by decide +kernel
theorem dX12_ask_147 : decode cX12_ask 147 = .ok (.iinc 5 1, 3) := by decide +kernel
theorem dX12_ask_150 : decode cX12_ask 150 = .ok (.goto (-121), 3) := by decide +kernel
theorem dX12_ask_153 : decode cX12_ask 153 = .ok (.iload_n 3, 1) := by decide +kernel
theorem dX12_ask_154 : decode cX12_ask 154 = .ok (.ireturn, 1) := by decide +kernel
theorem dX12_hold_0 : decode cX12_hold 0 = .ok (.iload_n 1, 1) := by decide +kernel
theorem dX12_hold_1 : decode cX12_hold 1 = .ok (.iconst 0, 1) := by decide +kernel
theorem dX12_hold_2 : decode cX12_hold 2 = .ok (.iconst 2, 1) := by decide +kernel
theorem dX12_hold_3 : decode cX12_hold 3 = .ok (.invokestatic 319, 3) := by decide +kernel
theorem dX12_hold_6 : decode cX12_hold 6 = .ok (.ifCond .ne 5, 3) := by decide +kernel
theorem dX12_hold_9 : decode cX12_hold 9 = .ok (.iconst 0, 1) := by decide +kernel
theorem dX12_hold_10 : decode cX12_hold 10 = .ok (.ireturn, 1) := by decide +kernel
theorem dX12_hold_11 : decode cX12_hold 11 = .ok (.aload_n 0, 1) := by decide +kernel
theorem dX12_hold_12 : decode cX12_hold 12 = .ok (.getfield 146, 3) := by decide +kernel
theorem dX12_hold_15 : decode cX12_hold 15 = .ok (.iload_n 1, 1) := by decide +kernel
theorem dX12_hold_16 : decode cX12_hold 16 = .ok (.iconst 1, 1) := by decide +kernel
theorem dX12_hold_17 : decode cX12_hold 17 = .ok (.bastore, 1) := by decide +kernel
theorem dX12_hold_18 : decode cX12_hold 18 = .ok (.iconst 0, 1) := by decide +kernel
theorem dX12_hold_19 : decode cX12_hold 19 = .ok (.istore_n 2, 1) := by decide +kernel
theorem dX12_hold_20 : decode cX12_hold 20 = .ok (.iload_n 2, 1) := by decide +kernel
theorem dX12_hold_21 : decode cX12_hold 21 = .ok (.bipush 37, 2) := by decide +kernel
theorem dX12_hold_23 : decode cX12_hold 23 = .ok (.if_icmp .ge 26, 3) := by decide +kernel
theorem dX12_hold_26 : decode cX12_hold 26 = .ok (.aload_n 0, 1) := by decide +kernel
theorem dX12_hold_27 : decode cX12_hold 27 = .ok (.getfield 149, 3) := by decide +kernel
theorem dX12_hold_30 : decode cX12_hold 30 = .ok (.bipush 37, 2) := by decide +kernel
theorem dX12_hold_32 : decode cX12_hold 32 = .ok (.iload_n 1, 1) := by decide +kernel
theorem dX12_hold_33 : decode cX12_hold 33 = .ok (.imul, 1) := by decide +kernel
theorem dX12_hold_34 : decode cX12_hold 34 = .ok (.iload_n 2, 1) := by decide +kernel
theorem dX12_hold_35 : decode cX12_hold 35 = .ok (.iadd, 1) := by decide +kernel
theorem dX12_hold_36 : decode cX12_hold 36 = .ok (.aload_n 0, 1) := by decide +kernel
theorem dX12_hold_37 : decode cX12_hold 37 = .ok (.getfield 119, 3) := by decide +kernel
theorem dX12_hold_40 : decode cX12_hold 40 = .ok (.iload_n 2, 1) := by decide +kernel
theorem dX12_hold_41 : decode cX12_hold 41 = .ok (.iaload, 1) := by decide +kernel
theorem dX12_hold_42 : decode cX12_hold 42 = .ok (.iastore, 1) := by decide +kernel
theorem dX12_hold_43 : decode cX12_hold 43 = .ok (.iinc 2 1, 3) := by decide +kernel
theorem dX12_hold_46 : decode cX12_hold 46 = .ok (.goto (-26), 3) := by decide +kernel
theorem dX12_hold_49 : decode cX12_hold 49 = .ok (.iconst 1, 1) := by decide +kernel
theorem dX12_hold_50 : decode cX12_hold 50 = .ok (.ireturn, 1) := by decide +kernel
theorem dX12_restore_0 : decode cX12_restore 0 = .ok (.iload_n 1, 1) := by decide +kernel
theorem dX12_restore_1 : decode cX12_restore 1 = .ok (.iconst 0, 1) := by decide +kernel
theorem dX12_restore_2 : decode cX12_restore 2 = .ok (.iconst 2, 1) := by decide +kernel
theorem dX12_restore_3 : decode cX12_restore 3 = .ok (.invokestatic 319, 3) := by decide +kernel
theorem dX12_restore_6 : decode cX12_restore 6 = .ok (.ifCond .eq 12, 3) := by decide +kernel
theorem dX12_restore_9 : decode cX12_restore 9 = .ok (.aload_n 0, 1) := by decide +kernel
theorem dX12_restore_10 : decode cX12_restore 10 = .ok (.getfield 146, 3) := by decide +kernel
theorem dX12_restore_13 : decode cX12_restore 13 = .ok (.iload_n 1, 1) := by decide +kernel
theorem dX12_restore_14 : decode cX12_restore 14 = .ok (.baload, 1) := by decide +kernel
theorem dX12_restore_15 : decode cX12_restore 15 = .ok (.ifCond .ne 5, 3) := by decide +kernel
theorem dX12_restore_18 : decode cX12_restore 18 = .ok (.iconst 0, 1) := by decide +kernel
theorem dX12_restore_19 : decode cX12_restore 19 = .ok (.ireturn, 1) := by decide +kernel
theorem dX12_restore_20 : decode cX12_restore 20 = .ok (.iconst 0, 1) := by decide +kernel
theorem dX12_restore_21 : decode cX12_restore 21 = .ok (.istore_n 2, 1) := by decide +kernel
theorem dX12_restore_22 : decode cX12_restore 22 = .ok (.iload_n 2, 1) := by decide +kernel
theorem dX12_restore_23 : decode cX12_restore 23 = .ok (.bipush 37, 2) := by decide +kernel
theorem dX12_restore_25 : decode cX12_restore 25 = .ok (.if_icmp .ge 26, 3) := by decide +kernel
theorem dX12_restore_28 : decode cX12_restore 28 = .ok (.aload_n 0, 1) := by decide +kernel
theorem dX12_restore_29 : decode cX12_restore 29 = .ok (.getfield 119, 3) := by decide +kernel
theorem dX12_restore_32 : decode cX12_restore 32 = .ok (.iload_n 2, 1) := by decide +kernel
theorem dX12_restore_33 : decode cX12_restore 33 = .ok (.aload_n 0, 1) := by decide +kernel
theorem dX12_restore_34 : decode cX12_restore 34 = .ok (.getfield 149, 3) := by decide +kernel
theorem dX12_restore_37 : decode cX12_restore 37 = .ok (.bipush 37, 2) := by decide +kernel
theorem dX12_restore_39 : decode cX12_restore 39 = .ok (.iload_n 1, 1) := by decide +kernel
theorem dX12_restore_40 : decode cX12_restore 40 = .ok (.imul, 1) := by decide +kernel
theorem dX12_restore_41 : decode cX12_restore 41 = .ok (.iload_n 2, 1) := by decide +kernel
theorem dX12_restore_42 : decode cX12_restore 42 = .ok (.iadd, 1) := by decide +kernel
theorem dX12_restore_43 : decode cX12_restore 43 = .ok (.iaload, 1) := by decide +kernel
theorem dX12_restore_44 : decode cX12_restore 44 = .ok (.iastore, 1) := by decide +kernel
theorem dX12_restore_45 : decode cX12_restore 45 = .ok (.iinc 2 1, 3) := by decide +kernel
theorem dX12_restore_48 : decode cX12_restore 48 = .ok (.goto (-26), 3) := by decide +kernel
theorem dX12_restore_51 : decode cX12_restore 51 = .ok (.aload_n 0, 1) := by decide +kernel
theorem dX12_restore_52 : decode cX12_restore 52 = .ok (.iconst 0, 1) := by decide +kernel
theorem dX12_restore_53 : decode cX12_restore 53 = .ok (.putfield 251, 3) := by decide +kernel
theorem dX12_restore_56 : decode cX12_restore 56 = .ok (.iconst 1, 1) := by decide +kernel
theorem dX12_restore_57 : decode cX12_restore 57 = .ok (.ireturn, 1) := by decide +kernel
theorem dX12_count_0 : decode cX12_count 0 = .ok (.aload_n 0, 1) := by decide +kernel
theorem dX12_count_1 : decode cX12_count 1 = .ok (.invokevirtual 373, 3) := by decide +kernel
theorem dX12_count_4 : decode cX12_count 4 = .ok (.iload_n 1, 1) := by decide +kernel
theorem dX12_count_5 : decode cX12_count 5 = .ok (.tableswitch 230 0 14 #[75, 85, 95, 105, 113, 119, 126, 133, 141, 146, 151, 156, 201, 210, 223], 75) := by decide +kernel
theorem dX12_count_80 : decode cX12_count 80 = .ok (.aload_n 0, 1) := by decide +kernel
theorem dX12_count_81 : decode cX12_count 81 = .ok (.getfield 46, 3) := by decide +kernel
theorem dX12_count_84 : decode cX12_count 84 = .ok (.aload_n 0, 1) := by decide +kernel
theorem dX12_count_85 : decode cX12_count 85 = .ok (.getfield 233, 3) := by decide +kernel
theorem dX12_count_88 : decode cX12_count 88 = .ok (.iaload, 1) := by decide +kernel
theorem dX12_count_89 : decode cX12_count 89 = .ok (.ireturn, 1) := by decide +kernel
theorem dX12_count_90 : decode cX12_count 90 = .ok (.aload_n 0, 1) := by decide +kernel
theorem dX12_count_91 : decode cX12_count 91 = .ok (.getfield 64, 3) := by decide +kernel
theorem dX12_count_94 : decode cX12_count 94 = .ok (.aload_n 0, 1) := by decide +kernel
theorem dX12_count_95 : decode cX12_count 95 = .ok (.getfield 233, 3) := by decide +kernel
theorem dX12_count_98 : decode cX12_count 98 = .ok (.iaload, 1) := by decide +kernel
theorem dX12_count_99 : decode cX12_count 99 = .ok (.ireturn, 1) := by decide +kernel
theorem dX12_count_100 : decode cX12_count 100 = .ok (.aload_n 0, 1) := by decide +kernel
theorem dX12_count_101 : decode cX12_count 101 = .ok (.getfield 67, 3) := by decide +kernel
theorem dX12_count_104 : decode cX12_count 104 = .ok (.aload_n 0, 1) := by decide +kernel
theorem dX12_count_105 : decode cX12_count 105 = .ok (.getfield 233, 3) := by decide +kernel
theorem dX12_count_108 : decode cX12_count 108 = .ok (.iaload, 1) := by decide +kernel
theorem dX12_count_109 : decode cX12_count 109 = .ok (.ireturn, 1) := by decide +kernel
theorem dX12_count_110 : decode cX12_count 110 = .ok (.aload_n 0, 1) := by decide +kernel
theorem dX12_count_111 : decode cX12_count 111 = .ok (.getfield 122, 3) := by decide +kernel
theorem dX12_count_114 : decode cX12_count 114 = .ok (.bipush 36, 2) := by decide +kernel
theorem dX12_count_116 : decode cX12_count 116 = .ok (.iaload, 1) := by decide +kernel
theorem dX12_count_117 : decode cX12_count 117 = .ok (.ireturn, 1) := by decide +kernel
theorem dX12_count_118 : decode cX12_count 118 = .ok (.aload_n 0, 1) := by decide +kernel
theorem dX12_count_119 : decode cX12_count 119 = .ok (.iconst 0, 1) := by decide +kernel
theorem dX12_count_120 : decode cX12_count 120 = .ok (.invokevirtual 330, 3) := by decide +kernel
theorem dX12_count_123 : decode cX12_count 123 = .ok (.ireturn, 1) := by decide +kernel
theorem dX12_count_124 : decode cX12_count 124 = .ok (.aload_n 0, 1) := by decide +kernel
theorem dX12_count_125 : decode cX12_count 125 = .ok (.bipush 7, 2) := by decide +kernel
theorem dX12_count_127 : decode cX12_count 127 = .ok (.invokevirtual 330, 3) := by decide +kernel
theorem dX12_count_130 : decode cX12_count 130 = .ok (.ireturn, 1) := by decide +kernel
theorem dX12_count_131 : decode cX12_count 131 = .ok (.aload_n 0, 1) := by decide +kernel
theorem dX12_count_132 : decode cX12_count 132 = .ok (.bipush 21, 2) := by decide +kernel
theorem dX12_count_134 : decode cX12_count 134 = .ok (.invokevirtual 330, 3) := by decide +kernel
theorem dX12_count_137 : decode cX12_count 137 = .ok (.ireturn, 1) := by decide +kernel
theorem dX12_count_138 : decode cX12_count 138 = .ok (.aload_n 0, 1) := by decide +kernel
theorem dX12_count_139 : decode cX12_count 139 = .ok (.getfield 122, 3) := by decide +kernel
theorem dX12_count_142 : decode cX12_count 142 = .ok (.bipush 35, 2) := by decide +kernel
theorem dX12_count_144 : decode cX12_count 144 = .ok (.iaload, 1) := by decide +kernel
theorem dX12_count_145 : decode cX12_count 145 = .ok (.ireturn, 1) := by decide +kernel
theorem dX12_count_146 : decode cX12_count 146 = .ok (.aload_n 0, 1) := by decide +kernel
theorem dX12_count_147 : decode cX12_count 147 = .ok (.getfield 166, 3) := by decide +kernel
theorem dX12_count_150 : decode cX12_count 150 = .ok (.ireturn, 1) := by decide +kernel
theorem dX12_count_151 : decode cX12_count 151 = .ok (.aload_n 0, 1) := by decide +kernel
theorem dX12_count_152 : decode cX12_count 152 = .ok (.getfield 251, 3) := by decide +kernel
theorem dX12_count_155 : decode cX12_count 155 = .ok (.ireturn, 1) := by decide +kernel
theorem dX12_count_156 : decode cX12_count 156 = .ok (.aload_n 0, 1) := by decide +kernel
theorem dX12_count_157 : decode cX12_count 157 = .ok (.getfield 254, 3) := by decide +kernel
theorem dX12_count_160 : decode cX12_count 160 = .ok (.ireturn, 1) := by decide +kernel
theorem dX12_count_161 : decode cX12_count 161 = .ok (.aload_n 0, 1) := by decide +kernel
theorem dX12_count_162 : decode cX12_count 162 = .ok (.getfield 146, 3) := by decide +kernel
theorem dX12_count_165 : decode cX12_count 165 = .ok (.iconst 0, 1) := by decide +kernel
theorem dX12_count_166 : decode cX12_count 166 = .ok (.baload, 1) := by decide +kernel
theorem dX12_count_167 : decode cX12_count 167 = .ok (.ifCond .eq 7, 3) := by decide +kernel
theorem dX12_count_170 : decode cX12_count 170 = .ok (.iconst 1, 1) := by decide +kernel
theorem dX12_count_171 : decode cX12_count 171 = .ok (.goto 4, 3) := by decide +kernel
theorem dX12_count_174 : decode cX12_count 174 = .ok (.iconst 0, 1) := by decide +kernel
theorem dX12_count_175 : decode cX12_count 175 = .ok (.aload_n 0, 1) := by decide +kernel
theorem dX12_count_176 : decode cX12_count 176 = .ok (.getfield 146, 3) := by decide +kernel
theorem dX12_count_179 : decode cX12_count 179 = .ok (.iconst 1, 1) := by decide +kernel
theorem dX12_count_180 : decode cX12_count 180 = .ok (.baload, 1) := by decide +kernel
theorem dX12_count_181 : decode cX12_count 181 = .ok (.ifCond .eq 7, 3) := by decide +kernel
theorem dX12_count_184 : decode cX12_count 184 = .ok (.iconst 1, 1) := by decide +kernel
theorem dX12_count_185 : decode cX12_count 185 = .ok (.goto 4, 3) := by decide +kernel
theorem dX12_count_188 : decode cX12_count 188 = .ok (.iconst 0, 1) := by decide +kernel
theorem dX12_count_189 : decode cX12_count 189 = .ok (.iadd, 1) := by decide +kernel
theorem dX12_count_190 : decode cX12_count 190 = .ok (.aload_n 0, 1) := by decide +kernel
theorem dX12_count_191 : decode cX12_count 191 = .ok (.getfield 146, 3) := by decide +kernel
theorem dX12_count_194 : decode cX12_count 194 = .ok (.iconst 2, 1) := by decide +kernel
theorem dX12_count_195 : decode cX12_count 195 = .ok (.baload, 1) := by decide +kernel
theorem dX12_count_196 : decode cX12_count 196 = .ok (.ifCond .eq 7, 3) := by decide +kernel
theorem dX12_count_199 : decode cX12_count 199 = .ok (.iconst 1, 1) := by decide +kernel
theorem dX12_count_200 : decode cX12_count 200 = .ok (.goto 4, 3) := by decide +kernel
theorem dX12_count_203 : decode cX12_count 203 = .ok (.iconst 0, 1) := by decide +kernel
theorem dX12_count_204 : decode cX12_count 204 = .ok (.iadd, 1) := by decide +kernel
theorem dX12_count_205 : decode cX12_count 205 = .ok (.ireturn, 1) := by decide +kernel
theorem dX12_count_206 : decode cX12_count 206 = .ok (.aload_n 0, 1) := by decide +kernel
theorem dX12_count_207 : decode cX12_count 207 = .ok (.invokevirtual 410, 3) := by decide +kernel
theorem dX12_count_210 : decode cX12_count 210 = .ok (.aload_n 0, 1) := by decide +kernel
theorem dX12_count_211 : decode cX12_count 211 = .ok (.getfield 407, 3) := by decide +kernel
theorem dX12_count_214 : decode cX12_count 214 = .ok (.ireturn, 1) := by decide +kernel
theorem dX12_count_215 : decode cX12_count 215 = .ok (.aload_n 0, 1) := by decide +kernel
theorem dX12_count_216 : decode cX12_count 216 = .ok (.invokevirtual 348, 3) := by decide +kernel
theorem dX12_count_219 : decode cX12_count 219 = .ok (.ifCond .eq 7, 3) := by decide +kernel
theorem dX12_count_222 : decode cX12_count 222 = .ok (.iconst 1, 1) := by decide +kernel
theorem dX12_count_223 : decode cX12_count 223 = .ok (.goto 4, 3) := by decide +kernel
theorem dX12_count_226 : decode cX12_count 226 = .ok (.iconst 0, 1) := by decide +kernel
theorem dX12_count_227 : decode cX12_count 227 = .ok (.ireturn, 1) := by decide +kernel
theorem dX12_count_228 : decode cX12_count 228 = .ok (.aload_n 0, 1) := by decide +kernel
theorem dX12_count_229 : decode cX12_count 229 = .ok (.bipush 14, 2) := by decide +kernel
theorem dX12_count_231 : decode cX12_count 231 = .ok (.invokevirtual 330, 3) := by decide +kernel
theorem dX12_count_234 : decode cX12_count 234 = .ok (.ireturn, 1) := by decide +kernel
theorem dX12_count_235 : decode cX12_count 235 = .ok (.iconst (-1), 1) := by decide +kernel
theorem dX12_count_236 : decode cX12_count 236 = .ok (.ireturn, 1) := by decide +kernel
