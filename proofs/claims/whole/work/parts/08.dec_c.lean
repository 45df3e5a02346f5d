theorem dX7_init_0 : decode cX7_init 0 = .ok (.aload_n 0, 1) := by decide +kernel
theorem dX7_init_1 : decode cX7_init 1 = .ok (.invokespecial 1, 3) := by decide +kernel
theorem dX7_init_4 : decode cX7_init 4 = .ok (.aload_n 0, 1) := by decide +kernel
theorem dX7_init_5 : decode cX7_init 5 = .ok (.bipush 6, 2) := by decide +kernel
theorem dX7_init_7 : decode cX7_init 7 = .ok (.newarray .int, 2) := by decide +kernel
theorem dX7_init_9 : decode cX7_init 9 = .ok (.putfield 7, 3) := by decide +kernel
theorem dX7_init_12 : decode cX7_init 12 = .ok (.aload_n 0, 1) := by decide +kernel
theorem dX7_init_13 : decode cX7_init 13 = .ok (.bipush 16, 2) := by decide +kernel
theorem dX7_init_15 : decode cX7_init 15 = .ok (.newarray .int, 2) := by decide +kernel
theorem dX7_init_17 : decode cX7_init 17 = .ok (.putfield 13, 3) := by decide +kernel
theorem dX7_init_20 : decode cX7_init 20 = .ok (.aload_n 0, 1) := by decide +kernel
theorem dX7_init_21 : decode cX7_init 21 = .ok (.bipush 8, 2) := by decide +kernel
theorem dX7_init_23 : decode cX7_init 23 = .ok (.newarray .int, 2) := by decide +kernel
theorem dX7_init_25 : decode cX7_init 25 = .ok (.putfield 16, 3) := by decide +kernel
theorem dX7_init_28 : decode cX7_init 28 = .ok (.aload_n 0, 1) := by decide +kernel
theorem dX7_init_29 : decode cX7_init 29 = .ok (.bipush 8, 2) := by decide +kernel
theorem dX7_init_31 : decode cX7_init 31 = .ok (.newarray .int, 2) := by decide +kernel
theorem dX7_init_33 : decode cX7_init 33 = .ok (.putfield 19, 3) := by decide +kernel
theorem dX7_init_36 : decode cX7_init 36 = .ok (.aload_n 0, 1) := by decide +kernel
theorem dX7_init_37 : decode cX7_init 37 = .ok (.bipush 8, 2) := by decide +kernel
theorem dX7_init_39 : decode cX7_init 39 = .ok (.newarray .int, 2) := by decide +kernel
theorem dX7_init_41 : decode cX7_init 41 = .ok (.putfield 22, 3) := by decide +kernel
theorem dX7_init_44 : decode cX7_init 44 = .ok (.aload_n 0, 1) := by decide +kernel
theorem dX7_init_45 : decode cX7_init 45 = .ok (.bipush 8, 2) := by decide +kernel
theorem dX7_init_47 : decode cX7_init 47 = .ok (.newarray .int, 2) := by decide +kernel
theorem dX7_init_49 : decode cX7_init 49 = .ok (.putfield 25, 3) := by decide +kernel
theorem dX7_init_52 : decode cX7_init 52 = .ok (.aload_n 0, 1) := by decide +kernel
theorem dX7_init_53 : decode cX7_init 53 = .ok (.bipush 8, 2) := by decide +kernel
theorem dX7_init_55 : decode cX7_init 55 = .ok (.newarray .int, 2) := by decide +kernel
theorem dX7_init_57 : decode cX7_init 57 = .ok (.putfield 28, 3) := by decide +kernel
theorem dX7_init_60 : decode cX7_init 60 = .ok (.aload_n 0, 1) := by decide +kernel
theorem dX7_init_61 : decode cX7_init 61 = .ok (.bipush 8, 2) := by decide +kernel
theorem dX7_init_63 : decode cX7_init 63 = .ok (.newarray .int, 2) := by decide +kernel
theorem dX7_init_65 : decode cX7_init 65 = .ok (.putfield 31, 3) := by decide +kernel
theorem dX7_init_68 : decode cX7_init 68 = .ok (.aload_n 0, 1) := by decide +kernel
theorem dX7_init_69 : decode cX7_init 69 = .ok (.bipush 8, 2) := by decide +kernel
theorem dX7_init_71 : decode cX7_init 71 = .ok (.newarray .int, 2) := by decide +kernel
theorem dX7_init_73 : decode cX7_init 73 = .ok (.putfield 34, 3) := by decide +kernel
theorem dX7_init_76 : decode cX7_init 76 = .ok (.aload_n 0, 1) := by decide +kernel
theorem dX7_init_77 : decode cX7_init 77 = .ok (.bipush 8, 2) := by decide +kernel
theorem dX7_init_79 : decode cX7_init 79 = .ok (.newarray .int, 2) := by decide +kernel
theorem dX7_init_81 : decode cX7_init 81 = .ok (.putfield 37, 3) := by decide +kernel
theorem dX7_init_84 : decode cX7_init 84 = .ok (.aload_n 0, 1) := by decide +kernel
theorem dX7_init_85 : decode cX7_init 85 = .ok (.bipush 8, 2) := by decide +kernel
theorem dX7_init_87 : decode cX7_init 87 = .ok (.newarray .int, 2) := by decide +kernel
theorem dX7_init_89 : decode cX7_init 89 = .ok (.putfield 40, 3) := by decide +kernel
theorem dX7_init_92 : decode cX7_init 92 = .ok (.aload_n 0, 1) := by decide +kernel
theorem dX7_init_93 : decode cX7_init 93 = .ok (.bipush 8, 2) := by decide +kernel
theorem dX7_init_95 : decode cX7_init 95 = .ok (.newarray .int, 2) := by decide +kernel
theorem dX7_init_97 : decode cX7_init 97 = .ok (.putfield 43, 3) := by decide +kernel
theorem dX7_init_100 : decode cX7_init 100 = .ok (.aload_n 0, 1) := by decide +kernel
theorem dX7_init_101 : decode cX7_init 101 = .ok (.bipush 8, 2) := by decide +kernel
theorem dX7_init_103 : decode cX7_init 103 = .ok (.newarray .int, 2) := by decide +kernel
theorem dX7_init_105 : decode cX7_init 105 = .ok (.putfield 46, 3) := by decide +kernel
theorem dX7_init_108 : decode cX7_init 108 = .ok (.aload_n 0, 1) := by decide +kernel
theorem dX7_init_109 : decode cX7_init 109 = .ok (.bipush 8, 2) := by decide +kernel
theorem dX7_init_111 : decode cX7_init 111 = .ok (.newarray .int, 2) := by decide +kernel
theorem dX7_init_113 : decode cX7_init 113 = .ok (.putfield 49, 3) := by decide +kernel
theorem dX7_init_116 : decode cX7_init 116 = .ok (.aload_n 0, 1) := by decide +kernel
theorem dX7_init_117 : decode cX7_init 117 = .ok (.sipush 2240, 3) := by decide +kernel
theorem dX7_init_120 : decode cX7_init 120 = .ok (.newarray .int, 2) := by decide +kernel
theorem dX7_init_122 : decode cX7_init 122 = .ok (.putfield 52, 3) := by decide +kernel
theorem dX7_init_125 : decode cX7_init 125 = .ok (.aload_n 0, 1) := by decide +kernel
theorem dX7_init_126 : decode cX7_init 126 = .ok (.iconst 4, 1) := by decide +kernel
theorem dX7_init_127 : decode cX7_init 127 = .ok (.newarray .int, 2) := by decide +kernel
theorem dX7_init_129 : decode cX7_init 129 = .ok (.putfield 55, 3) := by decide +kernel
theorem dX7_init_132 : decode cX7_init 132 = .ok (.aload_n 0, 1) := by decide +kernel
theorem dX7_init_133 : decode cX7_init 133 = .ok (.iconst 4, 1) := by decide +kernel
theorem dX7_init_134 : decode cX7_init 134 = .ok (.newarray .int, 2) := by decide +kernel
theorem dX7_init_136 : decode cX7_init 136 = .ok (.putfield 58, 3) := by decide +kernel
theorem dX7_init_139 : decode cX7_init 139 = .ok (.aload_n 0, 1) := by decide +kernel
theorem dX7_init_140 : decode cX7_init 140 = .ok (.iconst 4, 1) := by decide +kernel
theorem dX7_init_141 : decode cX7_init 141 = .ok (.newarray .int, 2) := by decide +kernel
theorem dX7_init_143 : decode cX7_init 143 = .ok (.putfield 61, 3) := by decide +kernel
theorem dX7_init_146 : decode cX7_init 146 = .ok (.iconst 0, 1) := by decide +kernel
theorem dX7_init_147 : decode cX7_init 147 = .ok (.istore_n 1, 1) := by decide +kernel
theorem dX7_init_148 : decode cX7_init 148 = .ok (.iload_n 1, 1) := by decide +kernel
theorem dX7_init_149 : decode cX7_init 149 = .ok (.bipush 6, 2) := by decide +kernel
theorem dX7_init_151 : decode cX7_init 151 = .ok (.if_icmp .ge 18, 3) := by decide +kernel
theorem dX7_init_154 : decode cX7_init 154 = .ok (.aload_n 0, 1) := by decide +kernel
theorem dX7_init_155 : decode cX7_init 155 = .ok (.getfield 7, 3) := by decide +kernel
theorem dX7_init_158 : decode cX7_init 158 = .ok (.iload_n 1, 1) := by decide +kernel
theorem dX7_init_159 : decode cX7_init 159 = .ok (.sipush 10000, 3) := by decide +kernel
theorem dX7_init_162 : decode cX7_init 162 = .ok (.iastore, 1) := by decide +kernel
theorem dX7_init_163 : decode cX7_init 163 = .ok (.iinc 1 1, 3) := by decide +kernel
theorem dX7_init_166 : decode cX7_init 166 = .ok (.goto (-18), 3) := by decide +kernel
theorem dX7_init_169 : decode cX7_init 169 = .ok (.return_, 1) := by decide +kernel
theorem dX7_isIn_0 : decode cX7_isIn 0 = .ok (.iload_n 0, 1) := by decide +kernel
theorem dX7_isIn_1 : decode cX7_isIn 1 = .ok (.iload_n 1, 1) := by decide +kernel
theorem dX7_isIn_2 : decode cX7_isIn 2 = .ok (.if_icmp .lt 12, 3) := by decide +kernel
theorem dX7_isIn_5 : decode cX7_isIn 5 = .ok (.iload_n 0, 1) := by decide +kernel
theorem dX7_isIn_6 : decode cX7_isIn 6 = .ok (.iload_n 2, 1) := by decide +kernel
theorem dX7_isIn_7 : decode cX7_isIn 7 = .ok (.if_icmp .gt 7, 3) := by decide +kernel
theorem dX7_isIn_10 : decode cX7_isIn 10 = .ok (.iconst 1, 1) := by decide +kernel
theorem dX7_isIn_11 : decode cX7_isIn 11 = .ok (.goto 4, 3) := by decide +kernel
theorem dX7_isIn_14 : decode cX7_isIn 14 = .ok (.iconst 0, 1) := by decide +kernel
theorem dX7_isIn_15 : decode cX7_isIn 15 = .ok (.ireturn, 1) := by decide +kernel
theorem dX7_isParty_0 : decode cX7_isParty 0 = .ok (.iload_n 0, 1) := by decide +kernel
theorem dX7_isParty_1 : decode cX7_isParty 1 = .ok (.iconst 0, 1) := by decide +kernel
theorem dX7_isParty_2 : decode cX7_isParty 2 = .ok (.iconst 5, 1) := by decide +kernel
theorem dX7_isParty_3 : decode cX7_isParty 3 = .ok (.invokestatic 64, 3) := by decide +kernel
theorem dX7_isParty_6 : decode cX7_isParty 6 = .ok (.ireturn, 1) := by decide +kernel
theorem dX7_has_0 : decode cX7_has 0 = .ok (.iload_n 0, 1) := by decide +kernel
theorem dX7_has_1 : decode cX7_has 1 = .ok (.iload_n 1, 1) := by decide +kernel
theorem dX7_has_2 : decode cX7_has 2 = .ok (.ishr, 1) := by decide +kernel
theorem dX7_has_3 : decode cX7_has 3 = .ok (.iconst 1, 1) := by decide +kernel
theorem dX7_has_4 : decode cX7_has 4 = .ok (.iand, 1) := by decide +kernel
theorem dX7_has_5 : decode cX7_has 5 = .ok (.iconst 1, 1) := by decide +kernel
theorem dX7_has_6 : decode cX7_has 6 = .ok (.if_icmp .ne 7, 3) := by decide +kernel
theorem dX7_has_9 : decode cX7_has 9 = .ok (.iconst 1, 1) := by decide +kernel
theorem dX7_has_10 : decode cX7_has 10 = .ok (.goto 4, 3) := by decide +kernel
theorem dX7_has_13 : decode cX7_has 13 = .ok (.iconst 0, 1) := by decide +kernel
theorem dX7_has_14 : decode cX7_has 14 = .ok (.ireturn, 1) := by decide +kernel
theorem dX7_size_0 : decode cX7_size 0 = .ok (.iconst 0, 1) := by decide +kernel
theorem dX7_size_1 : decode cX7_size 1 = .ok (.istore_n 1, 1) := by decide +kernel
theorem dX7_size_2 : decode cX7_size 2 = .ok (.iconst 0, 1) := by decide +kernel
theorem dX7_size_3 : decode cX7_size 3 = .ok (.istore_n 2, 1) := by decide +kernel
theorem dX7_size_4 : decode cX7_size 4 = .ok (.iload_n 2, 1) := by decide +kernel
theorem dX7_size_5 : decode cX7_size 5 = .ok (.bipush 6, 2) := by decide +kernel
theorem dX7_size_7 : decode cX7_size 7 = .ok (.if_icmp .ge 17, 3) := by decide +kernel
theorem dX7_size_10 : decode cX7_size 10 = .ok (.iload_n 1, 1) := by decide +kernel
theorem dX7_size_11 : decode cX7_size 11 = .ok (.iload_n 0, 1) := by decide +kernel
theorem dX7_size_12 : decode cX7_size 12 = .ok (.iload_n 2, 1) := by decide +kernel
theorem dX7_size_13 : decode cX7_size 13 = .ok (.ishr, 1) := by decide +kernel
theorem dX7_size_14 : decode cX7_size 14 = .ok (.iconst 1, 1) := by decide +kernel
theorem dX7_size_15 : decode cX7_size 15 = .ok (.iand, 1) := by decide +kernel
theorem dX7_size_16 : decode cX7_size 16 = .ok (.iadd, 1) := by decide +kernel
theorem dX7_size_17 : decode cX7_size 17 = .ok (.istore_n 1, 1) := by decide +kernel
theorem dX7_size_18 : decode cX7_size 18 = .ok (.iinc 2 1, 3) := by decide +kernel
theorem dX7_size_21 : decode cX7_size 21 = .ok (.goto (-17), 3) := by decide +kernel
theorem dX7_size_24 : decode cX7_size 24 = .ok (.iload_n 1, 1) := by decide +kernel
theorem dX7_size_25 : decode cX7_size 25 = .ok (.ireturn, 1) := by decide +kernel
theorem dX7_isChannel_0 : decode cX7_isChannel 0 = .ok (.iload_n 1, 1) := by decide +kernel
theorem dX7_isChannel_1 : decode cX7_isChannel 1 = .ok (.iconst 0, 1) := by decide +kernel
theorem dX7_isChannel_2 : decode cX7_isChannel 2 = .ok (.aload_n 0, 1) := by decide +kernel
theorem dX7_isChannel_3 : decode cX7_isChannel 3 = .ok (.getfield 68, 3) := by decide +kernel
theorem dX7_isChannel_6 : decode cX7_isChannel 6 = .ok (.iconst 1, 1) := by decide +kernel
theorem dX7_isChannel_7 : decode cX7_isChannel 7 = .ok (.isub, 1) := by decide +kernel
theorem dX7_isChannel_8 : decode cX7_isChannel 8 = .ok (.invokestatic 64, 3) := by decide +kernel
theorem dX7_isChannel_11 : decode cX7_isChannel 11 = .ok (.ireturn, 1) := by decide +kernel
theorem dX7_isState_0 : decode cX7_isState 0 = .ok (.iload_n 1, 1) := by decide +kernel
theorem dX7_isState_1 : decode cX7_isState 1 = .ok (.iconst 0, 1) := by decide +kernel
theorem dX7_isState_2 : decode cX7_isState 2 = .ok (.aload_n 0, 1) := by decide +kernel
theorem dX7_isState_3 : decode cX7_isState 3 = .ok (.getfield 72, 3) := by decide +kernel
theorem dX7_isState_6 : decode cX7_isState 6 = .ok (.iconst 1, 1) := by decide +kernel
theorem dX7_isState_7 : decode cX7_isState 7 = .ok (.isub, 1) := by decide +kernel
theorem dX7_isState_8 : decode cX7_isState 8 = .ok (.invokestatic 64, 3) := by decide +kernel
theorem dX7_isState_11 : decode cX7_isState 11 = .ok (.ireturn, 1) := by decide +kernel
theorem dX7_isMember_0 : decode cX7_isMember 0 = .ok (.iload_n 2, 1) := by decide +kernel
theorem dX7_isMember_1 : decode cX7_isMember 1 = .ok (.invokestatic 75, 3) := by decide +kernel
theorem dX7_isMember_4 : decode cX7_isMember 4 = .ok (.ifCond .eq 20, 3) := by decide +kernel
theorem dX7_isMember_7 : decode cX7_isMember 7 = .ok (.aload_n 0, 1) := by decide +kernel
theorem dX7_isMember_8 : decode cX7_isMember 8 = .ok (.getfield 16, 3) := by decide +kernel
theorem dX7_isMember_11 : decode cX7_isMember 11 = .ok (.iload_n 1, 1) := by decide +kernel
theorem dX7_isMember_12 : decode cX7_isMember 12 = .ok (.iaload, 1) := by decide +kernel
theorem dX7_isMember_13 : decode cX7_isMember 13 = .ok (.iload_n 2, 1) := by decide +kernel
theorem dX7_isMember_14 : decode cX7_isMember 14 = .ok (.invokestatic 79, 3) := by decide +kernel
theorem dX7_isMember_17 : decode cX7_isMember 17 = .ok (.ifCond .eq 7, 3) := by decide +kernel
theorem dX7_isMember_20 : decode cX7_isMember 20 = .ok (.iconst 1, 1) := by decide +kernel
theorem dX7_isMember_21 : decode cX7_isMember 21 = .ok (.goto 4, 3) := by decide +kernel
theorem dX7_isMember_24 : decode cX7_isMember 24 = .ok (.iconst 0, 1) := by decide +kernel
theorem dX7_isMember_25 : decode cX7_isMember 25 = .ok (.ireturn, 1) := by decide +kernel
theorem dX7_channelOf_0 : decode cX7_channelOf 0 = .ok (.aload_n 0, 1) := by decide +kernel
theorem dX7_channelOf_1 : decode cX7_channelOf 1 = .ok (.getfield 52, 3) := by decide +kernel
theorem dX7_channelOf_4 : decode cX7_channelOf 4 = .ok (.bipush 35, 2) := by decide +kernel
theorem dX7_channelOf_6 : decode cX7_channelOf 6 = .ok (.iload_n 1, 1) := by decide +kernel
theorem dX7_channelOf_7 : decode cX7_channelOf 7 = .ok (.imul, 1) := by decide +kernel
theorem dX7_channelOf_8 : decode cX7_channelOf 8 = .ok (.iconst 0, 1) := by decide +kernel
theorem dX7_channelOf_9 : decode cX7_channelOf 9 = .ok (.iadd, 1) := by decide +kernel
theorem dX7_channelOf_10 : decode cX7_channelOf 10 = .ok (.iaload, 1) := by decide +kernel
theorem dX7_channelOf_11 : decode cX7_channelOf 11 = .ok (.ireturn, 1) := by decide +kernel
theorem dX7_isOf_0 : decode cX7_isOf 0 = .ok (.aload_n 0, 1) := by decide +kernel
theorem dX7_isOf_1 : decode cX7_isOf 1 = .ok (.iload_n 1, 1) := by decide +kernel
theorem dX7_isOf_2 : decode cX7_isOf 2 = .ok (.invokevirtual 83, 3) := by decide +kernel
theorem dX7_isOf_5 : decode cX7_isOf 5 = .ok (.ifCond .eq 20, 3) := by decide +kernel
theorem dX7_isOf_8 : decode cX7_isOf 8 = .ok (.aload_n 0, 1) := by decide +kernel
theorem dX7_isOf_9 : decode cX7_isOf 9 = .ok (.aload_n 0, 1) := by decide +kernel
theorem dX7_isOf_10 : decode cX7_isOf 10 = .ok (.iload_n 1, 1) := by decide +kernel
theorem dX7_isOf_11 : decode cX7_isOf 11 = .ok (.invokevirtual 86, 3) := by decide +kernel
theorem dX7_isOf_14 : decode cX7_isOf 14 = .ok (.iload_n 2, 1) := by decide +kernel
theorem dX7_isOf_15 : decode cX7_isOf 15 = .ok (.invokevirtual 90, 3) := by decide +kernel
theorem dX7_isOf_18 : decode cX7_isOf 18 = .ok (.ifCond .eq 7, 3) := by decide +kernel
theorem dX7_isOf_21 : decode cX7_isOf 21 = .ok (.iconst 1, 1) := by decide +kernel
theorem dX7_isOf_22 : decode cX7_isOf 22 = .ok (.goto 4, 3) := by decide +kernel
theorem dX7_isOf_25 : decode cX7_isOf 25 = .ok (.iconst 0, 1) := by decide +kernel
theorem dX7_isOf_26 : decode cX7_isOf 26 = .ok (.ireturn, 1) := by decide +kernel
theorem dX7_lockAt_0 : decode cX7_lockAt 0 = .ok (.bipush 35, 2) := by decide +kernel
theorem dX7_lockAt_2 : decode cX7_lockAt 2 = .ok (.iload_n 0, 1) := by decide +kernel
theorem dX7_lockAt_3 : decode cX7_lockAt 3 = .ok (.imul, 1) := by decide +kernel
theorem dX7_lockAt_4 : decode cX7_lockAt 4 = .ok (.bipush 16, 2) := by decide +kernel
theorem dX7_lockAt_6 : decode cX7_lockAt 6 = .ok (.iadd, 1) := by decide +kernel
theorem dX7_lockAt_7 : decode cX7_lockAt 7 = .ok (.iconst 5, 1) := by decide +kernel
theorem dX7_lockAt_8 : decode cX7_lockAt 8 = .ok (.iload_n 1, 1) := by decide +kernel
theorem dX7_lockAt_9 : decode cX7_lockAt 9 = .ok (.imul, 1) := by decide +kernel
theorem dX7_lockAt_10 : decode cX7_lockAt 10 = .ok (.iadd, 1) := by decide +kernel
theorem dX7_lockAt_11 : decode cX7_lockAt 11 = .ok (.ireturn, 1) := by decide +kernel
theorem dX7_whole_0 : decode cX7_whole 0 = .ok (.aload_n 0, 1) := by decide +kernel
theorem dX7_whole_1 : decode cX7_whole 1 = .ok (.getfield 52, 3) := by decide +kernel
theorem dX7_whole_4 : decode cX7_whole 4 = .ok (.bipush 35, 2) := by decide +kernel
theorem dX7_whole_6 : decode cX7_whole 6 = .ok (.iload_n 1, 1) := by decide +kernel
theorem dX7_whole_7 : decode cX7_whole 7 = .ok (.imul, 1) := by decide +kernel
theorem dX7_whole_8 : decode cX7_whole 8 = .ok (.bipush 31, 2) := by decide +kernel
theorem dX7_whole_10 : decode cX7_whole 10 = .ok (.iadd, 1) := by decide +kernel
theorem dX7_whole_11 : decode cX7_whole 11 = .ok (.iaload, 1) := by decide +kernel
theorem dX7_whole_12 : decode cX7_whole 12 = .ok (.istore_n 2, 1) := by decide +kernel
theorem dX7_whole_13 : decode cX7_whole 13 = .ok (.iconst 0, 1) := by decide +kernel
theorem dX7_whole_14 : decode cX7_whole 14 = .ok (.istore_n 3, 1) := by decide +kernel
theorem dX7_whole_15 : decode cX7_whole 15 = .ok (.iload_n 3, 1) := by decide +kernel
theorem dX7_whole_16 : decode cX7_whole 16 = .ok (.bipush 6, 2) := by decide +kernel
theorem dX7_whole_18 : decode cX7_whole 18 = .ok (.if_icmp .ge 25, 3) := by decide +kernel
theorem dX7_whole_21 : decode cX7_whole 21 = .ok (.iload_n 2, 1) := by decide +kernel
theorem dX7_whole_22 : decode cX7_whole 22 = .ok (.aload_n 0, 1) := by decide +kernel
theorem dX7_whole_23 : decode cX7_whole 23 = .ok (.getfield 52, 3) := by decide +kernel
theorem dX7_whole_26 : decode cX7_whole 26 = .ok (.bipush 35, 2) := by decide +kernel
theorem dX7_whole_28 : decode cX7_whole 28 = .ok (.iload_n 1, 1) := by decide +kernel
theorem dX7_whole_29 : decode cX7_whole 29 = .ok (.imul, 1) := by decide +kernel
theorem dX7_whole_30 : decode cX7_whole 30 = .ok (.iconst 4, 1) := by decide +kernel
theorem dX7_whole_31 : decode cX7_whole 31 = .ok (.iadd, 1) := by decide +kernel
theorem dX7_whole_32 : decode cX7_whole 32 = .ok (.iload_n 3, 1) := by decide +kernel
theorem dX7_whole_33 : decode cX7_whole 33 = .ok (.iadd, 1) := by decide +kernel
theorem dX7_whole_34 : decode cX7_whole 34 = .ok (.iaload, 1) := by decide +kernel
theorem dX7_whole_35 : decode cX7_whole 35 = .ok (.iadd, 1) := by decide +kernel
theorem dX7_whole_36 : decode cX7_whole 36 = .ok (.istore_n 2, 1) := by decide +kernel
theorem dX7_whole_37 : decode cX7_whole 37 = .ok (.iinc 3 1, 3) := by decide +kernel
theorem dX7_whole_40 : decode cX7_whole 40 = .ok (.goto (-25), 3) := by decide +kernel
theorem dX7_whole_43 : decode cX7_whole 43 = .ok (.iconst 0, 1) := by decide +kernel
theorem dX7_whole_44 : decode cX7_whole 44 = .ok (.istore_n 3, 1) := by decide +kernel
theorem dX7_whole_45 : decode cX7_whole 45 = .ok (.iload_n 3, 1) := by decide +kernel
theorem dX7_whole_46 : decode cX7_whole 46 = .ok (.iconst 3, 1) := by decide +kernel
theorem dX7_whole_47 : decode cX7_whole 47 = .ok (.if_icmp .ge 24, 3) := by decide +kernel
theorem dX7_whole_50 : decode cX7_whole 50 = .ok (.iload_n 2, 1) := by decide +kernel
theorem dX7_whole_51 : decode cX7_whole 51 = .ok (.aload_n 0, 1) := by decide +kernel
theorem dX7_whole_52 : decode cX7_whole 52 = .ok (.getfield 52, 3) := by decide +kernel
theorem dX7_whole_55 : decode cX7_whole 55 = .ok (.iload_n 1, 1) := by decide +kernel
theorem dX7_whole_56 : decode cX7_whole 56 = .ok (.iload_n 3, 1) := by decide +kernel
theorem dX7_whole_57 : decode cX7_whole 57 = .ok (.invokestatic 93, 3) := by decide +kernel
theorem dX7_whole_60 : decode cX7_whole 60 = .ok (.iconst 0, 1) := by decide +kernel
theorem dX7_whole_61 : decode cX7_whole 61 = .ok (.iadd, 1) := by decide +kernel
theorem dX7_whole_62 : decode cX7_whole 62 = .ok (.iaload, 1) := by decide +kernel
theorem dX7_whole_63 : decode cX7_whole 63 = .ok (.iadd, 1) := by decide +kernel
theorem dX7_whole_64 : decode cX7_whole 64 = .ok (.istore_n 2, 1) := by decide +kernel
theorem dX7_whole_65 : decode cX7_whole 65 = .ok (.iinc 3 1, 3) := by decide +kernel
theorem dX7_whole_68 : decode cX7_whole 68 = .ok (.goto (-23), 3) := by decide +kernel
theorem dX7_whole_71 : decode cX7_whole 71 = .ok (.iload_n 2, 1) := by decide +kernel
theorem dX7_whole_72 : decode cX7_whole 72 = .ok (.ireturn, 1) := by decide +kernel
theorem dX7_counts_0 : decode cX7_counts 0 = .ok (.aload_n 0, 1) := by decide +kernel
theorem dX7_counts_1 : decode cX7_counts 1 = .ok (.iload_n 1, 1) := by decide +kernel
theorem dX7_counts_2 : decode cX7_counts 2 = .ok (.invokevirtual 86, 3) := by decide +kernel
theorem dX7_counts_5 : decode cX7_counts 5 = .ok (.istore_n 2, 1) := by decide +kernel
theorem dX7_counts_6 : decode cX7_counts 6 = .ok (.aload_n 0, 1) := by decide +kernel
theorem dX7_counts_7 : decode cX7_counts 7 = .ok (.getfield 25, 3) := by decide +kernel
theorem dX7_counts_10 : decode cX7_counts 10 = .ok (.iload_n 2, 1) := by decide +kernel
theorem dX7_counts_11 : decode cX7_counts 11 = .ok (.iaload, 1) := by decide +kernel
theorem dX7_counts_12 : decode cX7_counts 12 = .ok (.iconst 3, 1) := by decide +kernel
theorem dX7_counts_13 : decode cX7_counts 13 = .ok (.if_icmp .eq 41, 3) := by decide +kernel
theorem dX7_counts_16 : decode cX7_counts 16 = .ok (.aload_n 0, 1) := by decide +kernel
theorem dX7_counts_17 : decode cX7_counts 17 = .ok (.getfield 52, 3) := by decide +kernel
theorem dX7_counts_20 : decode cX7_counts 20 = .ok (.bipush 35, 2) := by decide +kernel
theorem dX7_counts_22 : decode cX7_counts 22 = .ok (.iload_n 1, 1) := by decide +kernel
theorem dX7_counts_23 : decode cX7_counts 23 = .ok (.imul, 1) := by decide +kernel
theorem dX7_counts_24 : decode cX7_counts 24 = .ok (.iconst 2, 1) := by decide +kernel
theorem dX7_counts_25 : decode cX7_counts 25 = .ok (.iadd, 1) := by decide +kernel
theorem dX7_counts_26 : decode cX7_counts 26 = .ok (.iaload, 1) := by decide +kernel
theorem dX7_counts_27 : decode cX7_counts 27 = .ok (.aload_n 0, 1) := by decide +kernel
theorem dX7_counts_28 : decode cX7_counts 28 = .ok (.getfield 16, 3) := by decide +kernel
theorem dX7_counts_31 : decode cX7_counts 31 = .ok (.iload_n 2, 1) := by decide +kernel
theorem dX7_counts_32 : decode cX7_counts 32 = .ok (.iaload, 1) := by decide +kernel
theorem dX7_counts_33 : decode cX7_counts 33 = .ok (.if_icmp .ne 21, 3) := by decide +kernel
theorem dX7_counts_36 : decode cX7_counts 36 = .ok (.aload_n 0, 1) := by decide +kernel
theorem dX7_counts_37 : decode cX7_counts 37 = .ok (.iload_n 1, 1) := by decide +kernel
theorem dX7_counts_38 : decode cX7_counts 38 = .ok (.invokevirtual 97, 3) := by decide +kernel
theorem dX7_counts_41 : decode cX7_counts 41 = .ok (.aload_n 0, 1) := by decide +kernel
theorem dX7_counts_42 : decode cX7_counts 42 = .ok (.getfield 22, 3) := by decide +kernel
theorem dX7_counts_45 : decode cX7_counts 45 = .ok (.iload_n 2, 1) := by decide +kernel
theorem dX7_counts_46 : decode cX7_counts 46 = .ok (.iaload, 1) := by decide +kernel
theorem dX7_counts_47 : decode cX7_counts 47 = .ok (.if_icmp .ne 7, 3) := by decide +kernel
theorem dX7_counts_50 : decode cX7_counts 50 = .ok (.iconst 1, 1) := by decide +kernel
theorem dX7_counts_51 : decode cX7_counts 51 = .ok (.goto 4, 3) := by decide +kernel
theorem dX7_counts_54 : decode cX7_counts 54 = .ok (.iconst 0, 1) := by decide +kernel
theorem dX7_counts_55 : decode cX7_counts 55 = .ok (.ireturn, 1) := by decide +kernel
theorem dX7_newest_0 : decode cX7_newest 0 = .ok (.aload_n 0, 1) := by decide +kernel
theorem dX7_newest_1 : decode cX7_newest 1 = .ok (.getfield 72, 3) := by decide +kernel
theorem dX7_newest_4 : decode cX7_newest 4 = .ok (.iconst 1, 1) := by decide +kernel
theorem dX7_newest_5 : decode cX7_newest 5 = .ok (.isub, 1) := by decide +kernel
theorem dX7_newest_6 : decode cX7_newest 6 = .ok (.istore_n 2, 1) := by decide +kernel
theorem dX7_newest_7 : decode cX7_newest 7 = .ok (.iload_n 2, 1) := by decide +kernel
theorem dX7_newest_8 : decode cX7_newest 8 = .ok (.ifCond .lt 26, 3) := by decide +kernel
theorem dX7_newest_11 : decode cX7_newest 11 = .ok (.aload_n 0, 1) := by decide +kernel
theorem dX7_newest_12 : decode cX7_newest 12 = .ok (.iload_n 2, 1) := by decide +kernel
theorem dX7_newest_13 : decode cX7_newest 13 = .ok (.invokevirtual 86, 3) := by decide +kernel
theorem dX7_newest_16 : decode cX7_newest 16 = .ok (.iload_n 1, 1) := by decide +kernel
theorem dX7_newest_17 : decode cX7_newest 17 = .ok (.if_icmp .ne 11, 3) := by decide +kernel
theorem dX7_newest_20 : decode cX7_newest 20 = .ok (.aload_n 0, 1) := by decide +kernel
theorem dX7_newest_21 : decode cX7_newest 21 = .ok (.iload_n 2, 1) := by decide +kernel
theorem dX7_newest_22 : decode cX7_newest 22 = .ok (.invokevirtual 100, 3) := by decide +kernel
theorem dX7_newest_25 : decode cX7_newest 25 = .ok (.ifCond .ne 9, 3) := by decide +kernel
theorem dX7_newest_28 : decode cX7_newest 28 = .ok (.iinc 2 (-1), 3) := by decide +kernel
theorem dX7_newest_31 : decode cX7_newest 31 = .ok (.goto (-24), 3) := by decide +kernel
theorem dX7_newest_34 : decode cX7_newest 34 = .ok (.iload_n 2, 1) := by decide +kernel
theorem dX7_newest_35 : decode cX7_newest 35 = .ok (.ireturn, 1) := by decide +kernel
theorem dX7_free_0 : decode cX7_free 0 = .ok (.aload_n 0, 1) := by decide +kernel
theorem dX7_free_1 : decode cX7_free 1 = .ok (.getfield 52, 3) := by decide +kernel
theorem dX7_free_4 : decode cX7_free 4 = .ok (.bipush 35, 2) := by decide +kernel
theorem dX7_free_6 : decode cX7_free 6 = .ok (.iload_n 1, 1) := by decide +kernel
theorem dX7_free_7 : decode cX7_free 7 = .ok (.imul, 1) := by decide +kernel
theorem dX7_free_8 : decode cX7_free 8 = .ok (.iconst 4, 1) := by decide +kernel
theorem dX7_free_9 : decode cX7_free 9 = .ok (.iadd, 1) := by decide +kernel
theorem dX7_free_10 : decode cX7_free 10 = .ok (.iload_n 2, 1) := by decide +kernel
theorem dX7_free_11 : decode cX7_free 11 = .ok (.iadd, 1) := by decide +kernel
theorem dX7_free_12 : decode cX7_free 12 = .ok (.iaload, 1) := by decide +kernel
theorem dX7_free_13 : decode cX7_free 13 = .ok (.aload_n 0, 1) := by decide +kernel
theorem dX7_free_14 : decode cX7_free 14 = .ok (.getfield 52, 3) := by decide +kernel
theorem dX7_free_17 : decode cX7_free 17 = .ok (.bipush 35, 2) := by decide +kernel
theorem dX7_free_19 : decode cX7_free 19 = .ok (.iload_n 1, 1) := by decide +kernel
theorem dX7_free_20 : decode cX7_free 20 = .ok (.imul, 1) := by decide +kernel
theorem dX7_free_21 : decode cX7_free 21 = .ok (.bipush 10, 2) := by decide +kernel
theorem dX7_free_23 : decode cX7_free 23 = .ok (.iadd, 1) := by decide +kernel
theorem dX7_free_24 : decode cX7_free 24 = .ok (.iload_n 2, 1) := by decide +kernel
theorem dX7_free_25 : decode cX7_free 25 = .ok (.iadd, 1) := by decide +kernel
theorem dX7_free_26 : decode cX7_free 26 = .ok (.iaload, 1) := by decide +kernel
theorem dX7_free_27 : decode cX7_free 27 = .ok (.isub, 1) := by decide +kernel
theorem dX7_free_28 : decode cX7_free 28 = .ok (.ireturn, 1) := by decide +kernel
theorem dX7_isFixed_0 : decode cX7_isFixed 0 = .ok (.aload_n 0, 1) := by decide +kernel
theorem dX7_isFixed_1 : decode cX7_isFixed 1 = .ok (.getfield 25, 3) := by decide +kernel
theorem dX7_isFixed_4 : decode cX7_isFixed 4 = .ok (.aload_n 0, 1) := by decide +kernel
theorem dX7_isFixed_5 : decode cX7_isFixed 5 = .ok (.iload_n 1, 1) := by decide +kernel
theorem dX7_isFixed_6 : decode cX7_isFixed 6 = .ok (.invokevirtual 86, 3) := by decide +kernel
theorem dX7_isFixed_9 : decode cX7_isFixed 9 = .ok (.iaload, 1) := by decide +kernel
theorem dX7_isFixed_10 : decode cX7_isFixed 10 = .ok (.iconst 3, 1) := by decide +kernel
theorem dX7_isFixed_11 : decode cX7_isFixed 11 = .ok (.if_icmp .eq 17, 3) := by decide +kernel
theorem dX7_isFixed_14 : decode cX7_isFixed 14 = .ok (.aload_n 0, 1) := by decide +kernel
theorem dX7_isFixed_15 : decode cX7_isFixed 15 = .ok (.getfield 52, 3) := by decide +kernel
theorem dX7_isFixed_18 : decode cX7_isFixed 18 = .ok (.bipush 35, 2) := by decide +kernel
theorem dX7_isFixed_20 : decode cX7_isFixed 20 = .ok (.iload_n 1, 1) := by decide +kernel
theorem dX7_isFixed_21 : decode cX7_isFixed 21 = .ok (.imul, 1) := by decide +kernel
theorem dX7_isFixed_22 : decode cX7_isFixed 22 = .ok (.iconst 2, 1) := by decide +kernel
theorem dX7_isFixed_23 : decode cX7_isFixed 23 = .ok (.iadd, 1) := by decide +kernel
theorem dX7_isFixed_24 : decode cX7_isFixed 24 = .ok (.iaload, 1) := by decide +kernel
theorem dX7_isFixed_25 : decode cX7_isFixed 25 = .ok (.ifCond .eq 7, 3) := by decide +kernel
theorem dX7_isFixed_28 : decode cX7_isFixed 28 = .ok (.iconst 1, 1) := by decide +kernel
theorem dX7_isFixed_29 : decode cX7_isFixed 29 = .ok (.goto 4, 3) := by decide +kernel
theorem dX7_isFixed_32 : decode cX7_isFixed 32 = .ok (.iconst 0, 1) := by decide +kernel
theorem dX7_isFixed_33 : decode cX7_isFixed 33 = .ok (.ireturn, 1) := by decide +kernel
theorem dX7_emptyPlace_0 : decode cX7_emptyPlace 0 = .ok (.iconst 0, 1) := by decide +kernel
theorem dX7_emptyPlace_1 : decode cX7_emptyPlace 1 = .ok (.istore_n 2, 1) := by decide +kernel
theorem dX7_emptyPlace_2 : decode cX7_emptyPlace 2 = .ok (.iload_n 2, 1) := by decide +kernel
theorem dX7_emptyPlace_3 : decode cX7_emptyPlace 3 = .ok (.iconst 3, 1) := by decide +kernel
theorem dX7_emptyPlace_4 : decode cX7_emptyPlace 4 = .ok (.if_icmp .ge 24, 3) := by decide +kernel
theorem dX7_emptyPlace_7 : decode cX7_emptyPlace 7 = .ok (.aload_n 0, 1) := by decide +kernel
theorem dX7_emptyPlace_8 : decode cX7_emptyPlace 8 = .ok (.getfield 52, 3) := by decide +kernel
theorem dX7_emptyPlace_11 : decode cX7_emptyPlace 11 = .ok (.iload_n 1, 1) := by decide +kernel
theorem dX7_emptyPlace_12 : decode cX7_emptyPlace 12 = .ok (.iload_n 2, 1) := by decide +kernel
theorem dX7_emptyPlace_13 : decode cX7_emptyPlace 13 = .ok (.invokestatic 93, 3) := by decide +kernel
theorem dX7_emptyPlace_16 : decode cX7_emptyPlace 16 = .ok (.iconst 0, 1) := by decide +kernel
theorem dX7_emptyPlace_17 : decode cX7_emptyPlace 17 = .ok (.iadd, 1) := by decide +kernel
theorem dX7_emptyPlace_18 : decode cX7_emptyPlace 18 = .ok (.iaload, 1) := by decide +kernel
theorem dX7_emptyPlace_19 : decode cX7_emptyPlace 19 = .ok (.ifCond .le 9, 3) := by decide +kernel
theorem dX7_emptyPlace_22 : decode cX7_emptyPlace 22 = .ok (.iinc 2 1, 3) := by decide +kernel
theorem dX7_emptyPlace_25 : decode cX7_emptyPlace 25 = .ok (.goto (-23), 3) := by decide +kernel
theorem dX7_emptyPlace_28 : decode cX7_emptyPlace 28 = .ok (.iload_n 2, 1) := by decide +kernel
theorem dX7_emptyPlace_29 : decode cX7_emptyPlace 29 = .ok (.iconst 3, 1) := by decide +kernel
theorem dX7_emptyPlace_30 : decode cX7_emptyPlace 30 = .ok (.if_icmp .ne 7, 3) := by decide +kernel
theorem dX7_emptyPlace_33 : decode cX7_emptyPlace 33 = .ok (.iconst (-1), 1) := by decide +kernel
theorem dX7_emptyPlace_34 : decode cX7_emptyPlace 34 = .ok (.goto 4, 3) := by decide +kernel
theorem dX7_emptyPlace_37 : decode cX7_emptyPlace 37 = .ok (.iload_n 2, 1) := by decide +kernel
theorem dX7_emptyPlace_38 : decode cX7_emptyPlace 38 = .ok (.ireturn, 1) := by decide +kernel
theorem dX7_shows_0 : decode cX7_shows 0 = .ok (.aload_n 0, 1) := by decide +kernel
theorem dX7_shows_1 : decode cX7_shows 1 = .ok (.iload_n 1, 1) := by decide +kernel
theorem dX7_shows_2 : decode cX7_shows 2 = .ok (.invokevirtual 86, 3) := by decide +kernel
theorem dX7_shows_5 : decode cX7_shows 5 = .ok (.istore_n 2, 1) := by decide +kernel
theorem dX7_shows_6 : decode cX7_shows 6 = .ok (.aload_n 0, 1) := by decide +kernel
theorem dX7_shows_7 : decode cX7_shows 7 = .ok (.getfield 25, 3) := by decide +kernel
theorem dX7_shows_10 : decode cX7_shows 10 = .ok (.iload_n 2, 1) := by decide +kernel
theorem dX7_shows_11 : decode cX7_shows 11 = .ok (.iaload, 1) := by decide +kernel
theorem dX7_shows_12 : decode cX7_shows 12 = .ok (.iconst 1, 1) := by decide +kernel
theorem dX7_shows_13 : decode cX7_shows 13 = .ok (.if_icmp .ne 37, 3) := by decide +kernel
theorem dX7_shows_16 : decode cX7_shows 16 = .ok (.aload_n 0, 1) := by decide +kernel
theorem dX7_shows_17 : decode cX7_shows 17 = .ok (.getfield 25, 3) := by decide +kernel
theorem dX7_shows_20 : decode cX7_shows 20 = .ok (.iload_n 2, 1) := by decide +kernel
theorem dX7_shows_21 : decode cX7_shows 21 = .ok (.iconst 2, 1) := by decide +kernel
theorem dX7_shows_22 : decode cX7_shows 22 = .ok (.iastore, 1) := by decide +kernel
theorem dX7_shows_23 : decode cX7_shows 23 = .ok (.aload_n 0, 1) := by decide +kernel
theorem dX7_shows_24 : decode cX7_shows 24 = .ok (.getfield 28, 3) := by decide +kernel
theorem dX7_shows_27 : decode cX7_shows 27 = .ok (.iload_n 2, 1) := by decide +kernel
theorem dX7_shows_28 : decode cX7_shows 28 = .ok (.iload_n 1, 1) := by decide +kernel
theorem dX7_shows_29 : decode cX7_shows 29 = .ok (.iastore, 1) := by decide +kernel
theorem dX7_shows_30 : decode cX7_shows 30 = .ok (.aload_n 0, 1) := by decide +kernel
theorem dX7_shows_31 : decode cX7_shows 31 = .ok (.getfield 31, 3) := by decide +kernel
theorem dX7_shows_34 : decode cX7_shows 34 = .ok (.iload_n 2, 1) := by decide +kernel
theorem dX7_shows_35 : decode cX7_shows 35 = .ok (.aload_n 0, 1) := by decide +kernel
theorem dX7_shows_36 : decode cX7_shows 36 = .ok (.getfield 103, 3) := by decide +kernel
theorem dX7_shows_39 : decode cX7_shows 39 = .ok (.aload_n 0, 1) := by decide +kernel
theorem dX7_shows_40 : decode cX7_shows 40 = .ok (.getfield 19, 3) := by decide +kernel
theorem dX7_shows_43 : decode cX7_shows 43 = .ok (.iload_n 2, 1) := by decide +kernel
theorem dX7_shows_44 : decode cX7_shows 44 = .ok (.iaload, 1) := by decide +kernel
theorem dX7_shows_45 : decode cX7_shows 45 = .ok (.iadd, 1) := by decide +kernel
theorem dX7_shows_46 : decode cX7_shows 46 = .ok (.iastore, 1) := by decide +kernel
theorem dX7_shows_47 : decode cX7_shows 47 = .ok (.goto 40, 3) := by decide +kernel
theorem dX7_shows_50 : decode cX7_shows 50 = .ok (.aload_n 0, 1) := by decide +kernel
theorem dX7_shows_51 : decode cX7_shows 51 = .ok (.getfield 52, 3) := by decide +kernel
theorem dX7_shows_54 : decode cX7_shows 54 = .ok (.bipush 35, 2) := by decide +kernel
theorem dX7_shows_56 : decode cX7_shows 56 = .ok (.aload_n 0, 1) := by decide +kernel
theorem dX7_shows_57 : decode cX7_shows 57 = .ok (.getfield 28, 3) := by decide +kernel
theorem dX7_shows_60 : decode cX7_shows 60 = .ok (.iload_n 2, 1) := by decide +kernel
theorem dX7_shows_61 : decode cX7_shows 61 = .ok (.iaload, 1) := by decide +kernel
theorem dX7_shows_62 : decode cX7_shows 62 = .ok (.imul, 1) := by decide +kernel
theorem dX7_shows_63 : decode cX7_shows 63 = .ok (.iconst 1, 1) := by decide +kernel
theorem dX7_shows_64 : decode cX7_shows 64 = .ok (.iadd, 1) := by decide +kernel
theorem dX7_shows_65 : decode cX7_shows 65 = .ok (.iaload, 1) := by decide +kernel
theorem dX7_shows_66 : decode cX7_shows 66 = .ok (.aload_n 0, 1) := by decide +kernel
theorem dX7_shows_67 : decode cX7_shows 67 = .ok (.getfield 52, 3) := by decide +kernel
theorem dX7_shows_70 : decode cX7_shows 70 = .ok (.bipush 35, 2) := by decide +kernel
theorem dX7_shows_72 : decode cX7_shows 72 = .ok (.iload_n 1, 1) := by decide +kernel
theorem dX7_shows_73 : decode cX7_shows 73 = .ok (.imul, 1) := by decide +kernel
theorem dX7_shows_74 : decode cX7_shows 74 = .ok (.iconst 1, 1) := by decide +kernel
theorem dX7_shows_75 : decode cX7_shows 75 = .ok (.iadd, 1) := by decide +kernel
theorem dX7_shows_76 : decode cX7_shows 76 = .ok (.iaload, 1) := by decide +kernel
theorem dX7_shows_77 : decode cX7_shows 77 = .ok (.if_icmp .ge 10, 3) := by decide +kernel
theorem dX7_shows_80 : decode cX7_shows 80 = .ok (.aload_n 0, 1) := by decide +kernel
theorem dX7_shows_81 : decode cX7_shows 81 = .ok (.getfield 28, 3) := by decide +kernel
theorem dX7_shows_84 : decode cX7_shows 84 = .ok (.iload_n 2, 1) := by decide +kernel
theorem dX7_shows_85 : decode cX7_shows 85 = .ok (.iload_n 1, 1) := by decide +kernel
theorem dX7_shows_86 : decode cX7_shows 86 = .ok (.iastore, 1) := by decide +kernel
theorem dX7_shows_87 : decode cX7_shows 87 = .ok (.return_, 1) := by decide +kernel
theorem dX7_end_0 : decode cX7_end 0 = .ok (.aload_n 0, 1) := by decide +kernel
theorem dX7_end_1 : decode cX7_end 1 = .ok (.getfield 25, 3) := by decide +kernel
theorem dX7_end_4 : decode cX7_end 4 = .ok (.iload_n 1, 1) := by decide +kernel
theorem dX7_end_5 : decode cX7_end 5 = .ok (.iconst 3, 1) := by decide +kernel
theorem dX7_end_6 : decode cX7_end 6 = .ok (.iastore, 1) := by decide +kernel
theorem dX7_end_7 : decode cX7_end 7 = .ok (.aload_n 0, 1) := by decide +kernel
theorem dX7_end_8 : decode cX7_end 8 = .ok (.getfield 28, 3) := by decide +kernel
theorem dX7_end_11 : decode cX7_end 11 = .ok (.iload_n 1, 1) := by decide +kernel
theorem dX7_end_12 : decode cX7_end 12 = .ok (.iload_n 2, 1) := by decide +kernel
theorem dX7_end_13 : decode cX7_end 13 = .ok (.iastore, 1) := by decide +kernel
theorem dX7_end_14 : decode cX7_end 14 = .ok (.aload_n 0, 1) := by decide +kernel
theorem dX7_end_15 : decode cX7_end 15 = .ok (.getfield 34, 3) := by decide +kernel
theorem dX7_end_18 : decode cX7_end 18 = .ok (.iload_n 1, 1) := by decide +kernel
theorem dX7_end_19 : decode cX7_end 19 = .ok (.iconst 0, 1) := by decide +kernel
theorem dX7_end_20 : decode cX7_end 20 = .ok (.iastore, 1) := by decide +kernel
theorem dX7_end_21 : decode cX7_end 21 = .ok (.iconst 0, 1) := by decide +kernel
theorem dX7_end_22 : decode cX7_end 22 = .ok (.istore_n 3, 1) := by decide +kernel
theorem dX7_end_23 : decode cX7_end 23 = .ok (.iload_n 3, 1) := by decide +kernel
theorem dX7_end_24 : decode cX7_end 24 = .ok (.bipush 6, 2) := by decide +kernel
theorem dX7_end_26 : decode cX7_end 26 = .ok (.if_icmp .ge 53, 3) := by decide +kernel
theorem dX7_end_29 : decode cX7_end 29 = .ok (.aload_n 0, 1) := by decide +kernel
theorem dX7_end_30 : decode cX7_end 30 = .ok (.getfield 7, 3) := by decide +kernel
theorem dX7_end_33 : decode cX7_end 33 = .ok (.iload_n 3, 1) := by decide +kernel
theorem dX7_end_34 : decode cX7_end 34 = .ok (.dup2, 1) := by decide +kernel
theorem dX7_end_35 : decode cX7_end 35 = .ok (.iaload, 1) := by decide +kernel
theorem dX7_end_36 : decode cX7_end 36 = .ok (.aload_n 0, 1) := by decide +kernel
theorem dX7_end_37 : decode cX7_end 37 = .ok (.getfield 52, 3) := by decide +kernel
theorem dX7_end_40 : decode cX7_end 40 = .ok (.bipush 35, 2) := by decide +kernel
theorem dX7_end_42 : decode cX7_end 42 = .ok (.iload_n 2, 1) := by decide +kernel
theorem dX7_end_43 : decode cX7_end 43 = .ok (.imul, 1) := by decide +kernel
theorem dX7_end_44 : decode cX7_end 44 = .ok (.iconst 4, 1) := by decide +kernel
theorem dX7_end_45 : decode cX7_end 45 = .ok (.iadd, 1) := by decide +kernel
theorem dX7_end_46 : decode cX7_end 46 = .ok (.iload_n 3, 1) := by decide +kernel
theorem dX7_end_47 : decode cX7_end 47 = .ok (.iadd, 1) := by decide +kernel
theorem dX7_end_48 : decode cX7_end 48 = .ok (.iaload, 1) := by decide +kernel
theorem dX7_end_49 : decode cX7_end 49 = .ok (.iadd, 1) := by decide +kernel
theorem dX7_end_50 : decode cX7_end 50 = .ok (.iastore, 1) := by decide +kernel
theorem dX7_end_51 : decode cX7_end 51 = .ok (.aload_n 0, 1) := by decide +kernel
theorem dX7_end_52 : decode cX7_end 52 = .ok (.getfield 22, 3) := by decide +kernel
theorem dX7_end_55 : decode cX7_end 55 = .ok (.iload_n 1, 1) := by decide +kernel
theorem dX7_end_56 : decode cX7_end 56 = .ok (.dup2, 1) := by decide +kernel
theorem dX7_end_57 : decode cX7_end 57 = .ok (.iaload, 1) := by decide +kernel
theorem dX7_end_58 : decode cX7_end 58 = .ok (.aload_n 0, 1) := by decide +kernel
theorem dX7_end_59 : decode cX7_end 59 = .ok (.getfield 52, 3) := by decide +kernel
theorem dX7_end_62 : decode cX7_end 62 = .ok (.bipush 35, 2) := by decide +kernel
theorem dX7_end_64 : decode cX7_end 64 = .ok (.iload_n 2, 1) := by decide +kernel
theorem dX7_end_65 : decode cX7_end 65 = .ok (.imul, 1) := by decide +kernel
theorem dX7_end_66 : decode cX7_end 66 = .ok (.iconst 4, 1) := by decide +kernel
theorem dX7_end_67 : decode cX7_end 67 = .ok (.iadd, 1) := by decide +kernel
theorem dX7_end_68 : decode cX7_end 68 = .ok (.iload_n 3, 1) := by decide +kernel
theorem dX7_end_69 : decode cX7_end 69 = .ok (.iadd, 1) := by decide +kernel
theorem dX7_end_70 : decode cX7_end 70 = .ok (.iaload, 1) := by decide +kernel
theorem dX7_end_71 : decode cX7_end 71 = .ok (.isub, 1) := by decide +kernel
theorem dX7_end_72 : decode cX7_end 72 = .ok (.iastore, 1) := by decide +kernel
theorem dX7_end_73 : decode cX7_end 73 = .ok (.iinc 3 1, 3) := by decide +kernel
theorem dX7_end_76 : decode cX7_end 76 = .ok (.goto (-53), 3) := by decide +kernel
theorem dX7_end_79 : decode cX7_end 79 = .ok (.iconst 0, 1) := by decide +kernel
theorem dX7_end_80 : decode cX7_end 80 = .ok (.istore_n 3, 1) := by decide +kernel
theorem dX7_end_81 : decode cX7_end 81 = .ok (.iload_n 3, 1) := by decide +kernel
theorem dX7_end_82 : decode cX7_end 82 = .ok (.iconst 3, 1) := by decide +kernel
theorem dX7_end_83 : decode cX7_end 83 = .ok (.if_icmp .ge 73, 3) := by decide +kernel
theorem dX7_end_86 : decode cX7_end 86 = .ok (.aload_n 0, 1) := by decide +kernel
theorem dX7_end_87 : decode cX7_end 87 = .ok (.getfield 52, 3) := by decide +kernel
theorem dX7_end_90 : decode cX7_end 90 = .ok (.iload_n 2, 1) := by decide +kernel
theorem dX7_end_91 : decode cX7_end 91 = .ok (.iload_n 3, 1) := by decide +kernel
theorem dX7_end_92 : decode cX7_end 92 = .ok (.invokestatic 93, 3) := by decide +kernel
theorem dX7_end_95 : decode cX7_end 95 = .ok (.iconst 0, 1) := by decide +kernel
theorem dX7_end_96 : decode cX7_end 96 = .ok (.iadd, 1) := by decide +kernel
theorem dX7_end_97 : decode cX7_end 97 = .ok (.iaload, 1) := by decide +kernel
theorem dX7_end_98 : decode cX7_end 98 = .ok (.ifCond .le 52, 3) := by decide +kernel
theorem dX7_end_101 : decode cX7_end 101 = .ok (.aload_n 0, 1) := by decide +kernel
theorem dX7_end_102 : decode cX7_end 102 = .ok (.getfield 34, 3) := by decide +kernel
theorem dX7_end_105 : decode cX7_end 105 = .ok (.iload_n 1, 1) := by decide +kernel
theorem dX7_end_106 : decode cX7_end 106 = .ok (.dup2, 1) := by decide +kernel
theorem dX7_end_107 : decode cX7_end 107 = .ok (.iaload, 1) := by decide +kernel
theorem dX7_end_108 : decode cX7_end 108 = .ok (.iconst 1, 1) := by decide +kernel
theorem dX7_end_109 : decode cX7_end 109 = .ok (.iload_n 3, 1) := by decide +kernel
theorem dX7_end_110 : decode cX7_end 110 = .ok (.ishl, 1) := by decide +kernel
theorem dX7_end_111 : decode cX7_end 111 = .ok (.iadd, 1) := by decide +kernel
theorem dX7_end_112 : decode cX7_end 112 = .ok (.iastore, 1) := by decide +kernel
theorem dX7_end_113 : decode cX7_end 113 = .ok (.aload_n 0, 1) := by decide +kernel
theorem dX7_end_114 : decode cX7_end 114 = .ok (.getfield 52, 3) := by decide +kernel
theorem dX7_end_117 : decode cX7_end 117 = .ok (.iload_n 2, 1) := by decide +kernel
theorem dX7_end_118 : decode cX7_end 118 = .ok (.iload_n 3, 1) := by decide +kernel
theorem dX7_end_119 : decode cX7_end 119 = .ok (.invokestatic 93, 3) := by decide +kernel
theorem dX7_end_122 : decode cX7_end 122 = .ok (.iconst 4, 1) := by decide +kernel
theorem dX7_end_123 : decode cX7_end 123 = .ok (.iadd, 1) := by decide +kernel
theorem dX7_end_124 : decode cX7_end 124 = .ok (.iaload, 1) := by decide +kernel
theorem dX7_end_125 : decode cX7_end 125 = .ok (.aload_n 0, 1) := by decide +kernel
theorem dX7_end_126 : decode cX7_end 126 = .ok (.getfield 103, 3) := by decide +kernel
theorem dX7_end_129 : decode cX7_end 129 = .ok (.if_icmp .gt 21, 3) := by decide +kernel
theorem dX7_end_132 : decode cX7_end 132 = .ok (.aload_n 0, 1) := by decide +kernel
theorem dX7_end_133 : decode cX7_end 133 = .ok (.iload_n 1, 1) := by decide +kernel
theorem dX7_end_134 : decode cX7_end 134 = .ok (.iload_n 3, 1) := by decide +kernel
theorem dX7_end_135 : decode cX7_end 135 = .ok (.aload_n 0, 1) := by decide +kernel
theorem dX7_end_136 : decode cX7_end 136 = .ok (.getfield 52, 3) := by decide +kernel
theorem dX7_end_139 : decode cX7_end 139 = .ok (.iload_n 2, 1) := by decide +kernel
theorem dX7_end_140 : decode cX7_end 140 = .ok (.iload_n 3, 1) := by decide +kernel
theorem dX7_end_141 : decode cX7_end 141 = .ok (.invokestatic 93, 3) := by decide +kernel
theorem dX7_end_144 : decode cX7_end 144 = .ok (.iconst 1, 1) := by decide +kernel
theorem dX7_end_145 : decode cX7_end 145 = .ok (.iadd, 1) := by decide +kernel
theorem dX7_end_146 : decode cX7_end 146 = .ok (.iaload, 1) := by decide +kernel
theorem dX7_end_147 : decode cX7_end 147 = .ok (.invokevirtual 106, 3) := by decide +kernel
theorem dX7_end_150 : decode cX7_end 150 = .ok (.iinc 3 1, 3) := by decide +kernel
theorem dX7_end_153 : decode cX7_end 153 = .ok (.goto (-72), 3) := by decide +kernel
theorem dX7_end_156 : decode cX7_end 156 = .ok (.aload_n 0, 1) := by decide +kernel
theorem dX7_end_157 : decode cX7_end 157 = .ok (.getfield 37, 3) := by decide +kernel
theorem dX7_end_160 : decode cX7_end 160 = .ok (.iload_n 1, 1) := by decide +kernel
theorem dX7_end_161 : decode cX7_end 161 = .ok (.aload_n 0, 1) := by decide +kernel
theorem dX7_end_162 : decode cX7_end 162 = .ok (.getfield 52, 3) := by decide +kernel
theorem dX7_end_165 : decode cX7_end 165 = .ok (.bipush 35, 2) := by decide +kernel
theorem dX7_end_167 : decode cX7_end 167 = .ok (.iload_n 2, 1) := by decide +kernel
theorem dX7_end_168 : decode cX7_end 168 = .ok (.imul, 1) := by decide +kernel
theorem dX7_end_169 : decode cX7_end 169 = .ok (.bipush 31, 2) := by decide +kernel
theorem dX7_end_171 : decode cX7_end 171 = .ok (.iadd, 1) := by decide +kernel
theorem dX7_end_172 : decode cX7_end 172 = .ok (.iaload, 1) := by decide +kernel
theorem dX7_end_173 : decode cX7_end 173 = .ok (.iastore, 1) := by decide +kernel
theorem dX7_end_174 : decode cX7_end 174 = .ok (.aload_n 0, 1) := by decide +kernel
theorem dX7_end_175 : decode cX7_end 175 = .ok (.getfield 40, 3) := by decide +kernel
theorem dX7_end_178 : decode cX7_end 178 = .ok (.iload_n 1, 1) := by decide +kernel
theorem dX7_end_179 : decode cX7_end 179 = .ok (.aload_n 0, 1) := by decide +kernel
theorem dX7_end_180 : decode cX7_end 180 = .ok (.getfield 52, 3) := by decide +kernel
theorem dX7_end_183 : decode cX7_end 183 = .ok (.bipush 35, 2) := by decide +kernel
theorem dX7_end_185 : decode cX7_end 185 = .ok (.iload_n 2, 1) := by decide +kernel
theorem dX7_end_186 : decode cX7_end 186 = .ok (.imul, 1) := by decide +kernel
theorem dX7_end_187 : decode cX7_end 187 = .ok (.bipush 32, 2) := by decide +kernel
theorem dX7_end_189 : decode cX7_end 189 = .ok (.iadd, 1) := by decide +kernel
theorem dX7_end_190 : decode cX7_end 190 = .ok (.iaload, 1) := by decide +kernel
theorem dX7_end_191 : decode cX7_end 191 = .ok (.iastore, 1) := by decide +kernel
theorem dX7_end_192 : decode cX7_end 192 = .ok (.aload_n 0, 1) := by decide +kernel
theorem dX7_end_193 : decode cX7_end 193 = .ok (.getfield 43, 3) := by decide +kernel
theorem dX7_end_196 : decode cX7_end 196 = .ok (.iload_n 1, 1) := by decide +kernel
theorem dX7_end_197 : decode cX7_end 197 = .ok (.aload_n 0, 1) := by decide +kernel
theorem dX7_end_198 : decode cX7_end 198 = .ok (.getfield 52, 3) := by decide +kernel
theorem dX7_end_201 : decode cX7_end 201 = .ok (.bipush 35, 2) := by decide +kernel
theorem dX7_end_203 : decode cX7_end 203 = .ok (.iload_n 2, 1) := by decide +kernel
theorem dX7_end_204 : decode cX7_end 204 = .ok (.imul, 1) := by decide +kernel
theorem dX7_end_205 : decode cX7_end 205 = .ok (.bipush 33, 2) := by decide +kernel
theorem dX7_end_207 : decode cX7_end 207 = .ok (.iadd, 1) := by decide +kernel
theorem dX7_end_208 : decode cX7_end 208 = .ok (.iaload, 1) := by decide +kernel
theorem dX7_end_209 : decode cX7_end 209 = .ok (.iastore, 1) := by decide +kernel
theorem dX7_end_210 : decode cX7_end 210 = .ok (.aload_n 0, 1) := by decide +kernel
theorem dX7_end_211 : decode cX7_end 211 = .ok (.getfield 46, 3) := by decide +kernel
theorem dX7_end_214 : decode cX7_end 214 = .ok (.iload_n 1, 1) := by decide +kernel
theorem dX7_end_215 : decode cX7_end 215 = .ok (.aload_n 0, 1) := by decide +kernel
theorem dX7_end_216 : decode cX7_end 216 = .ok (.getfield 52, 3) := by decide +kernel
theorem dX7_end_219 : decode cX7_end 219 = .ok (.bipush 35, 2) := by decide +kernel
theorem dX7_end_221 : decode cX7_end 221 = .ok (.iload_n 2, 1) := by decide +kernel
theorem dX7_end_222 : decode cX7_end 222 = .ok (.imul, 1) := by decide +kernel
theorem dX7_end_223 : decode cX7_end 223 = .ok (.bipush 34, 2) := by decide +kernel
theorem dX7_end_225 : decode cX7_end 225 = .ok (.iadd, 1) := by decide +kernel
theorem dX7_end_226 : decode cX7_end 226 = .ok (.iaload, 1) := by decide +kernel
theorem dX7_end_227 : decode cX7_end 227 = .ok (.iastore, 1) := by decide +kernel
theorem dX7_end_228 : decode cX7_end 228 = .ok (.aload_n 0, 1) := by decide +kernel
theorem dX7_end_229 : decode cX7_end 229 = .ok (.getfield 49, 3) := by decide +kernel
theorem dX7_end_232 : decode cX7_end 232 = .ok (.iload_n 1, 1) := by decide +kernel
theorem dX7_end_233 : decode cX7_end 233 = .ok (.aload_n 0, 1) := by decide +kernel
theorem dX7_end_234 : decode cX7_end 234 = .ok (.getfield 103, 3) := by decide +kernel
theorem dX7_end_237 : decode cX7_end 237 = .ok (.aload_n 0, 1) := by decide +kernel
theorem dX7_end_238 : decode cX7_end 238 = .ok (.getfield 19, 3) := by decide +kernel
theorem dX7_end_241 : decode cX7_end 241 = .ok (.iload_n 1, 1) := by decide +kernel
theorem dX7_end_242 : decode cX7_end 242 = .ok (.iaload, 1) := by decide +kernel
theorem dX7_end_243 : decode cX7_end 243 = .ok (.iadd, 1) := by decide +kernel
theorem dX7_end_244 : decode cX7_end 244 = .ok (.iastore, 1) := by decide +kernel
theorem dX7_end_245 : decode cX7_end 245 = .ok (.return_, 1) := by decide +kernel
theorem dX7_pays_0 : decode cX7_pays 0 = .ok (.aload_n 0, 1) := by decide +kernel
theorem dX7_pays_1 : decode cX7_pays 1 = .ok (.getfield 52, 3) := by decide +kernel
theorem dX7_pays_4 : decode cX7_pays 4 = .ok (.aload_n 0, 1) := by decide +kernel
theorem dX7_pays_5 : decode cX7_pays 5 = .ok (.getfield 28, 3) := by decide +kernel
theorem dX7_pays_8 : decode cX7_pays 8 = .ok (.iload_n 1, 1) := by decide +kernel
theorem dX7_pays_9 : decode cX7_pays 9 = .ok (.iaload, 1) := by decide +kernel
theorem dX7_pays_10 : decode cX7_pays 10 = .ok (.iload_n 2, 1) := by decide +kernel
theorem dX7_pays_11 : decode cX7_pays 11 = .ok (.invokestatic 93, 3) := by decide +kernel
theorem dX7_pays_14 : decode cX7_pays 14 = .ok (.iconst 0, 1) := by decide +kernel
theorem dX7_pays_15 : decode cX7_pays 15 = .ok (.iadd, 1) := by decide +kernel
theorem dX7_pays_16 : decode cX7_pays 16 = .ok (.iaload, 1) := by decide +kernel
theorem dX7_pays_17 : decode cX7_pays 17 = .ok (.istore 4, 2) := by decide +kernel
theorem dX7_pays_19 : decode cX7_pays 19 = .ok (.aload_n 0, 1) := by decide +kernel
theorem dX7_pays_20 : decode cX7_pays 20 = .ok (.getfield 7, 3) := by decide +kernel
theorem dX7_pays_23 : decode cX7_pays 23 = .ok (.iload_n 3, 1) := by decide +kernel
theorem dX7_pays_24 : decode cX7_pays 24 = .ok (.dup2, 1) := by decide +kernel
theorem dX7_pays_25 : decode cX7_pays 25 = .ok (.iaload, 1) := by decide +kernel
theorem dX7_pays_26 : decode cX7_pays 26 = .ok (.iload 4, 2) := by decide +kernel
theorem dX7_pays_28 : decode cX7_pays 28 = .ok (.iadd, 1) := by decide +kernel
theorem dX7_pays_29 : decode cX7_pays 29 = .ok (.iastore, 1) := by decide +kernel
theorem dX7_pays_30 : decode cX7_pays 30 = .ok (.aload_n 0, 1) := by decide +kernel
theorem dX7_pays_31 : decode cX7_pays 31 = .ok (.getfield 22, 3) := by decide +kernel
theorem dX7_pays_34 : decode cX7_pays 34 = .ok (.iload_n 1, 1) := by decide +kernel
theorem dX7_pays_35 : decode cX7_pays 35 = .ok (.dup2, 1) := by decide +kernel
theorem dX7_pays_36 : decode cX7_pays 36 = .ok (.iaload, 1) := by decide +kernel
theorem dX7_pays_37 : decode cX7_pays 37 = .ok (.iload 4, 2) := by decide +kernel
theorem dX7_pays_39 : decode cX7_pays 39 = .ok (.isub, 1) := by decide +kernel
theorem dX7_pays_40 : decode cX7_pays 40 = .ok (.iastore, 1) := by decide +kernel
theorem dX7_pays_41 : decode cX7_pays 41 = .ok (.aload_n 0, 1) := by decide +kernel
theorem dX7_pays_42 : decode cX7_pays 42 = .ok (.getfield 34, 3) := by decide +kernel
theorem dX7_pays_45 : decode cX7_pays 45 = .ok (.iload_n 1, 1) := by decide +kernel
theorem dX7_pays_46 : decode cX7_pays 46 = .ok (.dup2, 1) := by decide +kernel
theorem dX7_pays_47 : decode cX7_pays 47 = .ok (.iaload, 1) := by decide +kernel
theorem dX7_pays_48 : decode cX7_pays 48 = .ok (.iconst 1, 1) := by decide +kernel
theorem dX7_pays_49 : decode cX7_pays 49 = .ok (.iload_n 2, 1) := by decide +kernel
theorem dX7_pays_50 : decode cX7_pays 50 = .ok (.ishl, 1) := by decide +kernel
theorem dX7_pays_51 : decode cX7_pays 51 = .ok (.isub, 1) := by decide +kernel
theorem dX7_pays_52 : decode cX7_pays 52 = .ok (.iastore, 1) := by decide +kernel
theorem dX7_pays_53 : decode cX7_pays 53 = .ok (.return_, 1) := by decide +kernel
theorem dX7_canClaim_0 : decode cX7_canClaim 0 = .ok (.aload_n 0, 1) := by decide +kernel
theorem dX7_canClaim_1 : decode cX7_canClaim 1 = .ok (.getfield 28, 3) := by decide +kernel
theorem dX7_canClaim_4 : decode cX7_canClaim 4 = .ok (.iload_n 1, 1) := by decide +kernel
theorem dX7_canClaim_5 : decode cX7_canClaim 5 = .ok (.iaload, 1) := by decide +kernel
theorem dX7_canClaim_6 : decode cX7_canClaim 6 = .ok (.iload_n 2, 1) := by decide +kernel
theorem dX7_canClaim_7 : decode cX7_canClaim 7 = .ok (.invokestatic 93, 3) := by decide +kernel
theorem dX7_canClaim_10 : decode cX7_canClaim 10 = .ok (.istore 4, 2) := by decide +kernel
theorem dX7_canClaim_12 : decode cX7_canClaim 12 = .ok (.aload_n 0, 1) := by decide +kernel
theorem dX7_canClaim_13 : decode cX7_canClaim 13 = .ok (.getfield 34, 3) := by decide +kernel
theorem dX7_canClaim_16 : decode cX7_canClaim 16 = .ok (.iload_n 1, 1) := by decide +kernel
theorem dX7_canClaim_17 : decode cX7_canClaim 17 = .ok (.iaload, 1) := by decide +kernel
theorem dX7_canClaim_18 : decode cX7_canClaim 18 = .ok (.iload_n 2, 1) := by decide +kernel
theorem dX7_canClaim_19 : decode cX7_canClaim 19 = .ok (.invokestatic 79, 3) := by decide +kernel
theorem dX7_canClaim_22 : decode cX7_canClaim 22 = .ok (.ifCond .eq 41, 3) := by decide +kernel
theorem dX7_canClaim_25 : decode cX7_canClaim 25 = .ok (.aload_n 0, 1) := by decide +kernel
theorem dX7_canClaim_26 : decode cX7_canClaim 26 = .ok (.getfield 52, 3) := by decide +kernel
theorem dX7_canClaim_29 : decode cX7_canClaim 29 = .ok (.iload 4, 2) := by decide +kernel
theorem dX7_canClaim_31 : decode cX7_canClaim 31 = .ok (.iconst 2, 1) := by decide +kernel
theorem dX7_canClaim_32 : decode cX7_canClaim 32 = .ok (.iadd, 1) := by decide +kernel
theorem dX7_canClaim_33 : decode cX7_canClaim 33 = .ok (.iaload, 1) := by decide +kernel
theorem dX7_canClaim_34 : decode cX7_canClaim 34 = .ok (.iload_n 3, 1) := by decide +kernel
theorem dX7_canClaim_35 : decode cX7_canClaim 35 = .ok (.if_icmp .ne 28, 3) := by decide +kernel
theorem dX7_canClaim_38 : decode cX7_canClaim 38 = .ok (.aload_n 0, 1) := by decide +kernel
theorem dX7_canClaim_39 : decode cX7_canClaim 39 = .ok (.getfield 13, 3) := by decide +kernel
theorem dX7_canClaim_42 : decode cX7_canClaim 42 = .ok (.aload_n 0, 1) := by decide +kernel
theorem dX7_canClaim_43 : decode cX7_canClaim 43 = .ok (.getfield 52, 3) := by decide +kernel
theorem dX7_canClaim_46 : decode cX7_canClaim 46 = .ok (.iload 4, 2) := by decide +kernel
theorem dX7_canClaim_48 : decode cX7_canClaim 48 = .ok (.iconst 3, 1) := by decide +kernel
theorem dX7_canClaim_49 : decode cX7_canClaim 49 = .ok (.iadd, 1) := by decide +kernel
theorem dX7_canClaim_50 : decode cX7_canClaim 50 = .ok (.iaload, 1) := by decide +kernel
theorem dX7_canClaim_51 : decode cX7_canClaim 51 = .ok (.iaload, 1) := by decide +kernel
theorem dX7_canClaim_52 : decode cX7_canClaim 52 = .ok (.iload_n 3, 1) := by decide +kernel
theorem dX7_canClaim_53 : decode cX7_canClaim 53 = .ok (.invokestatic 79, 3) := by decide +kernel
theorem dX7_canClaim_56 : decode cX7_canClaim 56 = .ok (.ifCond .eq 7, 3) := by decide +kernel
theorem dX7_canClaim_59 : decode cX7_canClaim 59 = .ok (.iconst 1, 1) := by decide +kernel
theorem dX7_canClaim_60 : decode cX7_canClaim 60 = .ok (.goto 4, 3) := by decide +kernel
theorem dX7_canClaim_63 : decode cX7_canClaim 63 = .ok (.iconst 0, 1) := by decide +kernel
theorem dX7_canClaim_64 : decode cX7_canClaim 64 = .ok (.ireturn, 1) := by decide +kernel
theorem dX7_claims_0 : decode cX7_claims 0 = .ok (.aload_n 0, 1) := by decide +kernel
theorem dX7_claims_1 : decode cX7_claims 1 = .ok (.getfield 28, 3) := by decide +kernel
theorem dX7_claims_4 : decode cX7_claims 4 = .ok (.iload_n 1, 1) := by decide +kernel
theorem dX7_claims_5 : decode cX7_claims 5 = .ok (.iaload, 1) := by decide +kernel
theorem dX7_claims_6 : decode cX7_claims 6 = .ok (.iload_n 2, 1) := by decide +kernel
theorem dX7_claims_7 : decode cX7_claims 7 = .ok (.invokestatic 93, 3) := by decide +kernel
theorem dX7_claims_10 : decode cX7_claims 10 = .ok (.istore 4, 2) := by decide +kernel
theorem dX7_claims_12 : decode cX7_claims 12 = .ok (.aload_n 0, 1) := by decide +kernel
theorem dX7_claims_13 : decode cX7_claims 13 = .ok (.getfield 13, 3) := by decide +kernel
theorem dX7_claims_16 : decode cX7_claims 16 = .ok (.aload_n 0, 1) := by decide +kernel
theorem dX7_claims_17 : decode cX7_claims 17 = .ok (.getfield 52, 3) := by decide +kernel
theorem dX7_claims_20 : decode cX7_claims 20 = .ok (.iload 4, 2) := by decide +kernel
theorem dX7_claims_22 : decode cX7_claims 22 = .ok (.iconst 3, 1) := by decide +kernel
theorem dX7_claims_23 : decode cX7_claims 23 = .ok (.iadd, 1) := by decide +kernel
theorem dX7_claims_24 : decode cX7_claims 24 = .ok (.iaload, 1) := by decide +kernel
theorem dX7_claims_25 : decode cX7_claims 25 = .ok (.bipush 63, 2) := by decide +kernel
theorem dX7_claims_27 : decode cX7_claims 27 = .ok (.iastore, 1) := by decide +kernel
theorem dX7_claims_28 : decode cX7_claims 28 = .ok (.aload_n 0, 1) := by decide +kernel
theorem dX7_claims_29 : decode cX7_claims 29 = .ok (.iload_n 1, 1) := by decide +kernel
theorem dX7_claims_30 : decode cX7_claims 30 = .ok (.iload_n 2, 1) := by decide +kernel
theorem dX7_claims_31 : decode cX7_claims 31 = .ok (.iload_n 3, 1) := by decide +kernel
theorem dX7_claims_32 : decode cX7_claims 32 = .ok (.invokevirtual 106, 3) := by decide +kernel
theorem dX7_claims_35 : decode cX7_claims 35 = .ok (.aload_n 0, 1) := by decide +kernel
theorem dX7_claims_36 : decode cX7_claims 36 = .ok (.getfield 52, 3) := by decide +kernel
theorem dX7_claims_39 : decode cX7_claims 39 = .ok (.iload 4, 2) := by decide +kernel
theorem dX7_claims_41 : decode cX7_claims 41 = .ok (.iconst 0, 1) := by decide +kernel
theorem dX7_claims_42 : decode cX7_claims 42 = .ok (.iadd, 1) := by decide +kernel
theorem dX7_claims_43 : decode cX7_claims 43 = .ok (.iaload, 1) := by decide +kernel
theorem dX7_claims_44 : decode cX7_claims 44 = .ok (.ireturn, 1) := by decide +kernel
theorem dX7_wins_0 : decode cX7_wins 0 = .ok (.aload_n 0, 1) := by decide +kernel
theorem dX7_wins_1 : decode cX7_wins 1 = .ok (.getfield 7, 3) := by decide +kernel
theorem dX7_wins_4 : decode cX7_wins 4 = .ok (.iload_n 2, 1) := by decide +kernel
theorem dX7_wins_5 : decode cX7_wins 5 = .ok (.dup2, 1) := by decide +kernel
theorem dX7_wins_6 : decode cX7_wins 6 = .ok (.iaload, 1) := by decide +kernel
theorem dX7_wins_7 : decode cX7_wins 7 = .ok (.aload_n 0, 1) := by decide +kernel
theorem dX7_wins_8 : decode cX7_wins 8 = .ok (.getfield 37, 3) := by decide +kernel
theorem dX7_wins_11 : decode cX7_wins 11 = .ok (.iload_n 1, 1) := by decide +kernel
theorem dX7_wins_12 : decode cX7_wins 12 = .ok (.iaload, 1) := by decide +kernel
theorem dX7_wins_13 : decode cX7_wins 13 = .ok (.iadd, 1) := by decide +kernel
theorem dX7_wins_14 : decode cX7_wins 14 = .ok (.iastore, 1) := by decide +kernel
theorem dX7_wins_15 : decode cX7_wins 15 = .ok (.aload_n 0, 1) := by decide +kernel
theorem dX7_wins_16 : decode cX7_wins 16 = .ok (.getfield 22, 3) := by decide +kernel
theorem dX7_wins_19 : decode cX7_wins 19 = .ok (.iload_n 1, 1) := by decide +kernel
theorem dX7_wins_20 : decode cX7_wins 20 = .ok (.dup2, 1) := by decide +kernel
theorem dX7_wins_21 : decode cX7_wins 21 = .ok (.iaload, 1) := by decide +kernel
theorem dX7_wins_22 : decode cX7_wins 22 = .ok (.aload_n 0, 1) := by decide +kernel
theorem dX7_wins_23 : decode cX7_wins 23 = .ok (.getfield 37, 3) := by decide +kernel
theorem dX7_wins_26 : decode cX7_wins 26 = .ok (.iload_n 1, 1) := by decide +kernel
theorem dX7_wins_27 : decode cX7_wins 27 = .ok (.iaload, 1) := by decide +kernel
theorem dX7_wins_28 : decode cX7_wins 28 = .ok (.isub, 1) := by decide +kernel
theorem dX7_wins_29 : decode cX7_wins 29 = .ok (.iastore, 1) := by decide +kernel
theorem dX7_wins_30 : decode cX7_wins 30 = .ok (.aload_n 0, 1) := by decide +kernel
theorem dX7_wins_31 : decode cX7_wins 31 = .ok (.getfield 37, 3) := by decide +kernel
theorem dX7_wins_34 : decode cX7_wins 34 = .ok (.iload_n 1, 1) := by decide +kernel
theorem dX7_wins_35 : decode cX7_wins 35 = .ok (.iconst 0, 1) := by decide +kernel
theorem dX7_wins_36 : decode cX7_wins 36 = .ok (.iastore, 1) := by decide +kernel
theorem dX7_wins_37 : decode cX7_wins 37 = .ok (.aload_n 0, 1) := by decide +kernel
theorem dX7_wins_38 : decode cX7_wins 38 = .ok (.getfield 40, 3) := by decide +kernel
theorem dX7_wins_41 : decode cX7_wins 41 = .ok (.iload_n 1, 1) := by decide +kernel
theorem dX7_wins_42 : decode cX7_wins 42 = .ok (.iconst 0, 1) := by decide +kernel
theorem dX7_wins_43 : decode cX7_wins 43 = .ok (.iastore, 1) := by decide +kernel
theorem dX7_wins_44 : decode cX7_wins 44 = .ok (.return_, 1) := by decide +kernel
theorem dX7_steps_0 : decode cX7_steps 0 = .ok (.aload_n 0, 1) := by decide +kernel
theorem dX7_steps_1 : decode cX7_steps 1 = .ok (.getfield 40, 3) := by decide +kernel
theorem dX7_steps_4 : decode cX7_steps 4 = .ok (.iload_n 1, 1) := by decide +kernel
theorem dX7_steps_5 : decode cX7_steps 5 = .ok (.dup2, 1) := by decide +kernel
theorem dX7_steps_6 : decode cX7_steps 6 = .ok (.iaload, 1) := by decide +kernel
theorem dX7_steps_7 : decode cX7_steps 7 = .ok (.iload_n 2, 1) := by decide +kernel
theorem dX7_steps_8 : decode cX7_steps 8 = .ok (.isub, 1) := by decide +kernel
theorem dX7_steps_9 : decode cX7_steps 9 = .ok (.iastore, 1) := by decide +kernel
theorem dX7_steps_10 : decode cX7_steps 10 = .ok (.aload_n 0, 1) := by decide +kernel
theorem dX7_steps_11 : decode cX7_steps 11 = .ok (.getfield 40, 3) := by decide +kernel
theorem dX7_steps_14 : decode cX7_steps 14 = .ok (.iload_n 1, 1) := by decide +kernel
theorem dX7_steps_15 : decode cX7_steps 15 = .ok (.iaload, 1) := by decide +kernel
theorem dX7_steps_16 : decode cX7_steps 16 = .ok (.ifCond .ne 17, 3) := by decide +kernel
theorem dX7_steps_19 : decode cX7_steps 19 = .ok (.aload_n 0, 1) := by decide +kernel
theorem dX7_steps_20 : decode cX7_steps 20 = .ok (.iload_n 1, 1) := by decide +kernel
theorem dX7_steps_21 : decode cX7_steps 21 = .ok (.aload_n 0, 1) := by decide +kernel
theorem dX7_steps_22 : decode cX7_steps 22 = .ok (.getfield 43, 3) := by decide +kernel
theorem dX7_steps_25 : decode cX7_steps 25 = .ok (.iload_n 1, 1) := by decide +kernel
theorem dX7_steps_26 : decode cX7_steps 26 = .ok (.iaload, 1) := by decide +kernel
theorem dX7_steps_27 : decode cX7_steps 27 = .ok (.invokevirtual 110, 3) := by decide +kernel
theorem dX7_steps_30 : decode cX7_steps 30 = .ok (.goto 46, 3) := by decide +kernel
theorem dX7_steps_33 : decode cX7_steps 33 = .ok (.aload_n 0, 1) := by decide +kernel
theorem dX7_steps_34 : decode cX7_steps 34 = .ok (.getfield 43, 3) := by decide +kernel
theorem dX7_steps_37 : decode cX7_steps 37 = .ok (.iload_n 1, 1) := by decide +kernel
theorem dX7_steps_38 : decode cX7_steps 38 = .ok (.iaload, 1) := by decide +kernel
theorem dX7_steps_39 : decode cX7_steps 39 = .ok (.istore_n 3, 1) := by decide +kernel
theorem dX7_steps_40 : decode cX7_steps 40 = .ok (.aload_n 0, 1) := by decide +kernel
theorem dX7_steps_41 : decode cX7_steps 41 = .ok (.getfield 43, 3) := by decide +kernel
theorem dX7_steps_44 : decode cX7_steps 44 = .ok (.iload_n 1, 1) := by decide +kernel
theorem dX7_steps_45 : decode cX7_steps 45 = .ok (.aload_n 0, 1) := by decide +kernel
theorem dX7_steps_46 : decode cX7_steps 46 = .ok (.getfield 46, 3) := by decide +kernel
theorem dX7_steps_49 : decode cX7_steps 49 = .ok (.iload_n 1, 1) := by decide +kernel
theorem dX7_steps_50 : decode cX7_steps 50 = .ok (.iaload, 1) := by decide +kernel
theorem dX7_steps_51 : decode cX7_steps 51 = .ok (.iastore, 1) := by decide +kernel
theorem dX7_steps_52 : decode cX7_steps 52 = .ok (.aload_n 0, 1) := by decide +kernel
theorem dX7_steps_53 : decode cX7_steps 53 = .ok (.getfield 46, 3) := by decide +kernel
theorem dX7_steps_56 : decode cX7_steps 56 = .ok (.iload_n 1, 1) := by decide +kernel
theorem dX7_steps_57 : decode cX7_steps 57 = .ok (.iload_n 3, 1) := by decide +kernel
theorem dX7_steps_58 : decode cX7_steps 58 = .ok (.iastore, 1) := by decide +kernel
theorem dX7_steps_59 : decode cX7_steps 59 = .ok (.aload_n 0, 1) := by decide +kernel
theorem dX7_steps_60 : decode cX7_steps 60 = .ok (.getfield 49, 3) := by decide +kernel
theorem dX7_steps_63 : decode cX7_steps 63 = .ok (.iload_n 1, 1) := by decide +kernel
theorem dX7_steps_64 : decode cX7_steps 64 = .ok (.aload_n 0, 1) := by decide +kernel
theorem dX7_steps_65 : decode cX7_steps 65 = .ok (.getfield 103, 3) := by decide +kernel
theorem dX7_steps_68 : decode cX7_steps 68 = .ok (.aload_n 0, 1) := by decide +kernel
theorem dX7_steps_69 : decode cX7_steps 69 = .ok (.getfield 19, 3) := by decide +kernel
theorem dX7_steps_72 : decode cX7_steps 72 = .ok (.iload_n 1, 1) := by decide +kernel
theorem dX7_steps_73 : decode cX7_steps 73 = .ok (.iaload, 1) := by decide +kernel
theorem dX7_steps_74 : decode cX7_steps 74 = .ok (.iadd, 1) := by decide +kernel
theorem dX7_steps_75 : decode cX7_steps 75 = .ok (.iastore, 1) := by decide +kernel
theorem dX7_steps_76 : decode cX7_steps 76 = .ok (.aload_n 0, 1) := by decide +kernel
theorem dX7_steps_77 : decode cX7_steps 77 = .ok (.getfield 40, 3) := by decide +kernel
theorem dX7_steps_80 : decode cX7_steps 80 = .ok (.iload_n 1, 1) := by decide +kernel
theorem dX7_steps_81 : decode cX7_steps 81 = .ok (.iaload, 1) := by decide +kernel
theorem dX7_steps_82 : decode cX7_steps 82 = .ok (.ireturn, 1) := by decide +kernel
theorem dX7_dues_0 : decode cX7_dues 0 = .ok (.aload_n 0, 1) := by decide +kernel
theorem dX7_dues_1 : decode cX7_dues 1 = .ok (.getfield 25, 3) := by decide +kernel
theorem dX7_dues_4 : decode cX7_dues 4 = .ok (.iload_n 1, 1) := by decide +kernel
theorem dX7_dues_5 : decode cX7_dues 5 = .ok (.iaload, 1) := by decide +kernel
theorem dX7_dues_6 : decode cX7_dues 6 = .ok (.iconst 2, 1) := by decide +kernel
theorem dX7_dues_7 : decode cX7_dues 7 = .ok (.if_icmp .ne 27, 3) := by decide +kernel
theorem dX7_dues_10 : decode cX7_dues 10 = .ok (.aload_n 0, 1) := by decide +kernel
theorem dX7_dues_11 : decode cX7_dues 11 = .ok (.getfield 31, 3) := by decide +kernel
theorem dX7_dues_14 : decode cX7_dues 14 = .ok (.iload_n 1, 1) := by decide +kernel
theorem dX7_dues_15 : decode cX7_dues 15 = .ok (.iaload, 1) := by decide +kernel
theorem dX7_dues_16 : decode cX7_dues 16 = .ok (.aload_n 0, 1) := by decide +kernel
theorem dX7_dues_17 : decode cX7_dues 17 = .ok (.getfield 103, 3) := by decide +kernel
theorem dX7_dues_20 : decode cX7_dues 20 = .ok (.if_icmp .ne 14, 3) := by decide +kernel
theorem dX7_dues_23 : decode cX7_dues 23 = .ok (.aload_n 0, 1) := by decide +kernel
theorem dX7_dues_24 : decode cX7_dues 24 = .ok (.iload_n 1, 1) := by decide +kernel
theorem dX7_dues_25 : decode cX7_dues 25 = .ok (.aload_n 0, 1) := by decide +kernel
theorem dX7_dues_26 : decode cX7_dues 26 = .ok (.getfield 28, 3) := by decide +kernel
theorem dX7_dues_29 : decode cX7_dues 29 = .ok (.iload_n 1, 1) := by decide +kernel
theorem dX7_dues_30 : decode cX7_dues 30 = .ok (.iaload, 1) := by decide +kernel
theorem dX7_dues_31 : decode cX7_dues 31 = .ok (.invokevirtual 114, 3) := by decide +kernel
theorem dX7_dues_34 : decode cX7_dues 34 = .ok (.iconst 0, 1) := by decide +kernel
theorem dX7_dues_35 : decode cX7_dues 35 = .ok (.istore_n 2, 1) := by decide +kernel
theorem dX7_dues_36 : decode cX7_dues 36 = .ok (.iload_n 2, 1) := by decide +kernel
theorem dX7_dues_37 : decode cX7_dues 37 = .ok (.iconst 3, 1) := by decide +kernel
theorem dX7_dues_38 : decode cX7_dues 38 = .ok (.if_icmp .ge 69, 3) := by decide +kernel
theorem dX7_dues_41 : decode cX7_dues 41 = .ok (.aload_n 0, 1) := by decide +kernel
theorem dX7_dues_42 : decode cX7_dues 42 = .ok (.getfield 34, 3) := by decide +kernel
theorem dX7_dues_45 : decode cX7_dues 45 = .ok (.iload_n 1, 1) := by decide +kernel
theorem dX7_dues_46 : decode cX7_dues 46 = .ok (.iaload, 1) := by decide +kernel
theorem dX7_dues_47 : decode cX7_dues 47 = .ok (.iload_n 2, 1) := by decide +kernel
theorem dX7_dues_48 : decode cX7_dues 48 = .ok (.invokestatic 79, 3) := by decide +kernel
theorem dX7_dues_51 : decode cX7_dues 51 = .ok (.ifCond .eq 50, 3) := by decide +kernel
theorem dX7_dues_54 : decode cX7_dues 54 = .ok (.aload_n 0, 1) := by decide +kernel
theorem dX7_dues_55 : decode cX7_dues 55 = .ok (.getfield 52, 3) := by decide +kernel
theorem dX7_dues_58 : decode cX7_dues 58 = .ok (.aload_n 0, 1) := by decide +kernel
theorem dX7_dues_59 : decode cX7_dues 59 = .ok (.getfield 28, 3) := by decide +kernel
theorem dX7_dues_62 : decode cX7_dues 62 = .ok (.iload_n 1, 1) := by decide +kernel
theorem dX7_dues_63 : decode cX7_dues 63 = .ok (.iaload, 1) := by decide +kernel
theorem dX7_dues_64 : decode cX7_dues 64 = .ok (.iload_n 2, 1) := by decide +kernel
theorem dX7_dues_65 : decode cX7_dues 65 = .ok (.invokestatic 93, 3) := by decide +kernel
theorem dX7_dues_68 : decode cX7_dues 68 = .ok (.iconst 4, 1) := by decide +kernel
theorem dX7_dues_69 : decode cX7_dues 69 = .ok (.iadd, 1) := by decide +kernel
theorem dX7_dues_70 : decode cX7_dues 70 = .ok (.iaload, 1) := by decide +kernel
theorem dX7_dues_71 : decode cX7_dues 71 = .ok (.aload_n 0, 1) := by decide +kernel
theorem dX7_dues_72 : decode cX7_dues 72 = .ok (.getfield 103, 3) := by decide +kernel
theorem dX7_dues_75 : decode cX7_dues 75 = .ok (.if_icmp .ne 26, 3) := by decide +kernel
theorem dX7_dues_78 : decode cX7_dues 78 = .ok (.aload_n 0, 1) := by decide +kernel
theorem dX7_dues_79 : decode cX7_dues 79 = .ok (.iload_n 1, 1) := by decide +kernel
theorem dX7_dues_80 : decode cX7_dues 80 = .ok (.iload_n 2, 1) := by decide +kernel
theorem dX7_dues_81 : decode cX7_dues 81 = .ok (.aload_n 0, 1) := by decide +kernel
theorem dX7_dues_82 : decode cX7_dues 82 = .ok (.getfield 52, 3) := by decide +kernel
theorem dX7_dues_85 : decode cX7_dues 85 = .ok (.aload_n 0, 1) := by decide +kernel
theorem dX7_dues_86 : decode cX7_dues 86 = .ok (.getfield 28, 3) := by decide +kernel
theorem dX7_dues_89 : decode cX7_dues 89 = .ok (.iload_n 1, 1) := by decide +kernel
theorem dX7_dues_90 : decode cX7_dues 90 = .ok (.iaload, 1) := by decide +kernel
theorem dX7_dues_91 : decode cX7_dues 91 = .ok (.iload_n 2, 1) := by decide +kernel
theorem dX7_dues_92 : decode cX7_dues 92 = .ok (.invokestatic 93, 3) := by decide +kernel
theorem dX7_dues_95 : decode cX7_dues 95 = .ok (.iconst 1, 1) := by decide +kernel
theorem dX7_dues_96 : decode cX7_dues 96 = .ok (.iadd, 1) := by decide +kernel
theorem dX7_dues_97 : decode cX7_dues 97 = .ok (.iaload, 1) := by decide +kernel
theorem dX7_dues_98 : decode cX7_dues 98 = .ok (.invokevirtual 106, 3) := by decide +kernel
theorem dX7_dues_101 : decode cX7_dues 101 = .ok (.iinc 2 1, 3) := by decide +kernel
theorem dX7_dues_104 : decode cX7_dues 104 = .ok (.goto (-68), 3) := by decide +kernel
theorem dX7_dues_107 : decode cX7_dues 107 = .ok (.aload_n 0, 1) := by decide +kernel
theorem dX7_dues_108 : decode cX7_dues 108 = .ok (.getfield 37, 3) := by decide +kernel
theorem dX7_dues_111 : decode cX7_dues 111 = .ok (.iload_n 1, 1) := by decide +kernel
theorem dX7_dues_112 : decode cX7_dues 112 = .ok (.iaload, 1) := by decide +kernel
theorem dX7_dues_113 : decode cX7_dues 113 = .ok (.ifCond .le 27, 3) := by decide +kernel
theorem dX7_dues_116 : decode cX7_dues 116 = .ok (.aload_n 0, 1) := by decide +kernel
theorem dX7_dues_117 : decode cX7_dues 117 = .ok (.getfield 49, 3) := by decide +kernel
theorem dX7_dues_120 : decode cX7_dues 120 = .ok (.iload_n 1, 1) := by decide +kernel
theorem dX7_dues_121 : decode cX7_dues 121 = .ok (.iaload, 1) := by decide +kernel
theorem dX7_dues_122 : decode cX7_dues 122 = .ok (.aload_n 0, 1) := by decide +kernel
theorem dX7_dues_123 : decode cX7_dues 123 = .ok (.getfield 103, 3) := by decide +kernel
theorem dX7_dues_126 : decode cX7_dues 126 = .ok (.if_icmp .ne 14, 3) := by decide +kernel
theorem dX7_dues_129 : decode cX7_dues 129 = .ok (.aload_n 0, 1) := by decide +kernel
theorem dX7_dues_130 : decode cX7_dues 130 = .ok (.iload_n 1, 1) := by decide +kernel
theorem dX7_dues_131 : decode cX7_dues 131 = .ok (.aload_n 0, 1) := by decide +kernel
theorem dX7_dues_132 : decode cX7_dues 132 = .ok (.getfield 46, 3) := by decide +kernel
theorem dX7_dues_135 : decode cX7_dues 135 = .ok (.iload_n 1, 1) := by decide +kernel
theorem dX7_dues_136 : decode cX7_dues 136 = .ok (.iaload, 1) := by decide +kernel
theorem dX7_dues_137 : decode cX7_dues 137 = .ok (.invokevirtual 110, 3) := by decide +kernel
theorem dX7_dues_140 : decode cX7_dues 140 = .ok (.return_, 1) := by decide +kernel
theorem dX7_watches_0 : decode cX7_watches 0 = .ok (.aload_n 0, 1) := by decide +kernel
theorem dX7_watches_1 : decode cX7_watches 1 = .ok (.iload_n 2, 1) := by decide +kernel
theorem dX7_watches_2 : decode cX7_watches 2 = .ok (.invokevirtual 117, 3) := by decide +kernel
theorem dX7_watches_5 : decode cX7_watches 5 = .ok (.istore_n 3, 1) := by decide +kernel
theorem dX7_watches_6 : decode cX7_watches 6 = .ok (.aload_n 0, 1) := by decide +kernel
theorem dX7_watches_7 : decode cX7_watches 7 = .ok (.getfield 25, 3) := by decide +kernel
theorem dX7_watches_10 : decode cX7_watches 10 = .ok (.iload_n 2, 1) := by decide +kernel
theorem dX7_watches_11 : decode cX7_watches 11 = .ok (.iaload, 1) := by decide +kernel
theorem dX7_watches_12 : decode cX7_watches 12 = .ok (.iconst 1, 1) := by decide +kernel
theorem dX7_watches_13 : decode cX7_watches 13 = .ok (.if_icmp .ne 125, 3) := by decide +kernel
theorem dX7_watches_16 : decode cX7_watches 16 = .ok (.iconst 0, 1) := by decide +kernel
theorem dX7_watches_17 : decode cX7_watches 17 = .ok (.istore 4, 2) := by decide +kernel
theorem dX7_watches_19 : decode cX7_watches 19 = .ok (.iconst 0, 1) := by decide +kernel
theorem dX7_watches_20 : decode cX7_watches 20 = .ok (.istore 5, 2) := by decide +kernel
theorem dX7_watches_22 : decode cX7_watches 22 = .ok (.iload 5, 2) := by decide +kernel
theorem dX7_watches_24 : decode cX7_watches 24 = .ok (.iconst 3, 1) := by decide +kernel
theorem dX7_watches_25 : decode cX7_watches 25 = .ok (.if_icmp .ge 100, 3) := by decide +kernel
theorem dX7_watches_28 : decode cX7_watches 28 = .ok (.iload_n 3, 1) := by decide +kernel
theorem dX7_watches_29 : decode cX7_watches 29 = .ok (.iload 5, 2) := by decide +kernel
theorem dX7_watches_31 : decode cX7_watches 31 = .ok (.invokestatic 93, 3) := by decide +kernel
theorem dX7_watches_34 : decode cX7_watches 34 = .ok (.istore 6, 2) := by decide +kernel
theorem dX7_watches_36 : decode cX7_watches 36 = .ok (.iload 4, 2) := by decide +kernel
theorem dX7_watches_38 : decode cX7_watches 38 = .ok (.ifCond .ne 74, 3) := by decide +kernel
theorem dX7_watches_41 : decode cX7_watches 41 = .ok (.aload_n 0, 1) := by decide +kernel
theorem dX7_watches_42 : decode cX7_watches 42 = .ok (.getfield 52, 3) := by decide +kernel
theorem dX7_watches_45 : decode cX7_watches 45 = .ok (.iload 6, 2) := by decide +kernel
theorem dX7_watches_47 : decode cX7_watches 47 = .ok (.iconst 0, 1) := by decide +kernel
theorem dX7_watches_48 : decode cX7_watches 48 = .ok (.iadd, 1) := by decide +kernel
theorem dX7_watches_49 : decode cX7_watches 49 = .ok (.iaload, 1) := by decide +kernel
theorem dX7_watches_50 : decode cX7_watches 50 = .ok (.ifCond .le 66, 3) := by decide +kernel
theorem dX7_watches_53 : decode cX7_watches 53 = .ok (.aload_n 0, 1) := by decide +kernel
theorem dX7_watches_54 : decode cX7_watches 54 = .ok (.getfield 52, 3) := by decide +kernel
theorem dX7_watches_57 : decode cX7_watches 57 = .ok (.iload 6, 2) := by decide +kernel
theorem dX7_watches_59 : decode cX7_watches 59 = .ok (.iconst 2, 1) := by decide +kernel
theorem dX7_watches_60 : decode cX7_watches 60 = .ok (.iadd, 1) := by decide +kernel
theorem dX7_watches_61 : decode cX7_watches 61 = .ok (.iaload, 1) := by decide +kernel
theorem dX7_watches_62 : decode cX7_watches 62 = .ok (.iload_n 1, 1) := by decide +kernel
theorem dX7_watches_63 : decode cX7_watches 63 = .ok (.if_icmp .ne 53, 3) := by decide +kernel
theorem dX7_watches_66 : decode cX7_watches 66 = .ok (.aload_n 0, 1) := by decide +kernel
theorem dX7_watches_67 : decode cX7_watches 67 = .ok (.getfield 13, 3) := by decide +kernel
theorem dX7_watches_70 : decode cX7_watches 70 = .ok (.aload_n 0, 1) := by decide +kernel
theorem dX7_watches_71 : decode cX7_watches 71 = .ok (.getfield 52, 3) := by decide +kernel
theorem dX7_watches_74 : decode cX7_watches 74 = .ok (.iload 6, 2) := by decide +kernel
theorem dX7_watches_76 : decode cX7_watches 76 = .ok (.iconst 3, 1) := by decide +kernel
theorem dX7_watches_77 : decode cX7_watches 77 = .ok (.iadd, 1) := by decide +kernel
theorem dX7_watches_78 : decode cX7_watches 78 = .ok (.iaload, 1) := by decide +kernel
theorem dX7_watches_79 : decode cX7_watches 79 = .ok (.iaload, 1) := by decide +kernel
theorem dX7_watches_80 : decode cX7_watches 80 = .ok (.iload_n 1, 1) := by decide +kernel
theorem dX7_watches_81 : decode cX7_watches 81 = .ok (.invokestatic 79, 3) := by decide +kernel
theorem dX7_watches_84 : decode cX7_watches 84 = .ok (.ifCond .eq 32, 3) := by decide +kernel
theorem dX7_watches_87 : decode cX7_watches 87 = .ok (.aload_n 0, 1) := by decide +kernel
theorem dX7_watches_88 : decode cX7_watches 88 = .ok (.getfield 52, 3) := by decide +kernel
theorem dX7_watches_91 : decode cX7_watches 91 = .ok (.iload 6, 2) := by decide +kernel
theorem dX7_watches_93 : decode cX7_watches 93 = .ok (.iconst 4, 1) := by decide +kernel
theorem dX7_watches_94 : decode cX7_watches 94 = .ok (.iadd, 1) := by decide +kernel
theorem dX7_watches_95 : decode cX7_watches 95 = .ok (.iaload, 1) := by decide +kernel
theorem dX7_watches_96 : decode cX7_watches 96 = .ok (.aload_n 0, 1) := by decide +kernel
theorem dX7_watches_97 : decode cX7_watches 97 = .ok (.getfield 103, 3) := by decide +kernel
theorem dX7_watches_100 : decode cX7_watches 100 = .ok (.aload_n 0, 1) := by decide +kernel
theorem dX7_watches_101 : decode cX7_watches 101 = .ok (.getfield 19, 3) := by decide +kernel
theorem dX7_watches_104 : decode cX7_watches 104 = .ok (.iload_n 2, 1) := by decide +kernel
theorem dX7_watches_105 : decode cX7_watches 105 = .ok (.iaload, 1) := by decide +kernel
theorem dX7_watches_106 : decode cX7_watches 106 = .ok (.iadd, 1) := by decide +kernel
theorem dX7_watches_107 : decode cX7_watches 107 = .ok (.iconst 1, 1) := by decide +kernel
theorem dX7_watches_108 : decode cX7_watches 108 = .ok (.iadd, 1) := by decide +kernel
theorem dX7_watches_109 : decode cX7_watches 109 = .ok (.if_icmp .ne 7, 3) := by decide +kernel
theorem dX7_watches_112 : decode cX7_watches 112 = .ok (.iconst 1, 1) := by decide +kernel
theorem dX7_watches_113 : decode cX7_watches 113 = .ok (.goto 4, 3) := by decide +kernel
theorem dX7_watches_116 : decode cX7_watches 116 = .ok (.iconst 0, 1) := by decide +kernel
theorem dX7_watches_117 : decode cX7_watches 117 = .ok (.istore 4, 2) := by decide +kernel
theorem dX7_watches_119 : decode cX7_watches 119 = .ok (.iinc 5 1, 3) := by decide +kernel
theorem dX7_watches_122 : decode cX7_watches 122 = .ok (.goto (-100), 3) := by decide +kernel
theorem dX7_watches_125 : decode cX7_watches 125 = .ok (.iload 4, 2) := by decide +kernel
theorem dX7_watches_127 : decode cX7_watches 127 = .ok (.ifCond .eq 8, 3) := by decide +kernel
theorem dX7_watches_130 : decode cX7_watches 130 = .ok (.aload_n 0, 1) := by decide +kernel
theorem dX7_watches_131 : decode cX7_watches 131 = .ok (.iload_n 3, 1) := by decide +kernel
theorem dX7_watches_132 : decode cX7_watches 132 = .ok (.invokevirtual 120, 3) := by decide +kernel
theorem dX7_watches_135 : decode cX7_watches 135 = .ok (.goto 111, 3) := by decide +kernel
theorem dX7_watches_138 : decode cX7_watches 138 = .ok (.aload_n 0, 1) := by decide +kernel
theorem dX7_watches_139 : decode cX7_watches 139 = .ok (.getfield 25, 3) := by decide +kernel
theorem dX7_watches_142 : decode cX7_watches 142 = .ok (.iload_n 2, 1) := by decide +kernel
theorem dX7_watches_143 : decode cX7_watches 143 = .ok (.iaload, 1) := by decide +kernel
theorem dX7_watches_144 : decode cX7_watches 144 = .ok (.iconst 2, 1) := by decide +kernel
theorem dX7_watches_145 : decode cX7_watches 145 = .ok (.if_icmp .ne 11, 3) := by decide +kernel
theorem dX7_watches_148 : decode cX7_watches 148 = .ok (.aload_n 0, 1) := by decide +kernel
theorem dX7_watches_149 : decode cX7_watches 149 = .ok (.iload_n 3, 1) := by decide +kernel
theorem dX7_watches_150 : decode cX7_watches 150 = .ok (.invokevirtual 120, 3) := by decide +kernel
theorem dX7_watches_153 : decode cX7_watches 153 = .ok (.goto 93, 3) := by decide +kernel
theorem dX7_watches_156 : decode cX7_watches 156 = .ok (.iconst 0, 1) := by decide +kernel
theorem dX7_watches_157 : decode cX7_watches 157 = .ok (.istore 4, 2) := by decide +kernel
theorem dX7_watches_159 : decode cX7_watches 159 = .ok (.iload 4, 2) := by decide +kernel
theorem dX7_watches_161 : decode cX7_watches 161 = .ok (.iconst 3, 1) := by decide +kernel
theorem dX7_watches_162 : decode cX7_watches 162 = .ok (.if_icmp .ge 30, 3) := by decide +kernel
theorem dX7_watches_165 : decode cX7_watches 165 = .ok (.aload_n 0, 1) := by decide +kernel
theorem dX7_watches_166 : decode cX7_watches 166 = .ok (.iload_n 2, 1) := by decide +kernel
theorem dX7_watches_167 : decode cX7_watches 167 = .ok (.iload 4, 2) := by decide +kernel
theorem dX7_watches_169 : decode cX7_watches 169 = .ok (.iload_n 1, 1) := by decide +kernel
theorem dX7_watches_170 : decode cX7_watches 170 = .ok (.invokevirtual 124, 3) := by decide +kernel
theorem dX7_watches_173 : decode cX7_watches 173 = .ok (.ifCond .eq 13, 3) := by decide +kernel
theorem dX7_watches_176 : decode cX7_watches 176 = .ok (.aload_n 0, 1) := by decide +kernel
theorem dX7_watches_177 : decode cX7_watches 177 = .ok (.iload_n 2, 1) := by decide +kernel
theorem dX7_watches_178 : decode cX7_watches 178 = .ok (.iload 4, 2) := by decide +kernel
theorem dX7_watches_180 : decode cX7_watches 180 = .ok (.iload_n 1, 1) := by decide +kernel
theorem dX7_watches_181 : decode cX7_watches 181 = .ok (.invokevirtual 127, 3) := by decide +kernel
theorem dX7_watches_184 : decode cX7_watches 184 = .ok (.istore 5, 2) := by decide +kernel
theorem dX7_watches_186 : decode cX7_watches 186 = .ok (.iinc 4 1, 3) := by decide +kernel
theorem dX7_watches_189 : decode cX7_watches 189 = .ok (.goto (-30), 3) := by decide +kernel
theorem dX7_watches_192 : decode cX7_watches 192 = .ok (.aload_n 0, 1) := by decide +kernel
theorem dX7_watches_193 : decode cX7_watches 193 = .ok (.getfield 37, 3) := by decide +kernel
theorem dX7_watches_196 : decode cX7_watches 196 = .ok (.iload_n 2, 1) := by decide +kernel
theorem dX7_watches_197 : decode cX7_watches 197 = .ok (.iaload, 1) := by decide +kernel
theorem dX7_watches_198 : decode cX7_watches 198 = .ok (.ifCond .le 48, 3) := by decide +kernel
theorem dX7_watches_201 : decode cX7_watches 201 = .ok (.aload_n 0, 1) := by decide +kernel
theorem dX7_watches_202 : decode cX7_watches 202 = .ok (.getfield 43, 3) := by decide +kernel
theorem dX7_watches_205 : decode cX7_watches 205 = .ok (.iload_n 2, 1) := by decide +kernel
theorem dX7_watches_206 : decode cX7_watches 206 = .ok (.iaload, 1) := by decide +kernel
theorem dX7_watches_207 : decode cX7_watches 207 = .ok (.iload_n 1, 1) := by decide +kernel
theorem dX7_watches_208 : decode cX7_watches 208 = .ok (.if_icmp .ne 38, 3) := by decide +kernel
theorem dX7_watches_211 : decode cX7_watches 211 = .ok (.aload_n 0, 1) := by decide +kernel
theorem dX7_watches_212 : decode cX7_watches 212 = .ok (.getfield 40, 3) := by decide +kernel
theorem dX7_watches_215 : decode cX7_watches 215 = .ok (.iload_n 2, 1) := by decide +kernel
theorem dX7_watches_216 : decode cX7_watches 216 = .ok (.iaload, 1) := by decide +kernel
theorem dX7_watches_217 : decode cX7_watches 217 = .ok (.iconst 4, 1) := by decide +kernel
theorem dX7_watches_218 : decode cX7_watches 218 = .ok (.irem, 1) := by decide +kernel
theorem dX7_watches_219 : decode cX7_watches 219 = .ok (.ifCond .ne 12, 3) := by decide +kernel
theorem dX7_watches_222 : decode cX7_watches 222 = .ok (.aload_n 0, 1) := by decide +kernel
theorem dX7_watches_223 : decode cX7_watches 223 = .ok (.iload_n 2, 1) := by decide +kernel
theorem dX7_watches_224 : decode cX7_watches 224 = .ok (.iconst 1, 1) := by decide +kernel
theorem dX7_watches_225 : decode cX7_watches 225 = .ok (.invokevirtual 131, 3) := by decide +kernel
theorem dX7_watches_228 : decode cX7_watches 228 = .ok (.goto 16, 3) := by decide +kernel
theorem dX7_watches_231 : decode cX7_watches 231 = .ok (.aload_n 0, 1) := by decide +kernel
theorem dX7_watches_232 : decode cX7_watches 232 = .ok (.iload_n 2, 1) := by decide +kernel
theorem dX7_watches_233 : decode cX7_watches 233 = .ok (.aload_n 0, 1) := by decide +kernel
theorem dX7_watches_234 : decode cX7_watches 234 = .ok (.getfield 40, 3) := by decide +kernel
theorem dX7_watches_237 : decode cX7_watches 237 = .ok (.iload_n 2, 1) := by decide +kernel
theorem dX7_watches_238 : decode cX7_watches 238 = .ok (.iaload, 1) := by decide +kernel
theorem dX7_watches_239 : decode cX7_watches 239 = .ok (.iconst 4, 1) := by decide +kernel
theorem dX7_watches_240 : decode cX7_watches 240 = .ok (.irem, 1) := by decide +kernel
theorem dX7_watches_241 : decode cX7_watches 241 = .ok (.invokevirtual 131, 3) := by decide +kernel
theorem dX7_watches_244 : decode cX7_watches 244 = .ok (.istore 4, 2) := by decide +kernel
theorem dX7_watches_246 : decode cX7_watches 246 = .ok (.return_, 1) := by decide +kernel
theorem dX7_oneMore_0 : decode cX7_oneMore 0 = .ok (.aload_n 0, 1) := by decide +kernel
theorem dX7_oneMore_1 : decode cX7_oneMore 1 = .ok (.dup, 1) := by decide +kernel
theorem dX7_oneMore_2 : decode cX7_oneMore 2 = .ok (.getfield 103, 3) := by decide +kernel
theorem dX7_oneMore_5 : decode cX7_oneMore 5 = .ok (.iconst 1, 1) := by decide +kernel
theorem dX7_oneMore_6 : decode cX7_oneMore 6 = .ok (.iadd, 1) := by decide +kernel
theorem dX7_oneMore_7 : decode cX7_oneMore 7 = .ok (.putfield 103, 3) := by decide +kernel
theorem dX7_oneMore_10 : decode cX7_oneMore 10 = .ok (.iconst 0, 1) := by decide +kernel
theorem dX7_oneMore_11 : decode cX7_oneMore 11 = .ok (.istore_n 1, 1) := by decide +kernel
theorem dX7_oneMore_12 : decode cX7_oneMore 12 = .ok (.iload_n 1, 1) := by decide +kernel
theorem dX7_oneMore_13 : decode cX7_oneMore 13 = .ok (.aload_n 0, 1) := by decide +kernel
theorem dX7_oneMore_14 : decode cX7_oneMore 14 = .ok (.getfield 68, 3) := by decide +kernel
theorem dX7_oneMore_17 : decode cX7_oneMore 17 = .ok (.if_icmp .ge 14, 3) := by decide +kernel
theorem dX7_oneMore_20 : decode cX7_oneMore 20 = .ok (.aload_n 0, 1) := by decide +kernel
theorem dX7_oneMore_21 : decode cX7_oneMore 21 = .ok (.iload_n 1, 1) := by decide +kernel
theorem dX7_oneMore_22 : decode cX7_oneMore 22 = .ok (.invokevirtual 134, 3) := by decide +kernel
theorem dX7_oneMore_25 : decode cX7_oneMore 25 = .ok (.iinc 1 1, 3) := by decide +kernel
theorem dX7_oneMore_28 : decode cX7_oneMore 28 = .ok (.goto (-16), 3) := by decide +kernel
theorem dX7_oneMore_31 : decode cX7_oneMore 31 = .ok (.iconst 0, 1) := by decide +kernel
theorem dX7_oneMore_32 : decode cX7_oneMore 32 = .ok (.istore_n 1, 1) := by decide +kernel
theorem dX7_oneMore_33 : decode cX7_oneMore 33 = .ok (.iload_n 1, 1) := by decide +kernel
theorem dX7_oneMore_34 : decode cX7_oneMore 34 = .ok (.bipush 6, 2) := by decide +kernel
theorem dX7_oneMore_36 : decode cX7_oneMore 36 = .ok (.if_icmp .ge 55, 3) := by decide +kernel
theorem dX7_oneMore_39 : decode cX7_oneMore 39 = .ok (.iconst 0, 1) := by decide +kernel
theorem dX7_oneMore_40 : decode cX7_oneMore 40 = .ok (.istore_n 2, 1) := by decide +kernel
theorem dX7_oneMore_41 : decode cX7_oneMore 41 = .ok (.iload_n 2, 1) := by decide +kernel
theorem dX7_oneMore_42 : decode cX7_oneMore 42 = .ok (.aload_n 0, 1) := by decide +kernel
theorem dX7_oneMore_43 : decode cX7_oneMore 43 = .ok (.getfield 68, 3) := by decide +kernel
theorem dX7_oneMore_46 : decode cX7_oneMore 46 = .ok (.if_icmp .ge 39, 3) := by decide +kernel
theorem dX7_oneMore_49 : decode cX7_oneMore 49 = .ok (.aload_n 0, 1) := by decide +kernel
theorem dX7_oneMore_50 : decode cX7_oneMore 50 = .ok (.getfield 137, 3) := by decide +kernel
theorem dX7_oneMore_53 : decode cX7_oneMore 53 = .ok (.iload_n 1, 1) := by decide +kernel
theorem dX7_oneMore_54 : decode cX7_oneMore 54 = .ok (.invokestatic 79, 3) := by decide +kernel
theorem dX7_oneMore_57 : decode cX7_oneMore 57 = .ok (.ifCond .eq 28, 3) := by decide +kernel
theorem dX7_oneMore_60 : decode cX7_oneMore 60 = .ok (.aload_n 0, 1) := by decide +kernel
theorem dX7_oneMore_61 : decode cX7_oneMore 61 = .ok (.getfield 16, 3) := by decide +kernel
theorem dX7_oneMore_64 : decode cX7_oneMore 64 = .ok (.iload_n 2, 1) := by decide +kernel
theorem dX7_oneMore_65 : decode cX7_oneMore 65 = .ok (.iaload, 1) := by decide +kernel
theorem dX7_oneMore_66 : decode cX7_oneMore 66 = .ok (.iload_n 1, 1) := by decide +kernel
theorem dX7_oneMore_67 : decode cX7_oneMore 67 = .ok (.invokestatic 79, 3) := by decide +kernel
theorem dX7_oneMore_70 : decode cX7_oneMore 70 = .ok (.ifCond .eq 9, 3) := by decide +kernel
theorem dX7_oneMore_73 : decode cX7_oneMore 73 = .ok (.aload_n 0, 1) := by decide +kernel
theorem dX7_oneMore_74 : decode cX7_oneMore 74 = .ok (.iload_n 1, 1) := by decide +kernel
theorem dX7_oneMore_75 : decode cX7_oneMore 75 = .ok (.iload_n 2, 1) := by decide +kernel
theorem dX7_oneMore_76 : decode cX7_oneMore 76 = .ok (.invokevirtual 140, 3) := by decide +kernel
theorem dX7_oneMore_79 : decode cX7_oneMore 79 = .ok (.iinc 2 1, 3) := by decide +kernel
theorem dX7_oneMore_82 : decode cX7_oneMore 82 = .ok (.goto (-41), 3) := by decide +kernel
theorem dX7_oneMore_85 : decode cX7_oneMore 85 = .ok (.iinc 1 1, 3) := by decide +kernel
theorem dX7_oneMore_88 : decode cX7_oneMore 88 = .ok (.goto (-55), 3) := by decide +kernel
theorem dX7_oneMore_91 : decode cX7_oneMore 91 = .ok (.return_, 1) := by decide +kernel
theorem dX7_channel_0 : decode cX7_channel 0 = .ok (.iload_n 1, 1) := by decide +kernel
theorem dX7_channel_1 : decode cX7_channel 1 = .ok (.iconst 0, 1) := by decide +kernel
theorem dX7_channel_2 : decode cX7_channel 2 = .ok (.bipush 63, 2) := by decide +kernel
theorem dX7_channel_4 : decode cX7_channel 4 = .ok (.invokestatic 64, 3) := by decide +kernel
theorem dX7_channel_7 : decode cX7_channel 7 = .ok (.ifCond .ne 5, 3) := by decide +kernel
theorem dX7_channel_10 : decode cX7_channel 10 = .ok (.iconst (-1), 1) := by decide +kernel
theorem dX7_channel_11 : decode cX7_channel 11 = .ok (.ireturn, 1) := by decide +kernel
theorem dX7_channel_12 : decode cX7_channel 12 = .ok (.iload_n 1, 1) := by decide +kernel
theorem dX7_channel_13 : decode cX7_channel 13 = .ok (.invokestatic 143, 3) := by decide +kernel
theorem dX7_channel_16 : decode cX7_channel 16 = .ok (.istore 4, 2) := by decide +kernel
theorem dX7_channel_18 : decode cX7_channel 18 = .ok (.iload_n 2, 1) := by decide +kernel
theorem dX7_channel_19 : decode cX7_channel 19 = .ok (.iconst 0, 1) := by decide +kernel
theorem dX7_channel_20 : decode cX7_channel 20 = .ok (.sipush 10000, 3) := by decide +kernel
theorem dX7_channel_23 : decode cX7_channel 23 = .ok (.invokestatic 64, 3) := by decide +kernel
theorem dX7_channel_26 : decode cX7_channel 26 = .ok (.ifCond .eq 23, 3) := by decide +kernel
theorem dX7_channel_29 : decode cX7_channel 29 = .ok (.iload_n 3, 1) := by decide +kernel
theorem dX7_channel_30 : decode cX7_channel 30 = .ok (.iconst 2, 1) := by decide +kernel
theorem dX7_channel_31 : decode cX7_channel 31 = .ok (.bipush 20, 2) := by decide +kernel
theorem dX7_channel_33 : decode cX7_channel 33 = .ok (.invokestatic 64, 3) := by decide +kernel
theorem dX7_channel_36 : decode cX7_channel 36 = .ok (.ifCond .eq 13, 3) := by decide +kernel
theorem dX7_channel_39 : decode cX7_channel 39 = .ok (.iload 4, 2) := by decide +kernel
theorem dX7_channel_41 : decode cX7_channel 41 = .ok (.iconst 2, 1) := by decide +kernel
theorem dX7_channel_42 : decode cX7_channel 42 = .ok (.iconst 4, 1) := by decide +kernel
theorem dX7_channel_43 : decode cX7_channel 43 = .ok (.invokestatic 64, 3) := by decide +kernel
theorem dX7_channel_46 : decode cX7_channel 46 = .ok (.ifCond .ne 6, 3) := by decide +kernel
theorem dX7_channel_49 : decode cX7_channel 49 = .ok (.bipush (-3), 2) := by decide +kernel
theorem dX7_channel_51 : decode cX7_channel 51 = .ok (.ireturn, 1) := by decide +kernel
theorem dX7_channel_52 : decode cX7_channel 52 = .ok (.iconst 0, 1) := by decide +kernel
theorem dX7_channel_53 : decode cX7_channel 53 = .ok (.istore 5, 2) := by decide +kernel
theorem dX7_channel_55 : decode cX7_channel 55 = .ok (.iconst 0, 1) := by decide +kernel
theorem dX7_channel_56 : decode cX7_channel 56 = .ok (.istore 6, 2) := by decide +kernel
theorem dX7_channel_58 : decode cX7_channel 58 = .ok (.iload 6, 2) := by decide +kernel
theorem dX7_channel_60 : decode cX7_channel 60 = .ok (.bipush 6, 2) := by decide +kernel
theorem dX7_channel_62 : decode cX7_channel 62 = .ok (.if_icmp .ge 41, 3) := by decide +kernel
theorem dX7_channel_65 : decode cX7_channel 65 = .ok (.iload 5, 2) := by decide +kernel
theorem dX7_channel_67 : decode cX7_channel 67 = .ok (.ifCond .ne 23, 3) := by decide +kernel
theorem dX7_channel_70 : decode cX7_channel 70 = .ok (.iload_n 1, 1) := by decide +kernel
theorem dX7_channel_71 : decode cX7_channel 71 = .ok (.iload 6, 2) := by decide +kernel
theorem dX7_channel_73 : decode cX7_channel 73 = .ok (.invokestatic 79, 3) := by decide +kernel
theorem dX7_channel_76 : decode cX7_channel 76 = .ok (.ifCond .eq 18, 3) := by decide +kernel
theorem dX7_channel_79 : decode cX7_channel 79 = .ok (.aload_n 0, 1) := by decide +kernel
theorem dX7_channel_80 : decode cX7_channel 80 = .ok (.getfield 7, 3) := by decide +kernel
theorem dX7_channel_83 : decode cX7_channel 83 = .ok (.iload 6, 2) := by decide +kernel
theorem dX7_channel_85 : decode cX7_channel 85 = .ok (.iaload, 1) := by decide +kernel
theorem dX7_channel_86 : decode cX7_channel 86 = .ok (.iload_n 2, 1) := by decide +kernel
theorem dX7_channel_87 : decode cX7_channel 87 = .ok (.if_icmp .ge 7, 3) := by decide +kernel
theorem dX7_channel_90 : decode cX7_channel 90 = .ok (.iconst 1, 1) := by decide +kernel
theorem dX7_channel_91 : decode cX7_channel 91 = .ok (.goto 4, 3) := by decide +kernel
theorem dX7_channel_94 : decode cX7_channel 94 = .ok (.iconst 0, 1) := by decide +kernel
theorem dX7_channel_95 : decode cX7_channel 95 = .ok (.istore 5, 2) := by decide +kernel
theorem dX7_channel_97 : decode cX7_channel 97 = .ok (.iinc 6 1, 3) := by decide +kernel
theorem dX7_channel_100 : decode cX7_channel 100 = .ok (.goto (-42), 3) := by decide +kernel
theorem dX7_channel_103 : decode cX7_channel 103 = .ok (.aload_n 0, 1) := by decide +kernel
theorem dX7_channel_104 : decode cX7_channel 104 = .ok (.getfield 68, 3) := by decide +kernel
theorem dX7_channel_107 : decode cX7_channel 107 = .ok (.bipush 8, 2) := by decide +kernel
theorem dX7_channel_109 : decode cX7_channel 109 = .ok (.if_icmp .eq 17, 3) := by decide +kernel
theorem dX7_channel_112 : decode cX7_channel 112 = .ok (.aload_n 0, 1) := by decide +kernel
theorem dX7_channel_113 : decode cX7_channel 113 = .ok (.getfield 72, 3) := by decide +kernel
theorem dX7_channel_116 : decode cX7_channel 116 = .ok (.bipush 64, 2) := by decide +kernel
theorem dX7_channel_118 : decode cX7_channel 118 = .ok (.if_icmp .eq 8, 3) := by decide +kernel
theorem dX7_channel_121 : decode cX7_channel 121 = .ok (.iload 5, 2) := by decide +kernel
theorem dX7_channel_123 : decode cX7_channel 123 = .ok (.ifCond .eq 6, 3) := by decide +kernel
theorem dX7_channel_126 : decode cX7_channel 126 = .ok (.bipush (-4), 2) := by decide +kernel
theorem dX7_channel_128 : decode cX7_channel 128 = .ok (.ireturn, 1) := by decide +kernel
theorem dX7_channel_129 : decode cX7_channel 129 = .ok (.aload_n 0, 1) := by decide +kernel
theorem dX7_channel_130 : decode cX7_channel 130 = .ok (.getfield 68, 3) := by decide +kernel
theorem dX7_channel_133 : decode cX7_channel 133 = .ok (.istore 6, 2) := by decide +kernel
theorem dX7_channel_135 : decode cX7_channel 135 = .ok (.aload_n 0, 1) := by decide +kernel
theorem dX7_channel_136 : decode cX7_channel 136 = .ok (.dup, 1) := by decide +kernel
theorem dX7_channel_137 : decode cX7_channel 137 = .ok (.getfield 68, 3) := by decide +kernel
theorem dX7_channel_140 : decode cX7_channel 140 = .ok (.iconst 1, 1) := by decide +kernel
theorem dX7_channel_141 : decode cX7_channel 141 = .ok (.iadd, 1) := by decide +kernel
theorem dX7_channel_142 : decode cX7_channel 142 = .ok (.putfield 68, 3) := by decide +kernel
theorem dX7_channel_145 : decode cX7_channel 145 = .ok (.aload_n 0, 1) := by decide +kernel
theorem dX7_channel_146 : decode cX7_channel 146 = .ok (.getfield 16, 3) := by decide +kernel
theorem dX7_channel_149 : decode cX7_channel 149 = .ok (.iload 6, 2) := by decide +kernel
theorem dX7_channel_151 : decode cX7_channel 151 = .ok (.iload_n 1, 1) := by decide +kernel
theorem dX7_channel_152 : decode cX7_channel 152 = .ok (.iastore, 1) := by decide +kernel
theorem dX7_channel_153 : decode cX7_channel 153 = .ok (.aload_n 0, 1) := by decide +kernel
theorem dX7_channel_154 : decode cX7_channel 154 = .ok (.getfield 19, 3) := by decide +kernel
theorem dX7_channel_157 : decode cX7_channel 157 = .ok (.iload 6, 2) := by decide +kernel
theorem dX7_channel_159 : decode cX7_channel 159 = .ok (.iload_n 3, 1) := by decide +kernel
theorem dX7_channel_160 : decode cX7_channel 160 = .ok (.iastore, 1) := by decide +kernel
theorem dX7_channel_161 : decode cX7_channel 161 = .ok (.aload_n 0, 1) := by decide +kernel
theorem dX7_channel_162 : decode cX7_channel 162 = .ok (.getfield 22, 3) := by decide +kernel
theorem dX7_channel_165 : decode cX7_channel 165 = .ok (.iload 6, 2) := by decide +kernel
theorem dX7_channel_167 : decode cX7_channel 167 = .ok (.iload 4, 2) := by decide +kernel
theorem dX7_channel_169 : decode cX7_channel 169 = .ok (.iload_n 2, 1) := by decide +kernel
theorem dX7_channel_170 : decode cX7_channel 170 = .ok (.imul, 1) := by decide +kernel
theorem dX7_channel_171 : decode cX7_channel 171 = .ok (.iastore, 1) := by decide +kernel
theorem dX7_channel_172 : decode cX7_channel 172 = .ok (.aload_n 0, 1) := by decide +kernel
theorem dX7_channel_173 : decode cX7_channel 173 = .ok (.getfield 25, 3) := by decide +kernel
theorem dX7_channel_176 : decode cX7_channel 176 = .ok (.iload 6, 2) := by decide +kernel
theorem dX7_channel_178 : decode cX7_channel 178 = .ok (.iconst 1, 1) := by decide +kernel
theorem dX7_channel_179 : decode cX7_channel 179 = .ok (.iastore, 1) := by decide +kernel
theorem dX7_channel_180 : decode cX7_channel 180 = .ok (.aload_n 0, 1) := by decide +kernel
theorem dX7_channel_181 : decode cX7_channel 181 = .ok (.getfield 28, 3) := by decide +kernel
theorem dX7_channel_184 : decode cX7_channel 184 = .ok (.iload 6, 2) := by decide +kernel
theorem dX7_channel_186 : decode cX7_channel 186 = .ok (.iconst (-1), 1) := by decide +kernel
theorem dX7_channel_187 : decode cX7_channel 187 = .ok (.iastore, 1) := by decide +kernel
theorem dX7_channel_188 : decode cX7_channel 188 = .ok (.aload_n 0, 1) := by decide +kernel
theorem dX7_channel_189 : decode cX7_channel 189 = .ok (.iload 6, 2) := by decide +kernel
theorem dX7_channel_191 : decode cX7_channel 191 = .ok (.invokevirtual 146, 3) := by decide +kernel
theorem dX7_channel_194 : decode cX7_channel 194 = .ok (.istore 7, 2) := by decide +kernel
theorem dX7_channel_196 : decode cX7_channel 196 = .ok (.iconst 0, 1) := by decide +kernel
theorem dX7_channel_197 : decode cX7_channel 197 = .ok (.istore 8, 2) := by decide +kernel
theorem dX7_channel_199 : decode cX7_channel 199 = .ok (.iload 8, 2) := by decide +kernel
theorem dX7_channel_201 : decode cX7_channel 201 = .ok (.bipush 6, 2) := by decide +kernel
theorem dX7_channel_203 : decode cX7_channel 203 = .ok (.if_icmp .ge 45, 3) := by decide +kernel
theorem dX7_channel_206 : decode cX7_channel 206 = .ok (.iload_n 1, 1) := by decide +kernel
theorem dX7_channel_207 : decode cX7_channel 207 = .ok (.iload 8, 2) := by decide +kernel
theorem dX7_channel_209 : decode cX7_channel 209 = .ok (.invokestatic 79, 3) := by decide +kernel
theorem dX7_channel_212 : decode cX7_channel 212 = .ok (.ifCond .eq 30, 3) := by decide +kernel
theorem dX7_channel_215 : decode cX7_channel 215 = .ok (.aload_n 0, 1) := by decide +kernel
theorem dX7_channel_216 : decode cX7_channel 216 = .ok (.getfield 7, 3) := by decide +kernel
theorem dX7_channel_219 : decode cX7_channel 219 = .ok (.iload 8, 2) := by decide +kernel
theorem dX7_channel_221 : decode cX7_channel 221 = .ok (.dup2, 1) := by decide +kernel
theorem dX7_channel_222 : decode cX7_channel 222 = .ok (.iaload, 1) := by decide +kernel
theorem dX7_channel_223 : decode cX7_channel 223 = .ok (.iload_n 2, 1) := by decide +kernel
theorem dX7_channel_224 : decode cX7_channel 224 = .ok (.isub, 1) := by decide +kernel
theorem dX7_channel_225 : decode cX7_channel 225 = .ok (.iastore, 1) := by decide +kernel
theorem dX7_channel_226 : decode cX7_channel 226 = .ok (.aload_n 0, 1) := by decide +kernel
theorem dX7_channel_227 : decode cX7_channel 227 = .ok (.getfield 52, 3) := by decide +kernel
theorem dX7_channel_230 : decode cX7_channel 230 = .ok (.bipush 35, 2) := by decide +kernel
theorem dX7_channel_232 : decode cX7_channel 232 = .ok (.iload 7, 2) := by decide +kernel
theorem dX7_channel_234 : decode cX7_channel 234 = .ok (.imul, 1) := by decide +kernel
theorem dX7_channel_235 : decode cX7_channel 235 = .ok (.iconst 4, 1) := by decide +kernel
theorem dX7_channel_236 : decode cX7_channel 236 = .ok (.iadd, 1) := by decide +kernel
theorem dX7_channel_237 : decode cX7_channel 237 = .ok (.iload 8, 2) := by decide +kernel
theorem dX7_channel_239 : decode cX7_channel 239 = .ok (.iadd, 1) := by decide +kernel
theorem dX7_channel_240 : decode cX7_channel 240 = .ok (.iload_n 2, 1) := by decide +kernel
theorem dX7_channel_241 : decode cX7_channel 241 = .ok (.iastore, 1) := by decide +kernel
theorem dX7_channel_242 : decode cX7_channel 242 = .ok (.iinc 8 1, 3) := by decide +kernel
theorem dX7_channel_245 : decode cX7_channel 245 = .ok (.goto (-46), 3) := by decide +kernel
theorem dX7_channel_248 : decode cX7_channel 248 = .ok (.aload_n 0, 1) := by decide +kernel
theorem dX7_channel_249 : decode cX7_channel 249 = .ok (.getfield 52, 3) := by decide +kernel
theorem dX7_channel_252 : decode cX7_channel 252 = .ok (.bipush 35, 2) := by decide +kernel
theorem dX7_channel_254 : decode cX7_channel 254 = .ok (.iload 7, 2) := by decide +kernel
theorem dX7_channel_256 : decode cX7_channel 256 = .ok (.imul, 1) := by decide +kernel
theorem dX7_channel_257 : decode cX7_channel 257 = .ok (.iconst 2, 1) := by decide +kernel
theorem dX7_channel_258 : decode cX7_channel 258 = .ok (.iadd, 1) := by decide +kernel
theorem dX7_channel_259 : decode cX7_channel 259 = .ok (.iload_n 1, 1) := by decide +kernel
theorem dX7_channel_260 : decode cX7_channel 260 = .ok (.iastore, 1) := by decide +kernel
theorem dX7_channel_261 : decode cX7_channel 261 = .ok (.iload 6, 2) := by decide +kernel
theorem dX7_channel_263 : decode cX7_channel 263 = .ok (.ireturn, 1) := by decide +kernel
theorem dX7_blank_0 : decode cX7_blank 0 = .ok (.iconst 0, 1) := by decide +kernel
theorem dX7_blank_1 : decode cX7_blank 1 = .ok (.istore_n 2, 1) := by decide +kernel
theorem dX7_blank_2 : decode cX7_blank 2 = .ok (.iconst 0, 1) := by decide +kernel
theorem dX7_blank_3 : decode cX7_blank 3 = .ok (.istore_n 3, 1) := by decide +kernel
theorem dX7_blank_4 : decode cX7_blank 4 = .ok (.iload_n 3, 1) := by decide +kernel
theorem dX7_blank_5 : decode cX7_blank 5 = .ok (.aload_n 0, 1) := by decide +kernel
theorem dX7_blank_6 : decode cX7_blank 6 = .ok (.getfield 72, 3) := by decide +kernel
theorem dX7_blank_9 : decode cX7_blank 9 = .ok (.if_icmp .ge 26, 3) := by decide +kernel
theorem dX7_blank_12 : decode cX7_blank 12 = .ok (.iload_n 2, 1) := by decide +kernel
theorem dX7_blank_13 : decode cX7_blank 13 = .ok (.aload_n 0, 1) := by decide +kernel
theorem dX7_blank_14 : decode cX7_blank 14 = .ok (.iload_n 3, 1) := by decide +kernel
theorem dX7_blank_15 : decode cX7_blank 15 = .ok (.invokevirtual 86, 3) := by decide +kernel
theorem dX7_blank_18 : decode cX7_blank 18 = .ok (.iload_n 1, 1) := by decide +kernel
theorem dX7_blank_19 : decode cX7_blank 19 = .ok (.if_icmp .ne 7, 3) := by decide +kernel
theorem dX7_blank_22 : decode cX7_blank 22 = .ok (.iconst 1, 1) := by decide +kernel
theorem dX7_blank_23 : decode cX7_blank 23 = .ok (.goto 4, 3) := by decide +kernel
theorem dX7_blank_26 : decode cX7_blank 26 = .ok (.iconst 0, 1) := by decide +kernel
theorem dX7_blank_27 : decode cX7_blank 27 = .ok (.iadd, 1) := by decide +kernel
theorem dX7_blank_28 : decode cX7_blank 28 = .ok (.istore_n 2, 1) := by decide +kernel
theorem dX7_blank_29 : decode cX7_blank 29 = .ok (.iinc 3 1, 3) := by decide +kernel
theorem dX7_blank_32 : decode cX7_blank 32 = .ok (.goto (-28), 3) := by decide +kernel
theorem dX7_blank_35 : decode cX7_blank 35 = .ok (.bipush 35, 2) := by decide +kernel
theorem dX7_blank_37 : decode cX7_blank 37 = .ok (.aload_n 0, 1) := by decide +kernel
theorem dX7_blank_38 : decode cX7_blank 38 = .ok (.getfield 72, 3) := by decide +kernel
theorem dX7_blank_41 : decode cX7_blank 41 = .ok (.imul, 1) := by decide +kernel
theorem dX7_blank_42 : decode cX7_blank 42 = .ok (.istore_n 3, 1) := by decide +kernel
theorem dX7_blank_43 : decode cX7_blank 43 = .ok (.iconst 0, 1) := by decide +kernel
theorem dX7_blank_44 : decode cX7_blank 44 = .ok (.istore 4, 2) := by decide +kernel
theorem dX7_blank_46 : decode cX7_blank 46 = .ok (.iload 4, 2) := by decide +kernel
theorem dX7_blank_48 : decode cX7_blank 48 = .ok (.bipush 35, 2) := by decide +kernel
theorem dX7_blank_50 : decode cX7_blank 50 = .ok (.if_icmp .ge 19, 3) := by decide +kernel
theorem dX7_blank_53 : decode cX7_blank 53 = .ok (.aload_n 0, 1) := by decide +kernel
theorem dX7_blank_54 : decode cX7_blank 54 = .ok (.getfield 52, 3) := by decide +kernel
theorem dX7_blank_57 : decode cX7_blank 57 = .ok (.iload_n 3, 1) := by decide +kernel
theorem dX7_blank_58 : decode cX7_blank 58 = .ok (.iload 4, 2) := by decide +kernel
theorem dX7_blank_60 : decode cX7_blank 60 = .ok (.iadd, 1) := by decide +kernel
theorem dX7_blank_61 : decode cX7_blank 61 = .ok (.iconst 0, 1) := by decide +kernel
theorem dX7_blank_62 : decode cX7_blank 62 = .ok (.iastore, 1) := by decide +kernel
theorem dX7_blank_63 : decode cX7_blank 63 = .ok (.iinc 4 1, 3) := by decide +kernel
theorem dX7_blank_66 : decode cX7_blank 66 = .ok (.goto (-20), 3) := by decide +kernel
theorem dX7_blank_69 : decode cX7_blank 69 = .ok (.aload_n 0, 1) := by decide +kernel
theorem dX7_blank_70 : decode cX7_blank 70 = .ok (.getfield 52, 3) := by decide +kernel
theorem dX7_blank_73 : decode cX7_blank 73 = .ok (.iload_n 3, 1) := by decide +kernel
theorem dX7_blank_74 : decode cX7_blank 74 = .ok (.iconst 0, 1) := by decide +kernel
theorem dX7_blank_75 : decode cX7_blank 75 = .ok (.iadd, 1) := by decide +kernel
theorem dX7_blank_76 : decode cX7_blank 76 = .ok (.iload_n 1, 1) := by decide +kernel
theorem dX7_blank_77 : decode cX7_blank 77 = .ok (.iastore, 1) := by decide +kernel
theorem dX7_blank_78 : decode cX7_blank 78 = .ok (.aload_n 0, 1) := by decide +kernel
theorem dX7_blank_79 : decode cX7_blank 79 = .ok (.getfield 52, 3) := by decide +kernel
theorem dX7_blank_82 : decode cX7_blank 82 = .ok (.iload_n 3, 1) := by decide +kernel
theorem dX7_blank_83 : decode cX7_blank 83 = .ok (.iconst 1, 1) := by decide +kernel
theorem dX7_blank_84 : decode cX7_blank 84 = .ok (.iadd, 1) := by decide +kernel
theorem dX7_blank_85 : decode cX7_blank 85 = .ok (.iload_n 2, 1) := by decide +kernel
theorem dX7_blank_86 : decode cX7_blank 86 = .ok (.iastore, 1) := by decide +kernel
theorem dX7_blank_87 : decode cX7_blank 87 = .ok (.aload_n 0, 1) := by decide +kernel
theorem dX7_blank_88 : decode cX7_blank 88 = .ok (.getfield 52, 3) := by decide +kernel
theorem dX7_blank_91 : decode cX7_blank 91 = .ok (.iload_n 3, 1) := by decide +kernel
theorem dX7_blank_92 : decode cX7_blank 92 = .ok (.bipush 33, 2) := by decide +kernel
theorem dX7_blank_94 : decode cX7_blank 94 = .ok (.iadd, 1) := by decide +kernel
theorem dX7_blank_95 : decode cX7_blank 95 = .ok (.iconst (-1), 1) := by decide +kernel
theorem dX7_blank_96 : decode cX7_blank 96 = .ok (.iastore, 1) := by decide +kernel
theorem dX7_blank_97 : decode cX7_blank 97 = .ok (.aload_n 0, 1) := by decide +kernel
theorem dX7_blank_98 : decode cX7_blank 98 = .ok (.getfield 52, 3) := by decide +kernel
theorem dX7_blank_101 : decode cX7_blank 101 = .ok (.iload_n 3, 1) := by decide +kernel
theorem dX7_blank_102 : decode cX7_blank 102 = .ok (.bipush 34, 2) := by decide +kernel
theorem dX7_blank_104 : decode cX7_blank 104 = .ok (.iadd, 1) := by decide +kernel
theorem dX7_blank_105 : decode cX7_blank 105 = .ok (.iconst (-1), 1) := by decide +kernel
theorem dX7_blank_106 : decode cX7_blank 106 = .ok (.iastore, 1) := by decide +kernel
theorem dX7_blank_107 : decode cX7_blank 107 = .ok (.aload_n 0, 1) := by decide +kernel
theorem dX7_blank_108 : decode cX7_blank 108 = .ok (.dup, 1) := by decide +kernel
theorem dX7_blank_109 : decode cX7_blank 109 = .ok (.getfield 72, 3) := by decide +kernel
theorem dX7_blank_112 : decode cX7_blank 112 = .ok (.iconst 1, 1) := by decide +kernel
theorem dX7_blank_113 : decode cX7_blank 113 = .ok (.iadd, 1) := by decide +kernel
theorem dX7_blank_114 : decode cX7_blank 114 = .ok (.putfield 72, 3) := by decide +kernel
theorem dX7_blank_117 : decode cX7_blank 117 = .ok (.aload_n 0, 1) := by decide +kernel
theorem dX7_blank_118 : decode cX7_blank 118 = .ok (.getfield 72, 3) := by decide +kernel
theorem dX7_blank_121 : decode cX7_blank 121 = .ok (.iconst 1, 1) := by decide +kernel
theorem dX7_blank_122 : decode cX7_blank 122 = .ok (.isub, 1) := by decide +kernel
theorem dX7_blank_123 : decode cX7_blank 123 = .ok (.ireturn, 1) := by decide +kernel
theorem dX7_copied_0 : decode cX7_copied 0 = .ok (.bipush 35, 2) := by decide +kernel
theorem dX7_copied_2 : decode cX7_copied 2 = .ok (.aload_n 0, 1) := by decide +kernel
theorem dX7_copied_3 : decode cX7_copied 3 = .ok (.iload_n 1, 1) := by decide +kernel
theorem dX7_copied_4 : decode cX7_copied 4 = .ok (.invokevirtual 117, 3) := by decide +kernel
theorem dX7_copied_7 : decode cX7_copied 7 = .ok (.imul, 1) := by decide +kernel
theorem dX7_copied_8 : decode cX7_copied 8 = .ok (.istore_n 2, 1) := by decide +kernel
theorem dX7_copied_9 : decode cX7_copied 9 = .ok (.aload_n 0, 1) := by decide +kernel
theorem dX7_copied_10 : decode cX7_copied 10 = .ok (.iload_n 1, 1) := by decide +kernel
theorem dX7_copied_11 : decode cX7_copied 11 = .ok (.invokevirtual 146, 3) := by decide +kernel
theorem dX7_copied_14 : decode cX7_copied 14 = .ok (.istore_n 3, 1) := by decide +kernel
theorem dX7_copied_15 : decode cX7_copied 15 = .ok (.bipush 35, 2) := by decide +kernel
theorem dX7_copied_17 : decode cX7_copied 17 = .ok (.iload_n 3, 1) := by decide +kernel
theorem dX7_copied_18 : decode cX7_copied 18 = .ok (.imul, 1) := by decide +kernel
theorem dX7_copied_19 : decode cX7_copied 19 = .ok (.istore 4, 2) := by decide +kernel
theorem dX7_copied_21 : decode cX7_copied 21 = .ok (.iconst 4, 1) := by decide +kernel
theorem dX7_copied_22 : decode cX7_copied 22 = .ok (.istore 5, 2) := by decide +kernel
theorem dX7_copied_24 : decode cX7_copied 24 = .ok (.iload 5, 2) := by decide +kernel
theorem dX7_copied_26 : decode cX7_copied 26 = .ok (.bipush 35, 2) := by decide +kernel
theorem dX7_copied_28 : decode cX7_copied 28 = .ok (.if_icmp .ge 44, 3) := by decide +kernel
theorem dX7_copied_31 : decode cX7_copied 31 = .ok (.aload_n 0, 1) := by decide +kernel
theorem dX7_copied_32 : decode cX7_copied 32 = .ok (.getfield 52, 3) := by decide +kernel
theorem dX7_copied_35 : decode cX7_copied 35 = .ok (.iload 4, 2) := by decide +kernel
theorem dX7_copied_37 : decode cX7_copied 37 = .ok (.iload 5, 2) := by decide +kernel
theorem dX7_copied_39 : decode cX7_copied 39 = .ok (.iadd, 1) := by decide +kernel
theorem dX7_copied_40 : decode cX7_copied 40 = .ok (.iload 5, 2) := by decide +kernel
theorem dX7_copied_42 : decode cX7_copied 42 = .ok (.bipush 10, 2) := by decide +kernel
theorem dX7_copied_44 : decode cX7_copied 44 = .ok (.bipush 15, 2) := by decide +kernel
theorem dX7_copied_46 : decode cX7_copied 46 = .ok (.invokestatic 64, 3) := by decide +kernel
theorem dX7_copied_49 : decode cX7_copied 49 = .ok (.ifCond .eq 7, 3) := by decide +kernel
theorem dX7_copied_52 : decode cX7_copied 52 = .ok (.iconst 0, 1) := by decide +kernel
theorem dX7_copied_53 : decode cX7_copied 53 = .ok (.goto 12, 3) := by decide +kernel
theorem dX7_copied_56 : decode cX7_copied 56 = .ok (.aload_n 0, 1) := by decide +kernel
theorem dX7_copied_57 : decode cX7_copied 57 = .ok (.getfield 52, 3) := by decide +kernel
theorem dX7_copied_60 : decode cX7_copied 60 = .ok (.iload_n 2, 1) := by decide +kernel
theorem dX7_copied_61 : decode cX7_copied 61 = .ok (.iload 5, 2) := by decide +kernel
theorem dX7_copied_63 : decode cX7_copied 63 = .ok (.iadd, 1) := by decide +kernel
theorem dX7_copied_64 : decode cX7_copied 64 = .ok (.iaload, 1) := by decide +kernel
theorem dX7_copied_65 : decode cX7_copied 65 = .ok (.iastore, 1) := by decide +kernel
theorem dX7_copied_66 : decode cX7_copied 66 = .ok (.iinc 5 1, 3) := by decide +kernel
theorem dX7_copied_69 : decode cX7_copied 69 = .ok (.goto (-45), 3) := by decide +kernel
theorem dX7_copied_72 : decode cX7_copied 72 = .ok (.iload_n 3, 1) := by decide +kernel
theorem dX7_copied_73 : decode cX7_copied 73 = .ok (.ireturn, 1) := by decide +kernel
theorem dX7_state_0 : decode cX7_state 0 = .ok (.aload_n 0, 1) := by decide +kernel
theorem dX7_state_1 : decode cX7_state 1 = .ok (.iload_n 1, 1) := by decide +kernel
theorem dX7_state_2 : decode cX7_state 2 = .ok (.invokevirtual 149, 3) := by decide +kernel
theorem dX7_state_5 : decode cX7_state 5 = .ok (.ifCond .ne 5, 3) := by decide +kernel
theorem dX7_state_8 : decode cX7_state 8 = .ok (.iconst (-1), 1) := by decide +kernel
theorem dX7_state_9 : decode cX7_state 9 = .ok (.ireturn, 1) := by decide +kernel
theorem dX7_state_10 : decode cX7_state 10 = .ok (.aload_n 0, 1) := by decide +kernel
theorem dX7_state_11 : decode cX7_state 11 = .ok (.getfield 25, 3) := by decide +kernel
theorem dX7_state_14 : decode cX7_state 14 = .ok (.iload_n 1, 1) := by decide +kernel
theorem dX7_state_15 : decode cX7_state 15 = .ok (.iaload, 1) := by decide +kernel
theorem dX7_state_16 : decode cX7_state 16 = .ok (.iconst 3, 1) := by decide +kernel
theorem dX7_state_17 : decode cX7_state 17 = .ok (.if_icmp .ne 6, 3) := by decide +kernel
theorem dX7_state_20 : decode cX7_state 20 = .ok (.bipush (-2), 2) := by decide +kernel
theorem dX7_state_22 : decode cX7_state 22 = .ok (.ireturn, 1) := by decide +kernel
theorem dX7_state_23 : decode cX7_state 23 = .ok (.aload_n 0, 1) := by decide +kernel
theorem dX7_state_24 : decode cX7_state 24 = .ok (.getfield 72, 3) := by decide +kernel
theorem dX7_state_27 : decode cX7_state 27 = .ok (.bipush 64, 2) := by decide +kernel
theorem dX7_state_29 : decode cX7_state 29 = .ok (.if_icmp .ne 8, 3) := by decide +kernel
theorem dX7_state_32 : decode cX7_state 32 = .ok (.bipush (-4), 2) := by decide +kernel
theorem dX7_state_34 : decode cX7_state 34 = .ok (.goto 8, 3) := by decide +kernel
theorem dX7_state_37 : decode cX7_state 37 = .ok (.aload_n 0, 1) := by decide +kernel
theorem dX7_state_38 : decode cX7_state 38 = .ok (.iload_n 1, 1) := by decide +kernel
theorem dX7_state_39 : decode cX7_state 39 = .ok (.invokevirtual 152, 3) := by decide +kernel
theorem dX7_state_42 : decode cX7_state 42 = .ok (.ireturn, 1) := by decide +kernel
theorem dX7_change_0 : decode cX7_change 0 = .ok (.aload_n 0, 1) := by decide +kernel
theorem dX7_change_1 : decode cX7_change 1 = .ok (.iload_n 1, 1) := by decide +kernel
theorem dX7_change_2 : decode cX7_change 2 = .ok (.iload_n 2, 1) := by decide +kernel
theorem dX7_change_3 : decode cX7_change 3 = .ok (.invokevirtual 155, 3) := by decide +kernel
theorem dX7_change_6 : decode cX7_change 6 = .ok (.ifCond .eq 12, 3) := by decide +kernel
theorem dX7_change_9 : decode cX7_change 9 = .ok (.aload_n 0, 1) := by decide +kernel
theorem dX7_change_10 : decode cX7_change 10 = .ok (.iload_n 1, 1) := by decide +kernel
theorem dX7_change_11 : decode cX7_change 11 = .ok (.iload_n 3, 1) := by decide +kernel
theorem dX7_change_12 : decode cX7_change 12 = .ok (.invokevirtual 155, 3) := by decide +kernel
theorem dX7_change_15 : decode cX7_change 15 = .ok (.ifCond .ne 5, 3) := by decide +kernel
theorem dX7_change_18 : decode cX7_change 18 = .ok (.iconst (-1), 1) := by decide +kernel
theorem dX7_change_19 : decode cX7_change 19 = .ok (.ireturn, 1) := by decide +kernel
theorem dX7_change_20 : decode cX7_change 20 = .ok (.aload_n 0, 1) := by decide +kernel
theorem dX7_change_21 : decode cX7_change 21 = .ok (.iload_n 1, 1) := by decide +kernel
theorem dX7_change_22 : decode cX7_change 22 = .ok (.invokevirtual 158, 3) := by decide +kernel
theorem dX7_change_25 : decode cX7_change 25 = .ok (.ifCond .eq 6, 3) := by decide +kernel
theorem dX7_change_28 : decode cX7_change 28 = .ok (.bipush (-2), 2) := by decide +kernel
theorem dX7_change_30 : decode cX7_change 30 = .ok (.ireturn, 1) := by decide +kernel
theorem dX7_change_31 : decode cX7_change 31 = .ok (.iload 4, 2) := by decide +kernel
theorem dX7_change_33 : decode cX7_change 33 = .ok (.iconst 1, 1) := by decide +kernel
theorem dX7_change_34 : decode cX7_change 34 = .ok (.ldc 161, 2) := by decide +kernel
theorem dX7_change_36 : decode cX7_change 36 = .ok (.invokestatic 64, 3) := by decide +kernel
theorem dX7_change_39 : decode cX7_change 39 = .ok (.ifCond .ne 6, 3) := by decide +kernel
theorem dX7_change_42 : decode cX7_change 42 = .ok (.bipush (-3), 2) := by decide +kernel
theorem dX7_change_44 : decode cX7_change 44 = .ok (.ireturn, 1) := by decide +kernel
theorem dX7_change_45 : decode cX7_change 45 = .ok (.iload_n 2, 1) := by decide +kernel
theorem dX7_change_46 : decode cX7_change 46 = .ok (.iload_n 3, 1) := by decide +kernel
theorem dX7_change_47 : decode cX7_change 47 = .ok (.if_icmp .eq 14, 3) := by decide +kernel
theorem dX7_change_50 : decode cX7_change 50 = .ok (.aload_n 0, 1) := by decide +kernel
theorem dX7_change_51 : decode cX7_change 51 = .ok (.iload_n 1, 1) := by decide +kernel
theorem dX7_change_52 : decode cX7_change 52 = .ok (.iload_n 2, 1) := by decide +kernel
theorem dX7_change_53 : decode cX7_change 53 = .ok (.invokevirtual 162, 3) := by decide +kernel
theorem dX7_change_56 : decode cX7_change 56 = .ok (.iload 4, 2) := by decide +kernel
theorem dX7_change_58 : decode cX7_change 58 = .ok (.if_icmp .ge 6, 3) := by decide +kernel
theorem dX7_change_61 : decode cX7_change 61 = .ok (.bipush (-4), 2) := by decide +kernel
theorem dX7_change_63 : decode cX7_change 63 = .ok (.ireturn, 1) := by decide +kernel
theorem dX7_change_64 : decode cX7_change 64 = .ok (.aload_n 0, 1) := by decide +kernel
theorem dX7_change_65 : decode cX7_change 65 = .ok (.getfield 52, 3) := by decide +kernel
theorem dX7_change_68 : decode cX7_change 68 = .ok (.bipush 35, 2) := by decide +kernel
theorem dX7_change_70 : decode cX7_change 70 = .ok (.iload_n 1, 1) := by decide +kernel
theorem dX7_change_71 : decode cX7_change 71 = .ok (.imul, 1) := by decide +kernel
theorem dX7_change_72 : decode cX7_change 72 = .ok (.iconst 4, 1) := by decide +kernel
theorem dX7_change_73 : decode cX7_change 73 = .ok (.iadd, 1) := by decide +kernel
theorem dX7_change_74 : decode cX7_change 74 = .ok (.iload_n 2, 1) := by decide +kernel
theorem dX7_change_75 : decode cX7_change 75 = .ok (.iadd, 1) := by decide +kernel
theorem dX7_change_76 : decode cX7_change 76 = .ok (.dup2, 1) := by decide +kernel
theorem dX7_change_77 : decode cX7_change 77 = .ok (.iaload, 1) := by decide +kernel
theorem dX7_change_78 : decode cX7_change 78 = .ok (.iload 4, 2) := by decide +kernel
theorem dX7_change_80 : decode cX7_change 80 = .ok (.isub, 1) := by decide +kernel
theorem dX7_change_81 : decode cX7_change 81 = .ok (.iastore, 1) := by decide +kernel
theorem dX7_change_82 : decode cX7_change 82 = .ok (.aload_n 0, 1) := by decide +kernel
theorem dX7_change_83 : decode cX7_change 83 = .ok (.getfield 52, 3) := by decide +kernel
theorem dX7_change_86 : decode cX7_change 86 = .ok (.bipush 35, 2) := by decide +kernel
theorem dX7_change_88 : decode cX7_change 88 = .ok (.iload_n 1, 1) := by decide +kernel
theorem dX7_change_89 : decode cX7_change 89 = .ok (.imul, 1) := by decide +kernel
theorem dX7_change_90 : decode cX7_change 90 = .ok (.iconst 4, 1) := by decide +kernel
theorem dX7_change_91 : decode cX7_change 91 = .ok (.iadd, 1) := by decide +kernel
theorem dX7_change_92 : decode cX7_change 92 = .ok (.iload_n 3, 1) := by decide +kernel
theorem dX7_change_93 : decode cX7_change 93 = .ok (.iadd, 1) := by decide +kernel
theorem dX7_change_94 : decode cX7_change 94 = .ok (.dup2, 1) := by decide +kernel
theorem dX7_change_95 : decode cX7_change 95 = .ok (.iaload, 1) := by decide +kernel
theorem dX7_change_96 : decode cX7_change 96 = .ok (.iload 4, 2) := by decide +kernel
theorem dX7_change_98 : decode cX7_change 98 = .ok (.iadd, 1) := by decide +kernel
theorem dX7_change_99 : decode cX7_change 99 = .ok (.iastore, 1) := by decide +kernel
theorem dX7_change_100 : decode cX7_change 100 = .ok (.aload_n 0, 1) := by decide +kernel
theorem dX7_change_101 : decode cX7_change 101 = .ok (.getfield 52, 3) := by decide +kernel
theorem dX7_change_104 : decode cX7_change 104 = .ok (.bipush 35, 2) := by decide +kernel
theorem dX7_change_106 : decode cX7_change 106 = .ok (.iload_n 1, 1) := by decide +kernel
theorem dX7_change_107 : decode cX7_change 107 = .ok (.imul, 1) := by decide +kernel
theorem dX7_change_108 : decode cX7_change 108 = .ok (.iconst 4, 1) := by decide +kernel
theorem dX7_change_109 : decode cX7_change 109 = .ok (.iadd, 1) := by decide +kernel
theorem dX7_change_110 : decode cX7_change 110 = .ok (.iload_n 2, 1) := by decide +kernel
theorem dX7_change_111 : decode cX7_change 111 = .ok (.iadd, 1) := by decide +kernel
theorem dX7_change_112 : decode cX7_change 112 = .ok (.iaload, 1) := by decide +kernel
theorem dX7_change_113 : decode cX7_change 113 = .ok (.ireturn, 1) := by decide +kernel
theorem dX7_lock_0 : decode cX7_lock 0 = .ok (.aload_n 0, 1) := by decide +kernel
theorem dX7_lock_1 : decode cX7_lock 1 = .ok (.iload_n 1, 1) := by decide +kernel
theorem dX7_lock_2 : decode cX7_lock 2 = .ok (.iload_n 2, 1) := by decide +kernel
theorem dX7_lock_3 : decode cX7_lock 3 = .ok (.invokevirtual 155, 3) := by decide +kernel
theorem dX7_lock_6 : decode cX7_lock 6 = .ok (.ifCond .eq 27, 3) := by decide +kernel
theorem dX7_lock_9 : decode cX7_lock 9 = .ok (.aload_n 0, 1) := by decide +kernel
theorem dX7_lock_10 : decode cX7_lock 10 = .ok (.iload_n 1, 1) := by decide +kernel
theorem dX7_lock_11 : decode cX7_lock 11 = .ok (.iload_n 3, 1) := by decide +kernel
theorem dX7_lock_12 : decode cX7_lock 12 = .ok (.invokevirtual 155, 3) := by decide +kernel
theorem dX7_lock_15 : decode cX7_lock 15 = .ok (.ifCond .eq 18, 3) := by decide +kernel
theorem dX7_lock_18 : decode cX7_lock 18 = .ok (.iload 5, 2) := by decide +kernel
theorem dX7_lock_20 : decode cX7_lock 20 = .ok (.iconst 0, 1) := by decide +kernel
theorem dX7_lock_21 : decode cX7_lock 21 = .ok (.aload_n 0, 1) := by decide +kernel
theorem dX7_lock_22 : decode cX7_lock 22 = .ok (.getfield 165, 3) := by decide +kernel
theorem dX7_lock_25 : decode cX7_lock 25 = .ok (.iconst 1, 1) := by decide +kernel
theorem dX7_lock_26 : decode cX7_lock 26 = .ok (.isub, 1) := by decide +kernel
theorem dX7_lock_27 : decode cX7_lock 27 = .ok (.invokestatic 64, 3) := by decide +kernel
theorem dX7_lock_30 : decode cX7_lock 30 = .ok (.ifCond .ne 5, 3) := by decide +kernel
theorem dX7_lock_33 : decode cX7_lock 33 = .ok (.iconst (-1), 1) := by decide +kernel
theorem dX7_lock_34 : decode cX7_lock 34 = .ok (.ireturn, 1) := by decide +kernel
theorem dX7_lock_35 : decode cX7_lock 35 = .ok (.aload_n 0, 1) := by decide +kernel
theorem dX7_lock_36 : decode cX7_lock 36 = .ok (.iload_n 1, 1) := by decide +kernel
theorem dX7_lock_37 : decode cX7_lock 37 = .ok (.invokevirtual 158, 3) := by decide +kernel
theorem dX7_lock_40 : decode cX7_lock 40 = .ok (.ifCond .eq 6, 3) := by decide +kernel
theorem dX7_lock_43 : decode cX7_lock 43 = .ok (.bipush (-2), 2) := by decide +kernel
theorem dX7_lock_45 : decode cX7_lock 45 = .ok (.ireturn, 1) := by decide +kernel
theorem dX7_lock_46 : decode cX7_lock 46 = .ok (.iload 4, 2) := by decide +kernel
theorem dX7_lock_48 : decode cX7_lock 48 = .ok (.iconst 1, 1) := by decide +kernel
theorem dX7_lock_49 : decode cX7_lock 49 = .ok (.ldc 161, 2) := by decide +kernel
theorem dX7_lock_51 : decode cX7_lock 51 = .ok (.invokestatic 64, 3) := by decide +kernel
theorem dX7_lock_54 : decode cX7_lock 54 = .ok (.ifCond .eq 14, 3) := by decide +kernel
theorem dX7_lock_57 : decode cX7_lock 57 = .ok (.iload 6, 2) := by decide +kernel
theorem dX7_lock_59 : decode cX7_lock 59 = .ok (.iconst 1, 1) := by decide +kernel
theorem dX7_lock_60 : decode cX7_lock 60 = .ok (.ldc 168, 2) := by decide +kernel
theorem dX7_lock_62 : decode cX7_lock 62 = .ok (.invokestatic 64, 3) := by decide +kernel
theorem dX7_lock_65 : decode cX7_lock 65 = .ok (.ifCond .ne 6, 3) := by decide +kernel
theorem dX7_lock_68 : decode cX7_lock 68 = .ok (.bipush (-3), 2) := by decide +kernel
theorem dX7_lock_70 : decode cX7_lock 70 = .ok (.ireturn, 1) := by decide +kernel
theorem dX7_lock_71 : decode cX7_lock 71 = .ok (.iload_n 2, 1) := by decide +kernel
theorem dX7_lock_72 : decode cX7_lock 72 = .ok (.iload_n 3, 1) := by decide +kernel
theorem dX7_lock_73 : decode cX7_lock 73 = .ok (.if_icmp .eq 23, 3) := by decide +kernel
theorem dX7_lock_76 : decode cX7_lock 76 = .ok (.aload_n 0, 1) := by decide +kernel
theorem dX7_lock_77 : decode cX7_lock 77 = .ok (.iload_n 1, 1) := by decide +kernel
theorem dX7_lock_78 : decode cX7_lock 78 = .ok (.iload_n 2, 1) := by decide +kernel
theorem dX7_lock_79 : decode cX7_lock 79 = .ok (.invokevirtual 162, 3) := by decide +kernel
theorem dX7_lock_82 : decode cX7_lock 82 = .ok (.iload 4, 2) := by decide +kernel
theorem dX7_lock_84 : decode cX7_lock 84 = .ok (.if_icmp .lt 12, 3) := by decide +kernel
theorem dX7_lock_87 : decode cX7_lock 87 = .ok (.aload_n 0, 1) := by decide +kernel
theorem dX7_lock_88 : decode cX7_lock 88 = .ok (.iload_n 1, 1) := by decide +kernel
theorem dX7_lock_89 : decode cX7_lock 89 = .ok (.invokevirtual 169, 3) := by decide +kernel
theorem dX7_lock_92 : decode cX7_lock 92 = .ok (.iconst (-1), 1) := by decide +kernel
theorem dX7_lock_93 : decode cX7_lock 93 = .ok (.if_icmp .ne 6, 3) := by decide +kernel
theorem dX7_lock_96 : decode cX7_lock 96 = .ok (.bipush (-4), 2) := by decide +kernel
theorem dX7_lock_98 : decode cX7_lock 98 = .ok (.ireturn, 1) := by decide +kernel
theorem dX7_lock_99 : decode cX7_lock 99 = .ok (.aload_n 0, 1) := by decide +kernel
theorem dX7_lock_100 : decode cX7_lock 100 = .ok (.iload_n 1, 1) := by decide +kernel
theorem dX7_lock_101 : decode cX7_lock 101 = .ok (.iload_n 2, 1) := by decide +kernel
theorem dX7_lock_102 : decode cX7_lock 102 = .ok (.iload_n 3, 1) := by decide +kernel
theorem dX7_lock_103 : decode cX7_lock 103 = .ok (.iload 4, 2) := by decide +kernel
theorem dX7_lock_105 : decode cX7_lock 105 = .ok (.iload 5, 2) := by decide +kernel
theorem dX7_lock_107 : decode cX7_lock 107 = .ok (.iload 6, 2) := by decide +kernel
theorem dX7_lock_109 : decode cX7_lock 109 = .ok (.invokevirtual 172, 3) := by decide +kernel
theorem dX7_lock_112 : decode cX7_lock 112 = .ok (.ireturn, 1) := by decide +kernel
theorem dX7_locks_0 : decode cX7_locks 0 = .ok (.aload_n 0, 1) := by decide +kernel
theorem dX7_locks_1 : decode cX7_locks 1 = .ok (.iload_n 1, 1) := by decide +kernel
theorem dX7_locks_2 : decode cX7_locks 2 = .ok (.invokevirtual 169, 3) := by decide +kernel
theorem dX7_locks_5 : decode cX7_locks 5 = .ok (.istore 7, 2) := by decide +kernel
theorem dX7_locks_7 : decode cX7_locks 7 = .ok (.iload_n 1, 1) := by decide +kernel
theorem dX7_locks_8 : decode cX7_locks 8 = .ok (.iload 7, 2) := by decide +kernel
theorem dX7_locks_10 : decode cX7_locks 10 = .ok (.invokestatic 93, 3) := by decide +kernel
theorem dX7_locks_13 : decode cX7_locks 13 = .ok (.istore 8, 2) := by decide +kernel
theorem dX7_locks_15 : decode cX7_locks 15 = .ok (.aload_n 0, 1) := by decide +kernel
theorem dX7_locks_16 : decode cX7_locks 16 = .ok (.getfield 52, 3) := by decide +kernel
theorem dX7_locks_19 : decode cX7_locks 19 = .ok (.bipush 35, 2) := by decide +kernel
theorem dX7_locks_21 : decode cX7_locks 21 = .ok (.iload_n 1, 1) := by decide +kernel
theorem dX7_locks_22 : decode cX7_locks 22 = .ok (.imul, 1) := by decide +kernel
theorem dX7_locks_23 : decode cX7_locks 23 = .ok (.iconst 4, 1) := by decide +kernel
theorem dX7_locks_24 : decode cX7_locks 24 = .ok (.iadd, 1) := by decide +kernel
theorem dX7_locks_25 : decode cX7_locks 25 = .ok (.iload_n 2, 1) := by decide +kernel
theorem dX7_locks_26 : decode cX7_locks 26 = .ok (.iadd, 1) := by decide +kernel
theorem dX7_locks_27 : decode cX7_locks 27 = .ok (.dup2, 1) := by decide +kernel
theorem dX7_locks_28 : decode cX7_locks 28 = .ok (.iaload, 1) := by decide +kernel
theorem dX7_locks_29 : decode cX7_locks 29 = .ok (.iload 4, 2) := by decide +kernel
theorem dX7_locks_31 : decode cX7_locks 31 = .ok (.isub, 1) := by decide +kernel
theorem dX7_locks_32 : decode cX7_locks 32 = .ok (.iastore, 1) := by decide +kernel
theorem dX7_locks_33 : decode cX7_locks 33 = .ok (.aload_n 0, 1) := by decide +kernel
theorem dX7_locks_34 : decode cX7_locks 34 = .ok (.getfield 52, 3) := by decide +kernel
theorem dX7_locks_37 : decode cX7_locks 37 = .ok (.iload 8, 2) := by decide +kernel
theorem dX7_locks_39 : decode cX7_locks 39 = .ok (.iconst 0, 1) := by decide +kernel
theorem dX7_locks_40 : decode cX7_locks 40 = .ok (.iadd, 1) := by decide +kernel
theorem dX7_locks_41 : decode cX7_locks 41 = .ok (.iload 4, 2) := by decide +kernel
theorem dX7_locks_43 : decode cX7_locks 43 = .ok (.iastore, 1) := by decide +kernel
theorem dX7_locks_44 : decode cX7_locks 44 = .ok (.aload_n 0, 1) := by decide +kernel
theorem dX7_locks_45 : decode cX7_locks 45 = .ok (.getfield 52, 3) := by decide +kernel
theorem dX7_locks_48 : decode cX7_locks 48 = .ok (.iload 8, 2) := by decide +kernel
theorem dX7_locks_50 : decode cX7_locks 50 = .ok (.iconst 1, 1) := by decide +kernel
theorem dX7_locks_51 : decode cX7_locks 51 = .ok (.iadd, 1) := by decide +kernel
theorem dX7_locks_52 : decode cX7_locks 52 = .ok (.iload_n 2, 1) := by decide +kernel
theorem dX7_locks_53 : decode cX7_locks 53 = .ok (.iastore, 1) := by decide +kernel
theorem dX7_locks_54 : decode cX7_locks 54 = .ok (.aload_n 0, 1) := by decide +kernel
theorem dX7_locks_55 : decode cX7_locks 55 = .ok (.getfield 52, 3) := by decide +kernel
theorem dX7_locks_58 : decode cX7_locks 58 = .ok (.iload 8, 2) := by decide +kernel
theorem dX7_locks_60 : decode cX7_locks 60 = .ok (.iconst 2, 1) := by decide +kernel
theorem dX7_locks_61 : decode cX7_locks 61 = .ok (.iadd, 1) := by decide +kernel
theorem dX7_locks_62 : decode cX7_locks 62 = .ok (.iload_n 3, 1) := by decide +kernel
theorem dX7_locks_63 : decode cX7_locks 63 = .ok (.iastore, 1) := by decide +kernel
theorem dX7_locks_64 : decode cX7_locks 64 = .ok (.aload_n 0, 1) := by decide +kernel
theorem dX7_locks_65 : decode cX7_locks 65 = .ok (.getfield 52, 3) := by decide +kernel
theorem dX7_locks_68 : decode cX7_locks 68 = .ok (.iload 8, 2) := by decide +kernel
theorem dX7_locks_70 : decode cX7_locks 70 = .ok (.iconst 3, 1) := by decide +kernel
theorem dX7_locks_71 : decode cX7_locks 71 = .ok (.iadd, 1) := by decide +kernel
theorem dX7_locks_72 : decode cX7_locks 72 = .ok (.iload 5, 2) := by decide +kernel
theorem dX7_locks_74 : decode cX7_locks 74 = .ok (.iastore, 1) := by decide +kernel
theorem dX7_locks_75 : decode cX7_locks 75 = .ok (.aload_n 0, 1) := by decide +kernel
theorem dX7_locks_76 : decode cX7_locks 76 = .ok (.getfield 52, 3) := by decide +kernel
theorem dX7_locks_79 : decode cX7_locks 79 = .ok (.iload 8, 2) := by decide +kernel
theorem dX7_locks_81 : decode cX7_locks 81 = .ok (.iconst 4, 1) := by decide +kernel
theorem dX7_locks_82 : decode cX7_locks 82 = .ok (.iadd, 1) := by decide +kernel
theorem dX7_locks_83 : decode cX7_locks 83 = .ok (.iload 6, 2) := by decide +kernel
theorem dX7_locks_85 : decode cX7_locks 85 = .ok (.iastore, 1) := by decide +kernel
theorem dX7_locks_86 : decode cX7_locks 86 = .ok (.iload 7, 2) := by decide +kernel
theorem dX7_locks_88 : decode cX7_locks 88 = .ok (.ireturn, 1) := by decide +kernel
theorem dX7_isLock_0 : decode cX7_isLock 0 = .ok (.aload_n 0, 1) := by decide +kernel
theorem dX7_isLock_1 : decode cX7_isLock 1 = .ok (.iload_n 1, 1) := by decide +kernel
theorem dX7_isLock_2 : decode cX7_isLock 2 = .ok (.invokevirtual 83, 3) := by decide +kernel
theorem dX7_isLock_5 : decode cX7_isLock 5 = .ok (.ifCond .eq 31, 3) := by decide +kernel
theorem dX7_isLock_8 : decode cX7_isLock 8 = .ok (.iload_n 2, 1) := by decide +kernel
theorem dX7_isLock_9 : decode cX7_isLock 9 = .ok (.iconst 0, 1) := by decide +kernel
theorem dX7_isLock_10 : decode cX7_isLock 10 = .ok (.iconst 2, 1) := by decide +kernel
theorem dX7_isLock_11 : decode cX7_isLock 11 = .ok (.invokestatic 64, 3) := by decide +kernel
theorem dX7_isLock_14 : decode cX7_isLock 14 = .ok (.ifCond .eq 22, 3) := by decide +kernel
theorem dX7_isLock_17 : decode cX7_isLock 17 = .ok (.aload_n 0, 1) := by decide +kernel
theorem dX7_isLock_18 : decode cX7_isLock 18 = .ok (.getfield 52, 3) := by decide +kernel
theorem dX7_isLock_21 : decode cX7_isLock 21 = .ok (.iload_n 1, 1) := by decide +kernel
theorem dX7_isLock_22 : decode cX7_isLock 22 = .ok (.iload_n 2, 1) := by decide +kernel
theorem dX7_isLock_23 : decode cX7_isLock 23 = .ok (.invokestatic 93, 3) := by decide +kernel
theorem dX7_isLock_26 : decode cX7_isLock 26 = .ok (.iconst 0, 1) := by decide +kernel
theorem dX7_isLock_27 : decode cX7_isLock 27 = .ok (.iadd, 1) := by decide +kernel
theorem dX7_isLock_28 : decode cX7_isLock 28 = .ok (.iaload, 1) := by decide +kernel
theorem dX7_isLock_29 : decode cX7_isLock 29 = .ok (.ifCond .le 7, 3) := by decide +kernel
theorem dX7_isLock_32 : decode cX7_isLock 32 = .ok (.iconst 1, 1) := by decide +kernel
theorem dX7_isLock_33 : decode cX7_isLock 33 = .ok (.goto 4, 3) := by decide +kernel
theorem dX7_isLock_36 : decode cX7_isLock 36 = .ok (.iconst 0, 1) := by decide +kernel
theorem dX7_isLock_37 : decode cX7_isLock 37 = .ok (.ireturn, 1) := by decide +kernel
theorem dX7_unlock_0 : decode cX7_unlock 0 = .ok (.aload_n 0, 1) := by decide +kernel
theorem dX7_unlock_1 : decode cX7_unlock 1 = .ok (.iload_n 1, 1) := by decide +kernel
theorem dX7_unlock_2 : decode cX7_unlock 2 = .ok (.iload_n 2, 1) := by decide +kernel
theorem dX7_unlock_3 : decode cX7_unlock 3 = .ok (.invokevirtual 176, 3) := by decide +kernel
theorem dX7_unlock_6 : decode cX7_unlock 6 = .ok (.ifCond .ne 5, 3) := by decide +kernel
theorem dX7_unlock_9 : decode cX7_unlock 9 = .ok (.iconst (-1), 1) := by decide +kernel
theorem dX7_unlock_10 : decode cX7_unlock 10 = .ok (.ireturn, 1) := by decide +kernel
theorem dX7_unlock_11 : decode cX7_unlock 11 = .ok (.aload_n 0, 1) := by decide +kernel
theorem dX7_unlock_12 : decode cX7_unlock 12 = .ok (.iload_n 1, 1) := by decide +kernel
theorem dX7_unlock_13 : decode cX7_unlock 13 = .ok (.invokevirtual 158, 3) := by decide +kernel
theorem dX7_unlock_16 : decode cX7_unlock 16 = .ok (.ifCond .eq 6, 3) := by decide +kernel
theorem dX7_unlock_19 : decode cX7_unlock 19 = .ok (.bipush (-2), 2) := by decide +kernel
theorem dX7_unlock_21 : decode cX7_unlock 21 = .ok (.ireturn, 1) := by decide +kernel
theorem dX7_unlock_22 : decode cX7_unlock 22 = .ok (.iload_n 1, 1) := by decide +kernel
theorem dX7_unlock_23 : decode cX7_unlock 23 = .ok (.iload_n 2, 1) := by decide +kernel
theorem dX7_unlock_24 : decode cX7_unlock 24 = .ok (.invokestatic 93, 3) := by decide +kernel
theorem dX7_unlock_27 : decode cX7_unlock 27 = .ok (.istore 4, 2) := by decide +kernel
theorem dX7_unlock_29 : decode cX7_unlock 29 = .ok (.aload_n 0, 1) := by decide +kernel
theorem dX7_unlock_30 : decode cX7_unlock 30 = .ok (.getfield 52, 3) := by decide +kernel
theorem dX7_unlock_33 : decode cX7_unlock 33 = .ok (.iload 4, 2) := by decide +kernel
theorem dX7_unlock_35 : decode cX7_unlock 35 = .ok (.iconst 0, 1) := by decide +kernel
theorem dX7_unlock_36 : decode cX7_unlock 36 = .ok (.iadd, 1) := by decide +kernel
theorem dX7_unlock_37 : decode cX7_unlock 37 = .ok (.iaload, 1) := by decide +kernel
theorem dX7_unlock_38 : decode cX7_unlock 38 = .ok (.istore 5, 2) := by decide +kernel
theorem dX7_unlock_40 : decode cX7_unlock 40 = .ok (.iload_n 3, 1) := by decide +kernel
theorem dX7_unlock_41 : decode cX7_unlock 41 = .ok (.ifCond .eq 15, 3) := by decide +kernel
theorem dX7_unlock_44 : decode cX7_unlock 44 = .ok (.aload_n 0, 1) := by decide +kernel
theorem dX7_unlock_45 : decode cX7_unlock 45 = .ok (.getfield 52, 3) := by decide +kernel
theorem dX7_unlock_48 : decode cX7_unlock 48 = .ok (.iload 4, 2) := by decide +kernel
theorem dX7_unlock_50 : decode cX7_unlock 50 = .ok (.iconst 2, 1) := by decide +kernel
theorem dX7_unlock_51 : decode cX7_unlock 51 = .ok (.iadd, 1) := by decide +kernel
theorem dX7_unlock_52 : decode cX7_unlock 52 = .ok (.iaload, 1) := by decide +kernel
theorem dX7_unlock_53 : decode cX7_unlock 53 = .ok (.goto 12, 3) := by decide +kernel
theorem dX7_unlock_56 : decode cX7_unlock 56 = .ok (.aload_n 0, 1) := by decide +kernel
theorem dX7_unlock_57 : decode cX7_unlock 57 = .ok (.getfield 52, 3) := by decide +kernel
theorem dX7_unlock_60 : decode cX7_unlock 60 = .ok (.iload 4, 2) := by decide +kernel
theorem dX7_unlock_62 : decode cX7_unlock 62 = .ok (.iconst 1, 1) := by decide +kernel
theorem dX7_unlock_63 : decode cX7_unlock 63 = .ok (.iadd, 1) := by decide +kernel
theorem dX7_unlock_64 : decode cX7_unlock 64 = .ok (.iaload, 1) := by decide +kernel
theorem dX7_unlock_65 : decode cX7_unlock 65 = .ok (.istore 6, 2) := by decide +kernel
theorem dX7_unlock_67 : decode cX7_unlock 67 = .ok (.aload_n 0, 1) := by decide +kernel
theorem dX7_unlock_68 : decode cX7_unlock 68 = .ok (.getfield 52, 3) := by decide +kernel
theorem dX7_unlock_71 : decode cX7_unlock 71 = .ok (.bipush 35, 2) := by decide +kernel
theorem dX7_unlock_73 : decode cX7_unlock 73 = .ok (.iload_n 1, 1) := by decide +kernel
theorem dX7_unlock_74 : decode cX7_unlock 74 = .ok (.imul, 1) := by decide +kernel
theorem dX7_unlock_75 : decode cX7_unlock 75 = .ok (.iconst 4, 1) := by decide +kernel
theorem dX7_unlock_76 : decode cX7_unlock 76 = .ok (.iadd, 1) := by decide +kernel
theorem dX7_unlock_77 : decode cX7_unlock 77 = .ok (.iload 6, 2) := by decide +kernel
theorem dX7_unlock_79 : decode cX7_unlock 79 = .ok (.iadd, 1) := by decide +kernel
theorem dX7_unlock_80 : decode cX7_unlock 80 = .ok (.dup2, 1) := by decide +kernel
theorem dX7_unlock_81 : decode cX7_unlock 81 = .ok (.iaload, 1) := by decide +kernel
theorem dX7_unlock_82 : decode cX7_unlock 82 = .ok (.iload 5, 2) := by decide +kernel
theorem dX7_unlock_84 : decode cX7_unlock 84 = .ok (.iadd, 1) := by decide +kernel
theorem dX7_unlock_85 : decode cX7_unlock 85 = .ok (.iastore, 1) := by decide +kernel
theorem dX7_unlock_86 : decode cX7_unlock 86 = .ok (.iconst 0, 1) := by decide +kernel
theorem dX7_unlock_87 : decode cX7_unlock 87 = .ok (.istore 7, 2) := by decide +kernel
theorem dX7_unlock_89 : decode cX7_unlock 89 = .ok (.iload 7, 2) := by decide +kernel
theorem dX7_unlock_91 : decode cX7_unlock 91 = .ok (.iconst 5, 1) := by decide +kernel
theorem dX7_unlock_92 : decode cX7_unlock 92 = .ok (.if_icmp .ge 20, 3) := by decide +kernel
theorem dX7_unlock_95 : decode cX7_unlock 95 = .ok (.aload_n 0, 1) := by decide +kernel
theorem dX7_unlock_96 : decode cX7_unlock 96 = .ok (.getfield 52, 3) := by decide +kernel
theorem dX7_unlock_99 : decode cX7_unlock 99 = .ok (.iload 4, 2) := by decide +kernel
theorem dX7_unlock_101 : decode cX7_unlock 101 = .ok (.iload 7, 2) := by decide +kernel
theorem dX7_unlock_103 : decode cX7_unlock 103 = .ok (.iadd, 1) := by decide +kernel
theorem dX7_unlock_104 : decode cX7_unlock 104 = .ok (.iconst 0, 1) := by decide +kernel
theorem dX7_unlock_105 : decode cX7_unlock 105 = .ok (.iastore, 1) := by decide +kernel
theorem dX7_unlock_106 : decode cX7_unlock 106 = .ok (.iinc 7 1, 3) := by decide +kernel
theorem dX7_unlock_109 : decode cX7_unlock 109 = .ok (.goto (-20), 3) := by decide +kernel
theorem dX7_unlock_112 : decode cX7_unlock 112 = .ok (.iload 5, 2) := by decide +kernel
theorem dX7_unlock_114 : decode cX7_unlock 114 = .ok (.ireturn, 1) := by decide +kernel
theorem dX7_game_0 : decode cX7_game 0 = .ok (.aload_n 0, 1) := by decide +kernel
theorem dX7_game_1 : decode cX7_game 1 = .ok (.iload_n 1, 1) := by decide +kernel
theorem dX7_game_2 : decode cX7_game 2 = .ok (.iload_n 2, 1) := by decide +kernel
theorem dX7_game_3 : decode cX7_game 3 = .ok (.invokevirtual 155, 3) := by decide +kernel
theorem dX7_game_6 : decode cX7_game 6 = .ok (.ifCond .eq 12, 3) := by decide +kernel
theorem dX7_game_9 : decode cX7_game 9 = .ok (.aload_n 0, 1) := by decide +kernel
theorem dX7_game_10 : decode cX7_game 10 = .ok (.iload_n 1, 1) := by decide +kernel
theorem dX7_game_11 : decode cX7_game 11 = .ok (.iload_n 3, 1) := by decide +kernel
theorem dX7_game_12 : decode cX7_game 12 = .ok (.invokevirtual 155, 3) := by decide +kernel
theorem dX7_game_15 : decode cX7_game 15 = .ok (.ifCond .ne 5, 3) := by decide +kernel
theorem dX7_game_18 : decode cX7_game 18 = .ok (.iconst (-1), 1) := by decide +kernel
theorem dX7_game_19 : decode cX7_game 19 = .ok (.ireturn, 1) := by decide +kernel
theorem dX7_game_20 : decode cX7_game 20 = .ok (.aload_n 0, 1) := by decide +kernel
theorem dX7_game_21 : decode cX7_game 21 = .ok (.iload_n 1, 1) := by decide +kernel
theorem dX7_game_22 : decode cX7_game 22 = .ok (.invokevirtual 158, 3) := by decide +kernel
theorem dX7_game_25 : decode cX7_game 25 = .ok (.ifCond .eq 6, 3) := by decide +kernel
theorem dX7_game_28 : decode cX7_game 28 = .ok (.bipush (-2), 2) := by decide +kernel
theorem dX7_game_30 : decode cX7_game 30 = .ok (.ireturn, 1) := by decide +kernel
theorem dX7_game_31 : decode cX7_game 31 = .ok (.iload 4, 2) := by decide +kernel
theorem dX7_game_33 : decode cX7_game 33 = .ok (.iconst 1, 1) := by decide +kernel
theorem dX7_game_34 : decode cX7_game 34 = .ok (.sipush 10000, 3) := by decide +kernel
theorem dX7_game_37 : decode cX7_game 37 = .ok (.invokestatic 64, 3) := by decide +kernel
theorem dX7_game_40 : decode cX7_game 40 = .ok (.ifCond .eq 14, 3) := by decide +kernel
theorem dX7_game_43 : decode cX7_game 43 = .ok (.iload 5, 2) := by decide +kernel
theorem dX7_game_45 : decode cX7_game 45 = .ok (.iconst 1, 1) := by decide +kernel
theorem dX7_game_46 : decode cX7_game 46 = .ok (.bipush 20, 2) := by decide +kernel
theorem dX7_game_48 : decode cX7_game 48 = .ok (.invokestatic 64, 3) := by decide +kernel
theorem dX7_game_51 : decode cX7_game 51 = .ok (.ifCond .ne 6, 3) := by decide +kernel
theorem dX7_game_54 : decode cX7_game 54 = .ok (.bipush (-3), 2) := by decide +kernel
theorem dX7_game_56 : decode cX7_game 56 = .ok (.ireturn, 1) := by decide +kernel
theorem dX7_game_57 : decode cX7_game 57 = .ok (.bipush 35, 2) := by decide +kernel
theorem dX7_game_59 : decode cX7_game 59 = .ok (.iload_n 1, 1) := by decide +kernel
theorem dX7_game_60 : decode cX7_game 60 = .ok (.imul, 1) := by decide +kernel
theorem dX7_game_61 : decode cX7_game 61 = .ok (.istore 6, 2) := by decide +kernel
theorem dX7_game_63 : decode cX7_game 63 = .ok (.iload_n 2, 1) := by decide +kernel
theorem dX7_game_64 : decode cX7_game 64 = .ok (.iload_n 3, 1) := by decide +kernel
theorem dX7_game_65 : decode cX7_game 65 = .ok (.if_icmp .eq 38, 3) := by decide +kernel
theorem dX7_game_68 : decode cX7_game 68 = .ok (.aload_n 0, 1) := by decide +kernel
theorem dX7_game_69 : decode cX7_game 69 = .ok (.getfield 52, 3) := by decide +kernel
theorem dX7_game_72 : decode cX7_game 72 = .ok (.iload 6, 2) := by decide +kernel
theorem dX7_game_74 : decode cX7_game 74 = .ok (.bipush 31, 2) := by decide +kernel
theorem dX7_game_76 : decode cX7_game 76 = .ok (.iadd, 1) := by decide +kernel
theorem dX7_game_77 : decode cX7_game 77 = .ok (.iaload, 1) := by decide +kernel
theorem dX7_game_78 : decode cX7_game 78 = .ok (.ifCond .gt 25, 3) := by decide +kernel
theorem dX7_game_81 : decode cX7_game 81 = .ok (.aload_n 0, 1) := by decide +kernel
theorem dX7_game_82 : decode cX7_game 82 = .ok (.iload_n 1, 1) := by decide +kernel
theorem dX7_game_83 : decode cX7_game 83 = .ok (.iload_n 2, 1) := by decide +kernel
theorem dX7_game_84 : decode cX7_game 84 = .ok (.invokevirtual 162, 3) := by decide +kernel
theorem dX7_game_87 : decode cX7_game 87 = .ok (.iload 4, 2) := by decide +kernel
theorem dX7_game_89 : decode cX7_game 89 = .ok (.if_icmp .lt 14, 3) := by decide +kernel
theorem dX7_game_92 : decode cX7_game 92 = .ok (.aload_n 0, 1) := by decide +kernel
theorem dX7_game_93 : decode cX7_game 93 = .ok (.iload_n 1, 1) := by decide +kernel
theorem dX7_game_94 : decode cX7_game 94 = .ok (.iload_n 3, 1) := by decide +kernel
theorem dX7_game_95 : decode cX7_game 95 = .ok (.invokevirtual 162, 3) := by decide +kernel
theorem dX7_game_98 : decode cX7_game 98 = .ok (.iload 4, 2) := by decide +kernel
theorem dX7_game_100 : decode cX7_game 100 = .ok (.if_icmp .ge 6, 3) := by decide +kernel
theorem dX7_game_103 : decode cX7_game 103 = .ok (.bipush (-4), 2) := by decide +kernel
theorem dX7_game_105 : decode cX7_game 105 = .ok (.ireturn, 1) := by decide +kernel
theorem dX7_game_106 : decode cX7_game 106 = .ok (.aload_n 0, 1) := by decide +kernel
theorem dX7_game_107 : decode cX7_game 107 = .ok (.getfield 52, 3) := by decide +kernel
theorem dX7_game_110 : decode cX7_game 110 = .ok (.iload 6, 2) := by decide +kernel
theorem dX7_game_112 : decode cX7_game 112 = .ok (.iconst 4, 1) := by decide +kernel
theorem dX7_game_113 : decode cX7_game 113 = .ok (.iadd, 1) := by decide +kernel
theorem dX7_game_114 : decode cX7_game 114 = .ok (.iload_n 2, 1) := by decide +kernel
theorem dX7_game_115 : decode cX7_game 115 = .ok (.iadd, 1) := by decide +kernel
theorem dX7_game_116 : decode cX7_game 116 = .ok (.dup2, 1) := by decide +kernel
theorem dX7_game_117 : decode cX7_game 117 = .ok (.iaload, 1) := by decide +kernel
theorem dX7_game_118 : decode cX7_game 118 = .ok (.iload 4, 2) := by decide +kernel
theorem dX7_game_120 : decode cX7_game 120 = .ok (.isub, 1) := by decide +kernel
theorem dX7_game_121 : decode cX7_game 121 = .ok (.iastore, 1) := by decide +kernel
theorem dX7_game_122 : decode cX7_game 122 = .ok (.aload_n 0, 1) := by decide +kernel
theorem dX7_game_123 : decode cX7_game 123 = .ok (.getfield 52, 3) := by decide +kernel
theorem dX7_game_126 : decode cX7_game 126 = .ok (.iload 6, 2) := by decide +kernel
theorem dX7_game_128 : decode cX7_game 128 = .ok (.iconst 4, 1) := by decide +kernel
theorem dX7_game_129 : decode cX7_game 129 = .ok (.iadd, 1) := by decide +kernel
theorem dX7_game_130 : decode cX7_game 130 = .ok (.iload_n 3, 1) := by decide +kernel
theorem dX7_game_131 : decode cX7_game 131 = .ok (.iadd, 1) := by decide +kernel
theorem dX7_game_132 : decode cX7_game 132 = .ok (.dup2, 1) := by decide +kernel
theorem dX7_game_133 : decode cX7_game 133 = .ok (.iaload, 1) := by decide +kernel
theorem dX7_game_134 : decode cX7_game 134 = .ok (.iload 4, 2) := by decide +kernel
theorem dX7_game_136 : decode cX7_game 136 = .ok (.isub, 1) := by decide +kernel
theorem dX7_game_137 : decode cX7_game 137 = .ok (.iastore, 1) := by decide +kernel
theorem dX7_game_138 : decode cX7_game 138 = .ok (.aload_n 0, 1) := by decide +kernel
theorem dX7_game_139 : decode cX7_game 139 = .ok (.getfield 52, 3) := by decide +kernel
theorem dX7_game_142 : decode cX7_game 142 = .ok (.iload 6, 2) := by decide +kernel
theorem dX7_game_144 : decode cX7_game 144 = .ok (.bipush 31, 2) := by decide +kernel
theorem dX7_game_146 : decode cX7_game 146 = .ok (.iadd, 1) := by decide +kernel
theorem dX7_game_147 : decode cX7_game 147 = .ok (.iconst 2, 1) := by decide +kernel
theorem dX7_game_148 : decode cX7_game 148 = .ok (.iload 4, 2) := by decide +kernel
theorem dX7_game_150 : decode cX7_game 150 = .ok (.imul, 1) := by decide +kernel
theorem dX7_game_151 : decode cX7_game 151 = .ok (.iastore, 1) := by decide +kernel
theorem dX7_game_152 : decode cX7_game 152 = .ok (.aload_n 0, 1) := by decide +kernel
theorem dX7_game_153 : decode cX7_game 153 = .ok (.getfield 52, 3) := by decide +kernel
theorem dX7_game_156 : decode cX7_game 156 = .ok (.iload 6, 2) := by decide +kernel
theorem dX7_game_158 : decode cX7_game 158 = .ok (.bipush 32, 2) := by decide +kernel
theorem dX7_game_160 : decode cX7_game 160 = .ok (.iadd, 1) := by decide +kernel
theorem dX7_game_161 : decode cX7_game 161 = .ok (.iload 5, 2) := by decide +kernel
theorem dX7_game_163 : decode cX7_game 163 = .ok (.iastore, 1) := by decide +kernel
theorem dX7_game_164 : decode cX7_game 164 = .ok (.aload_n 0, 1) := by decide +kernel
theorem dX7_game_165 : decode cX7_game 165 = .ok (.getfield 52, 3) := by decide +kernel
theorem dX7_game_168 : decode cX7_game 168 = .ok (.iload 6, 2) := by decide +kernel
theorem dX7_game_170 : decode cX7_game 170 = .ok (.bipush 33, 2) := by decide +kernel
theorem dX7_game_172 : decode cX7_game 172 = .ok (.iadd, 1) := by decide +kernel
theorem dX7_game_173 : decode cX7_game 173 = .ok (.iload_n 2, 1) := by decide +kernel
theorem dX7_game_174 : decode cX7_game 174 = .ok (.iastore, 1) := by decide +kernel
theorem dX7_game_175 : decode cX7_game 175 = .ok (.aload_n 0, 1) := by decide +kernel
theorem dX7_game_176 : decode cX7_game 176 = .ok (.getfield 52, 3) := by decide +kernel
theorem dX7_game_179 : decode cX7_game 179 = .ok (.iload 6, 2) := by decide +kernel
theorem dX7_game_181 : decode cX7_game 181 = .ok (.bipush 34, 2) := by decide +kernel
theorem dX7_game_183 : decode cX7_game 183 = .ok (.iadd, 1) := by decide +kernel
theorem dX7_game_184 : decode cX7_game 184 = .ok (.iload_n 3, 1) := by decide +kernel
theorem dX7_game_185 : decode cX7_game 185 = .ok (.iastore, 1) := by decide +kernel
theorem dX7_game_186 : decode cX7_game 186 = .ok (.iconst 2, 1) := by decide +kernel
theorem dX7_game_187 : decode cX7_game 187 = .ok (.iload 4, 2) := by decide +kernel
theorem dX7_game_189 : decode cX7_game 189 = .ok (.imul, 1) := by decide +kernel
theorem dX7_game_190 : decode cX7_game 190 = .ok (.ireturn, 1) := by decide +kernel
theorem dX7_move_0 : decode cX7_move 0 = .ok (.aload_n 0, 1) := by decide +kernel
theorem dX7_move_1 : decode cX7_move 1 = .ok (.iload_n 1, 1) := by decide +kernel
theorem dX7_move_2 : decode cX7_move 2 = .ok (.invokevirtual 83, 3) := by decide +kernel
theorem dX7_move_5 : decode cX7_move 5 = .ok (.ifCond .ne 5, 3) := by decide +kernel
theorem dX7_move_8 : decode cX7_move 8 = .ok (.iconst (-1), 1) := by decide +kernel
theorem dX7_move_9 : decode cX7_move 9 = .ok (.ireturn, 1) := by decide +kernel
theorem dX7_move_10 : decode cX7_move 10 = .ok (.aload_n 0, 1) := by decide +kernel
theorem dX7_move_11 : decode cX7_move 11 = .ok (.iload_n 1, 1) := by decide +kernel
theorem dX7_move_12 : decode cX7_move 12 = .ok (.invokevirtual 158, 3) := by decide +kernel
theorem dX7_move_15 : decode cX7_move 15 = .ok (.ifCond .eq 6, 3) := by decide +kernel
theorem dX7_move_18 : decode cX7_move 18 = .ok (.bipush (-2), 2) := by decide +kernel
theorem dX7_move_20 : decode cX7_move 20 = .ok (.ireturn, 1) := by decide +kernel
theorem dX7_move_21 : decode cX7_move 21 = .ok (.iload_n 2, 1) := by decide +kernel
theorem dX7_move_22 : decode cX7_move 22 = .ok (.iconst 1, 1) := by decide +kernel
theorem dX7_move_23 : decode cX7_move 23 = .ok (.iconst 3, 1) := by decide +kernel
theorem dX7_move_24 : decode cX7_move 24 = .ok (.invokestatic 64, 3) := by decide +kernel
theorem dX7_move_27 : decode cX7_move 27 = .ok (.ifCond .ne 6, 3) := by decide +kernel
theorem dX7_move_30 : decode cX7_move 30 = .ok (.bipush (-3), 2) := by decide +kernel
theorem dX7_move_32 : decode cX7_move 32 = .ok (.ireturn, 1) := by decide +kernel
theorem dX7_move_33 : decode cX7_move 33 = .ok (.bipush 35, 2) := by decide +kernel
theorem dX7_move_35 : decode cX7_move 35 = .ok (.iload_n 1, 1) := by decide +kernel
theorem dX7_move_36 : decode cX7_move 36 = .ok (.imul, 1) := by decide +kernel
theorem dX7_move_37 : decode cX7_move 37 = .ok (.istore_n 3, 1) := by decide +kernel
theorem dX7_move_38 : decode cX7_move 38 = .ok (.aload_n 0, 1) := by decide +kernel
theorem dX7_move_39 : decode cX7_move 39 = .ok (.getfield 52, 3) := by decide +kernel
theorem dX7_move_42 : decode cX7_move 42 = .ok (.iload_n 3, 1) := by decide +kernel
theorem dX7_move_43 : decode cX7_move 43 = .ok (.bipush 31, 2) := by decide +kernel
theorem dX7_move_45 : decode cX7_move 45 = .ok (.iadd, 1) := by decide +kernel
theorem dX7_move_46 : decode cX7_move 46 = .ok (.iaload, 1) := by decide +kernel
theorem dX7_move_47 : decode cX7_move 47 = .ok (.ifCond .eq 16, 3) := by decide +kernel
theorem dX7_move_50 : decode cX7_move 50 = .ok (.aload_n 0, 1) := by decide +kernel
theorem dX7_move_51 : decode cX7_move 51 = .ok (.getfield 52, 3) := by decide +kernel
theorem dX7_move_54 : decode cX7_move 54 = .ok (.iload_n 3, 1) := by decide +kernel
theorem dX7_move_55 : decode cX7_move 55 = .ok (.bipush 32, 2) := by decide +kernel
theorem dX7_move_57 : decode cX7_move 57 = .ok (.iadd, 1) := by decide +kernel
theorem dX7_move_58 : decode cX7_move 58 = .ok (.iaload, 1) := by decide +kernel
theorem dX7_move_59 : decode cX7_move 59 = .ok (.iload_n 2, 1) := by decide +kernel
theorem dX7_move_60 : decode cX7_move 60 = .ok (.if_icmp .ge 6, 3) := by decide +kernel
theorem dX7_move_63 : decode cX7_move 63 = .ok (.bipush (-4), 2) := by decide +kernel
theorem dX7_move_65 : decode cX7_move 65 = .ok (.ireturn, 1) := by decide +kernel
theorem dX7_move_66 : decode cX7_move 66 = .ok (.aload_n 0, 1) := by decide +kernel
theorem dX7_move_67 : decode cX7_move 67 = .ok (.getfield 52, 3) := by decide +kernel
theorem dX7_move_70 : decode cX7_move 70 = .ok (.iload_n 3, 1) := by decide +kernel
theorem dX7_move_71 : decode cX7_move 71 = .ok (.bipush 33, 2) := by decide +kernel
theorem dX7_move_73 : decode cX7_move 73 = .ok (.iadd, 1) := by decide +kernel
theorem dX7_move_74 : decode cX7_move 74 = .ok (.iaload, 1) := by decide +kernel
theorem dX7_move_75 : decode cX7_move 75 = .ok (.istore 4, 2) := by decide +kernel
theorem dX7_move_77 : decode cX7_move 77 = .ok (.aload_n 0, 1) := by decide +kernel
theorem dX7_move_78 : decode cX7_move 78 = .ok (.getfield 52, 3) := by decide +kernel
theorem dX7_move_81 : decode cX7_move 81 = .ok (.iload_n 3, 1) := by decide +kernel
theorem dX7_move_82 : decode cX7_move 82 = .ok (.bipush 32, 2) := by decide +kernel
theorem dX7_move_84 : decode cX7_move 84 = .ok (.iadd, 1) := by decide +kernel
theorem dX7_move_85 : decode cX7_move 85 = .ok (.dup2, 1) := by decide +kernel
theorem dX7_move_86 : decode cX7_move 86 = .ok (.iaload, 1) := by decide +kernel
theorem dX7_move_87 : decode cX7_move 87 = .ok (.iload_n 2, 1) := by decide +kernel
theorem dX7_move_88 : decode cX7_move 88 = .ok (.isub, 1) := by decide +kernel
theorem dX7_move_89 : decode cX7_move 89 = .ok (.iastore, 1) := by decide +kernel
theorem dX7_move_90 : decode cX7_move 90 = .ok (.aload_n 0, 1) := by decide +kernel
theorem dX7_move_91 : decode cX7_move 91 = .ok (.getfield 52, 3) := by decide +kernel
theorem dX7_move_94 : decode cX7_move 94 = .ok (.iload_n 3, 1) := by decide +kernel
theorem dX7_move_95 : decode cX7_move 95 = .ok (.bipush 33, 2) := by decide +kernel
theorem dX7_move_97 : decode cX7_move 97 = .ok (.iadd, 1) := by decide +kernel
theorem dX7_move_98 : decode cX7_move 98 = .ok (.aload_n 0, 1) := by decide +kernel
theorem dX7_move_99 : decode cX7_move 99 = .ok (.getfield 52, 3) := by decide +kernel
theorem dX7_move_102 : decode cX7_move 102 = .ok (.iload_n 3, 1) := by decide +kernel
theorem dX7_move_103 : decode cX7_move 103 = .ok (.bipush 34, 2) := by decide +kernel
theorem dX7_move_105 : decode cX7_move 105 = .ok (.iadd, 1) := by decide +kernel
theorem dX7_move_106 : decode cX7_move 106 = .ok (.iaload, 1) := by decide +kernel
theorem dX7_move_107 : decode cX7_move 107 = .ok (.iastore, 1) := by decide +kernel
theorem dX7_move_108 : decode cX7_move 108 = .ok (.aload_n 0, 1) := by decide +kernel
theorem dX7_move_109 : decode cX7_move 109 = .ok (.getfield 52, 3) := by decide +kernel
theorem dX7_move_112 : decode cX7_move 112 = .ok (.iload_n 3, 1) := by decide +kernel
theorem dX7_move_113 : decode cX7_move 113 = .ok (.bipush 34, 2) := by decide +kernel
theorem dX7_move_115 : decode cX7_move 115 = .ok (.iadd, 1) := by decide +kernel
theorem dX7_move_116 : decode cX7_move 116 = .ok (.iload 4, 2) := by decide +kernel
theorem dX7_move_118 : decode cX7_move 118 = .ok (.iastore, 1) := by decide +kernel
theorem dX7_move_119 : decode cX7_move 119 = .ok (.aload_n 0, 1) := by decide +kernel
theorem dX7_move_120 : decode cX7_move 120 = .ok (.getfield 52, 3) := by decide +kernel
theorem dX7_move_123 : decode cX7_move 123 = .ok (.iload_n 3, 1) := by decide +kernel
theorem dX7_move_124 : decode cX7_move 124 = .ok (.bipush 32, 2) := by decide +kernel
theorem dX7_move_126 : decode cX7_move 126 = .ok (.iadd, 1) := by decide +kernel
theorem dX7_move_127 : decode cX7_move 127 = .ok (.iaload, 1) := by decide +kernel
theorem dX7_move_128 : decode cX7_move 128 = .ok (.ifCond .ne 56, 3) := by decide +kernel
theorem dX7_move_131 : decode cX7_move 131 = .ok (.aload_n 0, 1) := by decide +kernel
theorem dX7_move_132 : decode cX7_move 132 = .ok (.getfield 52, 3) := by decide +kernel
theorem dX7_move_135 : decode cX7_move 135 = .ok (.iload_n 3, 1) := by decide +kernel
theorem dX7_move_136 : decode cX7_move 136 = .ok (.iconst 4, 1) := by decide +kernel
theorem dX7_move_137 : decode cX7_move 137 = .ok (.iadd, 1) := by decide +kernel
theorem dX7_move_138 : decode cX7_move 138 = .ok (.iload 4, 2) := by decide +kernel
theorem dX7_move_140 : decode cX7_move 140 = .ok (.iadd, 1) := by decide +kernel
theorem dX7_move_141 : decode cX7_move 141 = .ok (.dup2, 1) := by decide +kernel
theorem dX7_move_142 : decode cX7_move 142 = .ok (.iaload, 1) := by decide +kernel
theorem dX7_move_143 : decode cX7_move 143 = .ok (.aload_n 0, 1) := by decide +kernel
theorem dX7_move_144 : decode cX7_move 144 = .ok (.getfield 52, 3) := by decide +kernel
theorem dX7_move_147 : decode cX7_move 147 = .ok (.iload_n 3, 1) := by decide +kernel
theorem dX7_move_148 : decode cX7_move 148 = .ok (.bipush 31, 2) := by decide +kernel
theorem dX7_move_150 : decode cX7_move 150 = .ok (.iadd, 1) := by decide +kernel
theorem dX7_move_151 : decode cX7_move 151 = .ok (.iaload, 1) := by decide +kernel
theorem dX7_move_152 : decode cX7_move 152 = .ok (.iadd, 1) := by decide +kernel
theorem dX7_move_153 : decode cX7_move 153 = .ok (.iastore, 1) := by decide +kernel
theorem dX7_move_154 : decode cX7_move 154 = .ok (.aload_n 0, 1) := by decide +kernel
theorem dX7_move_155 : decode cX7_move 155 = .ok (.getfield 52, 3) := by decide +kernel
theorem dX7_move_158 : decode cX7_move 158 = .ok (.iload_n 3, 1) := by decide +kernel
theorem dX7_move_159 : decode cX7_move 159 = .ok (.bipush 31, 2) := by decide +kernel
theorem dX7_move_161 : decode cX7_move 161 = .ok (.iadd, 1) := by decide +kernel
theorem dX7_move_162 : decode cX7_move 162 = .ok (.iconst 0, 1) := by decide +kernel
theorem dX7_move_163 : decode cX7_move 163 = .ok (.iastore, 1) := by decide +kernel
theorem dX7_move_164 : decode cX7_move 164 = .ok (.aload_n 0, 1) := by decide +kernel
theorem dX7_move_165 : decode cX7_move 165 = .ok (.getfield 52, 3) := by decide +kernel
theorem dX7_move_168 : decode cX7_move 168 = .ok (.iload_n 3, 1) := by decide +kernel
theorem dX7_move_169 : decode cX7_move 169 = .ok (.bipush 33, 2) := by decide +kernel
theorem dX7_move_171 : decode cX7_move 171 = .ok (.iadd, 1) := by decide +kernel
theorem dX7_move_172 : decode cX7_move 172 = .ok (.iconst (-1), 1) := by decide +kernel
theorem dX7_move_173 : decode cX7_move 173 = .ok (.iastore, 1) := by decide +kernel
theorem dX7_move_174 : decode cX7_move 174 = .ok (.aload_n 0, 1) := by decide +kernel
theorem dX7_move_175 : decode cX7_move 175 = .ok (.getfield 52, 3) := by decide +kernel
theorem dX7_move_178 : decode cX7_move 178 = .ok (.iload_n 3, 1) := by decide +kernel
theorem dX7_move_179 : decode cX7_move 179 = .ok (.bipush 34, 2) := by decide +kernel
theorem dX7_move_181 : decode cX7_move 181 = .ok (.iadd, 1) := by decide +kernel
theorem dX7_move_182 : decode cX7_move 182 = .ok (.iconst (-1), 1) := by decide +kernel
theorem dX7_move_183 : decode cX7_move 183 = .ok (.iastore, 1) := by decide +kernel
theorem dX7_move_184 : decode cX7_move 184 = .ok (.aload_n 0, 1) := by decide +kernel
theorem dX7_move_185 : decode cX7_move 185 = .ok (.getfield 52, 3) := by decide +kernel
theorem dX7_move_188 : decode cX7_move 188 = .ok (.iload_n 3, 1) := by decide +kernel
theorem dX7_move_189 : decode cX7_move 189 = .ok (.bipush 32, 2) := by decide +kernel
theorem dX7_move_191 : decode cX7_move 191 = .ok (.iadd, 1) := by decide +kernel
theorem dX7_move_192 : decode cX7_move 192 = .ok (.iaload, 1) := by decide +kernel
theorem dX7_move_193 : decode cX7_move 193 = .ok (.ireturn, 1) := by decide +kernel
theorem dX7_out_0 : decode cX7_out 0 = .ok (.aload_n 0, 1) := by decide +kernel
theorem dX7_out_1 : decode cX7_out 1 = .ok (.iload_n 1, 1) := by decide +kernel
theorem dX7_out_2 : decode cX7_out 2 = .ok (.iload_n 2, 1) := by decide +kernel
theorem dX7_out_3 : decode cX7_out 3 = .ok (.invokevirtual 155, 3) := by decide +kernel
theorem dX7_out_6 : decode cX7_out 6 = .ok (.ifCond .ne 5, 3) := by decide +kernel
theorem dX7_out_9 : decode cX7_out 9 = .ok (.iconst (-1), 1) := by decide +kernel
theorem dX7_out_10 : decode cX7_out 10 = .ok (.ireturn, 1) := by decide +kernel
theorem dX7_out_11 : decode cX7_out 11 = .ok (.aload_n 0, 1) := by decide +kernel
theorem dX7_out_12 : decode cX7_out 12 = .ok (.iload_n 1, 1) := by decide +kernel
theorem dX7_out_13 : decode cX7_out 13 = .ok (.invokevirtual 158, 3) := by decide +kernel
theorem dX7_out_16 : decode cX7_out 16 = .ok (.ifCond .eq 6, 3) := by decide +kernel
theorem dX7_out_19 : decode cX7_out 19 = .ok (.bipush (-2), 2) := by decide +kernel
theorem dX7_out_21 : decode cX7_out 21 = .ok (.ireturn, 1) := by decide +kernel
theorem dX7_out_22 : decode cX7_out 22 = .ok (.iload_n 3, 1) := by decide +kernel
theorem dX7_out_23 : decode cX7_out 23 = .ok (.iconst 0, 1) := by decide +kernel
theorem dX7_out_24 : decode cX7_out 24 = .ok (.ldc 161, 2) := by decide +kernel
theorem dX7_out_26 : decode cX7_out 26 = .ok (.invokestatic 64, 3) := by decide +kernel
theorem dX7_out_29 : decode cX7_out 29 = .ok (.ifCond .ne 6, 3) := by decide +kernel
theorem dX7_out_32 : decode cX7_out 32 = .ok (.bipush (-3), 2) := by decide +kernel
theorem dX7_out_34 : decode cX7_out 34 = .ok (.ireturn, 1) := by decide +kernel
theorem dX7_out_35 : decode cX7_out 35 = .ok (.aload_n 0, 1) := by decide +kernel
theorem dX7_out_36 : decode cX7_out 36 = .ok (.getfield 52, 3) := by decide +kernel
theorem dX7_out_39 : decode cX7_out 39 = .ok (.bipush 35, 2) := by decide +kernel
theorem dX7_out_41 : decode cX7_out 41 = .ok (.iload_n 1, 1) := by decide +kernel
theorem dX7_out_42 : decode cX7_out 42 = .ok (.imul, 1) := by decide +kernel
theorem dX7_out_43 : decode cX7_out 43 = .ok (.iconst 4, 1) := by decide +kernel
theorem dX7_out_44 : decode cX7_out 44 = .ok (.iadd, 1) := by decide +kernel
theorem dX7_out_45 : decode cX7_out 45 = .ok (.iload_n 2, 1) := by decide +kernel
theorem dX7_out_46 : decode cX7_out 46 = .ok (.iadd, 1) := by decide +kernel
theorem dX7_out_47 : decode cX7_out 47 = .ok (.iaload, 1) := by decide +kernel
theorem dX7_out_48 : decode cX7_out 48 = .ok (.iload_n 3, 1) := by decide +kernel
theorem dX7_out_49 : decode cX7_out 49 = .ok (.if_icmp .ge 6, 3) := by decide +kernel
theorem dX7_out_52 : decode cX7_out 52 = .ok (.bipush (-4), 2) := by decide +kernel
theorem dX7_out_54 : decode cX7_out 54 = .ok (.ireturn, 1) := by decide +kernel
theorem dX7_out_55 : decode cX7_out 55 = .ok (.aload_n 0, 1) := by decide +kernel
theorem dX7_out_56 : decode cX7_out 56 = .ok (.getfield 52, 3) := by decide +kernel
theorem dX7_out_59 : decode cX7_out 59 = .ok (.bipush 35, 2) := by decide +kernel
theorem dX7_out_61 : decode cX7_out 61 = .ok (.iload_n 1, 1) := by decide +kernel
theorem dX7_out_62 : decode cX7_out 62 = .ok (.imul, 1) := by decide +kernel
theorem dX7_out_63 : decode cX7_out 63 = .ok (.bipush 10, 2) := by decide +kernel
theorem dX7_out_65 : decode cX7_out 65 = .ok (.iadd, 1) := by decide +kernel
theorem dX7_out_66 : decode cX7_out 66 = .ok (.iload_n 2, 1) := by decide +kernel
theorem dX7_out_67 : decode cX7_out 67 = .ok (.iadd, 1) := by decide +kernel
theorem dX7_out_68 : decode cX7_out 68 = .ok (.iaload, 1) := by decide +kernel
theorem dX7_out_69 : decode cX7_out 69 = .ok (.istore 4, 2) := by decide +kernel
theorem dX7_out_71 : decode cX7_out 71 = .ok (.aload_n 0, 1) := by decide +kernel
theorem dX7_out_72 : decode cX7_out 72 = .ok (.getfield 52, 3) := by decide +kernel
theorem dX7_out_75 : decode cX7_out 75 = .ok (.bipush 35, 2) := by decide +kernel
theorem dX7_out_77 : decode cX7_out 77 = .ok (.iload_n 1, 1) := by decide +kernel
theorem dX7_out_78 : decode cX7_out 78 = .ok (.imul, 1) := by decide +kernel
theorem dX7_out_79 : decode cX7_out 79 = .ok (.bipush 10, 2) := by decide +kernel
theorem dX7_out_81 : decode cX7_out 81 = .ok (.iadd, 1) := by decide +kernel
theorem dX7_out_82 : decode cX7_out 82 = .ok (.iload_n 2, 1) := by decide +kernel
theorem dX7_out_83 : decode cX7_out 83 = .ok (.iadd, 1) := by decide +kernel
theorem dX7_out_84 : decode cX7_out 84 = .ok (.iload_n 3, 1) := by decide +kernel
theorem dX7_out_85 : decode cX7_out 85 = .ok (.iastore, 1) := by decide +kernel
theorem dX7_out_86 : decode cX7_out 86 = .ok (.iload 4, 2) := by decide +kernel
theorem dX7_out_88 : decode cX7_out 88 = .ok (.ireturn, 1) := by decide +kernel
theorem dX7_sign_0 : decode cX7_sign 0 = .ok (.aload_n 0, 1) := by decide +kernel
theorem dX7_sign_1 : decode cX7_sign 1 = .ok (.iload_n 1, 1) := by decide +kernel
theorem dX7_sign_2 : decode cX7_sign 2 = .ok (.iload_n 2, 1) := by decide +kernel
theorem dX7_sign_3 : decode cX7_sign 3 = .ok (.invokevirtual 155, 3) := by decide +kernel
theorem dX7_sign_6 : decode cX7_sign 6 = .ok (.ifCond .ne 5, 3) := by decide +kernel
theorem dX7_sign_9 : decode cX7_sign 9 = .ok (.iconst (-1), 1) := by decide +kernel
theorem dX7_sign_10 : decode cX7_sign 10 = .ok (.ireturn, 1) := by decide +kernel
theorem dX7_sign_11 : decode cX7_sign 11 = .ok (.aload_n 0, 1) := by decide +kernel
theorem dX7_sign_12 : decode cX7_sign 12 = .ok (.getfield 25, 3) := by decide +kernel
theorem dX7_sign_15 : decode cX7_sign 15 = .ok (.aload_n 0, 1) := by decide +kernel
theorem dX7_sign_16 : decode cX7_sign 16 = .ok (.iload_n 1, 1) := by decide +kernel
theorem dX7_sign_17 : decode cX7_sign 17 = .ok (.invokevirtual 86, 3) := by decide +kernel
theorem dX7_sign_20 : decode cX7_sign 20 = .ok (.iaload, 1) := by decide +kernel
theorem dX7_sign_21 : decode cX7_sign 21 = .ok (.iconst 3, 1) := by decide +kernel
theorem dX7_sign_22 : decode cX7_sign 22 = .ok (.if_icmp .ne 6, 3) := by decide +kernel
theorem dX7_sign_25 : decode cX7_sign 25 = .ok (.bipush (-2), 2) := by decide +kernel
theorem dX7_sign_27 : decode cX7_sign 27 = .ok (.ireturn, 1) := by decide +kernel
theorem dX7_sign_28 : decode cX7_sign 28 = .ok (.bipush 35, 2) := by decide +kernel
theorem dX7_sign_30 : decode cX7_sign 30 = .ok (.iload_n 1, 1) := by decide +kernel
theorem dX7_sign_31 : decode cX7_sign 31 = .ok (.imul, 1) := by decide +kernel
theorem dX7_sign_32 : decode cX7_sign 32 = .ok (.iconst 2, 1) := by decide +kernel
theorem dX7_sign_33 : decode cX7_sign 33 = .ok (.iadd, 1) := by decide +kernel
theorem dX7_sign_34 : decode cX7_sign 34 = .ok (.istore_n 3, 1) := by decide +kernel
theorem dX7_sign_35 : decode cX7_sign 35 = .ok (.aload_n 0, 1) := by decide +kernel
theorem dX7_sign_36 : decode cX7_sign 36 = .ok (.getfield 52, 3) := by decide +kernel
theorem dX7_sign_39 : decode cX7_sign 39 = .ok (.iload_n 3, 1) := by decide +kernel
theorem dX7_sign_40 : decode cX7_sign 40 = .ok (.iaload, 1) := by decide +kernel
theorem dX7_sign_41 : decode cX7_sign 41 = .ok (.iload_n 2, 1) := by decide +kernel
theorem dX7_sign_42 : decode cX7_sign 42 = .ok (.invokestatic 79, 3) := by decide +kernel
theorem dX7_sign_45 : decode cX7_sign 45 = .ok (.ifCond .eq 6, 3) := by decide +kernel
theorem dX7_sign_48 : decode cX7_sign 48 = .ok (.bipush (-4), 2) := by decide +kernel
theorem dX7_sign_50 : decode cX7_sign 50 = .ok (.ireturn, 1) := by decide +kernel
theorem dX7_sign_51 : decode cX7_sign 51 = .ok (.aload_n 0, 1) := by decide +kernel
theorem dX7_sign_52 : decode cX7_sign 52 = .ok (.getfield 52, 3) := by decide +kernel
theorem dX7_sign_55 : decode cX7_sign 55 = .ok (.iload_n 3, 1) := by decide +kernel
theorem dX7_sign_56 : decode cX7_sign 56 = .ok (.dup2, 1) := by decide +kernel
theorem dX7_sign_57 : decode cX7_sign 57 = .ok (.iaload, 1) := by decide +kernel
theorem dX7_sign_58 : decode cX7_sign 58 = .ok (.iconst 1, 1) := by decide +kernel
theorem dX7_sign_59 : decode cX7_sign 59 = .ok (.iload_n 2, 1) := by decide +kernel
theorem dX7_sign_60 : decode cX7_sign 60 = .ok (.ishl, 1) := by decide +kernel
theorem dX7_sign_61 : decode cX7_sign 61 = .ok (.iadd, 1) := by decide +kernel
theorem dX7_sign_62 : decode cX7_sign 62 = .ok (.iastore, 1) := by decide +kernel
theorem dX7_sign_63 : decode cX7_sign 63 = .ok (.aload_n 0, 1) := by decide +kernel
theorem dX7_sign_64 : decode cX7_sign 64 = .ok (.getfield 52, 3) := by decide +kernel
theorem dX7_sign_67 : decode cX7_sign 67 = .ok (.iload_n 3, 1) := by decide +kernel
theorem dX7_sign_68 : decode cX7_sign 68 = .ok (.iaload, 1) := by decide +kernel
theorem dX7_sign_69 : decode cX7_sign 69 = .ok (.invokestatic 143, 3) := by decide +kernel
theorem dX7_sign_72 : decode cX7_sign 72 = .ok (.ireturn, 1) := by decide +kernel
theorem dX7_show_0 : decode cX7_show 0 = .ok (.aload_n 0, 1) := by decide +kernel
theorem dX7_show_1 : decode cX7_show 1 = .ok (.iload_n 1, 1) := by decide +kernel
theorem dX7_show_2 : decode cX7_show 2 = .ok (.iload_n 2, 1) := by decide +kernel
theorem dX7_show_3 : decode cX7_show 3 = .ok (.invokevirtual 155, 3) := by decide +kernel
theorem dX7_show_6 : decode cX7_show 6 = .ok (.ifCond .ne 5, 3) := by decide +kernel
theorem dX7_show_9 : decode cX7_show 9 = .ok (.iconst (-1), 1) := by decide +kernel
theorem dX7_show_10 : decode cX7_show 10 = .ok (.ireturn, 1) := by decide +kernel
theorem dX7_show_11 : decode cX7_show 11 = .ok (.aload_n 0, 1) := by decide +kernel
theorem dX7_show_12 : decode cX7_show 12 = .ok (.iload_n 1, 1) := by decide +kernel
theorem dX7_show_13 : decode cX7_show 13 = .ok (.invokevirtual 86, 3) := by decide +kernel
theorem dX7_show_16 : decode cX7_show 16 = .ok (.istore_n 3, 1) := by decide +kernel
theorem dX7_show_17 : decode cX7_show 17 = .ok (.aload_n 0, 1) := by decide +kernel
theorem dX7_show_18 : decode cX7_show 18 = .ok (.getfield 25, 3) := by decide +kernel
theorem dX7_show_21 : decode cX7_show 21 = .ok (.iload_n 3, 1) := by decide +kernel
theorem dX7_show_22 : decode cX7_show 22 = .ok (.iaload, 1) := by decide +kernel
theorem dX7_show_23 : decode cX7_show 23 = .ok (.iconst 3, 1) := by decide +kernel
theorem dX7_show_24 : decode cX7_show 24 = .ok (.if_icmp .ne 6, 3) := by decide +kernel
theorem dX7_show_27 : decode cX7_show 27 = .ok (.bipush (-2), 2) := by decide +kernel
theorem dX7_show_29 : decode cX7_show 29 = .ok (.ireturn, 1) := by decide +kernel
theorem dX7_show_30 : decode cX7_show 30 = .ok (.aload_n 0, 1) := by decide +kernel
theorem dX7_show_31 : decode cX7_show 31 = .ok (.iload_n 1, 1) := by decide +kernel
theorem dX7_show_32 : decode cX7_show 32 = .ok (.invokevirtual 100, 3) := by decide +kernel
theorem dX7_show_35 : decode cX7_show 35 = .ok (.ifCond .eq 43, 3) := by decide +kernel
theorem dX7_show_38 : decode cX7_show 38 = .ok (.aload_n 0, 1) := by decide +kernel
theorem dX7_show_39 : decode cX7_show 39 = .ok (.getfield 25, 3) := by decide +kernel
theorem dX7_show_42 : decode cX7_show 42 = .ok (.iload_n 3, 1) := by decide +kernel
theorem dX7_show_43 : decode cX7_show 43 = .ok (.iaload, 1) := by decide +kernel
theorem dX7_show_44 : decode cX7_show 44 = .ok (.iconst 2, 1) := by decide +kernel
theorem dX7_show_45 : decode cX7_show 45 = .ok (.if_icmp .ne 36, 3) := by decide +kernel
theorem dX7_show_48 : decode cX7_show 48 = .ok (.aload_n 0, 1) := by decide +kernel
theorem dX7_show_49 : decode cX7_show 49 = .ok (.getfield 52, 3) := by decide +kernel
theorem dX7_show_52 : decode cX7_show 52 = .ok (.bipush 35, 2) := by decide +kernel
theorem dX7_show_54 : decode cX7_show 54 = .ok (.aload_n 0, 1) := by decide +kernel
theorem dX7_show_55 : decode cX7_show 55 = .ok (.getfield 28, 3) := by decide +kernel
theorem dX7_show_58 : decode cX7_show 58 = .ok (.iload_n 3, 1) := by decide +kernel
theorem dX7_show_59 : decode cX7_show 59 = .ok (.iaload, 1) := by decide +kernel
theorem dX7_show_60 : decode cX7_show 60 = .ok (.imul, 1) := by decide +kernel
theorem dX7_show_61 : decode cX7_show 61 = .ok (.iconst 1, 1) := by decide +kernel
theorem dX7_show_62 : decode cX7_show 62 = .ok (.iadd, 1) := by decide +kernel
theorem dX7_show_63 : decode cX7_show 63 = .ok (.iaload, 1) := by decide +kernel
theorem dX7_show_64 : decode cX7_show 64 = .ok (.aload_n 0, 1) := by decide +kernel
theorem dX7_show_65 : decode cX7_show 65 = .ok (.getfield 52, 3) := by decide +kernel
theorem dX7_show_68 : decode cX7_show 68 = .ok (.bipush 35, 2) := by decide +kernel
theorem dX7_show_70 : decode cX7_show 70 = .ok (.iload_n 1, 1) := by decide +kernel
theorem dX7_show_71 : decode cX7_show 71 = .ok (.imul, 1) := by decide +kernel
theorem dX7_show_72 : decode cX7_show 72 = .ok (.iconst 1, 1) := by decide +kernel
theorem dX7_show_73 : decode cX7_show 73 = .ok (.iadd, 1) := by decide +kernel
theorem dX7_show_74 : decode cX7_show 74 = .ok (.iaload, 1) := by decide +kernel
theorem dX7_show_75 : decode cX7_show 75 = .ok (.if_icmp .lt 6, 3) := by decide +kernel
theorem dX7_show_78 : decode cX7_show 78 = .ok (.bipush (-4), 2) := by decide +kernel
theorem dX7_show_80 : decode cX7_show 80 = .ok (.ireturn, 1) := by decide +kernel
theorem dX7_show_81 : decode cX7_show 81 = .ok (.aload_n 0, 1) := by decide +kernel
theorem dX7_show_82 : decode cX7_show 82 = .ok (.iload_n 1, 1) := by decide +kernel
theorem dX7_show_83 : decode cX7_show 83 = .ok (.invokevirtual 120, 3) := by decide +kernel
theorem dX7_show_86 : decode cX7_show 86 = .ok (.aload_n 0, 1) := by decide +kernel
theorem dX7_show_87 : decode cX7_show 87 = .ok (.getfield 31, 3) := by decide +kernel
theorem dX7_show_90 : decode cX7_show 90 = .ok (.iload_n 3, 1) := by decide +kernel
theorem dX7_show_91 : decode cX7_show 91 = .ok (.iaload, 1) := by decide +kernel
theorem dX7_show_92 : decode cX7_show 92 = .ok (.ireturn, 1) := by decide +kernel
theorem dX7_agree_0 : decode cX7_agree 0 = .ok (.aload_n 0, 1) := by decide +kernel
theorem dX7_agree_1 : decode cX7_agree 1 = .ok (.iload_n 1, 1) := by decide +kernel
theorem dX7_agree_2 : decode cX7_agree 2 = .ok (.iload_n 2, 1) := by decide +kernel
theorem dX7_agree_3 : decode cX7_agree 3 = .ok (.invokevirtual 155, 3) := by decide +kernel
theorem dX7_agree_6 : decode cX7_agree 6 = .ok (.ifCond .ne 5, 3) := by decide +kernel
theorem dX7_agree_9 : decode cX7_agree 9 = .ok (.iconst (-1), 1) := by decide +kernel
theorem dX7_agree_10 : decode cX7_agree 10 = .ok (.ireturn, 1) := by decide +kernel
theorem dX7_agree_11 : decode cX7_agree 11 = .ok (.aload_n 0, 1) := by decide +kernel
theorem dX7_agree_12 : decode cX7_agree 12 = .ok (.iload_n 1, 1) := by decide +kernel
theorem dX7_agree_13 : decode cX7_agree 13 = .ok (.invokevirtual 86, 3) := by decide +kernel
theorem dX7_agree_16 : decode cX7_agree 16 = .ok (.istore_n 3, 1) := by decide +kernel
theorem dX7_agree_17 : decode cX7_agree 17 = .ok (.aload_n 0, 1) := by decide +kernel
theorem dX7_agree_18 : decode cX7_agree 18 = .ok (.getfield 25, 3) := by decide +kernel
theorem dX7_agree_21 : decode cX7_agree 21 = .ok (.iload_n 3, 1) := by decide +kernel
theorem dX7_agree_22 : decode cX7_agree 22 = .ok (.iaload, 1) := by decide +kernel
theorem dX7_agree_23 : decode cX7_agree 23 = .ok (.iconst 1, 1) := by decide +kernel
theorem dX7_agree_24 : decode cX7_agree 24 = .ok (.if_icmp .eq 6, 3) := by decide +kernel
theorem dX7_agree_27 : decode cX7_agree 27 = .ok (.bipush (-2), 2) := by decide +kernel
theorem dX7_agree_29 : decode cX7_agree 29 = .ok (.ireturn, 1) := by decide +kernel
theorem dX7_agree_30 : decode cX7_agree 30 = .ok (.bipush 35, 2) := by decide +kernel
theorem dX7_agree_32 : decode cX7_agree 32 = .ok (.iload_n 1, 1) := by decide +kernel
theorem dX7_agree_33 : decode cX7_agree 33 = .ok (.imul, 1) := by decide +kernel
theorem dX7_agree_34 : decode cX7_agree 34 = .ok (.istore 4, 2) := by decide +kernel
theorem dX7_agree_36 : decode cX7_agree 36 = .ok (.aload_n 0, 1) := by decide +kernel
theorem dX7_agree_37 : decode cX7_agree 37 = .ok (.iload_n 3, 1) := by decide +kernel
theorem dX7_agree_38 : decode cX7_agree 38 = .ok (.invokevirtual 117, 3) := by decide +kernel
theorem dX7_agree_41 : decode cX7_agree 41 = .ok (.iload_n 1, 1) := by decide +kernel
theorem dX7_agree_42 : decode cX7_agree 42 = .ok (.if_icmp .ne 19, 3) := by decide +kernel
theorem dX7_agree_45 : decode cX7_agree 45 = .ok (.aload_n 0, 1) := by decide +kernel
theorem dX7_agree_46 : decode cX7_agree 46 = .ok (.getfield 52, 3) := by decide +kernel
theorem dX7_agree_49 : decode cX7_agree 49 = .ok (.iload 4, 2) := by decide +kernel
theorem dX7_agree_51 : decode cX7_agree 51 = .ok (.iconst 3, 1) := by decide +kernel
theorem dX7_agree_52 : decode cX7_agree 52 = .ok (.iadd, 1) := by decide +kernel
theorem dX7_agree_53 : decode cX7_agree 53 = .ok (.iaload, 1) := by decide +kernel
theorem dX7_agree_54 : decode cX7_agree 54 = .ok (.iload_n 2, 1) := by decide +kernel
theorem dX7_agree_55 : decode cX7_agree 55 = .ok (.invokestatic 79, 3) := by decide +kernel
theorem dX7_agree_58 : decode cX7_agree 58 = .ok (.ifCond .eq 6, 3) := by decide +kernel
theorem dX7_agree_61 : decode cX7_agree 61 = .ok (.bipush (-4), 2) := by decide +kernel
theorem dX7_agree_63 : decode cX7_agree 63 = .ok (.ireturn, 1) := by decide +kernel
theorem dX7_agree_64 : decode cX7_agree 64 = .ok (.aload_n 0, 1) := by decide +kernel
theorem dX7_agree_65 : decode cX7_agree 65 = .ok (.getfield 52, 3) := by decide +kernel
theorem dX7_agree_68 : decode cX7_agree 68 = .ok (.iload 4, 2) := by decide +kernel
theorem dX7_agree_70 : decode cX7_agree 70 = .ok (.iconst 3, 1) := by decide +kernel
theorem dX7_agree_71 : decode cX7_agree 71 = .ok (.iadd, 1) := by decide +kernel
theorem dX7_agree_72 : decode cX7_agree 72 = .ok (.dup2, 1) := by decide +kernel
theorem dX7_agree_73 : decode cX7_agree 73 = .ok (.iaload, 1) := by decide +kernel
theorem dX7_agree_74 : decode cX7_agree 74 = .ok (.iconst 1, 1) := by decide +kernel
theorem dX7_agree_75 : decode cX7_agree 75 = .ok (.iload_n 2, 1) := by decide +kernel
theorem dX7_agree_76 : decode cX7_agree 76 = .ok (.ishl, 1) := by decide +kernel
theorem dX7_agree_77 : decode cX7_agree 77 = .ok (.iadd, 1) := by decide +kernel
theorem dX7_agree_78 : decode cX7_agree 78 = .ok (.iastore, 1) := by decide +kernel
theorem dX7_agree_79 : decode cX7_agree 79 = .ok (.aload_n 0, 1) := by decide +kernel
theorem dX7_agree_80 : decode cX7_agree 80 = .ok (.getfield 52, 3) := by decide +kernel
theorem dX7_agree_83 : decode cX7_agree 83 = .ok (.iload 4, 2) := by decide +kernel
theorem dX7_agree_85 : decode cX7_agree 85 = .ok (.iconst 3, 1) := by decide +kernel
theorem dX7_agree_86 : decode cX7_agree 86 = .ok (.iadd, 1) := by decide +kernel
theorem dX7_agree_87 : decode cX7_agree 87 = .ok (.iaload, 1) := by decide +kernel
theorem dX7_agree_88 : decode cX7_agree 88 = .ok (.invokestatic 143, 3) := by decide +kernel
theorem dX7_agree_91 : decode cX7_agree 91 = .ok (.istore 5, 2) := by decide +kernel
theorem dX7_agree_93 : decode cX7_agree 93 = .ok (.aload_n 0, 1) := by decide +kernel
theorem dX7_agree_94 : decode cX7_agree 94 = .ok (.getfield 52, 3) := by decide +kernel
theorem dX7_agree_97 : decode cX7_agree 97 = .ok (.iload 4, 2) := by decide +kernel
theorem dX7_agree_99 : decode cX7_agree 99 = .ok (.iconst 3, 1) := by decide +kernel
theorem dX7_agree_100 : decode cX7_agree 100 = .ok (.iadd, 1) := by decide +kernel
theorem dX7_agree_101 : decode cX7_agree 101 = .ok (.iaload, 1) := by decide +kernel
theorem dX7_agree_102 : decode cX7_agree 102 = .ok (.aload_n 0, 1) := by decide +kernel
theorem dX7_agree_103 : decode cX7_agree 103 = .ok (.getfield 16, 3) := by decide +kernel
theorem dX7_agree_106 : decode cX7_agree 106 = .ok (.iload_n 3, 1) := by decide +kernel
theorem dX7_agree_107 : decode cX7_agree 107 = .ok (.iaload, 1) := by decide +kernel
theorem dX7_agree_108 : decode cX7_agree 108 = .ok (.if_icmp .ne 9, 3) := by decide +kernel
theorem dX7_agree_111 : decode cX7_agree 111 = .ok (.aload_n 0, 1) := by decide +kernel
theorem dX7_agree_112 : decode cX7_agree 112 = .ok (.iload_n 3, 1) := by decide +kernel
theorem dX7_agree_113 : decode cX7_agree 113 = .ok (.iload_n 1, 1) := by decide +kernel
theorem dX7_agree_114 : decode cX7_agree 114 = .ok (.invokevirtual 179, 3) := by decide +kernel
theorem dX7_agree_117 : decode cX7_agree 117 = .ok (.iload 5, 2) := by decide +kernel
theorem dX7_agree_119 : decode cX7_agree 119 = .ok (.ireturn, 1) := by decide +kernel
theorem dX7_takesOut_0 : decode cX7_takesOut 0 = .ok (.iconst 0, 1) := by decide +kernel
theorem dX7_takesOut_1 : decode cX7_takesOut 1 = .ok (.istore_n 3, 1) := by decide +kernel
theorem dX7_takesOut_2 : decode cX7_takesOut 2 = .ok (.iconst 0, 1) := by decide +kernel
theorem dX7_takesOut_3 : decode cX7_takesOut 3 = .ok (.istore 4, 2) := by decide +kernel
theorem dX7_takesOut_5 : decode cX7_takesOut 5 = .ok (.iload 4, 2) := by decide +kernel
theorem dX7_takesOut_7 : decode cX7_takesOut 7 = .ok (.bipush 6, 2) := by decide +kernel
theorem dX7_takesOut_9 : decode cX7_takesOut 9 = .ok (.if_icmp .ge 27, 3) := by decide +kernel
theorem dX7_takesOut_12 : decode cX7_takesOut 12 = .ok (.iload_n 3, 1) := by decide +kernel
theorem dX7_takesOut_13 : decode cX7_takesOut 13 = .ok (.aload_n 0, 1) := by decide +kernel
theorem dX7_takesOut_14 : decode cX7_takesOut 14 = .ok (.getfield 52, 3) := by decide +kernel
theorem dX7_takesOut_17 : decode cX7_takesOut 17 = .ok (.bipush 35, 2) := by decide +kernel
theorem dX7_takesOut_19 : decode cX7_takesOut 19 = .ok (.iload_n 2, 1) := by decide +kernel
theorem dX7_takesOut_20 : decode cX7_takesOut 20 = .ok (.imul, 1) := by decide +kernel
theorem dX7_takesOut_21 : decode cX7_takesOut 21 = .ok (.bipush 10, 2) := by decide +kernel
theorem dX7_takesOut_23 : decode cX7_takesOut 23 = .ok (.iadd, 1) := by decide +kernel
theorem dX7_takesOut_24 : decode cX7_takesOut 24 = .ok (.iload 4, 2) := by decide +kernel
theorem dX7_takesOut_26 : decode cX7_takesOut 26 = .ok (.iadd, 1) := by decide +kernel
theorem dX7_takesOut_27 : decode cX7_takesOut 27 = .ok (.iaload, 1) := by decide +kernel
theorem dX7_takesOut_28 : decode cX7_takesOut 28 = .ok (.iadd, 1) := by decide +kernel
theorem dX7_takesOut_29 : decode cX7_takesOut 29 = .ok (.istore_n 3, 1) := by decide +kernel
theorem dX7_takesOut_30 : decode cX7_takesOut 30 = .ok (.iinc 4 1, 3) := by decide +kernel
theorem dX7_takesOut_33 : decode cX7_takesOut 33 = .ok (.goto (-28), 3) := by decide +kernel
theorem dX7_takesOut_36 : decode cX7_takesOut 36 = .ok (.iload_n 3, 1) := by decide +kernel
theorem dX7_takesOut_37 : decode cX7_takesOut 37 = .ok (.ifCond .ne 10, 3) := by decide +kernel
theorem dX7_takesOut_40 : decode cX7_takesOut 40 = .ok (.aload_n 0, 1) := by decide +kernel
theorem dX7_takesOut_41 : decode cX7_takesOut 41 = .ok (.iload_n 1, 1) := by decide +kernel
theorem dX7_takesOut_42 : decode cX7_takesOut 42 = .ok (.iload_n 2, 1) := by decide +kernel
theorem dX7_takesOut_43 : decode cX7_takesOut 43 = .ok (.invokevirtual 114, 3) := by decide +kernel
theorem dX7_takesOut_46 : decode cX7_takesOut 46 = .ok (.return_, 1) := by decide +kernel
theorem dX7_takesOut_47 : decode cX7_takesOut 47 = .ok (.iconst 0, 1) := by decide +kernel
theorem dX7_takesOut_48 : decode cX7_takesOut 48 = .ok (.istore 4, 2) := by decide +kernel
theorem dX7_takesOut_50 : decode cX7_takesOut 50 = .ok (.iload 4, 2) := by decide +kernel
theorem dX7_takesOut_52 : decode cX7_takesOut 52 = .ok (.bipush 6, 2) := by decide +kernel
theorem dX7_takesOut_54 : decode cX7_takesOut 54 = .ok (.if_icmp .ge 73, 3) := by decide +kernel
theorem dX7_takesOut_57 : decode cX7_takesOut 57 = .ok (.aload_n 0, 1) := by decide +kernel
theorem dX7_takesOut_58 : decode cX7_takesOut 58 = .ok (.getfield 52, 3) := by decide +kernel
theorem dX7_takesOut_61 : decode cX7_takesOut 61 = .ok (.bipush 35, 2) := by decide +kernel
theorem dX7_takesOut_63 : decode cX7_takesOut 63 = .ok (.iload_n 2, 1) := by decide +kernel
theorem dX7_takesOut_64 : decode cX7_takesOut 64 = .ok (.imul, 1) := by decide +kernel
theorem dX7_takesOut_65 : decode cX7_takesOut 65 = .ok (.bipush 10, 2) := by decide +kernel
theorem dX7_takesOut_67 : decode cX7_takesOut 67 = .ok (.iadd, 1) := by decide +kernel
theorem dX7_takesOut_68 : decode cX7_takesOut 68 = .ok (.iload 4, 2) := by decide +kernel
theorem dX7_takesOut_70 : decode cX7_takesOut 70 = .ok (.iadd, 1) := by decide +kernel
theorem dX7_takesOut_71 : decode cX7_takesOut 71 = .ok (.iaload, 1) := by decide +kernel
theorem dX7_takesOut_72 : decode cX7_takesOut 72 = .ok (.istore 5, 2) := by decide +kernel
theorem dX7_takesOut_74 : decode cX7_takesOut 74 = .ok (.aload_n 0, 1) := by decide +kernel
theorem dX7_takesOut_75 : decode cX7_takesOut 75 = .ok (.getfield 7, 3) := by decide +kernel
theorem dX7_takesOut_78 : decode cX7_takesOut 78 = .ok (.iload 4, 2) := by decide +kernel
theorem dX7_takesOut_80 : decode cX7_takesOut 80 = .ok (.dup2, 1) := by decide +kernel
theorem dX7_takesOut_81 : decode cX7_takesOut 81 = .ok (.iaload, 1) := by decide +kernel
theorem dX7_takesOut_82 : decode cX7_takesOut 82 = .ok (.iload 5, 2) := by decide +kernel
theorem dX7_takesOut_84 : decode cX7_takesOut 84 = .ok (.iadd, 1) := by decide +kernel
theorem dX7_takesOut_85 : decode cX7_takesOut 85 = .ok (.iastore, 1) := by decide +kernel
theorem dX7_takesOut_86 : decode cX7_takesOut 86 = .ok (.aload_n 0, 1) := by decide +kernel
theorem dX7_takesOut_87 : decode cX7_takesOut 87 = .ok (.getfield 52, 3) := by decide +kernel
theorem dX7_takesOut_90 : decode cX7_takesOut 90 = .ok (.bipush 35, 2) := by decide +kernel
theorem dX7_takesOut_92 : decode cX7_takesOut 92 = .ok (.iload_n 2, 1) := by decide +kernel
theorem dX7_takesOut_93 : decode cX7_takesOut 93 = .ok (.imul, 1) := by decide +kernel
theorem dX7_takesOut_94 : decode cX7_takesOut 94 = .ok (.iconst 4, 1) := by decide +kernel
theorem dX7_takesOut_95 : decode cX7_takesOut 95 = .ok (.iadd, 1) := by decide +kernel
theorem dX7_takesOut_96 : decode cX7_takesOut 96 = .ok (.iload 4, 2) := by decide +kernel
theorem dX7_takesOut_98 : decode cX7_takesOut 98 = .ok (.iadd, 1) := by decide +kernel
theorem dX7_takesOut_99 : decode cX7_takesOut 99 = .ok (.dup2, 1) := by decide +kernel
theorem dX7_takesOut_100 : decode cX7_takesOut 100 = .ok (.iaload, 1) := by decide +kernel
theorem dX7_takesOut_101 : decode cX7_takesOut 101 = .ok (.iload 5, 2) := by decide +kernel
theorem dX7_takesOut_103 : decode cX7_takesOut 103 = .ok (.isub, 1) := by decide +kernel
theorem dX7_takesOut_104 : decode cX7_takesOut 104 = .ok (.iastore, 1) := by decide +kernel
theorem dX7_takesOut_105 : decode cX7_takesOut 105 = .ok (.aload_n 0, 1) := by decide +kernel
theorem dX7_takesOut_106 : decode cX7_takesOut 106 = .ok (.getfield 52, 3) := by decide +kernel
theorem dX7_takesOut_109 : decode cX7_takesOut 109 = .ok (.bipush 35, 2) := by decide +kernel
theorem dX7_takesOut_111 : decode cX7_takesOut 111 = .ok (.iload_n 2, 1) := by decide +kernel
theorem dX7_takesOut_112 : decode cX7_takesOut 112 = .ok (.imul, 1) := by decide +kernel
theorem dX7_takesOut_113 : decode cX7_takesOut 113 = .ok (.bipush 10, 2) := by decide +kernel
theorem dX7_takesOut_115 : decode cX7_takesOut 115 = .ok (.iadd, 1) := by decide +kernel
theorem dX7_takesOut_116 : decode cX7_takesOut 116 = .ok (.iload 4, 2) := by decide +kernel
theorem dX7_takesOut_118 : decode cX7_takesOut 118 = .ok (.iadd, 1) := by decide +kernel
theorem dX7_takesOut_119 : decode cX7_takesOut 119 = .ok (.iconst 0, 1) := by decide +kernel
theorem dX7_takesOut_120 : decode cX7_takesOut 120 = .ok (.iastore, 1) := by decide +kernel
theorem dX7_takesOut_121 : decode cX7_takesOut 121 = .ok (.iinc 4 1, 3) := by decide +kernel
theorem dX7_takesOut_124 : decode cX7_takesOut 124 = .ok (.goto (-74), 3) := by decide +kernel
theorem dX7_takesOut_127 : decode cX7_takesOut 127 = .ok (.aload_n 0, 1) := by decide +kernel
theorem dX7_takesOut_128 : decode cX7_takesOut 128 = .ok (.getfield 22, 3) := by decide +kernel
theorem dX7_takesOut_131 : decode cX7_takesOut 131 = .ok (.iload_n 1, 1) := by decide +kernel
theorem dX7_takesOut_132 : decode cX7_takesOut 132 = .ok (.dup2, 1) := by decide +kernel
theorem dX7_takesOut_133 : decode cX7_takesOut 133 = .ok (.iaload, 1) := by decide +kernel
theorem dX7_takesOut_134 : decode cX7_takesOut 134 = .ok (.iload_n 3, 1) := by decide +kernel
theorem dX7_takesOut_135 : decode cX7_takesOut 135 = .ok (.isub, 1) := by decide +kernel
theorem dX7_takesOut_136 : decode cX7_takesOut 136 = .ok (.iastore, 1) := by decide +kernel
theorem dX7_takesOut_137 : decode cX7_takesOut 137 = .ok (.aload_n 0, 1) := by decide +kernel
theorem dX7_takesOut_138 : decode cX7_takesOut 138 = .ok (.getfield 52, 3) := by decide +kernel
theorem dX7_takesOut_141 : decode cX7_takesOut 141 = .ok (.bipush 35, 2) := by decide +kernel
theorem dX7_takesOut_143 : decode cX7_takesOut 143 = .ok (.iload_n 2, 1) := by decide +kernel
theorem dX7_takesOut_144 : decode cX7_takesOut 144 = .ok (.imul, 1) := by decide +kernel
theorem dX7_takesOut_145 : decode cX7_takesOut 145 = .ok (.iconst 3, 1) := by decide +kernel
theorem dX7_takesOut_146 : decode cX7_takesOut 146 = .ok (.iadd, 1) := by decide +kernel
theorem dX7_takesOut_147 : decode cX7_takesOut 147 = .ok (.iconst 0, 1) := by decide +kernel
theorem dX7_takesOut_148 : decode cX7_takesOut 148 = .ok (.iastore, 1) := by decide +kernel
theorem dX7_takesOut_149 : decode cX7_takesOut 149 = .ok (.return_, 1) := by decide +kernel
theorem dX7_secret_0 : decode cX7_secret 0 = .ok (.iload_n 1, 1) := by decide +kernel
theorem dX7_secret_1 : decode cX7_secret 1 = .ok (.invokestatic 75, 3) := by decide +kernel
theorem dX7_secret_4 : decode cX7_secret 4 = .ok (.ifCond .ne 5, 3) := by decide +kernel
theorem dX7_secret_7 : decode cX7_secret 7 = .ok (.iconst (-1), 1) := by decide +kernel
theorem dX7_secret_8 : decode cX7_secret 8 = .ok (.ireturn, 1) := by decide +kernel
theorem dX7_secret_9 : decode cX7_secret 9 = .ok (.aload_n 0, 1) := by decide +kernel
theorem dX7_secret_10 : decode cX7_secret 10 = .ok (.getfield 165, 3) := by decide +kernel
theorem dX7_secret_13 : decode cX7_secret 13 = .ok (.bipush 16, 2) := by decide +kernel
theorem dX7_secret_15 : decode cX7_secret 15 = .ok (.if_icmp .ne 6, 3) := by decide +kernel
theorem dX7_secret_18 : decode cX7_secret 18 = .ok (.bipush (-4), 2) := by decide +kernel
theorem dX7_secret_20 : decode cX7_secret 20 = .ok (.ireturn, 1) := by decide +kernel
theorem dX7_secret_21 : decode cX7_secret 21 = .ok (.aload_n 0, 1) := by decide +kernel
theorem dX7_secret_22 : decode cX7_secret 22 = .ok (.getfield 13, 3) := by decide +kernel
theorem dX7_secret_25 : decode cX7_secret 25 = .ok (.aload_n 0, 1) := by decide +kernel
theorem dX7_secret_26 : decode cX7_secret 26 = .ok (.getfield 165, 3) := by decide +kernel
theorem dX7_secret_29 : decode cX7_secret 29 = .ok (.iconst 1, 1) := by decide +kernel
theorem dX7_secret_30 : decode cX7_secret 30 = .ok (.iload_n 1, 1) := by decide +kernel
theorem dX7_secret_31 : decode cX7_secret 31 = .ok (.ishl, 1) := by decide +kernel
theorem dX7_secret_32 : decode cX7_secret 32 = .ok (.iastore, 1) := by decide +kernel
theorem dX7_secret_33 : decode cX7_secret 33 = .ok (.aload_n 0, 1) := by decide +kernel
theorem dX7_secret_34 : decode cX7_secret 34 = .ok (.dup, 1) := by decide +kernel
theorem dX7_secret_35 : decode cX7_secret 35 = .ok (.getfield 165, 3) := by decide +kernel
theorem dX7_secret_38 : decode cX7_secret 38 = .ok (.iconst 1, 1) := by decide +kernel
theorem dX7_secret_39 : decode cX7_secret 39 = .ok (.iadd, 1) := by decide +kernel
theorem dX7_secret_40 : decode cX7_secret 40 = .ok (.putfield 165, 3) := by decide +kernel
theorem dX7_secret_43 : decode cX7_secret 43 = .ok (.aload_n 0, 1) := by decide +kernel
theorem dX7_secret_44 : decode cX7_secret 44 = .ok (.getfield 165, 3) := by decide +kernel
theorem dX7_secret_47 : decode cX7_secret 47 = .ok (.iconst 1, 1) := by decide +kernel
theorem dX7_secret_48 : decode cX7_secret 48 = .ok (.isub, 1) := by decide +kernel
theorem dX7_secret_49 : decode cX7_secret 49 = .ok (.ireturn, 1) := by decide +kernel
theorem dX7_tell_0 : decode cX7_tell 0 = .ok (.iload_n 1, 1) := by decide +kernel
theorem dX7_tell_1 : decode cX7_tell 1 = .ok (.iconst 0, 1) := by decide +kernel
theorem dX7_tell_2 : decode cX7_tell 2 = .ok (.aload_n 0, 1) := by decide +kernel
theorem dX7_tell_3 : decode cX7_tell 3 = .ok (.getfield 165, 3) := by decide +kernel
theorem dX7_tell_6 : decode cX7_tell 6 = .ok (.iconst 1, 1) := by decide +kernel
theorem dX7_tell_7 : decode cX7_tell 7 = .ok (.isub, 1) := by decide +kernel
theorem dX7_tell_8 : decode cX7_tell 8 = .ok (.invokestatic 64, 3) := by decide +kernel
theorem dX7_tell_11 : decode cX7_tell 11 = .ok (.ifCond .eq 17, 3) := by decide +kernel
theorem dX7_tell_14 : decode cX7_tell 14 = .ok (.iload_n 2, 1) := by decide +kernel
theorem dX7_tell_15 : decode cX7_tell 15 = .ok (.invokestatic 75, 3) := by decide +kernel
theorem dX7_tell_18 : decode cX7_tell 18 = .ok (.ifCond .eq 10, 3) := by decide +kernel
theorem dX7_tell_21 : decode cX7_tell 21 = .ok (.iload_n 3, 1) := by decide +kernel
theorem dX7_tell_22 : decode cX7_tell 22 = .ok (.invokestatic 75, 3) := by decide +kernel
theorem dX7_tell_25 : decode cX7_tell 25 = .ok (.ifCond .ne 5, 3) := by decide +kernel
theorem dX7_tell_28 : decode cX7_tell 28 = .ok (.iconst (-1), 1) := by decide +kernel
theorem dX7_tell_29 : decode cX7_tell 29 = .ok (.ireturn, 1) := by decide +kernel
theorem dX7_tell_30 : decode cX7_tell 30 = .ok (.aload_n 0, 1) := by decide +kernel
theorem dX7_tell_31 : decode cX7_tell 31 = .ok (.getfield 13, 3) := by decide +kernel
theorem dX7_tell_34 : decode cX7_tell 34 = .ok (.iload_n 1, 1) := by decide +kernel
theorem dX7_tell_35 : decode cX7_tell 35 = .ok (.iaload, 1) := by decide +kernel
theorem dX7_tell_36 : decode cX7_tell 36 = .ok (.iload_n 2, 1) := by decide +kernel
theorem dX7_tell_37 : decode cX7_tell 37 = .ok (.invokestatic 79, 3) := by decide +kernel
theorem dX7_tell_40 : decode cX7_tell 40 = .ok (.ifCond .ne 6, 3) := by decide +kernel
theorem dX7_tell_43 : decode cX7_tell 43 = .ok (.bipush (-4), 2) := by decide +kernel
theorem dX7_tell_45 : decode cX7_tell 45 = .ok (.ireturn, 1) := by decide +kernel
theorem dX7_tell_46 : decode cX7_tell 46 = .ok (.aload_n 0, 1) := by decide +kernel
theorem dX7_tell_47 : decode cX7_tell 47 = .ok (.getfield 13, 3) := by decide +kernel
theorem dX7_tell_50 : decode cX7_tell 50 = .ok (.iload_n 1, 1) := by decide +kernel
theorem dX7_tell_51 : decode cX7_tell 51 = .ok (.iaload, 1) := by decide +kernel
theorem dX7_tell_52 : decode cX7_tell 52 = .ok (.istore 4, 2) := by decide +kernel
theorem dX7_tell_54 : decode cX7_tell 54 = .ok (.aload_n 0, 1) := by decide +kernel
theorem dX7_tell_55 : decode cX7_tell 55 = .ok (.getfield 13, 3) := by decide +kernel
theorem dX7_tell_58 : decode cX7_tell 58 = .ok (.iload_n 1, 1) := by decide +kernel
theorem dX7_tell_59 : decode cX7_tell 59 = .ok (.iload 4, 2) := by decide +kernel
theorem dX7_tell_61 : decode cX7_tell 61 = .ok (.iconst 1, 1) := by decide +kernel
theorem dX7_tell_62 : decode cX7_tell 62 = .ok (.iload_n 3, 1) := by decide +kernel
theorem dX7_tell_63 : decode cX7_tell 63 = .ok (.ishl, 1) := by decide +kernel
theorem dX7_tell_64 : decode cX7_tell 64 = .ok (.ior, 1) := by decide +kernel
theorem dX7_tell_65 : decode cX7_tell 65 = .ok (.iastore, 1) := by decide +kernel
theorem dX7_tell_66 : decode cX7_tell 66 = .ok (.aload_n 0, 1) := by decide +kernel
theorem dX7_tell_67 : decode cX7_tell 67 = .ok (.getfield 13, 3) := by decide +kernel
theorem dX7_tell_70 : decode cX7_tell 70 = .ok (.iload_n 1, 1) := by decide +kernel
theorem dX7_tell_71 : decode cX7_tell 71 = .ok (.iaload, 1) := by decide +kernel
theorem dX7_tell_72 : decode cX7_tell 72 = .ok (.iload 4, 2) := by decide +kernel
theorem dX7_tell_74 : decode cX7_tell 74 = .ok (.if_icmp .ne 7, 3) := by decide +kernel
theorem dX7_tell_77 : decode cX7_tell 77 = .ok (.iconst 0, 1) := by decide +kernel
theorem dX7_tell_78 : decode cX7_tell 78 = .ok (.goto 4, 3) := by decide +kernel
theorem dX7_tell_81 : decode cX7_tell 81 = .ok (.iconst 1, 1) := by decide +kernel
theorem dX7_tell_82 : decode cX7_tell 82 = .ok (.ireturn, 1) := by decide +kernel
theorem dX7_claim_0 : decode cX7_claim 0 = .ok (.aload_n 0, 1) := by decide +kernel
theorem dX7_claim_1 : decode cX7_claim 1 = .ok (.iload_n 1, 1) := by decide +kernel
theorem dX7_claim_2 : decode cX7_claim 2 = .ok (.invokevirtual 149, 3) := by decide +kernel
theorem dX7_claim_5 : decode cX7_claim 5 = .ok (.ifCond .eq 19, 3) := by decide +kernel
theorem dX7_claim_8 : decode cX7_claim 8 = .ok (.iload_n 2, 1) := by decide +kernel
theorem dX7_claim_9 : decode cX7_claim 9 = .ok (.iconst 0, 1) := by decide +kernel
theorem dX7_claim_10 : decode cX7_claim 10 = .ok (.iconst 2, 1) := by decide +kernel
theorem dX7_claim_11 : decode cX7_claim 11 = .ok (.invokestatic 64, 3) := by decide +kernel
theorem dX7_claim_14 : decode cX7_claim 14 = .ok (.ifCond .eq 10, 3) := by decide +kernel
theorem dX7_claim_17 : decode cX7_claim 17 = .ok (.iload_n 3, 1) := by decide +kernel
theorem dX7_claim_18 : decode cX7_claim 18 = .ok (.invokestatic 75, 3) := by decide +kernel
theorem dX7_claim_21 : decode cX7_claim 21 = .ok (.ifCond .ne 5, 3) := by decide +kernel
theorem dX7_claim_24 : decode cX7_claim 24 = .ok (.iconst (-1), 1) := by decide +kernel
theorem dX7_claim_25 : decode cX7_claim 25 = .ok (.ireturn, 1) := by decide +kernel
theorem dX7_claim_26 : decode cX7_claim 26 = .ok (.aload_n 0, 1) := by decide +kernel
theorem dX7_claim_27 : decode cX7_claim 27 = .ok (.getfield 25, 3) := by decide +kernel
theorem dX7_claim_30 : decode cX7_claim 30 = .ok (.iload_n 1, 1) := by decide +kernel
theorem dX7_claim_31 : decode cX7_claim 31 = .ok (.iaload, 1) := by decide +kernel
theorem dX7_claim_32 : decode cX7_claim 32 = .ok (.iconst 3, 1) := by decide +kernel
theorem dX7_claim_33 : decode cX7_claim 33 = .ok (.if_icmp .eq 6, 3) := by decide +kernel
theorem dX7_claim_36 : decode cX7_claim 36 = .ok (.bipush (-2), 2) := by decide +kernel
theorem dX7_claim_38 : decode cX7_claim 38 = .ok (.ireturn, 1) := by decide +kernel
theorem dX7_claim_39 : decode cX7_claim 39 = .ok (.aload_n 0, 1) := by decide +kernel
theorem dX7_claim_40 : decode cX7_claim 40 = .ok (.iload_n 1, 1) := by decide +kernel
theorem dX7_claim_41 : decode cX7_claim 41 = .ok (.iload_n 2, 1) := by decide +kernel
theorem dX7_claim_42 : decode cX7_claim 42 = .ok (.iload_n 3, 1) := by decide +kernel
theorem dX7_claim_43 : decode cX7_claim 43 = .ok (.invokevirtual 124, 3) := by decide +kernel
theorem dX7_claim_46 : decode cX7_claim 46 = .ok (.ifCond .eq 13, 3) := by decide +kernel
theorem dX7_claim_49 : decode cX7_claim 49 = .ok (.aload_n 0, 1) := by decide +kernel
theorem dX7_claim_50 : decode cX7_claim 50 = .ok (.iload_n 1, 1) := by decide +kernel
theorem dX7_claim_51 : decode cX7_claim 51 = .ok (.iload_n 2, 1) := by decide +kernel
theorem dX7_claim_52 : decode cX7_claim 52 = .ok (.iload_n 3, 1) := by decide +kernel
theorem dX7_claim_53 : decode cX7_claim 53 = .ok (.invokevirtual 127, 3) := by decide +kernel
theorem dX7_claim_56 : decode cX7_claim 56 = .ok (.goto 5, 3) := by decide +kernel
theorem dX7_claim_59 : decode cX7_claim 59 = .ok (.bipush (-4), 2) := by decide +kernel
theorem dX7_claim_61 : decode cX7_claim 61 = .ok (.ireturn, 1) := by decide +kernel
theorem dX7_step_0 : decode cX7_step 0 = .ok (.aload_n 0, 1) := by decide +kernel
theorem dX7_step_1 : decode cX7_step 1 = .ok (.iload_n 1, 1) := by decide +kernel
theorem dX7_step_2 : decode cX7_step 2 = .ok (.invokevirtual 149, 3) := by decide +kernel
theorem dX7_step_5 : decode cX7_step 5 = .ok (.ifCond .eq 10, 3) := by decide +kernel
theorem dX7_step_8 : decode cX7_step 8 = .ok (.iload_n 2, 1) := by decide +kernel
theorem dX7_step_9 : decode cX7_step 9 = .ok (.invokestatic 75, 3) := by decide +kernel
theorem dX7_step_12 : decode cX7_step 12 = .ok (.ifCond .ne 5, 3) := by decide +kernel
theorem dX7_step_15 : decode cX7_step 15 = .ok (.iconst (-1), 1) := by decide +kernel
theorem dX7_step_16 : decode cX7_step 16 = .ok (.ireturn, 1) := by decide +kernel
theorem dX7_step_17 : decode cX7_step 17 = .ok (.aload_n 0, 1) := by decide +kernel
theorem dX7_step_18 : decode cX7_step 18 = .ok (.getfield 37, 3) := by decide +kernel
theorem dX7_step_21 : decode cX7_step 21 = .ok (.iload_n 1, 1) := by decide +kernel
theorem dX7_step_22 : decode cX7_step 22 = .ok (.iaload, 1) := by decide +kernel
theorem dX7_step_23 : decode cX7_step 23 = .ok (.ifCond .ne 6, 3) := by decide +kernel
theorem dX7_step_26 : decode cX7_step 26 = .ok (.bipush (-2), 2) := by decide +kernel
theorem dX7_step_28 : decode cX7_step 28 = .ok (.ireturn, 1) := by decide +kernel
theorem dX7_step_29 : decode cX7_step 29 = .ok (.iload_n 3, 1) := by decide +kernel
theorem dX7_step_30 : decode cX7_step 30 = .ok (.iconst 1, 1) := by decide +kernel
theorem dX7_step_31 : decode cX7_step 31 = .ok (.iconst 3, 1) := by decide +kernel
theorem dX7_step_32 : decode cX7_step 32 = .ok (.invokestatic 64, 3) := by decide +kernel
theorem dX7_step_35 : decode cX7_step 35 = .ok (.ifCond .ne 6, 3) := by decide +kernel
theorem dX7_step_38 : decode cX7_step 38 = .ok (.bipush (-3), 2) := by decide +kernel
theorem dX7_step_40 : decode cX7_step 40 = .ok (.ireturn, 1) := by decide +kernel
theorem dX7_step_41 : decode cX7_step 41 = .ok (.aload_n 0, 1) := by decide +kernel
theorem dX7_step_42 : decode cX7_step 42 = .ok (.getfield 43, 3) := by decide +kernel
theorem dX7_step_45 : decode cX7_step 45 = .ok (.iload_n 1, 1) := by decide +kernel
theorem dX7_step_46 : decode cX7_step 46 = .ok (.iaload, 1) := by decide +kernel
theorem dX7_step_47 : decode cX7_step 47 = .ok (.iload_n 2, 1) := by decide +kernel
theorem dX7_step_48 : decode cX7_step 48 = .ok (.if_icmp .ne 13, 3) := by decide +kernel
theorem dX7_step_51 : decode cX7_step 51 = .ok (.aload_n 0, 1) := by decide +kernel
theorem dX7_step_52 : decode cX7_step 52 = .ok (.getfield 40, 3) := by decide +kernel
theorem dX7_step_55 : decode cX7_step 55 = .ok (.iload_n 1, 1) := by decide +kernel
theorem dX7_step_56 : decode cX7_step 56 = .ok (.iaload, 1) := by decide +kernel
theorem dX7_step_57 : decode cX7_step 57 = .ok (.iload_n 3, 1) := by decide +kernel
theorem dX7_step_58 : decode cX7_step 58 = .ok (.if_icmp .ge 8, 3) := by decide +kernel
theorem dX7_step_61 : decode cX7_step 61 = .ok (.bipush (-4), 2) := by decide +kernel
theorem dX7_step_63 : decode cX7_step 63 = .ok (.goto 9, 3) := by decide +kernel
theorem dX7_step_66 : decode cX7_step 66 = .ok (.aload_n 0, 1) := by decide +kernel
theorem dX7_step_67 : decode cX7_step 67 = .ok (.iload_n 1, 1) := by decide +kernel
theorem dX7_step_68 : decode cX7_step 68 = .ok (.iload_n 3, 1) := by decide +kernel
theorem dX7_step_69 : decode cX7_step 69 = .ok (.invokevirtual 131, 3) := by decide +kernel
theorem dX7_step_72 : decode cX7_step 72 = .ok (.ireturn, 1) := by decide +kernel
theorem dX7_watch_0 : decode cX7_watch 0 = .ok (.iload_n 1, 1) := by decide +kernel
theorem dX7_watch_1 : decode cX7_watch 1 = .ok (.invokestatic 75, 3) := by decide +kernel
theorem dX7_watch_4 : decode cX7_watch 4 = .ok (.ifCond .ne 5, 3) := by decide +kernel
theorem dX7_watch_7 : decode cX7_watch 7 = .ok (.iconst (-1), 1) := by decide +kernel
theorem dX7_watch_8 : decode cX7_watch 8 = .ok (.ireturn, 1) := by decide +kernel
theorem dX7_watch_9 : decode cX7_watch 9 = .ok (.aload_n 0, 1) := by decide +kernel
theorem dX7_watch_10 : decode cX7_watch 10 = .ok (.getfield 137, 3) := by decide +kernel
theorem dX7_watch_13 : decode cX7_watch 13 = .ok (.iload_n 1, 1) := by decide +kernel
theorem dX7_watch_14 : decode cX7_watch 14 = .ok (.ishr, 1) := by decide +kernel
theorem dX7_watch_15 : decode cX7_watch 15 = .ok (.iconst 1, 1) := by decide +kernel
theorem dX7_watch_16 : decode cX7_watch 16 = .ok (.iand, 1) := by decide +kernel
theorem dX7_watch_17 : decode cX7_watch 17 = .ok (.istore_n 3, 1) := by decide +kernel
theorem dX7_watch_18 : decode cX7_watch 18 = .ok (.iload_n 2, 1) := by decide +kernel
theorem dX7_watch_19 : decode cX7_watch 19 = .ok (.iload_n 3, 1) := by decide +kernel
theorem dX7_watch_20 : decode cX7_watch 20 = .ok (.iconst 1, 1) := by decide +kernel
theorem dX7_watch_21 : decode cX7_watch 21 = .ok (.if_icmp .ne 7, 3) := by decide +kernel
theorem dX7_watch_24 : decode cX7_watch 24 = .ok (.iconst 1, 1) := by decide +kernel
theorem dX7_watch_25 : decode cX7_watch 25 = .ok (.goto 4, 3) := by decide +kernel
theorem dX7_watch_28 : decode cX7_watch 28 = .ok (.iconst 0, 1) := by decide +kernel
theorem dX7_watch_29 : decode cX7_watch 29 = .ok (.if_icmp .eq 26, 3) := by decide +kernel
theorem dX7_watch_32 : decode cX7_watch 32 = .ok (.aload_n 0, 1) := by decide +kernel
theorem dX7_watch_33 : decode cX7_watch 33 = .ok (.dup, 1) := by decide +kernel
theorem dX7_watch_34 : decode cX7_watch 34 = .ok (.getfield 137, 3) := by decide +kernel
theorem dX7_watch_37 : decode cX7_watch 37 = .ok (.iload_n 2, 1) := by decide +kernel
theorem dX7_watch_38 : decode cX7_watch 38 = .ok (.ifCond .eq 9, 3) := by decide +kernel
theorem dX7_watch_41 : decode cX7_watch 41 = .ok (.iconst 1, 1) := by decide +kernel
theorem dX7_watch_42 : decode cX7_watch 42 = .ok (.iload_n 1, 1) := by decide +kernel
theorem dX7_watch_43 : decode cX7_watch 43 = .ok (.ishl, 1) := by decide +kernel
theorem dX7_watch_44 : decode cX7_watch 44 = .ok (.goto 7, 3) := by decide +kernel
theorem dX7_watch_47 : decode cX7_watch 47 = .ok (.iconst 1, 1) := by decide +kernel
theorem dX7_watch_48 : decode cX7_watch 48 = .ok (.iload_n 1, 1) := by decide +kernel
theorem dX7_watch_49 : decode cX7_watch 49 = .ok (.ishl, 1) := by decide +kernel
theorem dX7_watch_50 : decode cX7_watch 50 = .ok (.ineg, 1) := by decide +kernel
theorem dX7_watch_51 : decode cX7_watch 51 = .ok (.iadd, 1) := by decide +kernel
theorem dX7_watch_52 : decode cX7_watch 52 = .ok (.putfield 137, 3) := by decide +kernel
theorem dX7_watch_55 : decode cX7_watch 55 = .ok (.iload_n 3, 1) := by decide +kernel
theorem dX7_watch_56 : decode cX7_watch 56 = .ok (.ireturn, 1) := by decide +kernel
theorem dX7_height_0 : decode cX7_height 0 = .ok (.iload_n 1, 1) := by decide +kernel
theorem dX7_height_1 : decode cX7_height 1 = .ok (.iconst 1, 1) := by decide +kernel
theorem dX7_height_2 : decode cX7_height 2 = .ok (.bipush 100, 2) := by decide +kernel
theorem dX7_height_4 : decode cX7_height 4 = .ok (.invokestatic 64, 3) := by decide +kernel
theorem dX7_height_7 : decode cX7_height 7 = .ok (.ifCond .ne 6, 3) := by decide +kernel
theorem dX7_height_10 : decode cX7_height 10 = .ok (.bipush (-3), 2) := by decide +kernel
theorem dX7_height_12 : decode cX7_height 12 = .ok (.ireturn, 1) := by decide +kernel
theorem dX7_height_13 : decode cX7_height 13 = .ok (.iconst 0, 1) := by decide +kernel
theorem dX7_height_14 : decode cX7_height 14 = .ok (.istore_n 2, 1) := by decide +kernel
theorem dX7_height_15 : decode cX7_height 15 = .ok (.iload_n 2, 1) := by decide +kernel
theorem dX7_height_16 : decode cX7_height 16 = .ok (.iload_n 1, 1) := by decide +kernel
theorem dX7_height_17 : decode cX7_height 17 = .ok (.if_icmp .ge 13, 3) := by decide +kernel
theorem dX7_height_20 : decode cX7_height 20 = .ok (.aload_n 0, 1) := by decide +kernel
theorem dX7_height_21 : decode cX7_height 21 = .ok (.invokevirtual 182, 3) := by decide +kernel
theorem dX7_height_24 : decode cX7_height 24 = .ok (.iinc 2 1, 3) := by decide +kernel
theorem dX7_height_27 : decode cX7_height 27 = .ok (.goto (-12), 3) := by decide +kernel
theorem dX7_height_30 : decode cX7_height 30 = .ok (.aload_n 0, 1) := by decide +kernel
theorem dX7_height_31 : decode cX7_height 31 = .ok (.getfield 103, 3) := by decide +kernel
theorem dX7_height_34 : decode cX7_height 34 = .ok (.ireturn, 1) := by decide +kernel
theorem dX7_hop_0 : decode cX7_hop 0 = .ok (.aload_n 0, 1) := by decide +kernel
theorem dX7_hop_1 : decode cX7_hop 1 = .ok (.iload_n 1, 1) := by decide +kernel
theorem dX7_hop_2 : decode cX7_hop 2 = .ok (.invokevirtual 149, 3) := by decide +kernel
theorem dX7_hop_5 : decode cX7_hop 5 = .ok (.ifCond .eq 21, 3) := by decide +kernel
theorem dX7_hop_8 : decode cX7_hop 8 = .ok (.aload_n 0, 1) := by decide +kernel
theorem dX7_hop_9 : decode cX7_hop 9 = .ok (.iload_n 1, 1) := by decide +kernel
theorem dX7_hop_10 : decode cX7_hop 10 = .ok (.iload_n 2, 1) := by decide +kernel
theorem dX7_hop_11 : decode cX7_hop 11 = .ok (.invokevirtual 90, 3) := by decide +kernel
theorem dX7_hop_14 : decode cX7_hop 14 = .ok (.ifCond .eq 12, 3) := by decide +kernel
theorem dX7_hop_17 : decode cX7_hop 17 = .ok (.aload_n 0, 1) := by decide +kernel
theorem dX7_hop_18 : decode cX7_hop 18 = .ok (.iload_n 1, 1) := by decide +kernel
theorem dX7_hop_19 : decode cX7_hop 19 = .ok (.iload_n 3, 1) := by decide +kernel
theorem dX7_hop_20 : decode cX7_hop 20 = .ok (.invokevirtual 90, 3) := by decide +kernel
theorem dX7_hop_23 : decode cX7_hop 23 = .ok (.ifCond .ne 5, 3) := by decide +kernel
theorem dX7_hop_26 : decode cX7_hop 26 = .ok (.iconst (-1), 1) := by decide +kernel
theorem dX7_hop_27 : decode cX7_hop 27 = .ok (.ireturn, 1) := by decide +kernel
theorem dX7_hop_28 : decode cX7_hop 28 = .ok (.aload_n 0, 1) := by decide +kernel
theorem dX7_hop_29 : decode cX7_hop 29 = .ok (.getfield 25, 3) := by decide +kernel
theorem dX7_hop_32 : decode cX7_hop 32 = .ok (.iload_n 1, 1) := by decide +kernel
theorem dX7_hop_33 : decode cX7_hop 33 = .ok (.iaload, 1) := by decide +kernel
theorem dX7_hop_34 : decode cX7_hop 34 = .ok (.iconst 1, 1) := by decide +kernel
theorem dX7_hop_35 : decode cX7_hop 35 = .ok (.if_icmp .eq 6, 3) := by decide +kernel
theorem dX7_hop_38 : decode cX7_hop 38 = .ok (.bipush (-2), 2) := by decide +kernel
theorem dX7_hop_40 : decode cX7_hop 40 = .ok (.ireturn, 1) := by decide +kernel
theorem dX7_hop_41 : decode cX7_hop 41 = .ok (.iconst 0, 1) := by decide +kernel
theorem dX7_hop_42 : decode cX7_hop 42 = .ok (.istore 4, 2) := by decide +kernel
theorem dX7_hop_44 : decode cX7_hop 44 = .ok (.iconst 0, 1) := by decide +kernel
theorem dX7_hop_45 : decode cX7_hop 45 = .ok (.istore 5, 2) := by decide +kernel
theorem dX7_hop_47 : decode cX7_hop 47 = .ok (.iload 5, 2) := by decide +kernel
theorem dX7_hop_49 : decode cX7_hop 49 = .ok (.aload_n 0, 1) := by decide +kernel
theorem dX7_hop_50 : decode cX7_hop 50 = .ok (.getfield 185, 3) := by decide +kernel
theorem dX7_hop_53 : decode cX7_hop 53 = .ok (.if_icmp .ge 32, 3) := by decide +kernel
theorem dX7_hop_56 : decode cX7_hop 56 = .ok (.iload 4, 2) := by decide +kernel
theorem dX7_hop_58 : decode cX7_hop 58 = .ok (.ifCond .ne 14, 3) := by decide +kernel
theorem dX7_hop_61 : decode cX7_hop 61 = .ok (.aload_n 0, 1) := by decide +kernel
theorem dX7_hop_62 : decode cX7_hop 62 = .ok (.getfield 55, 3) := by decide +kernel
theorem dX7_hop_65 : decode cX7_hop 65 = .ok (.iload 5, 2) := by decide +kernel
theorem dX7_hop_67 : decode cX7_hop 67 = .ok (.iaload, 1) := by decide +kernel
theorem dX7_hop_68 : decode cX7_hop 68 = .ok (.iload_n 1, 1) := by decide +kernel
theorem dX7_hop_69 : decode cX7_hop 69 = .ok (.if_icmp .ne 7, 3) := by decide +kernel
theorem dX7_hop_72 : decode cX7_hop 72 = .ok (.iconst 1, 1) := by decide +kernel
theorem dX7_hop_73 : decode cX7_hop 73 = .ok (.goto 4, 3) := by decide +kernel
theorem dX7_hop_76 : decode cX7_hop 76 = .ok (.iconst 0, 1) := by decide +kernel
theorem dX7_hop_77 : decode cX7_hop 77 = .ok (.istore 4, 2) := by decide +kernel
theorem dX7_hop_79 : decode cX7_hop 79 = .ok (.iinc 5 1, 3) := by decide +kernel
theorem dX7_hop_82 : decode cX7_hop 82 = .ok (.goto (-35), 3) := by decide +kernel
theorem dX7_hop_85 : decode cX7_hop 85 = .ok (.aload_n 0, 1) := by decide +kernel
theorem dX7_hop_86 : decode cX7_hop 86 = .ok (.getfield 185, 3) := by decide +kernel
theorem dX7_hop_89 : decode cX7_hop 89 = .ok (.iconst 4, 1) := by decide +kernel
theorem dX7_hop_90 : decode cX7_hop 90 = .ok (.if_icmp .eq 35, 3) := by decide +kernel
theorem dX7_hop_93 : decode cX7_hop 93 = .ok (.iload_n 2, 1) := by decide +kernel
theorem dX7_hop_94 : decode cX7_hop 94 = .ok (.iload_n 3, 1) := by decide +kernel
theorem dX7_hop_95 : decode cX7_hop 95 = .ok (.if_icmp .eq 30, 3) := by decide +kernel
theorem dX7_hop_98 : decode cX7_hop 98 = .ok (.iload 4, 2) := by decide +kernel
theorem dX7_hop_100 : decode cX7_hop 100 = .ok (.ifCond .ne 25, 3) := by decide +kernel
theorem dX7_hop_103 : decode cX7_hop 103 = .ok (.aload_n 0, 1) := by decide +kernel
theorem dX7_hop_104 : decode cX7_hop 104 = .ok (.getfield 185, 3) := by decide +kernel
theorem dX7_hop_107 : decode cX7_hop 107 = .ok (.ifCond .le 21, 3) := by decide +kernel
theorem dX7_hop_110 : decode cX7_hop 110 = .ok (.aload_n 0, 1) := by decide +kernel
theorem dX7_hop_111 : decode cX7_hop 111 = .ok (.getfield 61, 3) := by decide +kernel
theorem dX7_hop_114 : decode cX7_hop 114 = .ok (.aload_n 0, 1) := by decide +kernel
theorem dX7_hop_115 : decode cX7_hop 115 = .ok (.getfield 185, 3) := by decide +kernel
theorem dX7_hop_118 : decode cX7_hop 118 = .ok (.iconst 1, 1) := by decide +kernel
theorem dX7_hop_119 : decode cX7_hop 119 = .ok (.isub, 1) := by decide +kernel
theorem dX7_hop_120 : decode cX7_hop 120 = .ok (.iaload, 1) := by decide +kernel
theorem dX7_hop_121 : decode cX7_hop 121 = .ok (.iload_n 2, 1) := by decide +kernel
theorem dX7_hop_122 : decode cX7_hop 122 = .ok (.if_icmp .eq 6, 3) := by decide +kernel
theorem dX7_hop_125 : decode cX7_hop 125 = .ok (.bipush (-4), 2) := by decide +kernel
theorem dX7_hop_127 : decode cX7_hop 127 = .ok (.ireturn, 1) := by decide +kernel
theorem dX7_hop_128 : decode cX7_hop 128 = .ok (.aload_n 0, 1) := by decide +kernel
theorem dX7_hop_129 : decode cX7_hop 129 = .ok (.getfield 55, 3) := by decide +kernel
theorem dX7_hop_132 : decode cX7_hop 132 = .ok (.aload_n 0, 1) := by decide +kernel
theorem dX7_hop_133 : decode cX7_hop 133 = .ok (.getfield 185, 3) := by decide +kernel
theorem dX7_hop_136 : decode cX7_hop 136 = .ok (.iload_n 1, 1) := by decide +kernel
theorem dX7_hop_137 : decode cX7_hop 137 = .ok (.iastore, 1) := by decide +kernel
theorem dX7_hop_138 : decode cX7_hop 138 = .ok (.aload_n 0, 1) := by decide +kernel
theorem dX7_hop_139 : decode cX7_hop 139 = .ok (.getfield 58, 3) := by decide +kernel
theorem dX7_hop_142 : decode cX7_hop 142 = .ok (.aload_n 0, 1) := by decide +kernel
theorem dX7_hop_143 : decode cX7_hop 143 = .ok (.getfield 185, 3) := by decide +kernel
theorem dX7_hop_146 : decode cX7_hop 146 = .ok (.iload_n 2, 1) := by decide +kernel
theorem dX7_hop_147 : decode cX7_hop 147 = .ok (.iastore, 1) := by decide +kernel
theorem dX7_hop_148 : decode cX7_hop 148 = .ok (.aload_n 0, 1) := by decide +kernel
theorem dX7_hop_149 : decode cX7_hop 149 = .ok (.getfield 61, 3) := by decide +kernel
theorem dX7_hop_152 : decode cX7_hop 152 = .ok (.aload_n 0, 1) := by decide +kernel
theorem dX7_hop_153 : decode cX7_hop 153 = .ok (.getfield 185, 3) := by decide +kernel
theorem dX7_hop_156 : decode cX7_hop 156 = .ok (.iload_n 3, 1) := by decide +kernel
theorem dX7_hop_157 : decode cX7_hop 157 = .ok (.iastore, 1) := by decide +kernel
theorem dX7_hop_158 : decode cX7_hop 158 = .ok (.aload_n 0, 1) := by decide +kernel
theorem dX7_hop_159 : decode cX7_hop 159 = .ok (.dup, 1) := by decide +kernel
theorem dX7_hop_160 : decode cX7_hop 160 = .ok (.getfield 185, 3) := by decide +kernel
theorem dX7_hop_163 : decode cX7_hop 163 = .ok (.iconst 1, 1) := by decide +kernel
theorem dX7_hop_164 : decode cX7_hop 164 = .ok (.iadd, 1) := by decide +kernel
theorem dX7_hop_165 : decode cX7_hop 165 = .ok (.putfield 185, 3) := by decide +kernel
theorem dX7_hop_168 : decode cX7_hop 168 = .ok (.aload_n 0, 1) := by decide +kernel
theorem dX7_hop_169 : decode cX7_hop 169 = .ok (.getfield 185, 3) := by decide +kernel
theorem dX7_hop_172 : decode cX7_hop 172 = .ok (.ireturn, 1) := by decide +kernel
theorem dX7_pay_0 : decode cX7_pay 0 = .ok (.aload_n 0, 1) := by decide +kernel
theorem dX7_pay_1 : decode cX7_pay 1 = .ok (.getfield 185, 3) := by decide +kernel
theorem dX7_pay_4 : decode cX7_pay 4 = .ok (.istore_n 3, 1) := by decide +kernel
theorem dX7_pay_5 : decode cX7_pay 5 = .ok (.aload_n 0, 1) := by decide +kernel
theorem dX7_pay_6 : decode cX7_pay 6 = .ok (.iconst 0, 1) := by decide +kernel
theorem dX7_pay_7 : decode cX7_pay 7 = .ok (.putfield 185, 3) := by decide +kernel
theorem dX7_pay_10 : decode cX7_pay 10 = .ok (.iload_n 1, 1) := by decide +kernel
theorem dX7_pay_11 : decode cX7_pay 11 = .ok (.iconst 1, 1) := by decide +kernel
theorem dX7_pay_12 : decode cX7_pay 12 = .ok (.ldc 161, 2) := by decide +kernel
theorem dX7_pay_14 : decode cX7_pay 14 = .ok (.invokestatic 64, 3) := by decide +kernel
theorem dX7_pay_17 : decode cX7_pay 17 = .ok (.ifCond .eq 13, 3) := by decide +kernel
theorem dX7_pay_20 : decode cX7_pay 20 = .ok (.iload_n 2, 1) := by decide +kernel
theorem dX7_pay_21 : decode cX7_pay 21 = .ok (.iconst 1, 1) := by decide +kernel
theorem dX7_pay_22 : decode cX7_pay 22 = .ok (.ldc 168, 2) := by decide +kernel
theorem dX7_pay_24 : decode cX7_pay 24 = .ok (.invokestatic 64, 3) := by decide +kernel
theorem dX7_pay_27 : decode cX7_pay 27 = .ok (.ifCond .ne 6, 3) := by decide +kernel
theorem dX7_pay_30 : decode cX7_pay 30 = .ok (.bipush (-3), 2) := by decide +kernel
theorem dX7_pay_32 : decode cX7_pay 32 = .ok (.ireturn, 1) := by decide +kernel
theorem dX7_pay_33 : decode cX7_pay 33 = .ok (.iload_n 3, 1) := by decide +kernel
theorem dX7_pay_34 : decode cX7_pay 34 = .ok (.ifCond .eq 23, 3) := by decide +kernel
theorem dX7_pay_37 : decode cX7_pay 37 = .ok (.aload_n 0, 1) := by decide +kernel
theorem dX7_pay_38 : decode cX7_pay 38 = .ok (.getfield 165, 3) := by decide +kernel
theorem dX7_pay_41 : decode cX7_pay 41 = .ok (.bipush 16, 2) := by decide +kernel
theorem dX7_pay_43 : decode cX7_pay 43 = .ok (.if_icmp .eq 14, 3) := by decide +kernel
theorem dX7_pay_46 : decode cX7_pay 46 = .ok (.aload_n 0, 1) := by decide +kernel
theorem dX7_pay_47 : decode cX7_pay 47 = .ok (.getfield 72, 3) := by decide +kernel
theorem dX7_pay_50 : decode cX7_pay 50 = .ok (.iload_n 3, 1) := by decide +kernel
theorem dX7_pay_51 : decode cX7_pay 51 = .ok (.iadd, 1) := by decide +kernel
theorem dX7_pay_52 : decode cX7_pay 52 = .ok (.bipush 64, 2) := by decide +kernel
theorem dX7_pay_54 : decode cX7_pay 54 = .ok (.if_icmp .le 7, 3) := by decide +kernel
theorem dX7_pay_57 : decode cX7_pay 57 = .ok (.iconst 1, 1) := by decide +kernel
theorem dX7_pay_58 : decode cX7_pay 58 = .ok (.goto 4, 3) := by decide +kernel
theorem dX7_pay_61 : decode cX7_pay 61 = .ok (.iconst 0, 1) := by decide +kernel
theorem dX7_pay_62 : decode cX7_pay 62 = .ok (.istore 4, 2) := by decide +kernel
theorem dX7_pay_64 : decode cX7_pay 64 = .ok (.iconst 0, 1) := by decide +kernel
theorem dX7_pay_65 : decode cX7_pay 65 = .ok (.istore 5, 2) := by decide +kernel
theorem dX7_pay_67 : decode cX7_pay 67 = .ok (.iload 5, 2) := by decide +kernel
theorem dX7_pay_69 : decode cX7_pay 69 = .ok (.iload_n 3, 1) := by decide +kernel
theorem dX7_pay_70 : decode cX7_pay 70 = .ok (.if_icmp .ge 83, 3) := by decide +kernel
theorem dX7_pay_73 : decode cX7_pay 73 = .ok (.iload 4, 2) := by decide +kernel
theorem dX7_pay_75 : decode cX7_pay 75 = .ok (.ifCond .ne 78, 3) := by decide +kernel
theorem dX7_pay_78 : decode cX7_pay 78 = .ok (.aload_n 0, 1) := by decide +kernel
theorem dX7_pay_79 : decode cX7_pay 79 = .ok (.getfield 55, 3) := by decide +kernel
theorem dX7_pay_82 : decode cX7_pay 82 = .ok (.iload 5, 2) := by decide +kernel
theorem dX7_pay_84 : decode cX7_pay 84 = .ok (.iaload, 1) := by decide +kernel
theorem dX7_pay_85 : decode cX7_pay 85 = .ok (.istore 6, 2) := by decide +kernel
theorem dX7_pay_87 : decode cX7_pay 87 = .ok (.aload_n 0, 1) := by decide +kernel
theorem dX7_pay_88 : decode cX7_pay 88 = .ok (.iload 6, 2) := by decide +kernel
theorem dX7_pay_90 : decode cX7_pay 90 = .ok (.invokevirtual 117, 3) := by decide +kernel
theorem dX7_pay_93 : decode cX7_pay 93 = .ok (.istore 7, 2) := by decide +kernel
theorem dX7_pay_95 : decode cX7_pay 95 = .ok (.aload_n 0, 1) := by decide +kernel
theorem dX7_pay_96 : decode cX7_pay 96 = .ok (.getfield 25, 3) := by decide +kernel
theorem dX7_pay_99 : decode cX7_pay 99 = .ok (.iload 6, 2) := by decide +kernel
theorem dX7_pay_101 : decode cX7_pay 101 = .ok (.iaload, 1) := by decide +kernel
theorem dX7_pay_102 : decode cX7_pay 102 = .ok (.iconst 1, 1) := by decide +kernel
theorem dX7_pay_103 : decode cX7_pay 103 = .ok (.if_icmp .ne 37, 3) := by decide +kernel
theorem dX7_pay_106 : decode cX7_pay 106 = .ok (.aload_n 0, 1) := by decide +kernel
theorem dX7_pay_107 : decode cX7_pay 107 = .ok (.getfield 52, 3) := by decide +kernel
theorem dX7_pay_110 : decode cX7_pay 110 = .ok (.bipush 35, 2) := by decide +kernel
theorem dX7_pay_112 : decode cX7_pay 112 = .ok (.iload 7, 2) := by decide +kernel
theorem dX7_pay_114 : decode cX7_pay 114 = .ok (.imul, 1) := by decide +kernel
theorem dX7_pay_115 : decode cX7_pay 115 = .ok (.iconst 4, 1) := by decide +kernel
theorem dX7_pay_116 : decode cX7_pay 116 = .ok (.iadd, 1) := by decide +kernel
theorem dX7_pay_117 : decode cX7_pay 117 = .ok (.aload_n 0, 1) := by decide +kernel
theorem dX7_pay_118 : decode cX7_pay 118 = .ok (.getfield 58, 3) := by decide +kernel
theorem dX7_pay_121 : decode cX7_pay 121 = .ok (.iload 5, 2) := by decide +kernel
theorem dX7_pay_123 : decode cX7_pay 123 = .ok (.iaload, 1) := by decide +kernel
theorem dX7_pay_124 : decode cX7_pay 124 = .ok (.iadd, 1) := by decide +kernel
theorem dX7_pay_125 : decode cX7_pay 125 = .ok (.iaload, 1) := by decide +kernel
theorem dX7_pay_126 : decode cX7_pay 126 = .ok (.iload_n 1, 1) := by decide +kernel
theorem dX7_pay_127 : decode cX7_pay 127 = .ok (.if_icmp .lt 13, 3) := by decide +kernel
theorem dX7_pay_130 : decode cX7_pay 130 = .ok (.aload_n 0, 1) := by decide +kernel
theorem dX7_pay_131 : decode cX7_pay 131 = .ok (.iload 7, 2) := by decide +kernel
theorem dX7_pay_133 : decode cX7_pay 133 = .ok (.invokevirtual 169, 3) := by decide +kernel
theorem dX7_pay_136 : decode cX7_pay 136 = .ok (.iconst (-1), 1) := by decide +kernel
theorem dX7_pay_137 : decode cX7_pay 137 = .ok (.if_icmp .ne 7, 3) := by decide +kernel
theorem dX7_pay_140 : decode cX7_pay 140 = .ok (.iconst 1, 1) := by decide +kernel
theorem dX7_pay_141 : decode cX7_pay 141 = .ok (.goto 4, 3) := by decide +kernel
theorem dX7_pay_144 : decode cX7_pay 144 = .ok (.iconst 0, 1) := by decide +kernel
theorem dX7_pay_145 : decode cX7_pay 145 = .ok (.istore 4, 2) := by decide +kernel
theorem dX7_pay_147 : decode cX7_pay 147 = .ok (.iinc 5 1, 3) := by decide +kernel
theorem dX7_pay_150 : decode cX7_pay 150 = .ok (.goto (-83), 3) := by decide +kernel
theorem dX7_pay_153 : decode cX7_pay 153 = .ok (.iload 4, 2) := by decide +kernel
theorem dX7_pay_155 : decode cX7_pay 155 = .ok (.ifCond .eq 6, 3) := by decide +kernel
theorem dX7_pay_158 : decode cX7_pay 158 = .ok (.bipush (-4), 2) := by decide +kernel
theorem dX7_pay_160 : decode cX7_pay 160 = .ok (.ireturn, 1) := by decide +kernel
theorem dX7_pay_161 : decode cX7_pay 161 = .ok (.aload_n 0, 1) := by decide +kernel
theorem dX7_pay_162 : decode cX7_pay 162 = .ok (.aload_n 0, 1) := by decide +kernel
theorem dX7_pay_163 : decode cX7_pay 163 = .ok (.getfield 61, 3) := by decide +kernel
theorem dX7_pay_166 : decode cX7_pay 166 = .ok (.iload_n 3, 1) := by decide +kernel
theorem dX7_pay_167 : decode cX7_pay 167 = .ok (.iconst 1, 1) := by decide +kernel
theorem dX7_pay_168 : decode cX7_pay 168 = .ok (.isub, 1) := by decide +kernel
theorem dX7_pay_169 : decode cX7_pay 169 = .ok (.iaload, 1) := by decide +kernel
theorem dX7_pay_170 : decode cX7_pay 170 = .ok (.invokevirtual 188, 3) := by decide +kernel
theorem dX7_pay_173 : decode cX7_pay 173 = .ok (.istore 5, 2) := by decide +kernel
theorem dX7_pay_175 : decode cX7_pay 175 = .ok (.iload_n 2, 1) := by decide +kernel
theorem dX7_pay_176 : decode cX7_pay 176 = .ok (.istore 6, 2) := by decide +kernel
theorem dX7_pay_178 : decode cX7_pay 178 = .ok (.iconst 0, 1) := by decide +kernel
theorem dX7_pay_179 : decode cX7_pay 179 = .ok (.istore 7, 2) := by decide +kernel
theorem dX7_pay_181 : decode cX7_pay 181 = .ok (.iload 7, 2) := by decide +kernel
theorem dX7_pay_183 : decode cX7_pay 183 = .ok (.iload_n 3, 1) := by decide +kernel
theorem dX7_pay_184 : decode cX7_pay 184 = .ok (.iconst 1, 1) := by decide +kernel
theorem dX7_pay_185 : decode cX7_pay 185 = .ok (.isub, 1) := by decide +kernel
theorem dX7_pay_186 : decode cX7_pay 186 = .ok (.if_icmp .ge 28, 3) := by decide +kernel
theorem dX7_pay_189 : decode cX7_pay 189 = .ok (.iload 6, 2) := by decide +kernel
theorem dX7_pay_191 : decode cX7_pay 191 = .ok (.aload_n 0, 1) := by decide +kernel
theorem dX7_pay_192 : decode cX7_pay 192 = .ok (.getfield 19, 3) := by decide +kernel
theorem dX7_pay_195 : decode cX7_pay 195 = .ok (.aload_n 0, 1) := by decide +kernel
theorem dX7_pay_196 : decode cX7_pay 196 = .ok (.getfield 55, 3) := by decide +kernel
theorem dX7_pay_199 : decode cX7_pay 199 = .ok (.iload 7, 2) := by decide +kernel
theorem dX7_pay_201 : decode cX7_pay 201 = .ok (.iaload, 1) := by decide +kernel
theorem dX7_pay_202 : decode cX7_pay 202 = .ok (.iaload, 1) := by decide +kernel
theorem dX7_pay_203 : decode cX7_pay 203 = .ok (.iconst 1, 1) := by decide +kernel
theorem dX7_pay_204 : decode cX7_pay 204 = .ok (.iadd, 1) := by decide +kernel
theorem dX7_pay_205 : decode cX7_pay 205 = .ok (.iadd, 1) := by decide +kernel
theorem dX7_pay_206 : decode cX7_pay 206 = .ok (.istore 6, 2) := by decide +kernel
theorem dX7_pay_208 : decode cX7_pay 208 = .ok (.iinc 7 1, 3) := by decide +kernel
theorem dX7_pay_211 : decode cX7_pay 211 = .ok (.goto (-30), 3) := by decide +kernel
theorem dX7_pay_214 : decode cX7_pay 214 = .ok (.iconst 0, 1) := by decide +kernel
theorem dX7_pay_215 : decode cX7_pay 215 = .ok (.istore 7, 2) := by decide +kernel
theorem dX7_pay_217 : decode cX7_pay 217 = .ok (.iload 7, 2) := by decide +kernel
theorem dX7_pay_219 : decode cX7_pay 219 = .ok (.iload_n 3, 1) := by decide +kernel
theorem dX7_pay_220 : decode cX7_pay 220 = .ok (.if_icmp .ge 86, 3) := by decide +kernel
theorem dX7_pay_223 : decode cX7_pay 223 = .ok (.aload_n 0, 1) := by decide +kernel
theorem dX7_pay_224 : decode cX7_pay 224 = .ok (.getfield 55, 3) := by decide +kernel
theorem dX7_pay_227 : decode cX7_pay 227 = .ok (.iload 7, 2) := by decide +kernel
theorem dX7_pay_229 : decode cX7_pay 229 = .ok (.iaload, 1) := by decide +kernel
theorem dX7_pay_230 : decode cX7_pay 230 = .ok (.istore 8, 2) := by decide +kernel
theorem dX7_pay_232 : decode cX7_pay 232 = .ok (.aload_n 0, 1) := by decide +kernel
theorem dX7_pay_233 : decode cX7_pay 233 = .ok (.iload 8, 2) := by decide +kernel
theorem dX7_pay_235 : decode cX7_pay 235 = .ok (.invokevirtual 152, 3) := by decide +kernel
theorem dX7_pay_238 : decode cX7_pay 238 = .ok (.istore 9, 2) := by decide +kernel
theorem dX7_pay_240 : decode cX7_pay 240 = .ok (.aload_n 0, 1) := by decide +kernel
theorem dX7_pay_241 : decode cX7_pay 241 = .ok (.iload 9, 2) := by decide +kernel
theorem dX7_pay_243 : decode cX7_pay 243 = .ok (.aload_n 0, 1) := by decide +kernel
theorem dX7_pay_244 : decode cX7_pay 244 = .ok (.getfield 58, 3) := by decide +kernel
theorem dX7_pay_247 : decode cX7_pay 247 = .ok (.iload 7, 2) := by decide +kernel
theorem dX7_pay_249 : decode cX7_pay 249 = .ok (.iaload, 1) := by decide +kernel
theorem dX7_pay_250 : decode cX7_pay 250 = .ok (.aload_n 0, 1) := by decide +kernel
theorem dX7_pay_251 : decode cX7_pay 251 = .ok (.getfield 61, 3) := by decide +kernel
theorem dX7_pay_254 : decode cX7_pay 254 = .ok (.iload 7, 2) := by decide +kernel
theorem dX7_pay_256 : decode cX7_pay 256 = .ok (.iaload, 1) := by decide +kernel
theorem dX7_pay_257 : decode cX7_pay 257 = .ok (.iload_n 1, 1) := by decide +kernel
theorem dX7_pay_258 : decode cX7_pay 258 = .ok (.iload 5, 2) := by decide +kernel
theorem dX7_pay_260 : decode cX7_pay 260 = .ok (.iload 6, 2) := by decide +kernel
theorem dX7_pay_262 : decode cX7_pay 262 = .ok (.invokevirtual 172, 3) := by decide +kernel
theorem dX7_pay_265 : decode cX7_pay 265 = .ok (.istore 10, 2) := by decide +kernel
theorem dX7_pay_267 : decode cX7_pay 267 = .ok (.aload_n 0, 1) := by decide +kernel
theorem dX7_pay_268 : decode cX7_pay 268 = .ok (.getfield 52, 3) := by decide +kernel
theorem dX7_pay_271 : decode cX7_pay 271 = .ok (.bipush 35, 2) := by decide +kernel
theorem dX7_pay_273 : decode cX7_pay 273 = .ok (.iload 9, 2) := by decide +kernel
theorem dX7_pay_275 : decode cX7_pay 275 = .ok (.imul, 1) := by decide +kernel
theorem dX7_pay_276 : decode cX7_pay 276 = .ok (.iconst 2, 1) := by decide +kernel
theorem dX7_pay_277 : decode cX7_pay 277 = .ok (.iadd, 1) := by decide +kernel
theorem dX7_pay_278 : decode cX7_pay 278 = .ok (.aload_n 0, 1) := by decide +kernel
theorem dX7_pay_279 : decode cX7_pay 279 = .ok (.getfield 16, 3) := by decide +kernel
theorem dX7_pay_282 : decode cX7_pay 282 = .ok (.iload 8, 2) := by decide +kernel
theorem dX7_pay_284 : decode cX7_pay 284 = .ok (.iaload, 1) := by decide +kernel
theorem dX7_pay_285 : decode cX7_pay 285 = .ok (.iastore, 1) := by decide +kernel
theorem dX7_pay_286 : decode cX7_pay 286 = .ok (.iload 6, 2) := by decide +kernel
theorem dX7_pay_288 : decode cX7_pay 288 = .ok (.aload_n 0, 1) := by decide +kernel
theorem dX7_pay_289 : decode cX7_pay 289 = .ok (.getfield 19, 3) := by decide +kernel
theorem dX7_pay_292 : decode cX7_pay 292 = .ok (.iload 8, 2) := by decide +kernel
theorem dX7_pay_294 : decode cX7_pay 294 = .ok (.iaload, 1) := by decide +kernel
theorem dX7_pay_295 : decode cX7_pay 295 = .ok (.iconst 1, 1) := by decide +kernel
theorem dX7_pay_296 : decode cX7_pay 296 = .ok (.iadd, 1) := by decide +kernel
theorem dX7_pay_297 : decode cX7_pay 297 = .ok (.isub, 1) := by decide +kernel
theorem dX7_pay_298 : decode cX7_pay 298 = .ok (.istore 6, 2) := by decide +kernel
theorem dX7_pay_300 : decode cX7_pay 300 = .ok (.iinc 7 1, 3) := by decide +kernel
theorem dX7_pay_303 : decode cX7_pay 303 = .ok (.goto (-86), 3) := by decide +kernel
theorem dX7_pay_306 : decode cX7_pay 306 = .ok (.iload 5, 2) := by decide +kernel
theorem dX7_pay_308 : decode cX7_pay 308 = .ok (.ireturn, 1) := by decide +kernel
theorem dX7_account_0 : decode cX7_account 0 = .ok (.iload_n 1, 1) := by decide +kernel
theorem dX7_account_1 : decode cX7_account 1 = .ok (.invokestatic 75, 3) := by decide +kernel
theorem dX7_account_4 : decode cX7_account 4 = .ok (.ifCond .eq 12, 3) := by decide +kernel
theorem dX7_account_7 : decode cX7_account 7 = .ok (.aload_n 0, 1) := by decide +kernel
theorem dX7_account_8 : decode cX7_account 8 = .ok (.getfield 7, 3) := by decide +kernel
theorem dX7_account_11 : decode cX7_account 11 = .ok (.iload_n 1, 1) := by decide +kernel
theorem dX7_account_12 : decode cX7_account 12 = .ok (.iaload, 1) := by decide +kernel
theorem dX7_account_13 : decode cX7_account 13 = .ok (.goto 4, 3) := by decide +kernel
theorem dX7_account_16 : decode cX7_account 16 = .ok (.iconst (-1), 1) := by decide +kernel
theorem dX7_account_17 : decode cX7_account 17 = .ok (.ireturn, 1) := by decide +kernel
theorem dX7_told_0 : decode cX7_told 0 = .ok (.aload_n 0, 1) := by decide +kernel
theorem dX7_told_1 : decode cX7_told 1 = .ok (.iload_n 1, 1) := by decide +kernel
theorem dX7_told_2 : decode cX7_told 2 = .ok (.invokevirtual 149, 3) := by decide +kernel
theorem dX7_told_5 : decode cX7_told 5 = .ok (.ifCond .ne 5, 3) := by decide +kernel
theorem dX7_told_8 : decode cX7_told 8 = .ok (.iconst (-1), 1) := by decide +kernel
theorem dX7_told_9 : decode cX7_told 9 = .ok (.ireturn, 1) := by decide +kernel
theorem dX7_told_10 : decode cX7_told 10 = .ok (.aload_n 0, 1) := by decide +kernel
theorem dX7_told_11 : decode cX7_told 11 = .ok (.getfield 37, 3) := by decide +kernel
theorem dX7_told_14 : decode cX7_told 14 = .ok (.iload_n 1, 1) := by decide +kernel
theorem dX7_told_15 : decode cX7_told 15 = .ok (.iaload, 1) := by decide +kernel
theorem dX7_told_16 : decode cX7_told 16 = .ok (.ifCond .le 7, 3) := by decide +kernel
theorem dX7_told_19 : decode cX7_told 19 = .ok (.iconst 1, 1) := by decide +kernel
theorem dX7_told_20 : decode cX7_told 20 = .ok (.goto 4, 3) := by decide +kernel
theorem dX7_told_23 : decode cX7_told 23 = .ok (.iconst 0, 1) := by decide +kernel
theorem dX7_told_24 : decode cX7_told 24 = .ok (.istore_n 3, 1) := by decide +kernel
theorem dX7_told_25 : decode cX7_told 25 = .ok (.iload_n 2, 1) := by decide +kernel
theorem dX7_told_26 : decode cX7_told 26 = .ok (.tableswitch 197 0 11 #[62, 69, 76, 83, 90, 110, 117, 138, 145, 160, 175, 190], 62) := by decide +kernel
theorem dX7_told_88 : decode cX7_told 88 = .ok (.aload_n 0, 1) := by decide +kernel
theorem dX7_told_89 : decode cX7_told 89 = .ok (.getfield 25, 3) := by decide +kernel
theorem dX7_told_92 : decode cX7_told 92 = .ok (.iload_n 1, 1) := by decide +kernel
theorem dX7_told_93 : decode cX7_told 93 = .ok (.iaload, 1) := by decide +kernel
theorem dX7_told_94 : decode cX7_told 94 = .ok (.ireturn, 1) := by decide +kernel
theorem dX7_told_95 : decode cX7_told 95 = .ok (.aload_n 0, 1) := by decide +kernel
theorem dX7_told_96 : decode cX7_told 96 = .ok (.getfield 22, 3) := by decide +kernel
theorem dX7_told_99 : decode cX7_told 99 = .ok (.iload_n 1, 1) := by decide +kernel
theorem dX7_told_100 : decode cX7_told 100 = .ok (.iaload, 1) := by decide +kernel
theorem dX7_told_101 : decode cX7_told 101 = .ok (.ireturn, 1) := by decide +kernel
theorem dX7_told_102 : decode cX7_told 102 = .ok (.aload_n 0, 1) := by decide +kernel
theorem dX7_told_103 : decode cX7_told 103 = .ok (.getfield 19, 3) := by decide +kernel
theorem dX7_told_106 : decode cX7_told 106 = .ok (.iload_n 1, 1) := by decide +kernel
theorem dX7_told_107 : decode cX7_told 107 = .ok (.iaload, 1) := by decide +kernel
theorem dX7_told_108 : decode cX7_told 108 = .ok (.ireturn, 1) := by decide +kernel
theorem dX7_told_109 : decode cX7_told 109 = .ok (.aload_n 0, 1) := by decide +kernel
theorem dX7_told_110 : decode cX7_told 110 = .ok (.getfield 16, 3) := by decide +kernel
theorem dX7_told_113 : decode cX7_told 113 = .ok (.iload_n 1, 1) := by decide +kernel
theorem dX7_told_114 : decode cX7_told 114 = .ok (.iaload, 1) := by decide +kernel
theorem dX7_told_115 : decode cX7_told 115 = .ok (.ireturn, 1) := by decide +kernel
theorem dX7_told_116 : decode cX7_told 116 = .ok (.aload_n 0, 1) := by decide +kernel
theorem dX7_told_117 : decode cX7_told 117 = .ok (.getfield 25, 3) := by decide +kernel
theorem dX7_told_120 : decode cX7_told 120 = .ok (.iload_n 1, 1) := by decide +kernel
theorem dX7_told_121 : decode cX7_told 121 = .ok (.iaload, 1) := by decide +kernel
theorem dX7_told_122 : decode cX7_told 122 = .ok (.iconst 3, 1) := by decide +kernel
theorem dX7_told_123 : decode cX7_told 123 = .ok (.if_icmp .ne 7, 3) := by decide +kernel
theorem dX7_told_126 : decode cX7_told 126 = .ok (.iconst (-1), 1) := by decide +kernel
theorem dX7_told_127 : decode cX7_told 127 = .ok (.goto 8, 3) := by decide +kernel
theorem dX7_told_130 : decode cX7_told 130 = .ok (.aload_n 0, 1) := by decide +kernel
theorem dX7_told_131 : decode cX7_told 131 = .ok (.iload_n 1, 1) := by decide +kernel
theorem dX7_told_132 : decode cX7_told 132 = .ok (.invokevirtual 117, 3) := by decide +kernel
theorem dX7_told_135 : decode cX7_told 135 = .ok (.ireturn, 1) := by decide +kernel
theorem dX7_told_136 : decode cX7_told 136 = .ok (.aload_n 0, 1) := by decide +kernel
theorem dX7_told_137 : decode cX7_told 137 = .ok (.getfield 28, 3) := by decide +kernel
theorem dX7_told_140 : decode cX7_told 140 = .ok (.iload_n 1, 1) := by decide +kernel
theorem dX7_told_141 : decode cX7_told 141 = .ok (.iaload, 1) := by decide +kernel
theorem dX7_told_142 : decode cX7_told 142 = .ok (.ireturn, 1) := by decide +kernel
theorem dX7_told_143 : decode cX7_told 143 = .ok (.aload_n 0, 1) := by decide +kernel
theorem dX7_told_144 : decode cX7_told 144 = .ok (.getfield 25, 3) := by decide +kernel
theorem dX7_told_147 : decode cX7_told 147 = .ok (.iload_n 1, 1) := by decide +kernel
theorem dX7_told_148 : decode cX7_told 148 = .ok (.iaload, 1) := by decide +kernel
theorem dX7_told_149 : decode cX7_told 149 = .ok (.iconst 2, 1) := by decide +kernel
theorem dX7_told_150 : decode cX7_told 150 = .ok (.if_icmp .ne 12, 3) := by decide +kernel
theorem dX7_told_153 : decode cX7_told 153 = .ok (.aload_n 0, 1) := by decide +kernel
theorem dX7_told_154 : decode cX7_told 154 = .ok (.getfield 31, 3) := by decide +kernel
theorem dX7_told_157 : decode cX7_told 157 = .ok (.iload_n 1, 1) := by decide +kernel
theorem dX7_told_158 : decode cX7_told 158 = .ok (.iaload, 1) := by decide +kernel
theorem dX7_told_159 : decode cX7_told 159 = .ok (.goto 4, 3) := by decide +kernel
theorem dX7_told_162 : decode cX7_told 162 = .ok (.iconst 0, 1) := by decide +kernel
theorem dX7_told_163 : decode cX7_told 163 = .ok (.ireturn, 1) := by decide +kernel
theorem dX7_told_164 : decode cX7_told 164 = .ok (.aload_n 0, 1) := by decide +kernel
theorem dX7_told_165 : decode cX7_told 165 = .ok (.getfield 34, 3) := by decide +kernel
theorem dX7_told_168 : decode cX7_told 168 = .ok (.iload_n 1, 1) := by decide +kernel
theorem dX7_told_169 : decode cX7_told 169 = .ok (.iaload, 1) := by decide +kernel
theorem dX7_told_170 : decode cX7_told 170 = .ok (.ireturn, 1) := by decide +kernel
theorem dX7_told_171 : decode cX7_told 171 = .ok (.iload_n 3, 1) := by decide +kernel
theorem dX7_told_172 : decode cX7_told 172 = .ok (.ifCond .eq 12, 3) := by decide +kernel
theorem dX7_told_175 : decode cX7_told 175 = .ok (.aload_n 0, 1) := by decide +kernel
theorem dX7_told_176 : decode cX7_told 176 = .ok (.getfield 43, 3) := by decide +kernel
theorem dX7_told_179 : decode cX7_told 179 = .ok (.iload_n 1, 1) := by decide +kernel
theorem dX7_told_180 : decode cX7_told 180 = .ok (.iaload, 1) := by decide +kernel
theorem dX7_told_181 : decode cX7_told 181 = .ok (.goto 4, 3) := by decide +kernel
theorem dX7_told_184 : decode cX7_told 184 = .ok (.iconst (-1), 1) := by decide +kernel
theorem dX7_told_185 : decode cX7_told 185 = .ok (.ireturn, 1) := by decide +kernel
theorem dX7_told_186 : decode cX7_told 186 = .ok (.iload_n 3, 1) := by decide +kernel
theorem dX7_told_187 : decode cX7_told 187 = .ok (.ifCond .eq 12, 3) := by decide +kernel
theorem dX7_told_190 : decode cX7_told 190 = .ok (.aload_n 0, 1) := by decide +kernel
theorem dX7_told_191 : decode cX7_told 191 = .ok (.getfield 40, 3) := by decide +kernel
theorem dX7_told_194 : decode cX7_told 194 = .ok (.iload_n 1, 1) := by decide +kernel
theorem dX7_told_195 : decode cX7_told 195 = .ok (.iaload, 1) := by decide +kernel
theorem dX7_told_196 : decode cX7_told 196 = .ok (.goto 4, 3) := by decide +kernel
theorem dX7_told_199 : decode cX7_told 199 = .ok (.iconst 0, 1) := by decide +kernel
theorem dX7_told_200 : decode cX7_told 200 = .ok (.ireturn, 1) := by decide +kernel
theorem dX7_told_201 : decode cX7_told 201 = .ok (.iload_n 3, 1) := by decide +kernel
theorem dX7_told_202 : decode cX7_told 202 = .ok (.ifCond .eq 12, 3) := by decide +kernel
theorem dX7_told_205 : decode cX7_told 205 = .ok (.aload_n 0, 1) := by decide +kernel
theorem dX7_told_206 : decode cX7_told 206 = .ok (.getfield 49, 3) := by decide +kernel
theorem dX7_told_209 : decode cX7_told 209 = .ok (.iload_n 1, 1) := by decide +kernel
theorem dX7_told_210 : decode cX7_told 210 = .ok (.iaload, 1) := by decide +kernel
theorem dX7_told_211 : decode cX7_told 211 = .ok (.goto 4, 3) := by decide +kernel
theorem dX7_told_214 : decode cX7_told 214 = .ok (.iconst 0, 1) := by decide +kernel
theorem dX7_told_215 : decode cX7_told 215 = .ok (.ireturn, 1) := by decide +kernel
theorem dX7_told_216 : decode cX7_told 216 = .ok (.aload_n 0, 1) := by decide +kernel
theorem dX7_told_217 : decode cX7_told 217 = .ok (.getfield 37, 3) := by decide +kernel
theorem dX7_told_220 : decode cX7_told 220 = .ok (.iload_n 1, 1) := by decide +kernel
theorem dX7_told_221 : decode cX7_told 221 = .ok (.iaload, 1) := by decide +kernel
theorem dX7_told_222 : decode cX7_told 222 = .ok (.ireturn, 1) := by decide +kernel
theorem dX7_told_223 : decode cX7_told 223 = .ok (.iconst (-1), 1) := by decide +kernel
theorem dX7_told_224 : decode cX7_told 224 = .ok (.ireturn, 1) := by decide +kernel
theorem dX7_of_0 : decode cX7_of 0 = .ok (.aload_n 0, 1) := by decide +kernel
theorem dX7_of_1 : decode cX7_of 1 = .ok (.iload_n 1, 1) := by decide +kernel
theorem dX7_of_2 : decode cX7_of 2 = .ok (.invokevirtual 83, 3) := by decide +kernel
theorem dX7_of_5 : decode cX7_of 5 = .ok (.ifCond .ne 5, 3) := by decide +kernel
theorem dX7_of_8 : decode cX7_of 8 = .ok (.iconst (-1), 1) := by decide +kernel
theorem dX7_of_9 : decode cX7_of 9 = .ok (.ireturn, 1) := by decide +kernel
theorem dX7_of_10 : decode cX7_of 10 = .ok (.bipush 35, 2) := by decide +kernel
theorem dX7_of_12 : decode cX7_of 12 = .ok (.iload_n 1, 1) := by decide +kernel
theorem dX7_of_13 : decode cX7_of 13 = .ok (.imul, 1) := by decide +kernel
theorem dX7_of_14 : decode cX7_of 14 = .ok (.istore_n 3, 1) := by decide +kernel
theorem dX7_of_15 : decode cX7_of 15 = .ok (.iload_n 2, 1) := by decide +kernel
theorem dX7_of_16 : decode cX7_of 16 = .ok (.tableswitch 152 0 9 #[56, 65, 74, 83, 92, 106, 112, 122, 132, 142], 56) := by decide +kernel
theorem dX7_of_72 : decode cX7_of 72 = .ok (.aload_n 0, 1) := by decide +kernel
theorem dX7_of_73 : decode cX7_of 73 = .ok (.getfield 52, 3) := by decide +kernel
theorem dX7_of_76 : decode cX7_of 76 = .ok (.iload_n 3, 1) := by decide +kernel
theorem dX7_of_77 : decode cX7_of 77 = .ok (.iconst 0, 1) := by decide +kernel
theorem dX7_of_78 : decode cX7_of 78 = .ok (.iadd, 1) := by decide +kernel
theorem dX7_of_79 : decode cX7_of 79 = .ok (.iaload, 1) := by decide +kernel
theorem dX7_of_80 : decode cX7_of 80 = .ok (.ireturn, 1) := by decide +kernel
theorem dX7_of_81 : decode cX7_of 81 = .ok (.aload_n 0, 1) := by decide +kernel
theorem dX7_of_82 : decode cX7_of 82 = .ok (.getfield 52, 3) := by decide +kernel
theorem dX7_of_85 : decode cX7_of 85 = .ok (.iload_n 3, 1) := by decide +kernel
theorem dX7_of_86 : decode cX7_of 86 = .ok (.iconst 1, 1) := by decide +kernel
theorem dX7_of_87 : decode cX7_of 87 = .ok (.iadd, 1) := by decide +kernel
theorem dX7_of_88 : decode cX7_of 88 = .ok (.iaload, 1) := by decide +kernel
theorem dX7_of_89 : decode cX7_of 89 = .ok (.ireturn, 1) := by decide +kernel
theorem dX7_of_90 : decode cX7_of 90 = .ok (.aload_n 0, 1) := by decide +kernel
theorem dX7_of_91 : decode cX7_of 91 = .ok (.getfield 52, 3) := by decide +kernel
theorem dX7_of_94 : decode cX7_of 94 = .ok (.iload_n 3, 1) := by decide +kernel
theorem dX7_of_95 : decode cX7_of 95 = .ok (.iconst 2, 1) := by decide +kernel
theorem dX7_of_96 : decode cX7_of 96 = .ok (.iadd, 1) := by decide +kernel
theorem dX7_of_97 : decode cX7_of 97 = .ok (.iaload, 1) := by decide +kernel
theorem dX7_of_98 : decode cX7_of 98 = .ok (.ireturn, 1) := by decide +kernel
theorem dX7_of_99 : decode cX7_of 99 = .ok (.aload_n 0, 1) := by decide +kernel
theorem dX7_of_100 : decode cX7_of 100 = .ok (.getfield 52, 3) := by decide +kernel
theorem dX7_of_103 : decode cX7_of 103 = .ok (.iload_n 3, 1) := by decide +kernel
theorem dX7_of_104 : decode cX7_of 104 = .ok (.iconst 3, 1) := by decide +kernel
theorem dX7_of_105 : decode cX7_of 105 = .ok (.iadd, 1) := by decide +kernel
theorem dX7_of_106 : decode cX7_of 106 = .ok (.iaload, 1) := by decide +kernel
theorem dX7_of_107 : decode cX7_of 107 = .ok (.ireturn, 1) := by decide +kernel
theorem dX7_of_108 : decode cX7_of 108 = .ok (.aload_n 0, 1) := by decide +kernel
theorem dX7_of_109 : decode cX7_of 109 = .ok (.iload_n 1, 1) := by decide +kernel
theorem dX7_of_110 : decode cX7_of 110 = .ok (.invokevirtual 100, 3) := by decide +kernel
theorem dX7_of_113 : decode cX7_of 113 = .ok (.ifCond .eq 7, 3) := by decide +kernel
theorem dX7_of_116 : decode cX7_of 116 = .ok (.iconst 1, 1) := by decide +kernel
theorem dX7_of_117 : decode cX7_of 117 = .ok (.goto 4, 3) := by decide +kernel
theorem dX7_of_120 : decode cX7_of 120 = .ok (.iconst 0, 1) := by decide +kernel
theorem dX7_of_121 : decode cX7_of 121 = .ok (.ireturn, 1) := by decide +kernel
theorem dX7_of_122 : decode cX7_of 122 = .ok (.aload_n 0, 1) := by decide +kernel
theorem dX7_of_123 : decode cX7_of 123 = .ok (.iload_n 1, 1) := by decide +kernel
theorem dX7_of_124 : decode cX7_of 124 = .ok (.invokevirtual 97, 3) := by decide +kernel
theorem dX7_of_127 : decode cX7_of 127 = .ok (.ireturn, 1) := by decide +kernel
theorem dX7_of_128 : decode cX7_of 128 = .ok (.aload_n 0, 1) := by decide +kernel
theorem dX7_of_129 : decode cX7_of 129 = .ok (.getfield 52, 3) := by decide +kernel
theorem dX7_of_132 : decode cX7_of 132 = .ok (.iload_n 3, 1) := by decide +kernel
theorem dX7_of_133 : decode cX7_of 133 = .ok (.bipush 33, 2) := by decide +kernel
theorem dX7_of_135 : decode cX7_of 135 = .ok (.iadd, 1) := by decide +kernel
theorem dX7_of_136 : decode cX7_of 136 = .ok (.iaload, 1) := by decide +kernel
theorem dX7_of_137 : decode cX7_of 137 = .ok (.ireturn, 1) := by decide +kernel
theorem dX7_of_138 : decode cX7_of 138 = .ok (.aload_n 0, 1) := by decide +kernel
theorem dX7_of_139 : decode cX7_of 139 = .ok (.getfield 52, 3) := by decide +kernel
theorem dX7_of_142 : decode cX7_of 142 = .ok (.iload_n 3, 1) := by decide +kernel
theorem dX7_of_143 : decode cX7_of 143 = .ok (.bipush 34, 2) := by decide +kernel
theorem dX7_of_145 : decode cX7_of 145 = .ok (.iadd, 1) := by decide +kernel
theorem dX7_of_146 : decode cX7_of 146 = .ok (.iaload, 1) := by decide +kernel
theorem dX7_of_147 : decode cX7_of 147 = .ok (.ireturn, 1) := by decide +kernel
theorem dX7_of_148 : decode cX7_of 148 = .ok (.aload_n 0, 1) := by decide +kernel
theorem dX7_of_149 : decode cX7_of 149 = .ok (.getfield 52, 3) := by decide +kernel
theorem dX7_of_152 : decode cX7_of 152 = .ok (.iload_n 3, 1) := by decide +kernel
theorem dX7_of_153 : decode cX7_of 153 = .ok (.bipush 31, 2) := by decide +kernel
theorem dX7_of_155 : decode cX7_of 155 = .ok (.iadd, 1) := by decide +kernel
theorem dX7_of_156 : decode cX7_of 156 = .ok (.iaload, 1) := by decide +kernel
theorem dX7_of_157 : decode cX7_of 157 = .ok (.ireturn, 1) := by decide +kernel
theorem dX7_of_158 : decode cX7_of 158 = .ok (.aload_n 0, 1) := by decide +kernel
theorem dX7_of_159 : decode cX7_of 159 = .ok (.getfield 52, 3) := by decide +kernel
theorem dX7_of_162 : decode cX7_of 162 = .ok (.iload_n 3, 1) := by decide +kernel
theorem dX7_of_163 : decode cX7_of 163 = .ok (.bipush 32, 2) := by decide +kernel
theorem dX7_of_165 : decode cX7_of 165 = .ok (.iadd, 1) := by decide +kernel
theorem dX7_of_166 : decode cX7_of 166 = .ok (.iaload, 1) := by decide +kernel
theorem dX7_of_167 : decode cX7_of 167 = .ok (.ireturn, 1) := by decide +kernel
theorem dX7_of_168 : decode cX7_of 168 = .ok (.iconst (-1), 1) := by decide +kernel
theorem dX7_of_169 : decode cX7_of 169 = .ok (.ireturn, 1) := by decide +kernel
theorem dX7_share_0 : decode cX7_share 0 = .ok (.aload_n 0, 1) := by decide +kernel
theorem dX7_share_1 : decode cX7_share 1 = .ok (.iload_n 1, 1) := by decide +kernel
theorem dX7_share_2 : decode cX7_share 2 = .ok (.iload_n 2, 1) := by decide +kernel
theorem dX7_share_3 : decode cX7_share 3 = .ok (.invokevirtual 155, 3) := by decide +kernel
theorem dX7_share_6 : decode cX7_share 6 = .ok (.ifCond .eq 12, 3) := by decide +kernel
theorem dX7_share_9 : decode cX7_share 9 = .ok (.iload_n 3, 1) := by decide +kernel
theorem dX7_share_10 : decode cX7_share 10 = .ok (.iconst 0, 1) := by decide +kernel
theorem dX7_share_11 : decode cX7_share 11 = .ok (.iconst 1, 1) := by decide +kernel
theorem dX7_share_12 : decode cX7_share 12 = .ok (.invokestatic 64, 3) := by decide +kernel
theorem dX7_share_15 : decode cX7_share 15 = .ok (.ifCond .ne 5, 3) := by decide +kernel
theorem dX7_share_18 : decode cX7_share 18 = .ok (.iconst (-1), 1) := by decide +kernel
theorem dX7_share_19 : decode cX7_share 19 = .ok (.ireturn, 1) := by decide +kernel
theorem dX7_share_20 : decode cX7_share 20 = .ok (.aload_n 0, 1) := by decide +kernel
theorem dX7_share_21 : decode cX7_share 21 = .ok (.getfield 52, 3) := by decide +kernel
theorem dX7_share_24 : decode cX7_share 24 = .ok (.bipush 35, 2) := by decide +kernel
theorem dX7_share_26 : decode cX7_share 26 = .ok (.iload_n 1, 1) := by decide +kernel
theorem dX7_share_27 : decode cX7_share 27 = .ok (.imul, 1) := by decide +kernel
theorem dX7_share_28 : decode cX7_share 28 = .ok (.iload_n 3, 1) := by decide +kernel
theorem dX7_share_29 : decode cX7_share 29 = .ok (.ifCond .ne 7, 3) := by decide +kernel
theorem dX7_share_32 : decode cX7_share 32 = .ok (.iconst 4, 1) := by decide +kernel
theorem dX7_share_33 : decode cX7_share 33 = .ok (.goto 5, 3) := by decide +kernel
theorem dX7_share_36 : decode cX7_share 36 = .ok (.bipush 10, 2) := by decide +kernel
theorem dX7_share_38 : decode cX7_share 38 = .ok (.iadd, 1) := by decide +kernel
theorem dX7_share_39 : decode cX7_share 39 = .ok (.iload_n 2, 1) := by decide +kernel
theorem dX7_share_40 : decode cX7_share 40 = .ok (.iadd, 1) := by decide +kernel
theorem dX7_share_41 : decode cX7_share 41 = .ok (.iaload, 1) := by decide +kernel
theorem dX7_share_42 : decode cX7_share 42 = .ok (.ireturn, 1) := by decide +kernel
theorem dX7_locked_0 : decode cX7_locked 0 = .ok (.aload_n 0, 1) := by decide +kernel
theorem dX7_locked_1 : decode cX7_locked 1 = .ok (.iload_n 1, 1) := by decide +kernel
theorem dX7_locked_2 : decode cX7_locked 2 = .ok (.iload_n 2, 1) := by decide +kernel
theorem dX7_locked_3 : decode cX7_locked 3 = .ok (.invokevirtual 176, 3) := by decide +kernel
theorem dX7_locked_6 : decode cX7_locked 6 = .ok (.ifCond .eq 12, 3) := by decide +kernel
theorem dX7_locked_9 : decode cX7_locked 9 = .ok (.iload_n 3, 1) := by decide +kernel
theorem dX7_locked_10 : decode cX7_locked 10 = .ok (.iconst 0, 1) := by decide +kernel
theorem dX7_locked_11 : decode cX7_locked 11 = .ok (.iconst 4, 1) := by decide +kernel
theorem dX7_locked_12 : decode cX7_locked 12 = .ok (.invokestatic 64, 3) := by decide +kernel
theorem dX7_locked_15 : decode cX7_locked 15 = .ok (.ifCond .ne 5, 3) := by decide +kernel
theorem dX7_locked_18 : decode cX7_locked 18 = .ok (.iconst (-1), 1) := by decide +kernel
theorem dX7_locked_19 : decode cX7_locked 19 = .ok (.ireturn, 1) := by decide +kernel
theorem dX7_locked_20 : decode cX7_locked 20 = .ok (.iload_n 1, 1) := by decide +kernel
theorem dX7_locked_21 : decode cX7_locked 21 = .ok (.iload_n 2, 1) := by decide +kernel
theorem dX7_locked_22 : decode cX7_locked 22 = .ok (.invokestatic 93, 3) := by decide +kernel
theorem dX7_locked_25 : decode cX7_locked 25 = .ok (.istore 4, 2) := by decide +kernel
theorem dX7_locked_27 : decode cX7_locked 27 = .ok (.iload_n 3, 1) := by decide +kernel
theorem dX7_locked_28 : decode cX7_locked 28 = .ok (.ifCond .ne 15, 3) := by decide +kernel
theorem dX7_locked_31 : decode cX7_locked 31 = .ok (.aload_n 0, 1) := by decide +kernel
theorem dX7_locked_32 : decode cX7_locked 32 = .ok (.getfield 52, 3) := by decide +kernel
theorem dX7_locked_35 : decode cX7_locked 35 = .ok (.iload 4, 2) := by decide +kernel
theorem dX7_locked_37 : decode cX7_locked 37 = .ok (.iconst 1, 1) := by decide +kernel
theorem dX7_locked_38 : decode cX7_locked 38 = .ok (.iadd, 1) := by decide +kernel
theorem dX7_locked_39 : decode cX7_locked 39 = .ok (.iaload, 1) := by decide +kernel
theorem dX7_locked_40 : decode cX7_locked 40 = .ok (.goto 46, 3) := by decide +kernel
theorem dX7_locked_43 : decode cX7_locked 43 = .ok (.iload_n 3, 1) := by decide +kernel
theorem dX7_locked_44 : decode cX7_locked 44 = .ok (.iconst 1, 1) := by decide +kernel
theorem dX7_locked_45 : decode cX7_locked 45 = .ok (.if_icmp .ne 15, 3) := by decide +kernel
theorem dX7_locked_48 : decode cX7_locked 48 = .ok (.aload_n 0, 1) := by decide +kernel
theorem dX7_locked_49 : decode cX7_locked 49 = .ok (.getfield 52, 3) := by decide +kernel
theorem dX7_locked_52 : decode cX7_locked 52 = .ok (.iload 4, 2) := by decide +kernel
theorem dX7_locked_54 : decode cX7_locked 54 = .ok (.iconst 2, 1) := by decide +kernel
theorem dX7_locked_55 : decode cX7_locked 55 = .ok (.iadd, 1) := by decide +kernel
theorem dX7_locked_56 : decode cX7_locked 56 = .ok (.iaload, 1) := by decide +kernel
theorem dX7_locked_57 : decode cX7_locked 57 = .ok (.goto 29, 3) := by decide +kernel
theorem dX7_locked_60 : decode cX7_locked 60 = .ok (.iload_n 3, 1) := by decide +kernel
theorem dX7_locked_61 : decode cX7_locked 61 = .ok (.iconst 2, 1) := by decide +kernel
theorem dX7_locked_62 : decode cX7_locked 62 = .ok (.if_icmp .ne 15, 3) := by decide +kernel
theorem dX7_locked_65 : decode cX7_locked 65 = .ok (.aload_n 0, 1) := by decide +kernel
theorem dX7_locked_66 : decode cX7_locked 66 = .ok (.getfield 52, 3) := by decide +kernel
theorem dX7_locked_69 : decode cX7_locked 69 = .ok (.iload 4, 2) := by decide +kernel
theorem dX7_locked_71 : decode cX7_locked 71 = .ok (.iconst 0, 1) := by decide +kernel
theorem dX7_locked_72 : decode cX7_locked 72 = .ok (.iadd, 1) := by decide +kernel
theorem dX7_locked_73 : decode cX7_locked 73 = .ok (.iaload, 1) := by decide +kernel
theorem dX7_locked_74 : decode cX7_locked 74 = .ok (.goto 12, 3) := by decide +kernel
theorem dX7_locked_77 : decode cX7_locked 77 = .ok (.aload_n 0, 1) := by decide +kernel
theorem dX7_locked_78 : decode cX7_locked 78 = .ok (.getfield 52, 3) := by decide +kernel
theorem dX7_locked_81 : decode cX7_locked 81 = .ok (.iload 4, 2) := by decide +kernel
theorem dX7_locked_83 : decode cX7_locked 83 = .ok (.iload_n 3, 1) := by decide +kernel
theorem dX7_locked_84 : decode cX7_locked 84 = .ok (.iadd, 1) := by decide +kernel
theorem dX7_locked_85 : decode cX7_locked 85 = .ok (.iaload, 1) := by decide +kernel
theorem dX7_locked_86 : decode cX7_locked 86 = .ok (.ireturn, 1) := by decide +kernel
theorem dX7_knows_0 : decode cX7_knows 0 = .ok (.iload_n 1, 1) := by decide +kernel
theorem dX7_knows_1 : decode cX7_knows 1 = .ok (.iconst 0, 1) := by decide +kernel
theorem dX7_knows_2 : decode cX7_knows 2 = .ok (.aload_n 0, 1) := by decide +kernel
theorem dX7_knows_3 : decode cX7_knows 3 = .ok (.getfield 165, 3) := by decide +kernel
theorem dX7_knows_6 : decode cX7_knows 6 = .ok (.iconst 1, 1) := by decide +kernel
theorem dX7_knows_7 : decode cX7_knows 7 = .ok (.isub, 1) := by decide +kernel
theorem dX7_knows_8 : decode cX7_knows 8 = .ok (.invokestatic 64, 3) := by decide +kernel
theorem dX7_knows_11 : decode cX7_knows 11 = .ok (.ifCond .eq 12, 3) := by decide +kernel
theorem dX7_knows_14 : decode cX7_knows 14 = .ok (.aload_n 0, 1) := by decide +kernel
theorem dX7_knows_15 : decode cX7_knows 15 = .ok (.getfield 13, 3) := by decide +kernel
theorem dX7_knows_18 : decode cX7_knows 18 = .ok (.iload_n 1, 1) := by decide +kernel
theorem dX7_knows_19 : decode cX7_knows 19 = .ok (.iaload, 1) := by decide +kernel
theorem dX7_knows_20 : decode cX7_knows 20 = .ok (.goto 4, 3) := by decide +kernel
theorem dX7_knows_23 : decode cX7_knows 23 = .ok (.iconst (-1), 1) := by decide +kernel
theorem dX7_knows_24 : decode cX7_knows 24 = .ok (.ireturn, 1) := by decide +kernel
theorem dX7_count_0 : decode cX7_count 0 = .ok (.iload_n 1, 1) := by decide +kernel
theorem dX7_count_1 : decode cX7_count 1 = .ok (.tableswitch 78 0 6 #[43, 48, 53, 58, 63, 68, 73], 43) := by decide +kernel
theorem dX7_count_44 : decode cX7_count 44 = .ok (.aload_n 0, 1) := by decide +kernel
theorem dX7_count_45 : decode cX7_count 45 = .ok (.getfield 68, 3) := by decide +kernel
theorem dX7_count_48 : decode cX7_count 48 = .ok (.ireturn, 1) := by decide +kernel
theorem dX7_count_49 : decode cX7_count 49 = .ok (.aload_n 0, 1) := by decide +kernel
theorem dX7_count_50 : decode cX7_count 50 = .ok (.getfield 72, 3) := by decide +kernel
theorem dX7_count_53 : decode cX7_count 53 = .ok (.ireturn, 1) := by decide +kernel
theorem dX7_count_54 : decode cX7_count 54 = .ok (.aload_n 0, 1) := by decide +kernel
theorem dX7_count_55 : decode cX7_count 55 = .ok (.getfield 165, 3) := by decide +kernel
theorem dX7_count_58 : decode cX7_count 58 = .ok (.ireturn, 1) := by decide +kernel
theorem dX7_count_59 : decode cX7_count 59 = .ok (.aload_n 0, 1) := by decide +kernel
theorem dX7_count_60 : decode cX7_count 60 = .ok (.getfield 103, 3) := by decide +kernel
theorem dX7_count_63 : decode cX7_count 63 = .ok (.ireturn, 1) := by decide +kernel
theorem dX7_count_64 : decode cX7_count 64 = .ok (.aload_n 0, 1) := by decide +kernel
theorem dX7_count_65 : decode cX7_count 65 = .ok (.getfield 185, 3) := by decide +kernel
theorem dX7_count_68 : decode cX7_count 68 = .ok (.ireturn, 1) := by decide +kernel
theorem dX7_count_69 : decode cX7_count 69 = .ok (.aload_n 0, 1) := by decide +kernel
theorem dX7_count_70 : decode cX7_count 70 = .ok (.getfield 137, 3) := by decide +kernel
theorem dX7_count_73 : decode cX7_count 73 = .ok (.ireturn, 1) := by decide +kernel
theorem dX7_count_74 : decode cX7_count 74 = .ok (.aload_n 0, 1) := by decide +kernel
theorem dX7_count_75 : decode cX7_count 75 = .ok (.invokevirtual 191, 3) := by decide +kernel
theorem dX7_count_78 : decode cX7_count 78 = .ok (.ireturn, 1) := by decide +kernel
theorem dX7_count_79 : decode cX7_count 79 = .ok (.iconst (-1), 1) := by decide +kernel
theorem dX7_count_80 : decode cX7_count 80 = .ok (.ireturn, 1) := by decide +kernel
theorem dX7_all_0 : decode cX7_all 0 = .ok (.iconst 0, 1) := by decide +kernel
theorem dX7_all_1 : decode cX7_all 1 = .ok (.istore_n 1, 1) := by decide +kernel
theorem dX7_all_2 : decode cX7_all 2 = .ok (.iconst 0, 1) := by decide +kernel
theorem dX7_all_3 : decode cX7_all 3 = .ok (.istore_n 2, 1) := by decide +kernel
theorem dX7_all_4 : decode cX7_all 4 = .ok (.iload_n 2, 1) := by decide +kernel
theorem dX7_all_5 : decode cX7_all 5 = .ok (.bipush 6, 2) := by decide +kernel
theorem dX7_all_7 : decode cX7_all 7 = .ok (.if_icmp .ge 18, 3) := by decide +kernel
theorem dX7_all_10 : decode cX7_all 10 = .ok (.iload_n 1, 1) := by decide +kernel
theorem dX7_all_11 : decode cX7_all 11 = .ok (.aload_n 0, 1) := by decide +kernel
theorem dX7_all_12 : decode cX7_all 12 = .ok (.getfield 7, 3) := by decide +kernel
theorem dX7_all_15 : decode cX7_all 15 = .ok (.iload_n 2, 1) := by decide +kernel
theorem dX7_all_16 : decode cX7_all 16 = .ok (.iaload, 1) := by decide +kernel
theorem dX7_all_17 : decode cX7_all 17 = .ok (.iadd, 1) := by decide +kernel
theorem dX7_all_18 : decode cX7_all 18 = .ok (.istore_n 1, 1) := by decide +kernel
theorem dX7_all_19 : decode cX7_all 19 = .ok (.iinc 2 1, 3) := by decide +kernel
theorem dX7_all_22 : decode cX7_all 22 = .ok (.goto (-18), 3) := by decide +kernel
theorem dX7_all_25 : decode cX7_all 25 = .ok (.iconst 0, 1) := by decide +kernel
theorem dX7_all_26 : decode cX7_all 26 = .ok (.istore_n 2, 1) := by decide +kernel
theorem dX7_all_27 : decode cX7_all 27 = .ok (.iload_n 2, 1) := by decide +kernel
theorem dX7_all_28 : decode cX7_all 28 = .ok (.aload_n 0, 1) := by decide +kernel
theorem dX7_all_29 : decode cX7_all 29 = .ok (.getfield 68, 3) := by decide +kernel
theorem dX7_all_32 : decode cX7_all 32 = .ok (.if_icmp .ge 18, 3) := by decide +kernel
theorem dX7_all_35 : decode cX7_all 35 = .ok (.iload_n 1, 1) := by decide +kernel
theorem dX7_all_36 : decode cX7_all 36 = .ok (.aload_n 0, 1) := by decide +kernel
theorem dX7_all_37 : decode cX7_all 37 = .ok (.getfield 22, 3) := by decide +kernel
theorem dX7_all_40 : decode cX7_all 40 = .ok (.iload_n 2, 1) := by decide +kernel
theorem dX7_all_41 : decode cX7_all 41 = .ok (.iaload, 1) := by decide +kernel
theorem dX7_all_42 : decode cX7_all 42 = .ok (.iadd, 1) := by decide +kernel
theorem dX7_all_43 : decode cX7_all 43 = .ok (.istore_n 1, 1) := by decide +kernel
theorem dX7_all_44 : decode cX7_all 44 = .ok (.iinc 2 1, 3) := by decide +kernel
theorem dX7_all_47 : decode cX7_all 47 = .ok (.goto (-20), 3) := by decide +kernel
theorem dX7_all_50 : decode cX7_all 50 = .ok (.iload_n 1, 1) := by decide +kernel
theorem dX7_all_51 : decode cX7_all 51 = .ok (.ireturn, 1) := by decide +kernel
