theorem dX6_init_0 : decode cX6_init 0 = .ok (.aload_n 0, 1) := by decide +kernel
theorem dX6_init_1 : decode cX6_init 1 = .ok (.invokespecial 1, 3) := by decide +kernel
theorem dX6_init_4 : decode cX6_init 4 = .ok (.aload_n 0, 1) := by decide +kernel
theorem dX6_init_5 : decode cX6_init 5 = .ok (.new 7, 3) := by decide +kernel
theorem dX6_init_8 : decode cX6_init 8 = .ok (.dup, 1) := by decide +kernel
theorem dX6_init_9 : decode cX6_init 9 = .ok (.invokespecial 9, 3) := by decide +kernel
theorem dX6_init_12 : decode cX6_init 12 = .ok (.putfield 10, 3) := by decide +kernel
theorem dX6_init_15 : decode cX6_init 15 = .ok (.aload_n 0, 1) := by decide +kernel
theorem dX6_init_16 : decode cX6_init 16 = .ok (.bipush 8, 2) := by decide +kernel
theorem dX6_init_18 : decode cX6_init 18 = .ok (.anewarray 16, 3) := by decide +kernel
theorem dX6_init_21 : decode cX6_init 21 = .ok (.putfield 18, 3) := by decide +kernel
theorem dX6_init_24 : decode cX6_init 24 = .ok (.aload_n 0, 1) := by decide +kernel
theorem dX6_init_25 : decode cX6_init 25 = .ok (.bipush 64, 2) := by decide +kernel
theorem dX6_init_27 : decode cX6_init 27 = .ok (.anewarray 22, 3) := by decide +kernel
theorem dX6_init_30 : decode cX6_init 30 = .ok (.putfield 24, 3) := by decide +kernel
theorem dX6_init_33 : decode cX6_init 33 = .ok (.aload_n 0, 1) := by decide +kernel
theorem dX6_init_34 : decode cX6_init 34 = .ok (.bipush 16, 2) := by decide +kernel
theorem dX6_init_36 : decode cX6_init 36 = .ok (.newarray .int, 2) := by decide +kernel
theorem dX6_init_38 : decode cX6_init 38 = .ok (.putfield 28, 3) := by decide +kernel
theorem dX6_init_41 : decode cX6_init 41 = .ok (.aload_n 0, 1) := by decide +kernel
theorem dX6_init_42 : decode cX6_init 42 = .ok (.iconst 4, 1) := by decide +kernel
theorem dX6_init_43 : decode cX6_init 43 = .ok (.anewarray 32, 3) := by decide +kernel
theorem dX6_init_46 : decode cX6_init 46 = .ok (.putfield 34, 3) := by decide +kernel
theorem dX6_init_49 : decode cX6_init 49 = .ok (.iconst 0, 1) := by decide +kernel
theorem dX6_init_50 : decode cX6_init 50 = .ok (.istore_n 1, 1) := by decide +kernel
theorem dX6_init_51 : decode cX6_init 51 = .ok (.iload_n 1, 1) := by decide +kernel
theorem dX6_init_52 : decode cX6_init 52 = .ok (.bipush 6, 2) := by decide +kernel
theorem dX6_init_54 : decode cX6_init 54 = .ok (.if_icmp .ge 20, 3) := by decide +kernel
theorem dX6_init_57 : decode cX6_init 57 = .ok (.aload_n 0, 1) := by decide +kernel
theorem dX6_init_58 : decode cX6_init 58 = .ok (.getfield 10, 3) := by decide +kernel
theorem dX6_init_61 : decode cX6_init 61 = .ok (.iload_n 1, 1) := by decide +kernel
theorem dX6_init_62 : decode cX6_init 62 = .ok (.sipush 10000, 3) := by decide +kernel
theorem dX6_init_65 : decode cX6_init 65 = .ok (.invokevirtual 38, 3) := by decide +kernel
theorem dX6_init_68 : decode cX6_init 68 = .ok (.iinc 1 1, 3) := by decide +kernel
theorem dX6_init_71 : decode cX6_init 71 = .ok (.goto (-20), 3) := by decide +kernel
theorem dX6_init_74 : decode cX6_init 74 = .ok (.return_, 1) := by decide +kernel
theorem dX6_channel_0 : decode cX6_channel 0 = .ok (.iload_n 1, 1) := by decide +kernel
theorem dX6_channel_1 : decode cX6_channel 1 = .ok (.ifCond .lt 9, 3) := by decide +kernel
theorem dX6_channel_4 : decode cX6_channel 4 = .ok (.iload_n 1, 1) := by decide +kernel
theorem dX6_channel_5 : decode cX6_channel 5 = .ok (.bipush 63, 2) := by decide +kernel
theorem dX6_channel_7 : decode cX6_channel 7 = .ok (.if_icmp .le 5, 3) := by decide +kernel
theorem dX6_channel_10 : decode cX6_channel 10 = .ok (.iconst (-1), 1) := by decide +kernel
theorem dX6_channel_11 : decode cX6_channel 11 = .ok (.ireturn, 1) := by decide +kernel
theorem dX6_channel_12 : decode cX6_channel 12 = .ok (.iload_n 2, 1) := by decide +kernel
theorem dX6_channel_13 : decode cX6_channel 13 = .ok (.iconst 0, 1) := by decide +kernel
theorem dX6_channel_14 : decode cX6_channel 14 = .ok (.sipush 10000, 3) := by decide +kernel
theorem dX6_channel_17 : decode cX6_channel 17 = .ok (.invokestatic 42, 3) := by decide +kernel
theorem dX6_channel_20 : decode cX6_channel 20 = .ok (.ifCond .eq 25, 3) := by decide +kernel
theorem dX6_channel_23 : decode cX6_channel 23 = .ok (.iload_n 3, 1) := by decide +kernel
theorem dX6_channel_24 : decode cX6_channel 24 = .ok (.iconst 2, 1) := by decide +kernel
theorem dX6_channel_25 : decode cX6_channel 25 = .ok (.bipush 20, 2) := by decide +kernel
theorem dX6_channel_27 : decode cX6_channel 27 = .ok (.invokestatic 42, 3) := by decide +kernel
theorem dX6_channel_30 : decode cX6_channel 30 = .ok (.ifCond .eq 15, 3) := by decide +kernel
theorem dX6_channel_33 : decode cX6_channel 33 = .ok (.iload_n 1, 1) := by decide +kernel
theorem dX6_channel_34 : decode cX6_channel 34 = .ok (.invokestatic 46, 3) := by decide +kernel
theorem dX6_channel_37 : decode cX6_channel 37 = .ok (.iconst 2, 1) := by decide +kernel
theorem dX6_channel_38 : decode cX6_channel 38 = .ok (.iconst 4, 1) := by decide +kernel
theorem dX6_channel_39 : decode cX6_channel 39 = .ok (.invokestatic 42, 3) := by decide +kernel
theorem dX6_channel_42 : decode cX6_channel 42 = .ok (.ifCond .ne 6, 3) := by decide +kernel
theorem dX6_channel_45 : decode cX6_channel 45 = .ok (.bipush (-3), 2) := by decide +kernel
theorem dX6_channel_47 : decode cX6_channel 47 = .ok (.ireturn, 1) := by decide +kernel
theorem dX6_channel_48 : decode cX6_channel 48 = .ok (.aload_n 0, 1) := by decide +kernel
theorem dX6_channel_49 : decode cX6_channel 49 = .ok (.getfield 52, 3) := by decide +kernel
theorem dX6_channel_52 : decode cX6_channel 52 = .ok (.aload_n 0, 1) := by decide +kernel
theorem dX6_channel_53 : decode cX6_channel 53 = .ok (.getfield 18, 3) := by decide +kernel
theorem dX6_channel_56 : decode cX6_channel 56 = .ok (.arraylength, 1) := by decide +kernel
theorem dX6_channel_57 : decode cX6_channel 57 = .ok (.if_icmp .ge 20, 3) := by decide +kernel
theorem dX6_channel_60 : decode cX6_channel 60 = .ok (.aload_n 0, 1) := by decide +kernel
theorem dX6_channel_61 : decode cX6_channel 61 = .ok (.iconst 1, 1) := by decide +kernel
theorem dX6_channel_62 : decode cX6_channel 62 = .ok (.invokevirtual 56, 3) := by decide +kernel
theorem dX6_channel_65 : decode cX6_channel 65 = .ok (.ifCond .eq 12, 3) := by decide +kernel
theorem dX6_channel_68 : decode cX6_channel 68 = .ok (.aload_n 0, 1) := by decide +kernel
theorem dX6_channel_69 : decode cX6_channel 69 = .ok (.iload_n 1, 1) := by decide +kernel
theorem dX6_channel_70 : decode cX6_channel 70 = .ok (.iload_n 2, 1) := by decide +kernel
theorem dX6_channel_71 : decode cX6_channel 71 = .ok (.invokevirtual 60, 3) := by decide +kernel
theorem dX6_channel_74 : decode cX6_channel 74 = .ok (.ifCond .ne 6, 3) := by decide +kernel
theorem dX6_channel_77 : decode cX6_channel 77 = .ok (.bipush (-4), 2) := by decide +kernel
theorem dX6_channel_79 : decode cX6_channel 79 = .ok (.ireturn, 1) := by decide +kernel
theorem dX6_channel_80 : decode cX6_channel 80 = .ok (.new 16, 3) := by decide +kernel
theorem dX6_channel_83 : decode cX6_channel 83 = .ok (.dup, 1) := by decide +kernel
theorem dX6_channel_84 : decode cX6_channel 84 = .ok (.aload_n 0, 1) := by decide +kernel
theorem dX6_channel_85 : decode cX6_channel 85 = .ok (.getfield 52, 3) := by decide +kernel
theorem dX6_channel_88 : decode cX6_channel 88 = .ok (.iload_n 1, 1) := by decide +kernel
theorem dX6_channel_89 : decode cX6_channel 89 = .ok (.iload_n 3, 1) := by decide +kernel
theorem dX6_channel_90 : decode cX6_channel 90 = .ok (.invokespecial 64, 3) := by decide +kernel
theorem dX6_channel_93 : decode cX6_channel 93 = .ok (.astore 4, 2) := by decide +kernel
theorem dX6_channel_95 : decode cX6_channel 95 = .ok (.aload_n 0, 1) := by decide +kernel
theorem dX6_channel_96 : decode cX6_channel 96 = .ok (.getfield 18, 3) := by decide +kernel
theorem dX6_channel_99 : decode cX6_channel 99 = .ok (.aload_n 0, 1) := by decide +kernel
theorem dX6_channel_100 : decode cX6_channel 100 = .ok (.getfield 52, 3) := by decide +kernel
theorem dX6_channel_103 : decode cX6_channel 103 = .ok (.aload 4, 2) := by decide +kernel
theorem dX6_channel_105 : decode cX6_channel 105 = .ok (.aastore, 1) := by decide +kernel
theorem dX6_channel_106 : decode cX6_channel 106 = .ok (.aload_n 0, 1) := by decide +kernel
theorem dX6_channel_107 : decode cX6_channel 107 = .ok (.dup, 1) := by decide +kernel
theorem dX6_channel_108 : decode cX6_channel 108 = .ok (.getfield 52, 3) := by decide +kernel
theorem dX6_channel_111 : decode cX6_channel 111 = .ok (.iconst 1, 1) := by decide +kernel
theorem dX6_channel_112 : decode cX6_channel 112 = .ok (.iadd, 1) := by decide +kernel
theorem dX6_channel_113 : decode cX6_channel 113 = .ok (.putfield 52, 3) := by decide +kernel
theorem dX6_channel_116 : decode cX6_channel 116 = .ok (.aload_n 0, 1) := by decide +kernel
theorem dX6_channel_117 : decode cX6_channel 117 = .ok (.aload 4, 2) := by decide +kernel
theorem dX6_channel_119 : decode cX6_channel 119 = .ok (.invokevirtual 67, 3) := by decide +kernel
theorem dX6_channel_122 : decode cX6_channel 122 = .ok (.astore 5, 2) := by decide +kernel
theorem dX6_channel_124 : decode cX6_channel 124 = .ok (.iconst 0, 1) := by decide +kernel
theorem dX6_channel_125 : decode cX6_channel 125 = .ok (.istore 6, 2) := by decide +kernel
theorem dX6_channel_127 : decode cX6_channel 127 = .ok (.iload 6, 2) := by decide +kernel
theorem dX6_channel_129 : decode cX6_channel 129 = .ok (.bipush 6, 2) := by decide +kernel
theorem dX6_channel_131 : decode cX6_channel 131 = .ok (.if_icmp .ge 52, 3) := by decide +kernel
theorem dX6_channel_134 : decode cX6_channel 134 = .ok (.aload 4, 2) := by decide +kernel
theorem dX6_channel_136 : decode cX6_channel 136 = .ok (.iload 6, 2) := by decide +kernel
theorem dX6_channel_138 : decode cX6_channel 138 = .ok (.invokevirtual 71, 3) := by decide +kernel
theorem dX6_channel_141 : decode cX6_channel 141 = .ok (.ifCond .eq 36, 3) := by decide +kernel
theorem dX6_channel_144 : decode cX6_channel 144 = .ok (.aload_n 0, 1) := by decide +kernel
theorem dX6_channel_145 : decode cX6_channel 145 = .ok (.getfield 10, 3) := by decide +kernel
theorem dX6_channel_148 : decode cX6_channel 148 = .ok (.iload 6, 2) := by decide +kernel
theorem dX6_channel_150 : decode cX6_channel 150 = .ok (.iload_n 2, 1) := by decide +kernel
theorem dX6_channel_151 : decode cX6_channel 151 = .ok (.ineg, 1) := by decide +kernel
theorem dX6_channel_152 : decode cX6_channel 152 = .ok (.invokevirtual 74, 3) := by decide +kernel
theorem dX6_channel_155 : decode cX6_channel 155 = .ok (.aload 4, 2) := by decide +kernel
theorem dX6_channel_157 : decode cX6_channel 157 = .ok (.dup, 1) := by decide +kernel
theorem dX6_channel_158 : decode cX6_channel 158 = .ok (.getfield 77, 3) := by decide +kernel
theorem dX6_channel_161 : decode cX6_channel 161 = .ok (.iload_n 2, 1) := by decide +kernel
theorem dX6_channel_162 : decode cX6_channel 162 = .ok (.iadd, 1) := by decide +kernel
theorem dX6_channel_163 : decode cX6_channel 163 = .ok (.putfield 77, 3) := by decide +kernel
theorem dX6_channel_166 : decode cX6_channel 166 = .ok (.aload 5, 2) := by decide +kernel
theorem dX6_channel_168 : decode cX6_channel 168 = .ok (.getfield 80, 3) := by decide +kernel
theorem dX6_channel_171 : decode cX6_channel 171 = .ok (.iload 6, 2) := by decide +kernel
theorem dX6_channel_173 : decode cX6_channel 173 = .ok (.iload_n 2, 1) := by decide +kernel
theorem dX6_channel_174 : decode cX6_channel 174 = .ok (.invokevirtual 38, 3) := by decide +kernel
theorem dX6_channel_177 : decode cX6_channel 177 = .ok (.iinc 6 1, 3) := by decide +kernel
theorem dX6_channel_180 : decode cX6_channel 180 = .ok (.goto (-53), 3) := by decide +kernel
theorem dX6_channel_183 : decode cX6_channel 183 = .ok (.aload 5, 2) := by decide +kernel
theorem dX6_channel_185 : decode cX6_channel 185 = .ok (.iload_n 1, 1) := by decide +kernel
theorem dX6_channel_186 : decode cX6_channel 186 = .ok (.putfield 83, 3) := by decide +kernel
theorem dX6_channel_189 : decode cX6_channel 189 = .ok (.aload 4, 2) := by decide +kernel
theorem dX6_channel_191 : decode cX6_channel 191 = .ok (.aload 5, 2) := by decide +kernel
theorem dX6_channel_193 : decode cX6_channel 193 = .ok (.putfield 86, 3) := by decide +kernel
theorem dX6_channel_196 : decode cX6_channel 196 = .ok (.aload 4, 2) := by decide +kernel
theorem dX6_channel_198 : decode cX6_channel 198 = .ok (.getfield 90, 3) := by decide +kernel
theorem dX6_channel_201 : decode cX6_channel 201 = .ok (.ireturn, 1) := by decide +kernel
theorem dX6_state_0 : decode cX6_state 0 = .ok (.aload_n 0, 1) := by decide +kernel
theorem dX6_state_1 : decode cX6_state 1 = .ok (.iload_n 1, 1) := by decide +kernel
theorem dX6_state_2 : decode cX6_state 2 = .ok (.invokevirtual 93, 3) := by decide +kernel
theorem dX6_state_5 : decode cX6_state 5 = .ok (.astore_n 2, 1) := by decide +kernel
theorem dX6_state_6 : decode cX6_state 6 = .ok (.aload_n 2, 1) := by decide +kernel
theorem dX6_state_7 : decode cX6_state 7 = .ok (.ifnonnull 5, 3) := by decide +kernel
theorem dX6_state_10 : decode cX6_state 10 = .ok (.iconst (-1), 1) := by decide +kernel
theorem dX6_state_11 : decode cX6_state 11 = .ok (.ireturn, 1) := by decide +kernel
theorem dX6_state_12 : decode cX6_state 12 = .ok (.aload_n 2, 1) := by decide +kernel
theorem dX6_state_13 : decode cX6_state 13 = .ok (.getfield 97, 3) := by decide +kernel
theorem dX6_state_16 : decode cX6_state 16 = .ok (.iconst 3, 1) := by decide +kernel
theorem dX6_state_17 : decode cX6_state 17 = .ok (.if_icmp .ne 6, 3) := by decide +kernel
theorem dX6_state_20 : decode cX6_state 20 = .ok (.bipush (-2), 2) := by decide +kernel
theorem dX6_state_22 : decode cX6_state 22 = .ok (.ireturn, 1) := by decide +kernel
theorem dX6_state_23 : decode cX6_state 23 = .ok (.aload_n 0, 1) := by decide +kernel
theorem dX6_state_24 : decode cX6_state 24 = .ok (.iconst 1, 1) := by decide +kernel
theorem dX6_state_25 : decode cX6_state 25 = .ok (.invokevirtual 56, 3) := by decide +kernel
theorem dX6_state_28 : decode cX6_state 28 = .ok (.ifCond .ne 6, 3) := by decide +kernel
theorem dX6_state_31 : decode cX6_state 31 = .ok (.bipush (-4), 2) := by decide +kernel
theorem dX6_state_33 : decode cX6_state 33 = .ok (.ireturn, 1) := by decide +kernel
theorem dX6_state_34 : decode cX6_state 34 = .ok (.aload_n 0, 1) := by decide +kernel
theorem dX6_state_35 : decode cX6_state 35 = .ok (.aload_n 2, 1) := by decide +kernel
theorem dX6_state_36 : decode cX6_state 36 = .ok (.invokevirtual 100, 3) := by decide +kernel
theorem dX6_state_39 : decode cX6_state 39 = .ok (.getfield 103, 3) := by decide +kernel
theorem dX6_state_42 : decode cX6_state 42 = .ok (.ireturn, 1) := by decide +kernel
theorem dX6_hasRoomForStates_0 : decode cX6_hasRoomForStates 0 = .ok (.aload_n 0, 1) := by decide +kernel
theorem dX6_hasRoomForStates_1 : decode cX6_hasRoomForStates 1 = .ok (.getfield 104, 3) := by decide +kernel
theorem dX6_hasRoomForStates_4 : decode cX6_hasRoomForStates 4 = .ok (.iload_n 1, 1) := by decide +kernel
theorem dX6_hasRoomForStates_5 : decode cX6_hasRoomForStates 5 = .ok (.iadd, 1) := by decide +kernel
theorem dX6_hasRoomForStates_6 : decode cX6_hasRoomForStates 6 = .ok (.aload_n 0, 1) := by decide +kernel
theorem dX6_hasRoomForStates_7 : decode cX6_hasRoomForStates 7 = .ok (.getfield 24, 3) := by decide +kernel
theorem dX6_hasRoomForStates_10 : decode cX6_hasRoomForStates 10 = .ok (.arraylength, 1) := by decide +kernel
theorem dX6_hasRoomForStates_11 : decode cX6_hasRoomForStates 11 = .ok (.if_icmp .gt 7, 3) := by decide +kernel
theorem dX6_hasRoomForStates_14 : decode cX6_hasRoomForStates 14 = .ok (.iconst 1, 1) := by decide +kernel
theorem dX6_hasRoomForStates_15 : decode cX6_hasRoomForStates 15 = .ok (.goto 4, 3) := by decide +kernel
theorem dX6_hasRoomForStates_18 : decode cX6_hasRoomForStates 18 = .ok (.iconst 0, 1) := by decide +kernel
theorem dX6_hasRoomForStates_19 : decode cX6_hasRoomForStates 19 = .ok (.ireturn, 1) := by decide +kernel
theorem dX6_allHave_0 : decode cX6_allHave 0 = .ok (.iconst 0, 1) := by decide +kernel
theorem dX6_allHave_1 : decode cX6_allHave 1 = .ok (.istore_n 3, 1) := by decide +kernel
theorem dX6_allHave_2 : decode cX6_allHave 2 = .ok (.iload_n 3, 1) := by decide +kernel
theorem dX6_allHave_3 : decode cX6_allHave 3 = .ok (.bipush 6, 2) := by decide +kernel
theorem dX6_allHave_5 : decode cX6_allHave 5 = .ok (.if_icmp .ge 31, 3) := by decide +kernel
theorem dX6_allHave_8 : decode cX6_allHave 8 = .ok (.iload_n 1, 1) := by decide +kernel
theorem dX6_allHave_9 : decode cX6_allHave 9 = .ok (.iload_n 3, 1) := by decide +kernel
theorem dX6_allHave_10 : decode cX6_allHave 10 = .ok (.invokestatic 107, 3) := by decide +kernel
theorem dX6_allHave_13 : decode cX6_allHave 13 = .ok (.ifCond .eq 17, 3) := by decide +kernel
theorem dX6_allHave_16 : decode cX6_allHave 16 = .ok (.aload_n 0, 1) := by decide +kernel
theorem dX6_allHave_17 : decode cX6_allHave 17 = .ok (.getfield 10, 3) := by decide +kernel
theorem dX6_allHave_20 : decode cX6_allHave 20 = .ok (.iload_n 3, 1) := by decide +kernel
theorem dX6_allHave_21 : decode cX6_allHave 21 = .ok (.invokevirtual 110, 3) := by decide +kernel
theorem dX6_allHave_24 : decode cX6_allHave 24 = .ok (.iload_n 2, 1) := by decide +kernel
theorem dX6_allHave_25 : decode cX6_allHave 25 = .ok (.if_icmp .ge 5, 3) := by decide +kernel
theorem dX6_allHave_28 : decode cX6_allHave 28 = .ok (.iconst 0, 1) := by decide +kernel
theorem dX6_allHave_29 : decode cX6_allHave 29 = .ok (.ireturn, 1) := by decide +kernel
theorem dX6_allHave_30 : decode cX6_allHave 30 = .ok (.iinc 3 1, 3) := by decide +kernel
theorem dX6_allHave_33 : decode cX6_allHave 33 = .ok (.goto (-31), 3) := by decide +kernel
theorem dX6_allHave_36 : decode cX6_allHave 36 = .ok (.iconst 1, 1) := by decide +kernel
theorem dX6_allHave_37 : decode cX6_allHave 37 = .ok (.ireturn, 1) := by decide +kernel
theorem dX6_newState_0 : decode cX6_newState 0 = .ok (.new 22, 3) := by decide +kernel
theorem dX6_newState_3 : decode cX6_newState 3 = .ok (.dup, 1) := by decide +kernel
theorem dX6_newState_4 : decode cX6_newState 4 = .ok (.aload_n 0, 1) := by decide +kernel
theorem dX6_newState_5 : decode cX6_newState 5 = .ok (.getfield 104, 3) := by decide +kernel
theorem dX6_newState_8 : decode cX6_newState 8 = .ok (.aload_n 1, 1) := by decide +kernel
theorem dX6_newState_9 : decode cX6_newState 9 = .ok (.aload_n 1, 1) := by decide +kernel
theorem dX6_newState_10 : decode cX6_newState 10 = .ok (.getfield 113, 3) := by decide +kernel
theorem dX6_newState_13 : decode cX6_newState 13 = .ok (.invokespecial 116, 3) := by decide +kernel
theorem dX6_newState_16 : decode cX6_newState 16 = .ok (.astore_n 2, 1) := by decide +kernel
theorem dX6_newState_17 : decode cX6_newState 17 = .ok (.aload_n 0, 1) := by decide +kernel
theorem dX6_newState_18 : decode cX6_newState 18 = .ok (.getfield 104, 3) := by decide +kernel
theorem dX6_newState_21 : decode cX6_newState 21 = .ok (.ifCond .lt 45, 3) := by decide +kernel
theorem dX6_newState_24 : decode cX6_newState 24 = .ok (.aload_n 0, 1) := by decide +kernel
theorem dX6_newState_25 : decode cX6_newState 25 = .ok (.getfield 104, 3) := by decide +kernel
theorem dX6_newState_28 : decode cX6_newState 28 = .ok (.aload_n 0, 1) := by decide +kernel
theorem dX6_newState_29 : decode cX6_newState 29 = .ok (.getfield 24, 3) := by decide +kernel
theorem dX6_newState_32 : decode cX6_newState 32 = .ok (.arraylength, 1) := by decide +kernel
theorem dX6_newState_33 : decode cX6_newState 33 = .ok (.if_icmp .ge 33, 3) := by decide +kernel
theorem dX6_newState_36 : decode cX6_newState 36 = .ok (.aload_n 0, 1) := by decide +kernel
theorem dX6_newState_37 : decode cX6_newState 37 = .ok (.getfield 24, 3) := by decide +kernel
theorem dX6_newState_40 : decode cX6_newState 40 = .ok (.aload_n 0, 1) := by decide +kernel
theorem dX6_newState_41 : decode cX6_newState 41 = .ok (.getfield 104, 3) := by decide +kernel
theorem dX6_newState_44 : decode cX6_newState 44 = .ok (.aload_n 2, 1) := by decide +kernel
theorem dX6_newState_45 : decode cX6_newState 45 = .ok (.aastore, 1) := by decide +kernel
theorem dX6_newState_46 : decode cX6_newState 46 = .ok (.aload_n 0, 1) := by decide +kernel
theorem dX6_newState_47 : decode cX6_newState 47 = .ok (.dup, 1) := by decide +kernel
theorem dX6_newState_48 : decode cX6_newState 48 = .ok (.getfield 104, 3) := by decide +kernel
theorem dX6_newState_51 : decode cX6_newState 51 = .ok (.iconst 1, 1) := by decide +kernel
theorem dX6_newState_52 : decode cX6_newState 52 = .ok (.iadd, 1) := by decide +kernel
theorem dX6_newState_53 : decode cX6_newState 53 = .ok (.putfield 104, 3) := by decide +kernel
theorem dX6_newState_56 : decode cX6_newState 56 = .ok (.aload_n 1, 1) := by decide +kernel
theorem dX6_newState_57 : decode cX6_newState 57 = .ok (.dup, 1) := by decide +kernel
theorem dX6_newState_58 : decode cX6_newState 58 = .ok (.getfield 113, 3) := by decide +kernel
theorem dX6_newState_61 : decode cX6_newState 61 = .ok (.iconst 1, 1) := by decide +kernel
theorem dX6_newState_62 : decode cX6_newState 62 = .ok (.iadd, 1) := by decide +kernel
theorem dX6_newState_63 : decode cX6_newState 63 = .ok (.putfield 113, 3) := by decide +kernel
theorem dX6_newState_66 : decode cX6_newState 66 = .ok (.aload_n 2, 1) := by decide +kernel
theorem dX6_newState_67 : decode cX6_newState 67 = .ok (.areturn, 1) := by decide +kernel
theorem dX6_newStateAsNewest_0 : decode cX6_newStateAsNewest 0 = .ok (.aload_n 0, 1) := by decide +kernel
theorem dX6_newStateAsNewest_1 : decode cX6_newStateAsNewest 1 = .ok (.aload_n 1, 1) := by decide +kernel
theorem dX6_newStateAsNewest_2 : decode cX6_newStateAsNewest 2 = .ok (.invokevirtual 67, 3) := by decide +kernel
theorem dX6_newStateAsNewest_5 : decode cX6_newStateAsNewest 5 = .ok (.astore_n 2, 1) := by decide +kernel
theorem dX6_newStateAsNewest_6 : decode cX6_newStateAsNewest 6 = .ok (.aload_n 1, 1) := by decide +kernel
theorem dX6_newStateAsNewest_7 : decode cX6_newStateAsNewest 7 = .ok (.getfield 86, 3) := by decide +kernel
theorem dX6_newStateAsNewest_10 : decode cX6_newStateAsNewest 10 = .ok (.astore_n 3, 1) := by decide +kernel
theorem dX6_newStateAsNewest_11 : decode cX6_newStateAsNewest 11 = .ok (.aload_n 3, 1) := by decide +kernel
theorem dX6_newStateAsNewest_12 : decode cX6_newStateAsNewest 12 = .ok (.ifnull 8, 3) := by decide +kernel
theorem dX6_newStateAsNewest_15 : decode cX6_newStateAsNewest 15 = .ok (.aload_n 2, 1) := by decide +kernel
theorem dX6_newStateAsNewest_16 : decode cX6_newStateAsNewest 16 = .ok (.aload_n 3, 1) := by decide +kernel
theorem dX6_newStateAsNewest_17 : decode cX6_newStateAsNewest 17 = .ok (.invokevirtual 119, 3) := by decide +kernel
theorem dX6_newStateAsNewest_20 : decode cX6_newStateAsNewest 20 = .ok (.aload_n 2, 1) := by decide +kernel
theorem dX6_newStateAsNewest_21 : decode cX6_newStateAsNewest 21 = .ok (.areturn, 1) := by decide +kernel
theorem dX6_change_0 : decode cX6_change 0 = .ok (.aload_n 0, 1) := by decide +kernel
theorem dX6_change_1 : decode cX6_change 1 = .ok (.iload_n 1, 1) := by decide +kernel
theorem dX6_change_2 : decode cX6_change 2 = .ok (.invokevirtual 123, 3) := by decide +kernel
theorem dX6_change_5 : decode cX6_change 5 = .ok (.astore 5, 2) := by decide +kernel
theorem dX6_change_7 : decode cX6_change 7 = .ok (.aload 5, 2) := by decide +kernel
theorem dX6_change_9 : decode cX6_change 9 = .ok (.ifnull 21, 3) := by decide +kernel
theorem dX6_change_12 : decode cX6_change 12 = .ok (.aload 5, 2) := by decide +kernel
theorem dX6_change_14 : decode cX6_change 14 = .ok (.iload_n 2, 1) := by decide +kernel
theorem dX6_change_15 : decode cX6_change 15 = .ok (.invokevirtual 127, 3) := by decide +kernel
theorem dX6_change_18 : decode cX6_change 18 = .ok (.ifCond .eq 12, 3) := by decide +kernel
theorem dX6_change_21 : decode cX6_change 21 = .ok (.aload 5, 2) := by decide +kernel
theorem dX6_change_23 : decode cX6_change 23 = .ok (.iload_n 3, 1) := by decide +kernel
theorem dX6_change_24 : decode cX6_change 24 = .ok (.invokevirtual 127, 3) := by decide +kernel
theorem dX6_change_27 : decode cX6_change 27 = .ok (.ifCond .ne 5, 3) := by decide +kernel
theorem dX6_change_30 : decode cX6_change 30 = .ok (.iconst (-1), 1) := by decide +kernel
theorem dX6_change_31 : decode cX6_change 31 = .ok (.ireturn, 1) := by decide +kernel
theorem dX6_change_32 : decode cX6_change 32 = .ok (.aload 5, 2) := by decide +kernel
theorem dX6_change_34 : decode cX6_change 34 = .ok (.invokevirtual 128, 3) := by decide +kernel
theorem dX6_change_37 : decode cX6_change 37 = .ok (.ifCond .eq 6, 3) := by decide +kernel
theorem dX6_change_40 : decode cX6_change 40 = .ok (.bipush (-2), 2) := by decide +kernel
theorem dX6_change_42 : decode cX6_change 42 = .ok (.ireturn, 1) := by decide +kernel
theorem dX6_change_43 : decode cX6_change 43 = .ok (.iload 4, 2) := by decide +kernel
theorem dX6_change_45 : decode cX6_change 45 = .ok (.iconst 1, 1) := by decide +kernel
theorem dX6_change_46 : decode cX6_change 46 = .ok (.ldc 132, 2) := by decide +kernel
theorem dX6_change_48 : decode cX6_change 48 = .ok (.invokestatic 42, 3) := by decide +kernel
theorem dX6_change_51 : decode cX6_change 51 = .ok (.ifCond .ne 6, 3) := by decide +kernel
theorem dX6_change_54 : decode cX6_change 54 = .ok (.bipush (-3), 2) := by decide +kernel
theorem dX6_change_56 : decode cX6_change 56 = .ok (.ireturn, 1) := by decide +kernel
theorem dX6_change_57 : decode cX6_change 57 = .ok (.iload_n 2, 1) := by decide +kernel
theorem dX6_change_58 : decode cX6_change 58 = .ok (.iload_n 3, 1) := by decide +kernel
theorem dX6_change_59 : decode cX6_change 59 = .ok (.if_icmp .eq 14, 3) := by decide +kernel
theorem dX6_change_62 : decode cX6_change 62 = .ok (.aload 5, 2) := by decide +kernel
theorem dX6_change_64 : decode cX6_change 64 = .ok (.iload_n 2, 1) := by decide +kernel
theorem dX6_change_65 : decode cX6_change 65 = .ok (.invokevirtual 133, 3) := by decide +kernel
theorem dX6_change_68 : decode cX6_change 68 = .ok (.iload 4, 2) := by decide +kernel
theorem dX6_change_70 : decode cX6_change 70 = .ok (.if_icmp .ge 6, 3) := by decide +kernel
theorem dX6_change_73 : decode cX6_change 73 = .ok (.bipush (-4), 2) := by decide +kernel
theorem dX6_change_75 : decode cX6_change 75 = .ok (.ireturn, 1) := by decide +kernel
theorem dX6_change_76 : decode cX6_change 76 = .ok (.aload 5, 2) := by decide +kernel
theorem dX6_change_78 : decode cX6_change 78 = .ok (.getfield 80, 3) := by decide +kernel
theorem dX6_change_81 : decode cX6_change 81 = .ok (.iload_n 2, 1) := by decide +kernel
theorem dX6_change_82 : decode cX6_change 82 = .ok (.iload 4, 2) := by decide +kernel
theorem dX6_change_84 : decode cX6_change 84 = .ok (.ineg, 1) := by decide +kernel
theorem dX6_change_85 : decode cX6_change 85 = .ok (.invokevirtual 74, 3) := by decide +kernel
theorem dX6_change_88 : decode cX6_change 88 = .ok (.aload 5, 2) := by decide +kernel
theorem dX6_change_90 : decode cX6_change 90 = .ok (.getfield 80, 3) := by decide +kernel
theorem dX6_change_93 : decode cX6_change 93 = .ok (.iload_n 3, 1) := by decide +kernel
theorem dX6_change_94 : decode cX6_change 94 = .ok (.iload 4, 2) := by decide +kernel
theorem dX6_change_96 : decode cX6_change 96 = .ok (.invokevirtual 74, 3) := by decide +kernel
theorem dX6_change_99 : decode cX6_change 99 = .ok (.aload 5, 2) := by decide +kernel
theorem dX6_change_101 : decode cX6_change 101 = .ok (.getfield 80, 3) := by decide +kernel
theorem dX6_change_104 : decode cX6_change 104 = .ok (.iload_n 2, 1) := by decide +kernel
theorem dX6_change_105 : decode cX6_change 105 = .ok (.invokevirtual 110, 3) := by decide +kernel
theorem dX6_change_108 : decode cX6_change 108 = .ok (.ireturn, 1) := by decide +kernel
theorem dX6_lock_0 : decode cX6_lock 0 = .ok (.aload_n 0, 1) := by decide +kernel
theorem dX6_lock_1 : decode cX6_lock 1 = .ok (.iload_n 1, 1) := by decide +kernel
theorem dX6_lock_2 : decode cX6_lock 2 = .ok (.invokevirtual 123, 3) := by decide +kernel
theorem dX6_lock_5 : decode cX6_lock 5 = .ok (.astore 7, 2) := by decide +kernel
theorem dX6_lock_7 : decode cX6_lock 7 = .ok (.aload 7, 2) := by decide +kernel
theorem dX6_lock_9 : decode cX6_lock 9 = .ok (.ifnull 30, 3) := by decide +kernel
theorem dX6_lock_12 : decode cX6_lock 12 = .ok (.aload 7, 2) := by decide +kernel
theorem dX6_lock_14 : decode cX6_lock 14 = .ok (.iload_n 2, 1) := by decide +kernel
theorem dX6_lock_15 : decode cX6_lock 15 = .ok (.invokevirtual 127, 3) := by decide +kernel
theorem dX6_lock_18 : decode cX6_lock 18 = .ok (.ifCond .eq 21, 3) := by decide +kernel
theorem dX6_lock_21 : decode cX6_lock 21 = .ok (.aload 7, 2) := by decide +kernel
theorem dX6_lock_23 : decode cX6_lock 23 = .ok (.iload_n 3, 1) := by decide +kernel
theorem dX6_lock_24 : decode cX6_lock 24 = .ok (.invokevirtual 127, 3) := by decide +kernel
theorem dX6_lock_27 : decode cX6_lock 27 = .ok (.ifCond .eq 12, 3) := by decide +kernel
theorem dX6_lock_30 : decode cX6_lock 30 = .ok (.aload_n 0, 1) := by decide +kernel
theorem dX6_lock_31 : decode cX6_lock 31 = .ok (.iload 5, 2) := by decide +kernel
theorem dX6_lock_33 : decode cX6_lock 33 = .ok (.invokevirtual 136, 3) := by decide +kernel
theorem dX6_lock_36 : decode cX6_lock 36 = .ok (.ifCond .ne 5, 3) := by decide +kernel
theorem dX6_lock_39 : decode cX6_lock 39 = .ok (.iconst (-1), 1) := by decide +kernel
theorem dX6_lock_40 : decode cX6_lock 40 = .ok (.ireturn, 1) := by decide +kernel
theorem dX6_lock_41 : decode cX6_lock 41 = .ok (.aload 7, 2) := by decide +kernel
theorem dX6_lock_43 : decode cX6_lock 43 = .ok (.invokevirtual 128, 3) := by decide +kernel
theorem dX6_lock_46 : decode cX6_lock 46 = .ok (.ifCond .eq 6, 3) := by decide +kernel
theorem dX6_lock_49 : decode cX6_lock 49 = .ok (.bipush (-2), 2) := by decide +kernel
theorem dX6_lock_51 : decode cX6_lock 51 = .ok (.ireturn, 1) := by decide +kernel
theorem dX6_lock_52 : decode cX6_lock 52 = .ok (.iload 4, 2) := by decide +kernel
theorem dX6_lock_54 : decode cX6_lock 54 = .ok (.iconst 1, 1) := by decide +kernel
theorem dX6_lock_55 : decode cX6_lock 55 = .ok (.ldc 132, 2) := by decide +kernel
theorem dX6_lock_57 : decode cX6_lock 57 = .ok (.invokestatic 42, 3) := by decide +kernel
theorem dX6_lock_60 : decode cX6_lock 60 = .ok (.ifCond .eq 14, 3) := by decide +kernel
theorem dX6_lock_63 : decode cX6_lock 63 = .ok (.iload 6, 2) := by decide +kernel
theorem dX6_lock_65 : decode cX6_lock 65 = .ok (.iconst 1, 1) := by decide +kernel
theorem dX6_lock_66 : decode cX6_lock 66 = .ok (.ldc 139, 2) := by decide +kernel
theorem dX6_lock_68 : decode cX6_lock 68 = .ok (.invokestatic 42, 3) := by decide +kernel
theorem dX6_lock_71 : decode cX6_lock 71 = .ok (.ifCond .ne 6, 3) := by decide +kernel
theorem dX6_lock_74 : decode cX6_lock 74 = .ok (.bipush (-3), 2) := by decide +kernel
theorem dX6_lock_76 : decode cX6_lock 76 = .ok (.ireturn, 1) := by decide +kernel
theorem dX6_lock_77 : decode cX6_lock 77 = .ok (.iload_n 2, 1) := by decide +kernel
theorem dX6_lock_78 : decode cX6_lock 78 = .ok (.iload_n 3, 1) := by decide +kernel
theorem dX6_lock_79 : decode cX6_lock 79 = .ok (.if_icmp .eq 23, 3) := by decide +kernel
theorem dX6_lock_82 : decode cX6_lock 82 = .ok (.aload 7, 2) := by decide +kernel
theorem dX6_lock_84 : decode cX6_lock 84 = .ok (.iload_n 2, 1) := by decide +kernel
theorem dX6_lock_85 : decode cX6_lock 85 = .ok (.invokevirtual 133, 3) := by decide +kernel
theorem dX6_lock_88 : decode cX6_lock 88 = .ok (.iload 4, 2) := by decide +kernel
theorem dX6_lock_90 : decode cX6_lock 90 = .ok (.if_icmp .lt 12, 3) := by decide +kernel
theorem dX6_lock_93 : decode cX6_lock 93 = .ok (.aload 7, 2) := by decide +kernel
theorem dX6_lock_95 : decode cX6_lock 95 = .ok (.invokevirtual 140, 3) := by decide +kernel
theorem dX6_lock_98 : decode cX6_lock 98 = .ok (.iconst (-1), 1) := by decide +kernel
theorem dX6_lock_99 : decode cX6_lock 99 = .ok (.if_icmp .ne 6, 3) := by decide +kernel
theorem dX6_lock_102 : decode cX6_lock 102 = .ok (.bipush (-4), 2) := by decide +kernel
theorem dX6_lock_104 : decode cX6_lock 104 = .ok (.ireturn, 1) := by decide +kernel
theorem dX6_lock_105 : decode cX6_lock 105 = .ok (.aload 7, 2) := by decide +kernel
theorem dX6_lock_107 : decode cX6_lock 107 = .ok (.new 144, 3) := by decide +kernel
theorem dX6_lock_110 : decode cX6_lock 110 = .ok (.dup, 1) := by decide +kernel
theorem dX6_lock_111 : decode cX6_lock 111 = .ok (.iload_n 2, 1) := by decide +kernel
theorem dX6_lock_112 : decode cX6_lock 112 = .ok (.iload_n 3, 1) := by decide +kernel
theorem dX6_lock_113 : decode cX6_lock 113 = .ok (.iload 4, 2) := by decide +kernel
theorem dX6_lock_115 : decode cX6_lock 115 = .ok (.iload 5, 2) := by decide +kernel
theorem dX6_lock_117 : decode cX6_lock 117 = .ok (.iload 6, 2) := by decide +kernel
theorem dX6_lock_119 : decode cX6_lock 119 = .ok (.invokespecial 146, 3) := by decide +kernel
theorem dX6_lock_122 : decode cX6_lock 122 = .ok (.invokevirtual 149, 3) := by decide +kernel
theorem dX6_lock_125 : decode cX6_lock 125 = .ok (.ireturn, 1) := by decide +kernel
theorem dX6_unlock_0 : decode cX6_unlock 0 = .ok (.aload_n 0, 1) := by decide +kernel
theorem dX6_unlock_1 : decode cX6_unlock 1 = .ok (.iload_n 1, 1) := by decide +kernel
theorem dX6_unlock_2 : decode cX6_unlock 2 = .ok (.invokevirtual 123, 3) := by decide +kernel
theorem dX6_unlock_5 : decode cX6_unlock 5 = .ok (.astore 4, 2) := by decide +kernel
theorem dX6_unlock_7 : decode cX6_unlock 7 = .ok (.aload 4, 2) := by decide +kernel
theorem dX6_unlock_9 : decode cX6_unlock 9 = .ok (.ifnonnull 5, 3) := by decide +kernel
theorem dX6_unlock_12 : decode cX6_unlock 12 = .ok (.iconst (-1), 1) := by decide +kernel
theorem dX6_unlock_13 : decode cX6_unlock 13 = .ok (.ireturn, 1) := by decide +kernel
theorem dX6_unlock_14 : decode cX6_unlock 14 = .ok (.aload 4, 2) := by decide +kernel
theorem dX6_unlock_16 : decode cX6_unlock 16 = .ok (.iload_n 2, 1) := by decide +kernel
theorem dX6_unlock_17 : decode cX6_unlock 17 = .ok (.invokevirtual 153, 3) := by decide +kernel
theorem dX6_unlock_20 : decode cX6_unlock 20 = .ok (.astore 5, 2) := by decide +kernel
theorem dX6_unlock_22 : decode cX6_unlock 22 = .ok (.aload 5, 2) := by decide +kernel
theorem dX6_unlock_24 : decode cX6_unlock 24 = .ok (.ifnonnull 5, 3) := by decide +kernel
theorem dX6_unlock_27 : decode cX6_unlock 27 = .ok (.iconst (-1), 1) := by decide +kernel
theorem dX6_unlock_28 : decode cX6_unlock 28 = .ok (.ireturn, 1) := by decide +kernel
theorem dX6_unlock_29 : decode cX6_unlock 29 = .ok (.aload 4, 2) := by decide +kernel
theorem dX6_unlock_31 : decode cX6_unlock 31 = .ok (.invokevirtual 128, 3) := by decide +kernel
theorem dX6_unlock_34 : decode cX6_unlock 34 = .ok (.ifCond .eq 6, 3) := by decide +kernel
theorem dX6_unlock_37 : decode cX6_unlock 37 = .ok (.bipush (-2), 2) := by decide +kernel
theorem dX6_unlock_39 : decode cX6_unlock 39 = .ok (.ireturn, 1) := by decide +kernel
theorem dX6_unlock_40 : decode cX6_unlock 40 = .ok (.aload 4, 2) := by decide +kernel
theorem dX6_unlock_42 : decode cX6_unlock 42 = .ok (.iload_n 2, 1) := by decide +kernel
theorem dX6_unlock_43 : decode cX6_unlock 43 = .ok (.invokevirtual 157, 3) := by decide +kernel
theorem dX6_unlock_46 : decode cX6_unlock 46 = .ok (.aload 4, 2) := by decide +kernel
theorem dX6_unlock_48 : decode cX6_unlock 48 = .ok (.getfield 80, 3) := by decide +kernel
theorem dX6_unlock_51 : decode cX6_unlock 51 = .ok (.iload_n 3, 1) := by decide +kernel
theorem dX6_unlock_52 : decode cX6_unlock 52 = .ok (.ifCond .eq 11, 3) := by decide +kernel
theorem dX6_unlock_55 : decode cX6_unlock 55 = .ok (.aload 5, 2) := by decide +kernel
theorem dX6_unlock_57 : decode cX6_unlock 57 = .ok (.getfield 161, 3) := by decide +kernel
theorem dX6_unlock_60 : decode cX6_unlock 60 = .ok (.goto 8, 3) := by decide +kernel
theorem dX6_unlock_63 : decode cX6_unlock 63 = .ok (.aload 5, 2) := by decide +kernel
theorem dX6_unlock_65 : decode cX6_unlock 65 = .ok (.getfield 164, 3) := by decide +kernel
theorem dX6_unlock_68 : decode cX6_unlock 68 = .ok (.aload 5, 2) := by decide +kernel
theorem dX6_unlock_70 : decode cX6_unlock 70 = .ok (.getfield 167, 3) := by decide +kernel
theorem dX6_unlock_73 : decode cX6_unlock 73 = .ok (.invokevirtual 74, 3) := by decide +kernel
theorem dX6_unlock_76 : decode cX6_unlock 76 = .ok (.aload 5, 2) := by decide +kernel
theorem dX6_unlock_78 : decode cX6_unlock 78 = .ok (.getfield 167, 3) := by decide +kernel
theorem dX6_unlock_81 : decode cX6_unlock 81 = .ok (.ireturn, 1) := by decide +kernel
theorem dX6_game_0 : decode cX6_game 0 = .ok (.aload_n 0, 1) := by decide +kernel
theorem dX6_game_1 : decode cX6_game 1 = .ok (.iload_n 1, 1) := by decide +kernel
theorem dX6_game_2 : decode cX6_game 2 = .ok (.invokevirtual 123, 3) := by decide +kernel
theorem dX6_game_5 : decode cX6_game 5 = .ok (.astore 6, 2) := by decide +kernel
theorem dX6_game_7 : decode cX6_game 7 = .ok (.aload 6, 2) := by decide +kernel
theorem dX6_game_9 : decode cX6_game 9 = .ok (.ifnull 21, 3) := by decide +kernel
theorem dX6_game_12 : decode cX6_game 12 = .ok (.aload 6, 2) := by decide +kernel
theorem dX6_game_14 : decode cX6_game 14 = .ok (.iload_n 2, 1) := by decide +kernel
theorem dX6_game_15 : decode cX6_game 15 = .ok (.invokevirtual 127, 3) := by decide +kernel
theorem dX6_game_18 : decode cX6_game 18 = .ok (.ifCond .eq 12, 3) := by decide +kernel
theorem dX6_game_21 : decode cX6_game 21 = .ok (.aload 6, 2) := by decide +kernel
theorem dX6_game_23 : decode cX6_game 23 = .ok (.iload_n 3, 1) := by decide +kernel
theorem dX6_game_24 : decode cX6_game 24 = .ok (.invokevirtual 127, 3) := by decide +kernel
theorem dX6_game_27 : decode cX6_game 27 = .ok (.ifCond .ne 5, 3) := by decide +kernel
theorem dX6_game_30 : decode cX6_game 30 = .ok (.iconst (-1), 1) := by decide +kernel
theorem dX6_game_31 : decode cX6_game 31 = .ok (.ireturn, 1) := by decide +kernel
theorem dX6_game_32 : decode cX6_game 32 = .ok (.aload 6, 2) := by decide +kernel
theorem dX6_game_34 : decode cX6_game 34 = .ok (.invokevirtual 128, 3) := by decide +kernel
theorem dX6_game_37 : decode cX6_game 37 = .ok (.ifCond .eq 6, 3) := by decide +kernel
theorem dX6_game_40 : decode cX6_game 40 = .ok (.bipush (-2), 2) := by decide +kernel
theorem dX6_game_42 : decode cX6_game 42 = .ok (.ireturn, 1) := by decide +kernel
theorem dX6_game_43 : decode cX6_game 43 = .ok (.iload 4, 2) := by decide +kernel
theorem dX6_game_45 : decode cX6_game 45 = .ok (.iconst 1, 1) := by decide +kernel
theorem dX6_game_46 : decode cX6_game 46 = .ok (.sipush 10000, 3) := by decide +kernel
theorem dX6_game_49 : decode cX6_game 49 = .ok (.invokestatic 42, 3) := by decide +kernel
theorem dX6_game_52 : decode cX6_game 52 = .ok (.ifCond .eq 14, 3) := by decide +kernel
theorem dX6_game_55 : decode cX6_game 55 = .ok (.iload 5, 2) := by decide +kernel
theorem dX6_game_57 : decode cX6_game 57 = .ok (.iconst 1, 1) := by decide +kernel
theorem dX6_game_58 : decode cX6_game 58 = .ok (.bipush 20, 2) := by decide +kernel
theorem dX6_game_60 : decode cX6_game 60 = .ok (.invokestatic 42, 3) := by decide +kernel
theorem dX6_game_63 : decode cX6_game 63 = .ok (.ifCond .ne 6, 3) := by decide +kernel
theorem dX6_game_66 : decode cX6_game 66 = .ok (.bipush (-3), 2) := by decide +kernel
theorem dX6_game_68 : decode cX6_game 68 = .ok (.ireturn, 1) := by decide +kernel
theorem dX6_game_69 : decode cX6_game 69 = .ok (.iload_n 2, 1) := by decide +kernel
theorem dX6_game_70 : decode cX6_game 70 = .ok (.iload_n 3, 1) := by decide +kernel
theorem dX6_game_71 : decode cX6_game 71 = .ok (.if_icmp .eq 33, 3) := by decide +kernel
theorem dX6_game_74 : decode cX6_game 74 = .ok (.aload 6, 2) := by decide +kernel
theorem dX6_game_76 : decode cX6_game 76 = .ok (.getfield 170, 3) := by decide +kernel
theorem dX6_game_79 : decode cX6_game 79 = .ok (.ifnonnull 25, 3) := by decide +kernel
theorem dX6_game_82 : decode cX6_game 82 = .ok (.aload 6, 2) := by decide +kernel
theorem dX6_game_84 : decode cX6_game 84 = .ok (.iload_n 2, 1) := by decide +kernel
theorem dX6_game_85 : decode cX6_game 85 = .ok (.invokevirtual 133, 3) := by decide +kernel
theorem dX6_game_88 : decode cX6_game 88 = .ok (.iload 4, 2) := by decide +kernel
theorem dX6_game_90 : decode cX6_game 90 = .ok (.if_icmp .lt 14, 3) := by decide +kernel
theorem dX6_game_93 : decode cX6_game 93 = .ok (.aload 6, 2) := by decide +kernel
theorem dX6_game_95 : decode cX6_game 95 = .ok (.iload_n 3, 1) := by decide +kernel
theorem dX6_game_96 : decode cX6_game 96 = .ok (.invokevirtual 133, 3) := by decide +kernel
theorem dX6_game_99 : decode cX6_game 99 = .ok (.iload 4, 2) := by decide +kernel
theorem dX6_game_101 : decode cX6_game 101 = .ok (.if_icmp .ge 6, 3) := by decide +kernel
theorem dX6_game_104 : decode cX6_game 104 = .ok (.bipush (-4), 2) := by decide +kernel
theorem dX6_game_106 : decode cX6_game 106 = .ok (.ireturn, 1) := by decide +kernel
theorem dX6_game_107 : decode cX6_game 107 = .ok (.aload 6, 2) := by decide +kernel
theorem dX6_game_109 : decode cX6_game 109 = .ok (.getfield 80, 3) := by decide +kernel
theorem dX6_game_112 : decode cX6_game 112 = .ok (.iload_n 2, 1) := by decide +kernel
theorem dX6_game_113 : decode cX6_game 113 = .ok (.iload 4, 2) := by decide +kernel
theorem dX6_game_115 : decode cX6_game 115 = .ok (.ineg, 1) := by decide +kernel
theorem dX6_game_116 : decode cX6_game 116 = .ok (.invokevirtual 74, 3) := by decide +kernel
theorem dX6_game_119 : decode cX6_game 119 = .ok (.aload 6, 2) := by decide +kernel
theorem dX6_game_121 : decode cX6_game 121 = .ok (.getfield 80, 3) := by decide +kernel
theorem dX6_game_124 : decode cX6_game 124 = .ok (.iload_n 3, 1) := by decide +kernel
theorem dX6_game_125 : decode cX6_game 125 = .ok (.iload 4, 2) := by decide +kernel
theorem dX6_game_127 : decode cX6_game 127 = .ok (.ineg, 1) := by decide +kernel
theorem dX6_game_128 : decode cX6_game 128 = .ok (.invokevirtual 74, 3) := by decide +kernel
theorem dX6_game_131 : decode cX6_game 131 = .ok (.new 174, 3) := by decide +kernel
theorem dX6_game_134 : decode cX6_game 134 = .ok (.dup, 1) := by decide +kernel
theorem dX6_game_135 : decode cX6_game 135 = .ok (.iload_n 2, 1) := by decide +kernel
theorem dX6_game_136 : decode cX6_game 136 = .ok (.iload_n 3, 1) := by decide +kernel
theorem dX6_game_137 : decode cX6_game 137 = .ok (.iconst 2, 1) := by decide +kernel
theorem dX6_game_138 : decode cX6_game 138 = .ok (.iload 4, 2) := by decide +kernel
theorem dX6_game_140 : decode cX6_game 140 = .ok (.imul, 1) := by decide +kernel
theorem dX6_game_141 : decode cX6_game 141 = .ok (.iload 5, 2) := by decide +kernel
theorem dX6_game_143 : decode cX6_game 143 = .ok (.invokespecial 176, 3) := by decide +kernel
theorem dX6_game_146 : decode cX6_game 146 = .ok (.astore 7, 2) := by decide +kernel
theorem dX6_game_148 : decode cX6_game 148 = .ok (.aload 6, 2) := by decide +kernel
theorem dX6_game_150 : decode cX6_game 150 = .ok (.aload 7, 2) := by decide +kernel
theorem dX6_game_152 : decode cX6_game 152 = .ok (.putfield 170, 3) := by decide +kernel
theorem dX6_game_155 : decode cX6_game 155 = .ok (.aload 7, 2) := by decide +kernel
theorem dX6_game_157 : decode cX6_game 157 = .ok (.getfield 179, 3) := by decide +kernel
theorem dX6_game_160 : decode cX6_game 160 = .ok (.ireturn, 1) := by decide +kernel
theorem dX6_move_0 : decode cX6_move 0 = .ok (.aload_n 0, 1) := by decide +kernel
theorem dX6_move_1 : decode cX6_move 1 = .ok (.iload_n 1, 1) := by decide +kernel
theorem dX6_move_2 : decode cX6_move 2 = .ok (.invokevirtual 123, 3) := by decide +kernel
theorem dX6_move_5 : decode cX6_move 5 = .ok (.astore_n 3, 1) := by decide +kernel
theorem dX6_move_6 : decode cX6_move 6 = .ok (.aload_n 3, 1) := by decide +kernel
theorem dX6_move_7 : decode cX6_move 7 = .ok (.ifnonnull 5, 3) := by decide +kernel
theorem dX6_move_10 : decode cX6_move 10 = .ok (.iconst (-1), 1) := by decide +kernel
theorem dX6_move_11 : decode cX6_move 11 = .ok (.ireturn, 1) := by decide +kernel
theorem dX6_move_12 : decode cX6_move 12 = .ok (.aload_n 3, 1) := by decide +kernel
theorem dX6_move_13 : decode cX6_move 13 = .ok (.invokevirtual 128, 3) := by decide +kernel
theorem dX6_move_16 : decode cX6_move 16 = .ok (.ifCond .eq 6, 3) := by decide +kernel
theorem dX6_move_19 : decode cX6_move 19 = .ok (.bipush (-2), 2) := by decide +kernel
theorem dX6_move_21 : decode cX6_move 21 = .ok (.ireturn, 1) := by decide +kernel
theorem dX6_move_22 : decode cX6_move 22 = .ok (.iload_n 2, 1) := by decide +kernel
theorem dX6_move_23 : decode cX6_move 23 = .ok (.iconst 1, 1) := by decide +kernel
theorem dX6_move_24 : decode cX6_move 24 = .ok (.iconst 3, 1) := by decide +kernel
theorem dX6_move_25 : decode cX6_move 25 = .ok (.invokestatic 42, 3) := by decide +kernel
theorem dX6_move_28 : decode cX6_move 28 = .ok (.ifCond .ne 6, 3) := by decide +kernel
theorem dX6_move_31 : decode cX6_move 31 = .ok (.bipush (-3), 2) := by decide +kernel
theorem dX6_move_33 : decode cX6_move 33 = .ok (.ireturn, 1) := by decide +kernel
theorem dX6_move_34 : decode cX6_move 34 = .ok (.aload_n 3, 1) := by decide +kernel
theorem dX6_move_35 : decode cX6_move 35 = .ok (.getfield 170, 3) := by decide +kernel
theorem dX6_move_38 : decode cX6_move 38 = .ok (.astore 4, 2) := by decide +kernel
theorem dX6_move_40 : decode cX6_move 40 = .ok (.aload 4, 2) := by decide +kernel
theorem dX6_move_42 : decode cX6_move 42 = .ok (.ifnull 12, 3) := by decide +kernel
theorem dX6_move_45 : decode cX6_move 45 = .ok (.aload 4, 2) := by decide +kernel
theorem dX6_move_47 : decode cX6_move 47 = .ok (.getfield 182, 3) := by decide +kernel
theorem dX6_move_50 : decode cX6_move 50 = .ok (.iload_n 2, 1) := by decide +kernel
theorem dX6_move_51 : decode cX6_move 51 = .ok (.if_icmp .ge 6, 3) := by decide +kernel
theorem dX6_move_54 : decode cX6_move 54 = .ok (.bipush (-4), 2) := by decide +kernel
theorem dX6_move_56 : decode cX6_move 56 = .ok (.ireturn, 1) := by decide +kernel
theorem dX6_move_57 : decode cX6_move 57 = .ok (.aload_n 3, 1) := by decide +kernel
theorem dX6_move_58 : decode cX6_move 58 = .ok (.aload 4, 2) := by decide +kernel
theorem dX6_move_60 : decode cX6_move 60 = .ok (.iload_n 2, 1) := by decide +kernel
theorem dX6_move_61 : decode cX6_move 61 = .ok (.invokevirtual 185, 3) := by decide +kernel
theorem dX6_move_64 : decode cX6_move 64 = .ok (.putfield 170, 3) := by decide +kernel
theorem dX6_move_67 : decode cX6_move 67 = .ok (.aload_n 3, 1) := by decide +kernel
theorem dX6_move_68 : decode cX6_move 68 = .ok (.getfield 170, 3) := by decide +kernel
theorem dX6_move_71 : decode cX6_move 71 = .ok (.ifnonnull 20, 3) := by decide +kernel
theorem dX6_move_74 : decode cX6_move 74 = .ok (.aload_n 3, 1) := by decide +kernel
theorem dX6_move_75 : decode cX6_move 75 = .ok (.getfield 80, 3) := by decide +kernel
theorem dX6_move_78 : decode cX6_move 78 = .ok (.aload 4, 2) := by decide +kernel
theorem dX6_move_80 : decode cX6_move 80 = .ok (.getfield 189, 3) := by decide +kernel
theorem dX6_move_83 : decode cX6_move 83 = .ok (.aload 4, 2) := by decide +kernel
theorem dX6_move_85 : decode cX6_move 85 = .ok (.getfield 179, 3) := by decide +kernel
theorem dX6_move_88 : decode cX6_move 88 = .ok (.invokevirtual 74, 3) := by decide +kernel
theorem dX6_move_91 : decode cX6_move 91 = .ok (.aload 4, 2) := by decide +kernel
theorem dX6_move_93 : decode cX6_move 93 = .ok (.getfield 182, 3) := by decide +kernel
theorem dX6_move_96 : decode cX6_move 96 = .ok (.iload_n 2, 1) := by decide +kernel
theorem dX6_move_97 : decode cX6_move 97 = .ok (.isub, 1) := by decide +kernel
theorem dX6_move_98 : decode cX6_move 98 = .ok (.ireturn, 1) := by decide +kernel
theorem dX6_out_0 : decode cX6_out 0 = .ok (.aload_n 0, 1) := by decide +kernel
theorem dX6_out_1 : decode cX6_out 1 = .ok (.iload_n 1, 1) := by decide +kernel
theorem dX6_out_2 : decode cX6_out 2 = .ok (.invokevirtual 123, 3) := by decide +kernel
theorem dX6_out_5 : decode cX6_out 5 = .ok (.astore 4, 2) := by decide +kernel
theorem dX6_out_7 : decode cX6_out 7 = .ok (.aload 4, 2) := by decide +kernel
theorem dX6_out_9 : decode cX6_out 9 = .ok (.ifnull 12, 3) := by decide +kernel
theorem dX6_out_12 : decode cX6_out 12 = .ok (.aload 4, 2) := by decide +kernel
theorem dX6_out_14 : decode cX6_out 14 = .ok (.iload_n 2, 1) := by decide +kernel
theorem dX6_out_15 : decode cX6_out 15 = .ok (.invokevirtual 127, 3) := by decide +kernel
theorem dX6_out_18 : decode cX6_out 18 = .ok (.ifCond .ne 5, 3) := by decide +kernel
theorem dX6_out_21 : decode cX6_out 21 = .ok (.iconst (-1), 1) := by decide +kernel
theorem dX6_out_22 : decode cX6_out 22 = .ok (.ireturn, 1) := by decide +kernel
theorem dX6_out_23 : decode cX6_out 23 = .ok (.aload 4, 2) := by decide +kernel
theorem dX6_out_25 : decode cX6_out 25 = .ok (.invokevirtual 128, 3) := by decide +kernel
theorem dX6_out_28 : decode cX6_out 28 = .ok (.ifCond .eq 6, 3) := by decide +kernel
theorem dX6_out_31 : decode cX6_out 31 = .ok (.bipush (-2), 2) := by decide +kernel
theorem dX6_out_33 : decode cX6_out 33 = .ok (.ireturn, 1) := by decide +kernel
theorem dX6_out_34 : decode cX6_out 34 = .ok (.iload_n 3, 1) := by decide +kernel
theorem dX6_out_35 : decode cX6_out 35 = .ok (.iconst 0, 1) := by decide +kernel
theorem dX6_out_36 : decode cX6_out 36 = .ok (.ldc 132, 2) := by decide +kernel
theorem dX6_out_38 : decode cX6_out 38 = .ok (.invokestatic 42, 3) := by decide +kernel
theorem dX6_out_41 : decode cX6_out 41 = .ok (.ifCond .ne 6, 3) := by decide +kernel
theorem dX6_out_44 : decode cX6_out 44 = .ok (.bipush (-3), 2) := by decide +kernel
theorem dX6_out_46 : decode cX6_out 46 = .ok (.ireturn, 1) := by decide +kernel
theorem dX6_out_47 : decode cX6_out 47 = .ok (.aload 4, 2) := by decide +kernel
theorem dX6_out_49 : decode cX6_out 49 = .ok (.getfield 80, 3) := by decide +kernel
theorem dX6_out_52 : decode cX6_out 52 = .ok (.iload_n 2, 1) := by decide +kernel
theorem dX6_out_53 : decode cX6_out 53 = .ok (.invokevirtual 110, 3) := by decide +kernel
theorem dX6_out_56 : decode cX6_out 56 = .ok (.iload_n 3, 1) := by decide +kernel
theorem dX6_out_57 : decode cX6_out 57 = .ok (.if_icmp .ge 6, 3) := by decide +kernel
theorem dX6_out_60 : decode cX6_out 60 = .ok (.bipush (-4), 2) := by decide +kernel
theorem dX6_out_62 : decode cX6_out 62 = .ok (.ireturn, 1) := by decide +kernel
theorem dX6_out_63 : decode cX6_out 63 = .ok (.aload 4, 2) := by decide +kernel
theorem dX6_out_65 : decode cX6_out 65 = .ok (.getfield 192, 3) := by decide +kernel
theorem dX6_out_68 : decode cX6_out 68 = .ok (.iload_n 2, 1) := by decide +kernel
theorem dX6_out_69 : decode cX6_out 69 = .ok (.invokevirtual 110, 3) := by decide +kernel
theorem dX6_out_72 : decode cX6_out 72 = .ok (.istore 5, 2) := by decide +kernel
theorem dX6_out_74 : decode cX6_out 74 = .ok (.aload 4, 2) := by decide +kernel
theorem dX6_out_76 : decode cX6_out 76 = .ok (.getfield 192, 3) := by decide +kernel
theorem dX6_out_79 : decode cX6_out 79 = .ok (.iload_n 2, 1) := by decide +kernel
theorem dX6_out_80 : decode cX6_out 80 = .ok (.iload_n 3, 1) := by decide +kernel
theorem dX6_out_81 : decode cX6_out 81 = .ok (.invokevirtual 38, 3) := by decide +kernel
theorem dX6_out_84 : decode cX6_out 84 = .ok (.iload 5, 2) := by decide +kernel
theorem dX6_out_86 : decode cX6_out 86 = .ok (.ireturn, 1) := by decide +kernel
theorem dX6_sign_0 : decode cX6_sign 0 = .ok (.aload_n 0, 1) := by decide +kernel
theorem dX6_sign_1 : decode cX6_sign 1 = .ok (.iload_n 1, 1) := by decide +kernel
theorem dX6_sign_2 : decode cX6_sign 2 = .ok (.invokevirtual 123, 3) := by decide +kernel
theorem dX6_sign_5 : decode cX6_sign 5 = .ok (.astore_n 3, 1) := by decide +kernel
theorem dX6_sign_6 : decode cX6_sign 6 = .ok (.aload_n 3, 1) := by decide +kernel
theorem dX6_sign_7 : decode cX6_sign 7 = .ok (.ifnull 11, 3) := by decide +kernel
theorem dX6_sign_10 : decode cX6_sign 10 = .ok (.aload_n 3, 1) := by decide +kernel
theorem dX6_sign_11 : decode cX6_sign 11 = .ok (.iload_n 2, 1) := by decide +kernel
theorem dX6_sign_12 : decode cX6_sign 12 = .ok (.invokevirtual 127, 3) := by decide +kernel
theorem dX6_sign_15 : decode cX6_sign 15 = .ok (.ifCond .ne 5, 3) := by decide +kernel
theorem dX6_sign_18 : decode cX6_sign 18 = .ok (.iconst (-1), 1) := by decide +kernel
theorem dX6_sign_19 : decode cX6_sign 19 = .ok (.ireturn, 1) := by decide +kernel
theorem dX6_sign_20 : decode cX6_sign 20 = .ok (.aload_n 3, 1) := by decide +kernel
theorem dX6_sign_21 : decode cX6_sign 21 = .ok (.getfield 195, 3) := by decide +kernel
theorem dX6_sign_24 : decode cX6_sign 24 = .ok (.getfield 97, 3) := by decide +kernel
theorem dX6_sign_27 : decode cX6_sign 27 = .ok (.iconst 3, 1) := by decide +kernel
theorem dX6_sign_28 : decode cX6_sign 28 = .ok (.if_icmp .ne 6, 3) := by decide +kernel
theorem dX6_sign_31 : decode cX6_sign 31 = .ok (.bipush (-2), 2) := by decide +kernel
theorem dX6_sign_33 : decode cX6_sign 33 = .ok (.ireturn, 1) := by decide +kernel
theorem dX6_sign_34 : decode cX6_sign 34 = .ok (.aload_n 3, 1) := by decide +kernel
theorem dX6_sign_35 : decode cX6_sign 35 = .ok (.getfield 83, 3) := by decide +kernel
theorem dX6_sign_38 : decode cX6_sign 38 = .ok (.iload_n 2, 1) := by decide +kernel
theorem dX6_sign_39 : decode cX6_sign 39 = .ok (.invokestatic 107, 3) := by decide +kernel
theorem dX6_sign_42 : decode cX6_sign 42 = .ok (.ifCond .eq 6, 3) := by decide +kernel
theorem dX6_sign_45 : decode cX6_sign 45 = .ok (.bipush (-4), 2) := by decide +kernel
theorem dX6_sign_47 : decode cX6_sign 47 = .ok (.ireturn, 1) := by decide +kernel
theorem dX6_sign_48 : decode cX6_sign 48 = .ok (.aload_n 3, 1) := by decide +kernel
theorem dX6_sign_49 : decode cX6_sign 49 = .ok (.dup, 1) := by decide +kernel
theorem dX6_sign_50 : decode cX6_sign 50 = .ok (.getfield 83, 3) := by decide +kernel
theorem dX6_sign_53 : decode cX6_sign 53 = .ok (.iconst 1, 1) := by decide +kernel
theorem dX6_sign_54 : decode cX6_sign 54 = .ok (.iload_n 2, 1) := by decide +kernel
theorem dX6_sign_55 : decode cX6_sign 55 = .ok (.ishl, 1) := by decide +kernel
theorem dX6_sign_56 : decode cX6_sign 56 = .ok (.ior, 1) := by decide +kernel
theorem dX6_sign_57 : decode cX6_sign 57 = .ok (.putfield 83, 3) := by decide +kernel
theorem dX6_sign_60 : decode cX6_sign 60 = .ok (.aload_n 3, 1) := by decide +kernel
theorem dX6_sign_61 : decode cX6_sign 61 = .ok (.getfield 195, 3) := by decide +kernel
theorem dX6_sign_64 : decode cX6_sign 64 = .ok (.aload_n 3, 1) := by decide +kernel
theorem dX6_sign_65 : decode cX6_sign 65 = .ok (.invokevirtual 199, 3) := by decide +kernel
theorem dX6_sign_68 : decode cX6_sign 68 = .ok (.aload_n 3, 1) := by decide +kernel
theorem dX6_sign_69 : decode cX6_sign 69 = .ok (.getfield 83, 3) := by decide +kernel
theorem dX6_sign_72 : decode cX6_sign 72 = .ok (.invokestatic 46, 3) := by decide +kernel
theorem dX6_sign_75 : decode cX6_sign 75 = .ok (.ireturn, 1) := by decide +kernel
theorem dX6_show_0 : decode cX6_show 0 = .ok (.aload_n 0, 1) := by decide +kernel
theorem dX6_show_1 : decode cX6_show 1 = .ok (.iload_n 1, 1) := by decide +kernel
theorem dX6_show_2 : decode cX6_show 2 = .ok (.invokevirtual 123, 3) := by decide +kernel
theorem dX6_show_5 : decode cX6_show 5 = .ok (.astore_n 3, 1) := by decide +kernel
theorem dX6_show_6 : decode cX6_show 6 = .ok (.aload_n 3, 1) := by decide +kernel
theorem dX6_show_7 : decode cX6_show 7 = .ok (.ifnull 11, 3) := by decide +kernel
theorem dX6_show_10 : decode cX6_show 10 = .ok (.aload_n 3, 1) := by decide +kernel
theorem dX6_show_11 : decode cX6_show 11 = .ok (.iload_n 2, 1) := by decide +kernel
theorem dX6_show_12 : decode cX6_show 12 = .ok (.invokevirtual 127, 3) := by decide +kernel
theorem dX6_show_15 : decode cX6_show 15 = .ok (.ifCond .ne 5, 3) := by decide +kernel
theorem dX6_show_18 : decode cX6_show 18 = .ok (.iconst (-1), 1) := by decide +kernel
theorem dX6_show_19 : decode cX6_show 19 = .ok (.ireturn, 1) := by decide +kernel
theorem dX6_show_20 : decode cX6_show 20 = .ok (.aload_n 3, 1) := by decide +kernel
theorem dX6_show_21 : decode cX6_show 21 = .ok (.getfield 195, 3) := by decide +kernel
theorem dX6_show_24 : decode cX6_show 24 = .ok (.astore 4, 2) := by decide +kernel
theorem dX6_show_26 : decode cX6_show 26 = .ok (.aload 4, 2) := by decide +kernel
theorem dX6_show_28 : decode cX6_show 28 = .ok (.getfield 97, 3) := by decide +kernel
theorem dX6_show_31 : decode cX6_show 31 = .ok (.iconst 3, 1) := by decide +kernel
theorem dX6_show_32 : decode cX6_show 32 = .ok (.if_icmp .ne 6, 3) := by decide +kernel
theorem dX6_show_35 : decode cX6_show 35 = .ok (.bipush (-2), 2) := by decide +kernel
theorem dX6_show_37 : decode cX6_show 37 = .ok (.ireturn, 1) := by decide +kernel
theorem dX6_show_38 : decode cX6_show 38 = .ok (.aload_n 3, 1) := by decide +kernel
theorem dX6_show_39 : decode cX6_show 39 = .ok (.invokevirtual 202, 3) := by decide +kernel
theorem dX6_show_42 : decode cX6_show 42 = .ok (.ifCond .eq 12, 3) := by decide +kernel
theorem dX6_show_45 : decode cX6_show 45 = .ok (.aload 4, 2) := by decide +kernel
theorem dX6_show_47 : decode cX6_show 47 = .ok (.aload_n 3, 1) := by decide +kernel
theorem dX6_show_48 : decode cX6_show 48 = .ok (.invokevirtual 205, 3) := by decide +kernel
theorem dX6_show_51 : decode cX6_show 51 = .ok (.ifCond .ne 6, 3) := by decide +kernel
theorem dX6_show_54 : decode cX6_show 54 = .ok (.bipush (-4), 2) := by decide +kernel
theorem dX6_show_56 : decode cX6_show 56 = .ok (.ireturn, 1) := by decide +kernel
theorem dX6_show_57 : decode cX6_show 57 = .ok (.aload_n 0, 1) := by decide +kernel
theorem dX6_show_58 : decode cX6_show 58 = .ok (.aload_n 3, 1) := by decide +kernel
theorem dX6_show_59 : decode cX6_show 59 = .ok (.invokevirtual 209, 3) := by decide +kernel
theorem dX6_show_62 : decode cX6_show 62 = .ok (.aload 4, 2) := by decide +kernel
theorem dX6_show_64 : decode cX6_show 64 = .ok (.getfield 212, 3) := by decide +kernel
theorem dX6_show_67 : decode cX6_show 67 = .ok (.ireturn, 1) := by decide +kernel
theorem dX6_agree_0 : decode cX6_agree 0 = .ok (.aload_n 0, 1) := by decide +kernel
theorem dX6_agree_1 : decode cX6_agree 1 = .ok (.iload_n 1, 1) := by decide +kernel
theorem dX6_agree_2 : decode cX6_agree 2 = .ok (.invokevirtual 123, 3) := by decide +kernel
theorem dX6_agree_5 : decode cX6_agree 5 = .ok (.astore_n 3, 1) := by decide +kernel
theorem dX6_agree_6 : decode cX6_agree 6 = .ok (.aload_n 3, 1) := by decide +kernel
theorem dX6_agree_7 : decode cX6_agree 7 = .ok (.ifnull 11, 3) := by decide +kernel
theorem dX6_agree_10 : decode cX6_agree 10 = .ok (.aload_n 3, 1) := by decide +kernel
theorem dX6_agree_11 : decode cX6_agree 11 = .ok (.iload_n 2, 1) := by decide +kernel
theorem dX6_agree_12 : decode cX6_agree 12 = .ok (.invokevirtual 127, 3) := by decide +kernel
theorem dX6_agree_15 : decode cX6_agree 15 = .ok (.ifCond .ne 5, 3) := by decide +kernel
theorem dX6_agree_18 : decode cX6_agree 18 = .ok (.iconst (-1), 1) := by decide +kernel
theorem dX6_agree_19 : decode cX6_agree 19 = .ok (.ireturn, 1) := by decide +kernel
theorem dX6_agree_20 : decode cX6_agree 20 = .ok (.aload_n 3, 1) := by decide +kernel
theorem dX6_agree_21 : decode cX6_agree 21 = .ok (.getfield 195, 3) := by decide +kernel
theorem dX6_agree_24 : decode cX6_agree 24 = .ok (.astore 4, 2) := by decide +kernel
theorem dX6_agree_26 : decode cX6_agree 26 = .ok (.aload 4, 2) := by decide +kernel
theorem dX6_agree_28 : decode cX6_agree 28 = .ok (.getfield 97, 3) := by decide +kernel
theorem dX6_agree_31 : decode cX6_agree 31 = .ok (.iconst 1, 1) := by decide +kernel
theorem dX6_agree_32 : decode cX6_agree 32 = .ok (.if_icmp .eq 6, 3) := by decide +kernel
theorem dX6_agree_35 : decode cX6_agree 35 = .ok (.bipush (-2), 2) := by decide +kernel
theorem dX6_agree_37 : decode cX6_agree 37 = .ok (.ireturn, 1) := by decide +kernel
theorem dX6_agree_38 : decode cX6_agree 38 = .ok (.aload_n 3, 1) := by decide +kernel
theorem dX6_agree_39 : decode cX6_agree 39 = .ok (.aload 4, 2) := by decide +kernel
theorem dX6_agree_41 : decode cX6_agree 41 = .ok (.getfield 86, 3) := by decide +kernel
theorem dX6_agree_44 : decode cX6_agree 44 = .ok (.if_acmp .ne 14, 3) := by decide +kernel
theorem dX6_agree_47 : decode cX6_agree 47 = .ok (.aload_n 3, 1) := by decide +kernel
theorem dX6_agree_48 : decode cX6_agree 48 = .ok (.getfield 215, 3) := by decide +kernel
theorem dX6_agree_51 : decode cX6_agree 51 = .ok (.iload_n 2, 1) := by decide +kernel
theorem dX6_agree_52 : decode cX6_agree 52 = .ok (.invokestatic 107, 3) := by decide +kernel
theorem dX6_agree_55 : decode cX6_agree 55 = .ok (.ifCond .eq 6, 3) := by decide +kernel
theorem dX6_agree_58 : decode cX6_agree 58 = .ok (.bipush (-4), 2) := by decide +kernel
theorem dX6_agree_60 : decode cX6_agree 60 = .ok (.ireturn, 1) := by decide +kernel
theorem dX6_agree_61 : decode cX6_agree 61 = .ok (.aload_n 3, 1) := by decide +kernel
theorem dX6_agree_62 : decode cX6_agree 62 = .ok (.dup, 1) := by decide +kernel
theorem dX6_agree_63 : decode cX6_agree 63 = .ok (.getfield 215, 3) := by decide +kernel
theorem dX6_agree_66 : decode cX6_agree 66 = .ok (.iconst 1, 1) := by decide +kernel
theorem dX6_agree_67 : decode cX6_agree 67 = .ok (.iload_n 2, 1) := by decide +kernel
theorem dX6_agree_68 : decode cX6_agree 68 = .ok (.ishl, 1) := by decide +kernel
theorem dX6_agree_69 : decode cX6_agree 69 = .ok (.ior, 1) := by decide +kernel
theorem dX6_agree_70 : decode cX6_agree 70 = .ok (.putfield 215, 3) := by decide +kernel
theorem dX6_agree_73 : decode cX6_agree 73 = .ok (.aload_n 3, 1) := by decide +kernel
theorem dX6_agree_74 : decode cX6_agree 74 = .ok (.getfield 215, 3) := by decide +kernel
theorem dX6_agree_77 : decode cX6_agree 77 = .ok (.istore 5, 2) := by decide +kernel
theorem dX6_agree_79 : decode cX6_agree 79 = .ok (.iload 5, 2) := by decide +kernel
theorem dX6_agree_81 : decode cX6_agree 81 = .ok (.aload 4, 2) := by decide +kernel
theorem dX6_agree_83 : decode cX6_agree 83 = .ok (.getfield 218, 3) := by decide +kernel
theorem dX6_agree_86 : decode cX6_agree 86 = .ok (.if_icmp .ne 8, 3) := by decide +kernel
theorem dX6_agree_89 : decode cX6_agree 89 = .ok (.aload_n 0, 1) := by decide +kernel
theorem dX6_agree_90 : decode cX6_agree 90 = .ok (.aload_n 3, 1) := by decide +kernel
theorem dX6_agree_91 : decode cX6_agree 91 = .ok (.invokevirtual 221, 3) := by decide +kernel
theorem dX6_agree_94 : decode cX6_agree 94 = .ok (.iload 5, 2) := by decide +kernel
theorem dX6_agree_96 : decode cX6_agree 96 = .ok (.invokestatic 46, 3) := by decide +kernel
theorem dX6_agree_99 : decode cX6_agree 99 = .ok (.ireturn, 1) := by decide +kernel
theorem dX6_makeShown_0 : decode cX6_makeShown 0 = .ok (.aload_n 1, 1) := by decide +kernel
theorem dX6_makeShown_1 : decode cX6_makeShown 1 = .ok (.getfield 195, 3) := by decide +kernel
theorem dX6_makeShown_4 : decode cX6_makeShown 4 = .ok (.astore_n 2, 1) := by decide +kernel
theorem dX6_makeShown_5 : decode cX6_makeShown 5 = .ok (.aload_n 2, 1) := by decide +kernel
theorem dX6_makeShown_6 : decode cX6_makeShown 6 = .ok (.getfield 97, 3) := by decide +kernel
theorem dX6_makeShown_9 : decode cX6_makeShown 9 = .ok (.iconst 1, 1) := by decide +kernel
theorem dX6_makeShown_10 : decode cX6_makeShown 10 = .ok (.if_icmp .ne 21, 3) := by decide +kernel
theorem dX6_makeShown_13 : decode cX6_makeShown 13 = .ok (.aload_n 2, 1) := by decide +kernel
theorem dX6_makeShown_14 : decode cX6_makeShown 14 = .ok (.iconst 2, 1) := by decide +kernel
theorem dX6_makeShown_15 : decode cX6_makeShown 15 = .ok (.putfield 97, 3) := by decide +kernel
theorem dX6_makeShown_18 : decode cX6_makeShown 18 = .ok (.aload_n 2, 1) := by decide +kernel
theorem dX6_makeShown_19 : decode cX6_makeShown 19 = .ok (.aload_n 0, 1) := by decide +kernel
theorem dX6_makeShown_20 : decode cX6_makeShown 20 = .ok (.getfield 224, 3) := by decide +kernel
theorem dX6_makeShown_23 : decode cX6_makeShown 23 = .ok (.aload_n 2, 1) := by decide +kernel
theorem dX6_makeShown_24 : decode cX6_makeShown 24 = .ok (.getfield 227, 3) := by decide +kernel
theorem dX6_makeShown_27 : decode cX6_makeShown 27 = .ok (.iadd, 1) := by decide +kernel
theorem dX6_makeShown_28 : decode cX6_makeShown 28 = .ok (.putfield 212, 3) := by decide +kernel
theorem dX6_makeShown_31 : decode cX6_makeShown 31 = .ok (.aload_n 2, 1) := by decide +kernel
theorem dX6_makeShown_32 : decode cX6_makeShown 32 = .ok (.aload_n 1, 1) := by decide +kernel
theorem dX6_makeShown_33 : decode cX6_makeShown 33 = .ok (.putfield 230, 3) := by decide +kernel
theorem dX6_makeShown_36 : decode cX6_makeShown 36 = .ok (.return_, 1) := by decide +kernel
theorem dX6_fulfil_0 : decode cX6_fulfil 0 = .ok (.aload_n 1, 1) := by decide +kernel
theorem dX6_fulfil_1 : decode cX6_fulfil 1 = .ok (.invokevirtual 233, 3) := by decide +kernel
theorem dX6_fulfil_4 : decode cX6_fulfil 4 = .ok (.ifCond .eq 11, 3) := by decide +kernel
theorem dX6_fulfil_7 : decode cX6_fulfil 7 = .ok (.aload_n 0, 1) := by decide +kernel
theorem dX6_fulfil_8 : decode cX6_fulfil 8 = .ok (.aload_n 1, 1) := by decide +kernel
theorem dX6_fulfil_9 : decode cX6_fulfil 9 = .ok (.invokevirtual 236, 3) := by decide +kernel
theorem dX6_fulfil_12 : decode cX6_fulfil 12 = .ok (.goto 8, 3) := by decide +kernel
theorem dX6_fulfil_15 : decode cX6_fulfil 15 = .ok (.aload_n 0, 1) := by decide +kernel
theorem dX6_fulfil_16 : decode cX6_fulfil 16 = .ok (.aload_n 1, 1) := by decide +kernel
theorem dX6_fulfil_17 : decode cX6_fulfil 17 = .ok (.invokevirtual 239, 3) := by decide +kernel
theorem dX6_fulfil_20 : decode cX6_fulfil 20 = .ok (.return_, 1) := by decide +kernel
theorem dX6_payOuts_0 : decode cX6_payOuts 0 = .ok (.iconst 0, 1) := by decide +kernel
theorem dX6_payOuts_1 : decode cX6_payOuts 1 = .ok (.istore_n 2, 1) := by decide +kernel
theorem dX6_payOuts_2 : decode cX6_payOuts 2 = .ok (.iload_n 2, 1) := by decide +kernel
theorem dX6_payOuts_3 : decode cX6_payOuts 3 = .ok (.bipush 6, 2) := by decide +kernel
theorem dX6_payOuts_5 : decode cX6_payOuts 5 = .ok (.if_icmp .ge 47, 3) := by decide +kernel
theorem dX6_payOuts_8 : decode cX6_payOuts 8 = .ok (.aload_n 1, 1) := by decide +kernel
theorem dX6_payOuts_9 : decode cX6_payOuts 9 = .ok (.getfield 192, 3) := by decide +kernel
theorem dX6_payOuts_12 : decode cX6_payOuts 12 = .ok (.iload_n 2, 1) := by decide +kernel
theorem dX6_payOuts_13 : decode cX6_payOuts 13 = .ok (.invokevirtual 110, 3) := by decide +kernel
theorem dX6_payOuts_16 : decode cX6_payOuts 16 = .ok (.istore_n 3, 1) := by decide +kernel
theorem dX6_payOuts_17 : decode cX6_payOuts 17 = .ok (.aload_n 1, 1) := by decide +kernel
theorem dX6_payOuts_18 : decode cX6_payOuts 18 = .ok (.getfield 80, 3) := by decide +kernel
theorem dX6_payOuts_21 : decode cX6_payOuts 21 = .ok (.iload_n 2, 1) := by decide +kernel
theorem dX6_payOuts_22 : decode cX6_payOuts 22 = .ok (.iload_n 3, 1) := by decide +kernel
theorem dX6_payOuts_23 : decode cX6_payOuts 23 = .ok (.ineg, 1) := by decide +kernel
theorem dX6_payOuts_24 : decode cX6_payOuts 24 = .ok (.invokevirtual 74, 3) := by decide +kernel
theorem dX6_payOuts_27 : decode cX6_payOuts 27 = .ok (.aload_n 1, 1) := by decide +kernel
theorem dX6_payOuts_28 : decode cX6_payOuts 28 = .ok (.getfield 192, 3) := by decide +kernel
theorem dX6_payOuts_31 : decode cX6_payOuts 31 = .ok (.iload_n 2, 1) := by decide +kernel
theorem dX6_payOuts_32 : decode cX6_payOuts 32 = .ok (.iconst 0, 1) := by decide +kernel
theorem dX6_payOuts_33 : decode cX6_payOuts 33 = .ok (.invokevirtual 38, 3) := by decide +kernel
theorem dX6_payOuts_36 : decode cX6_payOuts 36 = .ok (.aload_n 0, 1) := by decide +kernel
theorem dX6_payOuts_37 : decode cX6_payOuts 37 = .ok (.aload_n 1, 1) := by decide +kernel
theorem dX6_payOuts_38 : decode cX6_payOuts 38 = .ok (.getfield 195, 3) := by decide +kernel
theorem dX6_payOuts_41 : decode cX6_payOuts 41 = .ok (.iload_n 2, 1) := by decide +kernel
theorem dX6_payOuts_42 : decode cX6_payOuts 42 = .ok (.iload_n 3, 1) := by decide +kernel
theorem dX6_payOuts_43 : decode cX6_payOuts 43 = .ok (.invokevirtual 242, 3) := by decide +kernel
theorem dX6_payOuts_46 : decode cX6_payOuts 46 = .ok (.iinc 2 1, 3) := by decide +kernel
theorem dX6_payOuts_49 : decode cX6_payOuts 49 = .ok (.goto (-47), 3) := by decide +kernel
theorem dX6_payOuts_52 : decode cX6_payOuts 52 = .ok (.aload_n 1, 1) := by decide +kernel
theorem dX6_payOuts_53 : decode cX6_payOuts 53 = .ok (.iconst 0, 1) := by decide +kernel
theorem dX6_payOuts_54 : decode cX6_payOuts 54 = .ok (.putfield 215, 3) := by decide +kernel
theorem dX6_payOuts_57 : decode cX6_payOuts 57 = .ok (.return_, 1) := by decide +kernel
theorem dX6_endBy_0 : decode cX6_endBy 0 = .ok (.aload_n 1, 1) := by decide +kernel
theorem dX6_endBy_1 : decode cX6_endBy 1 = .ok (.getfield 195, 3) := by decide +kernel
theorem dX6_endBy_4 : decode cX6_endBy 4 = .ok (.astore_n 2, 1) := by decide +kernel
theorem dX6_endBy_5 : decode cX6_endBy 5 = .ok (.aload_n 2, 1) := by decide +kernel
theorem dX6_endBy_6 : decode cX6_endBy 6 = .ok (.iconst 3, 1) := by decide +kernel
theorem dX6_endBy_7 : decode cX6_endBy 7 = .ok (.putfield 97, 3) := by decide +kernel
theorem dX6_endBy_10 : decode cX6_endBy 10 = .ok (.aload_n 2, 1) := by decide +kernel
theorem dX6_endBy_11 : decode cX6_endBy 11 = .ok (.aload_n 1, 1) := by decide +kernel
theorem dX6_endBy_12 : decode cX6_endBy 12 = .ok (.putfield 230, 3) := by decide +kernel
theorem dX6_endBy_15 : decode cX6_endBy 15 = .ok (.aload_n 2, 1) := by decide +kernel
theorem dX6_endBy_16 : decode cX6_endBy 16 = .ok (.aconst_null, 1) := by decide +kernel
theorem dX6_endBy_17 : decode cX6_endBy 17 = .ok (.putfield 86, 3) := by decide +kernel
theorem dX6_endBy_20 : decode cX6_endBy 20 = .ok (.aload_n 2, 1) := by decide +kernel
theorem dX6_endBy_21 : decode cX6_endBy 21 = .ok (.iconst 0, 1) := by decide +kernel
theorem dX6_endBy_22 : decode cX6_endBy 22 = .ok (.putfield 212, 3) := by decide +kernel
theorem dX6_endBy_25 : decode cX6_endBy 25 = .ok (.iconst 0, 1) := by decide +kernel
theorem dX6_endBy_26 : decode cX6_endBy 26 = .ok (.istore_n 3, 1) := by decide +kernel
theorem dX6_endBy_27 : decode cX6_endBy 27 = .ok (.iload_n 3, 1) := by decide +kernel
theorem dX6_endBy_28 : decode cX6_endBy 28 = .ok (.bipush 6, 2) := by decide +kernel
theorem dX6_endBy_30 : decode cX6_endBy 30 = .ok (.if_icmp .ge 23, 3) := by decide +kernel
theorem dX6_endBy_33 : decode cX6_endBy 33 = .ok (.aload_n 0, 1) := by decide +kernel
theorem dX6_endBy_34 : decode cX6_endBy 34 = .ok (.aload_n 2, 1) := by decide +kernel
theorem dX6_endBy_35 : decode cX6_endBy 35 = .ok (.iload_n 3, 1) := by decide +kernel
theorem dX6_endBy_36 : decode cX6_endBy 36 = .ok (.aload_n 1, 1) := by decide +kernel
theorem dX6_endBy_37 : decode cX6_endBy 37 = .ok (.getfield 80, 3) := by decide +kernel
theorem dX6_endBy_40 : decode cX6_endBy 40 = .ok (.iload_n 3, 1) := by decide +kernel
theorem dX6_endBy_41 : decode cX6_endBy 41 = .ok (.invokevirtual 110, 3) := by decide +kernel
theorem dX6_endBy_44 : decode cX6_endBy 44 = .ok (.invokevirtual 242, 3) := by decide +kernel
theorem dX6_endBy_47 : decode cX6_endBy 47 = .ok (.iinc 3 1, 3) := by decide +kernel
theorem dX6_endBy_50 : decode cX6_endBy 50 = .ok (.goto (-23), 3) := by decide +kernel
theorem dX6_endBy_53 : decode cX6_endBy 53 = .ok (.iconst 0, 1) := by decide +kernel
theorem dX6_endBy_54 : decode cX6_endBy 54 = .ok (.istore_n 3, 1) := by decide +kernel
theorem dX6_endBy_55 : decode cX6_endBy 55 = .ok (.iload_n 3, 1) := by decide +kernel
theorem dX6_endBy_56 : decode cX6_endBy 56 = .ok (.iconst 3, 1) := by decide +kernel
theorem dX6_endBy_57 : decode cX6_endBy 57 = .ok (.if_icmp .ge 20, 3) := by decide +kernel
theorem dX6_endBy_60 : decode cX6_endBy 60 = .ok (.aload_n 0, 1) := by decide +kernel
theorem dX6_endBy_61 : decode cX6_endBy 61 = .ok (.aload_n 2, 1) := by decide +kernel
theorem dX6_endBy_62 : decode cX6_endBy 62 = .ok (.iload_n 3, 1) := by decide +kernel
theorem dX6_endBy_63 : decode cX6_endBy 63 = .ok (.aload_n 1, 1) := by decide +kernel
theorem dX6_endBy_64 : decode cX6_endBy 64 = .ok (.iload_n 3, 1) := by decide +kernel
theorem dX6_endBy_65 : decode cX6_endBy 65 = .ok (.invokevirtual 153, 3) := by decide +kernel
theorem dX6_endBy_68 : decode cX6_endBy 68 = .ok (.invokevirtual 246, 3) := by decide +kernel
theorem dX6_endBy_71 : decode cX6_endBy 71 = .ok (.iinc 3 1, 3) := by decide +kernel
theorem dX6_endBy_74 : decode cX6_endBy 74 = .ok (.goto (-19), 3) := by decide +kernel
theorem dX6_endBy_77 : decode cX6_endBy 77 = .ok (.aload_n 2, 1) := by decide +kernel
theorem dX6_endBy_78 : decode cX6_endBy 78 = .ok (.aload_n 1, 1) := by decide +kernel
theorem dX6_endBy_79 : decode cX6_endBy 79 = .ok (.getfield 170, 3) := by decide +kernel
theorem dX6_endBy_82 : decode cX6_endBy 82 = .ok (.putfield 250, 3) := by decide +kernel
theorem dX6_endBy_85 : decode cX6_endBy 85 = .ok (.aload_n 2, 1) := by decide +kernel
theorem dX6_endBy_86 : decode cX6_endBy 86 = .ok (.aload_n 1, 1) := by decide +kernel
theorem dX6_endBy_87 : decode cX6_endBy 87 = .ok (.getfield 170, 3) := by decide +kernel
theorem dX6_endBy_90 : decode cX6_endBy 90 = .ok (.ifnonnull 7, 3) := by decide +kernel
theorem dX6_endBy_93 : decode cX6_endBy 93 = .ok (.iconst 0, 1) := by decide +kernel
theorem dX6_endBy_94 : decode cX6_endBy 94 = .ok (.goto 12, 3) := by decide +kernel
theorem dX6_endBy_97 : decode cX6_endBy 97 = .ok (.aload_n 0, 1) := by decide +kernel
theorem dX6_endBy_98 : decode cX6_endBy 98 = .ok (.getfield 224, 3) := by decide +kernel
theorem dX6_endBy_101 : decode cX6_endBy 101 = .ok (.aload_n 2, 1) := by decide +kernel
theorem dX6_endBy_102 : decode cX6_endBy 102 = .ok (.getfield 227, 3) := by decide +kernel
theorem dX6_endBy_105 : decode cX6_endBy 105 = .ok (.iadd, 1) := by decide +kernel
theorem dX6_endBy_106 : decode cX6_endBy 106 = .ok (.putfield 253, 3) := by decide +kernel
theorem dX6_endBy_109 : decode cX6_endBy 109 = .ok (.return_, 1) := by decide +kernel
theorem dX6_holdOrGiveBack_0 : decode cX6_holdOrGiveBack 0 = .ok (.aload_n 3, 1) := by decide +kernel
theorem dX6_holdOrGiveBack_1 : decode cX6_holdOrGiveBack 1 = .ok (.ifnonnull 4, 3) := by decide +kernel
theorem dX6_holdOrGiveBack_4 : decode cX6_holdOrGiveBack 4 = .ok (.return_, 1) := by decide +kernel
theorem dX6_holdOrGiveBack_5 : decode cX6_holdOrGiveBack 5 = .ok (.aload_n 3, 1) := by decide +kernel
theorem dX6_holdOrGiveBack_6 : decode cX6_holdOrGiveBack 6 = .ok (.getfield 256, 3) := by decide +kernel
theorem dX6_holdOrGiveBack_9 : decode cX6_holdOrGiveBack 9 = .ok (.aload_n 0, 1) := by decide +kernel
theorem dX6_holdOrGiveBack_10 : decode cX6_holdOrGiveBack 10 = .ok (.getfield 224, 3) := by decide +kernel
theorem dX6_holdOrGiveBack_13 : decode cX6_holdOrGiveBack 13 = .ok (.if_icmp .le 18, 3) := by decide +kernel
theorem dX6_holdOrGiveBack_16 : decode cX6_holdOrGiveBack 16 = .ok (.aload_n 1, 1) := by decide +kernel
theorem dX6_holdOrGiveBack_17 : decode cX6_holdOrGiveBack 17 = .ok (.dup, 1) := by decide +kernel
theorem dX6_holdOrGiveBack_18 : decode cX6_holdOrGiveBack 18 = .ok (.getfield 259, 3) := by decide +kernel
theorem dX6_holdOrGiveBack_21 : decode cX6_holdOrGiveBack 21 = .ok (.iconst 1, 1) := by decide +kernel
theorem dX6_holdOrGiveBack_22 : decode cX6_holdOrGiveBack 22 = .ok (.iload_n 2, 1) := by decide +kernel
theorem dX6_holdOrGiveBack_23 : decode cX6_holdOrGiveBack 23 = .ok (.ishl, 1) := by decide +kernel
theorem dX6_holdOrGiveBack_24 : decode cX6_holdOrGiveBack 24 = .ok (.ior, 1) := by decide +kernel
theorem dX6_holdOrGiveBack_25 : decode cX6_holdOrGiveBack 25 = .ok (.putfield 259, 3) := by decide +kernel
theorem dX6_holdOrGiveBack_28 : decode cX6_holdOrGiveBack 28 = .ok (.goto 16, 3) := by decide +kernel
theorem dX6_holdOrGiveBack_31 : decode cX6_holdOrGiveBack 31 = .ok (.aload_n 0, 1) := by decide +kernel
theorem dX6_holdOrGiveBack_32 : decode cX6_holdOrGiveBack 32 = .ok (.aload_n 1, 1) := by decide +kernel
theorem dX6_holdOrGiveBack_33 : decode cX6_holdOrGiveBack 33 = .ok (.aload_n 3, 1) := by decide +kernel
theorem dX6_holdOrGiveBack_34 : decode cX6_holdOrGiveBack 34 = .ok (.getfield 164, 3) := by decide +kernel
theorem dX6_holdOrGiveBack_37 : decode cX6_holdOrGiveBack 37 = .ok (.aload_n 3, 1) := by decide +kernel
theorem dX6_holdOrGiveBack_38 : decode cX6_holdOrGiveBack 38 = .ok (.getfield 167, 3) := by decide +kernel
theorem dX6_holdOrGiveBack_41 : decode cX6_holdOrGiveBack 41 = .ok (.invokevirtual 242, 3) := by decide +kernel
theorem dX6_holdOrGiveBack_44 : decode cX6_holdOrGiveBack 44 = .ok (.return_, 1) := by decide +kernel
theorem dX6_payFrom_0 : decode cX6_payFrom 0 = .ok (.aload_n 1, 1) := by decide +kernel
theorem dX6_payFrom_1 : decode cX6_payFrom 1 = .ok (.dup, 1) := by decide +kernel
theorem dX6_payFrom_2 : decode cX6_payFrom 2 = .ok (.getfield 77, 3) := by decide +kernel
theorem dX6_payFrom_5 : decode cX6_payFrom 5 = .ok (.iload_n 3, 1) := by decide +kernel
theorem dX6_payFrom_6 : decode cX6_payFrom 6 = .ok (.isub, 1) := by decide +kernel
theorem dX6_payFrom_7 : decode cX6_payFrom 7 = .ok (.putfield 77, 3) := by decide +kernel
theorem dX6_payFrom_10 : decode cX6_payFrom 10 = .ok (.aload_n 0, 1) := by decide +kernel
theorem dX6_payFrom_11 : decode cX6_payFrom 11 = .ok (.getfield 10, 3) := by decide +kernel
theorem dX6_payFrom_14 : decode cX6_payFrom 14 = .ok (.iload_n 2, 1) := by decide +kernel
theorem dX6_payFrom_15 : decode cX6_payFrom 15 = .ok (.iload_n 3, 1) := by decide +kernel
theorem dX6_payFrom_16 : decode cX6_payFrom 16 = .ok (.invokevirtual 74, 3) := by decide +kernel
theorem dX6_payFrom_19 : decode cX6_payFrom 19 = .ok (.return_, 1) := by decide +kernel
theorem dX6_secret_0 : decode cX6_secret 0 = .ok (.iload_n 1, 1) := by decide +kernel
theorem dX6_secret_1 : decode cX6_secret 1 = .ok (.invokestatic 262, 3) := by decide +kernel
theorem dX6_secret_4 : decode cX6_secret 4 = .ok (.ifCond .ne 5, 3) := by decide +kernel
theorem dX6_secret_7 : decode cX6_secret 7 = .ok (.iconst (-1), 1) := by decide +kernel
theorem dX6_secret_8 : decode cX6_secret 8 = .ok (.ireturn, 1) := by decide +kernel
theorem dX6_secret_9 : decode cX6_secret 9 = .ok (.aload_n 0, 1) := by decide +kernel
theorem dX6_secret_10 : decode cX6_secret 10 = .ok (.invokevirtual 265, 3) := by decide +kernel
theorem dX6_secret_13 : decode cX6_secret 13 = .ok (.ifCond .ne 6, 3) := by decide +kernel
theorem dX6_secret_16 : decode cX6_secret 16 = .ok (.bipush (-4), 2) := by decide +kernel
theorem dX6_secret_18 : decode cX6_secret 18 = .ok (.ireturn, 1) := by decide +kernel
theorem dX6_secret_19 : decode cX6_secret 19 = .ok (.aload_n 0, 1) := by decide +kernel
theorem dX6_secret_20 : decode cX6_secret 20 = .ok (.iload_n 1, 1) := by decide +kernel
theorem dX6_secret_21 : decode cX6_secret 21 = .ok (.invokevirtual 268, 3) := by decide +kernel
theorem dX6_secret_24 : decode cX6_secret 24 = .ok (.ireturn, 1) := by decide +kernel
theorem dX6_tell_0 : decode cX6_tell 0 = .ok (.aload_n 0, 1) := by decide +kernel
theorem dX6_tell_1 : decode cX6_tell 1 = .ok (.iload_n 1, 1) := by decide +kernel
theorem dX6_tell_2 : decode cX6_tell 2 = .ok (.invokevirtual 136, 3) := by decide +kernel
theorem dX6_tell_5 : decode cX6_tell 5 = .ok (.ifCond .eq 17, 3) := by decide +kernel
theorem dX6_tell_8 : decode cX6_tell 8 = .ok (.iload_n 2, 1) := by decide +kernel
theorem dX6_tell_9 : decode cX6_tell 9 = .ok (.invokestatic 262, 3) := by decide +kernel
theorem dX6_tell_12 : decode cX6_tell 12 = .ok (.ifCond .eq 10, 3) := by decide +kernel
theorem dX6_tell_15 : decode cX6_tell 15 = .ok (.iload_n 3, 1) := by decide +kernel
theorem dX6_tell_16 : decode cX6_tell 16 = .ok (.invokestatic 262, 3) := by decide +kernel
theorem dX6_tell_19 : decode cX6_tell 19 = .ok (.ifCond .ne 5, 3) := by decide +kernel
theorem dX6_tell_22 : decode cX6_tell 22 = .ok (.iconst (-1), 1) := by decide +kernel
theorem dX6_tell_23 : decode cX6_tell 23 = .ok (.ireturn, 1) := by decide +kernel
theorem dX6_tell_24 : decode cX6_tell 24 = .ok (.aload_n 0, 1) := by decide +kernel
theorem dX6_tell_25 : decode cX6_tell 25 = .ok (.iload_n 1, 1) := by decide +kernel
theorem dX6_tell_26 : decode cX6_tell 26 = .ok (.iload_n 2, 1) := by decide +kernel
theorem dX6_tell_27 : decode cX6_tell 27 = .ok (.invokevirtual 271, 3) := by decide +kernel
theorem dX6_tell_30 : decode cX6_tell 30 = .ok (.ifCond .ne 6, 3) := by decide +kernel
theorem dX6_tell_33 : decode cX6_tell 33 = .ok (.bipush (-4), 2) := by decide +kernel
theorem dX6_tell_35 : decode cX6_tell 35 = .ok (.ireturn, 1) := by decide +kernel
theorem dX6_tell_36 : decode cX6_tell 36 = .ok (.aload_n 0, 1) := by decide +kernel
theorem dX6_tell_37 : decode cX6_tell 37 = .ok (.iload_n 1, 1) := by decide +kernel
theorem dX6_tell_38 : decode cX6_tell 38 = .ok (.iload_n 3, 1) := by decide +kernel
theorem dX6_tell_39 : decode cX6_tell 39 = .ok (.invokevirtual 271, 3) := by decide +kernel
theorem dX6_tell_42 : decode cX6_tell 42 = .ok (.ifCond .eq 5, 3) := by decide +kernel
theorem dX6_tell_45 : decode cX6_tell 45 = .ok (.iconst 0, 1) := by decide +kernel
theorem dX6_tell_46 : decode cX6_tell 46 = .ok (.ireturn, 1) := by decide +kernel
theorem dX6_tell_47 : decode cX6_tell 47 = .ok (.aload_n 0, 1) := by decide +kernel
theorem dX6_tell_48 : decode cX6_tell 48 = .ok (.getfield 28, 3) := by decide +kernel
theorem dX6_tell_51 : decode cX6_tell 51 = .ok (.iload_n 1, 1) := by decide +kernel
theorem dX6_tell_52 : decode cX6_tell 52 = .ok (.dup2, 1) := by decide +kernel
theorem dX6_tell_53 : decode cX6_tell 53 = .ok (.iaload, 1) := by decide +kernel
theorem dX6_tell_54 : decode cX6_tell 54 = .ok (.iconst 1, 1) := by decide +kernel
theorem dX6_tell_55 : decode cX6_tell 55 = .ok (.iload_n 3, 1) := by decide +kernel
theorem dX6_tell_56 : decode cX6_tell 56 = .ok (.ishl, 1) := by decide +kernel
theorem dX6_tell_57 : decode cX6_tell 57 = .ok (.ior, 1) := by decide +kernel
theorem dX6_tell_58 : decode cX6_tell 58 = .ok (.iastore, 1) := by decide +kernel
theorem dX6_tell_59 : decode cX6_tell 59 = .ok (.iconst 1, 1) := by decide +kernel
theorem dX6_tell_60 : decode cX6_tell 60 = .ok (.ireturn, 1) := by decide +kernel
theorem dX6_hasRoomForSecret_0 : decode cX6_hasRoomForSecret 0 = .ok (.aload_n 0, 1) := by decide +kernel
theorem dX6_hasRoomForSecret_1 : decode cX6_hasRoomForSecret 1 = .ok (.getfield 274, 3) := by decide +kernel
theorem dX6_hasRoomForSecret_4 : decode cX6_hasRoomForSecret 4 = .ok (.aload_n 0, 1) := by decide +kernel
theorem dX6_hasRoomForSecret_5 : decode cX6_hasRoomForSecret 5 = .ok (.getfield 28, 3) := by decide +kernel
theorem dX6_hasRoomForSecret_8 : decode cX6_hasRoomForSecret 8 = .ok (.arraylength, 1) := by decide +kernel
theorem dX6_hasRoomForSecret_9 : decode cX6_hasRoomForSecret 9 = .ok (.if_icmp .ge 7, 3) := by decide +kernel
theorem dX6_hasRoomForSecret_12 : decode cX6_hasRoomForSecret 12 = .ok (.iconst 1, 1) := by decide +kernel
theorem dX6_hasRoomForSecret_13 : decode cX6_hasRoomForSecret 13 = .ok (.goto 4, 3) := by decide +kernel
theorem dX6_hasRoomForSecret_16 : decode cX6_hasRoomForSecret 16 = .ok (.iconst 0, 1) := by decide +kernel
theorem dX6_hasRoomForSecret_17 : decode cX6_hasRoomForSecret 17 = .ok (.ireturn, 1) := by decide +kernel
theorem dX6_newSecret_0 : decode cX6_newSecret 0 = .ok (.aload_n 0, 1) := by decide +kernel
theorem dX6_newSecret_1 : decode cX6_newSecret 1 = .ok (.getfield 274, 3) := by decide +kernel
theorem dX6_newSecret_4 : decode cX6_newSecret 4 = .ok (.istore_n 2, 1) := by decide +kernel
theorem dX6_newSecret_5 : decode cX6_newSecret 5 = .ok (.iload_n 2, 1) := by decide +kernel
theorem dX6_newSecret_6 : decode cX6_newSecret 6 = .ok (.ifCond .lt 31, 3) := by decide +kernel
theorem dX6_newSecret_9 : decode cX6_newSecret 9 = .ok (.iload_n 2, 1) := by decide +kernel
theorem dX6_newSecret_10 : decode cX6_newSecret 10 = .ok (.aload_n 0, 1) := by decide +kernel
theorem dX6_newSecret_11 : decode cX6_newSecret 11 = .ok (.getfield 28, 3) := by decide +kernel
theorem dX6_newSecret_14 : decode cX6_newSecret 14 = .ok (.arraylength, 1) := by decide +kernel
theorem dX6_newSecret_15 : decode cX6_newSecret 15 = .ok (.if_icmp .ge 22, 3) := by decide +kernel
theorem dX6_newSecret_18 : decode cX6_newSecret 18 = .ok (.aload_n 0, 1) := by decide +kernel
theorem dX6_newSecret_19 : decode cX6_newSecret 19 = .ok (.getfield 28, 3) := by decide +kernel
theorem dX6_newSecret_22 : decode cX6_newSecret 22 = .ok (.iload_n 2, 1) := by decide +kernel
theorem dX6_newSecret_23 : decode cX6_newSecret 23 = .ok (.iconst 1, 1) := by decide +kernel
theorem dX6_newSecret_24 : decode cX6_newSecret 24 = .ok (.iload_n 1, 1) := by decide +kernel
theorem dX6_newSecret_25 : decode cX6_newSecret 25 = .ok (.ishl, 1) := by decide +kernel
theorem dX6_newSecret_26 : decode cX6_newSecret 26 = .ok (.iastore, 1) := by decide +kernel
theorem dX6_newSecret_27 : decode cX6_newSecret 27 = .ok (.aload_n 0, 1) := by decide +kernel
theorem dX6_newSecret_28 : decode cX6_newSecret 28 = .ok (.dup, 1) := by decide +kernel
theorem dX6_newSecret_29 : decode cX6_newSecret 29 = .ok (.getfield 274, 3) := by decide +kernel
theorem dX6_newSecret_32 : decode cX6_newSecret 32 = .ok (.iconst 1, 1) := by decide +kernel
theorem dX6_newSecret_33 : decode cX6_newSecret 33 = .ok (.iadd, 1) := by decide +kernel
theorem dX6_newSecret_34 : decode cX6_newSecret 34 = .ok (.putfield 274, 3) := by decide +kernel
theorem dX6_newSecret_37 : decode cX6_newSecret 37 = .ok (.iload_n 2, 1) := by decide +kernel
theorem dX6_newSecret_38 : decode cX6_newSecret 38 = .ok (.ireturn, 1) := by decide +kernel
theorem dX6_isKnownBy_0 : decode cX6_isKnownBy 0 = .ok (.aload_n 0, 1) := by decide +kernel
theorem dX6_isKnownBy_1 : decode cX6_isKnownBy 1 = .ok (.iload_n 1, 1) := by decide +kernel
theorem dX6_isKnownBy_2 : decode cX6_isKnownBy 2 = .ok (.invokevirtual 136, 3) := by decide +kernel
theorem dX6_isKnownBy_5 : decode cX6_isKnownBy 5 = .ok (.ifCond .eq 20, 3) := by decide +kernel
theorem dX6_isKnownBy_8 : decode cX6_isKnownBy 8 = .ok (.aload_n 0, 1) := by decide +kernel
theorem dX6_isKnownBy_9 : decode cX6_isKnownBy 9 = .ok (.getfield 28, 3) := by decide +kernel
theorem dX6_isKnownBy_12 : decode cX6_isKnownBy 12 = .ok (.iload_n 1, 1) := by decide +kernel
theorem dX6_isKnownBy_13 : decode cX6_isKnownBy 13 = .ok (.iaload, 1) := by decide +kernel
theorem dX6_isKnownBy_14 : decode cX6_isKnownBy 14 = .ok (.iload_n 2, 1) := by decide +kernel
theorem dX6_isKnownBy_15 : decode cX6_isKnownBy 15 = .ok (.invokestatic 107, 3) := by decide +kernel
theorem dX6_isKnownBy_18 : decode cX6_isKnownBy 18 = .ok (.ifCond .eq 7, 3) := by decide +kernel
theorem dX6_isKnownBy_21 : decode cX6_isKnownBy 21 = .ok (.iconst 1, 1) := by decide +kernel
theorem dX6_isKnownBy_22 : decode cX6_isKnownBy 22 = .ok (.goto 4, 3) := by decide +kernel
theorem dX6_isKnownBy_25 : decode cX6_isKnownBy 25 = .ok (.iconst 0, 1) := by decide +kernel
theorem dX6_isKnownBy_26 : decode cX6_isKnownBy 26 = .ok (.ireturn, 1) := by decide +kernel
theorem dX6_claim_0 : decode cX6_claim 0 = .ok (.aload_n 0, 1) := by decide +kernel
theorem dX6_claim_1 : decode cX6_claim 1 = .ok (.iload_n 1, 1) := by decide +kernel
theorem dX6_claim_2 : decode cX6_claim 2 = .ok (.invokevirtual 93, 3) := by decide +kernel
theorem dX6_claim_5 : decode cX6_claim 5 = .ok (.astore 4, 2) := by decide +kernel
theorem dX6_claim_7 : decode cX6_claim 7 = .ok (.aload 4, 2) := by decide +kernel
theorem dX6_claim_9 : decode cX6_claim 9 = .ok (.ifnull 17, 3) := by decide +kernel
theorem dX6_claim_12 : decode cX6_claim 12 = .ok (.iload_n 2, 1) := by decide +kernel
theorem dX6_claim_13 : decode cX6_claim 13 = .ok (.invokestatic 277, 3) := by decide +kernel
theorem dX6_claim_16 : decode cX6_claim 16 = .ok (.ifCond .eq 10, 3) := by decide +kernel
theorem dX6_claim_19 : decode cX6_claim 19 = .ok (.iload_n 3, 1) := by decide +kernel
theorem dX6_claim_20 : decode cX6_claim 20 = .ok (.invokestatic 262, 3) := by decide +kernel
theorem dX6_claim_23 : decode cX6_claim 23 = .ok (.ifCond .ne 5, 3) := by decide +kernel
theorem dX6_claim_26 : decode cX6_claim 26 = .ok (.iconst (-1), 1) := by decide +kernel
theorem dX6_claim_27 : decode cX6_claim 27 = .ok (.ireturn, 1) := by decide +kernel
theorem dX6_claim_28 : decode cX6_claim 28 = .ok (.aload 4, 2) := by decide +kernel
theorem dX6_claim_30 : decode cX6_claim 30 = .ok (.getfield 97, 3) := by decide +kernel
theorem dX6_claim_33 : decode cX6_claim 33 = .ok (.iconst 3, 1) := by decide +kernel
theorem dX6_claim_34 : decode cX6_claim 34 = .ok (.if_icmp .eq 6, 3) := by decide +kernel
theorem dX6_claim_37 : decode cX6_claim 37 = .ok (.bipush (-2), 2) := by decide +kernel
theorem dX6_claim_39 : decode cX6_claim 39 = .ok (.ireturn, 1) := by decide +kernel
theorem dX6_claim_40 : decode cX6_claim 40 = .ok (.aload_n 0, 1) := by decide +kernel
theorem dX6_claim_41 : decode cX6_claim 41 = .ok (.aload 4, 2) := by decide +kernel
theorem dX6_claim_43 : decode cX6_claim 43 = .ok (.iload_n 2, 1) := by decide +kernel
theorem dX6_claim_44 : decode cX6_claim 44 = .ok (.iload_n 3, 1) := by decide +kernel
theorem dX6_claim_45 : decode cX6_claim 45 = .ok (.invokevirtual 280, 3) := by decide +kernel
theorem dX6_claim_48 : decode cX6_claim 48 = .ok (.istore 5, 2) := by decide +kernel
theorem dX6_claim_50 : decode cX6_claim 50 = .ok (.iload 5, 2) := by decide +kernel
theorem dX6_claim_52 : decode cX6_claim 52 = .ok (.iconst (-1), 1) := by decide +kernel
theorem dX6_claim_53 : decode cX6_claim 53 = .ok (.if_icmp .ne 8, 3) := by decide +kernel
theorem dX6_claim_56 : decode cX6_claim 56 = .ok (.bipush (-4), 2) := by decide +kernel
theorem dX6_claim_58 : decode cX6_claim 58 = .ok (.goto 5, 3) := by decide +kernel
theorem dX6_claim_61 : decode cX6_claim 61 = .ok (.iload 5, 2) := by decide +kernel
theorem dX6_claim_63 : decode cX6_claim 63 = .ok (.ireturn, 1) := by decide +kernel
theorem dX6_step_0 : decode cX6_step 0 = .ok (.aload_n 0, 1) := by decide +kernel
theorem dX6_step_1 : decode cX6_step 1 = .ok (.iload_n 1, 1) := by decide +kernel
theorem dX6_step_2 : decode cX6_step 2 = .ok (.invokevirtual 93, 3) := by decide +kernel
theorem dX6_step_5 : decode cX6_step 5 = .ok (.astore 4, 2) := by decide +kernel
theorem dX6_step_7 : decode cX6_step 7 = .ok (.aload 4, 2) := by decide +kernel
theorem dX6_step_9 : decode cX6_step 9 = .ok (.ifnull 10, 3) := by decide +kernel
theorem dX6_step_12 : decode cX6_step 12 = .ok (.iload_n 2, 1) := by decide +kernel
theorem dX6_step_13 : decode cX6_step 13 = .ok (.invokestatic 262, 3) := by decide +kernel
theorem dX6_step_16 : decode cX6_step 16 = .ok (.ifCond .ne 5, 3) := by decide +kernel
theorem dX6_step_19 : decode cX6_step 19 = .ok (.iconst (-1), 1) := by decide +kernel
theorem dX6_step_20 : decode cX6_step 20 = .ok (.ireturn, 1) := by decide +kernel
theorem dX6_step_21 : decode cX6_step 21 = .ok (.aload 4, 2) := by decide +kernel
theorem dX6_step_23 : decode cX6_step 23 = .ok (.getfield 250, 3) := by decide +kernel
theorem dX6_step_26 : decode cX6_step 26 = .ok (.astore 5, 2) := by decide +kernel
theorem dX6_step_28 : decode cX6_step 28 = .ok (.aload 5, 2) := by decide +kernel
theorem dX6_step_30 : decode cX6_step 30 = .ok (.ifnonnull 6, 3) := by decide +kernel
theorem dX6_step_33 : decode cX6_step 33 = .ok (.bipush (-2), 2) := by decide +kernel
theorem dX6_step_35 : decode cX6_step 35 = .ok (.ireturn, 1) := by decide +kernel
theorem dX6_step_36 : decode cX6_step 36 = .ok (.iload_n 3, 1) := by decide +kernel
theorem dX6_step_37 : decode cX6_step 37 = .ok (.iconst 1, 1) := by decide +kernel
theorem dX6_step_38 : decode cX6_step 38 = .ok (.iconst 3, 1) := by decide +kernel
theorem dX6_step_39 : decode cX6_step 39 = .ok (.invokestatic 42, 3) := by decide +kernel
theorem dX6_step_42 : decode cX6_step 42 = .ok (.ifCond .ne 6, 3) := by decide +kernel
theorem dX6_step_45 : decode cX6_step 45 = .ok (.bipush (-3), 2) := by decide +kernel
theorem dX6_step_47 : decode cX6_step 47 = .ok (.ireturn, 1) := by decide +kernel
theorem dX6_step_48 : decode cX6_step 48 = .ok (.aload 5, 2) := by decide +kernel
theorem dX6_step_50 : decode cX6_step 50 = .ok (.getfield 189, 3) := by decide +kernel
theorem dX6_step_53 : decode cX6_step 53 = .ok (.iload_n 2, 1) := by decide +kernel
theorem dX6_step_54 : decode cX6_step 54 = .ok (.if_icmp .ne 12, 3) := by decide +kernel
theorem dX6_step_57 : decode cX6_step 57 = .ok (.aload 5, 2) := by decide +kernel
theorem dX6_step_59 : decode cX6_step 59 = .ok (.getfield 182, 3) := by decide +kernel
theorem dX6_step_62 : decode cX6_step 62 = .ok (.iload_n 3, 1) := by decide +kernel
theorem dX6_step_63 : decode cX6_step 63 = .ok (.if_icmp .ge 6, 3) := by decide +kernel
theorem dX6_step_66 : decode cX6_step 66 = .ok (.bipush (-4), 2) := by decide +kernel
theorem dX6_step_68 : decode cX6_step 68 = .ok (.ireturn, 1) := by decide +kernel
theorem dX6_step_69 : decode cX6_step 69 = .ok (.aload_n 0, 1) := by decide +kernel
theorem dX6_step_70 : decode cX6_step 70 = .ok (.aload 4, 2) := by decide +kernel
theorem dX6_step_72 : decode cX6_step 72 = .ok (.aload 5, 2) := by decide +kernel
theorem dX6_step_74 : decode cX6_step 74 = .ok (.iload_n 3, 1) := by decide +kernel
theorem dX6_step_75 : decode cX6_step 75 = .ok (.invokevirtual 284, 3) := by decide +kernel
theorem dX6_step_78 : decode cX6_step 78 = .ok (.aload 5, 2) := by decide +kernel
theorem dX6_step_80 : decode cX6_step 80 = .ok (.getfield 182, 3) := by decide +kernel
theorem dX6_step_83 : decode cX6_step 83 = .ok (.iload_n 3, 1) := by decide +kernel
theorem dX6_step_84 : decode cX6_step 84 = .ok (.isub, 1) := by decide +kernel
theorem dX6_step_85 : decode cX6_step 85 = .ok (.ireturn, 1) := by decide +kernel
theorem dX6_canClaim_0 : decode cX6_canClaim 0 = .ok (.aload_n 1, 1) := by decide +kernel
theorem dX6_canClaim_1 : decode cX6_canClaim 1 = .ok (.getfield 161, 3) := by decide +kernel
theorem dX6_canClaim_4 : decode cX6_canClaim 4 = .ok (.iload_n 2, 1) := by decide +kernel
theorem dX6_canClaim_5 : decode cX6_canClaim 5 = .ok (.if_icmp .ne 19, 3) := by decide +kernel
theorem dX6_canClaim_8 : decode cX6_canClaim 8 = .ok (.aload_n 0, 1) := by decide +kernel
theorem dX6_canClaim_9 : decode cX6_canClaim 9 = .ok (.aload_n 1, 1) := by decide +kernel
theorem dX6_canClaim_10 : decode cX6_canClaim 10 = .ok (.getfield 288, 3) := by decide +kernel
theorem dX6_canClaim_13 : decode cX6_canClaim 13 = .ok (.iload_n 2, 1) := by decide +kernel
theorem dX6_canClaim_14 : decode cX6_canClaim 14 = .ok (.invokevirtual 271, 3) := by decide +kernel
theorem dX6_canClaim_17 : decode cX6_canClaim 17 = .ok (.ifCond .eq 7, 3) := by decide +kernel
theorem dX6_canClaim_20 : decode cX6_canClaim 20 = .ok (.iconst 1, 1) := by decide +kernel
theorem dX6_canClaim_21 : decode cX6_canClaim 21 = .ok (.goto 4, 3) := by decide +kernel
theorem dX6_canClaim_24 : decode cX6_canClaim 24 = .ok (.iconst 0, 1) := by decide +kernel
theorem dX6_canClaim_25 : decode cX6_canClaim 25 = .ok (.ireturn, 1) := by decide +kernel
theorem dX6_claimHeld_0 : decode cX6_claimHeld 0 = .ok (.aload_n 1, 1) := by decide +kernel
theorem dX6_claimHeld_1 : decode cX6_claimHeld 1 = .ok (.iload_n 2, 1) := by decide +kernel
theorem dX6_claimHeld_2 : decode cX6_claimHeld 2 = .ok (.invokevirtual 291, 3) := by decide +kernel
theorem dX6_claimHeld_5 : decode cX6_claimHeld 5 = .ok (.astore 4, 2) := by decide +kernel
theorem dX6_claimHeld_7 : decode cX6_claimHeld 7 = .ok (.aload 4, 2) := by decide +kernel
theorem dX6_claimHeld_9 : decode cX6_claimHeld 9 = .ok (.ifnull 13, 3) := by decide +kernel
theorem dX6_claimHeld_12 : decode cX6_claimHeld 12 = .ok (.aload_n 0, 1) := by decide +kernel
theorem dX6_claimHeld_13 : decode cX6_claimHeld 13 = .ok (.aload 4, 2) := by decide +kernel
theorem dX6_claimHeld_15 : decode cX6_claimHeld 15 = .ok (.iload_n 3, 1) := by decide +kernel
theorem dX6_claimHeld_16 : decode cX6_claimHeld 16 = .ok (.invokevirtual 294, 3) := by decide +kernel
theorem dX6_claimHeld_19 : decode cX6_claimHeld 19 = .ok (.ifCond .ne 5, 3) := by decide +kernel
theorem dX6_claimHeld_22 : decode cX6_claimHeld 22 = .ok (.iconst (-1), 1) := by decide +kernel
theorem dX6_claimHeld_23 : decode cX6_claimHeld 23 = .ok (.ireturn, 1) := by decide +kernel
theorem dX6_claimHeld_24 : decode cX6_claimHeld 24 = .ok (.aload_n 0, 1) := by decide +kernel
theorem dX6_claimHeld_25 : decode cX6_claimHeld 25 = .ok (.aload_n 1, 1) := by decide +kernel
theorem dX6_claimHeld_26 : decode cX6_claimHeld 26 = .ok (.iload_n 2, 1) := by decide +kernel
theorem dX6_claimHeld_27 : decode cX6_claimHeld 27 = .ok (.iload_n 3, 1) := by decide +kernel
theorem dX6_claimHeld_28 : decode cX6_claimHeld 28 = .ok (.aload 4, 2) := by decide +kernel
theorem dX6_claimHeld_30 : decode cX6_claimHeld 30 = .ok (.getfield 167, 3) := by decide +kernel
theorem dX6_claimHeld_33 : decode cX6_claimHeld 33 = .ok (.invokevirtual 298, 3) := by decide +kernel
theorem dX6_claimHeld_36 : decode cX6_claimHeld 36 = .ok (.aload_n 0, 1) := by decide +kernel
theorem dX6_claimHeld_37 : decode cX6_claimHeld 37 = .ok (.aload 4, 2) := by decide +kernel
theorem dX6_claimHeld_39 : decode cX6_claimHeld 39 = .ok (.getfield 288, 3) := by decide +kernel
theorem dX6_claimHeld_42 : decode cX6_claimHeld 42 = .ok (.invokevirtual 136, 3) := by decide +kernel
theorem dX6_claimHeld_45 : decode cX6_claimHeld 45 = .ok (.ifCond .eq 15, 3) := by decide +kernel
theorem dX6_claimHeld_48 : decode cX6_claimHeld 48 = .ok (.aload_n 0, 1) := by decide +kernel
theorem dX6_claimHeld_49 : decode cX6_claimHeld 49 = .ok (.getfield 28, 3) := by decide +kernel
theorem dX6_claimHeld_52 : decode cX6_claimHeld 52 = .ok (.aload 4, 2) := by decide +kernel
theorem dX6_claimHeld_54 : decode cX6_claimHeld 54 = .ok (.getfield 288, 3) := by decide +kernel
theorem dX6_claimHeld_57 : decode cX6_claimHeld 57 = .ok (.bipush 63, 2) := by decide +kernel
theorem dX6_claimHeld_59 : decode cX6_claimHeld 59 = .ok (.iastore, 1) := by decide +kernel
theorem dX6_claimHeld_60 : decode cX6_claimHeld 60 = .ok (.aload 4, 2) := by decide +kernel
theorem dX6_claimHeld_62 : decode cX6_claimHeld 62 = .ok (.getfield 167, 3) := by decide +kernel
theorem dX6_claimHeld_65 : decode cX6_claimHeld 65 = .ok (.ireturn, 1) := by decide +kernel
theorem dX6_payHeldLock_0 : decode cX6_payHeldLock 0 = .ok (.aload_n 1, 1) := by decide +kernel
theorem dX6_payHeldLock_1 : decode cX6_payHeldLock 1 = .ok (.dup, 1) := by decide +kernel
theorem dX6_payHeldLock_2 : decode cX6_payHeldLock 2 = .ok (.getfield 259, 3) := by decide +kernel
theorem dX6_payHeldLock_5 : decode cX6_payHeldLock 5 = .ok (.iconst 1, 1) := by decide +kernel
theorem dX6_payHeldLock_6 : decode cX6_payHeldLock 6 = .ok (.iload_n 2, 1) := by decide +kernel
theorem dX6_payHeldLock_7 : decode cX6_payHeldLock 7 = .ok (.ishl, 1) := by decide +kernel
theorem dX6_payHeldLock_8 : decode cX6_payHeldLock 8 = .ok (.iconst (-1), 1) := by decide +kernel
theorem dX6_payHeldLock_9 : decode cX6_payHeldLock 9 = .ok (.ixor, 1) := by decide +kernel
theorem dX6_payHeldLock_10 : decode cX6_payHeldLock 10 = .ok (.iand, 1) := by decide +kernel
theorem dX6_payHeldLock_11 : decode cX6_payHeldLock 11 = .ok (.putfield 259, 3) := by decide +kernel
theorem dX6_payHeldLock_14 : decode cX6_payHeldLock 14 = .ok (.aload_n 0, 1) := by decide +kernel
theorem dX6_payHeldLock_15 : decode cX6_payHeldLock 15 = .ok (.aload_n 1, 1) := by decide +kernel
theorem dX6_payHeldLock_16 : decode cX6_payHeldLock 16 = .ok (.iload_n 3, 1) := by decide +kernel
theorem dX6_payHeldLock_17 : decode cX6_payHeldLock 17 = .ok (.iload 4, 2) := by decide +kernel
theorem dX6_payHeldLock_19 : decode cX6_payHeldLock 19 = .ok (.invokevirtual 242, 3) := by decide +kernel
theorem dX6_payHeldLock_22 : decode cX6_payHeldLock 22 = .ok (.return_, 1) := by decide +kernel
theorem dX6_moveHeld_0 : decode cX6_moveHeld 0 = .ok (.aload_n 2, 1) := by decide +kernel
theorem dX6_moveHeld_1 : decode cX6_moveHeld 1 = .ok (.iload_n 3, 1) := by decide +kernel
theorem dX6_moveHeld_2 : decode cX6_moveHeld 2 = .ok (.invokevirtual 185, 3) := by decide +kernel
theorem dX6_moveHeld_5 : decode cX6_moveHeld 5 = .ok (.astore 4, 2) := by decide +kernel
theorem dX6_moveHeld_7 : decode cX6_moveHeld 7 = .ok (.aload 4, 2) := by decide +kernel
theorem dX6_moveHeld_9 : decode cX6_moveHeld 9 = .ok (.ifnonnull 19, 3) := by decide +kernel
theorem dX6_moveHeld_12 : decode cX6_moveHeld 12 = .ok (.aload_n 0, 1) := by decide +kernel
theorem dX6_moveHeld_13 : decode cX6_moveHeld 13 = .ok (.aload_n 1, 1) := by decide +kernel
theorem dX6_moveHeld_14 : decode cX6_moveHeld 14 = .ok (.aload_n 2, 1) := by decide +kernel
theorem dX6_moveHeld_15 : decode cX6_moveHeld 15 = .ok (.getfield 189, 3) := by decide +kernel
theorem dX6_moveHeld_18 : decode cX6_moveHeld 18 = .ok (.aload_n 2, 1) := by decide +kernel
theorem dX6_moveHeld_19 : decode cX6_moveHeld 19 = .ok (.getfield 179, 3) := by decide +kernel
theorem dX6_moveHeld_22 : decode cX6_moveHeld 22 = .ok (.invokevirtual 302, 3) := by decide +kernel
theorem dX6_moveHeld_25 : decode cX6_moveHeld 25 = .ok (.goto 22, 3) := by decide +kernel
theorem dX6_moveHeld_28 : decode cX6_moveHeld 28 = .ok (.aload_n 1, 1) := by decide +kernel
theorem dX6_moveHeld_29 : decode cX6_moveHeld 29 = .ok (.aload 4, 2) := by decide +kernel
theorem dX6_moveHeld_31 : decode cX6_moveHeld 31 = .ok (.putfield 250, 3) := by decide +kernel
theorem dX6_moveHeld_34 : decode cX6_moveHeld 34 = .ok (.aload_n 1, 1) := by decide +kernel
theorem dX6_moveHeld_35 : decode cX6_moveHeld 35 = .ok (.aload_n 0, 1) := by decide +kernel
theorem dX6_moveHeld_36 : decode cX6_moveHeld 36 = .ok (.getfield 224, 3) := by decide +kernel
theorem dX6_moveHeld_39 : decode cX6_moveHeld 39 = .ok (.aload_n 1, 1) := by decide +kernel
theorem dX6_moveHeld_40 : decode cX6_moveHeld 40 = .ok (.getfield 227, 3) := by decide +kernel
theorem dX6_moveHeld_43 : decode cX6_moveHeld 43 = .ok (.iadd, 1) := by decide +kernel
theorem dX6_moveHeld_44 : decode cX6_moveHeld 44 = .ok (.putfield 253, 3) := by decide +kernel
theorem dX6_moveHeld_47 : decode cX6_moveHeld 47 = .ok (.return_, 1) := by decide +kernel
theorem dX6_payHeldStake_0 : decode cX6_payHeldStake 0 = .ok (.aload_n 1, 1) := by decide +kernel
theorem dX6_payHeldStake_1 : decode cX6_payHeldStake 1 = .ok (.aconst_null, 1) := by decide +kernel
theorem dX6_payHeldStake_2 : decode cX6_payHeldStake 2 = .ok (.putfield 250, 3) := by decide +kernel
theorem dX6_payHeldStake_5 : decode cX6_payHeldStake 5 = .ok (.aload_n 1, 1) := by decide +kernel
theorem dX6_payHeldStake_6 : decode cX6_payHeldStake 6 = .ok (.iconst 0, 1) := by decide +kernel
theorem dX6_payHeldStake_7 : decode cX6_payHeldStake 7 = .ok (.putfield 253, 3) := by decide +kernel
theorem dX6_payHeldStake_10 : decode cX6_payHeldStake 10 = .ok (.aload_n 0, 1) := by decide +kernel
theorem dX6_payHeldStake_11 : decode cX6_payHeldStake 11 = .ok (.aload_n 1, 1) := by decide +kernel
theorem dX6_payHeldStake_12 : decode cX6_payHeldStake 12 = .ok (.iload_n 2, 1) := by decide +kernel
theorem dX6_payHeldStake_13 : decode cX6_payHeldStake 13 = .ok (.iload_n 3, 1) := by decide +kernel
theorem dX6_payHeldStake_14 : decode cX6_payHeldStake 14 = .ok (.invokevirtual 242, 3) := by decide +kernel
theorem dX6_payHeldStake_17 : decode cX6_payHeldStake 17 = .ok (.return_, 1) := by decide +kernel
theorem dX6_watch_0 : decode cX6_watch 0 = .ok (.iload_n 1, 1) := by decide +kernel
theorem dX6_watch_1 : decode cX6_watch 1 = .ok (.invokestatic 262, 3) := by decide +kernel
theorem dX6_watch_4 : decode cX6_watch 4 = .ok (.ifCond .ne 5, 3) := by decide +kernel
theorem dX6_watch_7 : decode cX6_watch 7 = .ok (.iconst (-1), 1) := by decide +kernel
theorem dX6_watch_8 : decode cX6_watch 8 = .ok (.ireturn, 1) := by decide +kernel
theorem dX6_watch_9 : decode cX6_watch 9 = .ok (.aload_n 0, 1) := by decide +kernel
theorem dX6_watch_10 : decode cX6_watch 10 = .ok (.getfield 305, 3) := by decide +kernel
theorem dX6_watch_13 : decode cX6_watch 13 = .ok (.iload_n 1, 1) := by decide +kernel
theorem dX6_watch_14 : decode cX6_watch 14 = .ok (.invokestatic 107, 3) := by decide +kernel
theorem dX6_watch_17 : decode cX6_watch 17 = .ok (.ifCond .eq 7, 3) := by decide +kernel
theorem dX6_watch_20 : decode cX6_watch 20 = .ok (.iconst 1, 1) := by decide +kernel
theorem dX6_watch_21 : decode cX6_watch 21 = .ok (.goto 4, 3) := by decide +kernel
theorem dX6_watch_24 : decode cX6_watch 24 = .ok (.iconst 0, 1) := by decide +kernel
theorem dX6_watch_25 : decode cX6_watch 25 = .ok (.istore_n 3, 1) := by decide +kernel
theorem dX6_watch_26 : decode cX6_watch 26 = .ok (.aload_n 0, 1) := by decide +kernel
theorem dX6_watch_27 : decode cX6_watch 27 = .ok (.iload_n 2, 1) := by decide +kernel
theorem dX6_watch_28 : decode cX6_watch 28 = .ok (.ifCond .eq 14, 3) := by decide +kernel
theorem dX6_watch_31 : decode cX6_watch 31 = .ok (.aload_n 0, 1) := by decide +kernel
theorem dX6_watch_32 : decode cX6_watch 32 = .ok (.getfield 305, 3) := by decide +kernel
theorem dX6_watch_35 : decode cX6_watch 35 = .ok (.iconst 1, 1) := by decide +kernel
theorem dX6_watch_36 : decode cX6_watch 36 = .ok (.iload_n 1, 1) := by decide +kernel
theorem dX6_watch_37 : decode cX6_watch 37 = .ok (.ishl, 1) := by decide +kernel
theorem dX6_watch_38 : decode cX6_watch 38 = .ok (.ior, 1) := by decide +kernel
theorem dX6_watch_39 : decode cX6_watch 39 = .ok (.goto 13, 3) := by decide +kernel
theorem dX6_watch_42 : decode cX6_watch 42 = .ok (.aload_n 0, 1) := by decide +kernel
theorem dX6_watch_43 : decode cX6_watch 43 = .ok (.getfield 305, 3) := by decide +kernel
theorem dX6_watch_46 : decode cX6_watch 46 = .ok (.iconst 1, 1) := by decide +kernel
theorem dX6_watch_47 : decode cX6_watch 47 = .ok (.iload_n 1, 1) := by decide +kernel
theorem dX6_watch_48 : decode cX6_watch 48 = .ok (.ishl, 1) := by decide +kernel
theorem dX6_watch_49 : decode cX6_watch 49 = .ok (.iconst (-1), 1) := by decide +kernel
theorem dX6_watch_50 : decode cX6_watch 50 = .ok (.ixor, 1) := by decide +kernel
theorem dX6_watch_51 : decode cX6_watch 51 = .ok (.iand, 1) := by decide +kernel
theorem dX6_watch_52 : decode cX6_watch 52 = .ok (.putfield 305, 3) := by decide +kernel
theorem dX6_watch_55 : decode cX6_watch 55 = .ok (.iload_n 3, 1) := by decide +kernel
theorem dX6_watch_56 : decode cX6_watch 56 = .ok (.ireturn, 1) := by decide +kernel
theorem dX6_height_0 : decode cX6_height 0 = .ok (.iload_n 1, 1) := by decide +kernel
theorem dX6_height_1 : decode cX6_height 1 = .ok (.iconst 1, 1) := by decide +kernel
theorem dX6_height_2 : decode cX6_height 2 = .ok (.bipush 100, 2) := by decide +kernel
theorem dX6_height_4 : decode cX6_height 4 = .ok (.invokestatic 42, 3) := by decide +kernel
theorem dX6_height_7 : decode cX6_height 7 = .ok (.ifCond .ne 6, 3) := by decide +kernel
theorem dX6_height_10 : decode cX6_height 10 = .ok (.bipush (-3), 2) := by decide +kernel
theorem dX6_height_12 : decode cX6_height 12 = .ok (.ireturn, 1) := by decide +kernel
theorem dX6_height_13 : decode cX6_height 13 = .ok (.iconst 0, 1) := by decide +kernel
theorem dX6_height_14 : decode cX6_height 14 = .ok (.istore_n 2, 1) := by decide +kernel
theorem dX6_height_15 : decode cX6_height 15 = .ok (.iload_n 2, 1) := by decide +kernel
theorem dX6_height_16 : decode cX6_height 16 = .ok (.iload_n 1, 1) := by decide +kernel
theorem dX6_height_17 : decode cX6_height 17 = .ok (.if_icmp .ge 13, 3) := by decide +kernel
theorem dX6_height_20 : decode cX6_height 20 = .ok (.aload_n 0, 1) := by decide +kernel
theorem dX6_height_21 : decode cX6_height 21 = .ok (.invokevirtual 308, 3) := by decide +kernel
theorem dX6_height_24 : decode cX6_height 24 = .ok (.iinc 2 1, 3) := by decide +kernel
theorem dX6_height_27 : decode cX6_height 27 = .ok (.goto (-12), 3) := by decide +kernel
theorem dX6_height_30 : decode cX6_height 30 = .ok (.aload_n 0, 1) := by decide +kernel
theorem dX6_height_31 : decode cX6_height 31 = .ok (.getfield 224, 3) := by decide +kernel
theorem dX6_height_34 : decode cX6_height 34 = .ok (.ireturn, 1) := by decide +kernel
theorem dX6_oneHeightMore_0 : decode cX6_oneHeightMore 0 = .ok (.aload_n 0, 1) := by decide +kernel
theorem dX6_oneHeightMore_1 : decode cX6_oneHeightMore 1 = .ok (.dup, 1) := by decide +kernel
theorem dX6_oneHeightMore_2 : decode cX6_oneHeightMore 2 = .ok (.getfield 224, 3) := by decide +kernel
theorem dX6_oneHeightMore_5 : decode cX6_oneHeightMore 5 = .ok (.iconst 1, 1) := by decide +kernel
theorem dX6_oneHeightMore_6 : decode cX6_oneHeightMore 6 = .ok (.iadd, 1) := by decide +kernel
theorem dX6_oneHeightMore_7 : decode cX6_oneHeightMore 7 = .ok (.putfield 224, 3) := by decide +kernel
theorem dX6_oneHeightMore_10 : decode cX6_oneHeightMore 10 = .ok (.iconst 0, 1) := by decide +kernel
theorem dX6_oneHeightMore_11 : decode cX6_oneHeightMore 11 = .ok (.istore_n 1, 1) := by decide +kernel
theorem dX6_oneHeightMore_12 : decode cX6_oneHeightMore 12 = .ok (.iload_n 1, 1) := by decide +kernel
theorem dX6_oneHeightMore_13 : decode cX6_oneHeightMore 13 = .ok (.aload_n 0, 1) := by decide +kernel
theorem dX6_oneHeightMore_14 : decode cX6_oneHeightMore 14 = .ok (.getfield 52, 3) := by decide +kernel
theorem dX6_oneHeightMore_17 : decode cX6_oneHeightMore 17 = .ok (.if_icmp .ge 18, 3) := by decide +kernel
theorem dX6_oneHeightMore_20 : decode cX6_oneHeightMore 20 = .ok (.aload_n 0, 1) := by decide +kernel
theorem dX6_oneHeightMore_21 : decode cX6_oneHeightMore 21 = .ok (.aload_n 0, 1) := by decide +kernel
theorem dX6_oneHeightMore_22 : decode cX6_oneHeightMore 22 = .ok (.iload_n 1, 1) := by decide +kernel
theorem dX6_oneHeightMore_23 : decode cX6_oneHeightMore 23 = .ok (.invokevirtual 93, 3) := by decide +kernel
theorem dX6_oneHeightMore_26 : decode cX6_oneHeightMore 26 = .ok (.invokevirtual 311, 3) := by decide +kernel
theorem dX6_oneHeightMore_29 : decode cX6_oneHeightMore 29 = .ok (.iinc 1 1, 3) := by decide +kernel
theorem dX6_oneHeightMore_32 : decode cX6_oneHeightMore 32 = .ok (.goto (-20), 3) := by decide +kernel
theorem dX6_oneHeightMore_35 : decode cX6_oneHeightMore 35 = .ok (.iconst 0, 1) := by decide +kernel
theorem dX6_oneHeightMore_36 : decode cX6_oneHeightMore 36 = .ok (.istore_n 1, 1) := by decide +kernel
theorem dX6_oneHeightMore_37 : decode cX6_oneHeightMore 37 = .ok (.iload_n 1, 1) := by decide +kernel
theorem dX6_oneHeightMore_38 : decode cX6_oneHeightMore 38 = .ok (.bipush 6, 2) := by decide +kernel
theorem dX6_oneHeightMore_40 : decode cX6_oneHeightMore 40 = .ok (.if_icmp .ge 46, 3) := by decide +kernel
theorem dX6_oneHeightMore_43 : decode cX6_oneHeightMore 43 = .ok (.aload_n 0, 1) := by decide +kernel
theorem dX6_oneHeightMore_44 : decode cX6_oneHeightMore 44 = .ok (.getfield 305, 3) := by decide +kernel
theorem dX6_oneHeightMore_47 : decode cX6_oneHeightMore 47 = .ok (.iload_n 1, 1) := by decide +kernel
theorem dX6_oneHeightMore_48 : decode cX6_oneHeightMore 48 = .ok (.invokestatic 107, 3) := by decide +kernel
theorem dX6_oneHeightMore_51 : decode cX6_oneHeightMore 51 = .ok (.ifCond .eq 29, 3) := by decide +kernel
theorem dX6_oneHeightMore_54 : decode cX6_oneHeightMore 54 = .ok (.iconst 0, 1) := by decide +kernel
theorem dX6_oneHeightMore_55 : decode cX6_oneHeightMore 55 = .ok (.istore_n 2, 1) := by decide +kernel
theorem dX6_oneHeightMore_56 : decode cX6_oneHeightMore 56 = .ok (.iload_n 2, 1) := by decide +kernel
theorem dX6_oneHeightMore_57 : decode cX6_oneHeightMore 57 = .ok (.aload_n 0, 1) := by decide +kernel
theorem dX6_oneHeightMore_58 : decode cX6_oneHeightMore 58 = .ok (.getfield 52, 3) := by decide +kernel
theorem dX6_oneHeightMore_61 : decode cX6_oneHeightMore 61 = .ok (.if_icmp .ge 19, 3) := by decide +kernel
theorem dX6_oneHeightMore_64 : decode cX6_oneHeightMore 64 = .ok (.aload_n 0, 1) := by decide +kernel
theorem dX6_oneHeightMore_65 : decode cX6_oneHeightMore 65 = .ok (.iload_n 1, 1) := by decide +kernel
theorem dX6_oneHeightMore_66 : decode cX6_oneHeightMore 66 = .ok (.aload_n 0, 1) := by decide +kernel
theorem dX6_oneHeightMore_67 : decode cX6_oneHeightMore 67 = .ok (.iload_n 2, 1) := by decide +kernel
theorem dX6_oneHeightMore_68 : decode cX6_oneHeightMore 68 = .ok (.invokevirtual 93, 3) := by decide +kernel
theorem dX6_oneHeightMore_71 : decode cX6_oneHeightMore 71 = .ok (.invokevirtual 315, 3) := by decide +kernel
theorem dX6_oneHeightMore_74 : decode cX6_oneHeightMore 74 = .ok (.iinc 2 1, 3) := by decide +kernel
theorem dX6_oneHeightMore_77 : decode cX6_oneHeightMore 77 = .ok (.goto (-21), 3) := by decide +kernel
theorem dX6_oneHeightMore_80 : decode cX6_oneHeightMore 80 = .ok (.iinc 1 1, 3) := by decide +kernel
theorem dX6_oneHeightMore_83 : decode cX6_oneHeightMore 83 = .ok (.goto (-46), 3) := by decide +kernel
theorem dX6_oneHeightMore_86 : decode cX6_oneHeightMore 86 = .ok (.return_, 1) := by decide +kernel
theorem dX6_meetHeight_0 : decode cX6_meetHeight 0 = .ok (.aload_n 1, 1) := by decide +kernel
theorem dX6_meetHeight_1 : decode cX6_meetHeight 1 = .ok (.ifnonnull 4, 3) := by decide +kernel
theorem dX6_meetHeight_4 : decode cX6_meetHeight 4 = .ok (.return_, 1) := by decide +kernel
theorem dX6_meetHeight_5 : decode cX6_meetHeight 5 = .ok (.aload_n 1, 1) := by decide +kernel
theorem dX6_meetHeight_6 : decode cX6_meetHeight 6 = .ok (.getfield 97, 3) := by decide +kernel
theorem dX6_meetHeight_9 : decode cX6_meetHeight 9 = .ok (.iconst 2, 1) := by decide +kernel
theorem dX6_meetHeight_10 : decode cX6_meetHeight 10 = .ok (.if_icmp .ne 29, 3) := by decide +kernel
theorem dX6_meetHeight_13 : decode cX6_meetHeight 13 = .ok (.aload_n 1, 1) := by decide +kernel
theorem dX6_meetHeight_14 : decode cX6_meetHeight 14 = .ok (.getfield 212, 3) := by decide +kernel
theorem dX6_meetHeight_17 : decode cX6_meetHeight 17 = .ok (.aload_n 0, 1) := by decide +kernel
theorem dX6_meetHeight_18 : decode cX6_meetHeight 18 = .ok (.getfield 224, 3) := by decide +kernel
theorem dX6_meetHeight_21 : decode cX6_meetHeight 21 = .ok (.if_icmp .ne 18, 3) := by decide +kernel
theorem dX6_meetHeight_24 : decode cX6_meetHeight 24 = .ok (.aload_n 1, 1) := by decide +kernel
theorem dX6_meetHeight_25 : decode cX6_meetHeight 25 = .ok (.getfield 230, 3) := by decide +kernel
theorem dX6_meetHeight_28 : decode cX6_meetHeight 28 = .ok (.ifnull 11, 3) := by decide +kernel
theorem dX6_meetHeight_31 : decode cX6_meetHeight 31 = .ok (.aload_n 0, 1) := by decide +kernel
theorem dX6_meetHeight_32 : decode cX6_meetHeight 32 = .ok (.aload_n 1, 1) := by decide +kernel
theorem dX6_meetHeight_33 : decode cX6_meetHeight 33 = .ok (.getfield 230, 3) := by decide +kernel
theorem dX6_meetHeight_36 : decode cX6_meetHeight 36 = .ok (.invokevirtual 239, 3) := by decide +kernel
theorem dX6_meetHeight_39 : decode cX6_meetHeight 39 = .ok (.iconst 0, 1) := by decide +kernel
theorem dX6_meetHeight_40 : decode cX6_meetHeight 40 = .ok (.istore_n 2, 1) := by decide +kernel
theorem dX6_meetHeight_41 : decode cX6_meetHeight 41 = .ok (.iload_n 2, 1) := by decide +kernel
theorem dX6_meetHeight_42 : decode cX6_meetHeight 42 = .ok (.iconst 3, 1) := by decide +kernel
theorem dX6_meetHeight_43 : decode cX6_meetHeight 43 = .ok (.if_icmp .ge 44, 3) := by decide +kernel
theorem dX6_meetHeight_46 : decode cX6_meetHeight 46 = .ok (.aload_n 1, 1) := by decide +kernel
theorem dX6_meetHeight_47 : decode cX6_meetHeight 47 = .ok (.iload_n 2, 1) := by decide +kernel
theorem dX6_meetHeight_48 : decode cX6_meetHeight 48 = .ok (.invokevirtual 291, 3) := by decide +kernel
theorem dX6_meetHeight_51 : decode cX6_meetHeight 51 = .ok (.astore_n 3, 1) := by decide +kernel
theorem dX6_meetHeight_52 : decode cX6_meetHeight 52 = .ok (.aload_n 3, 1) := by decide +kernel
theorem dX6_meetHeight_53 : decode cX6_meetHeight 53 = .ok (.ifnull 28, 3) := by decide +kernel
theorem dX6_meetHeight_56 : decode cX6_meetHeight 56 = .ok (.aload_n 3, 1) := by decide +kernel
theorem dX6_meetHeight_57 : decode cX6_meetHeight 57 = .ok (.getfield 256, 3) := by decide +kernel
theorem dX6_meetHeight_60 : decode cX6_meetHeight 60 = .ok (.aload_n 0, 1) := by decide +kernel
theorem dX6_meetHeight_61 : decode cX6_meetHeight 61 = .ok (.getfield 224, 3) := by decide +kernel
theorem dX6_meetHeight_64 : decode cX6_meetHeight 64 = .ok (.if_icmp .ne 17, 3) := by decide +kernel
theorem dX6_meetHeight_67 : decode cX6_meetHeight 67 = .ok (.aload_n 0, 1) := by decide +kernel
theorem dX6_meetHeight_68 : decode cX6_meetHeight 68 = .ok (.aload_n 1, 1) := by decide +kernel
theorem dX6_meetHeight_69 : decode cX6_meetHeight 69 = .ok (.iload_n 2, 1) := by decide +kernel
theorem dX6_meetHeight_70 : decode cX6_meetHeight 70 = .ok (.aload_n 3, 1) := by decide +kernel
theorem dX6_meetHeight_71 : decode cX6_meetHeight 71 = .ok (.getfield 164, 3) := by decide +kernel
theorem dX6_meetHeight_74 : decode cX6_meetHeight 74 = .ok (.aload_n 3, 1) := by decide +kernel
theorem dX6_meetHeight_75 : decode cX6_meetHeight 75 = .ok (.getfield 167, 3) := by decide +kernel
theorem dX6_meetHeight_78 : decode cX6_meetHeight 78 = .ok (.invokevirtual 298, 3) := by decide +kernel
theorem dX6_meetHeight_81 : decode cX6_meetHeight 81 = .ok (.iinc 2 1, 3) := by decide +kernel
theorem dX6_meetHeight_84 : decode cX6_meetHeight 84 = .ok (.goto (-43), 3) := by decide +kernel
theorem dX6_meetHeight_87 : decode cX6_meetHeight 87 = .ok (.aload_n 1, 1) := by decide +kernel
theorem dX6_meetHeight_88 : decode cX6_meetHeight 88 = .ok (.getfield 250, 3) := by decide +kernel
theorem dX6_meetHeight_91 : decode cX6_meetHeight 91 = .ok (.astore_n 2, 1) := by decide +kernel
theorem dX6_meetHeight_92 : decode cX6_meetHeight 92 = .ok (.aload_n 2, 1) := by decide +kernel
theorem dX6_meetHeight_93 : decode cX6_meetHeight 93 = .ok (.ifnull 27, 3) := by decide +kernel
theorem dX6_meetHeight_96 : decode cX6_meetHeight 96 = .ok (.aload_n 1, 1) := by decide +kernel
theorem dX6_meetHeight_97 : decode cX6_meetHeight 97 = .ok (.getfield 253, 3) := by decide +kernel
theorem dX6_meetHeight_100 : decode cX6_meetHeight 100 = .ok (.aload_n 0, 1) := by decide +kernel
theorem dX6_meetHeight_101 : decode cX6_meetHeight 101 = .ok (.getfield 224, 3) := by decide +kernel
theorem dX6_meetHeight_104 : decode cX6_meetHeight 104 = .ok (.if_icmp .ne 16, 3) := by decide +kernel
theorem dX6_meetHeight_107 : decode cX6_meetHeight 107 = .ok (.aload_n 0, 1) := by decide +kernel
theorem dX6_meetHeight_108 : decode cX6_meetHeight 108 = .ok (.aload_n 1, 1) := by decide +kernel
theorem dX6_meetHeight_109 : decode cX6_meetHeight 109 = .ok (.aload_n 2, 1) := by decide +kernel
theorem dX6_meetHeight_110 : decode cX6_meetHeight 110 = .ok (.getfield 319, 3) := by decide +kernel
theorem dX6_meetHeight_113 : decode cX6_meetHeight 113 = .ok (.aload_n 2, 1) := by decide +kernel
theorem dX6_meetHeight_114 : decode cX6_meetHeight 114 = .ok (.getfield 179, 3) := by decide +kernel
theorem dX6_meetHeight_117 : decode cX6_meetHeight 117 = .ok (.invokevirtual 302, 3) := by decide +kernel
theorem dX6_meetHeight_120 : decode cX6_meetHeight 120 = .ok (.return_, 1) := by decide +kernel
theorem dX6_watchFor_0 : decode cX6_watchFor 0 = .ok (.aload_n 2, 1) := by decide +kernel
theorem dX6_watchFor_1 : decode cX6_watchFor 1 = .ok (.ifnull 11, 3) := by decide +kernel
theorem dX6_watchFor_4 : decode cX6_watchFor 4 = .ok (.aload_n 2, 1) := by decide +kernel
theorem dX6_watchFor_5 : decode cX6_watchFor 5 = .ok (.iload_n 1, 1) := by decide +kernel
theorem dX6_watchFor_6 : decode cX6_watchFor 6 = .ok (.invokevirtual 71, 3) := by decide +kernel
theorem dX6_watchFor_9 : decode cX6_watchFor 9 = .ok (.ifCond .ne 4, 3) := by decide +kernel
theorem dX6_watchFor_12 : decode cX6_watchFor 12 = .ok (.return_, 1) := by decide +kernel
theorem dX6_watchFor_13 : decode cX6_watchFor 13 = .ok (.aload_n 2, 1) := by decide +kernel
theorem dX6_watchFor_14 : decode cX6_watchFor 14 = .ok (.getfield 97, 3) := by decide +kernel
theorem dX6_watchFor_17 : decode cX6_watchFor 17 = .ok (.iconst 3, 1) := by decide +kernel
theorem dX6_watchFor_18 : decode cX6_watchFor 18 = .ok (.if_icmp .ne 31, 3) := by decide +kernel
theorem dX6_watchFor_21 : decode cX6_watchFor 21 = .ok (.iconst 0, 1) := by decide +kernel
theorem dX6_watchFor_22 : decode cX6_watchFor 22 = .ok (.istore_n 3, 1) := by decide +kernel
theorem dX6_watchFor_23 : decode cX6_watchFor 23 = .ok (.iload_n 3, 1) := by decide +kernel
theorem dX6_watchFor_24 : decode cX6_watchFor 24 = .ok (.iconst 3, 1) := by decide +kernel
theorem dX6_watchFor_25 : decode cX6_watchFor 25 = .ok (.if_icmp .ge 17, 3) := by decide +kernel
theorem dX6_watchFor_28 : decode cX6_watchFor 28 = .ok (.aload_n 0, 1) := by decide +kernel
theorem dX6_watchFor_29 : decode cX6_watchFor 29 = .ok (.aload_n 2, 1) := by decide +kernel
theorem dX6_watchFor_30 : decode cX6_watchFor 30 = .ok (.iload_n 3, 1) := by decide +kernel
theorem dX6_watchFor_31 : decode cX6_watchFor 31 = .ok (.iload_n 1, 1) := by decide +kernel
theorem dX6_watchFor_32 : decode cX6_watchFor 32 = .ok (.invokevirtual 280, 3) := by decide +kernel
theorem dX6_watchFor_35 : decode cX6_watchFor 35 = .ok (.pop, 1) := by decide +kernel
theorem dX6_watchFor_36 : decode cX6_watchFor 36 = .ok (.iinc 3 1, 3) := by decide +kernel
theorem dX6_watchFor_39 : decode cX6_watchFor 39 = .ok (.goto (-16), 3) := by decide +kernel
theorem dX6_watchFor_42 : decode cX6_watchFor 42 = .ok (.aload_n 0, 1) := by decide +kernel
theorem dX6_watchFor_43 : decode cX6_watchFor 43 = .ok (.iload_n 1, 1) := by decide +kernel
theorem dX6_watchFor_44 : decode cX6_watchFor 44 = .ok (.aload_n 2, 1) := by decide +kernel
theorem dX6_watchFor_45 : decode cX6_watchFor 45 = .ok (.invokevirtual 322, 3) := by decide +kernel
theorem dX6_watchFor_48 : decode cX6_watchFor 48 = .ok (.return_, 1) := by decide +kernel
theorem dX6_watchFor_49 : decode cX6_watchFor 49 = .ok (.aload_n 2, 1) := by decide +kernel
theorem dX6_watchFor_50 : decode cX6_watchFor 50 = .ok (.getfield 86, 3) := by decide +kernel
theorem dX6_watchFor_53 : decode cX6_watchFor 53 = .ok (.astore_n 3, 1) := by decide +kernel
theorem dX6_watchFor_54 : decode cX6_watchFor 54 = .ok (.aload_n 3, 1) := by decide +kernel
theorem dX6_watchFor_55 : decode cX6_watchFor 55 = .ok (.ifnull 33, 3) := by decide +kernel
theorem dX6_watchFor_58 : decode cX6_watchFor 58 = .ok (.aload_n 2, 1) := by decide +kernel
theorem dX6_watchFor_59 : decode cX6_watchFor 59 = .ok (.aload_n 3, 1) := by decide +kernel
theorem dX6_watchFor_60 : decode cX6_watchFor 60 = .ok (.invokevirtual 205, 3) := by decide +kernel
theorem dX6_watchFor_63 : decode cX6_watchFor 63 = .ok (.ifCond .eq 25, 3) := by decide +kernel
theorem dX6_watchFor_66 : decode cX6_watchFor 66 = .ok (.aload_n 2, 1) := by decide +kernel
theorem dX6_watchFor_67 : decode cX6_watchFor 67 = .ok (.getfield 97, 3) := by decide +kernel
theorem dX6_watchFor_70 : decode cX6_watchFor 70 = .ok (.iconst 2, 1) := by decide +kernel
theorem dX6_watchFor_71 : decode cX6_watchFor 71 = .ok (.if_icmp .eq 12, 3) := by decide +kernel
theorem dX6_watchFor_74 : decode cX6_watchFor 74 = .ok (.aload_n 0, 1) := by decide +kernel
theorem dX6_watchFor_75 : decode cX6_watchFor 75 = .ok (.aload_n 3, 1) := by decide +kernel
theorem dX6_watchFor_76 : decode cX6_watchFor 76 = .ok (.iload_n 1, 1) := by decide +kernel
theorem dX6_watchFor_77 : decode cX6_watchFor 77 = .ok (.invokevirtual 325, 3) := by decide +kernel
theorem dX6_watchFor_80 : decode cX6_watchFor 80 = .ok (.ifCond .eq 8, 3) := by decide +kernel
theorem dX6_watchFor_83 : decode cX6_watchFor 83 = .ok (.aload_n 0, 1) := by decide +kernel
theorem dX6_watchFor_84 : decode cX6_watchFor 84 = .ok (.aload_n 3, 1) := by decide +kernel
theorem dX6_watchFor_85 : decode cX6_watchFor 85 = .ok (.invokevirtual 209, 3) := by decide +kernel
theorem dX6_watchFor_88 : decode cX6_watchFor 88 = .ok (.return_, 1) := by decide +kernel
theorem dX6_hasUrgentLock_0 : decode cX6_hasUrgentLock 0 = .ok (.iconst 0, 1) := by decide +kernel
theorem dX6_hasUrgentLock_1 : decode cX6_hasUrgentLock 1 = .ok (.istore_n 3, 1) := by decide +kernel
theorem dX6_hasUrgentLock_2 : decode cX6_hasUrgentLock 2 = .ok (.iload_n 3, 1) := by decide +kernel
theorem dX6_hasUrgentLock_3 : decode cX6_hasUrgentLock 3 = .ok (.iconst 3, 1) := by decide +kernel
theorem dX6_hasUrgentLock_4 : decode cX6_hasUrgentLock 4 = .ok (.if_icmp .ge 55, 3) := by decide +kernel
theorem dX6_hasUrgentLock_7 : decode cX6_hasUrgentLock 7 = .ok (.aload_n 1, 1) := by decide +kernel
theorem dX6_hasUrgentLock_8 : decode cX6_hasUrgentLock 8 = .ok (.iload_n 3, 1) := by decide +kernel
theorem dX6_hasUrgentLock_9 : decode cX6_hasUrgentLock 9 = .ok (.invokevirtual 153, 3) := by decide +kernel
theorem dX6_hasUrgentLock_12 : decode cX6_hasUrgentLock 12 = .ok (.astore 4, 2) := by decide +kernel
theorem dX6_hasUrgentLock_14 : decode cX6_hasUrgentLock 14 = .ok (.aload 4, 2) := by decide +kernel
theorem dX6_hasUrgentLock_16 : decode cX6_hasUrgentLock 16 = .ok (.ifnull 37, 3) := by decide +kernel
theorem dX6_hasUrgentLock_19 : decode cX6_hasUrgentLock 19 = .ok (.aload_n 0, 1) := by decide +kernel
theorem dX6_hasUrgentLock_20 : decode cX6_hasUrgentLock 20 = .ok (.aload 4, 2) := by decide +kernel
theorem dX6_hasUrgentLock_22 : decode cX6_hasUrgentLock 22 = .ok (.iload_n 2, 1) := by decide +kernel
theorem dX6_hasUrgentLock_23 : decode cX6_hasUrgentLock 23 = .ok (.invokevirtual 294, 3) := by decide +kernel
theorem dX6_hasUrgentLock_26 : decode cX6_hasUrgentLock 26 = .ok (.ifCond .eq 27, 3) := by decide +kernel
theorem dX6_hasUrgentLock_29 : decode cX6_hasUrgentLock 29 = .ok (.aload 4, 2) := by decide +kernel
theorem dX6_hasUrgentLock_31 : decode cX6_hasUrgentLock 31 = .ok (.getfield 256, 3) := by decide +kernel
theorem dX6_hasUrgentLock_34 : decode cX6_hasUrgentLock 34 = .ok (.aload_n 0, 1) := by decide +kernel
theorem dX6_hasUrgentLock_35 : decode cX6_hasUrgentLock 35 = .ok (.getfield 224, 3) := by decide +kernel
theorem dX6_hasUrgentLock_38 : decode cX6_hasUrgentLock 38 = .ok (.aload_n 1, 1) := by decide +kernel
theorem dX6_hasUrgentLock_39 : decode cX6_hasUrgentLock 39 = .ok (.getfield 195, 3) := by decide +kernel
theorem dX6_hasUrgentLock_42 : decode cX6_hasUrgentLock 42 = .ok (.getfield 227, 3) := by decide +kernel
theorem dX6_hasUrgentLock_45 : decode cX6_hasUrgentLock 45 = .ok (.iadd, 1) := by decide +kernel
theorem dX6_hasUrgentLock_46 : decode cX6_hasUrgentLock 46 = .ok (.iconst 1, 1) := by decide +kernel
theorem dX6_hasUrgentLock_47 : decode cX6_hasUrgentLock 47 = .ok (.iadd, 1) := by decide +kernel
theorem dX6_hasUrgentLock_48 : decode cX6_hasUrgentLock 48 = .ok (.if_icmp .ne 5, 3) := by decide +kernel
theorem dX6_hasUrgentLock_51 : decode cX6_hasUrgentLock 51 = .ok (.iconst 1, 1) := by decide +kernel
theorem dX6_hasUrgentLock_52 : decode cX6_hasUrgentLock 52 = .ok (.ireturn, 1) := by decide +kernel
theorem dX6_hasUrgentLock_53 : decode cX6_hasUrgentLock 53 = .ok (.iinc 3 1, 3) := by decide +kernel
theorem dX6_hasUrgentLock_56 : decode cX6_hasUrgentLock 56 = .ok (.goto (-54), 3) := by decide +kernel
theorem dX6_hasUrgentLock_59 : decode cX6_hasUrgentLock 59 = .ok (.iconst 0, 1) := by decide +kernel
theorem dX6_hasUrgentLock_60 : decode cX6_hasUrgentLock 60 = .ok (.ireturn, 1) := by decide +kernel
theorem dX6_playFor_0 : decode cX6_playFor 0 = .ok (.aload_n 2, 1) := by decide +kernel
theorem dX6_playFor_1 : decode cX6_playFor 1 = .ok (.getfield 250, 3) := by decide +kernel
theorem dX6_playFor_4 : decode cX6_playFor 4 = .ok (.astore_n 3, 1) := by decide +kernel
theorem dX6_playFor_5 : decode cX6_playFor 5 = .ok (.aload_n 3, 1) := by decide +kernel
theorem dX6_playFor_6 : decode cX6_playFor 6 = .ok (.ifnull 36, 3) := by decide +kernel
theorem dX6_playFor_9 : decode cX6_playFor 9 = .ok (.aload_n 3, 1) := by decide +kernel
theorem dX6_playFor_10 : decode cX6_playFor 10 = .ok (.getfield 189, 3) := by decide +kernel
theorem dX6_playFor_13 : decode cX6_playFor 13 = .ok (.iload_n 1, 1) := by decide +kernel
theorem dX6_playFor_14 : decode cX6_playFor 14 = .ok (.if_icmp .ne 28, 3) := by decide +kernel
theorem dX6_playFor_17 : decode cX6_playFor 17 = .ok (.aload_n 3, 1) := by decide +kernel
theorem dX6_playFor_18 : decode cX6_playFor 18 = .ok (.getfield 182, 3) := by decide +kernel
theorem dX6_playFor_21 : decode cX6_playFor 21 = .ok (.iconst 4, 1) := by decide +kernel
theorem dX6_playFor_22 : decode cX6_playFor 22 = .ok (.irem, 1) := by decide +kernel
theorem dX6_playFor_23 : decode cX6_playFor 23 = .ok (.istore 4, 2) := by decide +kernel
theorem dX6_playFor_25 : decode cX6_playFor 25 = .ok (.aload_n 0, 1) := by decide +kernel
theorem dX6_playFor_26 : decode cX6_playFor 26 = .ok (.aload_n 2, 1) := by decide +kernel
theorem dX6_playFor_27 : decode cX6_playFor 27 = .ok (.aload_n 3, 1) := by decide +kernel
theorem dX6_playFor_28 : decode cX6_playFor 28 = .ok (.iload 4, 2) := by decide +kernel
theorem dX6_playFor_30 : decode cX6_playFor 30 = .ok (.ifCond .ne 7, 3) := by decide +kernel
theorem dX6_playFor_33 : decode cX6_playFor 33 = .ok (.iconst 1, 1) := by decide +kernel
theorem dX6_playFor_34 : decode cX6_playFor 34 = .ok (.goto 5, 3) := by decide +kernel
theorem dX6_playFor_37 : decode cX6_playFor 37 = .ok (.iload 4, 2) := by decide +kernel
theorem dX6_playFor_39 : decode cX6_playFor 39 = .ok (.invokevirtual 284, 3) := by decide +kernel
theorem dX6_playFor_42 : decode cX6_playFor 42 = .ok (.return_, 1) := by decide +kernel
theorem dX6_hop_0 : decode cX6_hop 0 = .ok (.aload_n 0, 1) := by decide +kernel
theorem dX6_hop_1 : decode cX6_hop 1 = .ok (.iload_n 1, 1) := by decide +kernel
theorem dX6_hop_2 : decode cX6_hop 2 = .ok (.invokevirtual 93, 3) := by decide +kernel
theorem dX6_hop_5 : decode cX6_hop 5 = .ok (.astore 4, 2) := by decide +kernel
theorem dX6_hop_7 : decode cX6_hop 7 = .ok (.aload 4, 2) := by decide +kernel
theorem dX6_hop_9 : decode cX6_hop 9 = .ok (.ifnull 21, 3) := by decide +kernel
theorem dX6_hop_12 : decode cX6_hop 12 = .ok (.aload 4, 2) := by decide +kernel
theorem dX6_hop_14 : decode cX6_hop 14 = .ok (.iload_n 2, 1) := by decide +kernel
theorem dX6_hop_15 : decode cX6_hop 15 = .ok (.invokevirtual 71, 3) := by decide +kernel
theorem dX6_hop_18 : decode cX6_hop 18 = .ok (.ifCond .eq 12, 3) := by decide +kernel
theorem dX6_hop_21 : decode cX6_hop 21 = .ok (.aload 4, 2) := by decide +kernel
theorem dX6_hop_23 : decode cX6_hop 23 = .ok (.iload_n 3, 1) := by decide +kernel
theorem dX6_hop_24 : decode cX6_hop 24 = .ok (.invokevirtual 71, 3) := by decide +kernel
theorem dX6_hop_27 : decode cX6_hop 27 = .ok (.ifCond .ne 5, 3) := by decide +kernel
theorem dX6_hop_30 : decode cX6_hop 30 = .ok (.iconst (-1), 1) := by decide +kernel
theorem dX6_hop_31 : decode cX6_hop 31 = .ok (.ireturn, 1) := by decide +kernel
theorem dX6_hop_32 : decode cX6_hop 32 = .ok (.aload 4, 2) := by decide +kernel
theorem dX6_hop_34 : decode cX6_hop 34 = .ok (.getfield 97, 3) := by decide +kernel
theorem dX6_hop_37 : decode cX6_hop 37 = .ok (.iconst 1, 1) := by decide +kernel
theorem dX6_hop_38 : decode cX6_hop 38 = .ok (.if_icmp .eq 6, 3) := by decide +kernel
theorem dX6_hop_41 : decode cX6_hop 41 = .ok (.bipush (-2), 2) := by decide +kernel
theorem dX6_hop_43 : decode cX6_hop 43 = .ok (.ireturn, 1) := by decide +kernel
theorem dX6_hop_44 : decode cX6_hop 44 = .ok (.aload_n 0, 1) := by decide +kernel
theorem dX6_hop_45 : decode cX6_hop 45 = .ok (.getfield 329, 3) := by decide +kernel
theorem dX6_hop_48 : decode cX6_hop 48 = .ok (.aload_n 0, 1) := by decide +kernel
theorem dX6_hop_49 : decode cX6_hop 49 = .ok (.getfield 34, 3) := by decide +kernel
theorem dX6_hop_52 : decode cX6_hop 52 = .ok (.arraylength, 1) := by decide +kernel
theorem dX6_hop_53 : decode cX6_hop 53 = .ok (.if_icmp .ge 18, 3) := by decide +kernel
theorem dX6_hop_56 : decode cX6_hop 56 = .ok (.iload_n 2, 1) := by decide +kernel
theorem dX6_hop_57 : decode cX6_hop 57 = .ok (.iload_n 3, 1) := by decide +kernel
theorem dX6_hop_58 : decode cX6_hop 58 = .ok (.if_icmp .eq 13, 3) := by decide +kernel
theorem dX6_hop_61 : decode cX6_hop 61 = .ok (.aload_n 0, 1) := by decide +kernel
theorem dX6_hop_62 : decode cX6_hop 62 = .ok (.aload 4, 2) := by decide +kernel
theorem dX6_hop_64 : decode cX6_hop 64 = .ok (.iload_n 2, 1) := by decide +kernel
theorem dX6_hop_65 : decode cX6_hop 65 = .ok (.invokevirtual 332, 3) := by decide +kernel
theorem dX6_hop_68 : decode cX6_hop 68 = .ok (.ifCond .ne 6, 3) := by decide +kernel
theorem dX6_hop_71 : decode cX6_hop 71 = .ok (.bipush (-4), 2) := by decide +kernel
theorem dX6_hop_73 : decode cX6_hop 73 = .ok (.ireturn, 1) := by decide +kernel
theorem dX6_hop_74 : decode cX6_hop 74 = .ok (.aload_n 0, 1) := by decide +kernel
theorem dX6_hop_75 : decode cX6_hop 75 = .ok (.getfield 34, 3) := by decide +kernel
theorem dX6_hop_78 : decode cX6_hop 78 = .ok (.aload_n 0, 1) := by decide +kernel
theorem dX6_hop_79 : decode cX6_hop 79 = .ok (.getfield 329, 3) := by decide +kernel
theorem dX6_hop_82 : decode cX6_hop 82 = .ok (.new 32, 3) := by decide +kernel
theorem dX6_hop_85 : decode cX6_hop 85 = .ok (.dup, 1) := by decide +kernel
theorem dX6_hop_86 : decode cX6_hop 86 = .ok (.aload 4, 2) := by decide +kernel
theorem dX6_hop_88 : decode cX6_hop 88 = .ok (.iload_n 2, 1) := by decide +kernel
theorem dX6_hop_89 : decode cX6_hop 89 = .ok (.iload_n 3, 1) := by decide +kernel
theorem dX6_hop_90 : decode cX6_hop 90 = .ok (.invokespecial 336, 3) := by decide +kernel
theorem dX6_hop_93 : decode cX6_hop 93 = .ok (.aastore, 1) := by decide +kernel
theorem dX6_hop_94 : decode cX6_hop 94 = .ok (.aload_n 0, 1) := by decide +kernel
theorem dX6_hop_95 : decode cX6_hop 95 = .ok (.dup, 1) := by decide +kernel
theorem dX6_hop_96 : decode cX6_hop 96 = .ok (.getfield 329, 3) := by decide +kernel
theorem dX6_hop_99 : decode cX6_hop 99 = .ok (.iconst 1, 1) := by decide +kernel
theorem dX6_hop_100 : decode cX6_hop 100 = .ok (.iadd, 1) := by decide +kernel
theorem dX6_hop_101 : decode cX6_hop 101 = .ok (.putfield 329, 3) := by decide +kernel
theorem dX6_hop_104 : decode cX6_hop 104 = .ok (.aload_n 0, 1) := by decide +kernel
theorem dX6_hop_105 : decode cX6_hop 105 = .ok (.getfield 329, 3) := by decide +kernel
theorem dX6_hop_108 : decode cX6_hop 108 = .ok (.ireturn, 1) := by decide +kernel
theorem dX6_pay_0 : decode cX6_pay 0 = .ok (.aload_n 0, 1) := by decide +kernel
theorem dX6_pay_1 : decode cX6_pay 1 = .ok (.getfield 329, 3) := by decide +kernel
theorem dX6_pay_4 : decode cX6_pay 4 = .ok (.istore_n 3, 1) := by decide +kernel
theorem dX6_pay_5 : decode cX6_pay 5 = .ok (.aload_n 0, 1) := by decide +kernel
theorem dX6_pay_6 : decode cX6_pay 6 = .ok (.iconst 0, 1) := by decide +kernel
theorem dX6_pay_7 : decode cX6_pay 7 = .ok (.putfield 329, 3) := by decide +kernel
theorem dX6_pay_10 : decode cX6_pay 10 = .ok (.iload_n 1, 1) := by decide +kernel
theorem dX6_pay_11 : decode cX6_pay 11 = .ok (.iconst 1, 1) := by decide +kernel
theorem dX6_pay_12 : decode cX6_pay 12 = .ok (.ldc 132, 2) := by decide +kernel
theorem dX6_pay_14 : decode cX6_pay 14 = .ok (.invokestatic 42, 3) := by decide +kernel
theorem dX6_pay_17 : decode cX6_pay 17 = .ok (.ifCond .eq 13, 3) := by decide +kernel
theorem dX6_pay_20 : decode cX6_pay 20 = .ok (.iload_n 2, 1) := by decide +kernel
theorem dX6_pay_21 : decode cX6_pay 21 = .ok (.iconst 1, 1) := by decide +kernel
theorem dX6_pay_22 : decode cX6_pay 22 = .ok (.ldc 139, 2) := by decide +kernel
theorem dX6_pay_24 : decode cX6_pay 24 = .ok (.invokestatic 42, 3) := by decide +kernel
theorem dX6_pay_27 : decode cX6_pay 27 = .ok (.ifCond .ne 6, 3) := by decide +kernel
theorem dX6_pay_30 : decode cX6_pay 30 = .ok (.bipush (-3), 2) := by decide +kernel
theorem dX6_pay_32 : decode cX6_pay 32 = .ok (.ireturn, 1) := by decide +kernel
theorem dX6_pay_33 : decode cX6_pay 33 = .ok (.aload_n 0, 1) := by decide +kernel
theorem dX6_pay_34 : decode cX6_pay 34 = .ok (.iload_n 3, 1) := by decide +kernel
theorem dX6_pay_35 : decode cX6_pay 35 = .ok (.iconst 1, 1) := by decide +kernel
theorem dX6_pay_36 : decode cX6_pay 36 = .ok (.isub, 1) := by decide +kernel
theorem dX6_pay_37 : decode cX6_pay 37 = .ok (.invokevirtual 338, 3) := by decide +kernel
theorem dX6_pay_40 : decode cX6_pay 40 = .ok (.astore 4, 2) := by decide +kernel
theorem dX6_pay_42 : decode cX6_pay 42 = .ok (.aload 4, 2) := by decide +kernel
theorem dX6_pay_44 : decode cX6_pay 44 = .ok (.ifnull 27, 3) := by decide +kernel
theorem dX6_pay_47 : decode cX6_pay 47 = .ok (.aload_n 0, 1) := by decide +kernel
theorem dX6_pay_48 : decode cX6_pay 48 = .ok (.invokevirtual 265, 3) := by decide +kernel
theorem dX6_pay_51 : decode cX6_pay 51 = .ok (.ifCond .eq 20, 3) := by decide +kernel
theorem dX6_pay_54 : decode cX6_pay 54 = .ok (.aload_n 0, 1) := by decide +kernel
theorem dX6_pay_55 : decode cX6_pay 55 = .ok (.iload_n 3, 1) := by decide +kernel
theorem dX6_pay_56 : decode cX6_pay 56 = .ok (.invokevirtual 56, 3) := by decide +kernel
theorem dX6_pay_59 : decode cX6_pay 59 = .ok (.ifCond .eq 12, 3) := by decide +kernel
theorem dX6_pay_62 : decode cX6_pay 62 = .ok (.aload_n 0, 1) := by decide +kernel
theorem dX6_pay_63 : decode cX6_pay 63 = .ok (.iload_n 3, 1) := by decide +kernel
theorem dX6_pay_64 : decode cX6_pay 64 = .ok (.iload_n 1, 1) := by decide +kernel
theorem dX6_pay_65 : decode cX6_pay 65 = .ok (.invokevirtual 342, 3) := by decide +kernel
theorem dX6_pay_68 : decode cX6_pay 68 = .ok (.ifCond .ne 6, 3) := by decide +kernel
theorem dX6_pay_71 : decode cX6_pay 71 = .ok (.bipush (-4), 2) := by decide +kernel
theorem dX6_pay_73 : decode cX6_pay 73 = .ok (.ireturn, 1) := by decide +kernel
theorem dX6_pay_74 : decode cX6_pay 74 = .ok (.aload_n 0, 1) := by decide +kernel
theorem dX6_pay_75 : decode cX6_pay 75 = .ok (.aload 4, 2) := by decide +kernel
theorem dX6_pay_77 : decode cX6_pay 77 = .ok (.getfield 345, 3) := by decide +kernel
theorem dX6_pay_80 : decode cX6_pay 80 = .ok (.invokevirtual 268, 3) := by decide +kernel
theorem dX6_pay_83 : decode cX6_pay 83 = .ok (.istore 5, 2) := by decide +kernel
theorem dX6_pay_85 : decode cX6_pay 85 = .ok (.aload_n 0, 1) := by decide +kernel
theorem dX6_pay_86 : decode cX6_pay 86 = .ok (.iload_n 3, 1) := by decide +kernel
theorem dX6_pay_87 : decode cX6_pay 87 = .ok (.iload_n 2, 1) := by decide +kernel
theorem dX6_pay_88 : decode cX6_pay 88 = .ok (.invokevirtual 346, 3) := by decide +kernel
theorem dX6_pay_91 : decode cX6_pay 91 = .ok (.istore 6, 2) := by decide +kernel
theorem dX6_pay_93 : decode cX6_pay 93 = .ok (.iconst 0, 1) := by decide +kernel
theorem dX6_pay_94 : decode cX6_pay 94 = .ok (.istore 7, 2) := by decide +kernel
theorem dX6_pay_96 : decode cX6_pay 96 = .ok (.iload 7, 2) := by decide +kernel
theorem dX6_pay_98 : decode cX6_pay 98 = .ok (.iload_n 3, 1) := by decide +kernel
theorem dX6_pay_99 : decode cX6_pay 99 = .ok (.if_icmp .ge 48, 3) := by decide +kernel
theorem dX6_pay_102 : decode cX6_pay 102 = .ok (.aload_n 0, 1) := by decide +kernel
theorem dX6_pay_103 : decode cX6_pay 103 = .ok (.iload 7, 2) := by decide +kernel
theorem dX6_pay_105 : decode cX6_pay 105 = .ok (.invokevirtual 338, 3) := by decide +kernel
theorem dX6_pay_108 : decode cX6_pay 108 = .ok (.astore 8, 2) := by decide +kernel
theorem dX6_pay_110 : decode cX6_pay 110 = .ok (.aload 8, 2) := by decide +kernel
theorem dX6_pay_112 : decode cX6_pay 112 = .ok (.ifnull 29, 3) := by decide +kernel
theorem dX6_pay_115 : decode cX6_pay 115 = .ok (.aload_n 0, 1) := by decide +kernel
theorem dX6_pay_116 : decode cX6_pay 116 = .ok (.aload 8, 2) := by decide +kernel
theorem dX6_pay_118 : decode cX6_pay 118 = .ok (.iload_n 1, 1) := by decide +kernel
theorem dX6_pay_119 : decode cX6_pay 119 = .ok (.iload 5, 2) := by decide +kernel
theorem dX6_pay_121 : decode cX6_pay 121 = .ok (.iload 6, 2) := by decide +kernel
theorem dX6_pay_123 : decode cX6_pay 123 = .ok (.invokevirtual 350, 3) := by decide +kernel
theorem dX6_pay_126 : decode cX6_pay 126 = .ok (.iload 6, 2) := by decide +kernel
theorem dX6_pay_128 : decode cX6_pay 128 = .ok (.aload 8, 2) := by decide +kernel
theorem dX6_pay_130 : decode cX6_pay 130 = .ok (.getfield 354, 3) := by decide +kernel
theorem dX6_pay_133 : decode cX6_pay 133 = .ok (.getfield 227, 3) := by decide +kernel
theorem dX6_pay_136 : decode cX6_pay 136 = .ok (.iconst 1, 1) := by decide +kernel
theorem dX6_pay_137 : decode cX6_pay 137 = .ok (.iadd, 1) := by decide +kernel
theorem dX6_pay_138 : decode cX6_pay 138 = .ok (.isub, 1) := by decide +kernel
theorem dX6_pay_139 : decode cX6_pay 139 = .ok (.istore 6, 2) := by decide +kernel
theorem dX6_pay_141 : decode cX6_pay 141 = .ok (.iinc 7 1, 3) := by decide +kernel
theorem dX6_pay_144 : decode cX6_pay 144 = .ok (.goto (-48), 3) := by decide +kernel
theorem dX6_pay_147 : decode cX6_pay 147 = .ok (.iload 5, 2) := by decide +kernel
theorem dX6_pay_149 : decode cX6_pay 149 = .ok (.ireturn, 1) := by decide +kernel
theorem dX6_continuesRoute_0 : decode cX6_continuesRoute 0 = .ok (.iconst 0, 1) := by decide +kernel
theorem dX6_continuesRoute_1 : decode cX6_continuesRoute 1 = .ok (.istore_n 3, 1) := by decide +kernel
theorem dX6_continuesRoute_2 : decode cX6_continuesRoute 2 = .ok (.iload_n 3, 1) := by decide +kernel
theorem dX6_continuesRoute_3 : decode cX6_continuesRoute 3 = .ok (.aload_n 0, 1) := by decide +kernel
theorem dX6_continuesRoute_4 : decode cX6_continuesRoute 4 = .ok (.getfield 329, 3) := by decide +kernel
theorem dX6_continuesRoute_7 : decode cX6_continuesRoute 7 = .ok (.if_icmp .ge 32, 3) := by decide +kernel
theorem dX6_continuesRoute_10 : decode cX6_continuesRoute 10 = .ok (.aload_n 0, 1) := by decide +kernel
theorem dX6_continuesRoute_11 : decode cX6_continuesRoute 11 = .ok (.iload_n 3, 1) := by decide +kernel
theorem dX6_continuesRoute_12 : decode cX6_continuesRoute 12 = .ok (.invokevirtual 338, 3) := by decide +kernel
theorem dX6_continuesRoute_15 : decode cX6_continuesRoute 15 = .ok (.astore 4, 2) := by decide +kernel
theorem dX6_continuesRoute_17 : decode cX6_continuesRoute 17 = .ok (.aload 4, 2) := by decide +kernel
theorem dX6_continuesRoute_19 : decode cX6_continuesRoute 19 = .ok (.ifnull 14, 3) := by decide +kernel
theorem dX6_continuesRoute_22 : decode cX6_continuesRoute 22 = .ok (.aload 4, 2) := by decide +kernel
theorem dX6_continuesRoute_24 : decode cX6_continuesRoute 24 = .ok (.getfield 354, 3) := by decide +kernel
theorem dX6_continuesRoute_27 : decode cX6_continuesRoute 27 = .ok (.aload_n 1, 1) := by decide +kernel
theorem dX6_continuesRoute_28 : decode cX6_continuesRoute 28 = .ok (.if_acmp .ne 5, 3) := by decide +kernel
theorem dX6_continuesRoute_31 : decode cX6_continuesRoute 31 = .ok (.iconst 0, 1) := by decide +kernel
theorem dX6_continuesRoute_32 : decode cX6_continuesRoute 32 = .ok (.ireturn, 1) := by decide +kernel
theorem dX6_continuesRoute_33 : decode cX6_continuesRoute 33 = .ok (.iinc 3 1, 3) := by decide +kernel
theorem dX6_continuesRoute_36 : decode cX6_continuesRoute 36 = .ok (.goto (-34), 3) := by decide +kernel
theorem dX6_continuesRoute_39 : decode cX6_continuesRoute 39 = .ok (.aload_n 0, 1) := by decide +kernel
theorem dX6_continuesRoute_40 : decode cX6_continuesRoute 40 = .ok (.aload_n 0, 1) := by decide +kernel
theorem dX6_continuesRoute_41 : decode cX6_continuesRoute 41 = .ok (.getfield 329, 3) := by decide +kernel
theorem dX6_continuesRoute_44 : decode cX6_continuesRoute 44 = .ok (.iconst 1, 1) := by decide +kernel
theorem dX6_continuesRoute_45 : decode cX6_continuesRoute 45 = .ok (.isub, 1) := by decide +kernel
theorem dX6_continuesRoute_46 : decode cX6_continuesRoute 46 = .ok (.invokevirtual 338, 3) := by decide +kernel
theorem dX6_continuesRoute_49 : decode cX6_continuesRoute 49 = .ok (.astore_n 3, 1) := by decide +kernel
theorem dX6_continuesRoute_50 : decode cX6_continuesRoute 50 = .ok (.aload_n 3, 1) := by decide +kernel
theorem dX6_continuesRoute_51 : decode cX6_continuesRoute 51 = .ok (.ifnull 11, 3) := by decide +kernel
theorem dX6_continuesRoute_54 : decode cX6_continuesRoute 54 = .ok (.aload_n 3, 1) := by decide +kernel
theorem dX6_continuesRoute_55 : decode cX6_continuesRoute 55 = .ok (.getfield 345, 3) := by decide +kernel
theorem dX6_continuesRoute_58 : decode cX6_continuesRoute 58 = .ok (.iload_n 2, 1) := by decide +kernel
theorem dX6_continuesRoute_59 : decode cX6_continuesRoute 59 = .ok (.if_icmp .ne 7, 3) := by decide +kernel
theorem dX6_continuesRoute_62 : decode cX6_continuesRoute 62 = .ok (.iconst 1, 1) := by decide +kernel
theorem dX6_continuesRoute_63 : decode cX6_continuesRoute 63 = .ok (.goto 4, 3) := by decide +kernel
theorem dX6_continuesRoute_66 : decode cX6_continuesRoute 66 = .ok (.iconst 0, 1) := by decide +kernel
theorem dX6_continuesRoute_67 : decode cX6_continuesRoute 67 = .ok (.ireturn, 1) := by decide +kernel
theorem dX6_allCarry_0 : decode cX6_allCarry 0 = .ok (.iconst 0, 1) := by decide +kernel
theorem dX6_allCarry_1 : decode cX6_allCarry 1 = .ok (.istore_n 3, 1) := by decide +kernel
theorem dX6_allCarry_2 : decode cX6_allCarry 2 = .ok (.iload_n 3, 1) := by decide +kernel
theorem dX6_allCarry_3 : decode cX6_allCarry 3 = .ok (.iload_n 1, 1) := by decide +kernel
theorem dX6_allCarry_4 : decode cX6_allCarry 4 = .ok (.if_icmp .ge 32, 3) := by decide +kernel
theorem dX6_allCarry_7 : decode cX6_allCarry 7 = .ok (.aload_n 0, 1) := by decide +kernel
theorem dX6_allCarry_8 : decode cX6_allCarry 8 = .ok (.iload_n 3, 1) := by decide +kernel
theorem dX6_allCarry_9 : decode cX6_allCarry 9 = .ok (.invokevirtual 338, 3) := by decide +kernel
theorem dX6_allCarry_12 : decode cX6_allCarry 12 = .ok (.astore 4, 2) := by decide +kernel
theorem dX6_allCarry_14 : decode cX6_allCarry 14 = .ok (.aload 4, 2) := by decide +kernel
theorem dX6_allCarry_16 : decode cX6_allCarry 16 = .ok (.ifnull 12, 3) := by decide +kernel
theorem dX6_allCarry_19 : decode cX6_allCarry 19 = .ok (.aload 4, 2) := by decide +kernel
theorem dX6_allCarry_21 : decode cX6_allCarry 21 = .ok (.iload_n 2, 1) := by decide +kernel
theorem dX6_allCarry_22 : decode cX6_allCarry 22 = .ok (.invokevirtual 355, 3) := by decide +kernel
theorem dX6_allCarry_25 : decode cX6_allCarry 25 = .ok (.ifCond .ne 5, 3) := by decide +kernel
theorem dX6_allCarry_28 : decode cX6_allCarry 28 = .ok (.iconst 0, 1) := by decide +kernel
theorem dX6_allCarry_29 : decode cX6_allCarry 29 = .ok (.ireturn, 1) := by decide +kernel
theorem dX6_allCarry_30 : decode cX6_allCarry 30 = .ok (.iinc 3 1, 3) := by decide +kernel
theorem dX6_allCarry_33 : decode cX6_allCarry 33 = .ok (.goto (-31), 3) := by decide +kernel
theorem dX6_allCarry_36 : decode cX6_allCarry 36 = .ok (.iconst 1, 1) := by decide +kernel
theorem dX6_allCarry_37 : decode cX6_allCarry 37 = .ok (.ireturn, 1) := by decide +kernel
theorem dX6_firstExpiry_0 : decode cX6_firstExpiry 0 = .ok (.iload_n 2, 1) := by decide +kernel
theorem dX6_firstExpiry_1 : decode cX6_firstExpiry 1 = .ok (.istore_n 3, 1) := by decide +kernel
theorem dX6_firstExpiry_2 : decode cX6_firstExpiry 2 = .ok (.iconst 0, 1) := by decide +kernel
theorem dX6_firstExpiry_3 : decode cX6_firstExpiry 3 = .ok (.istore 4, 2) := by decide +kernel
theorem dX6_firstExpiry_5 : decode cX6_firstExpiry 5 = .ok (.iload 4, 2) := by decide +kernel
theorem dX6_firstExpiry_7 : decode cX6_firstExpiry 7 = .ok (.iload_n 1, 1) := by decide +kernel
theorem dX6_firstExpiry_8 : decode cX6_firstExpiry 8 = .ok (.iconst 1, 1) := by decide +kernel
theorem dX6_firstExpiry_9 : decode cX6_firstExpiry 9 = .ok (.isub, 1) := by decide +kernel
theorem dX6_firstExpiry_10 : decode cX6_firstExpiry 10 = .ok (.if_icmp .ge 35, 3) := by decide +kernel
theorem dX6_firstExpiry_13 : decode cX6_firstExpiry 13 = .ok (.aload_n 0, 1) := by decide +kernel
theorem dX6_firstExpiry_14 : decode cX6_firstExpiry 14 = .ok (.iload 4, 2) := by decide +kernel
theorem dX6_firstExpiry_16 : decode cX6_firstExpiry 16 = .ok (.invokevirtual 338, 3) := by decide +kernel
theorem dX6_firstExpiry_19 : decode cX6_firstExpiry 19 = .ok (.astore 5, 2) := by decide +kernel
theorem dX6_firstExpiry_21 : decode cX6_firstExpiry 21 = .ok (.aload 5, 2) := by decide +kernel
theorem dX6_firstExpiry_23 : decode cX6_firstExpiry 23 = .ok (.ifnull 16, 3) := by decide +kernel
theorem dX6_firstExpiry_26 : decode cX6_firstExpiry 26 = .ok (.iload_n 3, 1) := by decide +kernel
theorem dX6_firstExpiry_27 : decode cX6_firstExpiry 27 = .ok (.aload 5, 2) := by decide +kernel
theorem dX6_firstExpiry_29 : decode cX6_firstExpiry 29 = .ok (.getfield 354, 3) := by decide +kernel
theorem dX6_firstExpiry_32 : decode cX6_firstExpiry 32 = .ok (.getfield 227, 3) := by decide +kernel
theorem dX6_firstExpiry_35 : decode cX6_firstExpiry 35 = .ok (.iconst 1, 1) := by decide +kernel
theorem dX6_firstExpiry_36 : decode cX6_firstExpiry 36 = .ok (.iadd, 1) := by decide +kernel
theorem dX6_firstExpiry_37 : decode cX6_firstExpiry 37 = .ok (.iadd, 1) := by decide +kernel
theorem dX6_firstExpiry_38 : decode cX6_firstExpiry 38 = .ok (.istore_n 3, 1) := by decide +kernel
theorem dX6_firstExpiry_39 : decode cX6_firstExpiry 39 = .ok (.iinc 4 1, 3) := by decide +kernel
theorem dX6_firstExpiry_42 : decode cX6_firstExpiry 42 = .ok (.goto (-37), 3) := by decide +kernel
theorem dX6_firstExpiry_45 : decode cX6_firstExpiry 45 = .ok (.iload_n 3, 1) := by decide +kernel
theorem dX6_firstExpiry_46 : decode cX6_firstExpiry 46 = .ok (.ireturn, 1) := by decide +kernel
theorem dX6_payHop_0 : decode cX6_payHop 0 = .ok (.aload_n 0, 1) := by decide +kernel
theorem dX6_payHop_1 : decode cX6_payHop 1 = .ok (.aload_n 1, 1) := by decide +kernel
theorem dX6_payHop_2 : decode cX6_payHop 2 = .ok (.getfield 354, 3) := by decide +kernel
theorem dX6_payHop_5 : decode cX6_payHop 5 = .ok (.invokevirtual 100, 3) := by decide +kernel
theorem dX6_payHop_8 : decode cX6_payHop 8 = .ok (.astore 5, 2) := by decide +kernel
theorem dX6_payHop_10 : decode cX6_payHop 10 = .ok (.aload 5, 2) := by decide +kernel
theorem dX6_payHop_12 : decode cX6_payHop 12 = .ok (.new 144, 3) := by decide +kernel
theorem dX6_payHop_15 : decode cX6_payHop 15 = .ok (.dup, 1) := by decide +kernel
theorem dX6_payHop_16 : decode cX6_payHop 16 = .ok (.aload_n 1, 1) := by decide +kernel
theorem dX6_payHop_17 : decode cX6_payHop 17 = .ok (.getfield 358, 3) := by decide +kernel
theorem dX6_payHop_20 : decode cX6_payHop 20 = .ok (.aload_n 1, 1) := by decide +kernel
theorem dX6_payHop_21 : decode cX6_payHop 21 = .ok (.getfield 345, 3) := by decide +kernel
theorem dX6_payHop_24 : decode cX6_payHop 24 = .ok (.iload_n 2, 1) := by decide +kernel
theorem dX6_payHop_25 : decode cX6_payHop 25 = .ok (.iload_n 3, 1) := by decide +kernel
theorem dX6_payHop_26 : decode cX6_payHop 26 = .ok (.iload 4, 2) := by decide +kernel
theorem dX6_payHop_28 : decode cX6_payHop 28 = .ok (.invokespecial 146, 3) := by decide +kernel
theorem dX6_payHop_31 : decode cX6_payHop 31 = .ok (.invokevirtual 149, 3) := by decide +kernel
theorem dX6_payHop_34 : decode cX6_payHop 34 = .ok (.pop, 1) := by decide +kernel
theorem dX6_payHop_35 : decode cX6_payHop 35 = .ok (.aload 5, 2) := by decide +kernel
theorem dX6_payHop_37 : decode cX6_payHop 37 = .ok (.aload_n 1, 1) := by decide +kernel
theorem dX6_payHop_38 : decode cX6_payHop 38 = .ok (.getfield 354, 3) := by decide +kernel
theorem dX6_payHop_41 : decode cX6_payHop 41 = .ok (.getfield 218, 3) := by decide +kernel
theorem dX6_payHop_44 : decode cX6_payHop 44 = .ok (.putfield 83, 3) := by decide +kernel
theorem dX6_payHop_47 : decode cX6_payHop 47 = .ok (.aload_n 1, 1) := by decide +kernel
theorem dX6_payHop_48 : decode cX6_payHop 48 = .ok (.getfield 354, 3) := by decide +kernel
theorem dX6_payHop_51 : decode cX6_payHop 51 = .ok (.aload 5, 2) := by decide +kernel
theorem dX6_payHop_53 : decode cX6_payHop 53 = .ok (.invokevirtual 199, 3) := by decide +kernel
theorem dX6_payHop_56 : decode cX6_payHop 56 = .ok (.return_, 1) := by decide +kernel
theorem dX6_account_0 : decode cX6_account 0 = .ok (.iload_n 1, 1) := by decide +kernel
theorem dX6_account_1 : decode cX6_account 1 = .ok (.invokestatic 262, 3) := by decide +kernel
theorem dX6_account_4 : decode cX6_account 4 = .ok (.ifCond .eq 14, 3) := by decide +kernel
theorem dX6_account_7 : decode cX6_account 7 = .ok (.aload_n 0, 1) := by decide +kernel
theorem dX6_account_8 : decode cX6_account 8 = .ok (.getfield 10, 3) := by decide +kernel
theorem dX6_account_11 : decode cX6_account 11 = .ok (.iload_n 1, 1) := by decide +kernel
theorem dX6_account_12 : decode cX6_account 12 = .ok (.invokevirtual 110, 3) := by decide +kernel
theorem dX6_account_15 : decode cX6_account 15 = .ok (.goto 4, 3) := by decide +kernel
theorem dX6_account_18 : decode cX6_account 18 = .ok (.iconst (-1), 1) := by decide +kernel
theorem dX6_account_19 : decode cX6_account 19 = .ok (.ireturn, 1) := by decide +kernel
theorem dX6_told_0 : decode cX6_told 0 = .ok (.aload_n 0, 1) := by decide +kernel
theorem dX6_told_1 : decode cX6_told 1 = .ok (.iload_n 1, 1) := by decide +kernel
theorem dX6_told_2 : decode cX6_told 2 = .ok (.invokevirtual 93, 3) := by decide +kernel
theorem dX6_told_5 : decode cX6_told 5 = .ok (.astore_n 3, 1) := by decide +kernel
theorem dX6_told_6 : decode cX6_told 6 = .ok (.aload_n 3, 1) := by decide +kernel
theorem dX6_told_7 : decode cX6_told 7 = .ok (.ifnonnull 5, 3) := by decide +kernel
theorem dX6_told_10 : decode cX6_told 10 = .ok (.iconst (-1), 1) := by decide +kernel
theorem dX6_told_11 : decode cX6_told 11 = .ok (.ireturn, 1) := by decide +kernel
theorem dX6_told_12 : decode cX6_told 12 = .ok (.aload_n 3, 1) := by decide +kernel
theorem dX6_told_13 : decode cX6_told 13 = .ok (.getfield 250, 3) := by decide +kernel
theorem dX6_told_16 : decode cX6_told 16 = .ok (.astore 4, 2) := by decide +kernel
theorem dX6_told_18 : decode cX6_told 18 = .ok (.iload_n 2, 1) := by decide +kernel
theorem dX6_told_19 : decode cX6_told 19 = .ok (.tableswitch 157 0 11 #[61, 66, 71, 76, 81, 89, 97, 102, 107, 122, 137, 142], 61) := by decide +kernel
theorem dX6_told_80 : decode cX6_told 80 = .ok (.aload_n 3, 1) := by decide +kernel
theorem dX6_told_81 : decode cX6_told 81 = .ok (.getfield 97, 3) := by decide +kernel
theorem dX6_told_84 : decode cX6_told 84 = .ok (.ireturn, 1) := by decide +kernel
theorem dX6_told_85 : decode cX6_told 85 = .ok (.aload_n 3, 1) := by decide +kernel
theorem dX6_told_86 : decode cX6_told 86 = .ok (.getfield 77, 3) := by decide +kernel
theorem dX6_told_89 : decode cX6_told 89 = .ok (.ireturn, 1) := by decide +kernel
theorem dX6_told_90 : decode cX6_told 90 = .ok (.aload_n 3, 1) := by decide +kernel
theorem dX6_told_91 : decode cX6_told 91 = .ok (.getfield 227, 3) := by decide +kernel
theorem dX6_told_94 : decode cX6_told 94 = .ok (.ireturn, 1) := by decide +kernel
theorem dX6_told_95 : decode cX6_told 95 = .ok (.aload_n 3, 1) := by decide +kernel
theorem dX6_told_96 : decode cX6_told 96 = .ok (.getfield 218, 3) := by decide +kernel
theorem dX6_told_99 : decode cX6_told 99 = .ok (.ireturn, 1) := by decide +kernel
theorem dX6_told_100 : decode cX6_told 100 = .ok (.aload_n 3, 1) := by decide +kernel
theorem dX6_told_101 : decode cX6_told 101 = .ok (.getfield 86, 3) := by decide +kernel
theorem dX6_told_104 : decode cX6_told 104 = .ok (.invokestatic 359, 3) := by decide +kernel
theorem dX6_told_107 : decode cX6_told 107 = .ok (.ireturn, 1) := by decide +kernel
theorem dX6_told_108 : decode cX6_told 108 = .ok (.aload_n 3, 1) := by decide +kernel
theorem dX6_told_109 : decode cX6_told 109 = .ok (.getfield 230, 3) := by decide +kernel
theorem dX6_told_112 : decode cX6_told 112 = .ok (.invokestatic 359, 3) := by decide +kernel
theorem dX6_told_115 : decode cX6_told 115 = .ok (.ireturn, 1) := by decide +kernel
theorem dX6_told_116 : decode cX6_told 116 = .ok (.aload_n 3, 1) := by decide +kernel
theorem dX6_told_117 : decode cX6_told 117 = .ok (.getfield 212, 3) := by decide +kernel
theorem dX6_told_120 : decode cX6_told 120 = .ok (.ireturn, 1) := by decide +kernel
theorem dX6_told_121 : decode cX6_told 121 = .ok (.aload_n 3, 1) := by decide +kernel
theorem dX6_told_122 : decode cX6_told 122 = .ok (.getfield 259, 3) := by decide +kernel
theorem dX6_told_125 : decode cX6_told 125 = .ok (.ireturn, 1) := by decide +kernel
theorem dX6_told_126 : decode cX6_told 126 = .ok (.aload 4, 2) := by decide +kernel
theorem dX6_told_128 : decode cX6_told 128 = .ok (.ifnonnull 7, 3) := by decide +kernel
theorem dX6_told_131 : decode cX6_told 131 = .ok (.iconst (-1), 1) := by decide +kernel
theorem dX6_told_132 : decode cX6_told 132 = .ok (.goto 8, 3) := by decide +kernel
theorem dX6_told_135 : decode cX6_told 135 = .ok (.aload 4, 2) := by decide +kernel
theorem dX6_told_137 : decode cX6_told 137 = .ok (.getfield 189, 3) := by decide +kernel
theorem dX6_told_140 : decode cX6_told 140 = .ok (.ireturn, 1) := by decide +kernel
theorem dX6_told_141 : decode cX6_told 141 = .ok (.aload 4, 2) := by decide +kernel
theorem dX6_told_143 : decode cX6_told 143 = .ok (.ifnonnull 7, 3) := by decide +kernel
theorem dX6_told_146 : decode cX6_told 146 = .ok (.iconst 0, 1) := by decide +kernel
theorem dX6_told_147 : decode cX6_told 147 = .ok (.goto 8, 3) := by decide +kernel
theorem dX6_told_150 : decode cX6_told 150 = .ok (.aload 4, 2) := by decide +kernel
theorem dX6_told_152 : decode cX6_told 152 = .ok (.getfield 182, 3) := by decide +kernel
theorem dX6_told_155 : decode cX6_told 155 = .ok (.ireturn, 1) := by decide +kernel
theorem dX6_told_156 : decode cX6_told 156 = .ok (.aload_n 3, 1) := by decide +kernel
theorem dX6_told_157 : decode cX6_told 157 = .ok (.getfield 253, 3) := by decide +kernel
theorem dX6_told_160 : decode cX6_told 160 = .ok (.ireturn, 1) := by decide +kernel
theorem dX6_told_161 : decode cX6_told 161 = .ok (.aload 4, 2) := by decide +kernel
theorem dX6_told_163 : decode cX6_told 163 = .ok (.ifnonnull 7, 3) := by decide +kernel
theorem dX6_told_166 : decode cX6_told 166 = .ok (.iconst 0, 1) := by decide +kernel
theorem dX6_told_167 : decode cX6_told 167 = .ok (.goto 8, 3) := by decide +kernel
theorem dX6_told_170 : decode cX6_told 170 = .ok (.aload 4, 2) := by decide +kernel
theorem dX6_told_172 : decode cX6_told 172 = .ok (.getfield 179, 3) := by decide +kernel
theorem dX6_told_175 : decode cX6_told 175 = .ok (.ireturn, 1) := by decide +kernel
theorem dX6_told_176 : decode cX6_told 176 = .ok (.iconst (-1), 1) := by decide +kernel
theorem dX6_told_177 : decode cX6_told 177 = .ok (.ireturn, 1) := by decide +kernel
theorem dX6_of_0 : decode cX6_of 0 = .ok (.aload_n 0, 1) := by decide +kernel
theorem dX6_of_1 : decode cX6_of 1 = .ok (.iload_n 1, 1) := by decide +kernel
theorem dX6_of_2 : decode cX6_of 2 = .ok (.invokevirtual 123, 3) := by decide +kernel
theorem dX6_of_5 : decode cX6_of 5 = .ok (.astore_n 3, 1) := by decide +kernel
theorem dX6_of_6 : decode cX6_of 6 = .ok (.aload_n 3, 1) := by decide +kernel
theorem dX6_of_7 : decode cX6_of 7 = .ok (.ifnonnull 5, 3) := by decide +kernel
theorem dX6_of_10 : decode cX6_of 10 = .ok (.iconst (-1), 1) := by decide +kernel
theorem dX6_of_11 : decode cX6_of 11 = .ok (.ireturn, 1) := by decide +kernel
theorem dX6_of_12 : decode cX6_of 12 = .ok (.aload_n 3, 1) := by decide +kernel
theorem dX6_of_13 : decode cX6_of 13 = .ok (.getfield 170, 3) := by decide +kernel
theorem dX6_of_16 : decode cX6_of 16 = .ok (.astore 4, 2) := by decide +kernel
theorem dX6_of_18 : decode cX6_of 18 = .ok (.iload_n 2, 1) := by decide +kernel
theorem dX6_of_19 : decode cX6_of 19 = .ok (.tableswitch 154 0 9 #[53, 61, 66, 71, 76, 89, 94, 109, 124, 139], 53) := by decide +kernel
theorem dX6_of_72 : decode cX6_of 72 = .ok (.aload_n 3, 1) := by decide +kernel
theorem dX6_of_73 : decode cX6_of 73 = .ok (.getfield 195, 3) := by decide +kernel
theorem dX6_of_76 : decode cX6_of 76 = .ok (.getfield 90, 3) := by decide +kernel
theorem dX6_of_79 : decode cX6_of 79 = .ok (.ireturn, 1) := by decide +kernel
theorem dX6_of_80 : decode cX6_of 80 = .ok (.aload_n 3, 1) := by decide +kernel
theorem dX6_of_81 : decode cX6_of 81 = .ok (.getfield 363, 3) := by decide +kernel
theorem dX6_of_84 : decode cX6_of 84 = .ok (.ireturn, 1) := by decide +kernel
theorem dX6_of_85 : decode cX6_of 85 = .ok (.aload_n 3, 1) := by decide +kernel
theorem dX6_of_86 : decode cX6_of 86 = .ok (.getfield 83, 3) := by decide +kernel
theorem dX6_of_89 : decode cX6_of 89 = .ok (.ireturn, 1) := by decide +kernel
theorem dX6_of_90 : decode cX6_of 90 = .ok (.aload_n 3, 1) := by decide +kernel
theorem dX6_of_91 : decode cX6_of 91 = .ok (.getfield 215, 3) := by decide +kernel
theorem dX6_of_94 : decode cX6_of 94 = .ok (.ireturn, 1) := by decide +kernel
theorem dX6_of_95 : decode cX6_of 95 = .ok (.aload_n 3, 1) := by decide +kernel
theorem dX6_of_96 : decode cX6_of 96 = .ok (.invokevirtual 202, 3) := by decide +kernel
theorem dX6_of_99 : decode cX6_of 99 = .ok (.ifCond .eq 7, 3) := by decide +kernel
theorem dX6_of_102 : decode cX6_of 102 = .ok (.iconst 1, 1) := by decide +kernel
theorem dX6_of_103 : decode cX6_of 103 = .ok (.goto 4, 3) := by decide +kernel
theorem dX6_of_106 : decode cX6_of 106 = .ok (.iconst 0, 1) := by decide +kernel
theorem dX6_of_107 : decode cX6_of 107 = .ok (.ireturn, 1) := by decide +kernel
theorem dX6_of_108 : decode cX6_of 108 = .ok (.aload_n 3, 1) := by decide +kernel
theorem dX6_of_109 : decode cX6_of 109 = .ok (.invokevirtual 366, 3) := by decide +kernel
theorem dX6_of_112 : decode cX6_of 112 = .ok (.ireturn, 1) := by decide +kernel
theorem dX6_of_113 : decode cX6_of 113 = .ok (.aload 4, 2) := by decide +kernel
theorem dX6_of_115 : decode cX6_of 115 = .ok (.ifnonnull 7, 3) := by decide +kernel
theorem dX6_of_118 : decode cX6_of 118 = .ok (.iconst (-1), 1) := by decide +kernel
theorem dX6_of_119 : decode cX6_of 119 = .ok (.goto 8, 3) := by decide +kernel
theorem dX6_of_122 : decode cX6_of 122 = .ok (.aload 4, 2) := by decide +kernel
theorem dX6_of_124 : decode cX6_of 124 = .ok (.getfield 189, 3) := by decide +kernel
theorem dX6_of_127 : decode cX6_of 127 = .ok (.ireturn, 1) := by decide +kernel
theorem dX6_of_128 : decode cX6_of 128 = .ok (.aload 4, 2) := by decide +kernel
theorem dX6_of_130 : decode cX6_of 130 = .ok (.ifnonnull 7, 3) := by decide +kernel
theorem dX6_of_133 : decode cX6_of 133 = .ok (.iconst (-1), 1) := by decide +kernel
theorem dX6_of_134 : decode cX6_of 134 = .ok (.goto 8, 3) := by decide +kernel
theorem dX6_of_137 : decode cX6_of 137 = .ok (.aload 4, 2) := by decide +kernel
theorem dX6_of_139 : decode cX6_of 139 = .ok (.getfield 319, 3) := by decide +kernel
theorem dX6_of_142 : decode cX6_of 142 = .ok (.ireturn, 1) := by decide +kernel
theorem dX6_of_143 : decode cX6_of 143 = .ok (.aload 4, 2) := by decide +kernel
theorem dX6_of_145 : decode cX6_of 145 = .ok (.ifnonnull 7, 3) := by decide +kernel
theorem dX6_of_148 : decode cX6_of 148 = .ok (.iconst 0, 1) := by decide +kernel
theorem dX6_of_149 : decode cX6_of 149 = .ok (.goto 8, 3) := by decide +kernel
theorem dX6_of_152 : decode cX6_of 152 = .ok (.aload 4, 2) := by decide +kernel
theorem dX6_of_154 : decode cX6_of 154 = .ok (.getfield 179, 3) := by decide +kernel
theorem dX6_of_157 : decode cX6_of 157 = .ok (.ireturn, 1) := by decide +kernel
theorem dX6_of_158 : decode cX6_of 158 = .ok (.aload 4, 2) := by decide +kernel
theorem dX6_of_160 : decode cX6_of 160 = .ok (.ifnonnull 7, 3) := by decide +kernel
theorem dX6_of_163 : decode cX6_of 163 = .ok (.iconst 0, 1) := by decide +kernel
theorem dX6_of_164 : decode cX6_of 164 = .ok (.goto 8, 3) := by decide +kernel
theorem dX6_of_167 : decode cX6_of 167 = .ok (.aload 4, 2) := by decide +kernel
theorem dX6_of_169 : decode cX6_of 169 = .ok (.getfield 182, 3) := by decide +kernel
theorem dX6_of_172 : decode cX6_of 172 = .ok (.ireturn, 1) := by decide +kernel
theorem dX6_of_173 : decode cX6_of 173 = .ok (.iconst (-1), 1) := by decide +kernel
theorem dX6_of_174 : decode cX6_of 174 = .ok (.ireturn, 1) := by decide +kernel
theorem dX6_share_0 : decode cX6_share 0 = .ok (.aload_n 0, 1) := by decide +kernel
theorem dX6_share_1 : decode cX6_share 1 = .ok (.iload_n 1, 1) := by decide +kernel
theorem dX6_share_2 : decode cX6_share 2 = .ok (.invokevirtual 123, 3) := by decide +kernel
theorem dX6_share_5 : decode cX6_share 5 = .ok (.astore 4, 2) := by decide +kernel
theorem dX6_share_7 : decode cX6_share 7 = .ok (.aload 4, 2) := by decide +kernel
theorem dX6_share_9 : decode cX6_share 9 = .ok (.ifnull 12, 3) := by decide +kernel
theorem dX6_share_12 : decode cX6_share 12 = .ok (.aload 4, 2) := by decide +kernel
theorem dX6_share_14 : decode cX6_share 14 = .ok (.iload_n 2, 1) := by decide +kernel
theorem dX6_share_15 : decode cX6_share 15 = .ok (.invokevirtual 127, 3) := by decide +kernel
theorem dX6_share_18 : decode cX6_share 18 = .ok (.ifCond .ne 5, 3) := by decide +kernel
theorem dX6_share_21 : decode cX6_share 21 = .ok (.iconst (-1), 1) := by decide +kernel
theorem dX6_share_22 : decode cX6_share 22 = .ok (.ireturn, 1) := by decide +kernel
theorem dX6_share_23 : decode cX6_share 23 = .ok (.iload_n 3, 1) := by decide +kernel
theorem dX6_share_24 : decode cX6_share 24 = .ok (.lookupswitch 48 #[(0, 28), (1, 38)], 28) := by decide +kernel
theorem dX6_share_52 : decode cX6_share 52 = .ok (.aload 4, 2) := by decide +kernel
theorem dX6_share_54 : decode cX6_share 54 = .ok (.getfield 80, 3) := by decide +kernel
theorem dX6_share_57 : decode cX6_share 57 = .ok (.iload_n 2, 1) := by decide +kernel
theorem dX6_share_58 : decode cX6_share 58 = .ok (.invokevirtual 110, 3) := by decide +kernel
theorem dX6_share_61 : decode cX6_share 61 = .ok (.ireturn, 1) := by decide +kernel
theorem dX6_share_62 : decode cX6_share 62 = .ok (.aload 4, 2) := by decide +kernel
theorem dX6_share_64 : decode cX6_share 64 = .ok (.getfield 192, 3) := by decide +kernel
theorem dX6_share_67 : decode cX6_share 67 = .ok (.iload_n 2, 1) := by decide +kernel
theorem dX6_share_68 : decode cX6_share 68 = .ok (.invokevirtual 110, 3) := by decide +kernel
theorem dX6_share_71 : decode cX6_share 71 = .ok (.ireturn, 1) := by decide +kernel
theorem dX6_share_72 : decode cX6_share 72 = .ok (.iconst (-1), 1) := by decide +kernel
theorem dX6_share_73 : decode cX6_share 73 = .ok (.ireturn, 1) := by decide +kernel
theorem dX6_locked_0 : decode cX6_locked 0 = .ok (.aload_n 0, 1) := by decide +kernel
theorem dX6_locked_1 : decode cX6_locked 1 = .ok (.iload_n 1, 1) := by decide +kernel
theorem dX6_locked_2 : decode cX6_locked 2 = .ok (.invokevirtual 123, 3) := by decide +kernel
theorem dX6_locked_5 : decode cX6_locked 5 = .ok (.astore 4, 2) := by decide +kernel
theorem dX6_locked_7 : decode cX6_locked 7 = .ok (.aload 4, 2) := by decide +kernel
theorem dX6_locked_9 : decode cX6_locked 9 = .ok (.ifnonnull 5, 3) := by decide +kernel
theorem dX6_locked_12 : decode cX6_locked 12 = .ok (.iconst (-1), 1) := by decide +kernel
theorem dX6_locked_13 : decode cX6_locked 13 = .ok (.ireturn, 1) := by decide +kernel
theorem dX6_locked_14 : decode cX6_locked 14 = .ok (.aload 4, 2) := by decide +kernel
theorem dX6_locked_16 : decode cX6_locked 16 = .ok (.iload_n 2, 1) := by decide +kernel
theorem dX6_locked_17 : decode cX6_locked 17 = .ok (.invokevirtual 153, 3) := by decide +kernel
theorem dX6_locked_20 : decode cX6_locked 20 = .ok (.astore 5, 2) := by decide +kernel
theorem dX6_locked_22 : decode cX6_locked 22 = .ok (.aload 5, 2) := by decide +kernel
theorem dX6_locked_24 : decode cX6_locked 24 = .ok (.ifnonnull 5, 3) := by decide +kernel
theorem dX6_locked_27 : decode cX6_locked 27 = .ok (.iconst (-1), 1) := by decide +kernel
theorem dX6_locked_28 : decode cX6_locked 28 = .ok (.ireturn, 1) := by decide +kernel
theorem dX6_locked_29 : decode cX6_locked 29 = .ok (.iload_n 3, 1) := by decide +kernel
theorem dX6_locked_30 : decode cX6_locked 30 = .ok (.tableswitch 64 0 4 #[34, 40, 46, 52, 58], 34) := by decide +kernel
theorem dX6_locked_64 : decode cX6_locked 64 = .ok (.aload 5, 2) := by decide +kernel
theorem dX6_locked_66 : decode cX6_locked 66 = .ok (.getfield 164, 3) := by decide +kernel
theorem dX6_locked_69 : decode cX6_locked 69 = .ok (.ireturn, 1) := by decide +kernel
theorem dX6_locked_70 : decode cX6_locked 70 = .ok (.aload 5, 2) := by decide +kernel
theorem dX6_locked_72 : decode cX6_locked 72 = .ok (.getfield 161, 3) := by decide +kernel
theorem dX6_locked_75 : decode cX6_locked 75 = .ok (.ireturn, 1) := by decide +kernel
theorem dX6_locked_76 : decode cX6_locked 76 = .ok (.aload 5, 2) := by decide +kernel
theorem dX6_locked_78 : decode cX6_locked 78 = .ok (.getfield 167, 3) := by decide +kernel
theorem dX6_locked_81 : decode cX6_locked 81 = .ok (.ireturn, 1) := by decide +kernel
theorem dX6_locked_82 : decode cX6_locked 82 = .ok (.aload 5, 2) := by decide +kernel
theorem dX6_locked_84 : decode cX6_locked 84 = .ok (.getfield 288, 3) := by decide +kernel
theorem dX6_locked_87 : decode cX6_locked 87 = .ok (.ireturn, 1) := by decide +kernel
theorem dX6_locked_88 : decode cX6_locked 88 = .ok (.aload 5, 2) := by decide +kernel
theorem dX6_locked_90 : decode cX6_locked 90 = .ok (.getfield 256, 3) := by decide +kernel
theorem dX6_locked_93 : decode cX6_locked 93 = .ok (.ireturn, 1) := by decide +kernel
theorem dX6_locked_94 : decode cX6_locked 94 = .ok (.iconst (-1), 1) := by decide +kernel
theorem dX6_locked_95 : decode cX6_locked 95 = .ok (.ireturn, 1) := by decide +kernel
theorem dX6_knows_0 : decode cX6_knows 0 = .ok (.aload_n 0, 1) := by decide +kernel
theorem dX6_knows_1 : decode cX6_knows 1 = .ok (.iload_n 1, 1) := by decide +kernel
theorem dX6_knows_2 : decode cX6_knows 2 = .ok (.invokevirtual 136, 3) := by decide +kernel
theorem dX6_knows_5 : decode cX6_knows 5 = .ok (.ifCond .eq 12, 3) := by decide +kernel
theorem dX6_knows_8 : decode cX6_knows 8 = .ok (.aload_n 0, 1) := by decide +kernel
theorem dX6_knows_9 : decode cX6_knows 9 = .ok (.getfield 28, 3) := by decide +kernel
theorem dX6_knows_12 : decode cX6_knows 12 = .ok (.iload_n 1, 1) := by decide +kernel
theorem dX6_knows_13 : decode cX6_knows 13 = .ok (.iaload, 1) := by decide +kernel
theorem dX6_knows_14 : decode cX6_knows 14 = .ok (.goto 4, 3) := by decide +kernel
theorem dX6_knows_17 : decode cX6_knows 17 = .ok (.iconst (-1), 1) := by decide +kernel
theorem dX6_knows_18 : decode cX6_knows 18 = .ok (.ireturn, 1) := by decide +kernel
theorem dX6_count_0 : decode cX6_count 0 = .ok (.iload_n 1, 1) := by decide +kernel
theorem dX6_count_1 : decode cX6_count 1 = .ok (.tableswitch 78 0 6 #[43, 48, 53, 58, 63, 68, 73], 43) := by decide +kernel
theorem dX6_count_44 : decode cX6_count 44 = .ok (.aload_n 0, 1) := by decide +kernel
theorem dX6_count_45 : decode cX6_count 45 = .ok (.getfield 52, 3) := by decide +kernel
theorem dX6_count_48 : decode cX6_count 48 = .ok (.ireturn, 1) := by decide +kernel
theorem dX6_count_49 : decode cX6_count 49 = .ok (.aload_n 0, 1) := by decide +kernel
theorem dX6_count_50 : decode cX6_count 50 = .ok (.getfield 104, 3) := by decide +kernel
theorem dX6_count_53 : decode cX6_count 53 = .ok (.ireturn, 1) := by decide +kernel
theorem dX6_count_54 : decode cX6_count 54 = .ok (.aload_n 0, 1) := by decide +kernel
theorem dX6_count_55 : decode cX6_count 55 = .ok (.getfield 274, 3) := by decide +kernel
theorem dX6_count_58 : decode cX6_count 58 = .ok (.ireturn, 1) := by decide +kernel
theorem dX6_count_59 : decode cX6_count 59 = .ok (.aload_n 0, 1) := by decide +kernel
theorem dX6_count_60 : decode cX6_count 60 = .ok (.getfield 224, 3) := by decide +kernel
theorem dX6_count_63 : decode cX6_count 63 = .ok (.ireturn, 1) := by decide +kernel
theorem dX6_count_64 : decode cX6_count 64 = .ok (.aload_n 0, 1) := by decide +kernel
theorem dX6_count_65 : decode cX6_count 65 = .ok (.getfield 329, 3) := by decide +kernel
theorem dX6_count_68 : decode cX6_count 68 = .ok (.ireturn, 1) := by decide +kernel
theorem dX6_count_69 : decode cX6_count 69 = .ok (.aload_n 0, 1) := by decide +kernel
theorem dX6_count_70 : decode cX6_count 70 = .ok (.getfield 305, 3) := by decide +kernel
theorem dX6_count_73 : decode cX6_count 73 = .ok (.ireturn, 1) := by decide +kernel
theorem dX6_count_74 : decode cX6_count 74 = .ok (.aload_n 0, 1) := by decide +kernel
theorem dX6_count_75 : decode cX6_count 75 = .ok (.invokevirtual 369, 3) := by decide +kernel
theorem dX6_count_78 : decode cX6_count 78 = .ok (.ireturn, 1) := by decide +kernel
theorem dX6_count_79 : decode cX6_count 79 = .ok (.iconst (-1), 1) := by decide +kernel
theorem dX6_count_80 : decode cX6_count 80 = .ok (.ireturn, 1) := by decide +kernel
theorem dX6_allThereIs_0 : decode cX6_allThereIs 0 = .ok (.aload_n 0, 1) := by decide +kernel
theorem dX6_allThereIs_1 : decode cX6_allThereIs 1 = .ok (.getfield 10, 3) := by decide +kernel
theorem dX6_allThereIs_4 : decode cX6_allThereIs 4 = .ok (.invokevirtual 372, 3) := by decide +kernel
theorem dX6_allThereIs_7 : decode cX6_allThereIs 7 = .ok (.istore_n 1, 1) := by decide +kernel
theorem dX6_allThereIs_8 : decode cX6_allThereIs 8 = .ok (.iconst 0, 1) := by decide +kernel
theorem dX6_allThereIs_9 : decode cX6_allThereIs 9 = .ok (.istore_n 2, 1) := by decide +kernel
theorem dX6_allThereIs_10 : decode cX6_allThereIs 10 = .ok (.iload_n 2, 1) := by decide +kernel
theorem dX6_allThereIs_11 : decode cX6_allThereIs 11 = .ok (.aload_n 0, 1) := by decide +kernel
theorem dX6_allThereIs_12 : decode cX6_allThereIs 12 = .ok (.getfield 52, 3) := by decide +kernel
theorem dX6_allThereIs_15 : decode cX6_allThereIs 15 = .ok (.if_icmp .ge 26, 3) := by decide +kernel
theorem dX6_allThereIs_18 : decode cX6_allThereIs 18 = .ok (.aload_n 0, 1) := by decide +kernel
theorem dX6_allThereIs_19 : decode cX6_allThereIs 19 = .ok (.iload_n 2, 1) := by decide +kernel
theorem dX6_allThereIs_20 : decode cX6_allThereIs 20 = .ok (.invokevirtual 93, 3) := by decide +kernel
theorem dX6_allThereIs_23 : decode cX6_allThereIs 23 = .ok (.astore_n 3, 1) := by decide +kernel
theorem dX6_allThereIs_24 : decode cX6_allThereIs 24 = .ok (.aload_n 3, 1) := by decide +kernel
theorem dX6_allThereIs_25 : decode cX6_allThereIs 25 = .ok (.ifnull 10, 3) := by decide +kernel
theorem dX6_allThereIs_28 : decode cX6_allThereIs 28 = .ok (.iload_n 1, 1) := by decide +kernel
theorem dX6_allThereIs_29 : decode cX6_allThereIs 29 = .ok (.aload_n 3, 1) := by decide +kernel
theorem dX6_allThereIs_30 : decode cX6_allThereIs 30 = .ok (.getfield 77, 3) := by decide +kernel
theorem dX6_allThereIs_33 : decode cX6_allThereIs 33 = .ok (.iadd, 1) := by decide +kernel
theorem dX6_allThereIs_34 : decode cX6_allThereIs 34 = .ok (.istore_n 1, 1) := by decide +kernel
theorem dX6_allThereIs_35 : decode cX6_allThereIs 35 = .ok (.iinc 2 1, 3) := by decide +kernel
theorem dX6_allThereIs_38 : decode cX6_allThereIs 38 = .ok (.goto (-28), 3) := by decide +kernel
theorem dX6_allThereIs_41 : decode cX6_allThereIs 41 = .ok (.iload_n 1, 1) := by decide +kernel
theorem dX6_allThereIs_42 : decode cX6_allThereIs 42 = .ok (.ireturn, 1) := by decide +kernel
theorem dX6_channelAt_0 : decode cX6_channelAt 0 = .ok (.iload_n 1, 1) := by decide +kernel
theorem dX6_channelAt_1 : decode cX6_channelAt 1 = .ok (.ifCond .lt 29, 3) := by decide +kernel
theorem dX6_channelAt_4 : decode cX6_channelAt 4 = .ok (.iload_n 1, 1) := by decide +kernel
theorem dX6_channelAt_5 : decode cX6_channelAt 5 = .ok (.aload_n 0, 1) := by decide +kernel
theorem dX6_channelAt_6 : decode cX6_channelAt 6 = .ok (.getfield 52, 3) := by decide +kernel
theorem dX6_channelAt_9 : decode cX6_channelAt 9 = .ok (.if_icmp .ge 21, 3) := by decide +kernel
theorem dX6_channelAt_12 : decode cX6_channelAt 12 = .ok (.iload_n 1, 1) := by decide +kernel
theorem dX6_channelAt_13 : decode cX6_channelAt 13 = .ok (.aload_n 0, 1) := by decide +kernel
theorem dX6_channelAt_14 : decode cX6_channelAt 14 = .ok (.getfield 18, 3) := by decide +kernel
theorem dX6_channelAt_17 : decode cX6_channelAt 17 = .ok (.arraylength, 1) := by decide +kernel
theorem dX6_channelAt_18 : decode cX6_channelAt 18 = .ok (.if_icmp .ge 12, 3) := by decide +kernel
theorem dX6_channelAt_21 : decode cX6_channelAt 21 = .ok (.aload_n 0, 1) := by decide +kernel
theorem dX6_channelAt_22 : decode cX6_channelAt 22 = .ok (.getfield 18, 3) := by decide +kernel
theorem dX6_channelAt_25 : decode cX6_channelAt 25 = .ok (.iload_n 1, 1) := by decide +kernel
theorem dX6_channelAt_26 : decode cX6_channelAt 26 = .ok (.aaload, 1) := by decide +kernel
theorem dX6_channelAt_27 : decode cX6_channelAt 27 = .ok (.goto 4, 3) := by decide +kernel
theorem dX6_channelAt_30 : decode cX6_channelAt 30 = .ok (.aconst_null, 1) := by decide +kernel
theorem dX6_channelAt_31 : decode cX6_channelAt 31 = .ok (.areturn, 1) := by decide +kernel
theorem dX6_stateAt_0 : decode cX6_stateAt 0 = .ok (.iload_n 1, 1) := by decide +kernel
theorem dX6_stateAt_1 : decode cX6_stateAt 1 = .ok (.ifCond .lt 29, 3) := by decide +kernel
theorem dX6_stateAt_4 : decode cX6_stateAt 4 = .ok (.iload_n 1, 1) := by decide +kernel
theorem dX6_stateAt_5 : decode cX6_stateAt 5 = .ok (.aload_n 0, 1) := by decide +kernel
theorem dX6_stateAt_6 : decode cX6_stateAt 6 = .ok (.getfield 104, 3) := by decide +kernel
theorem dX6_stateAt_9 : decode cX6_stateAt 9 = .ok (.if_icmp .ge 21, 3) := by decide +kernel
theorem dX6_stateAt_12 : decode cX6_stateAt 12 = .ok (.iload_n 1, 1) := by decide +kernel
theorem dX6_stateAt_13 : decode cX6_stateAt 13 = .ok (.aload_n 0, 1) := by decide +kernel
theorem dX6_stateAt_14 : decode cX6_stateAt 14 = .ok (.getfield 24, 3) := by decide +kernel
theorem dX6_stateAt_17 : decode cX6_stateAt 17 = .ok (.arraylength, 1) := by decide +kernel
theorem dX6_stateAt_18 : decode cX6_stateAt 18 = .ok (.if_icmp .ge 12, 3) := by decide +kernel
theorem dX6_stateAt_21 : decode cX6_stateAt 21 = .ok (.aload_n 0, 1) := by decide +kernel
theorem dX6_stateAt_22 : decode cX6_stateAt 22 = .ok (.getfield 24, 3) := by decide +kernel
theorem dX6_stateAt_25 : decode cX6_stateAt 25 = .ok (.iload_n 1, 1) := by decide +kernel
theorem dX6_stateAt_26 : decode cX6_stateAt 26 = .ok (.aaload, 1) := by decide +kernel
theorem dX6_stateAt_27 : decode cX6_stateAt 27 = .ok (.goto 4, 3) := by decide +kernel
theorem dX6_stateAt_30 : decode cX6_stateAt 30 = .ok (.aconst_null, 1) := by decide +kernel
theorem dX6_stateAt_31 : decode cX6_stateAt 31 = .ok (.areturn, 1) := by decide +kernel
theorem dX6_hopAt_0 : decode cX6_hopAt 0 = .ok (.iload_n 1, 1) := by decide +kernel
theorem dX6_hopAt_1 : decode cX6_hopAt 1 = .ok (.ifCond .lt 21, 3) := by decide +kernel
theorem dX6_hopAt_4 : decode cX6_hopAt 4 = .ok (.iload_n 1, 1) := by decide +kernel
theorem dX6_hopAt_5 : decode cX6_hopAt 5 = .ok (.aload_n 0, 1) := by decide +kernel
theorem dX6_hopAt_6 : decode cX6_hopAt 6 = .ok (.getfield 34, 3) := by decide +kernel
theorem dX6_hopAt_9 : decode cX6_hopAt 9 = .ok (.arraylength, 1) := by decide +kernel
theorem dX6_hopAt_10 : decode cX6_hopAt 10 = .ok (.if_icmp .ge 12, 3) := by decide +kernel
theorem dX6_hopAt_13 : decode cX6_hopAt 13 = .ok (.aload_n 0, 1) := by decide +kernel
theorem dX6_hopAt_14 : decode cX6_hopAt 14 = .ok (.getfield 34, 3) := by decide +kernel
theorem dX6_hopAt_17 : decode cX6_hopAt 17 = .ok (.iload_n 1, 1) := by decide +kernel
theorem dX6_hopAt_18 : decode cX6_hopAt 18 = .ok (.aaload, 1) := by decide +kernel
theorem dX6_hopAt_19 : decode cX6_hopAt 19 = .ok (.goto 4, 3) := by decide +kernel
theorem dX6_hopAt_22 : decode cX6_hopAt 22 = .ok (.aconst_null, 1) := by decide +kernel
theorem dX6_hopAt_23 : decode cX6_hopAt 23 = .ok (.areturn, 1) := by decide +kernel
theorem dX6_isSecret_0 : decode cX6_isSecret 0 = .ok (.iload_n 1, 1) := by decide +kernel
theorem dX6_isSecret_1 : decode cX6_isSecret 1 = .ok (.ifCond .lt 24, 3) := by decide +kernel
theorem dX6_isSecret_4 : decode cX6_isSecret 4 = .ok (.iload_n 1, 1) := by decide +kernel
theorem dX6_isSecret_5 : decode cX6_isSecret 5 = .ok (.aload_n 0, 1) := by decide +kernel
theorem dX6_isSecret_6 : decode cX6_isSecret 6 = .ok (.getfield 274, 3) := by decide +kernel
theorem dX6_isSecret_9 : decode cX6_isSecret 9 = .ok (.if_icmp .ge 16, 3) := by decide +kernel
theorem dX6_isSecret_12 : decode cX6_isSecret 12 = .ok (.iload_n 1, 1) := by decide +kernel
theorem dX6_isSecret_13 : decode cX6_isSecret 13 = .ok (.aload_n 0, 1) := by decide +kernel
theorem dX6_isSecret_14 : decode cX6_isSecret 14 = .ok (.getfield 28, 3) := by decide +kernel
theorem dX6_isSecret_17 : decode cX6_isSecret 17 = .ok (.arraylength, 1) := by decide +kernel
theorem dX6_isSecret_18 : decode cX6_isSecret 18 = .ok (.if_icmp .ge 7, 3) := by decide +kernel
theorem dX6_isSecret_21 : decode cX6_isSecret 21 = .ok (.iconst 1, 1) := by decide +kernel
theorem dX6_isSecret_22 : decode cX6_isSecret 22 = .ok (.goto 4, 3) := by decide +kernel
theorem dX6_isSecret_25 : decode cX6_isSecret 25 = .ok (.iconst 0, 1) := by decide +kernel
theorem dX6_isSecret_26 : decode cX6_isSecret 26 = .ok (.ireturn, 1) := by decide +kernel
theorem dX6_numberOf_0 : decode cX6_numberOf 0 = .ok (.aload_n 0, 1) := by decide +kernel
theorem dX6_numberOf_1 : decode cX6_numberOf 1 = .ok (.ifnonnull 7, 3) := by decide +kernel
theorem dX6_numberOf_4 : decode cX6_numberOf 4 = .ok (.iconst (-1), 1) := by decide +kernel
theorem dX6_numberOf_5 : decode cX6_numberOf 5 = .ok (.goto 7, 3) := by decide +kernel
theorem dX6_numberOf_8 : decode cX6_numberOf 8 = .ok (.aload_n 0, 1) := by decide +kernel
theorem dX6_numberOf_9 : decode cX6_numberOf 9 = .ok (.getfield 103, 3) := by decide +kernel
theorem dX6_numberOf_12 : decode cX6_numberOf 12 = .ok (.ireturn, 1) := by decide +kernel
theorem dX6_isParty_0 : decode cX6_isParty 0 = .ok (.iload_n 0, 1) := by decide +kernel
theorem dX6_isParty_1 : decode cX6_isParty 1 = .ok (.ifCond .lt 13, 3) := by decide +kernel
theorem dX6_isParty_4 : decode cX6_isParty 4 = .ok (.iload_n 0, 1) := by decide +kernel
theorem dX6_isParty_5 : decode cX6_isParty 5 = .ok (.bipush 6, 2) := by decide +kernel
theorem dX6_isParty_7 : decode cX6_isParty 7 = .ok (.if_icmp .ge 7, 3) := by decide +kernel
theorem dX6_isParty_10 : decode cX6_isParty 10 = .ok (.iconst 1, 1) := by decide +kernel
theorem dX6_isParty_11 : decode cX6_isParty 11 = .ok (.goto 4, 3) := by decide +kernel
theorem dX6_isParty_14 : decode cX6_isParty 14 = .ok (.iconst 0, 1) := by decide +kernel
theorem dX6_isParty_15 : decode cX6_isParty 15 = .ok (.ireturn, 1) := by decide +kernel
theorem dX6_isPlace_0 : decode cX6_isPlace 0 = .ok (.iload_n 0, 1) := by decide +kernel
theorem dX6_isPlace_1 : decode cX6_isPlace 1 = .ok (.ifCond .lt 12, 3) := by decide +kernel
theorem dX6_isPlace_4 : decode cX6_isPlace 4 = .ok (.iload_n 0, 1) := by decide +kernel
theorem dX6_isPlace_5 : decode cX6_isPlace 5 = .ok (.iconst 3, 1) := by decide +kernel
theorem dX6_isPlace_6 : decode cX6_isPlace 6 = .ok (.if_icmp .ge 7, 3) := by decide +kernel
theorem dX6_isPlace_9 : decode cX6_isPlace 9 = .ok (.iconst 1, 1) := by decide +kernel
theorem dX6_isPlace_10 : decode cX6_isPlace 10 = .ok (.goto 4, 3) := by decide +kernel
theorem dX6_isPlace_13 : decode cX6_isPlace 13 = .ok (.iconst 0, 1) := by decide +kernel
theorem dX6_isPlace_14 : decode cX6_isPlace 14 = .ok (.ireturn, 1) := by decide +kernel
theorem dX6_isIn_0 : decode cX6_isIn 0 = .ok (.iload_n 1, 1) := by decide +kernel
theorem dX6_isIn_1 : decode cX6_isIn 1 = .ok (.ifCond .lt 21, 3) := by decide +kernel
theorem dX6_isIn_4 : decode cX6_isIn 4 = .ok (.iload_n 1, 1) := by decide +kernel
theorem dX6_isIn_5 : decode cX6_isIn 5 = .ok (.bipush 6, 2) := by decide +kernel
theorem dX6_isIn_7 : decode cX6_isIn 7 = .ok (.if_icmp .ge 15, 3) := by decide +kernel
theorem dX6_isIn_10 : decode cX6_isIn 10 = .ok (.iload_n 0, 1) := by decide +kernel
theorem dX6_isIn_11 : decode cX6_isIn 11 = .ok (.iconst 1, 1) := by decide +kernel
theorem dX6_isIn_12 : decode cX6_isIn 12 = .ok (.iload_n 1, 1) := by decide +kernel
theorem dX6_isIn_13 : decode cX6_isIn 13 = .ok (.ishl, 1) := by decide +kernel
theorem dX6_isIn_14 : decode cX6_isIn 14 = .ok (.iand, 1) := by decide +kernel
theorem dX6_isIn_15 : decode cX6_isIn 15 = .ok (.ifCond .eq 7, 3) := by decide +kernel
theorem dX6_isIn_18 : decode cX6_isIn 18 = .ok (.iconst 1, 1) := by decide +kernel
theorem dX6_isIn_19 : decode cX6_isIn 19 = .ok (.goto 4, 3) := by decide +kernel
theorem dX6_isIn_22 : decode cX6_isIn 22 = .ok (.iconst 0, 1) := by decide +kernel
theorem dX6_isIn_23 : decode cX6_isIn 23 = .ok (.ireturn, 1) := by decide +kernel
theorem dX6_isWithin_0 : decode cX6_isWithin 0 = .ok (.iload_n 0, 1) := by decide +kernel
theorem dX6_isWithin_1 : decode cX6_isWithin 1 = .ok (.iload_n 1, 1) := by decide +kernel
theorem dX6_isWithin_2 : decode cX6_isWithin 2 = .ok (.if_icmp .lt 12, 3) := by decide +kernel
theorem dX6_isWithin_5 : decode cX6_isWithin 5 = .ok (.iload_n 0, 1) := by decide +kernel
theorem dX6_isWithin_6 : decode cX6_isWithin 6 = .ok (.iload_n 2, 1) := by decide +kernel
theorem dX6_isWithin_7 : decode cX6_isWithin 7 = .ok (.if_icmp .gt 7, 3) := by decide +kernel
theorem dX6_isWithin_10 : decode cX6_isWithin 10 = .ok (.iconst 1, 1) := by decide +kernel
theorem dX6_isWithin_11 : decode cX6_isWithin 11 = .ok (.goto 4, 3) := by decide +kernel
theorem dX6_isWithin_14 : decode cX6_isWithin 14 = .ok (.iconst 0, 1) := by decide +kernel
theorem dX6_isWithin_15 : decode cX6_isWithin 15 = .ok (.ireturn, 1) := by decide +kernel
