theorem dX8_init_0 : decode cX8_init 0 = .ok (.aload_n 0, 1) := by decide +kernel
theorem dX8_init_1 : decode cX8_init 1 = .ok (.invokespecial 1, 3) := by decide +kernel
theorem dX8_init_4 : decode cX8_init 4 = .ok (.aload_n 0, 1) := by decide +kernel
theorem dX8_init_5 : decode cX8_init 5 = .ok (.sipush 610, 3) := by decide +kernel
theorem dX8_init_8 : decode cX8_init 8 = .ok (.newarray .int, 2) := by decide +kernel
theorem dX8_init_10 : decode cX8_init 10 = .ok (.putfield 7, 3) := by decide +kernel
theorem dX8_init_13 : decode cX8_init 13 = .ok (.aload_n 0, 1) := by decide +kernel
theorem dX8_init_14 : decode cX8_init 14 = .ok (.sipush 1600, 3) := by decide +kernel
theorem dX8_init_17 : decode cX8_init 17 = .ok (.newarray .byte, 2) := by decide +kernel
theorem dX8_init_19 : decode cX8_init 19 = .ok (.putfield 13, 3) := by decide +kernel
theorem dX8_init_22 : decode cX8_init 22 = .ok (.aload_n 0, 1) := by decide +kernel
theorem dX8_init_23 : decode cX8_init 23 = .ok (.iconst 3, 1) := by decide +kernel
theorem dX8_init_24 : decode cX8_init 24 = .ok (.newarray .boolean, 2) := by decide +kernel
theorem dX8_init_26 : decode cX8_init 26 = .ok (.putfield 17, 3) := by decide +kernel
theorem dX8_init_29 : decode cX8_init 29 = .ok (.aload_n 0, 1) := by decide +kernel
theorem dX8_init_30 : decode cX8_init 30 = .ok (.sipush 952, 3) := by decide +kernel
theorem dX8_init_33 : decode cX8_init 33 = .ok (.newarray .int, 2) := by decide +kernel
theorem dX8_init_35 : decode cX8_init 35 = .ok (.putfield 21, 3) := by decide +kernel
theorem dX8_init_38 : decode cX8_init 38 = .ok (.aload_n 0, 1) := by decide +kernel
theorem dX8_init_39 : decode cX8_init 39 = .ok (.bipush 119, 2) := by decide +kernel
theorem dX8_init_41 : decode cX8_init 41 = .ok (.newarray .int, 2) := by decide +kernel
theorem dX8_init_43 : decode cX8_init 43 = .ok (.putfield 24, 3) := by decide +kernel
theorem dX8_init_46 : decode cX8_init 46 = .ok (.aload_n 0, 1) := by decide +kernel
theorem dX8_init_47 : decode cX8_init 47 = .ok (.bipush 6, 2) := by decide +kernel
theorem dX8_init_49 : decode cX8_init 49 = .ok (.newarray .int, 2) := by decide +kernel
theorem dX8_init_51 : decode cX8_init 51 = .ok (.putfield 27, 3) := by decide +kernel
theorem dX8_init_54 : decode cX8_init 54 = .ok (.aload_n 0, 1) := by decide +kernel
theorem dX8_init_55 : decode cX8_init 55 = .ok (.bipush 40, 2) := by decide +kernel
theorem dX8_init_57 : decode cX8_init 57 = .ok (.newarray .int, 2) := by decide +kernel
theorem dX8_init_59 : decode cX8_init 59 = .ok (.putfield 30, 3) := by decide +kernel
theorem dX8_init_62 : decode cX8_init 62 = .ok (.aload_n 0, 1) := by decide +kernel
theorem dX8_init_63 : decode cX8_init 63 = .ok (.bipush 40, 2) := by decide +kernel
theorem dX8_init_65 : decode cX8_init 65 = .ok (.newarray .int, 2) := by decide +kernel
theorem dX8_init_67 : decode cX8_init 67 = .ok (.putfield 33, 3) := by decide +kernel
theorem dX8_init_70 : decode cX8_init 70 = .ok (.aload_n 0, 1) := by decide +kernel
theorem dX8_init_71 : decode cX8_init 71 = .ok (.bipush 40, 2) := by decide +kernel
theorem dX8_init_73 : decode cX8_init 73 = .ok (.newarray .int, 2) := by decide +kernel
theorem dX8_init_75 : decode cX8_init 75 = .ok (.putfield 36, 3) := by decide +kernel
theorem dX8_init_78 : decode cX8_init 78 = .ok (.aload_n 0, 1) := by decide +kernel
theorem dX8_init_79 : decode cX8_init 79 = .ok (.bipush 40, 2) := by decide +kernel
theorem dX8_init_81 : decode cX8_init 81 = .ok (.newarray .int, 2) := by decide +kernel
theorem dX8_init_83 : decode cX8_init 83 = .ok (.putfield 39, 3) := by decide +kernel
theorem dX8_init_86 : decode cX8_init 86 = .ok (.aload_n 0, 1) := by decide +kernel
theorem dX8_init_87 : decode cX8_init 87 = .ok (.bipush 40, 2) := by decide +kernel
theorem dX8_init_89 : decode cX8_init 89 = .ok (.newarray .int, 2) := by decide +kernel
theorem dX8_init_91 : decode cX8_init 91 = .ok (.putfield 42, 3) := by decide +kernel
theorem dX8_init_94 : decode cX8_init 94 = .ok (.aload_n 0, 1) := by decide +kernel
theorem dX8_init_95 : decode cX8_init 95 = .ok (.bipush 40, 2) := by decide +kernel
theorem dX8_init_97 : decode cX8_init 97 = .ok (.newarray .int, 2) := by decide +kernel
theorem dX8_init_99 : decode cX8_init 99 = .ok (.putfield 45, 3) := by decide +kernel
theorem dX8_init_102 : decode cX8_init 102 = .ok (.aload_n 0, 1) := by decide +kernel
theorem dX8_init_103 : decode cX8_init 103 = .ok (.bipush 8, 2) := by decide +kernel
theorem dX8_init_105 : decode cX8_init 105 = .ok (.newarray .int, 2) := by decide +kernel
theorem dX8_init_107 : decode cX8_init 107 = .ok (.putfield 48, 3) := by decide +kernel
theorem dX8_init_110 : decode cX8_init 110 = .ok (.aload_n 0, 1) := by decide +kernel
theorem dX8_init_111 : decode cX8_init 111 = .ok (.bipush 8, 2) := by decide +kernel
theorem dX8_init_113 : decode cX8_init 113 = .ok (.newarray .int, 2) := by decide +kernel
theorem dX8_init_115 : decode cX8_init 115 = .ok (.putfield 51, 3) := by decide +kernel
theorem dX8_init_118 : decode cX8_init 118 = .ok (.aload_n 0, 1) := by decide +kernel
theorem dX8_init_119 : decode cX8_init 119 = .ok (.bipush 8, 2) := by decide +kernel
theorem dX8_init_121 : decode cX8_init 121 = .ok (.newarray .int, 2) := by decide +kernel
theorem dX8_init_123 : decode cX8_init 123 = .ok (.putfield 54, 3) := by decide +kernel
theorem dX8_init_126 : decode cX8_init 126 = .ok (.aload_n 0, 1) := by decide +kernel
theorem dX8_init_127 : decode cX8_init 127 = .ok (.bipush 8, 2) := by decide +kernel
theorem dX8_init_129 : decode cX8_init 129 = .ok (.newarray .int, 2) := by decide +kernel
theorem dX8_init_131 : decode cX8_init 131 = .ok (.putfield 57, 3) := by decide +kernel
theorem dX8_init_134 : decode cX8_init 134 = .ok (.aload_n 0, 1) := by decide +kernel
theorem dX8_init_135 : decode cX8_init 135 = .ok (.bipush 8, 2) := by decide +kernel
theorem dX8_init_137 : decode cX8_init 137 = .ok (.newarray .int, 2) := by decide +kernel
theorem dX8_init_139 : decode cX8_init 139 = .ok (.putfield 60, 3) := by decide +kernel
theorem dX8_init_142 : decode cX8_init 142 = .ok (.aload_n 0, 1) := by decide +kernel
theorem dX8_init_143 : decode cX8_init 143 = .ok (.bipush 6, 2) := by decide +kernel
theorem dX8_init_145 : decode cX8_init 145 = .ok (.newarray .int, 2) := by decide +kernel
theorem dX8_init_147 : decode cX8_init 147 = .ok (.putfield 63, 3) := by decide +kernel
theorem dX8_init_150 : decode cX8_init 150 = .ok (.aload_n 0, 1) := by decide +kernel
theorem dX8_init_151 : decode cX8_init 151 = .ok (.bipush 6, 2) := by decide +kernel
theorem dX8_init_153 : decode cX8_init 153 = .ok (.newarray .boolean, 2) := by decide +kernel
theorem dX8_init_155 : decode cX8_init 155 = .ok (.putfield 66, 3) := by decide +kernel
theorem dX8_init_158 : decode cX8_init 158 = .ok (.aload_n 0, 1) := by decide +kernel
theorem dX8_init_159 : decode cX8_init 159 = .ok (.bipush 6, 2) := by decide +kernel
theorem dX8_init_161 : decode cX8_init 161 = .ok (.newarray .int, 2) := by decide +kernel
theorem dX8_init_163 : decode cX8_init 163 = .ok (.putfield 69, 3) := by decide +kernel
theorem dX8_init_166 : decode cX8_init 166 = .ok (.aload_n 0, 1) := by decide +kernel
theorem dX8_init_167 : decode cX8_init 167 = .ok (.bipush 6, 2) := by decide +kernel
theorem dX8_init_169 : decode cX8_init 169 = .ok (.newarray .int, 2) := by decide +kernel
theorem dX8_init_171 : decode cX8_init 171 = .ok (.putfield 72, 3) := by decide +kernel
theorem dX8_init_174 : decode cX8_init 174 = .ok (.aload_n 0, 1) := by decide +kernel
theorem dX8_init_175 : decode cX8_init 175 = .ok (.bipush 54, 2) := by decide +kernel
theorem dX8_init_177 : decode cX8_init 177 = .ok (.newarray .int, 2) := by decide +kernel
theorem dX8_init_179 : decode cX8_init 179 = .ok (.putfield 75, 3) := by decide +kernel
theorem dX8_init_182 : decode cX8_init 182 = .ok (.aload_n 0, 1) := by decide +kernel
theorem dX8_init_183 : decode cX8_init 183 = .ok (.bipush 54, 2) := by decide +kernel
theorem dX8_init_185 : decode cX8_init 185 = .ok (.newarray .int, 2) := by decide +kernel
theorem dX8_init_187 : decode cX8_init 187 = .ok (.putfield 78, 3) := by decide +kernel
theorem dX8_init_190 : decode cX8_init 190 = .ok (.aload_n 0, 1) := by decide +kernel
theorem dX8_init_191 : decode cX8_init 191 = .ok (.bipush 119, 2) := by decide +kernel
theorem dX8_init_193 : decode cX8_init 193 = .ok (.newarray .int, 2) := by decide +kernel
theorem dX8_init_195 : decode cX8_init 195 = .ok (.putfield 81, 3) := by decide +kernel
theorem dX8_init_198 : decode cX8_init 198 = .ok (.aload_n 0, 1) := by decide +kernel
theorem dX8_init_199 : decode cX8_init 199 = .ok (.getfield 7, 3) := by decide +kernel
theorem dX8_init_202 : decode cX8_init 202 = .ok (.iconst 2, 1) := by decide +kernel
theorem dX8_init_203 : decode cX8_init 203 = .ok (.bipush 10, 2) := by decide +kernel
theorem dX8_init_205 : decode cX8_init 205 = .ok (.iastore, 1) := by decide +kernel
theorem dX8_init_206 : decode cX8_init 206 = .ok (.aload_n 0, 1) := by decide +kernel
theorem dX8_init_207 : decode cX8_init 207 = .ok (.getfield 7, 3) := by decide +kernel
theorem dX8_init_210 : decode cX8_init 210 = .ok (.iconst 3, 1) := by decide +kernel
theorem dX8_init_211 : decode cX8_init 211 = .ok (.iconst 2, 1) := by decide +kernel
theorem dX8_init_212 : decode cX8_init 212 = .ok (.iastore, 1) := by decide +kernel
theorem dX8_init_213 : decode cX8_init 213 = .ok (.aload_n 0, 1) := by decide +kernel
theorem dX8_init_214 : decode cX8_init 214 = .ok (.getfield 7, 3) := by decide +kernel
theorem dX8_init_217 : decode cX8_init 217 = .ok (.bipush 121, 2) := by decide +kernel
theorem dX8_init_219 : decode cX8_init 219 = .ok (.iconst (-1), 1) := by decide +kernel
theorem dX8_init_220 : decode cX8_init 220 = .ok (.iastore, 1) := by decide +kernel
theorem dX8_init_221 : decode cX8_init 221 = .ok (.return_, 1) := by decide +kernel
theorem dX8_thrown_0 : decode cX8_thrown 0 = .ok (.aload_n 0, 1) := by decide +kernel
theorem dX8_thrown_1 : decode cX8_thrown 1 = .ok (.getfield 84, 3) := by decide +kernel
theorem dX8_thrown_4 : decode cX8_thrown 4 = .ok (.ireturn, 1) := by decide +kernel
theorem dX8_in_0 : decode cX8_in 0 = .ok (.iload_n 0, 1) := by decide +kernel
theorem dX8_in_1 : decode cX8_in 1 = .ok (.iload_n 1, 1) := by decide +kernel
theorem dX8_in_2 : decode cX8_in 2 = .ok (.if_icmp .lt 12, 3) := by decide +kernel
theorem dX8_in_5 : decode cX8_in 5 = .ok (.iload_n 0, 1) := by decide +kernel
theorem dX8_in_6 : decode cX8_in 6 = .ok (.iload_n 2, 1) := by decide +kernel
theorem dX8_in_7 : decode cX8_in 7 = .ok (.if_icmp .gt 7, 3) := by decide +kernel
theorem dX8_in_10 : decode cX8_in 10 = .ok (.iconst 1, 1) := by decide +kernel
theorem dX8_in_11 : decode cX8_in 11 = .ok (.goto 4, 3) := by decide +kernel
theorem dX8_in_14 : decode cX8_in 14 = .ok (.iconst 0, 1) := by decide +kernel
theorem dX8_in_15 : decode cX8_in 15 = .ok (.ireturn, 1) := by decide +kernel
theorem dX8_isDoor_0 : decode cX8_isDoor 0 = .ok (.iload_n 1, 1) := by decide +kernel
theorem dX8_isDoor_1 : decode cX8_isDoor 1 = .ok (.iconst 0, 1) := by decide +kernel
theorem dX8_isDoor_2 : decode cX8_isDoor 2 = .ok (.aload_n 0, 1) := by decide +kernel
theorem dX8_isDoor_3 : decode cX8_isDoor 3 = .ok (.getfield 7, 3) := by decide +kernel
theorem dX8_isDoor_6 : decode cX8_isDoor 6 = .ok (.iconst 0, 1) := by decide +kernel
theorem dX8_isDoor_7 : decode cX8_isDoor 7 = .ok (.iaload, 1) := by decide +kernel
theorem dX8_isDoor_8 : decode cX8_isDoor 8 = .ok (.iconst 1, 1) := by decide +kernel
theorem dX8_isDoor_9 : decode cX8_isDoor 9 = .ok (.isub, 1) := by decide +kernel
theorem dX8_isDoor_10 : decode cX8_isDoor 10 = .ok (.invokestatic 88, 3) := by decide +kernel
theorem dX8_isDoor_13 : decode cX8_isDoor 13 = .ok (.ireturn, 1) := by decide +kernel
theorem dX8_isTruck_0 : decode cX8_isTruck 0 = .ok (.iload_n 1, 1) := by decide +kernel
theorem dX8_isTruck_1 : decode cX8_isTruck 1 = .ok (.iconst 0, 1) := by decide +kernel
theorem dX8_isTruck_2 : decode cX8_isTruck 2 = .ok (.aload_n 0, 1) := by decide +kernel
theorem dX8_isTruck_3 : decode cX8_isTruck 3 = .ok (.getfield 7, 3) := by decide +kernel
theorem dX8_isTruck_6 : decode cX8_isTruck 6 = .ok (.iconst 1, 1) := by decide +kernel
theorem dX8_isTruck_7 : decode cX8_isTruck 7 = .ok (.iaload, 1) := by decide +kernel
theorem dX8_isTruck_8 : decode cX8_isTruck 8 = .ok (.iconst 1, 1) := by decide +kernel
theorem dX8_isTruck_9 : decode cX8_isTruck 9 = .ok (.isub, 1) := by decide +kernel
theorem dX8_isTruck_10 : decode cX8_isTruck 10 = .ok (.invokestatic 88, 3) := by decide +kernel
theorem dX8_isTruck_13 : decode cX8_isTruck 13 = .ok (.ireturn, 1) := by decide +kernel
theorem dX8_isOutDoor_0 : decode cX8_isOutDoor 0 = .ok (.aload_n 0, 1) := by decide +kernel
theorem dX8_isOutDoor_1 : decode cX8_isOutDoor 1 = .ok (.getfield 7, 3) := by decide +kernel
theorem dX8_isOutDoor_4 : decode cX8_isOutDoor 4 = .ok (.iconst 5, 1) := by decide +kernel
theorem dX8_isOutDoor_5 : decode cX8_isOutDoor 5 = .ok (.iconst 2, 1) := by decide +kernel
theorem dX8_isOutDoor_6 : decode cX8_isOutDoor 6 = .ok (.iload_n 1, 1) := by decide +kernel
theorem dX8_isOutDoor_7 : decode cX8_isOutDoor 7 = .ok (.imul, 1) := by decide +kernel
theorem dX8_isOutDoor_8 : decode cX8_isOutDoor 8 = .ok (.iadd, 1) := by decide +kernel
theorem dX8_isOutDoor_9 : decode cX8_isOutDoor 9 = .ok (.iaload, 1) := by decide +kernel
theorem dX8_isOutDoor_10 : decode cX8_isOutDoor 10 = .ok (.iconst 1, 1) := by decide +kernel
theorem dX8_isOutDoor_11 : decode cX8_isOutDoor 11 = .ok (.if_icmp .ne 7, 3) := by decide +kernel
theorem dX8_isOutDoor_14 : decode cX8_isOutDoor 14 = .ok (.iconst 1, 1) := by decide +kernel
theorem dX8_isOutDoor_15 : decode cX8_isOutDoor 15 = .ok (.goto 4, 3) := by decide +kernel
theorem dX8_isOutDoor_18 : decode cX8_isOutDoor 18 = .ok (.iconst 0, 1) := by decide +kernel
theorem dX8_isOutDoor_19 : decode cX8_isOutDoor 19 = .ok (.ireturn, 1) := by decide +kernel
theorem dX8_of_0 : decode cX8_of 0 = .ok (.aload_n 0, 1) := by decide +kernel
theorem dX8_of_1 : decode cX8_of 1 = .ok (.getfield 7, 3) := by decide +kernel
theorem dX8_of_4 : decode cX8_of 4 = .ok (.bipush 17, 2) := by decide +kernel
theorem dX8_of_6 : decode cX8_of 6 = .ok (.bipush 6, 2) := by decide +kernel
theorem dX8_of_8 : decode cX8_of 8 = .ok (.iload_n 1, 1) := by decide +kernel
theorem dX8_of_9 : decode cX8_of 9 = .ok (.imul, 1) := by decide +kernel
theorem dX8_of_10 : decode cX8_of 10 = .ok (.iadd, 1) := by decide +kernel
theorem dX8_of_11 : decode cX8_of 11 = .ok (.iload_n 2, 1) := by decide +kernel
theorem dX8_of_12 : decode cX8_of 12 = .ok (.iadd, 1) := by decide +kernel
theorem dX8_of_13 : decode cX8_of 13 = .ok (.iaload, 1) := by decide +kernel
theorem dX8_of_14 : decode cX8_of 14 = .ok (.ireturn, 1) := by decide +kernel
theorem dX8_isOut_0 : decode cX8_isOut 0 = .ok (.aload_n 0, 1) := by decide +kernel
theorem dX8_isOut_1 : decode cX8_isOut 1 = .ok (.iload_n 1, 1) := by decide +kernel
theorem dX8_isOut_2 : decode cX8_isOut 2 = .ok (.iconst 0, 1) := by decide +kernel
theorem dX8_isOut_3 : decode cX8_isOut 3 = .ok (.invokevirtual 92, 3) := by decide +kernel
theorem dX8_isOut_6 : decode cX8_isOut 6 = .ok (.iconst 1, 1) := by decide +kernel
theorem dX8_isOut_7 : decode cX8_isOut 7 = .ok (.if_icmp .ne 7, 3) := by decide +kernel
theorem dX8_isOut_10 : decode cX8_isOut 10 = .ok (.iconst 1, 1) := by decide +kernel
theorem dX8_isOut_11 : decode cX8_isOut 11 = .ok (.goto 4, 3) := by decide +kernel
theorem dX8_isOut_14 : decode cX8_isOut 14 = .ok (.iconst 0, 1) := by decide +kernel
theorem dX8_isOut_15 : decode cX8_isOut 15 = .ok (.ireturn, 1) := by decide +kernel
theorem dX8_rowMany_0 : decode cX8_rowMany 0 = .ok (.aload_n 0, 1) := by decide +kernel
theorem dX8_rowMany_1 : decode cX8_rowMany 1 = .ok (.getfield 7, 3) := by decide +kernel
theorem dX8_rowMany_4 : decode cX8_rowMany 4 = .ok (.bipush 65, 2) := by decide +kernel
theorem dX8_rowMany_6 : decode cX8_rowMany 6 = .ok (.iload_n 1, 1) := by decide +kernel
theorem dX8_rowMany_7 : decode cX8_rowMany 7 = .ok (.iadd, 1) := by decide +kernel
theorem dX8_rowMany_8 : decode cX8_rowMany 8 = .ok (.iaload, 1) := by decide +kernel
theorem dX8_rowMany_9 : decode cX8_rowMany 9 = .ok (.ireturn, 1) := by decide +kernel
theorem dX8_rowAt_0 : decode cX8_rowAt 0 = .ok (.aload_n 0, 1) := by decide +kernel
theorem dX8_rowAt_1 : decode cX8_rowAt 1 = .ok (.getfield 7, 3) := by decide +kernel
theorem dX8_rowAt_4 : decode cX8_rowAt 4 = .ok (.bipush 71, 2) := by decide +kernel
theorem dX8_rowAt_6 : decode cX8_rowAt 6 = .ok (.bipush 8, 2) := by decide +kernel
theorem dX8_rowAt_8 : decode cX8_rowAt 8 = .ok (.iload_n 1, 1) := by decide +kernel
theorem dX8_rowAt_9 : decode cX8_rowAt 9 = .ok (.imul, 1) := by decide +kernel
theorem dX8_rowAt_10 : decode cX8_rowAt 10 = .ok (.iadd, 1) := by decide +kernel
theorem dX8_rowAt_11 : decode cX8_rowAt 11 = .ok (.iload_n 2, 1) := by decide +kernel
theorem dX8_rowAt_12 : decode cX8_rowAt 12 = .ok (.iadd, 1) := by decide +kernel
theorem dX8_rowAt_13 : decode cX8_rowAt 13 = .ok (.iaload, 1) := by decide +kernel
theorem dX8_rowAt_14 : decode cX8_rowAt 14 = .ok (.ireturn, 1) := by decide +kernel
theorem dX8_travelOf_0 : decode cX8_travelOf 0 = .ok (.aload_n 0, 1) := by decide +kernel
theorem dX8_travelOf_1 : decode cX8_travelOf 1 = .ok (.getfield 7, 3) := by decide +kernel
theorem dX8_travelOf_4 : decode cX8_travelOf 4 = .ok (.iconst 5, 1) := by decide +kernel
theorem dX8_travelOf_5 : decode cX8_travelOf 5 = .ok (.iconst 2, 1) := by decide +kernel
theorem dX8_travelOf_6 : decode cX8_travelOf 6 = .ok (.iload_n 1, 1) := by decide +kernel
theorem dX8_travelOf_7 : decode cX8_travelOf 7 = .ok (.imul, 1) := by decide +kernel
theorem dX8_travelOf_8 : decode cX8_travelOf 8 = .ok (.iadd, 1) := by decide +kernel
theorem dX8_travelOf_9 : decode cX8_travelOf 9 = .ok (.iconst 1, 1) := by decide +kernel
theorem dX8_travelOf_10 : decode cX8_travelOf 10 = .ok (.iadd, 1) := by decide +kernel
theorem dX8_travelOf_11 : decode cX8_travelOf 11 = .ok (.iaload, 1) := by decide +kernel
theorem dX8_travelOf_12 : decode cX8_travelOf 12 = .ok (.aload_n 0, 1) := by decide +kernel
theorem dX8_travelOf_13 : decode cX8_travelOf 13 = .ok (.getfield 7, 3) := by decide +kernel
theorem dX8_travelOf_16 : decode cX8_travelOf 16 = .ok (.iconst 5, 1) := by decide +kernel
theorem dX8_travelOf_17 : decode cX8_travelOf 17 = .ok (.iconst 2, 1) := by decide +kernel
theorem dX8_travelOf_18 : decode cX8_travelOf 18 = .ok (.iload_n 2, 1) := by decide +kernel
theorem dX8_travelOf_19 : decode cX8_travelOf 19 = .ok (.imul, 1) := by decide +kernel
theorem dX8_travelOf_20 : decode cX8_travelOf 20 = .ok (.iadd, 1) := by decide +kernel
theorem dX8_travelOf_21 : decode cX8_travelOf 21 = .ok (.iconst 1, 1) := by decide +kernel
theorem dX8_travelOf_22 : decode cX8_travelOf 22 = .ok (.iadd, 1) := by decide +kernel
theorem dX8_travelOf_23 : decode cX8_travelOf 23 = .ok (.iaload, 1) := by decide +kernel
theorem dX8_travelOf_24 : decode cX8_travelOf 24 = .ok (.isub, 1) := by decide +kernel
theorem dX8_travelOf_25 : decode cX8_travelOf 25 = .ok (.istore_n 3, 1) := by decide +kernel
theorem dX8_travelOf_26 : decode cX8_travelOf 26 = .ok (.iload_n 3, 1) := by decide +kernel
theorem dX8_travelOf_27 : decode cX8_travelOf 27 = .ok (.ifCond .ge 8, 3) := by decide +kernel
theorem dX8_travelOf_30 : decode cX8_travelOf 30 = .ok (.iload_n 3, 1) := by decide +kernel
theorem dX8_travelOf_31 : decode cX8_travelOf 31 = .ok (.ineg, 1) := by decide +kernel
theorem dX8_travelOf_32 : decode cX8_travelOf 32 = .ok (.goto 4, 3) := by decide +kernel
theorem dX8_travelOf_35 : decode cX8_travelOf 35 = .ok (.iload_n 3, 1) := by decide +kernel
theorem dX8_travelOf_36 : decode cX8_travelOf 36 = .ok (.bipush 9, 2) := by decide +kernel
theorem dX8_travelOf_38 : decode cX8_travelOf 38 = .ok (.iadd, 1) := by decide +kernel
theorem dX8_travelOf_39 : decode cX8_travelOf 39 = .ok (.bipush 10, 2) := by decide +kernel
theorem dX8_travelOf_41 : decode cX8_travelOf 41 = .ok (.idiv, 1) := by decide +kernel
theorem dX8_travelOf_42 : decode cX8_travelOf 42 = .ok (.ireturn, 1) := by decide +kernel
theorem dX8_type_0 : decode cX8_type 0 = .ok (.aload_n 0, 1) := by decide +kernel
theorem dX8_type_1 : decode cX8_type 1 = .ok (.iconst 0, 1) := by decide +kernel
theorem dX8_type_2 : decode cX8_type 2 = .ok (.putfield 84, 3) := by decide +kernel
theorem dX8_type_5 : decode cX8_type 5 = .ok (.iconst 0, 1) := by decide +kernel
theorem dX8_type_6 : decode cX8_type 6 = .ok (.istore_n 3, 1) := by decide +kernel
theorem dX8_type_7 : decode cX8_type 7 = .ok (.iload_n 3, 1) := by decide +kernel
theorem dX8_type_8 : decode cX8_type 8 = .ok (.bipush 8, 2) := by decide +kernel
theorem dX8_type_10 : decode cX8_type 10 = .ok (.if_icmp .ge 27, 3) := by decide +kernel
theorem dX8_type_13 : decode cX8_type 13 = .ok (.lload_n 1, 1) := by decide +kernel
theorem dX8_type_14 : decode cX8_type 14 = .ok (.bipush 56, 2) := by decide +kernel
theorem dX8_type_16 : decode cX8_type 16 = .ok (.bipush 8, 2) := by decide +kernel
theorem dX8_type_18 : decode cX8_type 18 = .ok (.iload_n 3, 1) := by decide +kernel
theorem dX8_type_19 : decode cX8_type 19 = .ok (.imul, 1) := by decide +kernel
theorem dX8_type_20 : decode cX8_type 20 = .ok (.isub, 1) := by decide +kernel
theorem dX8_type_21 : decode cX8_type 21 = .ok (.lshr, 1) := by decide +kernel
theorem dX8_type_22 : decode cX8_type 22 = .ok (.ldc2_w 96, 3) := by decide +kernel
theorem dX8_type_25 : decode cX8_type 25 = .ok (.land, 1) := by decide +kernel
theorem dX8_type_26 : decode cX8_type 26 = .ok (.lconst 0, 1) := by decide +kernel
theorem dX8_type_27 : decode cX8_type 27 = .ok (.lcmp, 1) := by decide +kernel
theorem dX8_type_28 : decode cX8_type 28 = .ok (.ifCond .eq 9, 3) := by decide +kernel
theorem dX8_type_31 : decode cX8_type 31 = .ok (.iinc 3 1, 3) := by decide +kernel
theorem dX8_type_34 : decode cX8_type 34 = .ok (.goto (-27), 3) := by decide +kernel
theorem dX8_type_37 : decode cX8_type 37 = .ok (.aload_n 0, 1) := by decide +kernel
theorem dX8_type_38 : decode cX8_type 38 = .ok (.getfield 7, 3) := by decide +kernel
theorem dX8_type_41 : decode cX8_type 41 = .ok (.bipush 119, 2) := by decide +kernel
theorem dX8_type_43 : decode cX8_type 43 = .ok (.iaload, 1) := by decide +kernel
theorem dX8_type_44 : decode cX8_type 44 = .ok (.iload_n 3, 1) := by decide +kernel
theorem dX8_type_45 : decode cX8_type 45 = .ok (.iadd, 1) := by decide +kernel
theorem dX8_type_46 : decode cX8_type 46 = .ok (.sipush 400, 3) := by decide +kernel
theorem dX8_type_49 : decode cX8_type 49 = .ok (.if_icmp .le 5, 3) := by decide +kernel
theorem dX8_type_52 : decode cX8_type 52 = .ok (.iconst (-1), 1) := by decide +kernel
theorem dX8_type_53 : decode cX8_type 53 = .ok (.ireturn, 1) := by decide +kernel
theorem dX8_type_54 : decode cX8_type 54 = .ok (.iconst 0, 1) := by decide +kernel
theorem dX8_type_55 : decode cX8_type 55 = .ok (.istore 4, 2) := by decide +kernel
theorem dX8_type_57 : decode cX8_type 57 = .ok (.iload 4, 2) := by decide +kernel
theorem dX8_type_59 : decode cX8_type 59 = .ok (.iload_n 3, 1) := by decide +kernel
theorem dX8_type_60 : decode cX8_type 60 = .ok (.if_icmp .ge 44, 3) := by decide +kernel
theorem dX8_type_63 : decode cX8_type 63 = .ok (.aload_n 0, 1) := by decide +kernel
theorem dX8_type_64 : decode cX8_type 64 = .ok (.getfield 13, 3) := by decide +kernel
theorem dX8_type_67 : decode cX8_type 67 = .ok (.aload_n 0, 1) := by decide +kernel
theorem dX8_type_68 : decode cX8_type 68 = .ok (.getfield 7, 3) := by decide +kernel
theorem dX8_type_71 : decode cX8_type 71 = .ok (.bipush 119, 2) := by decide +kernel
theorem dX8_type_73 : decode cX8_type 73 = .ok (.iaload, 1) := by decide +kernel
theorem dX8_type_74 : decode cX8_type 74 = .ok (.lload_n 1, 1) := by decide +kernel
theorem dX8_type_75 : decode cX8_type 75 = .ok (.bipush 56, 2) := by decide +kernel
theorem dX8_type_77 : decode cX8_type 77 = .ok (.bipush 8, 2) := by decide +kernel
theorem dX8_type_79 : decode cX8_type 79 = .ok (.iload 4, 2) := by decide +kernel
theorem dX8_type_81 : decode cX8_type 81 = .ok (.imul, 1) := by decide +kernel
theorem dX8_type_82 : decode cX8_type 82 = .ok (.isub, 1) := by decide +kernel
theorem dX8_type_83 : decode cX8_type 83 = .ok (.lshr, 1) := by decide +kernel
theorem dX8_type_84 : decode cX8_type 84 = .ok (.l2i, 1) := by decide +kernel
theorem dX8_type_85 : decode cX8_type 85 = .ok (.i2b, 1) := by decide +kernel
theorem dX8_type_86 : decode cX8_type 86 = .ok (.bastore, 1) := by decide +kernel
theorem dX8_type_87 : decode cX8_type 87 = .ok (.aload_n 0, 1) := by decide +kernel
theorem dX8_type_88 : decode cX8_type 88 = .ok (.getfield 7, 3) := by decide +kernel
theorem dX8_type_91 : decode cX8_type 91 = .ok (.bipush 119, 2) := by decide +kernel
theorem dX8_type_93 : decode cX8_type 93 = .ok (.dup2, 1) := by decide +kernel
theorem dX8_type_94 : decode cX8_type 94 = .ok (.iaload, 1) := by decide +kernel
theorem dX8_type_95 : decode cX8_type 95 = .ok (.iconst 1, 1) := by decide +kernel
theorem dX8_type_96 : decode cX8_type 96 = .ok (.iadd, 1) := by decide +kernel
theorem dX8_type_97 : decode cX8_type 97 = .ok (.iastore, 1) := by decide +kernel
theorem dX8_type_98 : decode cX8_type 98 = .ok (.iinc 4 1, 3) := by decide +kernel
theorem dX8_type_101 : decode cX8_type 101 = .ok (.goto (-44), 3) := by decide +kernel
theorem dX8_type_104 : decode cX8_type 104 = .ok (.aload_n 0, 1) := by decide +kernel
theorem dX8_type_105 : decode cX8_type 105 = .ok (.getfield 7, 3) := by decide +kernel
theorem dX8_type_108 : decode cX8_type 108 = .ok (.bipush 119, 2) := by decide +kernel
theorem dX8_type_110 : decode cX8_type 110 = .ok (.iaload, 1) := by decide +kernel
theorem dX8_type_111 : decode cX8_type 111 = .ok (.ireturn, 1) := by decide +kernel
theorem dX8_see_0 : decode cX8_see 0 = .ok (.aload_n 0, 1) := by decide +kernel
theorem dX8_see_1 : decode cX8_see 1 = .ok (.getfield 98, 3) := by decide +kernel
theorem dX8_see_4 : decode cX8_see 4 = .ok (.aload_n 0, 1) := by decide +kernel
theorem dX8_see_5 : decode cX8_see 5 = .ok (.getfield 101, 3) := by decide +kernel
theorem dX8_see_8 : decode cX8_see 8 = .ok (.if_icmp .ge 19, 3) := by decide +kernel
theorem dX8_see_11 : decode cX8_see 11 = .ok (.aload_n 0, 1) := by decide +kernel
theorem dX8_see_12 : decode cX8_see 12 = .ok (.getfield 13, 3) := by decide +kernel
theorem dX8_see_15 : decode cX8_see 15 = .ok (.aload_n 0, 1) := by decide +kernel
theorem dX8_see_16 : decode cX8_see 16 = .ok (.getfield 98, 3) := by decide +kernel
theorem dX8_see_19 : decode cX8_see 19 = .ok (.baload, 1) := by decide +kernel
theorem dX8_see_20 : decode cX8_see 20 = .ok (.sipush 255, 3) := by decide +kernel
theorem dX8_see_23 : decode cX8_see 23 = .ok (.iand, 1) := by decide +kernel
theorem dX8_see_24 : decode cX8_see 24 = .ok (.goto 4, 3) := by decide +kernel
theorem dX8_see_27 : decode cX8_see 27 = .ok (.iconst (-1), 1) := by decide +kernel
theorem dX8_see_28 : decode cX8_see 28 = .ok (.ireturn, 1) := by decide +kernel
theorem dX8_token_0 : decode cX8_token 0 = .ok (.aload_n 0, 1) := by decide +kernel
theorem dX8_token_1 : decode cX8_token 1 = .ok (.invokevirtual 104, 3) := by decide +kernel
theorem dX8_token_4 : decode cX8_token 4 = .ok (.bipush 10, 2) := by decide +kernel
theorem dX8_token_6 : decode cX8_token 6 = .ok (.if_icmp .eq 12, 3) := by decide +kernel
theorem dX8_token_9 : decode cX8_token 9 = .ok (.aload_n 0, 1) := by decide +kernel
theorem dX8_token_10 : decode cX8_token 10 = .ok (.invokevirtual 104, 3) := by decide +kernel
theorem dX8_token_13 : decode cX8_token 13 = .ok (.bipush 32, 2) := by decide +kernel
theorem dX8_token_15 : decode cX8_token 15 = .ok (.if_icmp .ne 16, 3) := by decide +kernel
theorem dX8_token_18 : decode cX8_token 18 = .ok (.aload_n 0, 1) := by decide +kernel
theorem dX8_token_19 : decode cX8_token 19 = .ok (.dup, 1) := by decide +kernel
theorem dX8_token_20 : decode cX8_token 20 = .ok (.getfield 98, 3) := by decide +kernel
theorem dX8_token_23 : decode cX8_token 23 = .ok (.iconst 1, 1) := by decide +kernel
theorem dX8_token_24 : decode cX8_token 24 = .ok (.iadd, 1) := by decide +kernel
theorem dX8_token_25 : decode cX8_token 25 = .ok (.putfield 98, 3) := by decide +kernel
theorem dX8_token_28 : decode cX8_token 28 = .ok (.goto (-28), 3) := by decide +kernel
theorem dX8_token_31 : decode cX8_token 31 = .ok (.aload_n 0, 1) := by decide +kernel
theorem dX8_token_32 : decode cX8_token 32 = .ok (.aload_n 0, 1) := by decide +kernel
theorem dX8_token_33 : decode cX8_token 33 = .ok (.getfield 98, 3) := by decide +kernel
theorem dX8_token_36 : decode cX8_token 36 = .ok (.putfield 108, 3) := by decide +kernel
theorem dX8_token_39 : decode cX8_token 39 = .ok (.aload_n 0, 1) := by decide +kernel
theorem dX8_token_40 : decode cX8_token 40 = .ok (.invokevirtual 104, 3) := by decide +kernel
theorem dX8_token_43 : decode cX8_token 43 = .ok (.istore_n 1, 1) := by decide +kernel
theorem dX8_token_44 : decode cX8_token 44 = .ok (.aload_n 0, 1) := by decide +kernel
theorem dX8_token_45 : decode cX8_token 45 = .ok (.lconst 0, 1) := by decide +kernel
theorem dX8_token_46 : decode cX8_token 46 = .ok (.putfield 111, 3) := by decide +kernel
theorem dX8_token_49 : decode cX8_token 49 = .ok (.iconst 0, 1) := by decide +kernel
theorem dX8_token_50 : decode cX8_token 50 = .ok (.istore_n 2, 1) := by decide +kernel
theorem dX8_token_51 : decode cX8_token 51 = .ok (.iload_n 1, 1) := by decide +kernel
theorem dX8_token_52 : decode cX8_token 52 = .ok (.ifCond .ge 11, 3) := by decide +kernel
theorem dX8_token_55 : decode cX8_token 55 = .ok (.aload_n 0, 1) := by decide +kernel
theorem dX8_token_56 : decode cX8_token 56 = .ok (.iconst 0, 1) := by decide +kernel
theorem dX8_token_57 : decode cX8_token 57 = .ok (.putfield 115, 3) := by decide +kernel
theorem dX8_token_60 : decode cX8_token 60 = .ok (.goto 206, 3) := by decide +kernel
theorem dX8_token_63 : decode cX8_token 63 = .ok (.iload_n 1, 1) := by decide +kernel
theorem dX8_token_64 : decode cX8_token 64 = .ok (.bipush 97, 2) := by decide +kernel
theorem dX8_token_66 : decode cX8_token 66 = .ok (.bipush 122, 2) := by decide +kernel
theorem dX8_token_68 : decode cX8_token 68 = .ok (.invokestatic 88, 3) := by decide +kernel
theorem dX8_token_71 : decode cX8_token 71 = .ok (.ifCond .eq 76, 3) := by decide +kernel
theorem dX8_token_74 : decode cX8_token 74 = .ok (.aload_n 0, 1) := by decide +kernel
theorem dX8_token_75 : decode cX8_token 75 = .ok (.invokevirtual 104, 3) := by decide +kernel
theorem dX8_token_78 : decode cX8_token 78 = .ok (.bipush 97, 2) := by decide +kernel
theorem dX8_token_80 : decode cX8_token 80 = .ok (.bipush 122, 2) := by decide +kernel
theorem dX8_token_82 : decode cX8_token 82 = .ok (.invokestatic 88, 3) := by decide +kernel
theorem dX8_token_85 : decode cX8_token 85 = .ok (.ifCond .eq 36, 3) := by decide +kernel
theorem dX8_token_88 : decode cX8_token 88 = .ok (.aload_n 0, 1) := by decide +kernel
theorem dX8_token_89 : decode cX8_token 89 = .ok (.aload_n 0, 1) := by decide +kernel
theorem dX8_token_90 : decode cX8_token 90 = .ok (.getfield 111, 3) := by decide +kernel
theorem dX8_token_93 : decode cX8_token 93 = .ok (.bipush 8, 2) := by decide +kernel
theorem dX8_token_95 : decode cX8_token 95 = .ok (.lshl, 1) := by decide +kernel
theorem dX8_token_96 : decode cX8_token 96 = .ok (.aload_n 0, 1) := by decide +kernel
theorem dX8_token_97 : decode cX8_token 97 = .ok (.invokevirtual 104, 3) := by decide +kernel
theorem dX8_token_100 : decode cX8_token 100 = .ok (.i2l, 1) := by decide +kernel
theorem dX8_token_101 : decode cX8_token 101 = .ok (.lor, 1) := by decide +kernel
theorem dX8_token_102 : decode cX8_token 102 = .ok (.putfield 111, 3) := by decide +kernel
theorem dX8_token_105 : decode cX8_token 105 = .ok (.aload_n 0, 1) := by decide +kernel
theorem dX8_token_106 : decode cX8_token 106 = .ok (.dup, 1) := by decide +kernel
theorem dX8_token_107 : decode cX8_token 107 = .ok (.getfield 98, 3) := by decide +kernel
theorem dX8_token_110 : decode cX8_token 110 = .ok (.iconst 1, 1) := by decide +kernel
theorem dX8_token_111 : decode cX8_token 111 = .ok (.iadd, 1) := by decide +kernel
theorem dX8_token_112 : decode cX8_token 112 = .ok (.putfield 98, 3) := by decide +kernel
theorem dX8_token_115 : decode cX8_token 115 = .ok (.iinc 2 1, 3) := by decide +kernel
theorem dX8_token_118 : decode cX8_token 118 = .ok (.goto (-44), 3) := by decide +kernel
theorem dX8_token_121 : decode cX8_token 121 = .ok (.aload_n 0, 1) := by decide +kernel
theorem dX8_token_122 : decode cX8_token 122 = .ok (.iload_n 2, 1) := by decide +kernel
theorem dX8_token_123 : decode cX8_token 123 = .ok (.bipush 8, 2) := by decide +kernel
theorem dX8_token_125 : decode cX8_token 125 = .ok (.if_icmp .le 7, 3) := by decide +kernel
theorem dX8_token_128 : decode cX8_token 128 = .ok (.lconst 0, 1) := by decide +kernel
theorem dX8_token_129 : decode cX8_token 129 = .ok (.goto 7, 3) := by decide +kernel
theorem dX8_token_132 : decode cX8_token 132 = .ok (.aload_n 0, 1) := by decide +kernel
theorem dX8_token_133 : decode cX8_token 133 = .ok (.getfield 111, 3) := by decide +kernel
theorem dX8_token_136 : decode cX8_token 136 = .ok (.putfield 111, 3) := by decide +kernel
theorem dX8_token_139 : decode cX8_token 139 = .ok (.aload_n 0, 1) := by decide +kernel
theorem dX8_token_140 : decode cX8_token 140 = .ok (.iconst 2, 1) := by decide +kernel
theorem dX8_token_141 : decode cX8_token 141 = .ok (.putfield 115, 3) := by decide +kernel
theorem dX8_token_144 : decode cX8_token 144 = .ok (.goto 122, 3) := by decide +kernel
theorem dX8_token_147 : decode cX8_token 147 = .ok (.iload_n 1, 1) := by decide +kernel
theorem dX8_token_148 : decode cX8_token 148 = .ok (.bipush 48, 2) := by decide +kernel
theorem dX8_token_150 : decode cX8_token 150 = .ok (.bipush 57, 2) := by decide +kernel
theorem dX8_token_152 : decode cX8_token 152 = .ok (.invokestatic 88, 3) := by decide +kernel
theorem dX8_token_155 : decode cX8_token 155 = .ok (.ifCond .eq 86, 3) := by decide +kernel
theorem dX8_token_158 : decode cX8_token 158 = .ok (.aload_n 0, 1) := by decide +kernel
theorem dX8_token_159 : decode cX8_token 159 = .ok (.iconst 0, 1) := by decide +kernel
theorem dX8_token_160 : decode cX8_token 160 = .ok (.putfield 118, 3) := by decide +kernel
theorem dX8_token_163 : decode cX8_token 163 = .ok (.aload_n 0, 1) := by decide +kernel
theorem dX8_token_164 : decode cX8_token 164 = .ok (.invokevirtual 104, 3) := by decide +kernel
theorem dX8_token_167 : decode cX8_token 167 = .ok (.bipush 48, 2) := by decide +kernel
theorem dX8_token_169 : decode cX8_token 169 = .ok (.bipush 57, 2) := by decide +kernel
theorem dX8_token_171 : decode cX8_token 171 = .ok (.invokestatic 88, 3) := by decide +kernel
theorem dX8_token_174 : decode cX8_token 174 = .ok (.ifCond .eq 50, 3) := by decide +kernel
theorem dX8_token_177 : decode cX8_token 177 = .ok (.aload_n 0, 1) := by decide +kernel
theorem dX8_token_178 : decode cX8_token 178 = .ok (.iload_n 2, 1) := by decide +kernel
theorem dX8_token_179 : decode cX8_token 179 = .ok (.iconst 3, 1) := by decide +kernel
theorem dX8_token_180 : decode cX8_token 180 = .ok (.if_icmp .ge 21, 3) := by decide +kernel
theorem dX8_token_183 : decode cX8_token 183 = .ok (.bipush 10, 2) := by decide +kernel
theorem dX8_token_185 : decode cX8_token 185 = .ok (.aload_n 0, 1) := by decide +kernel
theorem dX8_token_186 : decode cX8_token 186 = .ok (.getfield 118, 3) := by decide +kernel
theorem dX8_token_189 : decode cX8_token 189 = .ok (.imul, 1) := by decide +kernel
theorem dX8_token_190 : decode cX8_token 190 = .ok (.aload_n 0, 1) := by decide +kernel
theorem dX8_token_191 : decode cX8_token 191 = .ok (.invokevirtual 104, 3) := by decide +kernel
theorem dX8_token_194 : decode cX8_token 194 = .ok (.iadd, 1) := by decide +kernel
theorem dX8_token_195 : decode cX8_token 195 = .ok (.bipush 48, 2) := by decide +kernel
theorem dX8_token_197 : decode cX8_token 197 = .ok (.isub, 1) := by decide +kernel
theorem dX8_token_198 : decode cX8_token 198 = .ok (.goto 7, 3) := by decide +kernel
theorem dX8_token_201 : decode cX8_token 201 = .ok (.aload_n 0, 1) := by decide +kernel
theorem dX8_token_202 : decode cX8_token 202 = .ok (.getfield 118, 3) := by decide +kernel
theorem dX8_token_205 : decode cX8_token 205 = .ok (.putfield 118, 3) := by decide +kernel
theorem dX8_token_208 : decode cX8_token 208 = .ok (.aload_n 0, 1) := by decide +kernel
theorem dX8_token_209 : decode cX8_token 209 = .ok (.dup, 1) := by decide +kernel
theorem dX8_token_210 : decode cX8_token 210 = .ok (.getfield 98, 3) := by decide +kernel
theorem dX8_token_213 : decode cX8_token 213 = .ok (.iconst 1, 1) := by decide +kernel
theorem dX8_token_214 : decode cX8_token 214 = .ok (.iadd, 1) := by decide +kernel
theorem dX8_token_215 : decode cX8_token 215 = .ok (.putfield 98, 3) := by decide +kernel
theorem dX8_token_218 : decode cX8_token 218 = .ok (.iinc 2 1, 3) := by decide +kernel
theorem dX8_token_221 : decode cX8_token 221 = .ok (.goto (-58), 3) := by decide +kernel
theorem dX8_token_224 : decode cX8_token 224 = .ok (.aload_n 0, 1) := by decide +kernel
theorem dX8_token_225 : decode cX8_token 225 = .ok (.iload_n 2, 1) := by decide +kernel
theorem dX8_token_226 : decode cX8_token 226 = .ok (.iconst 3, 1) := by decide +kernel
theorem dX8_token_227 : decode cX8_token 227 = .ok (.if_icmp .le 7, 3) := by decide +kernel
theorem dX8_token_230 : decode cX8_token 230 = .ok (.iconst 1, 1) := by decide +kernel
theorem dX8_token_231 : decode cX8_token 231 = .ok (.goto 4, 3) := by decide +kernel
theorem dX8_token_234 : decode cX8_token 234 = .ok (.iconst 3, 1) := by decide +kernel
theorem dX8_token_235 : decode cX8_token 235 = .ok (.putfield 115, 3) := by decide +kernel
theorem dX8_token_238 : decode cX8_token 238 = .ok (.goto 28, 3) := by decide +kernel
theorem dX8_token_241 : decode cX8_token 241 = .ok (.aload_n 0, 1) := by decide +kernel
theorem dX8_token_242 : decode cX8_token 242 = .ok (.dup, 1) := by decide +kernel
theorem dX8_token_243 : decode cX8_token 243 = .ok (.getfield 98, 3) := by decide +kernel
theorem dX8_token_246 : decode cX8_token 246 = .ok (.iconst 1, 1) := by decide +kernel
theorem dX8_token_247 : decode cX8_token 247 = .ok (.iadd, 1) := by decide +kernel
theorem dX8_token_248 : decode cX8_token 248 = .ok (.putfield 98, 3) := by decide +kernel
theorem dX8_token_251 : decode cX8_token 251 = .ok (.aload_n 0, 1) := by decide +kernel
theorem dX8_token_252 : decode cX8_token 252 = .ok (.iload_n 1, 1) := by decide +kernel
theorem dX8_token_253 : decode cX8_token 253 = .ok (.bipush 59, 2) := by decide +kernel
theorem dX8_token_255 : decode cX8_token 255 = .ok (.if_icmp .ne 7, 3) := by decide +kernel
theorem dX8_token_258 : decode cX8_token 258 = .ok (.iconst 4, 1) := by decide +kernel
theorem dX8_token_259 : decode cX8_token 259 = .ok (.goto 4, 3) := by decide +kernel
theorem dX8_token_262 : decode cX8_token 262 = .ok (.iconst 1, 1) := by decide +kernel
theorem dX8_token_263 : decode cX8_token 263 = .ok (.putfield 115, 3) := by decide +kernel
theorem dX8_token_266 : decode cX8_token 266 = .ok (.return_, 1) := by decide +kernel
theorem dX8_fails_0 : decode cX8_fails 0 = .ok (.aload_n 0, 1) := by decide +kernel
theorem dX8_fails_1 : decode cX8_fails 1 = .ok (.aload_n 0, 1) := by decide +kernel
theorem dX8_fails_2 : decode cX8_fails 2 = .ok (.getfield 108, 3) := by decide +kernel
theorem dX8_fails_5 : decode cX8_fails 5 = .ok (.putfield 121, 3) := by decide +kernel
theorem dX8_fails_8 : decode cX8_fails 8 = .ok (.iconst 0, 1) := by decide +kernel
theorem dX8_fails_9 : decode cX8_fails 9 = .ok (.ireturn, 1) := by decide +kernel
theorem dX8_isBad_0 : decode cX8_isBad 0 = .ok (.aload_n 0, 1) := by decide +kernel
theorem dX8_isBad_1 : decode cX8_isBad 1 = .ok (.getfield 124, 3) := by decide +kernel
theorem dX8_isBad_4 : decode cX8_isBad 4 = .ok (.ifCond .eq 27, 3) := by decide +kernel
theorem dX8_isBad_7 : decode cX8_isBad 7 = .ok (.iload_n 2, 1) := by decide +kernel
theorem dX8_isBad_8 : decode cX8_isBad 8 = .ok (.aload_n 0, 1) := by decide +kernel
theorem dX8_isBad_9 : decode cX8_isBad 9 = .ok (.getfield 127, 3) := by decide +kernel
theorem dX8_isBad_12 : decode cX8_isBad 12 = .ok (.if_icmp .lt 19, 3) := by decide +kernel
theorem dX8_isBad_15 : decode cX8_isBad 15 = .ok (.iload_n 2, 1) := by decide +kernel
theorem dX8_isBad_16 : decode cX8_isBad 16 = .ok (.aload_n 0, 1) := by decide +kernel
theorem dX8_isBad_17 : decode cX8_isBad 17 = .ok (.getfield 127, 3) := by decide +kernel
theorem dX8_isBad_20 : decode cX8_isBad 20 = .ok (.if_icmp .ne 21, 3) := by decide +kernel
theorem dX8_isBad_23 : decode cX8_isBad 23 = .ok (.iload_n 1, 1) := by decide +kernel
theorem dX8_isBad_24 : decode cX8_isBad 24 = .ok (.aload_n 0, 1) := by decide +kernel
theorem dX8_isBad_25 : decode cX8_isBad 25 = .ok (.getfield 124, 3) := by decide +kernel
theorem dX8_isBad_28 : decode cX8_isBad 28 = .ok (.if_icmp .ge 13, 3) := by decide +kernel
theorem dX8_isBad_31 : decode cX8_isBad 31 = .ok (.aload_n 0, 1) := by decide +kernel
theorem dX8_isBad_32 : decode cX8_isBad 32 = .ok (.iload_n 1, 1) := by decide +kernel
theorem dX8_isBad_33 : decode cX8_isBad 33 = .ok (.putfield 124, 3) := by decide +kernel
theorem dX8_isBad_36 : decode cX8_isBad 36 = .ok (.aload_n 0, 1) := by decide +kernel
theorem dX8_isBad_37 : decode cX8_isBad 37 = .ok (.iload_n 2, 1) := by decide +kernel
theorem dX8_isBad_38 : decode cX8_isBad 38 = .ok (.putfield 127, 3) := by decide +kernel
theorem dX8_isBad_41 : decode cX8_isBad 41 = .ok (.return_, 1) := by decide +kernel
theorem dX8_takes_0 : decode cX8_takes 0 = .ok (.aload_n 0, 1) := by decide +kernel
theorem dX8_takes_1 : decode cX8_takes 1 = .ok (.getfield 115, 3) := by decide +kernel
theorem dX8_takes_4 : decode cX8_takes 4 = .ok (.iconst 3, 1) := by decide +kernel
theorem dX8_takes_5 : decode cX8_takes 5 = .ok (.if_icmp .eq 8, 3) := by decide +kernel
theorem dX8_takes_8 : decode cX8_takes 8 = .ok (.aload_n 0, 1) := by decide +kernel
theorem dX8_takes_9 : decode cX8_takes 9 = .ok (.invokevirtual 130, 3) := by decide +kernel
theorem dX8_takes_12 : decode cX8_takes 12 = .ok (.ireturn, 1) := by decide +kernel
theorem dX8_takes_13 : decode cX8_takes 13 = .ok (.aload_n 0, 1) := by decide +kernel
theorem dX8_takes_14 : decode cX8_takes 14 = .ok (.aload_n 0, 1) := by decide +kernel
theorem dX8_takes_15 : decode cX8_takes 15 = .ok (.getfield 118, 3) := by decide +kernel
theorem dX8_takes_18 : decode cX8_takes 18 = .ok (.putfield 134, 3) := by decide +kernel
theorem dX8_takes_21 : decode cX8_takes 21 = .ok (.aload_n 0, 1) := by decide +kernel
theorem dX8_takes_22 : decode cX8_takes 22 = .ok (.getfield 118, 3) := by decide +kernel
theorem dX8_takes_25 : decode cX8_takes 25 = .ok (.iload_n 1, 1) := by decide +kernel
theorem dX8_takes_26 : decode cX8_takes 26 = .ok (.iload_n 2, 1) := by decide +kernel
theorem dX8_takes_27 : decode cX8_takes 27 = .ok (.invokestatic 88, 3) := by decide +kernel
theorem dX8_takes_30 : decode cX8_takes 30 = .ok (.ifCond .ne 12, 3) := by decide +kernel
theorem dX8_takes_33 : decode cX8_takes 33 = .ok (.aload_n 0, 1) := by decide +kernel
theorem dX8_takes_34 : decode cX8_takes 34 = .ok (.iconst 2, 1) := by decide +kernel
theorem dX8_takes_35 : decode cX8_takes 35 = .ok (.aload_n 0, 1) := by decide +kernel
theorem dX8_takes_36 : decode cX8_takes 36 = .ok (.getfield 108, 3) := by decide +kernel
theorem dX8_takes_39 : decode cX8_takes 39 = .ok (.invokevirtual 137, 3) := by decide +kernel
theorem dX8_takes_42 : decode cX8_takes 42 = .ok (.aload_n 0, 1) := by decide +kernel
theorem dX8_takes_43 : decode cX8_takes 43 = .ok (.invokevirtual 141, 3) := by decide +kernel
theorem dX8_takes_46 : decode cX8_takes 46 = .ok (.iconst 1, 1) := by decide +kernel
theorem dX8_takes_47 : decode cX8_takes 47 = .ok (.ireturn, 1) := by decide +kernel
theorem dX8_doorLine_0 : decode cX8_doorLine 0 = .ok (.aload_n 0, 1) := by decide +kernel
theorem dX8_doorLine_1 : decode cX8_doorLine 1 = .ok (.getfield 24, 3) := by decide +kernel
theorem dX8_doorLine_4 : decode cX8_doorLine 4 = .ok (.iconst 0, 1) := by decide +kernel
theorem dX8_doorLine_5 : decode cX8_doorLine 5 = .ok (.iaload, 1) := by decide +kernel
theorem dX8_doorLine_6 : decode cX8_doorLine 6 = .ok (.bipush 6, 2) := by decide +kernel
theorem dX8_doorLine_8 : decode cX8_doorLine 8 = .ok (.if_icmp .ge 7, 3) := by decide +kernel
theorem dX8_doorLine_11 : decode cX8_doorLine 11 = .ok (.iconst 1, 1) := by decide +kernel
theorem dX8_doorLine_12 : decode cX8_doorLine 12 = .ok (.goto 4, 3) := by decide +kernel
theorem dX8_doorLine_15 : decode cX8_doorLine 15 = .ok (.iconst 0, 1) := by decide +kernel
theorem dX8_doorLine_16 : decode cX8_doorLine 16 = .ok (.istore_n 1, 1) := by decide +kernel
theorem dX8_doorLine_17 : decode cX8_doorLine 17 = .ok (.iload_n 1, 1) := by decide +kernel
theorem dX8_doorLine_18 : decode cX8_doorLine 18 = .ok (.ifCond .ne 12, 3) := by decide +kernel
theorem dX8_doorLine_21 : decode cX8_doorLine 21 = .ok (.aload_n 0, 1) := by decide +kernel
theorem dX8_doorLine_22 : decode cX8_doorLine 22 = .ok (.iconst 3, 1) := by decide +kernel
theorem dX8_doorLine_23 : decode cX8_doorLine 23 = .ok (.aload_n 0, 1) := by decide +kernel
theorem dX8_doorLine_24 : decode cX8_doorLine 24 = .ok (.getfield 108, 3) := by decide +kernel
theorem dX8_doorLine_27 : decode cX8_doorLine 27 = .ok (.invokevirtual 137, 3) := by decide +kernel
theorem dX8_doorLine_30 : decode cX8_doorLine 30 = .ok (.aload_n 0, 1) := by decide +kernel
theorem dX8_doorLine_31 : decode cX8_doorLine 31 = .ok (.invokevirtual 141, 3) := by decide +kernel
theorem dX8_doorLine_34 : decode cX8_doorLine 34 = .ok (.aload_n 0, 1) := by decide +kernel
theorem dX8_doorLine_35 : decode cX8_doorLine 35 = .ok (.getfield 115, 3) := by decide +kernel
theorem dX8_doorLine_38 : decode cX8_doorLine 38 = .ok (.iconst 2, 1) := by decide +kernel
theorem dX8_doorLine_39 : decode cX8_doorLine 39 = .ok (.if_icmp .ne 25, 3) := by decide +kernel
theorem dX8_doorLine_42 : decode cX8_doorLine 42 = .ok (.aload_n 0, 1) := by decide +kernel
theorem dX8_doorLine_43 : decode cX8_doorLine 43 = .ok (.getfield 111, 3) := by decide +kernel
theorem dX8_doorLine_46 : decode cX8_doorLine 46 = .ok (.ldc2_w 144, 3) := by decide +kernel
theorem dX8_doorLine_49 : decode cX8_doorLine 49 = .ok (.lcmp, 1) := by decide +kernel
theorem dX8_doorLine_50 : decode cX8_doorLine 50 = .ok (.ifCond .eq 19, 3) := by decide +kernel
theorem dX8_doorLine_53 : decode cX8_doorLine 53 = .ok (.aload_n 0, 1) := by decide +kernel
theorem dX8_doorLine_54 : decode cX8_doorLine 54 = .ok (.getfield 111, 3) := by decide +kernel
theorem dX8_doorLine_57 : decode cX8_doorLine 57 = .ok (.ldc2_w 146, 3) := by decide +kernel
theorem dX8_doorLine_60 : decode cX8_doorLine 60 = .ok (.lcmp, 1) := by decide +kernel
theorem dX8_doorLine_61 : decode cX8_doorLine 61 = .ok (.ifCond .eq 8, 3) := by decide +kernel
theorem dX8_doorLine_64 : decode cX8_doorLine 64 = .ok (.aload_n 0, 1) := by decide +kernel
theorem dX8_doorLine_65 : decode cX8_doorLine 65 = .ok (.invokevirtual 130, 3) := by decide +kernel
theorem dX8_doorLine_68 : decode cX8_doorLine 68 = .ok (.ireturn, 1) := by decide +kernel
theorem dX8_doorLine_69 : decode cX8_doorLine 69 = .ok (.aload_n 0, 1) := by decide +kernel
theorem dX8_doorLine_70 : decode cX8_doorLine 70 = .ok (.getfield 111, 3) := by decide +kernel
theorem dX8_doorLine_73 : decode cX8_doorLine 73 = .ok (.ldc2_w 146, 3) := by decide +kernel
theorem dX8_doorLine_76 : decode cX8_doorLine 76 = .ok (.lcmp, 1) := by decide +kernel
theorem dX8_doorLine_77 : decode cX8_doorLine 77 = .ok (.ifCond .ne 7, 3) := by decide +kernel
theorem dX8_doorLine_80 : decode cX8_doorLine 80 = .ok (.iconst 1, 1) := by decide +kernel
theorem dX8_doorLine_81 : decode cX8_doorLine 81 = .ok (.goto 4, 3) := by decide +kernel
theorem dX8_doorLine_84 : decode cX8_doorLine 84 = .ok (.iconst 0, 1) := by decide +kernel
theorem dX8_doorLine_85 : decode cX8_doorLine 85 = .ok (.istore_n 2, 1) := by decide +kernel
theorem dX8_doorLine_86 : decode cX8_doorLine 86 = .ok (.aload_n 0, 1) := by decide +kernel
theorem dX8_doorLine_87 : decode cX8_doorLine 87 = .ok (.invokevirtual 141, 3) := by decide +kernel
theorem dX8_doorLine_90 : decode cX8_doorLine 90 = .ok (.aload_n 0, 1) := by decide +kernel
theorem dX8_doorLine_91 : decode cX8_doorLine 91 = .ok (.iconst 0, 1) := by decide +kernel
theorem dX8_doorLine_92 : decode cX8_doorLine 92 = .ok (.bipush 99, 2) := by decide +kernel
theorem dX8_doorLine_94 : decode cX8_doorLine 94 = .ok (.invokevirtual 148, 3) := by decide +kernel
theorem dX8_doorLine_97 : decode cX8_doorLine 97 = .ok (.ifCond .ne 5, 3) := by decide +kernel
theorem dX8_doorLine_100 : decode cX8_doorLine 100 = .ok (.iconst 0, 1) := by decide +kernel
theorem dX8_doorLine_101 : decode cX8_doorLine 101 = .ok (.ireturn, 1) := by decide +kernel
theorem dX8_doorLine_102 : decode cX8_doorLine 102 = .ok (.iload_n 1, 1) := by decide +kernel
theorem dX8_doorLine_103 : decode cX8_doorLine 103 = .ok (.ifCond .eq 50, 3) := by decide +kernel
theorem dX8_doorLine_106 : decode cX8_doorLine 106 = .ok (.aload_n 0, 1) := by decide +kernel
theorem dX8_doorLine_107 : decode cX8_doorLine 107 = .ok (.getfield 24, 3) := by decide +kernel
theorem dX8_doorLine_110 : decode cX8_doorLine 110 = .ok (.iconst 5, 1) := by decide +kernel
theorem dX8_doorLine_111 : decode cX8_doorLine 111 = .ok (.iconst 2, 1) := by decide +kernel
theorem dX8_doorLine_112 : decode cX8_doorLine 112 = .ok (.aload_n 0, 1) := by decide +kernel
theorem dX8_doorLine_113 : decode cX8_doorLine 113 = .ok (.getfield 24, 3) := by decide +kernel
theorem dX8_doorLine_116 : decode cX8_doorLine 116 = .ok (.iconst 0, 1) := by decide +kernel
theorem dX8_doorLine_117 : decode cX8_doorLine 117 = .ok (.iaload, 1) := by decide +kernel
theorem dX8_doorLine_118 : decode cX8_doorLine 118 = .ok (.imul, 1) := by decide +kernel
theorem dX8_doorLine_119 : decode cX8_doorLine 119 = .ok (.iadd, 1) := by decide +kernel
theorem dX8_doorLine_120 : decode cX8_doorLine 120 = .ok (.iload_n 2, 1) := by decide +kernel
theorem dX8_doorLine_121 : decode cX8_doorLine 121 = .ok (.iastore, 1) := by decide +kernel
theorem dX8_doorLine_122 : decode cX8_doorLine 122 = .ok (.aload_n 0, 1) := by decide +kernel
theorem dX8_doorLine_123 : decode cX8_doorLine 123 = .ok (.getfield 24, 3) := by decide +kernel
theorem dX8_doorLine_126 : decode cX8_doorLine 126 = .ok (.iconst 5, 1) := by decide +kernel
theorem dX8_doorLine_127 : decode cX8_doorLine 127 = .ok (.iconst 2, 1) := by decide +kernel
theorem dX8_doorLine_128 : decode cX8_doorLine 128 = .ok (.aload_n 0, 1) := by decide +kernel
theorem dX8_doorLine_129 : decode cX8_doorLine 129 = .ok (.getfield 24, 3) := by decide +kernel
theorem dX8_doorLine_132 : decode cX8_doorLine 132 = .ok (.iconst 0, 1) := by decide +kernel
theorem dX8_doorLine_133 : decode cX8_doorLine 133 = .ok (.iaload, 1) := by decide +kernel
theorem dX8_doorLine_134 : decode cX8_doorLine 134 = .ok (.imul, 1) := by decide +kernel
theorem dX8_doorLine_135 : decode cX8_doorLine 135 = .ok (.iadd, 1) := by decide +kernel
theorem dX8_doorLine_136 : decode cX8_doorLine 136 = .ok (.iconst 1, 1) := by decide +kernel
theorem dX8_doorLine_137 : decode cX8_doorLine 137 = .ok (.iadd, 1) := by decide +kernel
theorem dX8_doorLine_138 : decode cX8_doorLine 138 = .ok (.aload_n 0, 1) := by decide +kernel
theorem dX8_doorLine_139 : decode cX8_doorLine 139 = .ok (.getfield 134, 3) := by decide +kernel
theorem dX8_doorLine_142 : decode cX8_doorLine 142 = .ok (.iastore, 1) := by decide +kernel
theorem dX8_doorLine_143 : decode cX8_doorLine 143 = .ok (.aload_n 0, 1) := by decide +kernel
theorem dX8_doorLine_144 : decode cX8_doorLine 144 = .ok (.getfield 24, 3) := by decide +kernel
theorem dX8_doorLine_147 : decode cX8_doorLine 147 = .ok (.iconst 0, 1) := by decide +kernel
theorem dX8_doorLine_148 : decode cX8_doorLine 148 = .ok (.dup2, 1) := by decide +kernel
theorem dX8_doorLine_149 : decode cX8_doorLine 149 = .ok (.iaload, 1) := by decide +kernel
theorem dX8_doorLine_150 : decode cX8_doorLine 150 = .ok (.iconst 1, 1) := by decide +kernel
theorem dX8_doorLine_151 : decode cX8_doorLine 151 = .ok (.iadd, 1) := by decide +kernel
theorem dX8_doorLine_152 : decode cX8_doorLine 152 = .ok (.iastore, 1) := by decide +kernel
theorem dX8_doorLine_153 : decode cX8_doorLine 153 = .ok (.iconst 1, 1) := by decide +kernel
theorem dX8_doorLine_154 : decode cX8_doorLine 154 = .ok (.ireturn, 1) := by decide +kernel
theorem dX8_inNumbers_0 : decode cX8_inNumbers 0 = .ok (.aload_n 0, 1) := by decide +kernel
theorem dX8_inNumbers_1 : decode cX8_inNumbers 1 = .ok (.iconst 1, 1) := by decide +kernel
theorem dX8_inNumbers_2 : decode cX8_inNumbers 2 = .ok (.putfield 152, 3) := by decide +kernel
theorem dX8_inNumbers_5 : decode cX8_inNumbers 5 = .ok (.iconst 1, 1) := by decide +kernel
theorem dX8_inNumbers_6 : decode cX8_inNumbers 6 = .ok (.istore_n 1, 1) := by decide +kernel
theorem dX8_inNumbers_7 : decode cX8_inNumbers 7 = .ok (.iload_n 1, 1) := by decide +kernel
theorem dX8_inNumbers_8 : decode cX8_inNumbers 8 = .ok (.bipush 6, 2) := by decide +kernel
theorem dX8_inNumbers_10 : decode cX8_inNumbers 10 = .ok (.if_icmp .ge 89, 3) := by decide +kernel
theorem dX8_inNumbers_13 : decode cX8_inNumbers 13 = .ok (.aload_n 0, 1) := by decide +kernel
theorem dX8_inNumbers_14 : decode cX8_inNumbers 14 = .ok (.iconst 0, 1) := by decide +kernel
theorem dX8_inNumbers_15 : decode cX8_inNumbers 15 = .ok (.iload_n 1, 1) := by decide +kernel
theorem dX8_inNumbers_16 : decode cX8_inNumbers 16 = .ok (.iconst 1, 1) := by decide +kernel
theorem dX8_inNumbers_17 : decode cX8_inNumbers 17 = .ok (.if_icmp .ne 8, 3) := by decide +kernel
theorem dX8_inNumbers_20 : decode cX8_inNumbers 20 = .ok (.bipush 99, 2) := by decide +kernel
theorem dX8_inNumbers_22 : decode cX8_inNumbers 22 = .ok (.goto 5, 3) := by decide +kernel
theorem dX8_inNumbers_25 : decode cX8_inNumbers 25 = .ok (.bipush 15, 2) := by decide +kernel
theorem dX8_inNumbers_27 : decode cX8_inNumbers 27 = .ok (.invokevirtual 148, 3) := by decide +kernel
theorem dX8_inNumbers_30 : decode cX8_inNumbers 30 = .ok (.ifCond .ne 5, 3) := by decide +kernel
theorem dX8_inNumbers_33 : decode cX8_inNumbers 33 = .ok (.iconst 0, 1) := by decide +kernel
theorem dX8_inNumbers_34 : decode cX8_inNumbers 34 = .ok (.ireturn, 1) := by decide +kernel
theorem dX8_inNumbers_35 : decode cX8_inNumbers 35 = .ok (.aload_n 0, 1) := by decide +kernel
theorem dX8_inNumbers_36 : decode cX8_inNumbers 36 = .ok (.aload_n 0, 1) := by decide +kernel
theorem dX8_inNumbers_37 : decode cX8_inNumbers 37 = .ok (.getfield 152, 3) := by decide +kernel
theorem dX8_inNumbers_40 : decode cX8_inNumbers 40 = .ok (.ifCond .eq 21, 3) := by decide +kernel
theorem dX8_inNumbers_43 : decode cX8_inNumbers 43 = .ok (.iload_n 1, 1) := by decide +kernel
theorem dX8_inNumbers_44 : decode cX8_inNumbers 44 = .ok (.iconst 1, 1) := by decide +kernel
theorem dX8_inNumbers_45 : decode cX8_inNumbers 45 = .ok (.if_icmp .eq 12, 3) := by decide +kernel
theorem dX8_inNumbers_48 : decode cX8_inNumbers 48 = .ok (.aload_n 0, 1) := by decide +kernel
theorem dX8_inNumbers_49 : decode cX8_inNumbers 49 = .ok (.getfield 134, 3) := by decide +kernel
theorem dX8_inNumbers_52 : decode cX8_inNumbers 52 = .ok (.bipush 15, 2) := by decide +kernel
theorem dX8_inNumbers_54 : decode cX8_inNumbers 54 = .ok (.if_icmp .gt 7, 3) := by decide +kernel
theorem dX8_inNumbers_57 : decode cX8_inNumbers 57 = .ok (.iconst 1, 1) := by decide +kernel
theorem dX8_inNumbers_58 : decode cX8_inNumbers 58 = .ok (.goto 4, 3) := by decide +kernel
theorem dX8_inNumbers_61 : decode cX8_inNumbers 61 = .ok (.iconst 0, 1) := by decide +kernel
theorem dX8_inNumbers_62 : decode cX8_inNumbers 62 = .ok (.putfield 152, 3) := by decide +kernel
theorem dX8_inNumbers_65 : decode cX8_inNumbers 65 = .ok (.aload_n 0, 1) := by decide +kernel
theorem dX8_inNumbers_66 : decode cX8_inNumbers 66 = .ok (.getfield 27, 3) := by decide +kernel
theorem dX8_inNumbers_69 : decode cX8_inNumbers 69 = .ok (.iload_n 1, 1) := by decide +kernel
theorem dX8_inNumbers_70 : decode cX8_inNumbers 70 = .ok (.iload_n 1, 1) := by decide +kernel
theorem dX8_inNumbers_71 : decode cX8_inNumbers 71 = .ok (.iconst 1, 1) := by decide +kernel
theorem dX8_inNumbers_72 : decode cX8_inNumbers 72 = .ok (.if_icmp .le 16, 3) := by decide +kernel
theorem dX8_inNumbers_75 : decode cX8_inNumbers 75 = .ok (.aload_n 0, 1) := by decide +kernel
theorem dX8_inNumbers_76 : decode cX8_inNumbers 76 = .ok (.getfield 134, 3) := by decide +kernel
theorem dX8_inNumbers_79 : decode cX8_inNumbers 79 = .ok (.bipush 15, 2) := by decide +kernel
theorem dX8_inNumbers_81 : decode cX8_inNumbers 81 = .ok (.if_icmp .le 7, 3) := by decide +kernel
theorem dX8_inNumbers_84 : decode cX8_inNumbers 84 = .ok (.iconst 0, 1) := by decide +kernel
theorem dX8_inNumbers_85 : decode cX8_inNumbers 85 = .ok (.goto 7, 3) := by decide +kernel
theorem dX8_inNumbers_88 : decode cX8_inNumbers 88 = .ok (.aload_n 0, 1) := by decide +kernel
theorem dX8_inNumbers_89 : decode cX8_inNumbers 89 = .ok (.getfield 134, 3) := by decide +kernel
theorem dX8_inNumbers_92 : decode cX8_inNumbers 92 = .ok (.iastore, 1) := by decide +kernel
theorem dX8_inNumbers_93 : decode cX8_inNumbers 93 = .ok (.iinc 1 1, 3) := by decide +kernel
theorem dX8_inNumbers_96 : decode cX8_inNumbers 96 = .ok (.goto (-89), 3) := by decide +kernel
theorem dX8_inNumbers_99 : decode cX8_inNumbers 99 = .ok (.iconst 1, 1) := by decide +kernel
theorem dX8_inNumbers_100 : decode cX8_inNumbers 100 = .ok (.ireturn, 1) := by decide +kernel
theorem dX8_outNumbers_0 : decode cX8_outNumbers 0 = .ok (.iconst 1, 1) := by decide +kernel
theorem dX8_outNumbers_1 : decode cX8_outNumbers 1 = .ok (.istore_n 1, 1) := by decide +kernel
theorem dX8_outNumbers_2 : decode cX8_outNumbers 2 = .ok (.iload_n 1, 1) := by decide +kernel
theorem dX8_outNumbers_3 : decode cX8_outNumbers 3 = .ok (.bipush 6, 2) := by decide +kernel
theorem dX8_outNumbers_5 : decode cX8_outNumbers 5 = .ok (.if_icmp .ge 84, 3) := by decide +kernel
theorem dX8_outNumbers_8 : decode cX8_outNumbers 8 = .ok (.iload_n 1, 1) := by decide +kernel
theorem dX8_outNumbers_9 : decode cX8_outNumbers 9 = .ok (.iconst 3, 1) := by decide +kernel
theorem dX8_outNumbers_10 : decode cX8_outNumbers 10 = .ok (.if_icmp .le 7, 3) := by decide +kernel
theorem dX8_outNumbers_13 : decode cX8_outNumbers 13 = .ok (.iconst 1, 1) := by decide +kernel
theorem dX8_outNumbers_14 : decode cX8_outNumbers 14 = .ok (.goto 4, 3) := by decide +kernel
theorem dX8_outNumbers_17 : decode cX8_outNumbers 17 = .ok (.iconst 0, 1) := by decide +kernel
theorem dX8_outNumbers_18 : decode cX8_outNumbers 18 = .ok (.istore_n 2, 1) := by decide +kernel
theorem dX8_outNumbers_19 : decode cX8_outNumbers 19 = .ok (.iload_n 1, 1) := by decide +kernel
theorem dX8_outNumbers_20 : decode cX8_outNumbers 20 = .ok (.iconst 1, 1) := by decide +kernel
theorem dX8_outNumbers_21 : decode cX8_outNumbers 21 = .ok (.if_icmp .ne 8, 3) := by decide +kernel
theorem dX8_outNumbers_24 : decode cX8_outNumbers 24 = .ok (.bipush 99, 2) := by decide +kernel
theorem dX8_outNumbers_26 : decode cX8_outNumbers 26 = .ok (.goto 35, 3) := by decide +kernel
theorem dX8_outNumbers_29 : decode cX8_outNumbers 29 = .ok (.iload_n 1, 1) := by decide +kernel
theorem dX8_outNumbers_30 : decode cX8_outNumbers 30 = .ok (.iconst 2, 1) := by decide +kernel
theorem dX8_outNumbers_31 : decode cX8_outNumbers 31 = .ok (.if_icmp .ne 7, 3) := by decide +kernel
theorem dX8_outNumbers_34 : decode cX8_outNumbers 34 = .ok (.iconst 3, 1) := by decide +kernel
theorem dX8_outNumbers_35 : decode cX8_outNumbers 35 = .ok (.goto 26, 3) := by decide +kernel
theorem dX8_outNumbers_38 : decode cX8_outNumbers 38 = .ok (.iload_n 1, 1) := by decide +kernel
theorem dX8_outNumbers_39 : decode cX8_outNumbers 39 = .ok (.iconst 3, 1) := by decide +kernel
theorem dX8_outNumbers_40 : decode cX8_outNumbers 40 = .ok (.if_icmp .ne 9, 3) := by decide +kernel
theorem dX8_outNumbers_43 : decode cX8_outNumbers 43 = .ok (.sipush 199, 3) := by decide +kernel
theorem dX8_outNumbers_46 : decode cX8_outNumbers 46 = .ok (.goto 15, 3) := by decide +kernel
theorem dX8_outNumbers_49 : decode cX8_outNumbers 49 = .ok (.iload_n 1, 1) := by decide +kernel
theorem dX8_outNumbers_50 : decode cX8_outNumbers 50 = .ok (.iconst 4, 1) := by decide +kernel
theorem dX8_outNumbers_51 : decode cX8_outNumbers 51 = .ok (.if_icmp .ne 8, 3) := by decide +kernel
theorem dX8_outNumbers_54 : decode cX8_outNumbers 54 = .ok (.bipush 40, 2) := by decide +kernel
theorem dX8_outNumbers_56 : decode cX8_outNumbers 56 = .ok (.goto 5, 3) := by decide +kernel
theorem dX8_outNumbers_59 : decode cX8_outNumbers 59 = .ok (.bipush 9, 2) := by decide +kernel
theorem dX8_outNumbers_61 : decode cX8_outNumbers 61 = .ok (.istore_n 3, 1) := by decide +kernel
theorem dX8_outNumbers_62 : decode cX8_outNumbers 62 = .ok (.aload_n 0, 1) := by decide +kernel
theorem dX8_outNumbers_63 : decode cX8_outNumbers 63 = .ok (.iload_n 2, 1) := by decide +kernel
theorem dX8_outNumbers_64 : decode cX8_outNumbers 64 = .ok (.iload_n 3, 1) := by decide +kernel
theorem dX8_outNumbers_65 : decode cX8_outNumbers 65 = .ok (.invokevirtual 148, 3) := by decide +kernel
theorem dX8_outNumbers_68 : decode cX8_outNumbers 68 = .ok (.ifCond .ne 5, 3) := by decide +kernel
theorem dX8_outNumbers_71 : decode cX8_outNumbers 71 = .ok (.iconst 0, 1) := by decide +kernel
theorem dX8_outNumbers_72 : decode cX8_outNumbers 72 = .ok (.ireturn, 1) := by decide +kernel
theorem dX8_outNumbers_73 : decode cX8_outNumbers 73 = .ok (.aload_n 0, 1) := by decide +kernel
theorem dX8_outNumbers_74 : decode cX8_outNumbers 74 = .ok (.getfield 27, 3) := by decide +kernel
theorem dX8_outNumbers_77 : decode cX8_outNumbers 77 = .ok (.iload_n 1, 1) := by decide +kernel
theorem dX8_outNumbers_78 : decode cX8_outNumbers 78 = .ok (.aload_n 0, 1) := by decide +kernel
theorem dX8_outNumbers_79 : decode cX8_outNumbers 79 = .ok (.getfield 134, 3) := by decide +kernel
theorem dX8_outNumbers_82 : decode cX8_outNumbers 82 = .ok (.iastore, 1) := by decide +kernel
theorem dX8_outNumbers_83 : decode cX8_outNumbers 83 = .ok (.iinc 1 1, 3) := by decide +kernel
theorem dX8_outNumbers_86 : decode cX8_outNumbers 86 = .ok (.goto (-84), 3) := by decide +kernel
theorem dX8_outNumbers_89 : decode cX8_outNumbers 89 = .ok (.iconst 1, 1) := by decide +kernel
theorem dX8_outNumbers_90 : decode cX8_outNumbers 90 = .ok (.ireturn, 1) := by decide +kernel
theorem dX8_truckLine_0 : decode cX8_truckLine 0 = .ok (.aload_n 0, 1) := by decide +kernel
theorem dX8_truckLine_1 : decode cX8_truckLine 1 = .ok (.getfield 24, 3) := by decide +kernel
theorem dX8_truckLine_4 : decode cX8_truckLine 4 = .ok (.iconst 1, 1) := by decide +kernel
theorem dX8_truckLine_5 : decode cX8_truckLine 5 = .ok (.iaload, 1) := by decide +kernel
theorem dX8_truckLine_6 : decode cX8_truckLine 6 = .ok (.bipush 8, 2) := by decide +kernel
theorem dX8_truckLine_8 : decode cX8_truckLine 8 = .ok (.if_icmp .ge 7, 3) := by decide +kernel
theorem dX8_truckLine_11 : decode cX8_truckLine 11 = .ok (.iconst 1, 1) := by decide +kernel
theorem dX8_truckLine_12 : decode cX8_truckLine 12 = .ok (.goto 4, 3) := by decide +kernel
theorem dX8_truckLine_15 : decode cX8_truckLine 15 = .ok (.iconst 0, 1) := by decide +kernel
theorem dX8_truckLine_16 : decode cX8_truckLine 16 = .ok (.istore_n 2, 1) := by decide +kernel
theorem dX8_truckLine_17 : decode cX8_truckLine 17 = .ok (.aload_n 0, 1) := by decide +kernel
theorem dX8_truckLine_18 : decode cX8_truckLine 18 = .ok (.getfield 108, 3) := by decide +kernel
theorem dX8_truckLine_21 : decode cX8_truckLine 21 = .ok (.istore_n 3, 1) := by decide +kernel
theorem dX8_truckLine_22 : decode cX8_truckLine 22 = .ok (.iload_n 2, 1) := by decide +kernel
theorem dX8_truckLine_23 : decode cX8_truckLine 23 = .ok (.ifCond .ne 9, 3) := by decide +kernel
theorem dX8_truckLine_26 : decode cX8_truckLine 26 = .ok (.aload_n 0, 1) := by decide +kernel
theorem dX8_truckLine_27 : decode cX8_truckLine 27 = .ok (.iconst 3, 1) := by decide +kernel
theorem dX8_truckLine_28 : decode cX8_truckLine 28 = .ok (.iload_n 3, 1) := by decide +kernel
theorem dX8_truckLine_29 : decode cX8_truckLine 29 = .ok (.invokevirtual 137, 3) := by decide +kernel
theorem dX8_truckLine_32 : decode cX8_truckLine 32 = .ok (.aload_n 0, 1) := by decide +kernel
theorem dX8_truckLine_33 : decode cX8_truckLine 33 = .ok (.invokevirtual 141, 3) := by decide +kernel
theorem dX8_truckLine_36 : decode cX8_truckLine 36 = .ok (.aload_n 0, 1) := by decide +kernel
theorem dX8_truckLine_37 : decode cX8_truckLine 37 = .ok (.getfield 27, 3) := by decide +kernel
theorem dX8_truckLine_40 : decode cX8_truckLine 40 = .ok (.iconst 0, 1) := by decide +kernel
theorem dX8_truckLine_41 : decode cX8_truckLine 41 = .ok (.iload_n 1, 1) := by decide +kernel
theorem dX8_truckLine_42 : decode cX8_truckLine 42 = .ok (.ifCond .eq 7, 3) := by decide +kernel
theorem dX8_truckLine_45 : decode cX8_truckLine 45 = .ok (.iconst 1, 1) := by decide +kernel
theorem dX8_truckLine_46 : decode cX8_truckLine 46 = .ok (.goto 4, 3) := by decide +kernel
theorem dX8_truckLine_49 : decode cX8_truckLine 49 = .ok (.iconst 0, 1) := by decide +kernel
theorem dX8_truckLine_50 : decode cX8_truckLine 50 = .ok (.iastore, 1) := by decide +kernel
theorem dX8_truckLine_51 : decode cX8_truckLine 51 = .ok (.iload_n 1, 1) := by decide +kernel
theorem dX8_truckLine_52 : decode cX8_truckLine 52 = .ok (.ifCond .eq 13, 3) := by decide +kernel
theorem dX8_truckLine_55 : decode cX8_truckLine 55 = .ok (.aload_n 0, 1) := by decide +kernel
theorem dX8_truckLine_56 : decode cX8_truckLine 56 = .ok (.invokevirtual 156, 3) := by decide +kernel
theorem dX8_truckLine_59 : decode cX8_truckLine 59 = .ok (.ifCond .eq 13, 3) := by decide +kernel
theorem dX8_truckLine_62 : decode cX8_truckLine 62 = .ok (.goto 12, 3) := by decide +kernel
theorem dX8_truckLine_65 : decode cX8_truckLine 65 = .ok (.aload_n 0, 1) := by decide +kernel
theorem dX8_truckLine_66 : decode cX8_truckLine 66 = .ok (.invokevirtual 159, 3) := by decide +kernel
theorem dX8_truckLine_69 : decode cX8_truckLine 69 = .ok (.ifCond .ne 5, 3) := by decide +kernel
theorem dX8_truckLine_72 : decode cX8_truckLine 72 = .ok (.iconst 0, 1) := by decide +kernel
theorem dX8_truckLine_73 : decode cX8_truckLine 73 = .ok (.ireturn, 1) := by decide +kernel
theorem dX8_truckLine_74 : decode cX8_truckLine 74 = .ok (.iload_n 1, 1) := by decide +kernel
theorem dX8_truckLine_75 : decode cX8_truckLine 75 = .ok (.ifCond .eq 7, 3) := by decide +kernel
theorem dX8_truckLine_78 : decode cX8_truckLine 78 = .ok (.iconst 0, 1) := by decide +kernel
theorem dX8_truckLine_79 : decode cX8_truckLine 79 = .ok (.goto 30, 3) := by decide +kernel
theorem dX8_truckLine_82 : decode cX8_truckLine 82 = .ok (.aload_n 0, 1) := by decide +kernel
theorem dX8_truckLine_83 : decode cX8_truckLine 83 = .ok (.getfield 27, 3) := by decide +kernel
theorem dX8_truckLine_86 : decode cX8_truckLine 86 = .ok (.iconst 2, 1) := by decide +kernel
theorem dX8_truckLine_87 : decode cX8_truckLine 87 = .ok (.iaload, 1) := by decide +kernel
theorem dX8_truckLine_88 : decode cX8_truckLine 88 = .ok (.aload_n 0, 1) := by decide +kernel
theorem dX8_truckLine_89 : decode cX8_truckLine 89 = .ok (.getfield 27, 3) := by decide +kernel
theorem dX8_truckLine_92 : decode cX8_truckLine 92 = .ok (.iconst 3, 1) := by decide +kernel
theorem dX8_truckLine_93 : decode cX8_truckLine 93 = .ok (.iaload, 1) := by decide +kernel
theorem dX8_truckLine_94 : decode cX8_truckLine 94 = .ok (.iadd, 1) := by decide +kernel
theorem dX8_truckLine_95 : decode cX8_truckLine 95 = .ok (.aload_n 0, 1) := by decide +kernel
theorem dX8_truckLine_96 : decode cX8_truckLine 96 = .ok (.getfield 27, 3) := by decide +kernel
theorem dX8_truckLine_99 : decode cX8_truckLine 99 = .ok (.iconst 4, 1) := by decide +kernel
theorem dX8_truckLine_100 : decode cX8_truckLine 100 = .ok (.iaload, 1) := by decide +kernel
theorem dX8_truckLine_101 : decode cX8_truckLine 101 = .ok (.iadd, 1) := by decide +kernel
theorem dX8_truckLine_102 : decode cX8_truckLine 102 = .ok (.aload_n 0, 1) := by decide +kernel
theorem dX8_truckLine_103 : decode cX8_truckLine 103 = .ok (.getfield 27, 3) := by decide +kernel
theorem dX8_truckLine_106 : decode cX8_truckLine 106 = .ok (.iconst 5, 1) := by decide +kernel
theorem dX8_truckLine_107 : decode cX8_truckLine 107 = .ok (.iaload, 1) := by decide +kernel
theorem dX8_truckLine_108 : decode cX8_truckLine 108 = .ok (.iadd, 1) := by decide +kernel
theorem dX8_truckLine_109 : decode cX8_truckLine 109 = .ok (.istore 4, 2) := by decide +kernel
theorem dX8_truckLine_111 : decode cX8_truckLine 111 = .ok (.iload_n 1, 1) := by decide +kernel
theorem dX8_truckLine_112 : decode cX8_truckLine 112 = .ok (.ifCond .ne 33, 3) := by decide +kernel
theorem dX8_truckLine_115 : decode cX8_truckLine 115 = .ok (.iload 4, 2) := by decide +kernel
theorem dX8_truckLine_117 : decode cX8_truckLine 117 = .ok (.ifCond .ne 10, 3) := by decide +kernel
theorem dX8_truckLine_120 : decode cX8_truckLine 120 = .ok (.aload_n 0, 1) := by decide +kernel
theorem dX8_truckLine_121 : decode cX8_truckLine 121 = .ok (.getfield 152, 3) := by decide +kernel
theorem dX8_truckLine_124 : decode cX8_truckLine 124 = .ok (.ifCond .ne 15, 3) := by decide +kernel
theorem dX8_truckLine_127 : decode cX8_truckLine 127 = .ok (.aload_n 0, 1) := by decide +kernel
theorem dX8_truckLine_128 : decode cX8_truckLine 128 = .ok (.getfield 162, 3) := by decide +kernel
theorem dX8_truckLine_131 : decode cX8_truckLine 131 = .ok (.iload 4, 2) := by decide +kernel
theorem dX8_truckLine_133 : decode cX8_truckLine 133 = .ok (.iadd, 1) := by decide +kernel
theorem dX8_truckLine_134 : decode cX8_truckLine 134 = .ok (.bipush 40, 2) := by decide +kernel
theorem dX8_truckLine_136 : decode cX8_truckLine 136 = .ok (.if_icmp .le 9, 3) := by decide +kernel
theorem dX8_truckLine_139 : decode cX8_truckLine 139 = .ok (.aload_n 0, 1) := by decide +kernel
theorem dX8_truckLine_140 : decode cX8_truckLine 140 = .ok (.iconst 4, 1) := by decide +kernel
theorem dX8_truckLine_141 : decode cX8_truckLine 141 = .ok (.iload_n 3, 1) := by decide +kernel
theorem dX8_truckLine_142 : decode cX8_truckLine 142 = .ok (.invokevirtual 137, 3) := by decide +kernel
theorem dX8_truckLine_145 : decode cX8_truckLine 145 = .ok (.iload_n 2, 1) := by decide +kernel
theorem dX8_truckLine_146 : decode cX8_truckLine 146 = .ok (.ifCond .eq 67, 3) := by decide +kernel
theorem dX8_truckLine_149 : decode cX8_truckLine 149 = .ok (.aload_n 0, 1) := by decide +kernel
theorem dX8_truckLine_150 : decode cX8_truckLine 150 = .ok (.dup, 1) := by decide +kernel
theorem dX8_truckLine_151 : decode cX8_truckLine 151 = .ok (.getfield 162, 3) := by decide +kernel
theorem dX8_truckLine_154 : decode cX8_truckLine 154 = .ok (.iload 4, 2) := by decide +kernel
theorem dX8_truckLine_156 : decode cX8_truckLine 156 = .ok (.iadd, 1) := by decide +kernel
theorem dX8_truckLine_157 : decode cX8_truckLine 157 = .ok (.putfield 162, 3) := by decide +kernel
theorem dX8_truckLine_160 : decode cX8_truckLine 160 = .ok (.iconst 0, 1) := by decide +kernel
theorem dX8_truckLine_161 : decode cX8_truckLine 161 = .ok (.istore 5, 2) := by decide +kernel
theorem dX8_truckLine_163 : decode cX8_truckLine 163 = .ok (.iload 5, 2) := by decide +kernel
theorem dX8_truckLine_165 : decode cX8_truckLine 165 = .ok (.bipush 6, 2) := by decide +kernel
theorem dX8_truckLine_167 : decode cX8_truckLine 167 = .ok (.if_icmp .ge 36, 3) := by decide +kernel
theorem dX8_truckLine_170 : decode cX8_truckLine 170 = .ok (.aload_n 0, 1) := by decide +kernel
theorem dX8_truckLine_171 : decode cX8_truckLine 171 = .ok (.getfield 24, 3) := by decide +kernel
theorem dX8_truckLine_174 : decode cX8_truckLine 174 = .ok (.bipush 17, 2) := by decide +kernel
theorem dX8_truckLine_176 : decode cX8_truckLine 176 = .ok (.bipush 6, 2) := by decide +kernel
theorem dX8_truckLine_178 : decode cX8_truckLine 178 = .ok (.aload_n 0, 1) := by decide +kernel
theorem dX8_truckLine_179 : decode cX8_truckLine 179 = .ok (.getfield 24, 3) := by decide +kernel
theorem dX8_truckLine_182 : decode cX8_truckLine 182 = .ok (.iconst 1, 1) := by decide +kernel
theorem dX8_truckLine_183 : decode cX8_truckLine 183 = .ok (.iaload, 1) := by decide +kernel
theorem dX8_truckLine_184 : decode cX8_truckLine 184 = .ok (.imul, 1) := by decide +kernel
theorem dX8_truckLine_185 : decode cX8_truckLine 185 = .ok (.iadd, 1) := by decide +kernel
theorem dX8_truckLine_186 : decode cX8_truckLine 186 = .ok (.iload 5, 2) := by decide +kernel
theorem dX8_truckLine_188 : decode cX8_truckLine 188 = .ok (.iadd, 1) := by decide +kernel
theorem dX8_truckLine_189 : decode cX8_truckLine 189 = .ok (.aload_n 0, 1) := by decide +kernel
theorem dX8_truckLine_190 : decode cX8_truckLine 190 = .ok (.getfield 27, 3) := by decide +kernel
theorem dX8_truckLine_193 : decode cX8_truckLine 193 = .ok (.iload 5, 2) := by decide +kernel
theorem dX8_truckLine_195 : decode cX8_truckLine 195 = .ok (.iaload, 1) := by decide +kernel
theorem dX8_truckLine_196 : decode cX8_truckLine 196 = .ok (.iastore, 1) := by decide +kernel
theorem dX8_truckLine_197 : decode cX8_truckLine 197 = .ok (.iinc 5 1, 3) := by decide +kernel
theorem dX8_truckLine_200 : decode cX8_truckLine 200 = .ok (.goto (-37), 3) := by decide +kernel
theorem dX8_truckLine_203 : decode cX8_truckLine 203 = .ok (.aload_n 0, 1) := by decide +kernel
theorem dX8_truckLine_204 : decode cX8_truckLine 204 = .ok (.getfield 24, 3) := by decide +kernel
theorem dX8_truckLine_207 : decode cX8_truckLine 207 = .ok (.iconst 1, 1) := by decide +kernel
theorem dX8_truckLine_208 : decode cX8_truckLine 208 = .ok (.dup2, 1) := by decide +kernel
theorem dX8_truckLine_209 : decode cX8_truckLine 209 = .ok (.iaload, 1) := by decide +kernel
theorem dX8_truckLine_210 : decode cX8_truckLine 210 = .ok (.iconst 1, 1) := by decide +kernel
theorem dX8_truckLine_211 : decode cX8_truckLine 211 = .ok (.iadd, 1) := by decide +kernel
theorem dX8_truckLine_212 : decode cX8_truckLine 212 = .ok (.iastore, 1) := by decide +kernel
theorem dX8_truckLine_213 : decode cX8_truckLine 213 = .ok (.iconst 1, 1) := by decide +kernel
theorem dX8_truckLine_214 : decode cX8_truckLine 214 = .ok (.ireturn, 1) := by decide +kernel
theorem dX8_line_0 : decode cX8_line 0 = .ok (.aload_n 0, 1) := by decide +kernel
theorem dX8_line_1 : decode cX8_line 1 = .ok (.getfield 115, 3) := by decide +kernel
theorem dX8_line_4 : decode cX8_line 4 = .ok (.iconst 2, 1) := by decide +kernel
theorem dX8_line_5 : decode cX8_line 5 = .ok (.if_icmp .ne 10, 3) := by decide +kernel
theorem dX8_line_8 : decode cX8_line 8 = .ok (.aload_n 0, 1) := by decide +kernel
theorem dX8_line_9 : decode cX8_line 9 = .ok (.getfield 111, 3) := by decide +kernel
theorem dX8_line_12 : decode cX8_line 12 = .ok (.goto 4, 3) := by decide +kernel
theorem dX8_line_15 : decode cX8_line 15 = .ok (.lconst 0, 1) := by decide +kernel
theorem dX8_line_16 : decode cX8_line 16 = .ok (.lstore_n 1, 1) := by decide +kernel
theorem dX8_line_17 : decode cX8_line 17 = .ok (.lload_n 1, 1) := by decide +kernel
theorem dX8_line_18 : decode cX8_line 18 = .ok (.ldc2_w 165, 3) := by decide +kernel
theorem dX8_line_21 : decode cX8_line 21 = .ok (.lcmp, 1) := by decide +kernel
theorem dX8_line_22 : decode cX8_line 22 = .ok (.ifCond .ne 8, 3) := by decide +kernel
theorem dX8_line_25 : decode cX8_line 25 = .ok (.aload_n 0, 1) := by decide +kernel
theorem dX8_line_26 : decode cX8_line 26 = .ok (.invokevirtual 167, 3) := by decide +kernel
theorem dX8_line_29 : decode cX8_line 29 = .ok (.ireturn, 1) := by decide +kernel
theorem dX8_line_30 : decode cX8_line 30 = .ok (.lload_n 1, 1) := by decide +kernel
theorem dX8_line_31 : decode cX8_line 31 = .ok (.ldc2_w 144, 3) := by decide +kernel
theorem dX8_line_34 : decode cX8_line 34 = .ok (.lcmp, 1) := by decide +kernel
theorem dX8_line_35 : decode cX8_line 35 = .ok (.ifCond .eq 11, 3) := by decide +kernel
theorem dX8_line_38 : decode cX8_line 38 = .ok (.lload_n 1, 1) := by decide +kernel
theorem dX8_line_39 : decode cX8_line 39 = .ok (.ldc2_w 146, 3) := by decide +kernel
theorem dX8_line_42 : decode cX8_line 42 = .ok (.lcmp, 1) := by decide +kernel
theorem dX8_line_43 : decode cX8_line 43 = .ok (.ifCond .ne 21, 3) := by decide +kernel
theorem dX8_line_46 : decode cX8_line 46 = .ok (.aload_n 0, 1) := by decide +kernel
theorem dX8_line_47 : decode cX8_line 47 = .ok (.lload_n 1, 1) := by decide +kernel
theorem dX8_line_48 : decode cX8_line 48 = .ok (.ldc2_w 146, 3) := by decide +kernel
theorem dX8_line_51 : decode cX8_line 51 = .ok (.lcmp, 1) := by decide +kernel
theorem dX8_line_52 : decode cX8_line 52 = .ok (.ifCond .ne 7, 3) := by decide +kernel
theorem dX8_line_55 : decode cX8_line 55 = .ok (.iconst 1, 1) := by decide +kernel
theorem dX8_line_56 : decode cX8_line 56 = .ok (.goto 4, 3) := by decide +kernel
theorem dX8_line_59 : decode cX8_line 59 = .ok (.iconst 0, 1) := by decide +kernel
theorem dX8_line_60 : decode cX8_line 60 = .ok (.invokevirtual 170, 3) := by decide +kernel
theorem dX8_line_63 : decode cX8_line 63 = .ok (.ireturn, 1) := by decide +kernel
theorem dX8_line_64 : decode cX8_line 64 = .ok (.lload_n 1, 1) := by decide +kernel
theorem dX8_line_65 : decode cX8_line 65 = .ok (.ldc2_w 174, 3) := by decide +kernel
theorem dX8_line_68 : decode cX8_line 68 = .ok (.lcmp, 1) := by decide +kernel
theorem dX8_line_69 : decode cX8_line 69 = .ok (.ifCond .eq 16, 3) := by decide +kernel
theorem dX8_line_72 : decode cX8_line 72 = .ok (.lload_n 1, 1) := by decide +kernel
theorem dX8_line_73 : decode cX8_line 73 = .ok (.ldc2_w 176, 3) := by decide +kernel
theorem dX8_line_76 : decode cX8_line 76 = .ok (.lcmp, 1) := by decide +kernel
theorem dX8_line_77 : decode cX8_line 77 = .ok (.ifCond .eq 8, 3) := by decide +kernel
theorem dX8_line_80 : decode cX8_line 80 = .ok (.aload_n 0, 1) := by decide +kernel
theorem dX8_line_81 : decode cX8_line 81 = .ok (.invokevirtual 130, 3) := by decide +kernel
theorem dX8_line_84 : decode cX8_line 84 = .ok (.ireturn, 1) := by decide +kernel
theorem dX8_line_85 : decode cX8_line 85 = .ok (.aload_n 0, 1) := by decide +kernel
theorem dX8_line_86 : decode cX8_line 86 = .ok (.invokevirtual 141, 3) := by decide +kernel
theorem dX8_line_89 : decode cX8_line 89 = .ok (.aload_n 0, 1) := by decide +kernel
theorem dX8_line_90 : decode cX8_line 90 = .ok (.iconst 0, 1) := by decide +kernel
theorem dX8_line_91 : decode cX8_line 91 = .ok (.lload_n 1, 1) := by decide +kernel
theorem dX8_line_92 : decode cX8_line 92 = .ok (.ldc2_w 174, 3) := by decide +kernel
theorem dX8_line_95 : decode cX8_line 95 = .ok (.lcmp, 1) := by decide +kernel
theorem dX8_line_96 : decode cX8_line 96 = .ok (.ifCond .ne 8, 3) := by decide +kernel
theorem dX8_line_99 : decode cX8_line 99 = .ok (.bipush 40, 2) := by decide +kernel
theorem dX8_line_101 : decode cX8_line 101 = .ok (.goto 5, 3) := by decide +kernel
theorem dX8_line_104 : decode cX8_line 104 = .ok (.bipush 9, 2) := by decide +kernel
theorem dX8_line_106 : decode cX8_line 106 = .ok (.invokevirtual 148, 3) := by decide +kernel
theorem dX8_line_109 : decode cX8_line 109 = .ok (.istore_n 3, 1) := by decide +kernel
theorem dX8_line_110 : decode cX8_line 110 = .ok (.aload_n 0, 1) := by decide +kernel
theorem dX8_line_111 : decode cX8_line 111 = .ok (.getfield 24, 3) := by decide +kernel
theorem dX8_line_114 : decode cX8_line 114 = .ok (.lload_n 1, 1) := by decide +kernel
theorem dX8_line_115 : decode cX8_line 115 = .ok (.ldc2_w 174, 3) := by decide +kernel
theorem dX8_line_118 : decode cX8_line 118 = .ok (.lcmp, 1) := by decide +kernel
theorem dX8_line_119 : decode cX8_line 119 = .ok (.ifCond .ne 7, 3) := by decide +kernel
theorem dX8_line_122 : decode cX8_line 122 = .ok (.iconst 2, 1) := by decide +kernel
theorem dX8_line_123 : decode cX8_line 123 = .ok (.goto 4, 3) := by decide +kernel
theorem dX8_line_126 : decode cX8_line 126 = .ok (.iconst 3, 1) := by decide +kernel
theorem dX8_line_127 : decode cX8_line 127 = .ok (.aload_n 0, 1) := by decide +kernel
theorem dX8_line_128 : decode cX8_line 128 = .ok (.getfield 134, 3) := by decide +kernel
theorem dX8_line_131 : decode cX8_line 131 = .ok (.iastore, 1) := by decide +kernel
theorem dX8_line_132 : decode cX8_line 132 = .ok (.iload_n 3, 1) := by decide +kernel
theorem dX8_line_133 : decode cX8_line 133 = .ok (.ireturn, 1) := by decide +kernel
theorem dX8_read_0 : decode cX8_read 0 = .ok (.aload_n 0, 1) := by decide +kernel
theorem dX8_read_1 : decode cX8_read 1 = .ok (.iconst 0, 1) := by decide +kernel
theorem dX8_read_2 : decode cX8_read 2 = .ok (.putfield 84, 3) := by decide +kernel
theorem dX8_read_5 : decode cX8_read 5 = .ok (.aload_n 0, 1) := by decide +kernel
theorem dX8_read_6 : decode cX8_read 6 = .ok (.aload_n 0, 1) := by decide +kernel
theorem dX8_read_7 : decode cX8_read 7 = .ok (.getfield 7, 3) := by decide +kernel
theorem dX8_read_10 : decode cX8_read 10 = .ok (.bipush 119, 2) := by decide +kernel
theorem dX8_read_12 : decode cX8_read 12 = .ok (.iaload, 1) := by decide +kernel
theorem dX8_read_13 : decode cX8_read 13 = .ok (.putfield 101, 3) := by decide +kernel
theorem dX8_read_16 : decode cX8_read 16 = .ok (.aload_n 0, 1) := by decide +kernel
theorem dX8_read_17 : decode cX8_read 17 = .ok (.getfield 7, 3) := by decide +kernel
theorem dX8_read_20 : decode cX8_read 20 = .ok (.bipush 119, 2) := by decide +kernel
theorem dX8_read_22 : decode cX8_read 22 = .ok (.iconst 0, 1) := by decide +kernel
theorem dX8_read_23 : decode cX8_read 23 = .ok (.iastore, 1) := by decide +kernel
theorem dX8_read_24 : decode cX8_read 24 = .ok (.iconst 0, 1) := by decide +kernel
theorem dX8_read_25 : decode cX8_read 25 = .ok (.istore_n 1, 1) := by decide +kernel
theorem dX8_read_26 : decode cX8_read 26 = .ok (.iload_n 1, 1) := by decide +kernel
theorem dX8_read_27 : decode cX8_read 27 = .ok (.bipush 119, 2) := by decide +kernel
theorem dX8_read_29 : decode cX8_read 29 = .ok (.if_icmp .ge 16, 3) := by decide +kernel
theorem dX8_read_32 : decode cX8_read 32 = .ok (.aload_n 0, 1) := by decide +kernel
theorem dX8_read_33 : decode cX8_read 33 = .ok (.getfield 24, 3) := by decide +kernel
theorem dX8_read_36 : decode cX8_read 36 = .ok (.iload_n 1, 1) := by decide +kernel
theorem dX8_read_37 : decode cX8_read 37 = .ok (.iconst 0, 1) := by decide +kernel
theorem dX8_read_38 : decode cX8_read 38 = .ok (.iastore, 1) := by decide +kernel
theorem dX8_read_39 : decode cX8_read 39 = .ok (.iinc 1 1, 3) := by decide +kernel
theorem dX8_read_42 : decode cX8_read 42 = .ok (.goto (-16), 3) := by decide +kernel
theorem dX8_read_45 : decode cX8_read 45 = .ok (.aload_n 0, 1) := by decide +kernel
theorem dX8_read_46 : decode cX8_read 46 = .ok (.getfield 24, 3) := by decide +kernel
theorem dX8_read_49 : decode cX8_read 49 = .ok (.iconst 2, 1) := by decide +kernel
theorem dX8_read_50 : decode cX8_read 50 = .ok (.bipush 10, 2) := by decide +kernel
theorem dX8_read_52 : decode cX8_read 52 = .ok (.iastore, 1) := by decide +kernel
theorem dX8_read_53 : decode cX8_read 53 = .ok (.aload_n 0, 1) := by decide +kernel
theorem dX8_read_54 : decode cX8_read 54 = .ok (.getfield 24, 3) := by decide +kernel
theorem dX8_read_57 : decode cX8_read 57 = .ok (.iconst 3, 1) := by decide +kernel
theorem dX8_read_58 : decode cX8_read 58 = .ok (.iconst 2, 1) := by decide +kernel
theorem dX8_read_59 : decode cX8_read 59 = .ok (.iastore, 1) := by decide +kernel
theorem dX8_read_60 : decode cX8_read 60 = .ok (.aload_n 0, 1) := by decide +kernel
theorem dX8_read_61 : decode cX8_read 61 = .ok (.iconst 0, 1) := by decide +kernel
theorem dX8_read_62 : decode cX8_read 62 = .ok (.putfield 162, 3) := by decide +kernel
theorem dX8_read_65 : decode cX8_read 65 = .ok (.aload_n 0, 1) := by decide +kernel
theorem dX8_read_66 : decode cX8_read 66 = .ok (.iconst 0, 1) := by decide +kernel
theorem dX8_read_67 : decode cX8_read 67 = .ok (.putfield 124, 3) := by decide +kernel
theorem dX8_read_70 : decode cX8_read 70 = .ok (.aload_n 0, 1) := by decide +kernel
theorem dX8_read_71 : decode cX8_read 71 = .ok (.iconst (-1), 1) := by decide +kernel
theorem dX8_read_72 : decode cX8_read 72 = .ok (.putfield 127, 3) := by decide +kernel
theorem dX8_read_75 : decode cX8_read 75 = .ok (.aload_n 0, 1) := by decide +kernel
theorem dX8_read_76 : decode cX8_read 76 = .ok (.iconst 0, 1) := by decide +kernel
theorem dX8_read_77 : decode cX8_read 77 = .ok (.putfield 98, 3) := by decide +kernel
theorem dX8_read_80 : decode cX8_read 80 = .ok (.aload_n 0, 1) := by decide +kernel
theorem dX8_read_81 : decode cX8_read 81 = .ok (.invokevirtual 141, 3) := by decide +kernel
theorem dX8_read_84 : decode cX8_read 84 = .ok (.iconst 1, 1) := by decide +kernel
theorem dX8_read_85 : decode cX8_read 85 = .ok (.istore_n 1, 1) := by decide +kernel
theorem dX8_read_86 : decode cX8_read 86 = .ok (.iload_n 1, 1) := by decide +kernel
theorem dX8_read_87 : decode cX8_read 87 = .ok (.ifCond .eq 43, 3) := by decide +kernel
theorem dX8_read_90 : decode cX8_read 90 = .ok (.aload_n 0, 1) := by decide +kernel
theorem dX8_read_91 : decode cX8_read 91 = .ok (.getfield 115, 3) := by decide +kernel
theorem dX8_read_94 : decode cX8_read 94 = .ok (.ifCond .eq 36, 3) := by decide +kernel
theorem dX8_read_97 : decode cX8_read 97 = .ok (.aload_n 0, 1) := by decide +kernel
theorem dX8_read_98 : decode cX8_read 98 = .ok (.invokevirtual 178, 3) := by decide +kernel
theorem dX8_read_101 : decode cX8_read 101 = .ok (.istore_n 1, 1) := by decide +kernel
theorem dX8_read_102 : decode cX8_read 102 = .ok (.iload_n 1, 1) := by decide +kernel
theorem dX8_read_103 : decode cX8_read 103 = .ok (.ifCond .eq 16, 3) := by decide +kernel
theorem dX8_read_106 : decode cX8_read 106 = .ok (.aload_n 0, 1) := by decide +kernel
theorem dX8_read_107 : decode cX8_read 107 = .ok (.getfield 115, 3) := by decide +kernel
theorem dX8_read_110 : decode cX8_read 110 = .ok (.iconst 4, 1) := by decide +kernel
theorem dX8_read_111 : decode cX8_read 111 = .ok (.if_icmp .eq 8, 3) := by decide +kernel
theorem dX8_read_114 : decode cX8_read 114 = .ok (.aload_n 0, 1) := by decide +kernel
theorem dX8_read_115 : decode cX8_read 115 = .ok (.invokevirtual 130, 3) := by decide +kernel
theorem dX8_read_118 : decode cX8_read 118 = .ok (.istore_n 1, 1) := by decide +kernel
theorem dX8_read_119 : decode cX8_read 119 = .ok (.iload_n 1, 1) := by decide +kernel
theorem dX8_read_120 : decode cX8_read 120 = .ok (.ifCond .eq (-34), 3) := by decide +kernel
theorem dX8_read_123 : decode cX8_read 123 = .ok (.aload_n 0, 1) := by decide +kernel
theorem dX8_read_124 : decode cX8_read 124 = .ok (.invokevirtual 141, 3) := by decide +kernel
theorem dX8_read_127 : decode cX8_read 127 = .ok (.goto (-41), 3) := by decide +kernel
theorem dX8_read_130 : decode cX8_read 130 = .ok (.aload_n 0, 1) := by decide +kernel
theorem dX8_read_131 : decode cX8_read 131 = .ok (.getfield 7, 3) := by decide +kernel
theorem dX8_read_134 : decode cX8_read 134 = .ok (.bipush 120, 2) := by decide +kernel
theorem dX8_read_136 : decode cX8_read 136 = .ok (.iload_n 1, 1) := by decide +kernel
theorem dX8_read_137 : decode cX8_read 137 = .ok (.ifCond .eq 10, 3) := by decide +kernel
theorem dX8_read_140 : decode cX8_read 140 = .ok (.aload_n 0, 1) := by decide +kernel
theorem dX8_read_141 : decode cX8_read 141 = .ok (.getfield 124, 3) := by decide +kernel
theorem dX8_read_144 : decode cX8_read 144 = .ok (.goto 4, 3) := by decide +kernel
theorem dX8_read_147 : decode cX8_read 147 = .ok (.iconst 1, 1) := by decide +kernel
theorem dX8_read_148 : decode cX8_read 148 = .ok (.iastore, 1) := by decide +kernel
theorem dX8_read_149 : decode cX8_read 149 = .ok (.aload_n 0, 1) := by decide +kernel
theorem dX8_read_150 : decode cX8_read 150 = .ok (.getfield 7, 3) := by decide +kernel
theorem dX8_read_153 : decode cX8_read 153 = .ok (.bipush 121, 2) := by decide +kernel
theorem dX8_read_155 : decode cX8_read 155 = .ok (.iload_n 1, 1) := by decide +kernel
theorem dX8_read_156 : decode cX8_read 156 = .ok (.ifCond .eq 10, 3) := by decide +kernel
theorem dX8_read_159 : decode cX8_read 159 = .ok (.aload_n 0, 1) := by decide +kernel
theorem dX8_read_160 : decode cX8_read 160 = .ok (.getfield 127, 3) := by decide +kernel
theorem dX8_read_163 : decode cX8_read 163 = .ok (.goto 7, 3) := by decide +kernel
theorem dX8_read_166 : decode cX8_read 166 = .ok (.aload_n 0, 1) := by decide +kernel
theorem dX8_read_167 : decode cX8_read 167 = .ok (.getfield 121, 3) := by decide +kernel
theorem dX8_read_170 : decode cX8_read 170 = .ok (.iastore, 1) := by decide +kernel
theorem dX8_read_171 : decode cX8_read 171 = .ok (.aload_n 0, 1) := by decide +kernel
theorem dX8_read_172 : decode cX8_read 172 = .ok (.getfield 7, 3) := by decide +kernel
theorem dX8_read_175 : decode cX8_read 175 = .ok (.bipush 120, 2) := by decide +kernel
theorem dX8_read_177 : decode cX8_read 177 = .ok (.iaload, 1) := by decide +kernel
theorem dX8_read_178 : decode cX8_read 178 = .ok (.ifCond .eq 5, 3) := by decide +kernel
theorem dX8_read_181 : decode cX8_read 181 = .ok (.iconst (-1), 1) := by decide +kernel
theorem dX8_read_182 : decode cX8_read 182 = .ok (.ireturn, 1) := by decide +kernel
theorem dX8_read_183 : decode cX8_read 183 = .ok (.iconst 0, 1) := by decide +kernel
theorem dX8_read_184 : decode cX8_read 184 = .ok (.istore_n 2, 1) := by decide +kernel
theorem dX8_read_185 : decode cX8_read 185 = .ok (.iload_n 2, 1) := by decide +kernel
theorem dX8_read_186 : decode cX8_read 186 = .ok (.bipush 119, 2) := by decide +kernel
theorem dX8_read_188 : decode cX8_read 188 = .ok (.if_icmp .ge 21, 3) := by decide +kernel
theorem dX8_read_191 : decode cX8_read 191 = .ok (.aload_n 0, 1) := by decide +kernel
theorem dX8_read_192 : decode cX8_read 192 = .ok (.getfield 7, 3) := by decide +kernel
theorem dX8_read_195 : decode cX8_read 195 = .ok (.iload_n 2, 1) := by decide +kernel
theorem dX8_read_196 : decode cX8_read 196 = .ok (.aload_n 0, 1) := by decide +kernel
theorem dX8_read_197 : decode cX8_read 197 = .ok (.getfield 24, 3) := by decide +kernel
theorem dX8_read_200 : decode cX8_read 200 = .ok (.iload_n 2, 1) := by decide +kernel
theorem dX8_read_201 : decode cX8_read 201 = .ok (.iaload, 1) := by decide +kernel
theorem dX8_read_202 : decode cX8_read 202 = .ok (.iastore, 1) := by decide +kernel
theorem dX8_read_203 : decode cX8_read 203 = .ok (.iinc 2 1, 3) := by decide +kernel
theorem dX8_read_206 : decode cX8_read 206 = .ok (.goto (-21), 3) := by decide +kernel
theorem dX8_read_209 : decode cX8_read 209 = .ok (.aload_n 0, 1) := by decide +kernel
theorem dX8_read_210 : decode cX8_read 210 = .ok (.iconst 0, 1) := by decide +kernel
theorem dX8_read_211 : decode cX8_read 211 = .ok (.putfield 181, 3) := by decide +kernel
theorem dX8_read_214 : decode cX8_read 214 = .ok (.aload_n 0, 1) := by decide +kernel
theorem dX8_read_215 : decode cX8_read 215 = .ok (.invokevirtual 184, 3) := by decide +kernel
theorem dX8_read_218 : decode cX8_read 218 = .ok (.aload_n 0, 1) := by decide +kernel
theorem dX8_read_219 : decode cX8_read 219 = .ok (.getfield 7, 3) := by decide +kernel
theorem dX8_read_222 : decode cX8_read 222 = .ok (.iconst 1, 1) := by decide +kernel
theorem dX8_read_223 : decode cX8_read 223 = .ok (.iaload, 1) := by decide +kernel
theorem dX8_read_224 : decode cX8_read 224 = .ok (.ireturn, 1) := by decide +kernel
theorem dX8_fault_0 : decode cX8_fault 0 = .ok (.aload_n 0, 1) := by decide +kernel
theorem dX8_fault_1 : decode cX8_fault 1 = .ok (.iconst 0, 1) := by decide +kernel
theorem dX8_fault_2 : decode cX8_fault 2 = .ok (.putfield 84, 3) := by decide +kernel
theorem dX8_fault_5 : decode cX8_fault 5 = .ok (.iload_n 1, 1) := by decide +kernel
theorem dX8_fault_6 : decode cX8_fault 6 = .ok (.ifCond .eq 13, 3) := by decide +kernel
theorem dX8_fault_9 : decode cX8_fault 9 = .ok (.aload_n 0, 1) := by decide +kernel
theorem dX8_fault_10 : decode cX8_fault 10 = .ok (.getfield 7, 3) := by decide +kernel
theorem dX8_fault_13 : decode cX8_fault 13 = .ok (.bipush 121, 2) := by decide +kernel
theorem dX8_fault_15 : decode cX8_fault 15 = .ok (.iaload, 1) := by decide +kernel
theorem dX8_fault_16 : decode cX8_fault 16 = .ok (.goto 10, 3) := by decide +kernel
theorem dX8_fault_19 : decode cX8_fault 19 = .ok (.aload_n 0, 1) := by decide +kernel
theorem dX8_fault_20 : decode cX8_fault 20 = .ok (.getfield 7, 3) := by decide +kernel
theorem dX8_fault_23 : decode cX8_fault 23 = .ok (.bipush 120, 2) := by decide +kernel
theorem dX8_fault_25 : decode cX8_fault 25 = .ok (.iaload, 1) := by decide +kernel
theorem dX8_fault_26 : decode cX8_fault 26 = .ok (.ireturn, 1) := by decide +kernel
theorem dX8_fewest_0 : decode cX8_fewest 0 = .ok (.iconst (-1), 1) := by decide +kernel
theorem dX8_fewest_1 : decode cX8_fewest 1 = .ok (.istore_n 2, 1) := by decide +kernel
theorem dX8_fewest_2 : decode cX8_fewest 2 = .ok (.iconst 0, 1) := by decide +kernel
theorem dX8_fewest_3 : decode cX8_fewest 3 = .ok (.istore_n 3, 1) := by decide +kernel
theorem dX8_fewest_4 : decode cX8_fewest 4 = .ok (.iload_n 3, 1) := by decide +kernel
theorem dX8_fewest_5 : decode cX8_fewest 5 = .ok (.aload_n 0, 1) := by decide +kernel
theorem dX8_fewest_6 : decode cX8_fewest 6 = .ok (.getfield 7, 3) := by decide +kernel
theorem dX8_fewest_9 : decode cX8_fewest 9 = .ok (.iconst 0, 1) := by decide +kernel
theorem dX8_fewest_10 : decode cX8_fewest 10 = .ok (.iaload, 1) := by decide +kernel
theorem dX8_fewest_11 : decode cX8_fewest 11 = .ok (.if_icmp .ge 38, 3) := by decide +kernel
theorem dX8_fewest_14 : decode cX8_fewest 14 = .ok (.aload_n 0, 1) := by decide +kernel
theorem dX8_fewest_15 : decode cX8_fewest 15 = .ok (.iload_n 3, 1) := by decide +kernel
theorem dX8_fewest_16 : decode cX8_fewest 16 = .ok (.invokevirtual 187, 3) := by decide +kernel
theorem dX8_fewest_19 : decode cX8_fewest 19 = .ok (.iload_n 1, 1) := by decide +kernel
theorem dX8_fewest_20 : decode cX8_fewest 20 = .ok (.if_icmp .ne 23, 3) := by decide +kernel
theorem dX8_fewest_23 : decode cX8_fewest 23 = .ok (.iload_n 2, 1) := by decide +kernel
theorem dX8_fewest_24 : decode cX8_fewest 24 = .ok (.iconst (-1), 1) := by decide +kernel
theorem dX8_fewest_25 : decode cX8_fewest 25 = .ok (.if_icmp .eq 16, 3) := by decide +kernel
theorem dX8_fewest_28 : decode cX8_fewest 28 = .ok (.aload_n 0, 1) := by decide +kernel
theorem dX8_fewest_29 : decode cX8_fewest 29 = .ok (.iload_n 3, 1) := by decide +kernel
theorem dX8_fewest_30 : decode cX8_fewest 30 = .ok (.invokevirtual 191, 3) := by decide +kernel
theorem dX8_fewest_33 : decode cX8_fewest 33 = .ok (.aload_n 0, 1) := by decide +kernel
theorem dX8_fewest_34 : decode cX8_fewest 34 = .ok (.iload_n 2, 1) := by decide +kernel
theorem dX8_fewest_35 : decode cX8_fewest 35 = .ok (.invokevirtual 191, 3) := by decide +kernel
theorem dX8_fewest_38 : decode cX8_fewest 38 = .ok (.if_icmp .ge 5, 3) := by decide +kernel
theorem dX8_fewest_41 : decode cX8_fewest 41 = .ok (.iload_n 3, 1) := by decide +kernel
theorem dX8_fewest_42 : decode cX8_fewest 42 = .ok (.istore_n 2, 1) := by decide +kernel
theorem dX8_fewest_43 : decode cX8_fewest 43 = .ok (.iinc 3 1, 3) := by decide +kernel
theorem dX8_fewest_46 : decode cX8_fewest 46 = .ok (.goto (-42), 3) := by decide +kernel
theorem dX8_fewest_49 : decode cX8_fewest 49 = .ok (.iload_n 2, 1) := by decide +kernel
theorem dX8_fewest_50 : decode cX8_fewest 50 = .ok (.ireturn, 1) := by decide +kernel
theorem dX8_firstPlan_0 : decode cX8_firstPlan 0 = .ok (.iconst 0, 1) := by decide +kernel
theorem dX8_firstPlan_1 : decode cX8_firstPlan 1 = .ok (.istore_n 1, 1) := by decide +kernel
theorem dX8_firstPlan_2 : decode cX8_firstPlan 2 = .ok (.iload_n 1, 1) := by decide +kernel
theorem dX8_firstPlan_3 : decode cX8_firstPlan 3 = .ok (.bipush 99, 2) := by decide +kernel
theorem dX8_firstPlan_5 : decode cX8_firstPlan 5 = .ok (.if_icmp .gt 88, 3) := by decide +kernel
theorem dX8_firstPlan_8 : decode cX8_firstPlan 8 = .ok (.iconst 0, 1) := by decide +kernel
theorem dX8_firstPlan_9 : decode cX8_firstPlan 9 = .ok (.istore_n 2, 1) := by decide +kernel
theorem dX8_firstPlan_10 : decode cX8_firstPlan 10 = .ok (.iload_n 2, 1) := by decide +kernel
theorem dX8_firstPlan_11 : decode cX8_firstPlan 11 = .ok (.aload_n 0, 1) := by decide +kernel
theorem dX8_firstPlan_12 : decode cX8_firstPlan 12 = .ok (.getfield 7, 3) := by decide +kernel
theorem dX8_firstPlan_15 : decode cX8_firstPlan 15 = .ok (.iconst 1, 1) := by decide +kernel
theorem dX8_firstPlan_16 : decode cX8_firstPlan 16 = .ok (.iaload, 1) := by decide +kernel
theorem dX8_firstPlan_17 : decode cX8_firstPlan 17 = .ok (.if_icmp .ge 70, 3) := by decide +kernel
theorem dX8_firstPlan_20 : decode cX8_firstPlan 20 = .ok (.aload_n 0, 1) := by decide +kernel
theorem dX8_firstPlan_21 : decode cX8_firstPlan 21 = .ok (.iload_n 2, 1) := by decide +kernel
theorem dX8_firstPlan_22 : decode cX8_firstPlan 22 = .ok (.iconst 1, 1) := by decide +kernel
theorem dX8_firstPlan_23 : decode cX8_firstPlan 23 = .ok (.invokevirtual 92, 3) := by decide +kernel
theorem dX8_firstPlan_26 : decode cX8_firstPlan 26 = .ok (.iload_n 1, 1) := by decide +kernel
theorem dX8_firstPlan_27 : decode cX8_firstPlan 27 = .ok (.if_icmp .ne 15, 3) := by decide +kernel
theorem dX8_firstPlan_30 : decode cX8_firstPlan 30 = .ok (.aload_n 0, 1) := by decide +kernel
theorem dX8_firstPlan_31 : decode cX8_firstPlan 31 = .ok (.aload_n 0, 1) := by decide +kernel
theorem dX8_firstPlan_32 : decode cX8_firstPlan 32 = .ok (.iload_n 2, 1) := by decide +kernel
theorem dX8_firstPlan_33 : decode cX8_firstPlan 33 = .ok (.invokevirtual 195, 3) := by decide +kernel
theorem dX8_firstPlan_36 : decode cX8_firstPlan 36 = .ok (.invokevirtual 198, 3) := by decide +kernel
theorem dX8_firstPlan_39 : decode cX8_firstPlan 39 = .ok (.goto 4, 3) := by decide +kernel
theorem dX8_firstPlan_42 : decode cX8_firstPlan 42 = .ok (.iconst (-1), 1) := by decide +kernel
theorem dX8_firstPlan_43 : decode cX8_firstPlan 43 = .ok (.istore_n 3, 1) := by decide +kernel
theorem dX8_firstPlan_44 : decode cX8_firstPlan 44 = .ok (.iload_n 3, 1) := by decide +kernel
theorem dX8_firstPlan_45 : decode cX8_firstPlan 45 = .ok (.iconst (-1), 1) := by decide +kernel
theorem dX8_firstPlan_46 : decode cX8_firstPlan 46 = .ok (.if_icmp .eq 35, 3) := by decide +kernel
theorem dX8_firstPlan_49 : decode cX8_firstPlan 49 = .ok (.aload_n 0, 1) := by decide +kernel
theorem dX8_firstPlan_50 : decode cX8_firstPlan 50 = .ok (.getfield 7, 3) := by decide +kernel
theorem dX8_firstPlan_53 : decode cX8_firstPlan 53 = .ok (.bipush 71, 2) := by decide +kernel
theorem dX8_firstPlan_55 : decode cX8_firstPlan 55 = .ok (.bipush 8, 2) := by decide +kernel
theorem dX8_firstPlan_57 : decode cX8_firstPlan 57 = .ok (.iload_n 3, 1) := by decide +kernel
theorem dX8_firstPlan_58 : decode cX8_firstPlan 58 = .ok (.imul, 1) := by decide +kernel
theorem dX8_firstPlan_59 : decode cX8_firstPlan 59 = .ok (.iadd, 1) := by decide +kernel
theorem dX8_firstPlan_60 : decode cX8_firstPlan 60 = .ok (.aload_n 0, 1) := by decide +kernel
theorem dX8_firstPlan_61 : decode cX8_firstPlan 61 = .ok (.iload_n 3, 1) := by decide +kernel
theorem dX8_firstPlan_62 : decode cX8_firstPlan 62 = .ok (.invokevirtual 191, 3) := by decide +kernel
theorem dX8_firstPlan_65 : decode cX8_firstPlan 65 = .ok (.iadd, 1) := by decide +kernel
theorem dX8_firstPlan_66 : decode cX8_firstPlan 66 = .ok (.iload_n 2, 1) := by decide +kernel
theorem dX8_firstPlan_67 : decode cX8_firstPlan 67 = .ok (.iastore, 1) := by decide +kernel
theorem dX8_firstPlan_68 : decode cX8_firstPlan 68 = .ok (.aload_n 0, 1) := by decide +kernel
theorem dX8_firstPlan_69 : decode cX8_firstPlan 69 = .ok (.getfield 7, 3) := by decide +kernel
theorem dX8_firstPlan_72 : decode cX8_firstPlan 72 = .ok (.bipush 65, 2) := by decide +kernel
theorem dX8_firstPlan_74 : decode cX8_firstPlan 74 = .ok (.iload_n 3, 1) := by decide +kernel
theorem dX8_firstPlan_75 : decode cX8_firstPlan 75 = .ok (.iadd, 1) := by decide +kernel
theorem dX8_firstPlan_76 : decode cX8_firstPlan 76 = .ok (.dup2, 1) := by decide +kernel
theorem dX8_firstPlan_77 : decode cX8_firstPlan 77 = .ok (.iaload, 1) := by decide +kernel
theorem dX8_firstPlan_78 : decode cX8_firstPlan 78 = .ok (.iconst 1, 1) := by decide +kernel
theorem dX8_firstPlan_79 : decode cX8_firstPlan 79 = .ok (.iadd, 1) := by decide +kernel
theorem dX8_firstPlan_80 : decode cX8_firstPlan 80 = .ok (.iastore, 1) := by decide +kernel
theorem dX8_firstPlan_81 : decode cX8_firstPlan 81 = .ok (.iinc 2 1, 3) := by decide +kernel
theorem dX8_firstPlan_84 : decode cX8_firstPlan 84 = .ok (.goto (-74), 3) := by decide +kernel
theorem dX8_firstPlan_87 : decode cX8_firstPlan 87 = .ok (.iinc 1 1, 3) := by decide +kernel
theorem dX8_firstPlan_90 : decode cX8_firstPlan 90 = .ok (.goto (-88), 3) := by decide +kernel
theorem dX8_firstPlan_93 : decode cX8_firstPlan 93 = .ok (.return_, 1) := by decide +kernel
theorem dX8_laysCartons_0 : decode cX8_laysCartons 0 = .ok (.aload_n 0, 1) := by decide +kernel
theorem dX8_laysCartons_1 : decode cX8_laysCartons 1 = .ok (.iconst 0, 1) := by decide +kernel
theorem dX8_laysCartons_2 : decode cX8_laysCartons 2 = .ok (.putfield 202, 3) := by decide +kernel
theorem dX8_laysCartons_5 : decode cX8_laysCartons 5 = .ok (.iconst 0, 1) := by decide +kernel
theorem dX8_laysCartons_6 : decode cX8_laysCartons 6 = .ok (.istore_n 1, 1) := by decide +kernel
theorem dX8_laysCartons_7 : decode cX8_laysCartons 7 = .ok (.iload_n 1, 1) := by decide +kernel
theorem dX8_laysCartons_8 : decode cX8_laysCartons 8 = .ok (.aload_n 0, 1) := by decide +kernel
theorem dX8_laysCartons_9 : decode cX8_laysCartons 9 = .ok (.getfield 7, 3) := by decide +kernel
theorem dX8_laysCartons_12 : decode cX8_laysCartons 12 = .ok (.iconst 1, 1) := by decide +kernel
theorem dX8_laysCartons_13 : decode cX8_laysCartons 13 = .ok (.iaload, 1) := by decide +kernel
theorem dX8_laysCartons_14 : decode cX8_laysCartons 14 = .ok (.if_icmp .ge 155, 3) := by decide +kernel
theorem dX8_laysCartons_17 : decode cX8_laysCartons 17 = .ok (.aload_n 0, 1) := by decide +kernel
theorem dX8_laysCartons_18 : decode cX8_laysCartons 18 = .ok (.getfield 48, 3) := by decide +kernel
theorem dX8_laysCartons_21 : decode cX8_laysCartons 21 = .ok (.iload_n 1, 1) := by decide +kernel
theorem dX8_laysCartons_22 : decode cX8_laysCartons 22 = .ok (.iconst (-1), 1) := by decide +kernel
theorem dX8_laysCartons_23 : decode cX8_laysCartons 23 = .ok (.iastore, 1) := by decide +kernel
theorem dX8_laysCartons_24 : decode cX8_laysCartons 24 = .ok (.aload_n 0, 1) := by decide +kernel
theorem dX8_laysCartons_25 : decode cX8_laysCartons 25 = .ok (.getfield 51, 3) := by decide +kernel
theorem dX8_laysCartons_28 : decode cX8_laysCartons 28 = .ok (.iload_n 1, 1) := by decide +kernel
theorem dX8_laysCartons_29 : decode cX8_laysCartons 29 = .ok (.iconst (-1), 1) := by decide +kernel
theorem dX8_laysCartons_30 : decode cX8_laysCartons 30 = .ok (.iastore, 1) := by decide +kernel
theorem dX8_laysCartons_31 : decode cX8_laysCartons 31 = .ok (.aload_n 0, 1) := by decide +kernel
theorem dX8_laysCartons_32 : decode cX8_laysCartons 32 = .ok (.getfield 54, 3) := by decide +kernel
theorem dX8_laysCartons_35 : decode cX8_laysCartons 35 = .ok (.iload_n 1, 1) := by decide +kernel
theorem dX8_laysCartons_36 : decode cX8_laysCartons 36 = .ok (.iconst 0, 1) := by decide +kernel
theorem dX8_laysCartons_37 : decode cX8_laysCartons 37 = .ok (.iastore, 1) := by decide +kernel
theorem dX8_laysCartons_38 : decode cX8_laysCartons 38 = .ok (.aload_n 0, 1) := by decide +kernel
theorem dX8_laysCartons_39 : decode cX8_laysCartons 39 = .ok (.getfield 57, 3) := by decide +kernel
theorem dX8_laysCartons_42 : decode cX8_laysCartons 42 = .ok (.iload_n 1, 1) := by decide +kernel
theorem dX8_laysCartons_43 : decode cX8_laysCartons 43 = .ok (.iconst (-1), 1) := by decide +kernel
theorem dX8_laysCartons_44 : decode cX8_laysCartons 44 = .ok (.iastore, 1) := by decide +kernel
theorem dX8_laysCartons_45 : decode cX8_laysCartons 45 = .ok (.aload_n 0, 1) := by decide +kernel
theorem dX8_laysCartons_46 : decode cX8_laysCartons 46 = .ok (.getfield 60, 3) := by decide +kernel
theorem dX8_laysCartons_49 : decode cX8_laysCartons 49 = .ok (.iload_n 1, 1) := by decide +kernel
theorem dX8_laysCartons_50 : decode cX8_laysCartons 50 = .ok (.iconst (-1), 1) := by decide +kernel
theorem dX8_laysCartons_51 : decode cX8_laysCartons 51 = .ok (.iastore, 1) := by decide +kernel
theorem dX8_laysCartons_52 : decode cX8_laysCartons 52 = .ok (.iconst 0, 1) := by decide +kernel
theorem dX8_laysCartons_53 : decode cX8_laysCartons 53 = .ok (.istore_n 2, 1) := by decide +kernel
theorem dX8_laysCartons_54 : decode cX8_laysCartons 54 = .ok (.iload_n 2, 1) := by decide +kernel
theorem dX8_laysCartons_55 : decode cX8_laysCartons 55 = .ok (.iconst 4, 1) := by decide +kernel
theorem dX8_laysCartons_56 : decode cX8_laysCartons 56 = .ok (.if_icmp .ge 107, 3) := by decide +kernel
theorem dX8_laysCartons_59 : decode cX8_laysCartons 59 = .ok (.aload_n 0, 1) := by decide +kernel
theorem dX8_laysCartons_60 : decode cX8_laysCartons 60 = .ok (.iload_n 1, 1) := by decide +kernel
theorem dX8_laysCartons_61 : decode cX8_laysCartons 61 = .ok (.invokevirtual 195, 3) := by decide +kernel
theorem dX8_laysCartons_64 : decode cX8_laysCartons 64 = .ok (.ifCond .ne 99, 3) := by decide +kernel
theorem dX8_laysCartons_67 : decode cX8_laysCartons 67 = .ok (.iconst 0, 1) := by decide +kernel
theorem dX8_laysCartons_68 : decode cX8_laysCartons 68 = .ok (.istore_n 3, 1) := by decide +kernel
theorem dX8_laysCartons_69 : decode cX8_laysCartons 69 = .ok (.iload_n 3, 1) := by decide +kernel
theorem dX8_laysCartons_70 : decode cX8_laysCartons 70 = .ok (.aload_n 0, 1) := by decide +kernel
theorem dX8_laysCartons_71 : decode cX8_laysCartons 71 = .ok (.iload_n 1, 1) := by decide +kernel
theorem dX8_laysCartons_72 : decode cX8_laysCartons 72 = .ok (.iconst 2, 1) := by decide +kernel
theorem dX8_laysCartons_73 : decode cX8_laysCartons 73 = .ok (.iload_n 2, 1) := by decide +kernel
theorem dX8_laysCartons_74 : decode cX8_laysCartons 74 = .ok (.iadd, 1) := by decide +kernel
theorem dX8_laysCartons_75 : decode cX8_laysCartons 75 = .ok (.invokevirtual 92, 3) := by decide +kernel
theorem dX8_laysCartons_78 : decode cX8_laysCartons 78 = .ok (.if_icmp .ge 79, 3) := by decide +kernel
theorem dX8_laysCartons_81 : decode cX8_laysCartons 81 = .ok (.aload_n 0, 1) := by decide +kernel
theorem dX8_laysCartons_82 : decode cX8_laysCartons 82 = .ok (.getfield 30, 3) := by decide +kernel
theorem dX8_laysCartons_85 : decode cX8_laysCartons 85 = .ok (.aload_n 0, 1) := by decide +kernel
theorem dX8_laysCartons_86 : decode cX8_laysCartons 86 = .ok (.getfield 202, 3) := by decide +kernel
theorem dX8_laysCartons_89 : decode cX8_laysCartons 89 = .ok (.iload_n 1, 1) := by decide +kernel
theorem dX8_laysCartons_90 : decode cX8_laysCartons 90 = .ok (.iastore, 1) := by decide +kernel
theorem dX8_laysCartons_91 : decode cX8_laysCartons 91 = .ok (.aload_n 0, 1) := by decide +kernel
theorem dX8_laysCartons_92 : decode cX8_laysCartons 92 = .ok (.getfield 33, 3) := by decide +kernel
theorem dX8_laysCartons_95 : decode cX8_laysCartons 95 = .ok (.aload_n 0, 1) := by decide +kernel
theorem dX8_laysCartons_96 : decode cX8_laysCartons 96 = .ok (.getfield 202, 3) := by decide +kernel
theorem dX8_laysCartons_99 : decode cX8_laysCartons 99 = .ok (.iload_n 2, 1) := by decide +kernel
theorem dX8_laysCartons_100 : decode cX8_laysCartons 100 = .ok (.iastore, 1) := by decide +kernel
theorem dX8_laysCartons_101 : decode cX8_laysCartons 101 = .ok (.aload_n 0, 1) := by decide +kernel
theorem dX8_laysCartons_102 : decode cX8_laysCartons 102 = .ok (.getfield 36, 3) := by decide +kernel
theorem dX8_laysCartons_105 : decode cX8_laysCartons 105 = .ok (.aload_n 0, 1) := by decide +kernel
theorem dX8_laysCartons_106 : decode cX8_laysCartons 106 = .ok (.getfield 202, 3) := by decide +kernel
theorem dX8_laysCartons_109 : decode cX8_laysCartons 109 = .ok (.iconst (-1), 1) := by decide +kernel
theorem dX8_laysCartons_110 : decode cX8_laysCartons 110 = .ok (.iastore, 1) := by decide +kernel
theorem dX8_laysCartons_111 : decode cX8_laysCartons 111 = .ok (.aload_n 0, 1) := by decide +kernel
theorem dX8_laysCartons_112 : decode cX8_laysCartons 112 = .ok (.getfield 39, 3) := by decide +kernel
theorem dX8_laysCartons_115 : decode cX8_laysCartons 115 = .ok (.aload_n 0, 1) := by decide +kernel
theorem dX8_laysCartons_116 : decode cX8_laysCartons 116 = .ok (.getfield 202, 3) := by decide +kernel
theorem dX8_laysCartons_119 : decode cX8_laysCartons 119 = .ok (.iconst (-1), 1) := by decide +kernel
theorem dX8_laysCartons_120 : decode cX8_laysCartons 120 = .ok (.iastore, 1) := by decide +kernel
theorem dX8_laysCartons_121 : decode cX8_laysCartons 121 = .ok (.aload_n 0, 1) := by decide +kernel
theorem dX8_laysCartons_122 : decode cX8_laysCartons 122 = .ok (.getfield 42, 3) := by decide +kernel
theorem dX8_laysCartons_125 : decode cX8_laysCartons 125 = .ok (.aload_n 0, 1) := by decide +kernel
theorem dX8_laysCartons_126 : decode cX8_laysCartons 126 = .ok (.getfield 202, 3) := by decide +kernel
theorem dX8_laysCartons_129 : decode cX8_laysCartons 129 = .ok (.iconst (-1), 1) := by decide +kernel
theorem dX8_laysCartons_130 : decode cX8_laysCartons 130 = .ok (.iastore, 1) := by decide +kernel
theorem dX8_laysCartons_131 : decode cX8_laysCartons 131 = .ok (.aload_n 0, 1) := by decide +kernel
theorem dX8_laysCartons_132 : decode cX8_laysCartons 132 = .ok (.getfield 45, 3) := by decide +kernel
theorem dX8_laysCartons_135 : decode cX8_laysCartons 135 = .ok (.aload_n 0, 1) := by decide +kernel
theorem dX8_laysCartons_136 : decode cX8_laysCartons 136 = .ok (.getfield 202, 3) := by decide +kernel
theorem dX8_laysCartons_139 : decode cX8_laysCartons 139 = .ok (.iconst (-1), 1) := by decide +kernel
theorem dX8_laysCartons_140 : decode cX8_laysCartons 140 = .ok (.iastore, 1) := by decide +kernel
theorem dX8_laysCartons_141 : decode cX8_laysCartons 141 = .ok (.aload_n 0, 1) := by decide +kernel
theorem dX8_laysCartons_142 : decode cX8_laysCartons 142 = .ok (.dup, 1) := by decide +kernel
theorem dX8_laysCartons_143 : decode cX8_laysCartons 143 = .ok (.getfield 202, 3) := by decide +kernel
theorem dX8_laysCartons_146 : decode cX8_laysCartons 146 = .ok (.iconst 1, 1) := by decide +kernel
theorem dX8_laysCartons_147 : decode cX8_laysCartons 147 = .ok (.iadd, 1) := by decide +kernel
theorem dX8_laysCartons_148 : decode cX8_laysCartons 148 = .ok (.putfield 202, 3) := by decide +kernel
theorem dX8_laysCartons_151 : decode cX8_laysCartons 151 = .ok (.iinc 3 1, 3) := by decide +kernel
theorem dX8_laysCartons_154 : decode cX8_laysCartons 154 = .ok (.goto (-85), 3) := by decide +kernel
theorem dX8_laysCartons_157 : decode cX8_laysCartons 157 = .ok (.iinc 2 1, 3) := by decide +kernel
theorem dX8_laysCartons_160 : decode cX8_laysCartons 160 = .ok (.goto (-106), 3) := by decide +kernel
theorem dX8_laysCartons_163 : decode cX8_laysCartons 163 = .ok (.iinc 1 1, 3) := by decide +kernel
theorem dX8_laysCartons_166 : decode cX8_laysCartons 166 = .ok (.goto (-159), 3) := by decide +kernel
theorem dX8_laysCartons_169 : decode cX8_laysCartons 169 = .ok (.iconst 0, 1) := by decide +kernel
theorem dX8_laysCartons_170 : decode cX8_laysCartons 170 = .ok (.istore_n 1, 1) := by decide +kernel
theorem dX8_laysCartons_171 : decode cX8_laysCartons 171 = .ok (.iload_n 1, 1) := by decide +kernel
theorem dX8_laysCartons_172 : decode cX8_laysCartons 172 = .ok (.aload_n 0, 1) := by decide +kernel
theorem dX8_laysCartons_173 : decode cX8_laysCartons 173 = .ok (.getfield 7, 3) := by decide +kernel
theorem dX8_laysCartons_176 : decode cX8_laysCartons 176 = .ok (.iconst 0, 1) := by decide +kernel
theorem dX8_laysCartons_177 : decode cX8_laysCartons 177 = .ok (.iaload, 1) := by decide +kernel
theorem dX8_laysCartons_178 : decode cX8_laysCartons 178 = .ok (.if_icmp .ge 71, 3) := by decide +kernel
theorem dX8_laysCartons_181 : decode cX8_laysCartons 181 = .ok (.aload_n 0, 1) := by decide +kernel
theorem dX8_laysCartons_182 : decode cX8_laysCartons 182 = .ok (.getfield 63, 3) := by decide +kernel
theorem dX8_laysCartons_185 : decode cX8_laysCartons 185 = .ok (.iload_n 1, 1) := by decide +kernel
theorem dX8_laysCartons_186 : decode cX8_laysCartons 186 = .ok (.iconst 0, 1) := by decide +kernel
theorem dX8_laysCartons_187 : decode cX8_laysCartons 187 = .ok (.iastore, 1) := by decide +kernel
theorem dX8_laysCartons_188 : decode cX8_laysCartons 188 = .ok (.aload_n 0, 1) := by decide +kernel
theorem dX8_laysCartons_189 : decode cX8_laysCartons 189 = .ok (.getfield 66, 3) := by decide +kernel
theorem dX8_laysCartons_192 : decode cX8_laysCartons 192 = .ok (.iload_n 1, 1) := by decide +kernel
theorem dX8_laysCartons_193 : decode cX8_laysCartons 193 = .ok (.iconst 0, 1) := by decide +kernel
theorem dX8_laysCartons_194 : decode cX8_laysCartons 194 = .ok (.bastore, 1) := by decide +kernel
theorem dX8_laysCartons_195 : decode cX8_laysCartons 195 = .ok (.aload_n 0, 1) := by decide +kernel
theorem dX8_laysCartons_196 : decode cX8_laysCartons 196 = .ok (.getfield 69, 3) := by decide +kernel
theorem dX8_laysCartons_199 : decode cX8_laysCartons 199 = .ok (.iload_n 1, 1) := by decide +kernel
theorem dX8_laysCartons_200 : decode cX8_laysCartons 200 = .ok (.iconst 0, 1) := by decide +kernel
theorem dX8_laysCartons_201 : decode cX8_laysCartons 201 = .ok (.iastore, 1) := by decide +kernel
theorem dX8_laysCartons_202 : decode cX8_laysCartons 202 = .ok (.iconst 0, 1) := by decide +kernel
theorem dX8_laysCartons_203 : decode cX8_laysCartons 203 = .ok (.istore_n 2, 1) := by decide +kernel
theorem dX8_laysCartons_204 : decode cX8_laysCartons 204 = .ok (.iload_n 2, 1) := by decide +kernel
theorem dX8_laysCartons_205 : decode cX8_laysCartons 205 = .ok (.aload_n 0, 1) := by decide +kernel
theorem dX8_laysCartons_206 : decode cX8_laysCartons 206 = .ok (.iload_n 1, 1) := by decide +kernel
theorem dX8_laysCartons_207 : decode cX8_laysCartons 207 = .ok (.invokevirtual 191, 3) := by decide +kernel
theorem dX8_laysCartons_210 : decode cX8_laysCartons 210 = .ok (.if_icmp .ge 33, 3) := by decide +kernel
theorem dX8_laysCartons_213 : decode cX8_laysCartons 213 = .ok (.aload_n 0, 1) := by decide +kernel
theorem dX8_laysCartons_214 : decode cX8_laysCartons 214 = .ok (.getfield 57, 3) := by decide +kernel
theorem dX8_laysCartons_217 : decode cX8_laysCartons 217 = .ok (.aload_n 0, 1) := by decide +kernel
theorem dX8_laysCartons_218 : decode cX8_laysCartons 218 = .ok (.iload_n 1, 1) := by decide +kernel
theorem dX8_laysCartons_219 : decode cX8_laysCartons 219 = .ok (.iload_n 2, 1) := by decide +kernel
theorem dX8_laysCartons_220 : decode cX8_laysCartons 220 = .ok (.invokevirtual 205, 3) := by decide +kernel
theorem dX8_laysCartons_223 : decode cX8_laysCartons 223 = .ok (.iload_n 1, 1) := by decide +kernel
theorem dX8_laysCartons_224 : decode cX8_laysCartons 224 = .ok (.iastore, 1) := by decide +kernel
theorem dX8_laysCartons_225 : decode cX8_laysCartons 225 = .ok (.aload_n 0, 1) := by decide +kernel
theorem dX8_laysCartons_226 : decode cX8_laysCartons 226 = .ok (.getfield 60, 3) := by decide +kernel
theorem dX8_laysCartons_229 : decode cX8_laysCartons 229 = .ok (.aload_n 0, 1) := by decide +kernel
theorem dX8_laysCartons_230 : decode cX8_laysCartons 230 = .ok (.iload_n 1, 1) := by decide +kernel
theorem dX8_laysCartons_231 : decode cX8_laysCartons 231 = .ok (.iload_n 2, 1) := by decide +kernel
theorem dX8_laysCartons_232 : decode cX8_laysCartons 232 = .ok (.invokevirtual 205, 3) := by decide +kernel
theorem dX8_laysCartons_235 : decode cX8_laysCartons 235 = .ok (.iload_n 2, 1) := by decide +kernel
theorem dX8_laysCartons_236 : decode cX8_laysCartons 236 = .ok (.iastore, 1) := by decide +kernel
theorem dX8_laysCartons_237 : decode cX8_laysCartons 237 = .ok (.iinc 2 1, 3) := by decide +kernel
theorem dX8_laysCartons_240 : decode cX8_laysCartons 240 = .ok (.goto (-36), 3) := by decide +kernel
theorem dX8_laysCartons_243 : decode cX8_laysCartons 243 = .ok (.iinc 1 1, 3) := by decide +kernel
theorem dX8_laysCartons_246 : decode cX8_laysCartons 246 = .ok (.goto (-75), 3) := by decide +kernel
theorem dX8_laysCartons_249 : decode cX8_laysCartons 249 = .ok (.return_, 1) := by decide +kernel
theorem dX8_leavesNow_0 : decode cX8_leavesNow 0 = .ok (.aload_n 0, 1) := by decide +kernel
theorem dX8_leavesNow_1 : decode cX8_leavesNow 1 = .ok (.getfield 51, 3) := by decide +kernel
theorem dX8_leavesNow_4 : decode cX8_leavesNow 4 = .ok (.aload_n 0, 1) := by decide +kernel
theorem dX8_leavesNow_5 : decode cX8_leavesNow 5 = .ok (.iload_n 1, 1) := by decide +kernel
theorem dX8_leavesNow_6 : decode cX8_leavesNow 6 = .ok (.aload_n 0, 1) := by decide +kernel
theorem dX8_leavesNow_7 : decode cX8_leavesNow 7 = .ok (.getfield 63, 3) := by decide +kernel
theorem dX8_leavesNow_10 : decode cX8_leavesNow 10 = .ok (.iload_n 1, 1) := by decide +kernel
theorem dX8_leavesNow_11 : decode cX8_leavesNow 11 = .ok (.iaload, 1) := by decide +kernel
theorem dX8_leavesNow_12 : decode cX8_leavesNow 12 = .ok (.invokevirtual 205, 3) := by decide +kernel
theorem dX8_leavesNow_15 : decode cX8_leavesNow 15 = .ok (.aload_n 0, 1) := by decide +kernel
theorem dX8_leavesNow_16 : decode cX8_leavesNow 16 = .ok (.getfield 208, 3) := by decide +kernel
theorem dX8_leavesNow_19 : decode cX8_leavesNow 19 = .ok (.iastore, 1) := by decide +kernel
theorem dX8_leavesNow_20 : decode cX8_leavesNow 20 = .ok (.aload_n 0, 1) := by decide +kernel
theorem dX8_leavesNow_21 : decode cX8_leavesNow 21 = .ok (.getfield 66, 3) := by decide +kernel
theorem dX8_leavesNow_24 : decode cX8_leavesNow 24 = .ok (.iload_n 1, 1) := by decide +kernel
theorem dX8_leavesNow_25 : decode cX8_leavesNow 25 = .ok (.iconst 0, 1) := by decide +kernel
theorem dX8_leavesNow_26 : decode cX8_leavesNow 26 = .ok (.bastore, 1) := by decide +kernel
theorem dX8_leavesNow_27 : decode cX8_leavesNow 27 = .ok (.aload_n 0, 1) := by decide +kernel
theorem dX8_leavesNow_28 : decode cX8_leavesNow 28 = .ok (.getfield 63, 3) := by decide +kernel
theorem dX8_leavesNow_31 : decode cX8_leavesNow 31 = .ok (.iload_n 1, 1) := by decide +kernel
theorem dX8_leavesNow_32 : decode cX8_leavesNow 32 = .ok (.dup2, 1) := by decide +kernel
theorem dX8_leavesNow_33 : decode cX8_leavesNow 33 = .ok (.iaload, 1) := by decide +kernel
theorem dX8_leavesNow_34 : decode cX8_leavesNow 34 = .ok (.iconst 1, 1) := by decide +kernel
theorem dX8_leavesNow_35 : decode cX8_leavesNow 35 = .ok (.iadd, 1) := by decide +kernel
theorem dX8_leavesNow_36 : decode cX8_leavesNow 36 = .ok (.iastore, 1) := by decide +kernel
theorem dX8_leavesNow_37 : decode cX8_leavesNow 37 = .ok (.aload_n 0, 1) := by decide +kernel
theorem dX8_leavesNow_38 : decode cX8_leavesNow 38 = .ok (.getfield 69, 3) := by decide +kernel
theorem dX8_leavesNow_41 : decode cX8_leavesNow 41 = .ok (.iload_n 1, 1) := by decide +kernel
theorem dX8_leavesNow_42 : decode cX8_leavesNow 42 = .ok (.aload_n 0, 1) := by decide +kernel
theorem dX8_leavesNow_43 : decode cX8_leavesNow 43 = .ok (.getfield 208, 3) := by decide +kernel
theorem dX8_leavesNow_46 : decode cX8_leavesNow 46 = .ok (.aload_n 0, 1) := by decide +kernel
theorem dX8_leavesNow_47 : decode cX8_leavesNow 47 = .ok (.getfield 7, 3) := by decide +kernel
theorem dX8_leavesNow_50 : decode cX8_leavesNow 50 = .ok (.iconst 3, 1) := by decide +kernel
theorem dX8_leavesNow_51 : decode cX8_leavesNow 51 = .ok (.iaload, 1) := by decide +kernel
theorem dX8_leavesNow_52 : decode cX8_leavesNow 52 = .ok (.iadd, 1) := by decide +kernel
theorem dX8_leavesNow_53 : decode cX8_leavesNow 53 = .ok (.iconst 1, 1) := by decide +kernel
theorem dX8_leavesNow_54 : decode cX8_leavesNow 54 = .ok (.iadd, 1) := by decide +kernel
theorem dX8_leavesNow_55 : decode cX8_leavesNow 55 = .ok (.iastore, 1) := by decide +kernel
theorem dX8_leavesNow_56 : decode cX8_leavesNow 56 = .ok (.return_, 1) := by decide +kernel
theorem dX8_docksNow_0 : decode cX8_docksNow 0 = .ok (.aload_n 0, 1) := by decide +kernel
theorem dX8_docksNow_1 : decode cX8_docksNow 1 = .ok (.getfield 66, 3) := by decide +kernel
theorem dX8_docksNow_4 : decode cX8_docksNow 4 = .ok (.iload_n 1, 1) := by decide +kernel
theorem dX8_docksNow_5 : decode cX8_docksNow 5 = .ok (.baload, 1) := by decide +kernel
theorem dX8_docksNow_6 : decode cX8_docksNow 6 = .ok (.ifCond .ne 80, 3) := by decide +kernel
theorem dX8_docksNow_9 : decode cX8_docksNow 9 = .ok (.aload_n 0, 1) := by decide +kernel
theorem dX8_docksNow_10 : decode cX8_docksNow 10 = .ok (.getfield 63, 3) := by decide +kernel
theorem dX8_docksNow_13 : decode cX8_docksNow 13 = .ok (.iload_n 1, 1) := by decide +kernel
theorem dX8_docksNow_14 : decode cX8_docksNow 14 = .ok (.iaload, 1) := by decide +kernel
theorem dX8_docksNow_15 : decode cX8_docksNow 15 = .ok (.aload_n 0, 1) := by decide +kernel
theorem dX8_docksNow_16 : decode cX8_docksNow 16 = .ok (.iload_n 1, 1) := by decide +kernel
theorem dX8_docksNow_17 : decode cX8_docksNow 17 = .ok (.invokevirtual 191, 3) := by decide +kernel
theorem dX8_docksNow_20 : decode cX8_docksNow 20 = .ok (.if_icmp .ge 66, 3) := by decide +kernel
theorem dX8_docksNow_23 : decode cX8_docksNow 23 = .ok (.aload_n 0, 1) := by decide +kernel
theorem dX8_docksNow_24 : decode cX8_docksNow 24 = .ok (.getfield 208, 3) := by decide +kernel
theorem dX8_docksNow_27 : decode cX8_docksNow 27 = .ok (.aload_n 0, 1) := by decide +kernel
theorem dX8_docksNow_28 : decode cX8_docksNow 28 = .ok (.getfield 69, 3) := by decide +kernel
theorem dX8_docksNow_31 : decode cX8_docksNow 31 = .ok (.iload_n 1, 1) := by decide +kernel
theorem dX8_docksNow_32 : decode cX8_docksNow 32 = .ok (.iaload, 1) := by decide +kernel
theorem dX8_docksNow_33 : decode cX8_docksNow 33 = .ok (.if_icmp .lt 53, 3) := by decide +kernel
theorem dX8_docksNow_36 : decode cX8_docksNow 36 = .ok (.aload_n 0, 1) := by decide +kernel
theorem dX8_docksNow_37 : decode cX8_docksNow 37 = .ok (.aload_n 0, 1) := by decide +kernel
theorem dX8_docksNow_38 : decode cX8_docksNow 38 = .ok (.iload_n 1, 1) := by decide +kernel
theorem dX8_docksNow_39 : decode cX8_docksNow 39 = .ok (.aload_n 0, 1) := by decide +kernel
theorem dX8_docksNow_40 : decode cX8_docksNow 40 = .ok (.getfield 63, 3) := by decide +kernel
theorem dX8_docksNow_43 : decode cX8_docksNow 43 = .ok (.iload_n 1, 1) := by decide +kernel
theorem dX8_docksNow_44 : decode cX8_docksNow 44 = .ok (.iaload, 1) := by decide +kernel
theorem dX8_docksNow_45 : decode cX8_docksNow 45 = .ok (.invokevirtual 205, 3) := by decide +kernel
theorem dX8_docksNow_48 : decode cX8_docksNow 48 = .ok (.iconst 1, 1) := by decide +kernel
theorem dX8_docksNow_49 : decode cX8_docksNow 49 = .ok (.invokevirtual 92, 3) := by decide +kernel
theorem dX8_docksNow_52 : decode cX8_docksNow 52 = .ok (.aload_n 0, 1) := by decide +kernel
theorem dX8_docksNow_53 : decode cX8_docksNow 53 = .ok (.getfield 208, 3) := by decide +kernel
theorem dX8_docksNow_56 : decode cX8_docksNow 56 = .ok (.if_icmp .gt 30, 3) := by decide +kernel
theorem dX8_docksNow_59 : decode cX8_docksNow 59 = .ok (.aload_n 0, 1) := by decide +kernel
theorem dX8_docksNow_60 : decode cX8_docksNow 60 = .ok (.getfield 66, 3) := by decide +kernel
theorem dX8_docksNow_63 : decode cX8_docksNow 63 = .ok (.iload_n 1, 1) := by decide +kernel
theorem dX8_docksNow_64 : decode cX8_docksNow 64 = .ok (.iconst 1, 1) := by decide +kernel
theorem dX8_docksNow_65 : decode cX8_docksNow 65 = .ok (.bastore, 1) := by decide +kernel
theorem dX8_docksNow_66 : decode cX8_docksNow 66 = .ok (.aload_n 0, 1) := by decide +kernel
theorem dX8_docksNow_67 : decode cX8_docksNow 67 = .ok (.getfield 48, 3) := by decide +kernel
theorem dX8_docksNow_70 : decode cX8_docksNow 70 = .ok (.aload_n 0, 1) := by decide +kernel
theorem dX8_docksNow_71 : decode cX8_docksNow 71 = .ok (.iload_n 1, 1) := by decide +kernel
theorem dX8_docksNow_72 : decode cX8_docksNow 72 = .ok (.aload_n 0, 1) := by decide +kernel
theorem dX8_docksNow_73 : decode cX8_docksNow 73 = .ok (.getfield 63, 3) := by decide +kernel
theorem dX8_docksNow_76 : decode cX8_docksNow 76 = .ok (.iload_n 1, 1) := by decide +kernel
theorem dX8_docksNow_77 : decode cX8_docksNow 77 = .ok (.iaload, 1) := by decide +kernel
theorem dX8_docksNow_78 : decode cX8_docksNow 78 = .ok (.invokevirtual 205, 3) := by decide +kernel
theorem dX8_docksNow_81 : decode cX8_docksNow 81 = .ok (.aload_n 0, 1) := by decide +kernel
theorem dX8_docksNow_82 : decode cX8_docksNow 82 = .ok (.getfield 208, 3) := by decide +kernel
theorem dX8_docksNow_85 : decode cX8_docksNow 85 = .ok (.iastore, 1) := by decide +kernel
theorem dX8_docksNow_86 : decode cX8_docksNow 86 = .ok (.return_, 1) := by decide +kernel
theorem dX8_canCome_0 : decode cX8_canCome 0 = .ok (.aload_n 0, 1) := by decide +kernel
theorem dX8_canCome_1 : decode cX8_canCome 1 = .ok (.getfield 36, 3) := by decide +kernel
theorem dX8_canCome_4 : decode cX8_canCome 4 = .ok (.iload_n 1, 1) := by decide +kernel
theorem dX8_canCome_5 : decode cX8_canCome 5 = .ok (.iaload, 1) := by decide +kernel
theorem dX8_canCome_6 : decode cX8_canCome 6 = .ok (.iconst (-1), 1) := by decide +kernel
theorem dX8_canCome_7 : decode cX8_canCome 7 = .ok (.if_icmp .eq 38, 3) := by decide +kernel
theorem dX8_canCome_10 : decode cX8_canCome 10 = .ok (.aload_n 0, 1) := by decide +kernel
theorem dX8_canCome_11 : decode cX8_canCome 11 = .ok (.getfield 39, 3) := by decide +kernel
theorem dX8_canCome_14 : decode cX8_canCome 14 = .ok (.iload_n 1, 1) := by decide +kernel
theorem dX8_canCome_15 : decode cX8_canCome 15 = .ok (.iaload, 1) := by decide +kernel
theorem dX8_canCome_16 : decode cX8_canCome 16 = .ok (.iconst (-1), 1) := by decide +kernel
theorem dX8_canCome_17 : decode cX8_canCome 17 = .ok (.if_icmp .ne 28, 3) := by decide +kernel
theorem dX8_canCome_20 : decode cX8_canCome 20 = .ok (.aload_n 0, 1) := by decide +kernel
theorem dX8_canCome_21 : decode cX8_canCome 21 = .ok (.getfield 33, 3) := by decide +kernel
theorem dX8_canCome_24 : decode cX8_canCome 24 = .ok (.iload_n 1, 1) := by decide +kernel
theorem dX8_canCome_25 : decode cX8_canCome 25 = .ok (.iaload, 1) := by decide +kernel
theorem dX8_canCome_26 : decode cX8_canCome 26 = .ok (.aload_n 0, 1) := by decide +kernel
theorem dX8_canCome_27 : decode cX8_canCome 27 = .ok (.aload_n 0, 1) := by decide +kernel
theorem dX8_canCome_28 : decode cX8_canCome 28 = .ok (.iload_n 2, 1) := by decide +kernel
theorem dX8_canCome_29 : decode cX8_canCome 29 = .ok (.aload_n 0, 1) := by decide +kernel
theorem dX8_canCome_30 : decode cX8_canCome 30 = .ok (.getfield 63, 3) := by decide +kernel
theorem dX8_canCome_33 : decode cX8_canCome 33 = .ok (.iload_n 2, 1) := by decide +kernel
theorem dX8_canCome_34 : decode cX8_canCome 34 = .ok (.iaload, 1) := by decide +kernel
theorem dX8_canCome_35 : decode cX8_canCome 35 = .ok (.invokevirtual 205, 3) := by decide +kernel
theorem dX8_canCome_38 : decode cX8_canCome 38 = .ok (.iconst 2, 1) := by decide +kernel
theorem dX8_canCome_39 : decode cX8_canCome 39 = .ok (.invokevirtual 92, 3) := by decide +kernel
theorem dX8_canCome_42 : decode cX8_canCome 42 = .ok (.if_icmp .eq 5, 3) := by decide +kernel
theorem dX8_canCome_45 : decode cX8_canCome 45 = .ok (.iconst 0, 1) := by decide +kernel
theorem dX8_canCome_46 : decode cX8_canCome 46 = .ok (.ireturn, 1) := by decide +kernel
theorem dX8_canCome_47 : decode cX8_canCome 47 = .ok (.aload_n 0, 1) := by decide +kernel
theorem dX8_canCome_48 : decode cX8_canCome 48 = .ok (.aload_n 0, 1) := by decide +kernel
theorem dX8_canCome_49 : decode cX8_canCome 49 = .ok (.getfield 57, 3) := by decide +kernel
theorem dX8_canCome_52 : decode cX8_canCome 52 = .ok (.aload_n 0, 1) := by decide +kernel
theorem dX8_canCome_53 : decode cX8_canCome 53 = .ok (.getfield 30, 3) := by decide +kernel
theorem dX8_canCome_56 : decode cX8_canCome 56 = .ok (.iload_n 1, 1) := by decide +kernel
theorem dX8_canCome_57 : decode cX8_canCome 57 = .ok (.iaload, 1) := by decide +kernel
theorem dX8_canCome_58 : decode cX8_canCome 58 = .ok (.iaload, 1) := by decide +kernel
theorem dX8_canCome_59 : decode cX8_canCome 59 = .ok (.iload_n 2, 1) := by decide +kernel
theorem dX8_canCome_60 : decode cX8_canCome 60 = .ok (.invokevirtual 211, 3) := by decide +kernel
theorem dX8_canCome_63 : decode cX8_canCome 63 = .ok (.istore_n 3, 1) := by decide +kernel
theorem dX8_canCome_64 : decode cX8_canCome 64 = .ok (.aload_n 0, 1) := by decide +kernel
theorem dX8_canCome_65 : decode cX8_canCome 65 = .ok (.getfield 208, 3) := by decide +kernel
theorem dX8_canCome_68 : decode cX8_canCome 68 = .ok (.aload_n 0, 1) := by decide +kernel
theorem dX8_canCome_69 : decode cX8_canCome 69 = .ok (.getfield 36, 3) := by decide +kernel
theorem dX8_canCome_72 : decode cX8_canCome 72 = .ok (.iload_n 1, 1) := by decide +kernel
theorem dX8_canCome_73 : decode cX8_canCome 73 = .ok (.iaload, 1) := by decide +kernel
theorem dX8_canCome_74 : decode cX8_canCome 74 = .ok (.isub, 1) := by decide +kernel
theorem dX8_canCome_75 : decode cX8_canCome 75 = .ok (.iload_n 3, 1) := by decide +kernel
theorem dX8_canCome_76 : decode cX8_canCome 76 = .ok (.iconst 1, 1) := by decide +kernel
theorem dX8_canCome_77 : decode cX8_canCome 77 = .ok (.if_icmp .ge 7, 3) := by decide +kernel
theorem dX8_canCome_80 : decode cX8_canCome 80 = .ok (.iconst 1, 1) := by decide +kernel
theorem dX8_canCome_81 : decode cX8_canCome 81 = .ok (.goto 4, 3) := by decide +kernel
theorem dX8_canCome_84 : decode cX8_canCome 84 = .ok (.iload_n 3, 1) := by decide +kernel
theorem dX8_canCome_85 : decode cX8_canCome 85 = .ok (.if_icmp .lt 7, 3) := by decide +kernel
theorem dX8_canCome_88 : decode cX8_canCome 88 = .ok (.iconst 1, 1) := by decide +kernel
theorem dX8_canCome_89 : decode cX8_canCome 89 = .ok (.goto 4, 3) := by decide +kernel
theorem dX8_canCome_92 : decode cX8_canCome 92 = .ok (.iconst 0, 1) := by decide +kernel
theorem dX8_canCome_93 : decode cX8_canCome 93 = .ok (.ireturn, 1) := by decide +kernel
theorem dX8_putsOn_0 : decode cX8_putsOn 0 = .ok (.iconst (-1), 1) := by decide +kernel
theorem dX8_putsOn_1 : decode cX8_putsOn 1 = .ok (.istore_n 2, 1) := by decide +kernel
theorem dX8_putsOn_2 : decode cX8_putsOn 2 = .ok (.iconst 0, 1) := by decide +kernel
theorem dX8_putsOn_3 : decode cX8_putsOn 3 = .ok (.istore_n 3, 1) := by decide +kernel
theorem dX8_putsOn_4 : decode cX8_putsOn 4 = .ok (.iload_n 3, 1) := by decide +kernel
theorem dX8_putsOn_5 : decode cX8_putsOn 5 = .ok (.aload_n 0, 1) := by decide +kernel
theorem dX8_putsOn_6 : decode cX8_putsOn 6 = .ok (.getfield 202, 3) := by decide +kernel
theorem dX8_putsOn_9 : decode cX8_putsOn 9 = .ok (.if_icmp .ge 40, 3) := by decide +kernel
theorem dX8_putsOn_12 : decode cX8_putsOn 12 = .ok (.aload_n 0, 1) := by decide +kernel
theorem dX8_putsOn_13 : decode cX8_putsOn 13 = .ok (.iload_n 3, 1) := by decide +kernel
theorem dX8_putsOn_14 : decode cX8_putsOn 14 = .ok (.iload_n 1, 1) := by decide +kernel
theorem dX8_putsOn_15 : decode cX8_putsOn 15 = .ok (.invokevirtual 214, 3) := by decide +kernel
theorem dX8_putsOn_18 : decode cX8_putsOn 18 = .ok (.ifCond .eq 25, 3) := by decide +kernel
theorem dX8_putsOn_21 : decode cX8_putsOn 21 = .ok (.iload_n 2, 1) := by decide +kernel
theorem dX8_putsOn_22 : decode cX8_putsOn 22 = .ok (.iconst (-1), 1) := by decide +kernel
theorem dX8_putsOn_23 : decode cX8_putsOn 23 = .ok (.if_icmp .eq 18, 3) := by decide +kernel
theorem dX8_putsOn_26 : decode cX8_putsOn 26 = .ok (.aload_n 0, 1) := by decide +kernel
theorem dX8_putsOn_27 : decode cX8_putsOn 27 = .ok (.getfield 36, 3) := by decide +kernel
theorem dX8_putsOn_30 : decode cX8_putsOn 30 = .ok (.iload_n 3, 1) := by decide +kernel
theorem dX8_putsOn_31 : decode cX8_putsOn 31 = .ok (.iaload, 1) := by decide +kernel
theorem dX8_putsOn_32 : decode cX8_putsOn 32 = .ok (.aload_n 0, 1) := by decide +kernel
theorem dX8_putsOn_33 : decode cX8_putsOn 33 = .ok (.getfield 36, 3) := by decide +kernel
theorem dX8_putsOn_36 : decode cX8_putsOn 36 = .ok (.iload_n 2, 1) := by decide +kernel
theorem dX8_putsOn_37 : decode cX8_putsOn 37 = .ok (.iaload, 1) := by decide +kernel
theorem dX8_putsOn_38 : decode cX8_putsOn 38 = .ok (.if_icmp .ge 5, 3) := by decide +kernel
theorem dX8_putsOn_41 : decode cX8_putsOn 41 = .ok (.iload_n 3, 1) := by decide +kernel
theorem dX8_putsOn_42 : decode cX8_putsOn 42 = .ok (.istore_n 2, 1) := by decide +kernel
theorem dX8_putsOn_43 : decode cX8_putsOn 43 = .ok (.iinc 3 1, 3) := by decide +kernel
theorem dX8_putsOn_46 : decode cX8_putsOn 46 = .ok (.goto (-42), 3) := by decide +kernel
theorem dX8_putsOn_49 : decode cX8_putsOn 49 = .ok (.iload_n 2, 1) := by decide +kernel
theorem dX8_putsOn_50 : decode cX8_putsOn 50 = .ok (.iconst (-1), 1) := by decide +kernel
theorem dX8_putsOn_51 : decode cX8_putsOn 51 = .ok (.if_icmp .ne 4, 3) := by decide +kernel
theorem dX8_putsOn_54 : decode cX8_putsOn 54 = .ok (.return_, 1) := by decide +kernel
theorem dX8_putsOn_55 : decode cX8_putsOn 55 = .ok (.aload_n 0, 1) := by decide +kernel
theorem dX8_putsOn_56 : decode cX8_putsOn 56 = .ok (.iload_n 1, 1) := by decide +kernel
theorem dX8_putsOn_57 : decode cX8_putsOn 57 = .ok (.aload_n 0, 1) := by decide +kernel
theorem dX8_putsOn_58 : decode cX8_putsOn 58 = .ok (.getfield 63, 3) := by decide +kernel
theorem dX8_putsOn_61 : decode cX8_putsOn 61 = .ok (.iload_n 1, 1) := by decide +kernel
theorem dX8_putsOn_62 : decode cX8_putsOn 62 = .ok (.iaload, 1) := by decide +kernel
theorem dX8_putsOn_63 : decode cX8_putsOn 63 = .ok (.invokevirtual 205, 3) := by decide +kernel
theorem dX8_putsOn_66 : decode cX8_putsOn 66 = .ok (.istore_n 3, 1) := by decide +kernel
theorem dX8_putsOn_67 : decode cX8_putsOn 67 = .ok (.aload_n 0, 1) := by decide +kernel
theorem dX8_putsOn_68 : decode cX8_putsOn 68 = .ok (.getfield 39, 3) := by decide +kernel
theorem dX8_putsOn_71 : decode cX8_putsOn 71 = .ok (.iload_n 2, 1) := by decide +kernel
theorem dX8_putsOn_72 : decode cX8_putsOn 72 = .ok (.aload_n 0, 1) := by decide +kernel
theorem dX8_putsOn_73 : decode cX8_putsOn 73 = .ok (.getfield 208, 3) := by decide +kernel
theorem dX8_putsOn_76 : decode cX8_putsOn 76 = .ok (.iastore, 1) := by decide +kernel
theorem dX8_putsOn_77 : decode cX8_putsOn 77 = .ok (.aload_n 0, 1) := by decide +kernel
theorem dX8_putsOn_78 : decode cX8_putsOn 78 = .ok (.getfield 42, 3) := by decide +kernel
theorem dX8_putsOn_81 : decode cX8_putsOn 81 = .ok (.iload_n 2, 1) := by decide +kernel
theorem dX8_putsOn_82 : decode cX8_putsOn 82 = .ok (.iload_n 3, 1) := by decide +kernel
theorem dX8_putsOn_83 : decode cX8_putsOn 83 = .ok (.iastore, 1) := by decide +kernel
theorem dX8_putsOn_84 : decode cX8_putsOn 84 = .ok (.aload_n 0, 1) := by decide +kernel
theorem dX8_putsOn_85 : decode cX8_putsOn 85 = .ok (.getfield 45, 3) := by decide +kernel
theorem dX8_putsOn_88 : decode cX8_putsOn 88 = .ok (.iload_n 2, 1) := by decide +kernel
theorem dX8_putsOn_89 : decode cX8_putsOn 89 = .ok (.aload_n 0, 1) := by decide +kernel
theorem dX8_putsOn_90 : decode cX8_putsOn 90 = .ok (.aload_n 0, 1) := by decide +kernel
theorem dX8_putsOn_91 : decode cX8_putsOn 91 = .ok (.getfield 57, 3) := by decide +kernel
theorem dX8_putsOn_94 : decode cX8_putsOn 94 = .ok (.aload_n 0, 1) := by decide +kernel
theorem dX8_putsOn_95 : decode cX8_putsOn 95 = .ok (.getfield 30, 3) := by decide +kernel
theorem dX8_putsOn_98 : decode cX8_putsOn 98 = .ok (.iload_n 2, 1) := by decide +kernel
theorem dX8_putsOn_99 : decode cX8_putsOn 99 = .ok (.iaload, 1) := by decide +kernel
theorem dX8_putsOn_100 : decode cX8_putsOn 100 = .ok (.iaload, 1) := by decide +kernel
theorem dX8_putsOn_101 : decode cX8_putsOn 101 = .ok (.iload_n 1, 1) := by decide +kernel
theorem dX8_putsOn_102 : decode cX8_putsOn 102 = .ok (.invokevirtual 211, 3) := by decide +kernel
theorem dX8_putsOn_105 : decode cX8_putsOn 105 = .ok (.iastore, 1) := by decide +kernel
theorem dX8_putsOn_106 : decode cX8_putsOn 106 = .ok (.aload_n 0, 1) := by decide +kernel
theorem dX8_putsOn_107 : decode cX8_putsOn 107 = .ok (.dup, 1) := by decide +kernel
theorem dX8_putsOn_108 : decode cX8_putsOn 108 = .ok (.getfield 217, 3) := by decide +kernel
theorem dX8_putsOn_111 : decode cX8_putsOn 111 = .ok (.iconst 1, 1) := by decide +kernel
theorem dX8_putsOn_112 : decode cX8_putsOn 112 = .ok (.isub, 1) := by decide +kernel
theorem dX8_putsOn_113 : decode cX8_putsOn 113 = .ok (.putfield 217, 3) := by decide +kernel
theorem dX8_putsOn_116 : decode cX8_putsOn 116 = .ok (.aload_n 0, 1) := by decide +kernel
theorem dX8_putsOn_117 : decode cX8_putsOn 117 = .ok (.getfield 54, 3) := by decide +kernel
theorem dX8_putsOn_120 : decode cX8_putsOn 120 = .ok (.iload_n 3, 1) := by decide +kernel
theorem dX8_putsOn_121 : decode cX8_putsOn 121 = .ok (.dup2, 1) := by decide +kernel
theorem dX8_putsOn_122 : decode cX8_putsOn 122 = .ok (.iaload, 1) := by decide +kernel
theorem dX8_putsOn_123 : decode cX8_putsOn 123 = .ok (.iconst 1, 1) := by decide +kernel
theorem dX8_putsOn_124 : decode cX8_putsOn 124 = .ok (.iadd, 1) := by decide +kernel
theorem dX8_putsOn_125 : decode cX8_putsOn 125 = .ok (.iastore, 1) := by decide +kernel
theorem dX8_putsOn_126 : decode cX8_putsOn 126 = .ok (.aload_n 0, 1) := by decide +kernel
theorem dX8_putsOn_127 : decode cX8_putsOn 127 = .ok (.getfield 54, 3) := by decide +kernel
theorem dX8_putsOn_130 : decode cX8_putsOn 130 = .ok (.iload_n 3, 1) := by decide +kernel
theorem dX8_putsOn_131 : decode cX8_putsOn 131 = .ok (.iaload, 1) := by decide +kernel
theorem dX8_putsOn_132 : decode cX8_putsOn 132 = .ok (.aload_n 0, 1) := by decide +kernel
theorem dX8_putsOn_133 : decode cX8_putsOn 133 = .ok (.iload_n 3, 1) := by decide +kernel
theorem dX8_putsOn_134 : decode cX8_putsOn 134 = .ok (.iconst 4, 1) := by decide +kernel
theorem dX8_putsOn_135 : decode cX8_putsOn 135 = .ok (.invokevirtual 92, 3) := by decide +kernel
theorem dX8_putsOn_138 : decode cX8_putsOn 138 = .ok (.if_icmp .ne 8, 3) := by decide +kernel
theorem dX8_putsOn_141 : decode cX8_putsOn 141 = .ok (.aload_n 0, 1) := by decide +kernel
theorem dX8_putsOn_142 : decode cX8_putsOn 142 = .ok (.iload_n 1, 1) := by decide +kernel
theorem dX8_putsOn_143 : decode cX8_putsOn 143 = .ok (.invokevirtual 220, 3) := by decide +kernel
theorem dX8_putsOn_146 : decode cX8_putsOn 146 = .ok (.return_, 1) := by decide +kernel
theorem dX8_loadOf_0 : decode cX8_loadOf 0 = .ok (.aload_n 0, 1) := by decide +kernel
theorem dX8_loadOf_1 : decode cX8_loadOf 1 = .ok (.iload_n 1, 1) := by decide +kernel
theorem dX8_loadOf_2 : decode cX8_loadOf 2 = .ok (.iconst 2, 1) := by decide +kernel
theorem dX8_loadOf_3 : decode cX8_loadOf 3 = .ok (.invokevirtual 92, 3) := by decide +kernel
theorem dX8_loadOf_6 : decode cX8_loadOf 6 = .ok (.aload_n 0, 1) := by decide +kernel
theorem dX8_loadOf_7 : decode cX8_loadOf 7 = .ok (.iload_n 1, 1) := by decide +kernel
theorem dX8_loadOf_8 : decode cX8_loadOf 8 = .ok (.iconst 3, 1) := by decide +kernel
theorem dX8_loadOf_9 : decode cX8_loadOf 9 = .ok (.invokevirtual 92, 3) := by decide +kernel
theorem dX8_loadOf_12 : decode cX8_loadOf 12 = .ok (.iadd, 1) := by decide +kernel
theorem dX8_loadOf_13 : decode cX8_loadOf 13 = .ok (.aload_n 0, 1) := by decide +kernel
theorem dX8_loadOf_14 : decode cX8_loadOf 14 = .ok (.iload_n 1, 1) := by decide +kernel
theorem dX8_loadOf_15 : decode cX8_loadOf 15 = .ok (.iconst 4, 1) := by decide +kernel
theorem dX8_loadOf_16 : decode cX8_loadOf 16 = .ok (.invokevirtual 92, 3) := by decide +kernel
theorem dX8_loadOf_19 : decode cX8_loadOf 19 = .ok (.iadd, 1) := by decide +kernel
theorem dX8_loadOf_20 : decode cX8_loadOf 20 = .ok (.aload_n 0, 1) := by decide +kernel
theorem dX8_loadOf_21 : decode cX8_loadOf 21 = .ok (.iload_n 1, 1) := by decide +kernel
theorem dX8_loadOf_22 : decode cX8_loadOf 22 = .ok (.iconst 5, 1) := by decide +kernel
theorem dX8_loadOf_23 : decode cX8_loadOf 23 = .ok (.invokevirtual 92, 3) := by decide +kernel
theorem dX8_loadOf_26 : decode cX8_loadOf 26 = .ok (.iadd, 1) := by decide +kernel
theorem dX8_loadOf_27 : decode cX8_loadOf 27 = .ok (.ireturn, 1) := by decide +kernel
theorem dX8_takesOff_0 : decode cX8_takesOff 0 = .ok (.aload_n 0, 1) := by decide +kernel
theorem dX8_takesOff_1 : decode cX8_takesOff 1 = .ok (.iload_n 1, 1) := by decide +kernel
theorem dX8_takesOff_2 : decode cX8_takesOff 2 = .ok (.aload_n 0, 1) := by decide +kernel
theorem dX8_takesOff_3 : decode cX8_takesOff 3 = .ok (.getfield 63, 3) := by decide +kernel
theorem dX8_takesOff_6 : decode cX8_takesOff 6 = .ok (.iload_n 1, 1) := by decide +kernel
theorem dX8_takesOff_7 : decode cX8_takesOff 7 = .ok (.iaload, 1) := by decide +kernel
theorem dX8_takesOff_8 : decode cX8_takesOff 8 = .ok (.invokevirtual 205, 3) := by decide +kernel
theorem dX8_takesOff_11 : decode cX8_takesOff 11 = .ok (.istore_n 2, 1) := by decide +kernel
theorem dX8_takesOff_12 : decode cX8_takesOff 12 = .ok (.aload_n 0, 1) := by decide +kernel
theorem dX8_takesOff_13 : decode cX8_takesOff 13 = .ok (.getfield 217, 3) := by decide +kernel
theorem dX8_takesOff_16 : decode cX8_takesOff 16 = .ok (.aload_n 0, 1) := by decide +kernel
theorem dX8_takesOff_17 : decode cX8_takesOff 17 = .ok (.getfield 7, 3) := by decide +kernel
theorem dX8_takesOff_20 : decode cX8_takesOff 20 = .ok (.iconst 2, 1) := by decide +kernel
theorem dX8_takesOff_21 : decode cX8_takesOff 21 = .ok (.iaload, 1) := by decide +kernel
theorem dX8_takesOff_22 : decode cX8_takesOff 22 = .ok (.if_icmp .lt 14, 3) := by decide +kernel
theorem dX8_takesOff_25 : decode cX8_takesOff 25 = .ok (.aload_n 0, 1) := by decide +kernel
theorem dX8_takesOff_26 : decode cX8_takesOff 26 = .ok (.dup, 1) := by decide +kernel
theorem dX8_takesOff_27 : decode cX8_takesOff 27 = .ok (.getfield 224, 3) := by decide +kernel
theorem dX8_takesOff_30 : decode cX8_takesOff 30 = .ok (.iconst 1, 1) := by decide +kernel
theorem dX8_takesOff_31 : decode cX8_takesOff 31 = .ok (.iadd, 1) := by decide +kernel
theorem dX8_takesOff_32 : decode cX8_takesOff 32 = .ok (.putfield 224, 3) := by decide +kernel
theorem dX8_takesOff_35 : decode cX8_takesOff 35 = .ok (.return_, 1) := by decide +kernel
theorem dX8_takesOff_36 : decode cX8_takesOff 36 = .ok (.iconst 0, 1) := by decide +kernel
theorem dX8_takesOff_37 : decode cX8_takesOff 37 = .ok (.istore_n 3, 1) := by decide +kernel
theorem dX8_takesOff_38 : decode cX8_takesOff 38 = .ok (.aload_n 0, 1) := by decide +kernel
theorem dX8_takesOff_39 : decode cX8_takesOff 39 = .ok (.getfield 30, 3) := by decide +kernel
theorem dX8_takesOff_42 : decode cX8_takesOff 42 = .ok (.iload_n 3, 1) := by decide +kernel
theorem dX8_takesOff_43 : decode cX8_takesOff 43 = .ok (.iaload, 1) := by decide +kernel
theorem dX8_takesOff_44 : decode cX8_takesOff 44 = .ok (.iload_n 2, 1) := by decide +kernel
theorem dX8_takesOff_45 : decode cX8_takesOff 45 = .ok (.if_icmp .ne 13, 3) := by decide +kernel
theorem dX8_takesOff_48 : decode cX8_takesOff 48 = .ok (.aload_n 0, 1) := by decide +kernel
theorem dX8_takesOff_49 : decode cX8_takesOff 49 = .ok (.getfield 36, 3) := by decide +kernel
theorem dX8_takesOff_52 : decode cX8_takesOff 52 = .ok (.iload_n 3, 1) := by decide +kernel
theorem dX8_takesOff_53 : decode cX8_takesOff 53 = .ok (.iaload, 1) := by decide +kernel
theorem dX8_takesOff_54 : decode cX8_takesOff 54 = .ok (.iconst (-1), 1) := by decide +kernel
theorem dX8_takesOff_55 : decode cX8_takesOff 55 = .ok (.if_icmp .eq 9, 3) := by decide +kernel
theorem dX8_takesOff_58 : decode cX8_takesOff 58 = .ok (.iinc 3 1, 3) := by decide +kernel
theorem dX8_takesOff_61 : decode cX8_takesOff 61 = .ok (.goto (-23), 3) := by decide +kernel
theorem dX8_takesOff_64 : decode cX8_takesOff 64 = .ok (.aload_n 0, 1) := by decide +kernel
theorem dX8_takesOff_65 : decode cX8_takesOff 65 = .ok (.getfield 36, 3) := by decide +kernel
theorem dX8_takesOff_68 : decode cX8_takesOff 68 = .ok (.iload_n 3, 1) := by decide +kernel
theorem dX8_takesOff_69 : decode cX8_takesOff 69 = .ok (.aload_n 0, 1) := by decide +kernel
theorem dX8_takesOff_70 : decode cX8_takesOff 70 = .ok (.getfield 208, 3) := by decide +kernel
theorem dX8_takesOff_73 : decode cX8_takesOff 73 = .ok (.iastore, 1) := by decide +kernel
theorem dX8_takesOff_74 : decode cX8_takesOff 74 = .ok (.aload_n 0, 1) := by decide +kernel
theorem dX8_takesOff_75 : decode cX8_takesOff 75 = .ok (.dup, 1) := by decide +kernel
theorem dX8_takesOff_76 : decode cX8_takesOff 76 = .ok (.getfield 217, 3) := by decide +kernel
theorem dX8_takesOff_79 : decode cX8_takesOff 79 = .ok (.iconst 1, 1) := by decide +kernel
theorem dX8_takesOff_80 : decode cX8_takesOff 80 = .ok (.iadd, 1) := by decide +kernel
theorem dX8_takesOff_81 : decode cX8_takesOff 81 = .ok (.putfield 217, 3) := by decide +kernel
theorem dX8_takesOff_84 : decode cX8_takesOff 84 = .ok (.aload_n 0, 1) := by decide +kernel
theorem dX8_takesOff_85 : decode cX8_takesOff 85 = .ok (.getfield 54, 3) := by decide +kernel
theorem dX8_takesOff_88 : decode cX8_takesOff 88 = .ok (.iload_n 2, 1) := by decide +kernel
theorem dX8_takesOff_89 : decode cX8_takesOff 89 = .ok (.dup2, 1) := by decide +kernel
theorem dX8_takesOff_90 : decode cX8_takesOff 90 = .ok (.iaload, 1) := by decide +kernel
theorem dX8_takesOff_91 : decode cX8_takesOff 91 = .ok (.iconst 1, 1) := by decide +kernel
theorem dX8_takesOff_92 : decode cX8_takesOff 92 = .ok (.iadd, 1) := by decide +kernel
theorem dX8_takesOff_93 : decode cX8_takesOff 93 = .ok (.iastore, 1) := by decide +kernel
theorem dX8_takesOff_94 : decode cX8_takesOff 94 = .ok (.aload_n 0, 1) := by decide +kernel
theorem dX8_takesOff_95 : decode cX8_takesOff 95 = .ok (.getfield 54, 3) := by decide +kernel
theorem dX8_takesOff_98 : decode cX8_takesOff 98 = .ok (.iload_n 2, 1) := by decide +kernel
theorem dX8_takesOff_99 : decode cX8_takesOff 99 = .ok (.iaload, 1) := by decide +kernel
theorem dX8_takesOff_100 : decode cX8_takesOff 100 = .ok (.aload_n 0, 1) := by decide +kernel
theorem dX8_takesOff_101 : decode cX8_takesOff 101 = .ok (.iload_n 2, 1) := by decide +kernel
theorem dX8_takesOff_102 : decode cX8_takesOff 102 = .ok (.invokevirtual 227, 3) := by decide +kernel
theorem dX8_takesOff_105 : decode cX8_takesOff 105 = .ok (.if_icmp .ne 8, 3) := by decide +kernel
theorem dX8_takesOff_108 : decode cX8_takesOff 108 = .ok (.aload_n 0, 1) := by decide +kernel
theorem dX8_takesOff_109 : decode cX8_takesOff 109 = .ok (.iload_n 1, 1) := by decide +kernel
theorem dX8_takesOff_110 : decode cX8_takesOff 110 = .ok (.invokevirtual 220, 3) := by decide +kernel
theorem dX8_takesOff_113 : decode cX8_takesOff 113 = .ok (.return_, 1) := by decide +kernel
theorem dX8_isLeft_0 : decode cX8_isLeft 0 = .ok (.iconst 0, 1) := by decide +kernel
theorem dX8_isLeft_1 : decode cX8_isLeft 1 = .ok (.istore_n 2, 1) := by decide +kernel
theorem dX8_isLeft_2 : decode cX8_isLeft 2 = .ok (.iload_n 2, 1) := by decide +kernel
theorem dX8_isLeft_3 : decode cX8_isLeft 3 = .ok (.aload_n 0, 1) := by decide +kernel
theorem dX8_isLeft_4 : decode cX8_isLeft 4 = .ok (.getfield 202, 3) := by decide +kernel
theorem dX8_isLeft_7 : decode cX8_isLeft 7 = .ok (.if_icmp .ge 46, 3) := by decide +kernel
theorem dX8_isLeft_10 : decode cX8_isLeft 10 = .ok (.aload_n 0, 1) := by decide +kernel
theorem dX8_isLeft_11 : decode cX8_isLeft 11 = .ok (.getfield 33, 3) := by decide +kernel
theorem dX8_isLeft_14 : decode cX8_isLeft 14 = .ok (.iload_n 2, 1) := by decide +kernel
theorem dX8_isLeft_15 : decode cX8_isLeft 15 = .ok (.iaload, 1) := by decide +kernel
theorem dX8_isLeft_16 : decode cX8_isLeft 16 = .ok (.iload_n 1, 1) := by decide +kernel
theorem dX8_isLeft_17 : decode cX8_isLeft 17 = .ok (.if_icmp .ne 30, 3) := by decide +kernel
theorem dX8_isLeft_20 : decode cX8_isLeft 20 = .ok (.aload_n 0, 1) := by decide +kernel
theorem dX8_isLeft_21 : decode cX8_isLeft 21 = .ok (.getfield 39, 3) := by decide +kernel
theorem dX8_isLeft_24 : decode cX8_isLeft 24 = .ok (.iload_n 2, 1) := by decide +kernel
theorem dX8_isLeft_25 : decode cX8_isLeft 25 = .ok (.iaload, 1) := by decide +kernel
theorem dX8_isLeft_26 : decode cX8_isLeft 26 = .ok (.iconst (-1), 1) := by decide +kernel
theorem dX8_isLeft_27 : decode cX8_isLeft 27 = .ok (.if_icmp .ne 20, 3) := by decide +kernel
theorem dX8_isLeft_30 : decode cX8_isLeft 30 = .ok (.aload_n 0, 1) := by decide +kernel
theorem dX8_isLeft_31 : decode cX8_isLeft 31 = .ok (.getfield 57, 3) := by decide +kernel
theorem dX8_isLeft_34 : decode cX8_isLeft 34 = .ok (.aload_n 0, 1) := by decide +kernel
theorem dX8_isLeft_35 : decode cX8_isLeft 35 = .ok (.getfield 30, 3) := by decide +kernel
theorem dX8_isLeft_38 : decode cX8_isLeft 38 = .ok (.iload_n 2, 1) := by decide +kernel
theorem dX8_isLeft_39 : decode cX8_isLeft 39 = .ok (.iaload, 1) := by decide +kernel
theorem dX8_isLeft_40 : decode cX8_isLeft 40 = .ok (.iaload, 1) := by decide +kernel
theorem dX8_isLeft_41 : decode cX8_isLeft 41 = .ok (.iconst (-1), 1) := by decide +kernel
theorem dX8_isLeft_42 : decode cX8_isLeft 42 = .ok (.if_icmp .eq 5, 3) := by decide +kernel
theorem dX8_isLeft_45 : decode cX8_isLeft 45 = .ok (.iconst 1, 1) := by decide +kernel
theorem dX8_isLeft_46 : decode cX8_isLeft 46 = .ok (.ireturn, 1) := by decide +kernel
theorem dX8_isLeft_47 : decode cX8_isLeft 47 = .ok (.iinc 2 1, 3) := by decide +kernel
theorem dX8_isLeft_50 : decode cX8_isLeft 50 = .ok (.goto (-48), 3) := by decide +kernel
theorem dX8_isLeft_53 : decode cX8_isLeft 53 = .ok (.iconst 0, 1) := by decide +kernel
theorem dX8_isLeft_54 : decode cX8_isLeft 54 = .ok (.ireturn, 1) := by decide +kernel
theorem dX8_goes_0 : decode cX8_goes 0 = .ok (.iconst 0, 1) := by decide +kernel
theorem dX8_goes_1 : decode cX8_goes 1 = .ok (.istore_n 1, 1) := by decide +kernel
theorem dX8_goes_2 : decode cX8_goes 2 = .ok (.iload_n 1, 1) := by decide +kernel
theorem dX8_goes_3 : decode cX8_goes 3 = .ok (.aload_n 0, 1) := by decide +kernel
theorem dX8_goes_4 : decode cX8_goes 4 = .ok (.getfield 7, 3) := by decide +kernel
theorem dX8_goes_7 : decode cX8_goes 7 = .ok (.iconst 0, 1) := by decide +kernel
theorem dX8_goes_8 : decode cX8_goes 8 = .ok (.iaload, 1) := by decide +kernel
theorem dX8_goes_9 : decode cX8_goes 9 = .ok (.if_icmp .ge 14, 3) := by decide +kernel
theorem dX8_goes_12 : decode cX8_goes 12 = .ok (.aload_n 0, 1) := by decide +kernel
theorem dX8_goes_13 : decode cX8_goes 13 = .ok (.iload_n 1, 1) := by decide +kernel
theorem dX8_goes_14 : decode cX8_goes 14 = .ok (.invokevirtual 230, 3) := by decide +kernel
theorem dX8_goes_17 : decode cX8_goes 17 = .ok (.iinc 1 1, 3) := by decide +kernel
theorem dX8_goes_20 : decode cX8_goes 20 = .ok (.goto (-18), 3) := by decide +kernel
theorem dX8_goes_23 : decode cX8_goes 23 = .ok (.iconst 0, 1) := by decide +kernel
theorem dX8_goes_24 : decode cX8_goes 24 = .ok (.istore_n 1, 1) := by decide +kernel
theorem dX8_goes_25 : decode cX8_goes 25 = .ok (.iload_n 1, 1) := by decide +kernel
theorem dX8_goes_26 : decode cX8_goes 26 = .ok (.aload_n 0, 1) := by decide +kernel
theorem dX8_goes_27 : decode cX8_goes 27 = .ok (.getfield 7, 3) := by decide +kernel
theorem dX8_goes_30 : decode cX8_goes 30 = .ok (.iconst 0, 1) := by decide +kernel
theorem dX8_goes_31 : decode cX8_goes 31 = .ok (.iaload, 1) := by decide +kernel
theorem dX8_goes_32 : decode cX8_goes 32 = .ok (.if_icmp .ge 31, 3) := by decide +kernel
theorem dX8_goes_35 : decode cX8_goes 35 = .ok (.aload_n 0, 1) := by decide +kernel
theorem dX8_goes_36 : decode cX8_goes 36 = .ok (.iload_n 1, 1) := by decide +kernel
theorem dX8_goes_37 : decode cX8_goes 37 = .ok (.invokevirtual 187, 3) := by decide +kernel
theorem dX8_goes_40 : decode cX8_goes 40 = .ok (.ifCond .eq 17, 3) := by decide +kernel
theorem dX8_goes_43 : decode cX8_goes 43 = .ok (.aload_n 0, 1) := by decide +kernel
theorem dX8_goes_44 : decode cX8_goes 44 = .ok (.getfield 66, 3) := by decide +kernel
theorem dX8_goes_47 : decode cX8_goes 47 = .ok (.iload_n 1, 1) := by decide +kernel
theorem dX8_goes_48 : decode cX8_goes 48 = .ok (.baload, 1) := by decide +kernel
theorem dX8_goes_49 : decode cX8_goes 49 = .ok (.ifCond .eq 8, 3) := by decide +kernel
theorem dX8_goes_52 : decode cX8_goes 52 = .ok (.aload_n 0, 1) := by decide +kernel
theorem dX8_goes_53 : decode cX8_goes 53 = .ok (.iload_n 1, 1) := by decide +kernel
theorem dX8_goes_54 : decode cX8_goes 54 = .ok (.invokevirtual 233, 3) := by decide +kernel
theorem dX8_goes_57 : decode cX8_goes 57 = .ok (.iinc 1 1, 3) := by decide +kernel
theorem dX8_goes_60 : decode cX8_goes 60 = .ok (.goto (-35), 3) := by decide +kernel
theorem dX8_goes_63 : decode cX8_goes 63 = .ok (.iconst 0, 1) := by decide +kernel
theorem dX8_goes_64 : decode cX8_goes 64 = .ok (.istore_n 1, 1) := by decide +kernel
theorem dX8_goes_65 : decode cX8_goes 65 = .ok (.iload_n 1, 1) := by decide +kernel
theorem dX8_goes_66 : decode cX8_goes 66 = .ok (.aload_n 0, 1) := by decide +kernel
theorem dX8_goes_67 : decode cX8_goes 67 = .ok (.getfield 7, 3) := by decide +kernel
theorem dX8_goes_70 : decode cX8_goes 70 = .ok (.iconst 0, 1) := by decide +kernel
theorem dX8_goes_71 : decode cX8_goes 71 = .ok (.iaload, 1) := by decide +kernel
theorem dX8_goes_72 : decode cX8_goes 72 = .ok (.if_icmp .ge 31, 3) := by decide +kernel
theorem dX8_goes_75 : decode cX8_goes 75 = .ok (.aload_n 0, 1) := by decide +kernel
theorem dX8_goes_76 : decode cX8_goes 76 = .ok (.iload_n 1, 1) := by decide +kernel
theorem dX8_goes_77 : decode cX8_goes 77 = .ok (.invokevirtual 187, 3) := by decide +kernel
theorem dX8_goes_80 : decode cX8_goes 80 = .ok (.ifCond .ne 17, 3) := by decide +kernel
theorem dX8_goes_83 : decode cX8_goes 83 = .ok (.aload_n 0, 1) := by decide +kernel
theorem dX8_goes_84 : decode cX8_goes 84 = .ok (.getfield 66, 3) := by decide +kernel
theorem dX8_goes_87 : decode cX8_goes 87 = .ok (.iload_n 1, 1) := by decide +kernel
theorem dX8_goes_88 : decode cX8_goes 88 = .ok (.baload, 1) := by decide +kernel
theorem dX8_goes_89 : decode cX8_goes 89 = .ok (.ifCond .eq 8, 3) := by decide +kernel
theorem dX8_goes_92 : decode cX8_goes 92 = .ok (.aload_n 0, 1) := by decide +kernel
theorem dX8_goes_93 : decode cX8_goes 93 = .ok (.iload_n 1, 1) := by decide +kernel
theorem dX8_goes_94 : decode cX8_goes 94 = .ok (.invokevirtual 236, 3) := by decide +kernel
theorem dX8_goes_97 : decode cX8_goes 97 = .ok (.iinc 1 1, 3) := by decide +kernel
theorem dX8_goes_100 : decode cX8_goes 100 = .ok (.goto (-35), 3) := by decide +kernel
theorem dX8_goes_103 : decode cX8_goes 103 = .ok (.iconst 0, 1) := by decide +kernel
theorem dX8_goes_104 : decode cX8_goes 104 = .ok (.istore_n 1, 1) := by decide +kernel
theorem dX8_goes_105 : decode cX8_goes 105 = .ok (.iload_n 1, 1) := by decide +kernel
theorem dX8_goes_106 : decode cX8_goes 106 = .ok (.aload_n 0, 1) := by decide +kernel
theorem dX8_goes_107 : decode cX8_goes 107 = .ok (.getfield 7, 3) := by decide +kernel
theorem dX8_goes_110 : decode cX8_goes 110 = .ok (.iconst 0, 1) := by decide +kernel
theorem dX8_goes_111 : decode cX8_goes 111 = .ok (.iaload, 1) := by decide +kernel
theorem dX8_goes_112 : decode cX8_goes 112 = .ok (.if_icmp .ge 54, 3) := by decide +kernel
theorem dX8_goes_115 : decode cX8_goes 115 = .ok (.aload_n 0, 1) := by decide +kernel
theorem dX8_goes_116 : decode cX8_goes 116 = .ok (.iload_n 1, 1) := by decide +kernel
theorem dX8_goes_117 : decode cX8_goes 117 = .ok (.invokevirtual 187, 3) := by decide +kernel
theorem dX8_goes_120 : decode cX8_goes 120 = .ok (.ifCond .eq 40, 3) := by decide +kernel
theorem dX8_goes_123 : decode cX8_goes 123 = .ok (.aload_n 0, 1) := by decide +kernel
theorem dX8_goes_124 : decode cX8_goes 124 = .ok (.getfield 66, 3) := by decide +kernel
theorem dX8_goes_127 : decode cX8_goes 127 = .ok (.iload_n 1, 1) := by decide +kernel
theorem dX8_goes_128 : decode cX8_goes 128 = .ok (.baload, 1) := by decide +kernel
theorem dX8_goes_129 : decode cX8_goes 129 = .ok (.ifCond .eq 31, 3) := by decide +kernel
theorem dX8_goes_132 : decode cX8_goes 132 = .ok (.aload_n 0, 1) := by decide +kernel
theorem dX8_goes_133 : decode cX8_goes 133 = .ok (.aload_n 0, 1) := by decide +kernel
theorem dX8_goes_134 : decode cX8_goes 134 = .ok (.aload_n 0, 1) := by decide +kernel
theorem dX8_goes_135 : decode cX8_goes 135 = .ok (.iload_n 1, 1) := by decide +kernel
theorem dX8_goes_136 : decode cX8_goes 136 = .ok (.aload_n 0, 1) := by decide +kernel
theorem dX8_goes_137 : decode cX8_goes 137 = .ok (.getfield 63, 3) := by decide +kernel
theorem dX8_goes_140 : decode cX8_goes 140 = .ok (.iload_n 1, 1) := by decide +kernel
theorem dX8_goes_141 : decode cX8_goes 141 = .ok (.iaload, 1) := by decide +kernel
theorem dX8_goes_142 : decode cX8_goes 142 = .ok (.invokevirtual 205, 3) := by decide +kernel
theorem dX8_goes_145 : decode cX8_goes 145 = .ok (.iconst 2, 1) := by decide +kernel
theorem dX8_goes_146 : decode cX8_goes 146 = .ok (.invokevirtual 92, 3) := by decide +kernel
theorem dX8_goes_149 : decode cX8_goes 149 = .ok (.invokevirtual 239, 3) := by decide +kernel
theorem dX8_goes_152 : decode cX8_goes 152 = .ok (.ifCond .ne 8, 3) := by decide +kernel
theorem dX8_goes_155 : decode cX8_goes 155 = .ok (.aload_n 0, 1) := by decide +kernel
theorem dX8_goes_156 : decode cX8_goes 156 = .ok (.iload_n 1, 1) := by decide +kernel
theorem dX8_goes_157 : decode cX8_goes 157 = .ok (.invokevirtual 220, 3) := by decide +kernel
theorem dX8_goes_160 : decode cX8_goes 160 = .ok (.iinc 1 1, 3) := by decide +kernel
theorem dX8_goes_163 : decode cX8_goes 163 = .ok (.goto (-58), 3) := by decide +kernel
theorem dX8_goes_166 : decode cX8_goes 166 = .ok (.aload_n 0, 1) := by decide +kernel
theorem dX8_goes_167 : decode cX8_goes 167 = .ok (.getfield 217, 3) := by decide +kernel
theorem dX8_goes_170 : decode cX8_goes 170 = .ok (.aload_n 0, 1) := by decide +kernel
theorem dX8_goes_171 : decode cX8_goes 171 = .ok (.getfield 242, 3) := by decide +kernel
theorem dX8_goes_174 : decode cX8_goes 174 = .ok (.if_icmp .le 19, 3) := by decide +kernel
theorem dX8_goes_177 : decode cX8_goes 177 = .ok (.aload_n 0, 1) := by decide +kernel
theorem dX8_goes_178 : decode cX8_goes 178 = .ok (.aload_n 0, 1) := by decide +kernel
theorem dX8_goes_179 : decode cX8_goes 179 = .ok (.getfield 217, 3) := by decide +kernel
theorem dX8_goes_182 : decode cX8_goes 182 = .ok (.putfield 242, 3) := by decide +kernel
theorem dX8_goes_185 : decode cX8_goes 185 = .ok (.aload_n 0, 1) := by decide +kernel
theorem dX8_goes_186 : decode cX8_goes 186 = .ok (.aload_n 0, 1) := by decide +kernel
theorem dX8_goes_187 : decode cX8_goes 187 = .ok (.getfield 208, 3) := by decide +kernel
theorem dX8_goes_190 : decode cX8_goes 190 = .ok (.putfield 245, 3) := by decide +kernel
theorem dX8_goes_193 : decode cX8_goes 193 = .ok (.return_, 1) := by decide +kernel
theorem dX8_lateOf_0 : decode cX8_lateOf 0 = .ok (.aload_n 0, 1) := by decide +kernel
theorem dX8_lateOf_1 : decode cX8_lateOf 1 = .ok (.iload_n 1, 1) := by decide +kernel
theorem dX8_lateOf_2 : decode cX8_lateOf 2 = .ok (.invokevirtual 195, 3) := by decide +kernel
theorem dX8_lateOf_5 : decode cX8_lateOf 5 = .ok (.ifCond .ne 5, 3) := by decide +kernel
theorem dX8_lateOf_8 : decode cX8_lateOf 8 = .ok (.iconst 0, 1) := by decide +kernel
theorem dX8_lateOf_9 : decode cX8_lateOf 9 = .ok (.ireturn, 1) := by decide +kernel
theorem dX8_lateOf_10 : decode cX8_lateOf 10 = .ok (.aload_n 0, 1) := by decide +kernel
theorem dX8_lateOf_11 : decode cX8_lateOf 11 = .ok (.getfield 51, 3) := by decide +kernel
theorem dX8_lateOf_14 : decode cX8_lateOf 14 = .ok (.iload_n 1, 1) := by decide +kernel
theorem dX8_lateOf_15 : decode cX8_lateOf 15 = .ok (.iaload, 1) := by decide +kernel
theorem dX8_lateOf_16 : decode cX8_lateOf 16 = .ok (.iconst (-1), 1) := by decide +kernel
theorem dX8_lateOf_17 : decode cX8_lateOf 17 = .ok (.if_icmp .ne 9, 3) := by decide +kernel
theorem dX8_lateOf_20 : decode cX8_lateOf 20 = .ok (.sipush 200, 3) := by decide +kernel
theorem dX8_lateOf_23 : decode cX8_lateOf 23 = .ok (.goto 9, 3) := by decide +kernel
theorem dX8_lateOf_26 : decode cX8_lateOf 26 = .ok (.aload_n 0, 1) := by decide +kernel
theorem dX8_lateOf_27 : decode cX8_lateOf 27 = .ok (.getfield 51, 3) := by decide +kernel
theorem dX8_lateOf_30 : decode cX8_lateOf 30 = .ok (.iload_n 1, 1) := by decide +kernel
theorem dX8_lateOf_31 : decode cX8_lateOf 31 = .ok (.iaload, 1) := by decide +kernel
theorem dX8_lateOf_32 : decode cX8_lateOf 32 = .ok (.aload_n 0, 1) := by decide +kernel
theorem dX8_lateOf_33 : decode cX8_lateOf 33 = .ok (.iload_n 1, 1) := by decide +kernel
theorem dX8_lateOf_34 : decode cX8_lateOf 34 = .ok (.iconst 3, 1) := by decide +kernel
theorem dX8_lateOf_35 : decode cX8_lateOf 35 = .ok (.invokevirtual 92, 3) := by decide +kernel
theorem dX8_lateOf_38 : decode cX8_lateOf 38 = .ok (.isub, 1) := by decide +kernel
theorem dX8_lateOf_39 : decode cX8_lateOf 39 = .ok (.istore_n 2, 1) := by decide +kernel
theorem dX8_lateOf_40 : decode cX8_lateOf 40 = .ok (.iload_n 2, 1) := by decide +kernel
theorem dX8_lateOf_41 : decode cX8_lateOf 41 = .ok (.ifCond .ge 7, 3) := by decide +kernel
theorem dX8_lateOf_44 : decode cX8_lateOf 44 = .ok (.iconst 0, 1) := by decide +kernel
theorem dX8_lateOf_45 : decode cX8_lateOf 45 = .ok (.goto 4, 3) := by decide +kernel
theorem dX8_lateOf_48 : decode cX8_lateOf 48 = .ok (.iload_n 2, 1) := by decide +kernel
theorem dX8_lateOf_49 : decode cX8_lateOf 49 = .ok (.ireturn, 1) := by decide +kernel
theorem dX8_lateCost_0 : decode cX8_lateCost 0 = .ok (.iconst 0, 1) := by decide +kernel
theorem dX8_lateCost_1 : decode cX8_lateCost 1 = .ok (.istore_n 1, 1) := by decide +kernel
theorem dX8_lateCost_2 : decode cX8_lateCost 2 = .ok (.iconst 0, 1) := by decide +kernel
theorem dX8_lateCost_3 : decode cX8_lateCost 3 = .ok (.istore_n 2, 1) := by decide +kernel
theorem dX8_lateCost_4 : decode cX8_lateCost 4 = .ok (.iload_n 2, 1) := by decide +kernel
theorem dX8_lateCost_5 : decode cX8_lateCost 5 = .ok (.aload_n 0, 1) := by decide +kernel
theorem dX8_lateCost_6 : decode cX8_lateCost 6 = .ok (.getfield 7, 3) := by decide +kernel
theorem dX8_lateCost_9 : decode cX8_lateCost 9 = .ok (.iconst 1, 1) := by decide +kernel
theorem dX8_lateCost_10 : decode cX8_lateCost 10 = .ok (.iaload, 1) := by decide +kernel
theorem dX8_lateCost_11 : decode cX8_lateCost 11 = .ok (.if_icmp .ge 36, 3) := by decide +kernel
theorem dX8_lateCost_14 : decode cX8_lateCost 14 = .ok (.iload_n 1, 1) := by decide +kernel
theorem dX8_lateCost_15 : decode cX8_lateCost 15 = .ok (.aload_n 0, 1) := by decide +kernel
theorem dX8_lateCost_16 : decode cX8_lateCost 16 = .ok (.iload_n 2, 1) := by decide +kernel
theorem dX8_lateCost_17 : decode cX8_lateCost 17 = .ok (.invokevirtual 195, 3) := by decide +kernel
theorem dX8_lateCost_20 : decode cX8_lateCost 20 = .ok (.ifCond .eq 18, 3) := by decide +kernel
theorem dX8_lateCost_23 : decode cX8_lateCost 23 = .ok (.aload_n 0, 1) := by decide +kernel
theorem dX8_lateCost_24 : decode cX8_lateCost 24 = .ok (.iload_n 2, 1) := by decide +kernel
theorem dX8_lateCost_25 : decode cX8_lateCost 25 = .ok (.iconst 5, 1) := by decide +kernel
theorem dX8_lateCost_26 : decode cX8_lateCost 26 = .ok (.invokevirtual 92, 3) := by decide +kernel
theorem dX8_lateCost_29 : decode cX8_lateCost 29 = .ok (.aload_n 0, 1) := by decide +kernel
theorem dX8_lateCost_30 : decode cX8_lateCost 30 = .ok (.iload_n 2, 1) := by decide +kernel
theorem dX8_lateCost_31 : decode cX8_lateCost 31 = .ok (.invokevirtual 248, 3) := by decide +kernel
theorem dX8_lateCost_34 : decode cX8_lateCost 34 = .ok (.imul, 1) := by decide +kernel
theorem dX8_lateCost_35 : decode cX8_lateCost 35 = .ok (.goto 4, 3) := by decide +kernel
theorem dX8_lateCost_38 : decode cX8_lateCost 38 = .ok (.iconst 0, 1) := by decide +kernel
theorem dX8_lateCost_39 : decode cX8_lateCost 39 = .ok (.iadd, 1) := by decide +kernel
theorem dX8_lateCost_40 : decode cX8_lateCost 40 = .ok (.istore_n 1, 1) := by decide +kernel
theorem dX8_lateCost_41 : decode cX8_lateCost 41 = .ok (.iinc 2 1, 3) := by decide +kernel
theorem dX8_lateCost_44 : decode cX8_lateCost 44 = .ok (.goto (-40), 3) := by decide +kernel
theorem dX8_lateCost_47 : decode cX8_lateCost 47 = .ok (.iload_n 1, 1) := by decide +kernel
theorem dX8_lateCost_48 : decode cX8_lateCost 48 = .ok (.ireturn, 1) := by decide +kernel
theorem dX8_onMany_0 : decode cX8_onMany 0 = .ok (.iconst 0, 1) := by decide +kernel
theorem dX8_onMany_1 : decode cX8_onMany 1 = .ok (.istore_n 1, 1) := by decide +kernel
theorem dX8_onMany_2 : decode cX8_onMany 2 = .ok (.iconst 0, 1) := by decide +kernel
theorem dX8_onMany_3 : decode cX8_onMany 3 = .ok (.istore_n 2, 1) := by decide +kernel
theorem dX8_onMany_4 : decode cX8_onMany 4 = .ok (.iload_n 2, 1) := by decide +kernel
theorem dX8_onMany_5 : decode cX8_onMany 5 = .ok (.aload_n 0, 1) := by decide +kernel
theorem dX8_onMany_6 : decode cX8_onMany 6 = .ok (.getfield 202, 3) := by decide +kernel
theorem dX8_onMany_9 : decode cX8_onMany 9 = .ok (.if_icmp .ge 27, 3) := by decide +kernel
theorem dX8_onMany_12 : decode cX8_onMany 12 = .ok (.iload_n 1, 1) := by decide +kernel
theorem dX8_onMany_13 : decode cX8_onMany 13 = .ok (.aload_n 0, 1) := by decide +kernel
theorem dX8_onMany_14 : decode cX8_onMany 14 = .ok (.getfield 39, 3) := by decide +kernel
theorem dX8_onMany_17 : decode cX8_onMany 17 = .ok (.iload_n 2, 1) := by decide +kernel
theorem dX8_onMany_18 : decode cX8_onMany 18 = .ok (.iaload, 1) := by decide +kernel
theorem dX8_onMany_19 : decode cX8_onMany 19 = .ok (.iconst (-1), 1) := by decide +kernel
theorem dX8_onMany_20 : decode cX8_onMany 20 = .ok (.if_icmp .eq 7, 3) := by decide +kernel
theorem dX8_onMany_23 : decode cX8_onMany 23 = .ok (.iconst 1, 1) := by decide +kernel
theorem dX8_onMany_24 : decode cX8_onMany 24 = .ok (.goto 4, 3) := by decide +kernel
theorem dX8_onMany_27 : decode cX8_onMany 27 = .ok (.iconst 0, 1) := by decide +kernel
theorem dX8_onMany_28 : decode cX8_onMany 28 = .ok (.iadd, 1) := by decide +kernel
theorem dX8_onMany_29 : decode cX8_onMany 29 = .ok (.istore_n 1, 1) := by decide +kernel
theorem dX8_onMany_30 : decode cX8_onMany 30 = .ok (.iinc 2 1, 3) := by decide +kernel
theorem dX8_onMany_33 : decode cX8_onMany 33 = .ok (.goto (-29), 3) := by decide +kernel
theorem dX8_onMany_36 : decode cX8_onMany 36 = .ok (.iload_n 1, 1) := by decide +kernel
theorem dX8_onMany_37 : decode cX8_onMany 37 = .ok (.ireturn, 1) := by decide +kernel
theorem dX8_farSum_0 : decode cX8_farSum 0 = .ok (.iconst 0, 1) := by decide +kernel
theorem dX8_farSum_1 : decode cX8_farSum 1 = .ok (.istore_n 1, 1) := by decide +kernel
theorem dX8_farSum_2 : decode cX8_farSum 2 = .ok (.iconst 0, 1) := by decide +kernel
theorem dX8_farSum_3 : decode cX8_farSum 3 = .ok (.istore_n 2, 1) := by decide +kernel
theorem dX8_farSum_4 : decode cX8_farSum 4 = .ok (.iload_n 2, 1) := by decide +kernel
theorem dX8_farSum_5 : decode cX8_farSum 5 = .ok (.aload_n 0, 1) := by decide +kernel
theorem dX8_farSum_6 : decode cX8_farSum 6 = .ok (.getfield 202, 3) := by decide +kernel
theorem dX8_farSum_9 : decode cX8_farSum 9 = .ok (.if_icmp .ge 32, 3) := by decide +kernel
theorem dX8_farSum_12 : decode cX8_farSum 12 = .ok (.iload_n 1, 1) := by decide +kernel
theorem dX8_farSum_13 : decode cX8_farSum 13 = .ok (.aload_n 0, 1) := by decide +kernel
theorem dX8_farSum_14 : decode cX8_farSum 14 = .ok (.getfield 39, 3) := by decide +kernel
theorem dX8_farSum_17 : decode cX8_farSum 17 = .ok (.iload_n 2, 1) := by decide +kernel
theorem dX8_farSum_18 : decode cX8_farSum 18 = .ok (.iaload, 1) := by decide +kernel
theorem dX8_farSum_19 : decode cX8_farSum 19 = .ok (.iconst (-1), 1) := by decide +kernel
theorem dX8_farSum_20 : decode cX8_farSum 20 = .ok (.if_icmp .eq 12, 3) := by decide +kernel
theorem dX8_farSum_23 : decode cX8_farSum 23 = .ok (.aload_n 0, 1) := by decide +kernel
theorem dX8_farSum_24 : decode cX8_farSum 24 = .ok (.getfield 45, 3) := by decide +kernel
theorem dX8_farSum_27 : decode cX8_farSum 27 = .ok (.iload_n 2, 1) := by decide +kernel
theorem dX8_farSum_28 : decode cX8_farSum 28 = .ok (.iaload, 1) := by decide +kernel
theorem dX8_farSum_29 : decode cX8_farSum 29 = .ok (.goto 4, 3) := by decide +kernel
theorem dX8_farSum_32 : decode cX8_farSum 32 = .ok (.iconst 0, 1) := by decide +kernel
theorem dX8_farSum_33 : decode cX8_farSum 33 = .ok (.iadd, 1) := by decide +kernel
theorem dX8_farSum_34 : decode cX8_farSum 34 = .ok (.istore_n 1, 1) := by decide +kernel
theorem dX8_farSum_35 : decode cX8_farSum 35 = .ok (.iinc 2 1, 3) := by decide +kernel
theorem dX8_farSum_38 : decode cX8_farSum 38 = .ok (.goto (-34), 3) := by decide +kernel
theorem dX8_farSum_41 : decode cX8_farSum 41 = .ok (.iload_n 1, 1) := by decide +kernel
theorem dX8_farSum_42 : decode cX8_farSum 42 = .ok (.ireturn, 1) := by decide +kernel
theorem dX8_stagedSum_0 : decode cX8_stagedSum 0 = .ok (.iconst 0, 1) := by decide +kernel
theorem dX8_stagedSum_1 : decode cX8_stagedSum 1 = .ok (.istore_n 1, 1) := by decide +kernel
theorem dX8_stagedSum_2 : decode cX8_stagedSum 2 = .ok (.iconst 0, 1) := by decide +kernel
theorem dX8_stagedSum_3 : decode cX8_stagedSum 3 = .ok (.istore_n 2, 1) := by decide +kernel
theorem dX8_stagedSum_4 : decode cX8_stagedSum 4 = .ok (.iload_n 2, 1) := by decide +kernel
theorem dX8_stagedSum_5 : decode cX8_stagedSum 5 = .ok (.aload_n 0, 1) := by decide +kernel
theorem dX8_stagedSum_6 : decode cX8_stagedSum 6 = .ok (.getfield 202, 3) := by decide +kernel
theorem dX8_stagedSum_9 : decode cX8_stagedSum 9 = .ok (.if_icmp .ge 39, 3) := by decide +kernel
theorem dX8_stagedSum_12 : decode cX8_stagedSum 12 = .ok (.iload_n 1, 1) := by decide +kernel
theorem dX8_stagedSum_13 : decode cX8_stagedSum 13 = .ok (.aload_n 0, 1) := by decide +kernel
theorem dX8_stagedSum_14 : decode cX8_stagedSum 14 = .ok (.getfield 39, 3) := by decide +kernel
theorem dX8_stagedSum_17 : decode cX8_stagedSum 17 = .ok (.iload_n 2, 1) := by decide +kernel
theorem dX8_stagedSum_18 : decode cX8_stagedSum 18 = .ok (.iaload, 1) := by decide +kernel
theorem dX8_stagedSum_19 : decode cX8_stagedSum 19 = .ok (.iconst (-1), 1) := by decide +kernel
theorem dX8_stagedSum_20 : decode cX8_stagedSum 20 = .ok (.if_icmp .eq 19, 3) := by decide +kernel
theorem dX8_stagedSum_23 : decode cX8_stagedSum 23 = .ok (.aload_n 0, 1) := by decide +kernel
theorem dX8_stagedSum_24 : decode cX8_stagedSum 24 = .ok (.getfield 39, 3) := by decide +kernel
theorem dX8_stagedSum_27 : decode cX8_stagedSum 27 = .ok (.iload_n 2, 1) := by decide +kernel
theorem dX8_stagedSum_28 : decode cX8_stagedSum 28 = .ok (.iaload, 1) := by decide +kernel
theorem dX8_stagedSum_29 : decode cX8_stagedSum 29 = .ok (.aload_n 0, 1) := by decide +kernel
theorem dX8_stagedSum_30 : decode cX8_stagedSum 30 = .ok (.getfield 36, 3) := by decide +kernel
theorem dX8_stagedSum_33 : decode cX8_stagedSum 33 = .ok (.iload_n 2, 1) := by decide +kernel
theorem dX8_stagedSum_34 : decode cX8_stagedSum 34 = .ok (.iaload, 1) := by decide +kernel
theorem dX8_stagedSum_35 : decode cX8_stagedSum 35 = .ok (.isub, 1) := by decide +kernel
theorem dX8_stagedSum_36 : decode cX8_stagedSum 36 = .ok (.goto 4, 3) := by decide +kernel
theorem dX8_stagedSum_39 : decode cX8_stagedSum 39 = .ok (.iconst 0, 1) := by decide +kernel
theorem dX8_stagedSum_40 : decode cX8_stagedSum 40 = .ok (.iadd, 1) := by decide +kernel
theorem dX8_stagedSum_41 : decode cX8_stagedSum 41 = .ok (.istore_n 1, 1) := by decide +kernel
theorem dX8_stagedSum_42 : decode cX8_stagedSum 42 = .ok (.iinc 2 1, 3) := by decide +kernel
theorem dX8_stagedSum_45 : decode cX8_stagedSum 45 = .ok (.goto (-41), 3) := by decide +kernel
theorem dX8_stagedSum_48 : decode cX8_stagedSum 48 = .ok (.iload_n 1, 1) := by decide +kernel
theorem dX8_stagedSum_49 : decode cX8_stagedSum 49 = .ok (.ireturn, 1) := by decide +kernel
theorem dX8_isOver_0 : decode cX8_isOver 0 = .ok (.iconst 0, 1) := by decide +kernel
theorem dX8_isOver_1 : decode cX8_isOver 1 = .ok (.istore_n 1, 1) := by decide +kernel
theorem dX8_isOver_2 : decode cX8_isOver 2 = .ok (.iload_n 1, 1) := by decide +kernel
theorem dX8_isOver_3 : decode cX8_isOver 3 = .ok (.aload_n 0, 1) := by decide +kernel
theorem dX8_isOver_4 : decode cX8_isOver 4 = .ok (.getfield 7, 3) := by decide +kernel
theorem dX8_isOver_7 : decode cX8_isOver 7 = .ok (.iconst 0, 1) := by decide +kernel
theorem dX8_isOver_8 : decode cX8_isOver 8 = .ok (.iaload, 1) := by decide +kernel
theorem dX8_isOver_9 : decode cX8_isOver 9 = .ok (.if_icmp .ge 25, 3) := by decide +kernel
theorem dX8_isOver_12 : decode cX8_isOver 12 = .ok (.aload_n 0, 1) := by decide +kernel
theorem dX8_isOver_13 : decode cX8_isOver 13 = .ok (.getfield 63, 3) := by decide +kernel
theorem dX8_isOver_16 : decode cX8_isOver 16 = .ok (.iload_n 1, 1) := by decide +kernel
theorem dX8_isOver_17 : decode cX8_isOver 17 = .ok (.iaload, 1) := by decide +kernel
theorem dX8_isOver_18 : decode cX8_isOver 18 = .ok (.aload_n 0, 1) := by decide +kernel
theorem dX8_isOver_19 : decode cX8_isOver 19 = .ok (.iload_n 1, 1) := by decide +kernel
theorem dX8_isOver_20 : decode cX8_isOver 20 = .ok (.invokevirtual 191, 3) := by decide +kernel
theorem dX8_isOver_23 : decode cX8_isOver 23 = .ok (.if_icmp .ge 5, 3) := by decide +kernel
theorem dX8_isOver_26 : decode cX8_isOver 26 = .ok (.iconst 0, 1) := by decide +kernel
theorem dX8_isOver_27 : decode cX8_isOver 27 = .ok (.ireturn, 1) := by decide +kernel
theorem dX8_isOver_28 : decode cX8_isOver 28 = .ok (.iinc 1 1, 3) := by decide +kernel
theorem dX8_isOver_31 : decode cX8_isOver 31 = .ok (.goto (-29), 3) := by decide +kernel
theorem dX8_isOver_34 : decode cX8_isOver 34 = .ok (.iconst 1, 1) := by decide +kernel
theorem dX8_isOver_35 : decode cX8_isOver 35 = .ok (.ireturn, 1) := by decide +kernel
theorem dX8_runs_0 : decode cX8_runs 0 = .ok (.aload_n 0, 1) := by decide +kernel
theorem dX8_runs_1 : decode cX8_runs 1 = .ok (.invokevirtual 251, 3) := by decide +kernel
theorem dX8_runs_4 : decode cX8_runs 4 = .ok (.aload_n 0, 1) := by decide +kernel
theorem dX8_runs_5 : decode cX8_runs 5 = .ok (.iconst 0, 1) := by decide +kernel
theorem dX8_runs_6 : decode cX8_runs 6 = .ok (.putfield 217, 3) := by decide +kernel
theorem dX8_runs_9 : decode cX8_runs 9 = .ok (.aload_n 0, 1) := by decide +kernel
theorem dX8_runs_10 : decode cX8_runs 10 = .ok (.iconst 0, 1) := by decide +kernel
theorem dX8_runs_11 : decode cX8_runs 11 = .ok (.putfield 242, 3) := by decide +kernel
theorem dX8_runs_14 : decode cX8_runs 14 = .ok (.aload_n 0, 1) := by decide +kernel
theorem dX8_runs_15 : decode cX8_runs 15 = .ok (.iconst (-1), 1) := by decide +kernel
theorem dX8_runs_16 : decode cX8_runs 16 = .ok (.putfield 245, 3) := by decide +kernel
theorem dX8_runs_19 : decode cX8_runs 19 = .ok (.aload_n 0, 1) := by decide +kernel
theorem dX8_runs_20 : decode cX8_runs 20 = .ok (.iconst 0, 1) := by decide +kernel
theorem dX8_runs_21 : decode cX8_runs 21 = .ok (.putfield 224, 3) := by decide +kernel
theorem dX8_runs_24 : decode cX8_runs 24 = .ok (.aload_n 0, 1) := by decide +kernel
theorem dX8_runs_25 : decode cX8_runs 25 = .ok (.iconst 0, 1) := by decide +kernel
theorem dX8_runs_26 : decode cX8_runs 26 = .ok (.putfield 208, 3) := by decide +kernel
theorem dX8_runs_29 : decode cX8_runs 29 = .ok (.aload_n 0, 1) := by decide +kernel
theorem dX8_runs_30 : decode cX8_runs 30 = .ok (.getfield 208, 3) := by decide +kernel
theorem dX8_runs_33 : decode cX8_runs 33 = .ok (.sipush 200, 3) := by decide +kernel
theorem dX8_runs_36 : decode cX8_runs 36 = .ok (.if_icmp .ge 27, 3) := by decide +kernel
theorem dX8_runs_39 : decode cX8_runs 39 = .ok (.aload_n 0, 1) := by decide +kernel
theorem dX8_runs_40 : decode cX8_runs 40 = .ok (.invokevirtual 254, 3) := by decide +kernel
theorem dX8_runs_43 : decode cX8_runs 43 = .ok (.ifCond .ne 20, 3) := by decide +kernel
theorem dX8_runs_46 : decode cX8_runs 46 = .ok (.aload_n 0, 1) := by decide +kernel
theorem dX8_runs_47 : decode cX8_runs 47 = .ok (.invokevirtual 257, 3) := by decide +kernel
theorem dX8_runs_50 : decode cX8_runs 50 = .ok (.aload_n 0, 1) := by decide +kernel
theorem dX8_runs_51 : decode cX8_runs 51 = .ok (.dup, 1) := by decide +kernel
theorem dX8_runs_52 : decode cX8_runs 52 = .ok (.getfield 208, 3) := by decide +kernel
theorem dX8_runs_55 : decode cX8_runs 55 = .ok (.iconst 1, 1) := by decide +kernel
theorem dX8_runs_56 : decode cX8_runs 56 = .ok (.iadd, 1) := by decide +kernel
theorem dX8_runs_57 : decode cX8_runs 57 = .ok (.putfield 208, 3) := by decide +kernel
theorem dX8_runs_60 : decode cX8_runs 60 = .ok (.goto (-31), 3) := by decide +kernel
theorem dX8_runs_63 : decode cX8_runs 63 = .ok (.aload_n 0, 1) := by decide +kernel
theorem dX8_runs_64 : decode cX8_runs 64 = .ok (.invokevirtual 260, 3) := by decide +kernel
theorem dX8_runs_67 : decode cX8_runs 67 = .ok (.aload_n 0, 1) := by decide +kernel
theorem dX8_runs_68 : decode cX8_runs 68 = .ok (.invokevirtual 263, 3) := by decide +kernel
theorem dX8_runs_71 : decode cX8_runs 71 = .ok (.iadd, 1) := by decide +kernel
theorem dX8_runs_72 : decode cX8_runs 72 = .ok (.aload_n 0, 1) := by decide +kernel
theorem dX8_runs_73 : decode cX8_runs 73 = .ok (.invokevirtual 266, 3) := by decide +kernel
theorem dX8_runs_76 : decode cX8_runs 76 = .ok (.iadd, 1) := by decide +kernel
theorem dX8_runs_77 : decode cX8_runs 77 = .ok (.bipush 100, 2) := by decide +kernel
theorem dX8_runs_79 : decode cX8_runs 79 = .ok (.aload_n 0, 1) := by decide +kernel
theorem dX8_runs_80 : decode cX8_runs 80 = .ok (.getfield 202, 3) := by decide +kernel
theorem dX8_runs_83 : decode cX8_runs 83 = .ok (.aload_n 0, 1) := by decide +kernel
theorem dX8_runs_84 : decode cX8_runs 84 = .ok (.invokevirtual 269, 3) := by decide +kernel
theorem dX8_runs_87 : decode cX8_runs 87 = .ok (.isub, 1) := by decide +kernel
theorem dX8_runs_88 : decode cX8_runs 88 = .ok (.imul, 1) := by decide +kernel
theorem dX8_runs_89 : decode cX8_runs 89 = .ok (.iadd, 1) := by decide +kernel
theorem dX8_runs_90 : decode cX8_runs 90 = .ok (.ireturn, 1) := by decide +kernel
theorem dX8_isFixed_0 : decode cX8_isFixed 0 = .ok (.aload_n 0, 1) := by decide +kernel
theorem dX8_isFixed_1 : decode cX8_isFixed 1 = .ok (.getfield 48, 3) := by decide +kernel
theorem dX8_isFixed_4 : decode cX8_isFixed 4 = .ok (.iload_n 1, 1) := by decide +kernel
theorem dX8_isFixed_5 : decode cX8_isFixed 5 = .ok (.iaload, 1) := by decide +kernel
theorem dX8_isFixed_6 : decode cX8_isFixed 6 = .ok (.iconst (-1), 1) := by decide +kernel
theorem dX8_isFixed_7 : decode cX8_isFixed 7 = .ok (.if_icmp .eq 22, 3) := by decide +kernel
theorem dX8_isFixed_10 : decode cX8_isFixed 10 = .ok (.aload_n 0, 1) := by decide +kernel
theorem dX8_isFixed_11 : decode cX8_isFixed 11 = .ok (.getfield 48, 3) := by decide +kernel
theorem dX8_isFixed_14 : decode cX8_isFixed 14 = .ok (.iload_n 1, 1) := by decide +kernel
theorem dX8_isFixed_15 : decode cX8_isFixed 15 = .ok (.iaload, 1) := by decide +kernel
theorem dX8_isFixed_16 : decode cX8_isFixed 16 = .ok (.aload_n 0, 1) := by decide +kernel
theorem dX8_isFixed_17 : decode cX8_isFixed 17 = .ok (.getfield 7, 3) := by decide +kernel
theorem dX8_isFixed_20 : decode cX8_isFixed 20 = .ok (.iconst 4, 1) := by decide +kernel
theorem dX8_isFixed_21 : decode cX8_isFixed 21 = .ok (.iaload, 1) := by decide +kernel
theorem dX8_isFixed_22 : decode cX8_isFixed 22 = .ok (.if_icmp .ge 7, 3) := by decide +kernel
theorem dX8_isFixed_25 : decode cX8_isFixed 25 = .ok (.iconst 1, 1) := by decide +kernel
theorem dX8_isFixed_26 : decode cX8_isFixed 26 = .ok (.goto 4, 3) := by decide +kernel
theorem dX8_isFixed_29 : decode cX8_isFixed 29 = .ok (.iconst 0, 1) := by decide +kernel
theorem dX8_isFixed_30 : decode cX8_isFixed 30 = .ok (.ireturn, 1) := by decide +kernel
theorem dX8_begins_0 : decode cX8_begins 0 = .ok (.aload_n 0, 1) := by decide +kernel
theorem dX8_begins_1 : decode cX8_begins 1 = .ok (.aload_n 0, 1) := by decide +kernel
theorem dX8_begins_2 : decode cX8_begins 2 = .ok (.invokevirtual 272, 3) := by decide +kernel
theorem dX8_begins_5 : decode cX8_begins 5 = .ok (.putfield 275, 3) := by decide +kernel
theorem dX8_begins_8 : decode cX8_begins 8 = .ok (.iconst 0, 1) := by decide +kernel
theorem dX8_begins_9 : decode cX8_begins 9 = .ok (.istore_n 1, 1) := by decide +kernel
theorem dX8_begins_10 : decode cX8_begins 10 = .ok (.iload_n 1, 1) := by decide +kernel
theorem dX8_begins_11 : decode cX8_begins 11 = .ok (.bipush 6, 2) := by decide +kernel
theorem dX8_begins_13 : decode cX8_begins 13 = .ok (.if_icmp .ge 16, 3) := by decide +kernel
theorem dX8_begins_16 : decode cX8_begins 16 = .ok (.aload_n 0, 1) := by decide +kernel
theorem dX8_begins_17 : decode cX8_begins 17 = .ok (.getfield 72, 3) := by decide +kernel
theorem dX8_begins_20 : decode cX8_begins 20 = .ok (.iload_n 1, 1) := by decide +kernel
theorem dX8_begins_21 : decode cX8_begins 21 = .ok (.iconst 0, 1) := by decide +kernel
theorem dX8_begins_22 : decode cX8_begins 22 = .ok (.iastore, 1) := by decide +kernel
theorem dX8_begins_23 : decode cX8_begins 23 = .ok (.iinc 1 1, 3) := by decide +kernel
theorem dX8_begins_26 : decode cX8_begins 26 = .ok (.goto (-16), 3) := by decide +kernel
theorem dX8_begins_29 : decode cX8_begins 29 = .ok (.iconst 0, 1) := by decide +kernel
theorem dX8_begins_30 : decode cX8_begins 30 = .ok (.istore_n 1, 1) := by decide +kernel
theorem dX8_begins_31 : decode cX8_begins 31 = .ok (.iload_n 1, 1) := by decide +kernel
theorem dX8_begins_32 : decode cX8_begins 32 = .ok (.aload_n 0, 1) := by decide +kernel
theorem dX8_begins_33 : decode cX8_begins 33 = .ok (.getfield 7, 3) := by decide +kernel
theorem dX8_begins_36 : decode cX8_begins 36 = .ok (.iconst 0, 1) := by decide +kernel
theorem dX8_begins_37 : decode cX8_begins 37 = .ok (.iaload, 1) := by decide +kernel
theorem dX8_begins_38 : decode cX8_begins 38 = .ok (.if_icmp .ge 53, 3) := by decide +kernel
theorem dX8_begins_41 : decode cX8_begins 41 = .ok (.iconst 0, 1) := by decide +kernel
theorem dX8_begins_42 : decode cX8_begins 42 = .ok (.istore_n 2, 1) := by decide +kernel
theorem dX8_begins_43 : decode cX8_begins 43 = .ok (.iload_n 2, 1) := by decide +kernel
theorem dX8_begins_44 : decode cX8_begins 44 = .ok (.aload_n 0, 1) := by decide +kernel
theorem dX8_begins_45 : decode cX8_begins 45 = .ok (.iload_n 1, 1) := by decide +kernel
theorem dX8_begins_46 : decode cX8_begins 46 = .ok (.invokevirtual 191, 3) := by decide +kernel
theorem dX8_begins_49 : decode cX8_begins 49 = .ok (.if_icmp .ge 36, 3) := by decide +kernel
theorem dX8_begins_52 : decode cX8_begins 52 = .ok (.aload_n 0, 1) := by decide +kernel
theorem dX8_begins_53 : decode cX8_begins 53 = .ok (.getfield 72, 3) := by decide +kernel
theorem dX8_begins_56 : decode cX8_begins 56 = .ok (.iload_n 1, 1) := by decide +kernel
theorem dX8_begins_57 : decode cX8_begins 57 = .ok (.dup2, 1) := by decide +kernel
theorem dX8_begins_58 : decode cX8_begins 58 = .ok (.iaload, 1) := by decide +kernel
theorem dX8_begins_59 : decode cX8_begins 59 = .ok (.aload_n 0, 1) := by decide +kernel
theorem dX8_begins_60 : decode cX8_begins 60 = .ok (.aload_n 0, 1) := by decide +kernel
theorem dX8_begins_61 : decode cX8_begins 61 = .ok (.iload_n 1, 1) := by decide +kernel
theorem dX8_begins_62 : decode cX8_begins 62 = .ok (.iload_n 2, 1) := by decide +kernel
theorem dX8_begins_63 : decode cX8_begins 63 = .ok (.invokevirtual 205, 3) := by decide +kernel
theorem dX8_begins_66 : decode cX8_begins 66 = .ok (.invokevirtual 278, 3) := by decide +kernel
theorem dX8_begins_69 : decode cX8_begins 69 = .ok (.ifCond .eq 7, 3) := by decide +kernel
theorem dX8_begins_72 : decode cX8_begins 72 = .ok (.iconst 1, 1) := by decide +kernel
theorem dX8_begins_73 : decode cX8_begins 73 = .ok (.goto 4, 3) := by decide +kernel
theorem dX8_begins_76 : decode cX8_begins 76 = .ok (.iconst 0, 1) := by decide +kernel
theorem dX8_begins_77 : decode cX8_begins 77 = .ok (.iadd, 1) := by decide +kernel
theorem dX8_begins_78 : decode cX8_begins 78 = .ok (.iastore, 1) := by decide +kernel
theorem dX8_begins_79 : decode cX8_begins 79 = .ok (.iinc 2 1, 3) := by decide +kernel
theorem dX8_begins_82 : decode cX8_begins 82 = .ok (.goto (-39), 3) := by decide +kernel
theorem dX8_begins_85 : decode cX8_begins 85 = .ok (.iinc 1 1, 3) := by decide +kernel
theorem dX8_begins_88 : decode cX8_begins 88 = .ok (.goto (-57), 3) := by decide +kernel
theorem dX8_begins_91 : decode cX8_begins 91 = .ok (.aload_n 0, 1) := by decide +kernel
theorem dX8_begins_92 : decode cX8_begins 92 = .ok (.invokevirtual 281, 3) := by decide +kernel
theorem dX8_begins_95 : decode cX8_begins 95 = .ok (.return_, 1) := by decide +kernel
theorem dX8_keepsRows_0 : decode cX8_keepsRows 0 = .ok (.iconst 0, 1) := by decide +kernel
theorem dX8_keepsRows_1 : decode cX8_keepsRows 1 = .ok (.istore_n 1, 1) := by decide +kernel
theorem dX8_keepsRows_2 : decode cX8_keepsRows 2 = .ok (.iload_n 1, 1) := by decide +kernel
theorem dX8_keepsRows_3 : decode cX8_keepsRows 3 = .ok (.bipush 54, 2) := by decide +kernel
theorem dX8_keepsRows_5 : decode cX8_keepsRows 5 = .ok (.if_icmp .ge 24, 3) := by decide +kernel
theorem dX8_keepsRows_8 : decode cX8_keepsRows 8 = .ok (.aload_n 0, 1) := by decide +kernel
theorem dX8_keepsRows_9 : decode cX8_keepsRows 9 = .ok (.getfield 75, 3) := by decide +kernel
theorem dX8_keepsRows_12 : decode cX8_keepsRows 12 = .ok (.iload_n 1, 1) := by decide +kernel
theorem dX8_keepsRows_13 : decode cX8_keepsRows 13 = .ok (.aload_n 0, 1) := by decide +kernel
theorem dX8_keepsRows_14 : decode cX8_keepsRows 14 = .ok (.getfield 7, 3) := by decide +kernel
theorem dX8_keepsRows_17 : decode cX8_keepsRows 17 = .ok (.bipush 65, 2) := by decide +kernel
theorem dX8_keepsRows_19 : decode cX8_keepsRows 19 = .ok (.iload_n 1, 1) := by decide +kernel
theorem dX8_keepsRows_20 : decode cX8_keepsRows 20 = .ok (.iadd, 1) := by decide +kernel
theorem dX8_keepsRows_21 : decode cX8_keepsRows 21 = .ok (.iaload, 1) := by decide +kernel
theorem dX8_keepsRows_22 : decode cX8_keepsRows 22 = .ok (.iastore, 1) := by decide +kernel
theorem dX8_keepsRows_23 : decode cX8_keepsRows 23 = .ok (.iinc 1 1, 3) := by decide +kernel
theorem dX8_keepsRows_26 : decode cX8_keepsRows 26 = .ok (.goto (-24), 3) := by decide +kernel
theorem dX8_keepsRows_29 : decode cX8_keepsRows 29 = .ok (.return_, 1) := by decide +kernel
theorem dX8_rowsBack_0 : decode cX8_rowsBack 0 = .ok (.iconst 0, 1) := by decide +kernel
theorem dX8_rowsBack_1 : decode cX8_rowsBack 1 = .ok (.istore_n 1, 1) := by decide +kernel
theorem dX8_rowsBack_2 : decode cX8_rowsBack 2 = .ok (.iload_n 1, 1) := by decide +kernel
theorem dX8_rowsBack_3 : decode cX8_rowsBack 3 = .ok (.bipush 54, 2) := by decide +kernel
theorem dX8_rowsBack_5 : decode cX8_rowsBack 5 = .ok (.if_icmp .ge 24, 3) := by decide +kernel
theorem dX8_rowsBack_8 : decode cX8_rowsBack 8 = .ok (.aload_n 0, 1) := by decide +kernel
theorem dX8_rowsBack_9 : decode cX8_rowsBack 9 = .ok (.getfield 7, 3) := by decide +kernel
theorem dX8_rowsBack_12 : decode cX8_rowsBack 12 = .ok (.bipush 65, 2) := by decide +kernel
theorem dX8_rowsBack_14 : decode cX8_rowsBack 14 = .ok (.iload_n 1, 1) := by decide +kernel
theorem dX8_rowsBack_15 : decode cX8_rowsBack 15 = .ok (.iadd, 1) := by decide +kernel
theorem dX8_rowsBack_16 : decode cX8_rowsBack 16 = .ok (.aload_n 0, 1) := by decide +kernel
theorem dX8_rowsBack_17 : decode cX8_rowsBack 17 = .ok (.getfield 75, 3) := by decide +kernel
theorem dX8_rowsBack_20 : decode cX8_rowsBack 20 = .ok (.iload_n 1, 1) := by decide +kernel
theorem dX8_rowsBack_21 : decode cX8_rowsBack 21 = .ok (.iaload, 1) := by decide +kernel
theorem dX8_rowsBack_22 : decode cX8_rowsBack 22 = .ok (.iastore, 1) := by decide +kernel
theorem dX8_rowsBack_23 : decode cX8_rowsBack 23 = .ok (.iinc 1 1, 3) := by decide +kernel
theorem dX8_rowsBack_26 : decode cX8_rowsBack 26 = .ok (.goto (-24), 3) := by decide +kernel
theorem dX8_rowsBack_29 : decode cX8_rowsBack 29 = .ok (.return_, 1) := by decide +kernel
theorem dX8_isOther_0 : decode cX8_isOther 0 = .ok (.iconst 0, 1) := by decide +kernel
theorem dX8_isOther_1 : decode cX8_isOther 1 = .ok (.istore_n 1, 1) := by decide +kernel
theorem dX8_isOther_2 : decode cX8_isOther 2 = .ok (.iconst 0, 1) := by decide +kernel
theorem dX8_isOther_3 : decode cX8_isOther 3 = .ok (.istore_n 2, 1) := by decide +kernel
theorem dX8_isOther_4 : decode cX8_isOther 4 = .ok (.iload_n 2, 1) := by decide +kernel
theorem dX8_isOther_5 : decode cX8_isOther 5 = .ok (.aload_n 0, 1) := by decide +kernel
theorem dX8_isOther_6 : decode cX8_isOther 6 = .ok (.getfield 7, 3) := by decide +kernel
theorem dX8_isOther_9 : decode cX8_isOther 9 = .ok (.iconst 0, 1) := by decide +kernel
theorem dX8_isOther_10 : decode cX8_isOther 10 = .ok (.iaload, 1) := by decide +kernel
theorem dX8_isOther_11 : decode cX8_isOther 11 = .ok (.if_icmp .ge 83, 3) := by decide +kernel
theorem dX8_isOther_14 : decode cX8_isOther 14 = .ok (.iload_n 1, 1) := by decide +kernel
theorem dX8_isOther_15 : decode cX8_isOther 15 = .ok (.ifCond .ne 17, 3) := by decide +kernel
theorem dX8_isOther_18 : decode cX8_isOther 18 = .ok (.aload_n 0, 1) := by decide +kernel
theorem dX8_isOther_19 : decode cX8_isOther 19 = .ok (.iload_n 2, 1) := by decide +kernel
theorem dX8_isOther_20 : decode cX8_isOther 20 = .ok (.invokevirtual 191, 3) := by decide +kernel
theorem dX8_isOther_23 : decode cX8_isOther 23 = .ok (.aload_n 0, 1) := by decide +kernel
theorem dX8_isOther_24 : decode cX8_isOther 24 = .ok (.getfield 75, 3) := by decide +kernel
theorem dX8_isOther_27 : decode cX8_isOther 27 = .ok (.iload_n 2, 1) := by decide +kernel
theorem dX8_isOther_28 : decode cX8_isOther 28 = .ok (.iaload, 1) := by decide +kernel
theorem dX8_isOther_29 : decode cX8_isOther 29 = .ok (.if_icmp .eq 7, 3) := by decide +kernel
theorem dX8_isOther_32 : decode cX8_isOther 32 = .ok (.iconst 1, 1) := by decide +kernel
theorem dX8_isOther_33 : decode cX8_isOther 33 = .ok (.goto 4, 3) := by decide +kernel
theorem dX8_isOther_36 : decode cX8_isOther 36 = .ok (.iconst 0, 1) := by decide +kernel
theorem dX8_isOther_37 : decode cX8_isOther 37 = .ok (.istore_n 1, 1) := by decide +kernel
theorem dX8_isOther_38 : decode cX8_isOther 38 = .ok (.iconst 0, 1) := by decide +kernel
theorem dX8_isOther_39 : decode cX8_isOther 39 = .ok (.istore_n 3, 1) := by decide +kernel
theorem dX8_isOther_40 : decode cX8_isOther 40 = .ok (.iload_n 3, 1) := by decide +kernel
theorem dX8_isOther_41 : decode cX8_isOther 41 = .ok (.aload_n 0, 1) := by decide +kernel
theorem dX8_isOther_42 : decode cX8_isOther 42 = .ok (.iload_n 2, 1) := by decide +kernel
theorem dX8_isOther_43 : decode cX8_isOther 43 = .ok (.invokevirtual 191, 3) := by decide +kernel
theorem dX8_isOther_46 : decode cX8_isOther 46 = .ok (.if_icmp .ge 42, 3) := by decide +kernel
theorem dX8_isOther_49 : decode cX8_isOther 49 = .ok (.iload_n 1, 1) := by decide +kernel
theorem dX8_isOther_50 : decode cX8_isOther 50 = .ok (.ifCond .ne 38, 3) := by decide +kernel
theorem dX8_isOther_53 : decode cX8_isOther 53 = .ok (.aload_n 0, 1) := by decide +kernel
theorem dX8_isOther_54 : decode cX8_isOther 54 = .ok (.iload_n 2, 1) := by decide +kernel
theorem dX8_isOther_55 : decode cX8_isOther 55 = .ok (.iload_n 3, 1) := by decide +kernel
theorem dX8_isOther_56 : decode cX8_isOther 56 = .ok (.invokevirtual 205, 3) := by decide +kernel
theorem dX8_isOther_59 : decode cX8_isOther 59 = .ok (.aload_n 0, 1) := by decide +kernel
theorem dX8_isOther_60 : decode cX8_isOther 60 = .ok (.getfield 75, 3) := by decide +kernel
theorem dX8_isOther_63 : decode cX8_isOther 63 = .ok (.bipush 6, 2) := by decide +kernel
theorem dX8_isOther_65 : decode cX8_isOther 65 = .ok (.bipush 8, 2) := by decide +kernel
theorem dX8_isOther_67 : decode cX8_isOther 67 = .ok (.iload_n 2, 1) := by decide +kernel
theorem dX8_isOther_68 : decode cX8_isOther 68 = .ok (.imul, 1) := by decide +kernel
theorem dX8_isOther_69 : decode cX8_isOther 69 = .ok (.iadd, 1) := by decide +kernel
theorem dX8_isOther_70 : decode cX8_isOther 70 = .ok (.iload_n 3, 1) := by decide +kernel
theorem dX8_isOther_71 : decode cX8_isOther 71 = .ok (.iadd, 1) := by decide +kernel
theorem dX8_isOther_72 : decode cX8_isOther 72 = .ok (.iaload, 1) := by decide +kernel
theorem dX8_isOther_73 : decode cX8_isOther 73 = .ok (.if_icmp .eq 7, 3) := by decide +kernel
theorem dX8_isOther_76 : decode cX8_isOther 76 = .ok (.iconst 1, 1) := by decide +kernel
theorem dX8_isOther_77 : decode cX8_isOther 77 = .ok (.goto 4, 3) := by decide +kernel
theorem dX8_isOther_80 : decode cX8_isOther 80 = .ok (.iconst 0, 1) := by decide +kernel
theorem dX8_isOther_81 : decode cX8_isOther 81 = .ok (.istore_n 1, 1) := by decide +kernel
theorem dX8_isOther_82 : decode cX8_isOther 82 = .ok (.iinc 3 1, 3) := by decide +kernel
theorem dX8_isOther_85 : decode cX8_isOther 85 = .ok (.goto (-45), 3) := by decide +kernel
theorem dX8_isOther_88 : decode cX8_isOther 88 = .ok (.iinc 2 1, 3) := by decide +kernel
theorem dX8_isOther_91 : decode cX8_isOther 91 = .ok (.goto (-87), 3) := by decide +kernel
theorem dX8_isOther_94 : decode cX8_isOther 94 = .ok (.iload_n 1, 1) := by decide +kernel
theorem dX8_isOther_95 : decode cX8_isOther 95 = .ok (.ireturn, 1) := by decide +kernel
theorem dX8_canBe_0 : decode cX8_canBe 0 = .ok (.iconst 0, 1) := by decide +kernel
theorem dX8_canBe_1 : decode cX8_canBe 1 = .ok (.istore_n 1, 1) := by decide +kernel
theorem dX8_canBe_2 : decode cX8_canBe 2 = .ok (.iload_n 1, 1) := by decide +kernel
theorem dX8_canBe_3 : decode cX8_canBe 3 = .ok (.aload_n 0, 1) := by decide +kernel
theorem dX8_canBe_4 : decode cX8_canBe 4 = .ok (.getfield 7, 3) := by decide +kernel
theorem dX8_canBe_7 : decode cX8_canBe 7 = .ok (.iconst 0, 1) := by decide +kernel
theorem dX8_canBe_8 : decode cX8_canBe 8 = .ok (.iaload, 1) := by decide +kernel
theorem dX8_canBe_9 : decode cX8_canBe 9 = .ok (.if_icmp .ge 68, 3) := by decide +kernel
theorem dX8_canBe_12 : decode cX8_canBe 12 = .ok (.aload_n 0, 1) := by decide +kernel
theorem dX8_canBe_13 : decode cX8_canBe 13 = .ok (.iload_n 1, 1) := by decide +kernel
theorem dX8_canBe_14 : decode cX8_canBe 14 = .ok (.invokevirtual 191, 3) := by decide +kernel
theorem dX8_canBe_17 : decode cX8_canBe 17 = .ok (.aload_n 0, 1) := by decide +kernel
theorem dX8_canBe_18 : decode cX8_canBe 18 = .ok (.getfield 72, 3) := by decide +kernel
theorem dX8_canBe_21 : decode cX8_canBe 21 = .ok (.iload_n 1, 1) := by decide +kernel
theorem dX8_canBe_22 : decode cX8_canBe 22 = .ok (.iaload, 1) := by decide +kernel
theorem dX8_canBe_23 : decode cX8_canBe 23 = .ok (.if_icmp .ge 5, 3) := by decide +kernel
theorem dX8_canBe_26 : decode cX8_canBe 26 = .ok (.iconst 0, 1) := by decide +kernel
theorem dX8_canBe_27 : decode cX8_canBe 27 = .ok (.ireturn, 1) := by decide +kernel
theorem dX8_canBe_28 : decode cX8_canBe 28 = .ok (.iconst 0, 1) := by decide +kernel
theorem dX8_canBe_29 : decode cX8_canBe 29 = .ok (.istore_n 2, 1) := by decide +kernel
theorem dX8_canBe_30 : decode cX8_canBe 30 = .ok (.iload_n 2, 1) := by decide +kernel
theorem dX8_canBe_31 : decode cX8_canBe 31 = .ok (.aload_n 0, 1) := by decide +kernel
theorem dX8_canBe_32 : decode cX8_canBe 32 = .ok (.getfield 72, 3) := by decide +kernel
theorem dX8_canBe_35 : decode cX8_canBe 35 = .ok (.iload_n 1, 1) := by decide +kernel
theorem dX8_canBe_36 : decode cX8_canBe 36 = .ok (.iaload, 1) := by decide +kernel
theorem dX8_canBe_37 : decode cX8_canBe 37 = .ok (.if_icmp .ge 34, 3) := by decide +kernel
theorem dX8_canBe_40 : decode cX8_canBe 40 = .ok (.aload_n 0, 1) := by decide +kernel
theorem dX8_canBe_41 : decode cX8_canBe 41 = .ok (.iload_n 1, 1) := by decide +kernel
theorem dX8_canBe_42 : decode cX8_canBe 42 = .ok (.iload_n 2, 1) := by decide +kernel
theorem dX8_canBe_43 : decode cX8_canBe 43 = .ok (.invokevirtual 205, 3) := by decide +kernel
theorem dX8_canBe_46 : decode cX8_canBe 46 = .ok (.aload_n 0, 1) := by decide +kernel
theorem dX8_canBe_47 : decode cX8_canBe 47 = .ok (.getfield 75, 3) := by decide +kernel
theorem dX8_canBe_50 : decode cX8_canBe 50 = .ok (.bipush 6, 2) := by decide +kernel
theorem dX8_canBe_52 : decode cX8_canBe 52 = .ok (.bipush 8, 2) := by decide +kernel
theorem dX8_canBe_54 : decode cX8_canBe 54 = .ok (.iload_n 1, 1) := by decide +kernel
theorem dX8_canBe_55 : decode cX8_canBe 55 = .ok (.imul, 1) := by decide +kernel
theorem dX8_canBe_56 : decode cX8_canBe 56 = .ok (.iadd, 1) := by decide +kernel
theorem dX8_canBe_57 : decode cX8_canBe 57 = .ok (.iload_n 2, 1) := by decide +kernel
theorem dX8_canBe_58 : decode cX8_canBe 58 = .ok (.iadd, 1) := by decide +kernel
theorem dX8_canBe_59 : decode cX8_canBe 59 = .ok (.iaload, 1) := by decide +kernel
theorem dX8_canBe_60 : decode cX8_canBe 60 = .ok (.if_icmp .eq 5, 3) := by decide +kernel
theorem dX8_canBe_63 : decode cX8_canBe 63 = .ok (.iconst 0, 1) := by decide +kernel
theorem dX8_canBe_64 : decode cX8_canBe 64 = .ok (.ireturn, 1) := by decide +kernel
theorem dX8_canBe_65 : decode cX8_canBe 65 = .ok (.iinc 2 1, 3) := by decide +kernel
theorem dX8_canBe_68 : decode cX8_canBe 68 = .ok (.goto (-38), 3) := by decide +kernel
theorem dX8_canBe_71 : decode cX8_canBe 71 = .ok (.iinc 1 1, 3) := by decide +kernel
theorem dX8_canBe_74 : decode cX8_canBe 74 = .ok (.goto (-72), 3) := by decide +kernel
theorem dX8_canBe_77 : decode cX8_canBe 77 = .ok (.iconst 1, 1) := by decide +kernel
theorem dX8_canBe_78 : decode cX8_canBe 78 = .ok (.ireturn, 1) := by decide +kernel
theorem dX8_doorNow_0 : decode cX8_doorNow 0 = .ok (.iconst 0, 1) := by decide +kernel
theorem dX8_doorNow_1 : decode cX8_doorNow 1 = .ok (.istore_n 2, 1) := by decide +kernel
theorem dX8_doorNow_2 : decode cX8_doorNow 2 = .ok (.iload_n 2, 1) := by decide +kernel
theorem dX8_doorNow_3 : decode cX8_doorNow 3 = .ok (.aload_n 0, 1) := by decide +kernel
theorem dX8_doorNow_4 : decode cX8_doorNow 4 = .ok (.getfield 7, 3) := by decide +kernel
theorem dX8_doorNow_7 : decode cX8_doorNow 7 = .ok (.iconst 0, 1) := by decide +kernel
theorem dX8_doorNow_8 : decode cX8_doorNow 8 = .ok (.iaload, 1) := by decide +kernel
theorem dX8_doorNow_9 : decode cX8_doorNow 9 = .ok (.if_icmp .ge 38, 3) := by decide +kernel
theorem dX8_doorNow_12 : decode cX8_doorNow 12 = .ok (.iconst 0, 1) := by decide +kernel
theorem dX8_doorNow_13 : decode cX8_doorNow 13 = .ok (.istore_n 3, 1) := by decide +kernel
theorem dX8_doorNow_14 : decode cX8_doorNow 14 = .ok (.iload_n 3, 1) := by decide +kernel
theorem dX8_doorNow_15 : decode cX8_doorNow 15 = .ok (.aload_n 0, 1) := by decide +kernel
theorem dX8_doorNow_16 : decode cX8_doorNow 16 = .ok (.iload_n 2, 1) := by decide +kernel
theorem dX8_doorNow_17 : decode cX8_doorNow 17 = .ok (.invokevirtual 191, 3) := by decide +kernel
theorem dX8_doorNow_20 : decode cX8_doorNow 20 = .ok (.if_icmp .ge 21, 3) := by decide +kernel
theorem dX8_doorNow_23 : decode cX8_doorNow 23 = .ok (.aload_n 0, 1) := by decide +kernel
theorem dX8_doorNow_24 : decode cX8_doorNow 24 = .ok (.iload_n 2, 1) := by decide +kernel
theorem dX8_doorNow_25 : decode cX8_doorNow 25 = .ok (.iload_n 3, 1) := by decide +kernel
theorem dX8_doorNow_26 : decode cX8_doorNow 26 = .ok (.invokevirtual 205, 3) := by decide +kernel
theorem dX8_doorNow_29 : decode cX8_doorNow 29 = .ok (.iload_n 1, 1) := by decide +kernel
theorem dX8_doorNow_30 : decode cX8_doorNow 30 = .ok (.if_icmp .ne 5, 3) := by decide +kernel
theorem dX8_doorNow_33 : decode cX8_doorNow 33 = .ok (.iload_n 2, 1) := by decide +kernel
theorem dX8_doorNow_34 : decode cX8_doorNow 34 = .ok (.ireturn, 1) := by decide +kernel
theorem dX8_doorNow_35 : decode cX8_doorNow 35 = .ok (.iinc 3 1, 3) := by decide +kernel
theorem dX8_doorNow_38 : decode cX8_doorNow 38 = .ok (.goto (-24), 3) := by decide +kernel
theorem dX8_doorNow_41 : decode cX8_doorNow 41 = .ok (.iinc 2 1, 3) := by decide +kernel
theorem dX8_doorNow_44 : decode cX8_doorNow 44 = .ok (.goto (-42), 3) := by decide +kernel
theorem dX8_doorNow_47 : decode cX8_doorNow 47 = .ok (.iconst (-1), 1) := by decide +kernel
theorem dX8_doorNow_48 : decode cX8_doorNow 48 = .ok (.ireturn, 1) := by decide +kernel
theorem dX8_placeNow_0 : decode cX8_placeNow 0 = .ok (.iconst 0, 1) := by decide +kernel
theorem dX8_placeNow_1 : decode cX8_placeNow 1 = .ok (.istore_n 3, 1) := by decide +kernel
theorem dX8_placeNow_2 : decode cX8_placeNow 2 = .ok (.aload_n 0, 1) := by decide +kernel
theorem dX8_placeNow_3 : decode cX8_placeNow 3 = .ok (.iload_n 2, 1) := by decide +kernel
theorem dX8_placeNow_4 : decode cX8_placeNow 4 = .ok (.iload_n 3, 1) := by decide +kernel
theorem dX8_placeNow_5 : decode cX8_placeNow 5 = .ok (.invokevirtual 205, 3) := by decide +kernel
theorem dX8_placeNow_8 : decode cX8_placeNow 8 = .ok (.iload_n 1, 1) := by decide +kernel
theorem dX8_placeNow_9 : decode cX8_placeNow 9 = .ok (.if_icmp .eq 9, 3) := by decide +kernel
theorem dX8_placeNow_12 : decode cX8_placeNow 12 = .ok (.iinc 3 1, 3) := by decide +kernel
theorem dX8_placeNow_15 : decode cX8_placeNow 15 = .ok (.goto (-13), 3) := by decide +kernel
theorem dX8_placeNow_18 : decode cX8_placeNow 18 = .ok (.iload_n 3, 1) := by decide +kernel
theorem dX8_placeNow_19 : decode cX8_placeNow 19 = .ok (.ireturn, 1) := by decide +kernel
theorem dX8_takesOut_0 : decode cX8_takesOut 0 = .ok (.aload_n 0, 1) := by decide +kernel
theorem dX8_takesOut_1 : decode cX8_takesOut 1 = .ok (.iload_n 1, 1) := by decide +kernel
theorem dX8_takesOut_2 : decode cX8_takesOut 2 = .ok (.invokevirtual 284, 3) := by decide +kernel
theorem dX8_takesOut_5 : decode cX8_takesOut 5 = .ok (.istore_n 2, 1) := by decide +kernel
theorem dX8_takesOut_6 : decode cX8_takesOut 6 = .ok (.iload_n 2, 1) := by decide +kernel
theorem dX8_takesOut_7 : decode cX8_takesOut 7 = .ok (.iconst (-1), 1) := by decide +kernel
theorem dX8_takesOut_8 : decode cX8_takesOut 8 = .ok (.if_icmp .ne 4, 3) := by decide +kernel
theorem dX8_takesOut_11 : decode cX8_takesOut 11 = .ok (.return_, 1) := by decide +kernel
theorem dX8_takesOut_12 : decode cX8_takesOut 12 = .ok (.aload_n 0, 1) := by decide +kernel
theorem dX8_takesOut_13 : decode cX8_takesOut 13 = .ok (.iload_n 1, 1) := by decide +kernel
theorem dX8_takesOut_14 : decode cX8_takesOut 14 = .ok (.iload_n 2, 1) := by decide +kernel
theorem dX8_takesOut_15 : decode cX8_takesOut 15 = .ok (.invokevirtual 287, 3) := by decide +kernel
theorem dX8_takesOut_18 : decode cX8_takesOut 18 = .ok (.istore_n 3, 1) := by decide +kernel
theorem dX8_takesOut_19 : decode cX8_takesOut 19 = .ok (.iload_n 3, 1) := by decide +kernel
theorem dX8_takesOut_20 : decode cX8_takesOut 20 = .ok (.aload_n 0, 1) := by decide +kernel
theorem dX8_takesOut_21 : decode cX8_takesOut 21 = .ok (.iload_n 2, 1) := by decide +kernel
theorem dX8_takesOut_22 : decode cX8_takesOut 22 = .ok (.invokevirtual 191, 3) := by decide +kernel
theorem dX8_takesOut_25 : decode cX8_takesOut 25 = .ok (.iconst 1, 1) := by decide +kernel
theorem dX8_takesOut_26 : decode cX8_takesOut 26 = .ok (.isub, 1) := by decide +kernel
theorem dX8_takesOut_27 : decode cX8_takesOut 27 = .ok (.if_icmp .ge 31, 3) := by decide +kernel
theorem dX8_takesOut_30 : decode cX8_takesOut 30 = .ok (.aload_n 0, 1) := by decide +kernel
theorem dX8_takesOut_31 : decode cX8_takesOut 31 = .ok (.getfield 7, 3) := by decide +kernel
theorem dX8_takesOut_34 : decode cX8_takesOut 34 = .ok (.bipush 71, 2) := by decide +kernel
theorem dX8_takesOut_36 : decode cX8_takesOut 36 = .ok (.bipush 8, 2) := by decide +kernel
theorem dX8_takesOut_38 : decode cX8_takesOut 38 = .ok (.iload_n 2, 1) := by decide +kernel
theorem dX8_takesOut_39 : decode cX8_takesOut 39 = .ok (.imul, 1) := by decide +kernel
theorem dX8_takesOut_40 : decode cX8_takesOut 40 = .ok (.iadd, 1) := by decide +kernel
theorem dX8_takesOut_41 : decode cX8_takesOut 41 = .ok (.iload_n 3, 1) := by decide +kernel
theorem dX8_takesOut_42 : decode cX8_takesOut 42 = .ok (.iadd, 1) := by decide +kernel
theorem dX8_takesOut_43 : decode cX8_takesOut 43 = .ok (.aload_n 0, 1) := by decide +kernel
theorem dX8_takesOut_44 : decode cX8_takesOut 44 = .ok (.iload_n 2, 1) := by decide +kernel
theorem dX8_takesOut_45 : decode cX8_takesOut 45 = .ok (.iload_n 3, 1) := by decide +kernel
theorem dX8_takesOut_46 : decode cX8_takesOut 46 = .ok (.iconst 1, 1) := by decide +kernel
theorem dX8_takesOut_47 : decode cX8_takesOut 47 = .ok (.iadd, 1) := by decide +kernel
theorem dX8_takesOut_48 : decode cX8_takesOut 48 = .ok (.invokevirtual 205, 3) := by decide +kernel
theorem dX8_takesOut_51 : decode cX8_takesOut 51 = .ok (.iastore, 1) := by decide +kernel
theorem dX8_takesOut_52 : decode cX8_takesOut 52 = .ok (.iinc 3 1, 3) := by decide +kernel
theorem dX8_takesOut_55 : decode cX8_takesOut 55 = .ok (.goto (-36), 3) := by decide +kernel
theorem dX8_takesOut_58 : decode cX8_takesOut 58 = .ok (.aload_n 0, 1) := by decide +kernel
theorem dX8_takesOut_59 : decode cX8_takesOut 59 = .ok (.getfield 7, 3) := by decide +kernel
theorem dX8_takesOut_62 : decode cX8_takesOut 62 = .ok (.bipush 65, 2) := by decide +kernel
theorem dX8_takesOut_64 : decode cX8_takesOut 64 = .ok (.iload_n 2, 1) := by decide +kernel
theorem dX8_takesOut_65 : decode cX8_takesOut 65 = .ok (.iadd, 1) := by decide +kernel
theorem dX8_takesOut_66 : decode cX8_takesOut 66 = .ok (.dup2, 1) := by decide +kernel
theorem dX8_takesOut_67 : decode cX8_takesOut 67 = .ok (.iaload, 1) := by decide +kernel
theorem dX8_takesOut_68 : decode cX8_takesOut 68 = .ok (.iconst 1, 1) := by decide +kernel
theorem dX8_takesOut_69 : decode cX8_takesOut 69 = .ok (.isub, 1) := by decide +kernel
theorem dX8_takesOut_70 : decode cX8_takesOut 70 = .ok (.iastore, 1) := by decide +kernel
theorem dX8_takesOut_71 : decode cX8_takesOut 71 = .ok (.return_, 1) := by decide +kernel
theorem dX8_putsIn_0 : decode cX8_putsIn 0 = .ok (.aload_n 0, 1) := by decide +kernel
theorem dX8_putsIn_1 : decode cX8_putsIn 1 = .ok (.iload_n 2, 1) := by decide +kernel
theorem dX8_putsIn_2 : decode cX8_putsIn 2 = .ok (.invokevirtual 191, 3) := by decide +kernel
theorem dX8_putsIn_5 : decode cX8_putsIn 5 = .ok (.istore 4, 2) := by decide +kernel
theorem dX8_putsIn_7 : decode cX8_putsIn 7 = .ok (.iload 4, 2) := by decide +kernel
theorem dX8_putsIn_9 : decode cX8_putsIn 9 = .ok (.iload_n 3, 1) := by decide +kernel
theorem dX8_putsIn_10 : decode cX8_putsIn 10 = .ok (.if_icmp .le 33, 3) := by decide +kernel
theorem dX8_putsIn_13 : decode cX8_putsIn 13 = .ok (.aload_n 0, 1) := by decide +kernel
theorem dX8_putsIn_14 : decode cX8_putsIn 14 = .ok (.getfield 7, 3) := by decide +kernel
theorem dX8_putsIn_17 : decode cX8_putsIn 17 = .ok (.bipush 71, 2) := by decide +kernel
theorem dX8_putsIn_19 : decode cX8_putsIn 19 = .ok (.bipush 8, 2) := by decide +kernel
theorem dX8_putsIn_21 : decode cX8_putsIn 21 = .ok (.iload_n 2, 1) := by decide +kernel
theorem dX8_putsIn_22 : decode cX8_putsIn 22 = .ok (.imul, 1) := by decide +kernel
theorem dX8_putsIn_23 : decode cX8_putsIn 23 = .ok (.iadd, 1) := by decide +kernel
theorem dX8_putsIn_24 : decode cX8_putsIn 24 = .ok (.iload 4, 2) := by decide +kernel
theorem dX8_putsIn_26 : decode cX8_putsIn 26 = .ok (.iadd, 1) := by decide +kernel
theorem dX8_putsIn_27 : decode cX8_putsIn 27 = .ok (.aload_n 0, 1) := by decide +kernel
theorem dX8_putsIn_28 : decode cX8_putsIn 28 = .ok (.iload_n 2, 1) := by decide +kernel
theorem dX8_putsIn_29 : decode cX8_putsIn 29 = .ok (.iload 4, 2) := by decide +kernel
theorem dX8_putsIn_31 : decode cX8_putsIn 31 = .ok (.iconst 1, 1) := by decide +kernel
theorem dX8_putsIn_32 : decode cX8_putsIn 32 = .ok (.isub, 1) := by decide +kernel
theorem dX8_putsIn_33 : decode cX8_putsIn 33 = .ok (.invokevirtual 205, 3) := by decide +kernel
theorem dX8_putsIn_36 : decode cX8_putsIn 36 = .ok (.iastore, 1) := by decide +kernel
theorem dX8_putsIn_37 : decode cX8_putsIn 37 = .ok (.iinc 4 (-1), 3) := by decide +kernel
theorem dX8_putsIn_40 : decode cX8_putsIn 40 = .ok (.goto (-33), 3) := by decide +kernel
theorem dX8_putsIn_43 : decode cX8_putsIn 43 = .ok (.aload_n 0, 1) := by decide +kernel
theorem dX8_putsIn_44 : decode cX8_putsIn 44 = .ok (.getfield 7, 3) := by decide +kernel
theorem dX8_putsIn_47 : decode cX8_putsIn 47 = .ok (.bipush 71, 2) := by decide +kernel
theorem dX8_putsIn_49 : decode cX8_putsIn 49 = .ok (.bipush 8, 2) := by decide +kernel
theorem dX8_putsIn_51 : decode cX8_putsIn 51 = .ok (.iload_n 2, 1) := by decide +kernel
theorem dX8_putsIn_52 : decode cX8_putsIn 52 = .ok (.imul, 1) := by decide +kernel
theorem dX8_putsIn_53 : decode cX8_putsIn 53 = .ok (.iadd, 1) := by decide +kernel
theorem dX8_putsIn_54 : decode cX8_putsIn 54 = .ok (.iload_n 3, 1) := by decide +kernel
theorem dX8_putsIn_55 : decode cX8_putsIn 55 = .ok (.iadd, 1) := by decide +kernel
theorem dX8_putsIn_56 : decode cX8_putsIn 56 = .ok (.iload_n 1, 1) := by decide +kernel
theorem dX8_putsIn_57 : decode cX8_putsIn 57 = .ok (.iastore, 1) := by decide +kernel
theorem dX8_putsIn_58 : decode cX8_putsIn 58 = .ok (.aload_n 0, 1) := by decide +kernel
theorem dX8_putsIn_59 : decode cX8_putsIn 59 = .ok (.getfield 7, 3) := by decide +kernel
theorem dX8_putsIn_62 : decode cX8_putsIn 62 = .ok (.bipush 65, 2) := by decide +kernel
theorem dX8_putsIn_64 : decode cX8_putsIn 64 = .ok (.iload_n 2, 1) := by decide +kernel
theorem dX8_putsIn_65 : decode cX8_putsIn 65 = .ok (.iadd, 1) := by decide +kernel
theorem dX8_putsIn_66 : decode cX8_putsIn 66 = .ok (.dup2, 1) := by decide +kernel
theorem dX8_putsIn_67 : decode cX8_putsIn 67 = .ok (.iaload, 1) := by decide +kernel
theorem dX8_putsIn_68 : decode cX8_putsIn 68 = .ok (.iconst 1, 1) := by decide +kernel
theorem dX8_putsIn_69 : decode cX8_putsIn 69 = .ok (.iadd, 1) := by decide +kernel
theorem dX8_putsIn_70 : decode cX8_putsIn 70 = .ok (.iastore, 1) := by decide +kernel
theorem dX8_putsIn_71 : decode cX8_putsIn 71 = .ok (.return_, 1) := by decide +kernel
theorem dX8_othersIn_0 : decode cX8_othersIn 0 = .ok (.aload_n 0, 1) := by decide +kernel
theorem dX8_othersIn_1 : decode cX8_othersIn 1 = .ok (.iload_n 1, 1) := by decide +kernel
theorem dX8_othersIn_2 : decode cX8_othersIn 2 = .ok (.invokevirtual 191, 3) := by decide +kernel
theorem dX8_othersIn_5 : decode cX8_othersIn 5 = .ok (.aload_n 0, 1) := by decide +kernel
theorem dX8_othersIn_6 : decode cX8_othersIn 6 = .ok (.iload_n 2, 1) := by decide +kernel
theorem dX8_othersIn_7 : decode cX8_othersIn 7 = .ok (.invokevirtual 284, 3) := by decide +kernel
theorem dX8_othersIn_10 : decode cX8_othersIn 10 = .ok (.iload_n 1, 1) := by decide +kernel
theorem dX8_othersIn_11 : decode cX8_othersIn 11 = .ok (.if_icmp .ne 7, 3) := by decide +kernel
theorem dX8_othersIn_14 : decode cX8_othersIn 14 = .ok (.iconst 1, 1) := by decide +kernel
theorem dX8_othersIn_15 : decode cX8_othersIn 15 = .ok (.goto 4, 3) := by decide +kernel
theorem dX8_othersIn_18 : decode cX8_othersIn 18 = .ok (.iconst 0, 1) := by decide +kernel
theorem dX8_othersIn_19 : decode cX8_othersIn 19 = .ok (.isub, 1) := by decide +kernel
theorem dX8_othersIn_20 : decode cX8_othersIn 20 = .ok (.ireturn, 1) := by decide +kernel
theorem dX8_goesTo_0 : decode cX8_goesTo 0 = .ok (.aload_n 0, 1) := by decide +kernel
theorem dX8_goesTo_1 : decode cX8_goesTo 1 = .ok (.iload_n 1, 1) := by decide +kernel
theorem dX8_goesTo_2 : decode cX8_goesTo 2 = .ok (.invokevirtual 290, 3) := by decide +kernel
theorem dX8_goesTo_5 : decode cX8_goesTo 5 = .ok (.ifCond .eq 38, 3) := by decide +kernel
theorem dX8_goesTo_8 : decode cX8_goesTo 8 = .ok (.aload_n 0, 1) := by decide +kernel
theorem dX8_goesTo_9 : decode cX8_goesTo 9 = .ok (.iload_n 2, 1) := by decide +kernel
theorem dX8_goesTo_10 : decode cX8_goesTo 10 = .ok (.invokevirtual 293, 3) := by decide +kernel
theorem dX8_goesTo_13 : decode cX8_goesTo 13 = .ok (.ifCond .eq 30, 3) := by decide +kernel
theorem dX8_goesTo_16 : decode cX8_goesTo 16 = .ok (.aload_n 0, 1) := by decide +kernel
theorem dX8_goesTo_17 : decode cX8_goesTo 17 = .ok (.iload_n 1, 1) := by decide +kernel
theorem dX8_goesTo_18 : decode cX8_goesTo 18 = .ok (.invokevirtual 195, 3) := by decide +kernel
theorem dX8_goesTo_21 : decode cX8_goesTo 21 = .ok (.aload_n 0, 1) := by decide +kernel
theorem dX8_goesTo_22 : decode cX8_goesTo 22 = .ok (.iload_n 2, 1) := by decide +kernel
theorem dX8_goesTo_23 : decode cX8_goesTo 23 = .ok (.invokevirtual 187, 3) := by decide +kernel
theorem dX8_goesTo_26 : decode cX8_goesTo 26 = .ok (.if_icmp .ne 17, 3) := by decide +kernel
theorem dX8_goesTo_29 : decode cX8_goesTo 29 = .ok (.iload_n 3, 1) := by decide +kernel
theorem dX8_goesTo_30 : decode cX8_goesTo 30 = .ok (.iconst 0, 1) := by decide +kernel
theorem dX8_goesTo_31 : decode cX8_goesTo 31 = .ok (.aload_n 0, 1) := by decide +kernel
theorem dX8_goesTo_32 : decode cX8_goesTo 32 = .ok (.iload_n 2, 1) := by decide +kernel
theorem dX8_goesTo_33 : decode cX8_goesTo 33 = .ok (.iload_n 1, 1) := by decide +kernel
theorem dX8_goesTo_34 : decode cX8_goesTo 34 = .ok (.invokevirtual 296, 3) := by decide +kernel
theorem dX8_goesTo_37 : decode cX8_goesTo 37 = .ok (.invokestatic 88, 3) := by decide +kernel
theorem dX8_goesTo_40 : decode cX8_goesTo 40 = .ok (.ifCond .ne 5, 3) := by decide +kernel
theorem dX8_goesTo_43 : decode cX8_goesTo 43 = .ok (.iconst (-1), 1) := by decide +kernel
theorem dX8_goesTo_44 : decode cX8_goesTo 44 = .ok (.ireturn, 1) := by decide +kernel
theorem dX8_goesTo_45 : decode cX8_goesTo 45 = .ok (.aload_n 0, 1) := by decide +kernel
theorem dX8_goesTo_46 : decode cX8_goesTo 46 = .ok (.iload_n 1, 1) := by decide +kernel
theorem dX8_goesTo_47 : decode cX8_goesTo 47 = .ok (.invokevirtual 299, 3) := by decide +kernel
theorem dX8_goesTo_50 : decode cX8_goesTo 50 = .ok (.aload_n 0, 1) := by decide +kernel
theorem dX8_goesTo_51 : decode cX8_goesTo 51 = .ok (.iload_n 1, 1) := by decide +kernel
theorem dX8_goesTo_52 : decode cX8_goesTo 52 = .ok (.iload_n 2, 1) := by decide +kernel
theorem dX8_goesTo_53 : decode cX8_goesTo 53 = .ok (.iload_n 3, 1) := by decide +kernel
theorem dX8_goesTo_54 : decode cX8_goesTo 54 = .ok (.invokevirtual 302, 3) := by decide +kernel
theorem dX8_goesTo_57 : decode cX8_goesTo 57 = .ok (.aload_n 0, 1) := by decide +kernel
theorem dX8_goesTo_58 : decode cX8_goesTo 58 = .ok (.invokevirtual 306, 3) := by decide +kernel
theorem dX8_goesTo_61 : decode cX8_goesTo 61 = .ok (.ifCond .ne 5, 3) := by decide +kernel
theorem dX8_goesTo_64 : decode cX8_goesTo 64 = .ok (.iconst (-1), 1) := by decide +kernel
theorem dX8_goesTo_65 : decode cX8_goesTo 65 = .ok (.ireturn, 1) := by decide +kernel
theorem dX8_goesTo_66 : decode cX8_goesTo 66 = .ok (.aload_n 0, 1) := by decide +kernel
theorem dX8_goesTo_67 : decode cX8_goesTo 67 = .ok (.invokevirtual 309, 3) := by decide +kernel
theorem dX8_goesTo_70 : decode cX8_goesTo 70 = .ok (.ifCond .ne 10, 3) := by decide +kernel
theorem dX8_goesTo_73 : decode cX8_goesTo 73 = .ok (.aload_n 0, 1) := by decide +kernel
theorem dX8_goesTo_74 : decode cX8_goesTo 74 = .ok (.invokevirtual 312, 3) := by decide +kernel
theorem dX8_goesTo_77 : decode cX8_goesTo 77 = .ok (.bipush (-2), 2) := by decide +kernel
theorem dX8_goesTo_79 : decode cX8_goesTo 79 = .ok (.ireturn, 1) := by decide +kernel
theorem dX8_goesTo_80 : decode cX8_goesTo 80 = .ok (.iconst 0, 1) := by decide +kernel
theorem dX8_goesTo_81 : decode cX8_goesTo 81 = .ok (.ireturn, 1) := by decide +kernel
theorem dX8_changes_0 : decode cX8_changes 0 = .ok (.aload_n 0, 1) := by decide +kernel
theorem dX8_changes_1 : decode cX8_changes 1 = .ok (.iload_n 1, 1) := by decide +kernel
theorem dX8_changes_2 : decode cX8_changes 2 = .ok (.invokevirtual 290, 3) := by decide +kernel
theorem dX8_changes_5 : decode cX8_changes 5 = .ok (.ifCond .eq 47, 3) := by decide +kernel
theorem dX8_changes_8 : decode cX8_changes 8 = .ok (.aload_n 0, 1) := by decide +kernel
theorem dX8_changes_9 : decode cX8_changes 9 = .ok (.iload_n 2, 1) := by decide +kernel
theorem dX8_changes_10 : decode cX8_changes 10 = .ok (.invokevirtual 290, 3) := by decide +kernel
theorem dX8_changes_13 : decode cX8_changes 13 = .ok (.ifCond .eq 39, 3) := by decide +kernel
theorem dX8_changes_16 : decode cX8_changes 16 = .ok (.iload_n 1, 1) := by decide +kernel
theorem dX8_changes_17 : decode cX8_changes 17 = .ok (.iload_n 2, 1) := by decide +kernel
theorem dX8_changes_18 : decode cX8_changes 18 = .ok (.if_icmp .eq 34, 3) := by decide +kernel
theorem dX8_changes_21 : decode cX8_changes 21 = .ok (.aload_n 0, 1) := by decide +kernel
theorem dX8_changes_22 : decode cX8_changes 22 = .ok (.iload_n 1, 1) := by decide +kernel
theorem dX8_changes_23 : decode cX8_changes 23 = .ok (.invokevirtual 195, 3) := by decide +kernel
theorem dX8_changes_26 : decode cX8_changes 26 = .ok (.aload_n 0, 1) := by decide +kernel
theorem dX8_changes_27 : decode cX8_changes 27 = .ok (.iload_n 2, 1) := by decide +kernel
theorem dX8_changes_28 : decode cX8_changes 28 = .ok (.invokevirtual 195, 3) := by decide +kernel
theorem dX8_changes_31 : decode cX8_changes 31 = .ok (.if_icmp .ne 21, 3) := by decide +kernel
theorem dX8_changes_34 : decode cX8_changes 34 = .ok (.aload_n 0, 1) := by decide +kernel
theorem dX8_changes_35 : decode cX8_changes 35 = .ok (.iload_n 1, 1) := by decide +kernel
theorem dX8_changes_36 : decode cX8_changes 36 = .ok (.invokevirtual 284, 3) := by decide +kernel
theorem dX8_changes_39 : decode cX8_changes 39 = .ok (.iconst (-1), 1) := by decide +kernel
theorem dX8_changes_40 : decode cX8_changes 40 = .ok (.if_icmp .eq 12, 3) := by decide +kernel
theorem dX8_changes_43 : decode cX8_changes 43 = .ok (.aload_n 0, 1) := by decide +kernel
theorem dX8_changes_44 : decode cX8_changes 44 = .ok (.iload_n 2, 1) := by decide +kernel
theorem dX8_changes_45 : decode cX8_changes 45 = .ok (.invokevirtual 284, 3) := by decide +kernel
theorem dX8_changes_48 : decode cX8_changes 48 = .ok (.iconst (-1), 1) := by decide +kernel
theorem dX8_changes_49 : decode cX8_changes 49 = .ok (.if_icmp .ne 5, 3) := by decide +kernel
theorem dX8_changes_52 : decode cX8_changes 52 = .ok (.iconst (-1), 1) := by decide +kernel
theorem dX8_changes_53 : decode cX8_changes 53 = .ok (.ireturn, 1) := by decide +kernel
theorem dX8_changes_54 : decode cX8_changes 54 = .ok (.aload_n 0, 1) := by decide +kernel
theorem dX8_changes_55 : decode cX8_changes 55 = .ok (.iload_n 1, 1) := by decide +kernel
theorem dX8_changes_56 : decode cX8_changes 56 = .ok (.invokevirtual 284, 3) := by decide +kernel
theorem dX8_changes_59 : decode cX8_changes 59 = .ok (.istore_n 3, 1) := by decide +kernel
theorem dX8_changes_60 : decode cX8_changes 60 = .ok (.aload_n 0, 1) := by decide +kernel
theorem dX8_changes_61 : decode cX8_changes 61 = .ok (.iload_n 2, 1) := by decide +kernel
theorem dX8_changes_62 : decode cX8_changes 62 = .ok (.invokevirtual 284, 3) := by decide +kernel
theorem dX8_changes_65 : decode cX8_changes 65 = .ok (.istore 4, 2) := by decide +kernel
theorem dX8_changes_67 : decode cX8_changes 67 = .ok (.aload_n 0, 1) := by decide +kernel
theorem dX8_changes_68 : decode cX8_changes 68 = .ok (.iload_n 1, 1) := by decide +kernel
theorem dX8_changes_69 : decode cX8_changes 69 = .ok (.iload_n 3, 1) := by decide +kernel
theorem dX8_changes_70 : decode cX8_changes 70 = .ok (.invokevirtual 287, 3) := by decide +kernel
theorem dX8_changes_73 : decode cX8_changes 73 = .ok (.istore 5, 2) := by decide +kernel
theorem dX8_changes_75 : decode cX8_changes 75 = .ok (.aload_n 0, 1) := by decide +kernel
theorem dX8_changes_76 : decode cX8_changes 76 = .ok (.iload_n 2, 1) := by decide +kernel
theorem dX8_changes_77 : decode cX8_changes 77 = .ok (.iload 4, 2) := by decide +kernel
theorem dX8_changes_79 : decode cX8_changes 79 = .ok (.invokevirtual 287, 3) := by decide +kernel
theorem dX8_changes_82 : decode cX8_changes 82 = .ok (.istore 6, 2) := by decide +kernel
theorem dX8_changes_84 : decode cX8_changes 84 = .ok (.aload_n 0, 1) := by decide +kernel
theorem dX8_changes_85 : decode cX8_changes 85 = .ok (.getfield 7, 3) := by decide +kernel
theorem dX8_changes_88 : decode cX8_changes 88 = .ok (.bipush 71, 2) := by decide +kernel
theorem dX8_changes_90 : decode cX8_changes 90 = .ok (.bipush 8, 2) := by decide +kernel
theorem dX8_changes_92 : decode cX8_changes 92 = .ok (.iload_n 3, 1) := by decide +kernel
theorem dX8_changes_93 : decode cX8_changes 93 = .ok (.imul, 1) := by decide +kernel
theorem dX8_changes_94 : decode cX8_changes 94 = .ok (.iadd, 1) := by decide +kernel
theorem dX8_changes_95 : decode cX8_changes 95 = .ok (.iload 5, 2) := by decide +kernel
theorem dX8_changes_97 : decode cX8_changes 97 = .ok (.iadd, 1) := by decide +kernel
theorem dX8_changes_98 : decode cX8_changes 98 = .ok (.iload_n 2, 1) := by decide +kernel
theorem dX8_changes_99 : decode cX8_changes 99 = .ok (.iastore, 1) := by decide +kernel
theorem dX8_changes_100 : decode cX8_changes 100 = .ok (.aload_n 0, 1) := by decide +kernel
theorem dX8_changes_101 : decode cX8_changes 101 = .ok (.getfield 7, 3) := by decide +kernel
theorem dX8_changes_104 : decode cX8_changes 104 = .ok (.bipush 71, 2) := by decide +kernel
theorem dX8_changes_106 : decode cX8_changes 106 = .ok (.bipush 8, 2) := by decide +kernel
theorem dX8_changes_108 : decode cX8_changes 108 = .ok (.iload 4, 2) := by decide +kernel
theorem dX8_changes_110 : decode cX8_changes 110 = .ok (.imul, 1) := by decide +kernel
theorem dX8_changes_111 : decode cX8_changes 111 = .ok (.iadd, 1) := by decide +kernel
theorem dX8_changes_112 : decode cX8_changes 112 = .ok (.iload 6, 2) := by decide +kernel
theorem dX8_changes_114 : decode cX8_changes 114 = .ok (.iadd, 1) := by decide +kernel
theorem dX8_changes_115 : decode cX8_changes 115 = .ok (.iload_n 1, 1) := by decide +kernel
theorem dX8_changes_116 : decode cX8_changes 116 = .ok (.iastore, 1) := by decide +kernel
theorem dX8_changes_117 : decode cX8_changes 117 = .ok (.aload_n 0, 1) := by decide +kernel
theorem dX8_changes_118 : decode cX8_changes 118 = .ok (.invokevirtual 309, 3) := by decide +kernel
theorem dX8_changes_121 : decode cX8_changes 121 = .ok (.ifCond .ne 10, 3) := by decide +kernel
theorem dX8_changes_124 : decode cX8_changes 124 = .ok (.aload_n 0, 1) := by decide +kernel
theorem dX8_changes_125 : decode cX8_changes 125 = .ok (.invokevirtual 312, 3) := by decide +kernel
theorem dX8_changes_128 : decode cX8_changes 128 = .ok (.bipush (-2), 2) := by decide +kernel
theorem dX8_changes_130 : decode cX8_changes 130 = .ok (.ireturn, 1) := by decide +kernel
theorem dX8_changes_131 : decode cX8_changes 131 = .ok (.iconst 0, 1) := by decide +kernel
theorem dX8_changes_132 : decode cX8_changes 132 = .ok (.ireturn, 1) := by decide +kernel
theorem dX8_tries_0 : decode cX8_tries 0 = .ok (.iload_n 1, 1) := by decide +kernel
theorem dX8_tries_1 : decode cX8_tries 1 = .ok (.ifCond .eq 4, 3) := by decide +kernel
theorem dX8_tries_4 : decode cX8_tries 4 = .ok (.return_, 1) := by decide +kernel
theorem dX8_tries_5 : decode cX8_tries 5 = .ok (.aload_n 0, 1) := by decide +kernel
theorem dX8_tries_6 : decode cX8_tries 6 = .ok (.invokevirtual 272, 3) := by decide +kernel
theorem dX8_tries_9 : decode cX8_tries 9 = .ok (.istore_n 2, 1) := by decide +kernel
theorem dX8_tries_10 : decode cX8_tries 10 = .ok (.iload_n 2, 1) := by decide +kernel
theorem dX8_tries_11 : decode cX8_tries 11 = .ok (.aload_n 0, 1) := by decide +kernel
theorem dX8_tries_12 : decode cX8_tries 12 = .ok (.getfield 315, 3) := by decide +kernel
theorem dX8_tries_15 : decode cX8_tries 15 = .ok (.if_icmp .ge 37, 3) := by decide +kernel
theorem dX8_tries_18 : decode cX8_tries 18 = .ok (.aload_n 0, 1) := by decide +kernel
theorem dX8_tries_19 : decode cX8_tries 19 = .ok (.iload_n 2, 1) := by decide +kernel
theorem dX8_tries_20 : decode cX8_tries 20 = .ok (.putfield 315, 3) := by decide +kernel
theorem dX8_tries_23 : decode cX8_tries 23 = .ok (.iconst 0, 1) := by decide +kernel
theorem dX8_tries_24 : decode cX8_tries 24 = .ok (.istore_n 3, 1) := by decide +kernel
theorem dX8_tries_25 : decode cX8_tries 25 = .ok (.iload_n 3, 1) := by decide +kernel
theorem dX8_tries_26 : decode cX8_tries 26 = .ok (.bipush 54, 2) := by decide +kernel
theorem dX8_tries_28 : decode cX8_tries 28 = .ok (.if_icmp .ge 24, 3) := by decide +kernel
theorem dX8_tries_31 : decode cX8_tries 31 = .ok (.aload_n 0, 1) := by decide +kernel
theorem dX8_tries_32 : decode cX8_tries 32 = .ok (.getfield 78, 3) := by decide +kernel
theorem dX8_tries_35 : decode cX8_tries 35 = .ok (.iload_n 3, 1) := by decide +kernel
theorem dX8_tries_36 : decode cX8_tries 36 = .ok (.aload_n 0, 1) := by decide +kernel
theorem dX8_tries_37 : decode cX8_tries 37 = .ok (.getfield 7, 3) := by decide +kernel
theorem dX8_tries_40 : decode cX8_tries 40 = .ok (.bipush 65, 2) := by decide +kernel
theorem dX8_tries_42 : decode cX8_tries 42 = .ok (.iload_n 3, 1) := by decide +kernel
theorem dX8_tries_43 : decode cX8_tries 43 = .ok (.iadd, 1) := by decide +kernel
theorem dX8_tries_44 : decode cX8_tries 44 = .ok (.iaload, 1) := by decide +kernel
theorem dX8_tries_45 : decode cX8_tries 45 = .ok (.iastore, 1) := by decide +kernel
theorem dX8_tries_46 : decode cX8_tries 46 = .ok (.iinc 3 1, 3) := by decide +kernel
theorem dX8_tries_49 : decode cX8_tries 49 = .ok (.goto (-24), 3) := by decide +kernel
theorem dX8_tries_52 : decode cX8_tries 52 = .ok (.aload_n 0, 1) := by decide +kernel
theorem dX8_tries_53 : decode cX8_tries 53 = .ok (.invokevirtual 312, 3) := by decide +kernel
theorem dX8_tries_56 : decode cX8_tries 56 = .ok (.return_, 1) := by decide +kernel
theorem dX8_isBetter_0 : decode cX8_isBetter 0 = .ok (.aload_n 0, 1) := by decide +kernel
theorem dX8_isBetter_1 : decode cX8_isBetter 1 = .ok (.invokevirtual 318, 3) := by decide +kernel
theorem dX8_isBetter_4 : decode cX8_isBetter 4 = .ok (.aload_n 0, 1) := by decide +kernel
theorem dX8_isBetter_5 : decode cX8_isBetter 5 = .ok (.aload_n 0, 1) := by decide +kernel
theorem dX8_isBetter_6 : decode cX8_isBetter 6 = .ok (.getfield 275, 3) := by decide +kernel
theorem dX8_isBetter_9 : decode cX8_isBetter 9 = .ok (.putfield 315, 3) := by decide +kernel
theorem dX8_isBetter_12 : decode cX8_isBetter 12 = .ok (.iconst 0, 1) := by decide +kernel
theorem dX8_isBetter_13 : decode cX8_isBetter 13 = .ok (.istore_n 1, 1) := by decide +kernel
theorem dX8_isBetter_14 : decode cX8_isBetter 14 = .ok (.iload_n 1, 1) := by decide +kernel
theorem dX8_isBetter_15 : decode cX8_isBetter 15 = .ok (.aload_n 0, 1) := by decide +kernel
theorem dX8_isBetter_16 : decode cX8_isBetter 16 = .ok (.getfield 7, 3) := by decide +kernel
theorem dX8_isBetter_19 : decode cX8_isBetter 19 = .ok (.iconst 1, 1) := by decide +kernel
theorem dX8_isBetter_20 : decode cX8_isBetter 20 = .ok (.iaload, 1) := by decide +kernel
theorem dX8_isBetter_21 : decode cX8_isBetter 21 = .ok (.if_icmp .ge 64, 3) := by decide +kernel
theorem dX8_isBetter_24 : decode cX8_isBetter 24 = .ok (.iconst 0, 1) := by decide +kernel
theorem dX8_isBetter_25 : decode cX8_isBetter 25 = .ok (.istore_n 2, 1) := by decide +kernel
theorem dX8_isBetter_26 : decode cX8_isBetter 26 = .ok (.iload_n 2, 1) := by decide +kernel
theorem dX8_isBetter_27 : decode cX8_isBetter 27 = .ok (.aload_n 0, 1) := by decide +kernel
theorem dX8_isBetter_28 : decode cX8_isBetter 28 = .ok (.getfield 7, 3) := by decide +kernel
theorem dX8_isBetter_31 : decode cX8_isBetter 31 = .ok (.iconst 0, 1) := by decide +kernel
theorem dX8_isBetter_32 : decode cX8_isBetter 32 = .ok (.iaload, 1) := by decide +kernel
theorem dX8_isBetter_33 : decode cX8_isBetter 33 = .ok (.if_icmp .ge 46, 3) := by decide +kernel
theorem dX8_isBetter_36 : decode cX8_isBetter 36 = .ok (.aload_n 0, 1) := by decide +kernel
theorem dX8_isBetter_37 : decode cX8_isBetter 37 = .ok (.iload_n 1, 1) := by decide +kernel
theorem dX8_isBetter_38 : decode cX8_isBetter 38 = .ok (.invokevirtual 284, 3) := by decide +kernel
theorem dX8_isBetter_41 : decode cX8_isBetter 41 = .ok (.iconst (-1), 1) := by decide +kernel
theorem dX8_isBetter_42 : decode cX8_isBetter 42 = .ok (.if_icmp .eq 37, 3) := by decide +kernel
theorem dX8_isBetter_45 : decode cX8_isBetter 45 = .ok (.iconst 0, 1) := by decide +kernel
theorem dX8_isBetter_46 : decode cX8_isBetter 46 = .ok (.istore_n 3, 1) := by decide +kernel
theorem dX8_isBetter_47 : decode cX8_isBetter 47 = .ok (.iload_n 3, 1) := by decide +kernel
theorem dX8_isBetter_48 : decode cX8_isBetter 48 = .ok (.aload_n 0, 1) := by decide +kernel
theorem dX8_isBetter_49 : decode cX8_isBetter 49 = .ok (.iload_n 2, 1) := by decide +kernel
theorem dX8_isBetter_50 : decode cX8_isBetter 50 = .ok (.invokevirtual 191, 3) := by decide +kernel
theorem dX8_isBetter_53 : decode cX8_isBetter 53 = .ok (.if_icmp .gt 20, 3) := by decide +kernel
theorem dX8_isBetter_56 : decode cX8_isBetter 56 = .ok (.aload_n 0, 1) := by decide +kernel
theorem dX8_isBetter_57 : decode cX8_isBetter 57 = .ok (.aload_n 0, 1) := by decide +kernel
theorem dX8_isBetter_58 : decode cX8_isBetter 58 = .ok (.iload_n 1, 1) := by decide +kernel
theorem dX8_isBetter_59 : decode cX8_isBetter 59 = .ok (.iload_n 2, 1) := by decide +kernel
theorem dX8_isBetter_60 : decode cX8_isBetter 60 = .ok (.iload_n 3, 1) := by decide +kernel
theorem dX8_isBetter_61 : decode cX8_isBetter 61 = .ok (.invokevirtual 321, 3) := by decide +kernel
theorem dX8_isBetter_64 : decode cX8_isBetter 64 = .ok (.invokevirtual 325, 3) := by decide +kernel
theorem dX8_isBetter_67 : decode cX8_isBetter 67 = .ok (.iinc 3 1, 3) := by decide +kernel
theorem dX8_isBetter_70 : decode cX8_isBetter 70 = .ok (.goto (-23), 3) := by decide +kernel
theorem dX8_isBetter_73 : decode cX8_isBetter 73 = .ok (.iinc 2 1, 3) := by decide +kernel
theorem dX8_isBetter_76 : decode cX8_isBetter 76 = .ok (.goto (-50), 3) := by decide +kernel
theorem dX8_isBetter_79 : decode cX8_isBetter 79 = .ok (.iinc 1 1, 3) := by decide +kernel
theorem dX8_isBetter_82 : decode cX8_isBetter 82 = .ok (.goto (-68), 3) := by decide +kernel
theorem dX8_isBetter_85 : decode cX8_isBetter 85 = .ok (.iconst 0, 1) := by decide +kernel
theorem dX8_isBetter_86 : decode cX8_isBetter 86 = .ok (.istore_n 1, 1) := by decide +kernel
theorem dX8_isBetter_87 : decode cX8_isBetter 87 = .ok (.iload_n 1, 1) := by decide +kernel
theorem dX8_isBetter_88 : decode cX8_isBetter 88 = .ok (.aload_n 0, 1) := by decide +kernel
theorem dX8_isBetter_89 : decode cX8_isBetter 89 = .ok (.getfield 7, 3) := by decide +kernel
theorem dX8_isBetter_92 : decode cX8_isBetter 92 = .ok (.iconst 1, 1) := by decide +kernel
theorem dX8_isBetter_93 : decode cX8_isBetter 93 = .ok (.iaload, 1) := by decide +kernel
theorem dX8_isBetter_94 : decode cX8_isBetter 94 = .ok (.if_icmp .ge 39, 3) := by decide +kernel
theorem dX8_isBetter_97 : decode cX8_isBetter 97 = .ok (.iload_n 1, 1) := by decide +kernel
theorem dX8_isBetter_98 : decode cX8_isBetter 98 = .ok (.iconst 1, 1) := by decide +kernel
theorem dX8_isBetter_99 : decode cX8_isBetter 99 = .ok (.iadd, 1) := by decide +kernel
theorem dX8_isBetter_100 : decode cX8_isBetter 100 = .ok (.istore_n 2, 1) := by decide +kernel
theorem dX8_isBetter_101 : decode cX8_isBetter 101 = .ok (.iload_n 2, 1) := by decide +kernel
theorem dX8_isBetter_102 : decode cX8_isBetter 102 = .ok (.aload_n 0, 1) := by decide +kernel
theorem dX8_isBetter_103 : decode cX8_isBetter 103 = .ok (.getfield 7, 3) := by decide +kernel
theorem dX8_isBetter_106 : decode cX8_isBetter 106 = .ok (.iconst 1, 1) := by decide +kernel
theorem dX8_isBetter_107 : decode cX8_isBetter 107 = .ok (.iaload, 1) := by decide +kernel
theorem dX8_isBetter_108 : decode cX8_isBetter 108 = .ok (.if_icmp .ge 19, 3) := by decide +kernel
theorem dX8_isBetter_111 : decode cX8_isBetter 111 = .ok (.aload_n 0, 1) := by decide +kernel
theorem dX8_isBetter_112 : decode cX8_isBetter 112 = .ok (.aload_n 0, 1) := by decide +kernel
theorem dX8_isBetter_113 : decode cX8_isBetter 113 = .ok (.iload_n 1, 1) := by decide +kernel
theorem dX8_isBetter_114 : decode cX8_isBetter 114 = .ok (.iload_n 2, 1) := by decide +kernel
theorem dX8_isBetter_115 : decode cX8_isBetter 115 = .ok (.invokevirtual 328, 3) := by decide +kernel
theorem dX8_isBetter_118 : decode cX8_isBetter 118 = .ok (.invokevirtual 325, 3) := by decide +kernel
theorem dX8_isBetter_121 : decode cX8_isBetter 121 = .ok (.iinc 2 1, 3) := by decide +kernel
theorem dX8_isBetter_124 : decode cX8_isBetter 124 = .ok (.goto (-23), 3) := by decide +kernel
theorem dX8_isBetter_127 : decode cX8_isBetter 127 = .ok (.iinc 1 1, 3) := by decide +kernel
theorem dX8_isBetter_130 : decode cX8_isBetter 130 = .ok (.goto (-43), 3) := by decide +kernel
theorem dX8_isBetter_133 : decode cX8_isBetter 133 = .ok (.aload_n 0, 1) := by decide +kernel
theorem dX8_isBetter_134 : decode cX8_isBetter 134 = .ok (.getfield 315, 3) := by decide +kernel
theorem dX8_isBetter_137 : decode cX8_isBetter 137 = .ok (.aload_n 0, 1) := by decide +kernel
theorem dX8_isBetter_138 : decode cX8_isBetter 138 = .ok (.getfield 275, 3) := by decide +kernel
theorem dX8_isBetter_141 : decode cX8_isBetter 141 = .ok (.if_icmp .ge 7, 3) := by decide +kernel
theorem dX8_isBetter_144 : decode cX8_isBetter 144 = .ok (.iconst 1, 1) := by decide +kernel
theorem dX8_isBetter_145 : decode cX8_isBetter 145 = .ok (.goto 4, 3) := by decide +kernel
theorem dX8_isBetter_148 : decode cX8_isBetter 148 = .ok (.iconst 0, 1) := by decide +kernel
theorem dX8_isBetter_149 : decode cX8_isBetter 149 = .ok (.ireturn, 1) := by decide +kernel
theorem dX8_takesBest_0 : decode cX8_takesBest 0 = .ok (.iconst 0, 1) := by decide +kernel
theorem dX8_takesBest_1 : decode cX8_takesBest 1 = .ok (.istore_n 1, 1) := by decide +kernel
theorem dX8_takesBest_2 : decode cX8_takesBest 2 = .ok (.iload_n 1, 1) := by decide +kernel
theorem dX8_takesBest_3 : decode cX8_takesBest 3 = .ok (.bipush 54, 2) := by decide +kernel
theorem dX8_takesBest_5 : decode cX8_takesBest 5 = .ok (.if_icmp .ge 24, 3) := by decide +kernel
theorem dX8_takesBest_8 : decode cX8_takesBest 8 = .ok (.aload_n 0, 1) := by decide +kernel
theorem dX8_takesBest_9 : decode cX8_takesBest 9 = .ok (.getfield 7, 3) := by decide +kernel
theorem dX8_takesBest_12 : decode cX8_takesBest 12 = .ok (.bipush 65, 2) := by decide +kernel
theorem dX8_takesBest_14 : decode cX8_takesBest 14 = .ok (.iload_n 1, 1) := by decide +kernel
theorem dX8_takesBest_15 : decode cX8_takesBest 15 = .ok (.iadd, 1) := by decide +kernel
theorem dX8_takesBest_16 : decode cX8_takesBest 16 = .ok (.aload_n 0, 1) := by decide +kernel
theorem dX8_takesBest_17 : decode cX8_takesBest 17 = .ok (.getfield 78, 3) := by decide +kernel
theorem dX8_takesBest_20 : decode cX8_takesBest 20 = .ok (.iload_n 1, 1) := by decide +kernel
theorem dX8_takesBest_21 : decode cX8_takesBest 21 = .ok (.iaload, 1) := by decide +kernel
theorem dX8_takesBest_22 : decode cX8_takesBest 22 = .ok (.iastore, 1) := by decide +kernel
theorem dX8_takesBest_23 : decode cX8_takesBest 23 = .ok (.iinc 1 1, 3) := by decide +kernel
theorem dX8_takesBest_26 : decode cX8_takesBest 26 = .ok (.goto (-24), 3) := by decide +kernel
theorem dX8_takesBest_29 : decode cX8_takesBest 29 = .ok (.return_, 1) := by decide +kernel
theorem dX8_remembers_0 : decode cX8_remembers 0 = .ok (.iconst 0, 1) := by decide +kernel
theorem dX8_remembers_1 : decode cX8_remembers 1 = .ok (.istore_n 1, 1) := by decide +kernel
theorem dX8_remembers_2 : decode cX8_remembers 2 = .ok (.iload_n 1, 1) := by decide +kernel
theorem dX8_remembers_3 : decode cX8_remembers 3 = .ok (.bipush 119, 2) := by decide +kernel
theorem dX8_remembers_5 : decode cX8_remembers 5 = .ok (.if_icmp .ge 21, 3) := by decide +kernel
theorem dX8_remembers_8 : decode cX8_remembers 8 = .ok (.aload_n 0, 1) := by decide +kernel
theorem dX8_remembers_9 : decode cX8_remembers 9 = .ok (.getfield 81, 3) := by decide +kernel
theorem dX8_remembers_12 : decode cX8_remembers 12 = .ok (.iload_n 1, 1) := by decide +kernel
theorem dX8_remembers_13 : decode cX8_remembers 13 = .ok (.aload_n 0, 1) := by decide +kernel
theorem dX8_remembers_14 : decode cX8_remembers 14 = .ok (.getfield 7, 3) := by decide +kernel
theorem dX8_remembers_17 : decode cX8_remembers 17 = .ok (.iload_n 1, 1) := by decide +kernel
theorem dX8_remembers_18 : decode cX8_remembers 18 = .ok (.iaload, 1) := by decide +kernel
theorem dX8_remembers_19 : decode cX8_remembers 19 = .ok (.iastore, 1) := by decide +kernel
theorem dX8_remembers_20 : decode cX8_remembers 20 = .ok (.iinc 1 1, 3) := by decide +kernel
theorem dX8_remembers_23 : decode cX8_remembers 23 = .ok (.goto (-21), 3) := by decide +kernel
theorem dX8_remembers_26 : decode cX8_remembers 26 = .ok (.return_, 1) := by decide +kernel
theorem dX8_keeps_0 : decode cX8_keeps 0 = .ok (.aload_n 0, 1) := by decide +kernel
theorem dX8_keeps_1 : decode cX8_keeps 1 = .ok (.getfield 181, 3) := by decide +kernel
theorem dX8_keeps_4 : decode cX8_keeps 4 = .ok (.bipush 8, 2) := by decide +kernel
theorem dX8_keeps_6 : decode cX8_keeps 6 = .ok (.if_icmp .ne 43, 3) := by decide +kernel
theorem dX8_keeps_9 : decode cX8_keeps 9 = .ok (.iconst 0, 1) := by decide +kernel
theorem dX8_keeps_10 : decode cX8_keeps 10 = .ok (.istore_n 1, 1) := by decide +kernel
theorem dX8_keeps_11 : decode cX8_keeps 11 = .ok (.iload_n 1, 1) := by decide +kernel
theorem dX8_keeps_12 : decode cX8_keeps 12 = .ok (.sipush 833, 3) := by decide +kernel
theorem dX8_keeps_15 : decode cX8_keeps 15 = .ok (.if_icmp .ge 24, 3) := by decide +kernel
theorem dX8_keeps_18 : decode cX8_keeps 18 = .ok (.aload_n 0, 1) := by decide +kernel
theorem dX8_keeps_19 : decode cX8_keeps 19 = .ok (.getfield 21, 3) := by decide +kernel
theorem dX8_keeps_22 : decode cX8_keeps 22 = .ok (.iload_n 1, 1) := by decide +kernel
theorem dX8_keeps_23 : decode cX8_keeps 23 = .ok (.aload_n 0, 1) := by decide +kernel
theorem dX8_keeps_24 : decode cX8_keeps 24 = .ok (.getfield 21, 3) := by decide +kernel
theorem dX8_keeps_27 : decode cX8_keeps 27 = .ok (.iload_n 1, 1) := by decide +kernel
theorem dX8_keeps_28 : decode cX8_keeps 28 = .ok (.bipush 119, 2) := by decide +kernel
theorem dX8_keeps_30 : decode cX8_keeps 30 = .ok (.iadd, 1) := by decide +kernel
theorem dX8_keeps_31 : decode cX8_keeps 31 = .ok (.iaload, 1) := by decide +kernel
theorem dX8_keeps_32 : decode cX8_keeps 32 = .ok (.iastore, 1) := by decide +kernel
theorem dX8_keeps_33 : decode cX8_keeps 33 = .ok (.iinc 1 1, 3) := by decide +kernel
theorem dX8_keeps_36 : decode cX8_keeps 36 = .ok (.goto (-25), 3) := by decide +kernel
theorem dX8_keeps_39 : decode cX8_keeps 39 = .ok (.aload_n 0, 1) := by decide +kernel
theorem dX8_keeps_40 : decode cX8_keeps 40 = .ok (.dup, 1) := by decide +kernel
theorem dX8_keeps_41 : decode cX8_keeps 41 = .ok (.getfield 181, 3) := by decide +kernel
theorem dX8_keeps_44 : decode cX8_keeps 44 = .ok (.iconst 1, 1) := by decide +kernel
theorem dX8_keeps_45 : decode cX8_keeps 45 = .ok (.isub, 1) := by decide +kernel
theorem dX8_keeps_46 : decode cX8_keeps 46 = .ok (.putfield 181, 3) := by decide +kernel
theorem dX8_keeps_49 : decode cX8_keeps 49 = .ok (.iconst 0, 1) := by decide +kernel
theorem dX8_keeps_50 : decode cX8_keeps 50 = .ok (.istore_n 1, 1) := by decide +kernel
theorem dX8_keeps_51 : decode cX8_keeps 51 = .ok (.iload_n 1, 1) := by decide +kernel
theorem dX8_keeps_52 : decode cX8_keeps 52 = .ok (.bipush 119, 2) := by decide +kernel
theorem dX8_keeps_54 : decode cX8_keeps 54 = .ok (.if_icmp .ge 29, 3) := by decide +kernel
theorem dX8_keeps_57 : decode cX8_keeps 57 = .ok (.aload_n 0, 1) := by decide +kernel
theorem dX8_keeps_58 : decode cX8_keeps 58 = .ok (.getfield 21, 3) := by decide +kernel
theorem dX8_keeps_61 : decode cX8_keeps 61 = .ok (.bipush 119, 2) := by decide +kernel
theorem dX8_keeps_63 : decode cX8_keeps 63 = .ok (.aload_n 0, 1) := by decide +kernel
theorem dX8_keeps_64 : decode cX8_keeps 64 = .ok (.getfield 181, 3) := by decide +kernel
theorem dX8_keeps_67 : decode cX8_keeps 67 = .ok (.imul, 1) := by decide +kernel
theorem dX8_keeps_68 : decode cX8_keeps 68 = .ok (.iload_n 1, 1) := by decide +kernel
theorem dX8_keeps_69 : decode cX8_keeps 69 = .ok (.iadd, 1) := by decide +kernel
theorem dX8_keeps_70 : decode cX8_keeps 70 = .ok (.aload_n 0, 1) := by decide +kernel
theorem dX8_keeps_71 : decode cX8_keeps 71 = .ok (.getfield 81, 3) := by decide +kernel
theorem dX8_keeps_74 : decode cX8_keeps 74 = .ok (.iload_n 1, 1) := by decide +kernel
theorem dX8_keeps_75 : decode cX8_keeps 75 = .ok (.iaload, 1) := by decide +kernel
theorem dX8_keeps_76 : decode cX8_keeps 76 = .ok (.iastore, 1) := by decide +kernel
theorem dX8_keeps_77 : decode cX8_keeps 77 = .ok (.iinc 1 1, 3) := by decide +kernel
theorem dX8_keeps_80 : decode cX8_keeps 80 = .ok (.goto (-29), 3) := by decide +kernel
theorem dX8_keeps_83 : decode cX8_keeps 83 = .ok (.aload_n 0, 1) := by decide +kernel
theorem dX8_keeps_84 : decode cX8_keeps 84 = .ok (.dup, 1) := by decide +kernel
theorem dX8_keeps_85 : decode cX8_keeps 85 = .ok (.getfield 181, 3) := by decide +kernel
theorem dX8_keeps_88 : decode cX8_keeps 88 = .ok (.iconst 1, 1) := by decide +kernel
theorem dX8_keeps_89 : decode cX8_keeps 89 = .ok (.iadd, 1) := by decide +kernel
theorem dX8_keeps_90 : decode cX8_keeps 90 = .ok (.putfield 181, 3) := by decide +kernel
theorem dX8_keeps_93 : decode cX8_keeps 93 = .ok (.return_, 1) := by decide +kernel
theorem dX8_done_0 : decode cX8_done 0 = .ok (.iload_n 1, 1) := by decide +kernel
theorem dX8_done_1 : decode cX8_done 1 = .ok (.ifCond .eq 5, 3) := by decide +kernel
theorem dX8_done_4 : decode cX8_done 4 = .ok (.iload_n 1, 1) := by decide +kernel
theorem dX8_done_5 : decode cX8_done 5 = .ok (.ireturn, 1) := by decide +kernel
theorem dX8_done_6 : decode cX8_done 6 = .ok (.aload_n 0, 1) := by decide +kernel
theorem dX8_done_7 : decode cX8_done 7 = .ok (.invokevirtual 331, 3) := by decide +kernel
theorem dX8_done_10 : decode cX8_done 10 = .ok (.aload_n 0, 1) := by decide +kernel
theorem dX8_done_11 : decode cX8_done 11 = .ok (.invokevirtual 272, 3) := by decide +kernel
theorem dX8_done_14 : decode cX8_done 14 = .ok (.ireturn, 1) := by decide +kernel
theorem dX8_place_0 : decode cX8_place 0 = .ok (.aload_n 0, 1) := by decide +kernel
theorem dX8_place_1 : decode cX8_place 1 = .ok (.iconst 0, 1) := by decide +kernel
theorem dX8_place_2 : decode cX8_place 2 = .ok (.putfield 84, 3) := by decide +kernel
theorem dX8_place_5 : decode cX8_place 5 = .ok (.aload_n 0, 1) := by decide +kernel
theorem dX8_place_6 : decode cX8_place 6 = .ok (.invokevirtual 334, 3) := by decide +kernel
theorem dX8_place_9 : decode cX8_place 9 = .ok (.aload_n 0, 1) := by decide +kernel
theorem dX8_place_10 : decode cX8_place 10 = .ok (.invokevirtual 318, 3) := by decide +kernel
theorem dX8_place_13 : decode cX8_place 13 = .ok (.aload_n 0, 1) := by decide +kernel
theorem dX8_place_14 : decode cX8_place 14 = .ok (.aload_n 0, 1) := by decide +kernel
theorem dX8_place_15 : decode cX8_place 15 = .ok (.iload_n 1, 1) := by decide +kernel
theorem dX8_place_16 : decode cX8_place 16 = .ok (.iload_n 2, 1) := by decide +kernel
theorem dX8_place_17 : decode cX8_place 17 = .ok (.iload_n 3, 1) := by decide +kernel
theorem dX8_place_18 : decode cX8_place 18 = .ok (.invokevirtual 321, 3) := by decide +kernel
theorem dX8_place_21 : decode cX8_place 21 = .ok (.invokevirtual 337, 3) := by decide +kernel
theorem dX8_place_24 : decode cX8_place 24 = .ok (.ireturn, 1) := by decide +kernel
theorem dX8_swap_0 : decode cX8_swap 0 = .ok (.aload_n 0, 1) := by decide +kernel
theorem dX8_swap_1 : decode cX8_swap 1 = .ok (.iconst 0, 1) := by decide +kernel
theorem dX8_swap_2 : decode cX8_swap 2 = .ok (.putfield 84, 3) := by decide +kernel
theorem dX8_swap_5 : decode cX8_swap 5 = .ok (.aload_n 0, 1) := by decide +kernel
theorem dX8_swap_6 : decode cX8_swap 6 = .ok (.invokevirtual 334, 3) := by decide +kernel
theorem dX8_swap_9 : decode cX8_swap 9 = .ok (.aload_n 0, 1) := by decide +kernel
theorem dX8_swap_10 : decode cX8_swap 10 = .ok (.invokevirtual 318, 3) := by decide +kernel
theorem dX8_swap_13 : decode cX8_swap 13 = .ok (.aload_n 0, 1) := by decide +kernel
theorem dX8_swap_14 : decode cX8_swap 14 = .ok (.aload_n 0, 1) := by decide +kernel
theorem dX8_swap_15 : decode cX8_swap 15 = .ok (.iload_n 1, 1) := by decide +kernel
theorem dX8_swap_16 : decode cX8_swap 16 = .ok (.iload_n 2, 1) := by decide +kernel
theorem dX8_swap_17 : decode cX8_swap 17 = .ok (.invokevirtual 328, 3) := by decide +kernel
theorem dX8_swap_20 : decode cX8_swap 20 = .ok (.invokevirtual 337, 3) := by decide +kernel
theorem dX8_swap_23 : decode cX8_swap 23 = .ok (.ireturn, 1) := by decide +kernel
theorem dX8_late_0 : decode cX8_late 0 = .ok (.aload_n 0, 1) := by decide +kernel
theorem dX8_late_1 : decode cX8_late 1 = .ok (.iconst 0, 1) := by decide +kernel
theorem dX8_late_2 : decode cX8_late 2 = .ok (.putfield 84, 3) := by decide +kernel
theorem dX8_late_5 : decode cX8_late 5 = .ok (.aload_n 0, 1) := by decide +kernel
theorem dX8_late_6 : decode cX8_late 6 = .ok (.iload_n 1, 1) := by decide +kernel
theorem dX8_late_7 : decode cX8_late 7 = .ok (.invokevirtual 290, 3) := by decide +kernel
theorem dX8_late_10 : decode cX8_late 10 = .ok (.ifCond .eq 26, 3) := by decide +kernel
theorem dX8_late_13 : decode cX8_late 13 = .ok (.iload_n 2, 1) := by decide +kernel
theorem dX8_late_14 : decode cX8_late 14 = .ok (.iconst 1, 1) := by decide +kernel
theorem dX8_late_15 : decode cX8_late 15 = .ok (.bipush 99, 2) := by decide +kernel
theorem dX8_late_17 : decode cX8_late 17 = .ok (.invokestatic 88, 3) := by decide +kernel
theorem dX8_late_20 : decode cX8_late 20 = .ok (.ifCond .eq 16, 3) := by decide +kernel
theorem dX8_late_23 : decode cX8_late 23 = .ok (.aload_n 0, 1) := by decide +kernel
theorem dX8_late_24 : decode cX8_late 24 = .ok (.iload_n 1, 1) := by decide +kernel
theorem dX8_late_25 : decode cX8_late 25 = .ok (.iconst 1, 1) := by decide +kernel
theorem dX8_late_26 : decode cX8_late 26 = .ok (.invokevirtual 92, 3) := by decide +kernel
theorem dX8_late_29 : decode cX8_late 29 = .ok (.iload_n 2, 1) := by decide +kernel
theorem dX8_late_30 : decode cX8_late 30 = .ok (.iadd, 1) := by decide +kernel
theorem dX8_late_31 : decode cX8_late 31 = .ok (.bipush 99, 2) := by decide +kernel
theorem dX8_late_33 : decode cX8_late 33 = .ok (.if_icmp .le 5, 3) := by decide +kernel
theorem dX8_late_36 : decode cX8_late 36 = .ok (.iconst (-1), 1) := by decide +kernel
theorem dX8_late_37 : decode cX8_late 37 = .ok (.ireturn, 1) := by decide +kernel
theorem dX8_late_38 : decode cX8_late 38 = .ok (.aload_n 0, 1) := by decide +kernel
theorem dX8_late_39 : decode cX8_late 39 = .ok (.invokevirtual 318, 3) := by decide +kernel
theorem dX8_late_42 : decode cX8_late 42 = .ok (.aload_n 0, 1) := by decide +kernel
theorem dX8_late_43 : decode cX8_late 43 = .ok (.iload_n 1, 1) := by decide +kernel
theorem dX8_late_44 : decode cX8_late 44 = .ok (.invokevirtual 278, 3) := by decide +kernel
theorem dX8_late_47 : decode cX8_late 47 = .ok (.ifCond .eq 6, 3) := by decide +kernel
theorem dX8_late_50 : decode cX8_late 50 = .ok (.bipush (-2), 2) := by decide +kernel
theorem dX8_late_52 : decode cX8_late 52 = .ok (.ireturn, 1) := by decide +kernel
theorem dX8_late_53 : decode cX8_late 53 = .ok (.aload_n 0, 1) := by decide +kernel
theorem dX8_late_54 : decode cX8_late 54 = .ok (.invokevirtual 334, 3) := by decide +kernel
theorem dX8_late_57 : decode cX8_late 57 = .ok (.aload_n 0, 1) := by decide +kernel
theorem dX8_late_58 : decode cX8_late 58 = .ok (.invokevirtual 331, 3) := by decide +kernel
theorem dX8_late_61 : decode cX8_late 61 = .ok (.aload_n 0, 1) := by decide +kernel
theorem dX8_late_62 : decode cX8_late 62 = .ok (.getfield 7, 3) := by decide +kernel
theorem dX8_late_65 : decode cX8_late 65 = .ok (.bipush 17, 2) := by decide +kernel
theorem dX8_late_67 : decode cX8_late 67 = .ok (.bipush 6, 2) := by decide +kernel
theorem dX8_late_69 : decode cX8_late 69 = .ok (.iload_n 1, 1) := by decide +kernel
theorem dX8_late_70 : decode cX8_late 70 = .ok (.imul, 1) := by decide +kernel
theorem dX8_late_71 : decode cX8_late 71 = .ok (.iadd, 1) := by decide +kernel
theorem dX8_late_72 : decode cX8_late 72 = .ok (.iconst 1, 1) := by decide +kernel
theorem dX8_late_73 : decode cX8_late 73 = .ok (.iadd, 1) := by decide +kernel
theorem dX8_late_74 : decode cX8_late 74 = .ok (.dup2, 1) := by decide +kernel
theorem dX8_late_75 : decode cX8_late 75 = .ok (.iaload, 1) := by decide +kernel
theorem dX8_late_76 : decode cX8_late 76 = .ok (.iload_n 2, 1) := by decide +kernel
theorem dX8_late_77 : decode cX8_late 77 = .ok (.iadd, 1) := by decide +kernel
theorem dX8_late_78 : decode cX8_late 78 = .ok (.iastore, 1) := by decide +kernel
theorem dX8_late_79 : decode cX8_late 79 = .ok (.aload_n 0, 1) := by decide +kernel
theorem dX8_late_80 : decode cX8_late 80 = .ok (.iload_n 1, 1) := by decide +kernel
theorem dX8_late_81 : decode cX8_late 81 = .ok (.iconst 1, 1) := by decide +kernel
theorem dX8_late_82 : decode cX8_late 82 = .ok (.invokevirtual 92, 3) := by decide +kernel
theorem dX8_late_85 : decode cX8_late 85 = .ok (.ireturn, 1) := by decide +kernel
theorem dX8_now_0 : decode cX8_now 0 = .ok (.aload_n 0, 1) := by decide +kernel
theorem dX8_now_1 : decode cX8_now 1 = .ok (.iconst 0, 1) := by decide +kernel
theorem dX8_now_2 : decode cX8_now 2 = .ok (.putfield 84, 3) := by decide +kernel
theorem dX8_now_5 : decode cX8_now 5 = .ok (.iload_n 1, 1) := by decide +kernel
theorem dX8_now_6 : decode cX8_now 6 = .ok (.aload_n 0, 1) := by decide +kernel
theorem dX8_now_7 : decode cX8_now 7 = .ok (.getfield 7, 3) := by decide +kernel
theorem dX8_now_10 : decode cX8_now 10 = .ok (.iconst 4, 1) := by decide +kernel
theorem dX8_now_11 : decode cX8_now 11 = .ok (.iaload, 1) := by decide +kernel
theorem dX8_now_12 : decode cX8_now 12 = .ok (.iconst 1, 1) := by decide +kernel
theorem dX8_now_13 : decode cX8_now 13 = .ok (.iadd, 1) := by decide +kernel
theorem dX8_now_14 : decode cX8_now 14 = .ok (.sipush 199, 3) := by decide +kernel
theorem dX8_now_17 : decode cX8_now 17 = .ok (.invokestatic 88, 3) := by decide +kernel
theorem dX8_now_20 : decode cX8_now 20 = .ok (.ifCond .ne 5, 3) := by decide +kernel
theorem dX8_now_23 : decode cX8_now 23 = .ok (.iconst 0, 1) := by decide +kernel
theorem dX8_now_24 : decode cX8_now 24 = .ok (.ireturn, 1) := by decide +kernel
theorem dX8_now_25 : decode cX8_now 25 = .ok (.aload_n 0, 1) := by decide +kernel
theorem dX8_now_26 : decode cX8_now 26 = .ok (.invokevirtual 334, 3) := by decide +kernel
theorem dX8_now_29 : decode cX8_now 29 = .ok (.aload_n 0, 1) := by decide +kernel
theorem dX8_now_30 : decode cX8_now 30 = .ok (.invokevirtual 331, 3) := by decide +kernel
theorem dX8_now_33 : decode cX8_now 33 = .ok (.aload_n 0, 1) := by decide +kernel
theorem dX8_now_34 : decode cX8_now 34 = .ok (.getfield 7, 3) := by decide +kernel
theorem dX8_now_37 : decode cX8_now 37 = .ok (.iconst 4, 1) := by decide +kernel
theorem dX8_now_38 : decode cX8_now 38 = .ok (.iload_n 1, 1) := by decide +kernel
theorem dX8_now_39 : decode cX8_now 39 = .ok (.iastore, 1) := by decide +kernel
theorem dX8_now_40 : decode cX8_now 40 = .ok (.iconst 1, 1) := by decide +kernel
theorem dX8_now_41 : decode cX8_now 41 = .ok (.ireturn, 1) := by decide +kernel
theorem dX8_step_0 : decode cX8_step 0 = .ok (.aload_n 0, 1) := by decide +kernel
theorem dX8_step_1 : decode cX8_step 1 = .ok (.iconst 0, 1) := by decide +kernel
theorem dX8_step_2 : decode cX8_step 2 = .ok (.putfield 84, 3) := by decide +kernel
theorem dX8_step_5 : decode cX8_step 5 = .ok (.aload_n 0, 1) := by decide +kernel
theorem dX8_step_6 : decode cX8_step 6 = .ok (.invokevirtual 334, 3) := by decide +kernel
theorem dX8_step_9 : decode cX8_step 9 = .ok (.aload_n 0, 1) := by decide +kernel
theorem dX8_step_10 : decode cX8_step 10 = .ok (.invokevirtual 340, 3) := by decide +kernel
theorem dX8_step_13 : decode cX8_step 13 = .ok (.ifCond .ne 5, 3) := by decide +kernel
theorem dX8_step_16 : decode cX8_step 16 = .ok (.iconst (-1), 1) := by decide +kernel
theorem dX8_step_17 : decode cX8_step 17 = .ok (.ireturn, 1) := by decide +kernel
theorem dX8_step_18 : decode cX8_step 18 = .ok (.aload_n 0, 1) := by decide +kernel
theorem dX8_step_19 : decode cX8_step 19 = .ok (.invokevirtual 331, 3) := by decide +kernel
theorem dX8_step_22 : decode cX8_step 22 = .ok (.aload_n 0, 1) := by decide +kernel
theorem dX8_step_23 : decode cX8_step 23 = .ok (.invokevirtual 343, 3) := by decide +kernel
theorem dX8_step_26 : decode cX8_step 26 = .ok (.aload_n 0, 1) := by decide +kernel
theorem dX8_step_27 : decode cX8_step 27 = .ok (.getfield 315, 3) := by decide +kernel
theorem dX8_step_30 : decode cX8_step 30 = .ok (.ireturn, 1) := by decide +kernel
theorem dX8_repair_0 : decode cX8_repair 0 = .ok (.aload_n 0, 1) := by decide +kernel
theorem dX8_repair_1 : decode cX8_repair 1 = .ok (.iconst 0, 1) := by decide +kernel
theorem dX8_repair_2 : decode cX8_repair 2 = .ok (.putfield 84, 3) := by decide +kernel
theorem dX8_repair_5 : decode cX8_repair 5 = .ok (.aload_n 0, 1) := by decide +kernel
theorem dX8_repair_6 : decode cX8_repair 6 = .ok (.invokevirtual 334, 3) := by decide +kernel
theorem dX8_repair_9 : decode cX8_repair 9 = .ok (.iconst 0, 1) := by decide +kernel
theorem dX8_repair_10 : decode cX8_repair 10 = .ok (.istore_n 1, 1) := by decide +kernel
theorem dX8_repair_11 : decode cX8_repair 11 = .ok (.iload_n 1, 1) := by decide +kernel
theorem dX8_repair_12 : decode cX8_repair 12 = .ok (.iconst 5, 1) := by decide +kernel
theorem dX8_repair_13 : decode cX8_repair 13 = .ok (.if_icmp .ge 20, 3) := by decide +kernel
theorem dX8_repair_16 : decode cX8_repair 16 = .ok (.aload_n 0, 1) := by decide +kernel
theorem dX8_repair_17 : decode cX8_repair 17 = .ok (.invokevirtual 340, 3) := by decide +kernel
theorem dX8_repair_20 : decode cX8_repair 20 = .ok (.ifCond .eq 13, 3) := by decide +kernel
theorem dX8_repair_23 : decode cX8_repair 23 = .ok (.aload_n 0, 1) := by decide +kernel
theorem dX8_repair_24 : decode cX8_repair 24 = .ok (.invokevirtual 343, 3) := by decide +kernel
theorem dX8_repair_27 : decode cX8_repair 27 = .ok (.iinc 1 1, 3) := by decide +kernel
theorem dX8_repair_30 : decode cX8_repair 30 = .ok (.goto (-19), 3) := by decide +kernel
theorem dX8_repair_33 : decode cX8_repair 33 = .ok (.iload_n 1, 1) := by decide +kernel
theorem dX8_repair_34 : decode cX8_repair 34 = .ok (.ifCond .ne 5, 3) := by decide +kernel
theorem dX8_repair_37 : decode cX8_repair 37 = .ok (.iconst (-1), 1) := by decide +kernel
theorem dX8_repair_38 : decode cX8_repair 38 = .ok (.ireturn, 1) := by decide +kernel
theorem dX8_repair_39 : decode cX8_repair 39 = .ok (.aload_n 0, 1) := by decide +kernel
theorem dX8_repair_40 : decode cX8_repair 40 = .ok (.invokevirtual 331, 3) := by decide +kernel
theorem dX8_repair_43 : decode cX8_repair 43 = .ok (.iload_n 1, 1) := by decide +kernel
theorem dX8_repair_44 : decode cX8_repair 44 = .ok (.ireturn, 1) := by decide +kernel
theorem dX8_undo_0 : decode cX8_undo 0 = .ok (.aload_n 0, 1) := by decide +kernel
theorem dX8_undo_1 : decode cX8_undo 1 = .ok (.iconst 0, 1) := by decide +kernel
theorem dX8_undo_2 : decode cX8_undo 2 = .ok (.putfield 84, 3) := by decide +kernel
theorem dX8_undo_5 : decode cX8_undo 5 = .ok (.aload_n 0, 1) := by decide +kernel
theorem dX8_undo_6 : decode cX8_undo 6 = .ok (.getfield 181, 3) := by decide +kernel
theorem dX8_undo_9 : decode cX8_undo 9 = .ok (.ifCond .ne 5, 3) := by decide +kernel
theorem dX8_undo_12 : decode cX8_undo 12 = .ok (.iconst (-1), 1) := by decide +kernel
theorem dX8_undo_13 : decode cX8_undo 13 = .ok (.ireturn, 1) := by decide +kernel
theorem dX8_undo_14 : decode cX8_undo 14 = .ok (.aload_n 0, 1) := by decide +kernel
theorem dX8_undo_15 : decode cX8_undo 15 = .ok (.dup, 1) := by decide +kernel
theorem dX8_undo_16 : decode cX8_undo 16 = .ok (.getfield 181, 3) := by decide +kernel
theorem dX8_undo_19 : decode cX8_undo 19 = .ok (.iconst 1, 1) := by decide +kernel
theorem dX8_undo_20 : decode cX8_undo 20 = .ok (.isub, 1) := by decide +kernel
theorem dX8_undo_21 : decode cX8_undo 21 = .ok (.putfield 181, 3) := by decide +kernel
theorem dX8_undo_24 : decode cX8_undo 24 = .ok (.iconst 0, 1) := by decide +kernel
theorem dX8_undo_25 : decode cX8_undo 25 = .ok (.istore_n 1, 1) := by decide +kernel
theorem dX8_undo_26 : decode cX8_undo 26 = .ok (.iload_n 1, 1) := by decide +kernel
theorem dX8_undo_27 : decode cX8_undo 27 = .ok (.bipush 119, 2) := by decide +kernel
theorem dX8_undo_29 : decode cX8_undo 29 = .ok (.if_icmp .ge 29, 3) := by decide +kernel
theorem dX8_undo_32 : decode cX8_undo 32 = .ok (.aload_n 0, 1) := by decide +kernel
theorem dX8_undo_33 : decode cX8_undo 33 = .ok (.getfield 7, 3) := by decide +kernel
theorem dX8_undo_36 : decode cX8_undo 36 = .ok (.iload_n 1, 1) := by decide +kernel
theorem dX8_undo_37 : decode cX8_undo 37 = .ok (.aload_n 0, 1) := by decide +kernel
theorem dX8_undo_38 : decode cX8_undo 38 = .ok (.getfield 21, 3) := by decide +kernel
theorem dX8_undo_41 : decode cX8_undo 41 = .ok (.bipush 119, 2) := by decide +kernel
theorem dX8_undo_43 : decode cX8_undo 43 = .ok (.aload_n 0, 1) := by decide +kernel
theorem dX8_undo_44 : decode cX8_undo 44 = .ok (.getfield 181, 3) := by decide +kernel
theorem dX8_undo_47 : decode cX8_undo 47 = .ok (.imul, 1) := by decide +kernel
theorem dX8_undo_48 : decode cX8_undo 48 = .ok (.iload_n 1, 1) := by decide +kernel
theorem dX8_undo_49 : decode cX8_undo 49 = .ok (.iadd, 1) := by decide +kernel
theorem dX8_undo_50 : decode cX8_undo 50 = .ok (.iaload, 1) := by decide +kernel
theorem dX8_undo_51 : decode cX8_undo 51 = .ok (.iastore, 1) := by decide +kernel
theorem dX8_undo_52 : decode cX8_undo 52 = .ok (.iinc 1 1, 3) := by decide +kernel
theorem dX8_undo_55 : decode cX8_undo 55 = .ok (.goto (-29), 3) := by decide +kernel
theorem dX8_undo_58 : decode cX8_undo 58 = .ok (.aload_n 0, 1) := by decide +kernel
theorem dX8_undo_59 : decode cX8_undo 59 = .ok (.getfield 181, 3) := by decide +kernel
theorem dX8_undo_62 : decode cX8_undo 62 = .ok (.ireturn, 1) := by decide +kernel
theorem dX8_lastLeaves_0 : decode cX8_lastLeaves 0 = .ok (.iconst (-1), 1) := by decide +kernel
theorem dX8_lastLeaves_1 : decode cX8_lastLeaves 1 = .ok (.istore_n 1, 1) := by decide +kernel
theorem dX8_lastLeaves_2 : decode cX8_lastLeaves 2 = .ok (.iconst 0, 1) := by decide +kernel
theorem dX8_lastLeaves_3 : decode cX8_lastLeaves 3 = .ok (.istore_n 2, 1) := by decide +kernel
theorem dX8_lastLeaves_4 : decode cX8_lastLeaves 4 = .ok (.iload_n 2, 1) := by decide +kernel
theorem dX8_lastLeaves_5 : decode cX8_lastLeaves 5 = .ok (.aload_n 0, 1) := by decide +kernel
theorem dX8_lastLeaves_6 : decode cX8_lastLeaves 6 = .ok (.getfield 7, 3) := by decide +kernel
theorem dX8_lastLeaves_9 : decode cX8_lastLeaves 9 = .ok (.iconst 1, 1) := by decide +kernel
theorem dX8_lastLeaves_10 : decode cX8_lastLeaves 10 = .ok (.iaload, 1) := by decide +kernel
theorem dX8_lastLeaves_11 : decode cX8_lastLeaves 11 = .ok (.if_icmp .ge 30, 3) := by decide +kernel
theorem dX8_lastLeaves_14 : decode cX8_lastLeaves 14 = .ok (.aload_n 0, 1) := by decide +kernel
theorem dX8_lastLeaves_15 : decode cX8_lastLeaves 15 = .ok (.getfield 51, 3) := by decide +kernel
theorem dX8_lastLeaves_18 : decode cX8_lastLeaves 18 = .ok (.iload_n 2, 1) := by decide +kernel
theorem dX8_lastLeaves_19 : decode cX8_lastLeaves 19 = .ok (.iaload, 1) := by decide +kernel
theorem dX8_lastLeaves_20 : decode cX8_lastLeaves 20 = .ok (.iload_n 1, 1) := by decide +kernel
theorem dX8_lastLeaves_21 : decode cX8_lastLeaves 21 = .ok (.if_icmp .le 12, 3) := by decide +kernel
theorem dX8_lastLeaves_24 : decode cX8_lastLeaves 24 = .ok (.aload_n 0, 1) := by decide +kernel
theorem dX8_lastLeaves_25 : decode cX8_lastLeaves 25 = .ok (.getfield 51, 3) := by decide +kernel
theorem dX8_lastLeaves_28 : decode cX8_lastLeaves 28 = .ok (.iload_n 2, 1) := by decide +kernel
theorem dX8_lastLeaves_29 : decode cX8_lastLeaves 29 = .ok (.iaload, 1) := by decide +kernel
theorem dX8_lastLeaves_30 : decode cX8_lastLeaves 30 = .ok (.goto 4, 3) := by decide +kernel
theorem dX8_lastLeaves_33 : decode cX8_lastLeaves 33 = .ok (.iload_n 1, 1) := by decide +kernel
theorem dX8_lastLeaves_34 : decode cX8_lastLeaves 34 = .ok (.istore_n 1, 1) := by decide +kernel
theorem dX8_lastLeaves_35 : decode cX8_lastLeaves 35 = .ok (.iinc 2 1, 3) := by decide +kernel
theorem dX8_lastLeaves_38 : decode cX8_lastLeaves 38 = .ok (.goto (-34), 3) := by decide +kernel
theorem dX8_lastLeaves_41 : decode cX8_lastLeaves 41 = .ok (.iload_n 1, 1) := by decide +kernel
theorem dX8_lastLeaves_42 : decode cX8_lastLeaves 42 = .ok (.ireturn, 1) := by decide +kernel
theorem dX8_truckMany_0 : decode cX8_truckMany 0 = .ok (.iconst 0, 1) := by decide +kernel
theorem dX8_truckMany_1 : decode cX8_truckMany 1 = .ok (.istore_n 2, 1) := by decide +kernel
theorem dX8_truckMany_2 : decode cX8_truckMany 2 = .ok (.iconst 0, 1) := by decide +kernel
theorem dX8_truckMany_3 : decode cX8_truckMany 3 = .ok (.istore_n 3, 1) := by decide +kernel
theorem dX8_truckMany_4 : decode cX8_truckMany 4 = .ok (.iload_n 3, 1) := by decide +kernel
theorem dX8_truckMany_5 : decode cX8_truckMany 5 = .ok (.aload_n 0, 1) := by decide +kernel
theorem dX8_truckMany_6 : decode cX8_truckMany 6 = .ok (.getfield 7, 3) := by decide +kernel
theorem dX8_truckMany_9 : decode cX8_truckMany 9 = .ok (.iconst 1, 1) := by decide +kernel
theorem dX8_truckMany_10 : decode cX8_truckMany 10 = .ok (.iaload, 1) := by decide +kernel
theorem dX8_truckMany_11 : decode cX8_truckMany 11 = .ok (.if_icmp .ge 47, 3) := by decide +kernel
theorem dX8_truckMany_14 : decode cX8_truckMany 14 = .ok (.iload_n 2, 1) := by decide +kernel
theorem dX8_truckMany_15 : decode cX8_truckMany 15 = .ok (.iload_n 1, 1) := by decide +kernel
theorem dX8_truckMany_16 : decode cX8_truckMany 16 = .ok (.ifCond .eq 19, 3) := by decide +kernel
theorem dX8_truckMany_19 : decode cX8_truckMany 19 = .ok (.aload_n 0, 1) := by decide +kernel
theorem dX8_truckMany_20 : decode cX8_truckMany 20 = .ok (.iload_n 3, 1) := by decide +kernel
theorem dX8_truckMany_21 : decode cX8_truckMany 21 = .ok (.invokevirtual 278, 3) := by decide +kernel
theorem dX8_truckMany_24 : decode cX8_truckMany 24 = .ok (.ifCond .eq 7, 3) := by decide +kernel
theorem dX8_truckMany_27 : decode cX8_truckMany 27 = .ok (.iconst 1, 1) := by decide +kernel
theorem dX8_truckMany_28 : decode cX8_truckMany 28 = .ok (.goto 22, 3) := by decide +kernel
theorem dX8_truckMany_31 : decode cX8_truckMany 31 = .ok (.iconst 0, 1) := by decide +kernel
theorem dX8_truckMany_32 : decode cX8_truckMany 32 = .ok (.goto 18, 3) := by decide +kernel
theorem dX8_truckMany_35 : decode cX8_truckMany 35 = .ok (.aload_n 0, 1) := by decide +kernel
theorem dX8_truckMany_36 : decode cX8_truckMany 36 = .ok (.getfield 51, 3) := by decide +kernel
theorem dX8_truckMany_39 : decode cX8_truckMany 39 = .ok (.iload_n 3, 1) := by decide +kernel
theorem dX8_truckMany_40 : decode cX8_truckMany 40 = .ok (.iaload, 1) := by decide +kernel
theorem dX8_truckMany_41 : decode cX8_truckMany 41 = .ok (.iconst (-1), 1) := by decide +kernel
theorem dX8_truckMany_42 : decode cX8_truckMany 42 = .ok (.if_icmp .ne 7, 3) := by decide +kernel
theorem dX8_truckMany_45 : decode cX8_truckMany 45 = .ok (.iconst 1, 1) := by decide +kernel
theorem dX8_truckMany_46 : decode cX8_truckMany 46 = .ok (.goto 4, 3) := by decide +kernel
theorem dX8_truckMany_49 : decode cX8_truckMany 49 = .ok (.iconst 0, 1) := by decide +kernel
theorem dX8_truckMany_50 : decode cX8_truckMany 50 = .ok (.iadd, 1) := by decide +kernel
theorem dX8_truckMany_51 : decode cX8_truckMany 51 = .ok (.istore_n 2, 1) := by decide +kernel
theorem dX8_truckMany_52 : decode cX8_truckMany 52 = .ok (.iinc 3 1, 3) := by decide +kernel
theorem dX8_truckMany_55 : decode cX8_truckMany 55 = .ok (.goto (-51), 3) := by decide +kernel
theorem dX8_truckMany_58 : decode cX8_truckMany 58 = .ok (.iload_n 2, 1) := by decide +kernel
theorem dX8_truckMany_59 : decode cX8_truckMany 59 = .ok (.ireturn, 1) := by decide +kernel
theorem dX8_count_0 : decode cX8_count 0 = .ok (.aload_n 0, 1) := by decide +kernel
theorem dX8_count_1 : decode cX8_count 1 = .ok (.iconst 0, 1) := by decide +kernel
theorem dX8_count_2 : decode cX8_count 2 = .ok (.putfield 84, 3) := by decide +kernel
theorem dX8_count_5 : decode cX8_count 5 = .ok (.aload_n 0, 1) := by decide +kernel
theorem dX8_count_6 : decode cX8_count 6 = .ok (.invokevirtual 272, 3) := by decide +kernel
theorem dX8_count_9 : decode cX8_count 9 = .ok (.istore_n 2, 1) := by decide +kernel
theorem dX8_count_10 : decode cX8_count 10 = .ok (.iload_n 1, 1) := by decide +kernel
theorem dX8_count_11 : decode cX8_count 11 = .ok (.tableswitch 200 0 18 #[89, 96, 103, 108, 115, 122, 129, 131, 136, 141, 146, 151, 156, 161, 166, 166, 182, 187, 195], 89) := by decide +kernel
theorem dX8_count_100 : decode cX8_count 100 = .ok (.aload_n 0, 1) := by decide +kernel
theorem dX8_count_101 : decode cX8_count 101 = .ok (.getfield 7, 3) := by decide +kernel
theorem dX8_count_104 : decode cX8_count 104 = .ok (.iconst 0, 1) := by decide +kernel
theorem dX8_count_105 : decode cX8_count 105 = .ok (.iaload, 1) := by decide +kernel
theorem dX8_count_106 : decode cX8_count 106 = .ok (.ireturn, 1) := by decide +kernel
theorem dX8_count_107 : decode cX8_count 107 = .ok (.aload_n 0, 1) := by decide +kernel
theorem dX8_count_108 : decode cX8_count 108 = .ok (.getfield 7, 3) := by decide +kernel
theorem dX8_count_111 : decode cX8_count 111 = .ok (.iconst 1, 1) := by decide +kernel
theorem dX8_count_112 : decode cX8_count 112 = .ok (.iaload, 1) := by decide +kernel
theorem dX8_count_113 : decode cX8_count 113 = .ok (.ireturn, 1) := by decide +kernel
theorem dX8_count_114 : decode cX8_count 114 = .ok (.aload_n 0, 1) := by decide +kernel
theorem dX8_count_115 : decode cX8_count 115 = .ok (.getfield 202, 3) := by decide +kernel
theorem dX8_count_118 : decode cX8_count 118 = .ok (.ireturn, 1) := by decide +kernel
theorem dX8_count_119 : decode cX8_count 119 = .ok (.aload_n 0, 1) := by decide +kernel
theorem dX8_count_120 : decode cX8_count 120 = .ok (.getfield 7, 3) := by decide +kernel
theorem dX8_count_123 : decode cX8_count 123 = .ok (.iconst 2, 1) := by decide +kernel
theorem dX8_count_124 : decode cX8_count 124 = .ok (.iaload, 1) := by decide +kernel
theorem dX8_count_125 : decode cX8_count 125 = .ok (.ireturn, 1) := by decide +kernel
theorem dX8_count_126 : decode cX8_count 126 = .ok (.aload_n 0, 1) := by decide +kernel
theorem dX8_count_127 : decode cX8_count 127 = .ok (.getfield 7, 3) := by decide +kernel
theorem dX8_count_130 : decode cX8_count 130 = .ok (.iconst 3, 1) := by decide +kernel
theorem dX8_count_131 : decode cX8_count 131 = .ok (.iaload, 1) := by decide +kernel
theorem dX8_count_132 : decode cX8_count 132 = .ok (.ireturn, 1) := by decide +kernel
theorem dX8_count_133 : decode cX8_count 133 = .ok (.aload_n 0, 1) := by decide +kernel
theorem dX8_count_134 : decode cX8_count 134 = .ok (.getfield 7, 3) := by decide +kernel
theorem dX8_count_137 : decode cX8_count 137 = .ok (.iconst 4, 1) := by decide +kernel
theorem dX8_count_138 : decode cX8_count 138 = .ok (.iaload, 1) := by decide +kernel
theorem dX8_count_139 : decode cX8_count 139 = .ok (.ireturn, 1) := by decide +kernel
theorem dX8_count_140 : decode cX8_count 140 = .ok (.iload_n 2, 1) := by decide +kernel
theorem dX8_count_141 : decode cX8_count 141 = .ok (.ireturn, 1) := by decide +kernel
theorem dX8_count_142 : decode cX8_count 142 = .ok (.aload_n 0, 1) := by decide +kernel
theorem dX8_count_143 : decode cX8_count 143 = .ok (.invokevirtual 269, 3) := by decide +kernel
theorem dX8_count_146 : decode cX8_count 146 = .ok (.ireturn, 1) := by decide +kernel
theorem dX8_count_147 : decode cX8_count 147 = .ok (.aload_n 0, 1) := by decide +kernel
theorem dX8_count_148 : decode cX8_count 148 = .ok (.invokevirtual 260, 3) := by decide +kernel
theorem dX8_count_151 : decode cX8_count 151 = .ok (.ireturn, 1) := by decide +kernel
theorem dX8_count_152 : decode cX8_count 152 = .ok (.aload_n 0, 1) := by decide +kernel
theorem dX8_count_153 : decode cX8_count 153 = .ok (.invokevirtual 263, 3) := by decide +kernel
theorem dX8_count_156 : decode cX8_count 156 = .ok (.ireturn, 1) := by decide +kernel
theorem dX8_count_157 : decode cX8_count 157 = .ok (.aload_n 0, 1) := by decide +kernel
theorem dX8_count_158 : decode cX8_count 158 = .ok (.invokevirtual 266, 3) := by decide +kernel
theorem dX8_count_161 : decode cX8_count 161 = .ok (.ireturn, 1) := by decide +kernel
theorem dX8_count_162 : decode cX8_count 162 = .ok (.aload_n 0, 1) := by decide +kernel
theorem dX8_count_163 : decode cX8_count 163 = .ok (.getfield 242, 3) := by decide +kernel
theorem dX8_count_166 : decode cX8_count 166 = .ok (.ireturn, 1) := by decide +kernel
theorem dX8_count_167 : decode cX8_count 167 = .ok (.aload_n 0, 1) := by decide +kernel
theorem dX8_count_168 : decode cX8_count 168 = .ok (.getfield 245, 3) := by decide +kernel
theorem dX8_count_171 : decode cX8_count 171 = .ok (.ireturn, 1) := by decide +kernel
theorem dX8_count_172 : decode cX8_count 172 = .ok (.aload_n 0, 1) := by decide +kernel
theorem dX8_count_173 : decode cX8_count 173 = .ok (.invokevirtual 346, 3) := by decide +kernel
theorem dX8_count_176 : decode cX8_count 176 = .ok (.ireturn, 1) := by decide +kernel
theorem dX8_count_177 : decode cX8_count 177 = .ok (.aload_n 0, 1) := by decide +kernel
theorem dX8_count_178 : decode cX8_count 178 = .ok (.iload_n 1, 1) := by decide +kernel
theorem dX8_count_179 : decode cX8_count 179 = .ok (.bipush 15, 2) := by decide +kernel
theorem dX8_count_181 : decode cX8_count 181 = .ok (.if_icmp .ne 7, 3) := by decide +kernel
theorem dX8_count_184 : decode cX8_count 184 = .ok (.iconst 1, 1) := by decide +kernel
theorem dX8_count_185 : decode cX8_count 185 = .ok (.goto 4, 3) := by decide +kernel
theorem dX8_count_188 : decode cX8_count 188 = .ok (.iconst 0, 1) := by decide +kernel
theorem dX8_count_189 : decode cX8_count 189 = .ok (.invokevirtual 349, 3) := by decide +kernel
theorem dX8_count_192 : decode cX8_count 192 = .ok (.ireturn, 1) := by decide +kernel
theorem dX8_count_193 : decode cX8_count 193 = .ok (.aload_n 0, 1) := by decide +kernel
theorem dX8_count_194 : decode cX8_count 194 = .ok (.getfield 181, 3) := by decide +kernel
theorem dX8_count_197 : decode cX8_count 197 = .ok (.ireturn, 1) := by decide +kernel
theorem dX8_count_198 : decode cX8_count 198 = .ok (.aload_n 0, 1) := by decide +kernel
theorem dX8_count_199 : decode cX8_count 199 = .ok (.getfield 7, 3) := by decide +kernel
theorem dX8_count_202 : decode cX8_count 202 = .ok (.bipush 119, 2) := by decide +kernel
theorem dX8_count_204 : decode cX8_count 204 = .ok (.iaload, 1) := by decide +kernel
theorem dX8_count_205 : decode cX8_count 205 = .ok (.ireturn, 1) := by decide +kernel
theorem dX8_count_206 : decode cX8_count 206 = .ok (.aload_n 0, 1) := by decide +kernel
theorem dX8_count_207 : decode cX8_count 207 = .ok (.getfield 224, 3) := by decide +kernel
theorem dX8_count_210 : decode cX8_count 210 = .ok (.ireturn, 1) := by decide +kernel
theorem dX8_count_211 : decode cX8_count 211 = .ok (.iconst (-1), 1) := by decide +kernel
theorem dX8_count_212 : decode cX8_count 212 = .ok (.ireturn, 1) := by decide +kernel
theorem dX8_standsIn_0 : decode cX8_standsIn 0 = .ok (.iconst 0, 1) := by decide +kernel
theorem dX8_standsIn_1 : decode cX8_standsIn 1 = .ok (.istore_n 2, 1) := by decide +kernel
theorem dX8_standsIn_2 : decode cX8_standsIn 2 = .ok (.iconst 0, 1) := by decide +kernel
theorem dX8_standsIn_3 : decode cX8_standsIn 3 = .ok (.istore_n 3, 1) := by decide +kernel
theorem dX8_standsIn_4 : decode cX8_standsIn 4 = .ok (.iload_n 3, 1) := by decide +kernel
theorem dX8_standsIn_5 : decode cX8_standsIn 5 = .ok (.aload_n 0, 1) := by decide +kernel
theorem dX8_standsIn_6 : decode cX8_standsIn 6 = .ok (.iload_n 1, 1) := by decide +kernel
theorem dX8_standsIn_7 : decode cX8_standsIn 7 = .ok (.invokevirtual 191, 3) := by decide +kernel
theorem dX8_standsIn_10 : decode cX8_standsIn 10 = .ok (.if_icmp .ge 69, 3) := by decide +kernel
theorem dX8_standsIn_13 : decode cX8_standsIn 13 = .ok (.aload_n 0, 1) := by decide +kernel
theorem dX8_standsIn_14 : decode cX8_standsIn 14 = .ok (.iload_n 1, 1) := by decide +kernel
theorem dX8_standsIn_15 : decode cX8_standsIn 15 = .ok (.iload_n 3, 1) := by decide +kernel
theorem dX8_standsIn_16 : decode cX8_standsIn 16 = .ok (.invokevirtual 205, 3) := by decide +kernel
theorem dX8_standsIn_19 : decode cX8_standsIn 19 = .ok (.istore 4, 2) := by decide +kernel
theorem dX8_standsIn_21 : decode cX8_standsIn 21 = .ok (.iload_n 2, 1) := by decide +kernel
theorem dX8_standsIn_22 : decode cX8_standsIn 22 = .ok (.aload_n 0, 1) := by decide +kernel
theorem dX8_standsIn_23 : decode cX8_standsIn 23 = .ok (.getfield 48, 3) := by decide +kernel
theorem dX8_standsIn_26 : decode cX8_standsIn 26 = .ok (.iload 4, 2) := by decide +kernel
theorem dX8_standsIn_28 : decode cX8_standsIn 28 = .ok (.iaload, 1) := by decide +kernel
theorem dX8_standsIn_29 : decode cX8_standsIn 29 = .ok (.iconst (-1), 1) := by decide +kernel
theorem dX8_standsIn_30 : decode cX8_standsIn 30 = .ok (.if_icmp .ne 7, 3) := by decide +kernel
theorem dX8_standsIn_33 : decode cX8_standsIn 33 = .ok (.iconst 0, 1) := by decide +kernel
theorem dX8_standsIn_34 : decode cX8_standsIn 34 = .ok (.goto 37, 3) := by decide +kernel
theorem dX8_standsIn_37 : decode cX8_standsIn 37 = .ok (.aload_n 0, 1) := by decide +kernel
theorem dX8_standsIn_38 : decode cX8_standsIn 38 = .ok (.getfield 51, 3) := by decide +kernel
theorem dX8_standsIn_41 : decode cX8_standsIn 41 = .ok (.iload 4, 2) := by decide +kernel
theorem dX8_standsIn_43 : decode cX8_standsIn 43 = .ok (.iaload, 1) := by decide +kernel
theorem dX8_standsIn_44 : decode cX8_standsIn 44 = .ok (.iconst (-1), 1) := by decide +kernel
theorem dX8_standsIn_45 : decode cX8_standsIn 45 = .ok (.if_icmp .ne 9, 3) := by decide +kernel
theorem dX8_standsIn_48 : decode cX8_standsIn 48 = .ok (.sipush 200, 3) := by decide +kernel
theorem dX8_standsIn_51 : decode cX8_standsIn 51 = .ok (.goto 12, 3) := by decide +kernel
theorem dX8_standsIn_54 : decode cX8_standsIn 54 = .ok (.aload_n 0, 1) := by decide +kernel
theorem dX8_standsIn_55 : decode cX8_standsIn 55 = .ok (.getfield 51, 3) := by decide +kernel
theorem dX8_standsIn_58 : decode cX8_standsIn 58 = .ok (.iload 4, 2) := by decide +kernel
theorem dX8_standsIn_60 : decode cX8_standsIn 60 = .ok (.iaload, 1) := by decide +kernel
theorem dX8_standsIn_61 : decode cX8_standsIn 61 = .ok (.iconst 1, 1) := by decide +kernel
theorem dX8_standsIn_62 : decode cX8_standsIn 62 = .ok (.iadd, 1) := by decide +kernel
theorem dX8_standsIn_63 : decode cX8_standsIn 63 = .ok (.aload_n 0, 1) := by decide +kernel
theorem dX8_standsIn_64 : decode cX8_standsIn 64 = .ok (.getfield 48, 3) := by decide +kernel
theorem dX8_standsIn_67 : decode cX8_standsIn 67 = .ok (.iload 4, 2) := by decide +kernel
theorem dX8_standsIn_69 : decode cX8_standsIn 69 = .ok (.iaload, 1) := by decide +kernel
theorem dX8_standsIn_70 : decode cX8_standsIn 70 = .ok (.isub, 1) := by decide +kernel
theorem dX8_standsIn_71 : decode cX8_standsIn 71 = .ok (.iadd, 1) := by decide +kernel
theorem dX8_standsIn_72 : decode cX8_standsIn 72 = .ok (.istore_n 2, 1) := by decide +kernel
theorem dX8_standsIn_73 : decode cX8_standsIn 73 = .ok (.iinc 3 1, 3) := by decide +kernel
theorem dX8_standsIn_76 : decode cX8_standsIn 76 = .ok (.goto (-72), 3) := by decide +kernel
theorem dX8_standsIn_79 : decode cX8_standsIn 79 = .ok (.iload_n 2, 1) := by decide +kernel
theorem dX8_standsIn_80 : decode cX8_standsIn 80 = .ok (.ireturn, 1) := by decide +kernel
theorem dX8_handledAt_0 : decode cX8_handledAt 0 = .ok (.iconst 0, 1) := by decide +kernel
theorem dX8_handledAt_1 : decode cX8_handledAt 1 = .ok (.istore_n 2, 1) := by decide +kernel
theorem dX8_handledAt_2 : decode cX8_handledAt 2 = .ok (.iconst 0, 1) := by decide +kernel
theorem dX8_handledAt_3 : decode cX8_handledAt 3 = .ok (.istore_n 3, 1) := by decide +kernel
theorem dX8_handledAt_4 : decode cX8_handledAt 4 = .ok (.iload_n 3, 1) := by decide +kernel
theorem dX8_handledAt_5 : decode cX8_handledAt 5 = .ok (.aload_n 0, 1) := by decide +kernel
theorem dX8_handledAt_6 : decode cX8_handledAt 6 = .ok (.iload_n 1, 1) := by decide +kernel
theorem dX8_handledAt_7 : decode cX8_handledAt 7 = .ok (.invokevirtual 191, 3) := by decide +kernel
theorem dX8_handledAt_10 : decode cX8_handledAt 10 = .ok (.if_icmp .ge 23, 3) := by decide +kernel
theorem dX8_handledAt_13 : decode cX8_handledAt 13 = .ok (.iload_n 2, 1) := by decide +kernel
theorem dX8_handledAt_14 : decode cX8_handledAt 14 = .ok (.aload_n 0, 1) := by decide +kernel
theorem dX8_handledAt_15 : decode cX8_handledAt 15 = .ok (.getfield 54, 3) := by decide +kernel
theorem dX8_handledAt_18 : decode cX8_handledAt 18 = .ok (.aload_n 0, 1) := by decide +kernel
theorem dX8_handledAt_19 : decode cX8_handledAt 19 = .ok (.iload_n 1, 1) := by decide +kernel
theorem dX8_handledAt_20 : decode cX8_handledAt 20 = .ok (.iload_n 3, 1) := by decide +kernel
theorem dX8_handledAt_21 : decode cX8_handledAt 21 = .ok (.invokevirtual 205, 3) := by decide +kernel
theorem dX8_handledAt_24 : decode cX8_handledAt 24 = .ok (.iaload, 1) := by decide +kernel
theorem dX8_handledAt_25 : decode cX8_handledAt 25 = .ok (.iadd, 1) := by decide +kernel
theorem dX8_handledAt_26 : decode cX8_handledAt 26 = .ok (.istore_n 2, 1) := by decide +kernel
theorem dX8_handledAt_27 : decode cX8_handledAt 27 = .ok (.iinc 3 1, 3) := by decide +kernel
theorem dX8_handledAt_30 : decode cX8_handledAt 30 = .ok (.goto (-26), 3) := by decide +kernel
theorem dX8_handledAt_33 : decode cX8_handledAt 33 = .ok (.iload_n 2, 1) := by decide +kernel
theorem dX8_handledAt_34 : decode cX8_handledAt 34 = .ok (.ireturn, 1) := by decide +kernel
theorem dX8_door_0 : decode cX8_door 0 = .ok (.aload_n 0, 1) := by decide +kernel
theorem dX8_door_1 : decode cX8_door 1 = .ok (.aload_n 0, 1) := by decide +kernel
theorem dX8_door_2 : decode cX8_door 2 = .ok (.iload_n 1, 1) := by decide +kernel
theorem dX8_door_3 : decode cX8_door 3 = .ok (.invokevirtual 293, 3) := by decide +kernel
theorem dX8_door_6 : decode cX8_door 6 = .ok (.ifCond .eq 16, 3) := by decide +kernel
theorem dX8_door_9 : decode cX8_door 9 = .ok (.iload_n 2, 1) := by decide +kernel
theorem dX8_door_10 : decode cX8_door 10 = .ok (.iconst 0, 1) := by decide +kernel
theorem dX8_door_11 : decode cX8_door 11 = .ok (.iconst 4, 1) := by decide +kernel
theorem dX8_door_12 : decode cX8_door 12 = .ok (.invokestatic 88, 3) := by decide +kernel
theorem dX8_door_15 : decode cX8_door 15 = .ok (.ifCond .eq 7, 3) := by decide +kernel
theorem dX8_door_18 : decode cX8_door 18 = .ok (.iconst 0, 1) := by decide +kernel
theorem dX8_door_19 : decode cX8_door 19 = .ok (.goto 4, 3) := by decide +kernel
theorem dX8_door_22 : decode cX8_door 22 = .ok (.iconst 1, 1) := by decide +kernel
theorem dX8_door_23 : decode cX8_door 23 = .ok (.putfield 84, 3) := by decide +kernel
theorem dX8_door_26 : decode cX8_door 26 = .ok (.aload_n 0, 1) := by decide +kernel
theorem dX8_door_27 : decode cX8_door 27 = .ok (.getfield 84, 3) := by decide +kernel
theorem dX8_door_30 : decode cX8_door 30 = .ok (.ifCond .le 5, 3) := by decide +kernel
theorem dX8_door_33 : decode cX8_door 33 = .ok (.iconst 0, 1) := by decide +kernel
theorem dX8_door_34 : decode cX8_door 34 = .ok (.ireturn, 1) := by decide +kernel
theorem dX8_door_35 : decode cX8_door 35 = .ok (.aload_n 0, 1) := by decide +kernel
theorem dX8_door_36 : decode cX8_door 36 = .ok (.invokevirtual 272, 3) := by decide +kernel
theorem dX8_door_39 : decode cX8_door 39 = .ok (.istore_n 3, 1) := by decide +kernel
theorem dX8_door_40 : decode cX8_door 40 = .ok (.iload_n 2, 1) := by decide +kernel
theorem dX8_door_41 : decode cX8_door 41 = .ok (.tableswitch 56 0 3 #[31, 31, 44, 50], 31) := by decide +kernel
theorem dX8_door_72 : decode cX8_door 72 = .ok (.aload_n 0, 1) := by decide +kernel
theorem dX8_door_73 : decode cX8_door 73 = .ok (.getfield 7, 3) := by decide +kernel
theorem dX8_door_76 : decode cX8_door 76 = .ok (.iconst 5, 1) := by decide +kernel
theorem dX8_door_77 : decode cX8_door 77 = .ok (.iconst 2, 1) := by decide +kernel
theorem dX8_door_78 : decode cX8_door 78 = .ok (.iload_n 1, 1) := by decide +kernel
theorem dX8_door_79 : decode cX8_door 79 = .ok (.imul, 1) := by decide +kernel
theorem dX8_door_80 : decode cX8_door 80 = .ok (.iadd, 1) := by decide +kernel
theorem dX8_door_81 : decode cX8_door 81 = .ok (.iload_n 2, 1) := by decide +kernel
theorem dX8_door_82 : decode cX8_door 82 = .ok (.iadd, 1) := by decide +kernel
theorem dX8_door_83 : decode cX8_door 83 = .ok (.iaload, 1) := by decide +kernel
theorem dX8_door_84 : decode cX8_door 84 = .ok (.ireturn, 1) := by decide +kernel
theorem dX8_door_85 : decode cX8_door 85 = .ok (.aload_n 0, 1) := by decide +kernel
theorem dX8_door_86 : decode cX8_door 86 = .ok (.iload_n 1, 1) := by decide +kernel
theorem dX8_door_87 : decode cX8_door 87 = .ok (.invokevirtual 191, 3) := by decide +kernel
theorem dX8_door_90 : decode cX8_door 90 = .ok (.ireturn, 1) := by decide +kernel
theorem dX8_door_91 : decode cX8_door 91 = .ok (.aload_n 0, 1) := by decide +kernel
theorem dX8_door_92 : decode cX8_door 92 = .ok (.iload_n 1, 1) := by decide +kernel
theorem dX8_door_93 : decode cX8_door 93 = .ok (.invokevirtual 352, 3) := by decide +kernel
theorem dX8_door_96 : decode cX8_door 96 = .ok (.ireturn, 1) := by decide +kernel
theorem dX8_door_97 : decode cX8_door 97 = .ok (.iload_n 3, 1) := by decide +kernel
theorem dX8_door_98 : decode cX8_door 98 = .ok (.ifCond .ge 7, 3) := by decide +kernel
theorem dX8_door_101 : decode cX8_door 101 = .ok (.iconst 0, 1) := by decide +kernel
theorem dX8_door_102 : decode cX8_door 102 = .ok (.goto 8, 3) := by decide +kernel
theorem dX8_door_105 : decode cX8_door 105 = .ok (.aload_n 0, 1) := by decide +kernel
theorem dX8_door_106 : decode cX8_door 106 = .ok (.iload_n 1, 1) := by decide +kernel
theorem dX8_door_107 : decode cX8_door 107 = .ok (.invokevirtual 355, 3) := by decide +kernel
theorem dX8_door_110 : decode cX8_door 110 = .ok (.ireturn, 1) := by decide +kernel
theorem dX8_row_0 : decode cX8_row 0 = .ok (.aload_n 0, 1) := by decide +kernel
theorem dX8_row_1 : decode cX8_row 1 = .ok (.iconst 0, 1) := by decide +kernel
theorem dX8_row_2 : decode cX8_row 2 = .ok (.putfield 84, 3) := by decide +kernel
theorem dX8_row_5 : decode cX8_row 5 = .ok (.aload_n 0, 1) := by decide +kernel
theorem dX8_row_6 : decode cX8_row 6 = .ok (.iload_n 1, 1) := by decide +kernel
theorem dX8_row_7 : decode cX8_row 7 = .ok (.invokevirtual 293, 3) := by decide +kernel
theorem dX8_row_10 : decode cX8_row 10 = .ok (.ifCond .eq 27, 3) := by decide +kernel
theorem dX8_row_13 : decode cX8_row 13 = .ok (.iload_n 2, 1) := by decide +kernel
theorem dX8_row_14 : decode cX8_row 14 = .ok (.iconst 0, 1) := by decide +kernel
theorem dX8_row_15 : decode cX8_row 15 = .ok (.aload_n 0, 1) := by decide +kernel
theorem dX8_row_16 : decode cX8_row 16 = .ok (.iload_n 1, 1) := by decide +kernel
theorem dX8_row_17 : decode cX8_row 17 = .ok (.invokevirtual 191, 3) := by decide +kernel
theorem dX8_row_20 : decode cX8_row 20 = .ok (.iconst 1, 1) := by decide +kernel
theorem dX8_row_21 : decode cX8_row 21 = .ok (.isub, 1) := by decide +kernel
theorem dX8_row_22 : decode cX8_row 22 = .ok (.invokestatic 88, 3) := by decide +kernel
theorem dX8_row_25 : decode cX8_row 25 = .ok (.ifCond .eq 12, 3) := by decide +kernel
theorem dX8_row_28 : decode cX8_row 28 = .ok (.aload_n 0, 1) := by decide +kernel
theorem dX8_row_29 : decode cX8_row 29 = .ok (.iload_n 1, 1) := by decide +kernel
theorem dX8_row_30 : decode cX8_row 30 = .ok (.iload_n 2, 1) := by decide +kernel
theorem dX8_row_31 : decode cX8_row 31 = .ok (.invokevirtual 205, 3) := by decide +kernel
theorem dX8_row_34 : decode cX8_row 34 = .ok (.goto 4, 3) := by decide +kernel
theorem dX8_row_37 : decode cX8_row 37 = .ok (.iconst (-1), 1) := by decide +kernel
theorem dX8_row_38 : decode cX8_row 38 = .ok (.ireturn, 1) := by decide +kernel
theorem dX8_itsNumber_0 : decode cX8_itsNumber 0 = .ok (.aload_n 0, 1) := by decide +kernel
theorem dX8_itsNumber_1 : decode cX8_itsNumber 1 = .ok (.iload_n 1, 1) := by decide +kernel
theorem dX8_itsNumber_2 : decode cX8_itsNumber 2 = .ok (.invokevirtual 195, 3) := by decide +kernel
theorem dX8_itsNumber_5 : decode cX8_itsNumber 5 = .ok (.ifCond .ne 18, 3) := by decide +kernel
theorem dX8_itsNumber_8 : decode cX8_itsNumber 8 = .ok (.iload_n 2, 1) := by decide +kernel
theorem dX8_itsNumber_9 : decode cX8_itsNumber 9 = .ok (.iconst 4, 1) := by decide +kernel
theorem dX8_itsNumber_10 : decode cX8_itsNumber 10 = .ok (.if_icmp .ne 11, 3) := by decide +kernel
theorem dX8_itsNumber_13 : decode cX8_itsNumber 13 = .ok (.aload_n 0, 1) := by decide +kernel
theorem dX8_itsNumber_14 : decode cX8_itsNumber 14 = .ok (.iload_n 1, 1) := by decide +kernel
theorem dX8_itsNumber_15 : decode cX8_itsNumber 15 = .ok (.invokevirtual 227, 3) := by decide +kernel
theorem dX8_itsNumber_18 : decode cX8_itsNumber 18 = .ok (.goto 4, 3) := by decide +kernel
theorem dX8_itsNumber_21 : decode cX8_itsNumber 21 = .ok (.iconst (-1), 1) := by decide +kernel
theorem dX8_itsNumber_22 : decode cX8_itsNumber 22 = .ok (.ireturn, 1) := by decide +kernel
theorem dX8_itsNumber_23 : decode cX8_itsNumber 23 = .ok (.aload_n 0, 1) := by decide +kernel
theorem dX8_itsNumber_24 : decode cX8_itsNumber 24 = .ok (.iload_n 1, 1) := by decide +kernel
theorem dX8_itsNumber_25 : decode cX8_itsNumber 25 = .ok (.iload_n 2, 1) := by decide +kernel
theorem dX8_itsNumber_26 : decode cX8_itsNumber 26 = .ok (.invokevirtual 92, 3) := by decide +kernel
theorem dX8_itsNumber_29 : decode cX8_itsNumber 29 = .ok (.ireturn, 1) := by decide +kernel
theorem dX8_truck_0 : decode cX8_truck 0 = .ok (.aload_n 0, 1) := by decide +kernel
theorem dX8_truck_1 : decode cX8_truck 1 = .ok (.aload_n 0, 1) := by decide +kernel
theorem dX8_truck_2 : decode cX8_truck 2 = .ok (.iload_n 1, 1) := by decide +kernel
theorem dX8_truck_3 : decode cX8_truck 3 = .ok (.invokevirtual 290, 3) := by decide +kernel
theorem dX8_truck_6 : decode cX8_truck 6 = .ok (.ifCond .eq 28, 3) := by decide +kernel
theorem dX8_truck_9 : decode cX8_truck 9 = .ok (.iload_n 2, 1) := by decide +kernel
theorem dX8_truck_10 : decode cX8_truck 10 = .ok (.iconst 0, 1) := by decide +kernel
theorem dX8_truck_11 : decode cX8_truck 11 = .ok (.bipush 12, 2) := by decide +kernel
theorem dX8_truck_13 : decode cX8_truck 13 = .ok (.invokestatic 88, 3) := by decide +kernel
theorem dX8_truck_16 : decode cX8_truck 16 = .ok (.ifCond .ne 14, 3) := by decide +kernel
theorem dX8_truck_19 : decode cX8_truck 19 = .ok (.iload_n 2, 1) := by decide +kernel
theorem dX8_truck_20 : decode cX8_truck 20 = .ok (.bipush 20, 2) := by decide +kernel
theorem dX8_truck_22 : decode cX8_truck 22 = .ok (.bipush 23, 2) := by decide +kernel
theorem dX8_truck_24 : decode cX8_truck 24 = .ok (.invokestatic 88, 3) := by decide +kernel
theorem dX8_truck_27 : decode cX8_truck 27 = .ok (.ifCond .eq 7, 3) := by decide +kernel
theorem dX8_truck_30 : decode cX8_truck 30 = .ok (.iconst 0, 1) := by decide +kernel
theorem dX8_truck_31 : decode cX8_truck 31 = .ok (.goto 4, 3) := by decide +kernel
theorem dX8_truck_34 : decode cX8_truck 34 = .ok (.iconst 1, 1) := by decide +kernel
theorem dX8_truck_35 : decode cX8_truck 35 = .ok (.putfield 84, 3) := by decide +kernel
theorem dX8_truck_38 : decode cX8_truck 38 = .ok (.aload_n 0, 1) := by decide +kernel
theorem dX8_truck_39 : decode cX8_truck 39 = .ok (.getfield 84, 3) := by decide +kernel
theorem dX8_truck_42 : decode cX8_truck 42 = .ok (.ifCond .le 5, 3) := by decide +kernel
theorem dX8_truck_45 : decode cX8_truck 45 = .ok (.iconst 0, 1) := by decide +kernel
theorem dX8_truck_46 : decode cX8_truck 46 = .ok (.ireturn, 1) := by decide +kernel
theorem dX8_truck_47 : decode cX8_truck 47 = .ok (.aload_n 0, 1) := by decide +kernel
theorem dX8_truck_48 : decode cX8_truck 48 = .ok (.invokevirtual 272, 3) := by decide +kernel
theorem dX8_truck_51 : decode cX8_truck 51 = .ok (.istore_n 3, 1) := by decide +kernel
theorem dX8_truck_52 : decode cX8_truck 52 = .ok (.iload_n 2, 1) := by decide +kernel
theorem dX8_truck_53 : decode cX8_truck 53 = .ok (.tableswitch 136 0 12 #[67, 67, 74, 74, 74, 74, 81, 88, 95, 102, 109, 116, 122], 67) := by decide +kernel
theorem dX8_truck_120 : decode cX8_truck 120 = .ok (.aload_n 0, 1) := by decide +kernel
theorem dX8_truck_121 : decode cX8_truck 121 = .ok (.iload_n 1, 1) := by decide +kernel
theorem dX8_truck_122 : decode cX8_truck 122 = .ok (.iload_n 2, 1) := by decide +kernel
theorem dX8_truck_123 : decode cX8_truck 123 = .ok (.invokevirtual 92, 3) := by decide +kernel
theorem dX8_truck_126 : decode cX8_truck 126 = .ok (.ireturn, 1) := by decide +kernel
theorem dX8_truck_127 : decode cX8_truck 127 = .ok (.aload_n 0, 1) := by decide +kernel
theorem dX8_truck_128 : decode cX8_truck 128 = .ok (.iload_n 1, 1) := by decide +kernel
theorem dX8_truck_129 : decode cX8_truck 129 = .ok (.iload_n 2, 1) := by decide +kernel
theorem dX8_truck_130 : decode cX8_truck 130 = .ok (.invokevirtual 358, 3) := by decide +kernel
theorem dX8_truck_133 : decode cX8_truck 133 = .ok (.ireturn, 1) := by decide +kernel
theorem dX8_truck_134 : decode cX8_truck 134 = .ok (.aload_n 0, 1) := by decide +kernel
theorem dX8_truck_135 : decode cX8_truck 135 = .ok (.getfield 57, 3) := by decide +kernel
theorem dX8_truck_138 : decode cX8_truck 138 = .ok (.iload_n 1, 1) := by decide +kernel
theorem dX8_truck_139 : decode cX8_truck 139 = .ok (.iaload, 1) := by decide +kernel
theorem dX8_truck_140 : decode cX8_truck 140 = .ok (.ireturn, 1) := by decide +kernel
theorem dX8_truck_141 : decode cX8_truck 141 = .ok (.aload_n 0, 1) := by decide +kernel
theorem dX8_truck_142 : decode cX8_truck 142 = .ok (.getfield 60, 3) := by decide +kernel
theorem dX8_truck_145 : decode cX8_truck 145 = .ok (.iload_n 1, 1) := by decide +kernel
theorem dX8_truck_146 : decode cX8_truck 146 = .ok (.iaload, 1) := by decide +kernel
theorem dX8_truck_147 : decode cX8_truck 147 = .ok (.ireturn, 1) := by decide +kernel
theorem dX8_truck_148 : decode cX8_truck 148 = .ok (.aload_n 0, 1) := by decide +kernel
theorem dX8_truck_149 : decode cX8_truck 149 = .ok (.getfield 48, 3) := by decide +kernel
theorem dX8_truck_152 : decode cX8_truck 152 = .ok (.iload_n 1, 1) := by decide +kernel
theorem dX8_truck_153 : decode cX8_truck 153 = .ok (.iaload, 1) := by decide +kernel
theorem dX8_truck_154 : decode cX8_truck 154 = .ok (.ireturn, 1) := by decide +kernel
theorem dX8_truck_155 : decode cX8_truck 155 = .ok (.aload_n 0, 1) := by decide +kernel
theorem dX8_truck_156 : decode cX8_truck 156 = .ok (.getfield 51, 3) := by decide +kernel
theorem dX8_truck_159 : decode cX8_truck 159 = .ok (.iload_n 1, 1) := by decide +kernel
theorem dX8_truck_160 : decode cX8_truck 160 = .ok (.iaload, 1) := by decide +kernel
theorem dX8_truck_161 : decode cX8_truck 161 = .ok (.ireturn, 1) := by decide +kernel
theorem dX8_truck_162 : decode cX8_truck 162 = .ok (.aload_n 0, 1) := by decide +kernel
theorem dX8_truck_163 : decode cX8_truck 163 = .ok (.getfield 54, 3) := by decide +kernel
theorem dX8_truck_166 : decode cX8_truck 166 = .ok (.iload_n 1, 1) := by decide +kernel
theorem dX8_truck_167 : decode cX8_truck 167 = .ok (.iaload, 1) := by decide +kernel
theorem dX8_truck_168 : decode cX8_truck 168 = .ok (.ireturn, 1) := by decide +kernel
theorem dX8_truck_169 : decode cX8_truck 169 = .ok (.aload_n 0, 1) := by decide +kernel
theorem dX8_truck_170 : decode cX8_truck 170 = .ok (.iload_n 1, 1) := by decide +kernel
theorem dX8_truck_171 : decode cX8_truck 171 = .ok (.invokevirtual 248, 3) := by decide +kernel
theorem dX8_truck_174 : decode cX8_truck 174 = .ok (.ireturn, 1) := by decide +kernel
theorem dX8_truck_175 : decode cX8_truck 175 = .ok (.aload_n 0, 1) := by decide +kernel
theorem dX8_truck_176 : decode cX8_truck 176 = .ok (.iload_n 1, 1) := by decide +kernel
theorem dX8_truck_177 : decode cX8_truck 177 = .ok (.invokevirtual 278, 3) := by decide +kernel
theorem dX8_truck_180 : decode cX8_truck 180 = .ok (.ifCond .eq 7, 3) := by decide +kernel
theorem dX8_truck_183 : decode cX8_truck 183 = .ok (.iconst 1, 1) := by decide +kernel
theorem dX8_truck_184 : decode cX8_truck 184 = .ok (.goto 4, 3) := by decide +kernel
theorem dX8_truck_187 : decode cX8_truck 187 = .ok (.iconst 0, 1) := by decide +kernel
theorem dX8_truck_188 : decode cX8_truck 188 = .ok (.ireturn, 1) := by decide +kernel
theorem dX8_truck_189 : decode cX8_truck 189 = .ok (.aload_n 0, 1) := by decide +kernel
theorem dX8_truck_190 : decode cX8_truck 190 = .ok (.iload_n 1, 1) := by decide +kernel
theorem dX8_truck_191 : decode cX8_truck 191 = .ok (.invokevirtual 195, 3) := by decide +kernel
theorem dX8_truck_194 : decode cX8_truck 194 = .ok (.ifCond .ne 7, 3) := by decide +kernel
theorem dX8_truck_197 : decode cX8_truck 197 = .ok (.iload_n 3, 1) := by decide +kernel
theorem dX8_truck_198 : decode cX8_truck 198 = .ok (.ifCond .ge 7, 3) := by decide +kernel
theorem dX8_truck_201 : decode cX8_truck 201 = .ok (.iconst 0, 1) := by decide +kernel
theorem dX8_truck_202 : decode cX8_truck 202 = .ok (.goto 12, 3) := by decide +kernel
theorem dX8_truck_205 : decode cX8_truck 205 = .ok (.aload_n 0, 1) := by decide +kernel
theorem dX8_truck_206 : decode cX8_truck 206 = .ok (.iload_n 1, 1) := by decide +kernel
theorem dX8_truck_207 : decode cX8_truck 207 = .ok (.iload_n 2, 1) := by decide +kernel
theorem dX8_truck_208 : decode cX8_truck 208 = .ok (.bipush 18, 2) := by decide +kernel
theorem dX8_truck_210 : decode cX8_truck 210 = .ok (.isub, 1) := by decide +kernel
theorem dX8_truck_211 : decode cX8_truck 211 = .ok (.invokevirtual 92, 3) := by decide +kernel
theorem dX8_truck_214 : decode cX8_truck 214 = .ok (.ireturn, 1) := by decide +kernel
theorem dX8_carton_0 : decode cX8_carton 0 = .ok (.aload_n 0, 1) := by decide +kernel
theorem dX8_carton_1 : decode cX8_carton 1 = .ok (.invokevirtual 272, 3) := by decide +kernel
theorem dX8_carton_4 : decode cX8_carton 4 = .ok (.istore_n 3, 1) := by decide +kernel
theorem dX8_carton_5 : decode cX8_carton 5 = .ok (.aload_n 0, 1) := by decide +kernel
theorem dX8_carton_6 : decode cX8_carton 6 = .ok (.iload_n 1, 1) := by decide +kernel
theorem dX8_carton_7 : decode cX8_carton 7 = .ok (.iconst 0, 1) := by decide +kernel
theorem dX8_carton_8 : decode cX8_carton 8 = .ok (.aload_n 0, 1) := by decide +kernel
theorem dX8_carton_9 : decode cX8_carton 9 = .ok (.getfield 202, 3) := by decide +kernel
theorem dX8_carton_12 : decode cX8_carton 12 = .ok (.iconst 1, 1) := by decide +kernel
theorem dX8_carton_13 : decode cX8_carton 13 = .ok (.isub, 1) := by decide +kernel
theorem dX8_carton_14 : decode cX8_carton 14 = .ok (.invokestatic 88, 3) := by decide +kernel
theorem dX8_carton_17 : decode cX8_carton 17 = .ok (.ifCond .eq 16, 3) := by decide +kernel
theorem dX8_carton_20 : decode cX8_carton 20 = .ok (.iload_n 2, 1) := by decide +kernel
theorem dX8_carton_21 : decode cX8_carton 21 = .ok (.iconst 0, 1) := by decide +kernel
theorem dX8_carton_22 : decode cX8_carton 22 = .ok (.iconst 5, 1) := by decide +kernel
theorem dX8_carton_23 : decode cX8_carton 23 = .ok (.invokestatic 88, 3) := by decide +kernel
theorem dX8_carton_26 : decode cX8_carton 26 = .ok (.ifCond .eq 7, 3) := by decide +kernel
theorem dX8_carton_29 : decode cX8_carton 29 = .ok (.iconst 0, 1) := by decide +kernel
theorem dX8_carton_30 : decode cX8_carton 30 = .ok (.goto 4, 3) := by decide +kernel
theorem dX8_carton_33 : decode cX8_carton 33 = .ok (.iconst 1, 1) := by decide +kernel
theorem dX8_carton_34 : decode cX8_carton 34 = .ok (.putfield 84, 3) := by decide +kernel
theorem dX8_carton_37 : decode cX8_carton 37 = .ok (.aload_n 0, 1) := by decide +kernel
theorem dX8_carton_38 : decode cX8_carton 38 = .ok (.getfield 84, 3) := by decide +kernel
theorem dX8_carton_41 : decode cX8_carton 41 = .ok (.ifCond .le 5, 3) := by decide +kernel
theorem dX8_carton_44 : decode cX8_carton 44 = .ok (.iconst 0, 1) := by decide +kernel
theorem dX8_carton_45 : decode cX8_carton 45 = .ok (.ireturn, 1) := by decide +kernel
theorem dX8_carton_46 : decode cX8_carton 46 = .ok (.iload_n 2, 1) := by decide +kernel
theorem dX8_carton_47 : decode cX8_carton 47 = .ok (.tableswitch 68 0 4 #[33, 40, 47, 54, 61], 33) := by decide +kernel
theorem dX8_carton_80 : decode cX8_carton 80 = .ok (.aload_n 0, 1) := by decide +kernel
theorem dX8_carton_81 : decode cX8_carton 81 = .ok (.getfield 30, 3) := by decide +kernel
theorem dX8_carton_84 : decode cX8_carton 84 = .ok (.iload_n 1, 1) := by decide +kernel
theorem dX8_carton_85 : decode cX8_carton 85 = .ok (.iaload, 1) := by decide +kernel
theorem dX8_carton_86 : decode cX8_carton 86 = .ok (.ireturn, 1) := by decide +kernel
theorem dX8_carton_87 : decode cX8_carton 87 = .ok (.aload_n 0, 1) := by decide +kernel
theorem dX8_carton_88 : decode cX8_carton 88 = .ok (.getfield 33, 3) := by decide +kernel
theorem dX8_carton_91 : decode cX8_carton 91 = .ok (.iload_n 1, 1) := by decide +kernel
theorem dX8_carton_92 : decode cX8_carton 92 = .ok (.iaload, 1) := by decide +kernel
theorem dX8_carton_93 : decode cX8_carton 93 = .ok (.ireturn, 1) := by decide +kernel
theorem dX8_carton_94 : decode cX8_carton 94 = .ok (.aload_n 0, 1) := by decide +kernel
theorem dX8_carton_95 : decode cX8_carton 95 = .ok (.getfield 36, 3) := by decide +kernel
theorem dX8_carton_98 : decode cX8_carton 98 = .ok (.iload_n 1, 1) := by decide +kernel
theorem dX8_carton_99 : decode cX8_carton 99 = .ok (.iaload, 1) := by decide +kernel
theorem dX8_carton_100 : decode cX8_carton 100 = .ok (.ireturn, 1) := by decide +kernel
theorem dX8_carton_101 : decode cX8_carton 101 = .ok (.aload_n 0, 1) := by decide +kernel
theorem dX8_carton_102 : decode cX8_carton 102 = .ok (.getfield 39, 3) := by decide +kernel
theorem dX8_carton_105 : decode cX8_carton 105 = .ok (.iload_n 1, 1) := by decide +kernel
theorem dX8_carton_106 : decode cX8_carton 106 = .ok (.iaload, 1) := by decide +kernel
theorem dX8_carton_107 : decode cX8_carton 107 = .ok (.ireturn, 1) := by decide +kernel
theorem dX8_carton_108 : decode cX8_carton 108 = .ok (.aload_n 0, 1) := by decide +kernel
theorem dX8_carton_109 : decode cX8_carton 109 = .ok (.getfield 42, 3) := by decide +kernel
theorem dX8_carton_112 : decode cX8_carton 112 = .ok (.iload_n 1, 1) := by decide +kernel
theorem dX8_carton_113 : decode cX8_carton 113 = .ok (.iaload, 1) := by decide +kernel
theorem dX8_carton_114 : decode cX8_carton 114 = .ok (.ireturn, 1) := by decide +kernel
theorem dX8_carton_115 : decode cX8_carton 115 = .ok (.iload_n 3, 1) := by decide +kernel
theorem dX8_carton_116 : decode cX8_carton 116 = .ok (.ifCond .ge 7, 3) := by decide +kernel
theorem dX8_carton_119 : decode cX8_carton 119 = .ok (.iconst (-1), 1) := by decide +kernel
theorem dX8_carton_120 : decode cX8_carton 120 = .ok (.goto 9, 3) := by decide +kernel
theorem dX8_carton_123 : decode cX8_carton 123 = .ok (.aload_n 0, 1) := by decide +kernel
theorem dX8_carton_124 : decode cX8_carton 124 = .ok (.getfield 45, 3) := by decide +kernel
theorem dX8_carton_127 : decode cX8_carton 127 = .ok (.iload_n 1, 1) := by decide +kernel
theorem dX8_carton_128 : decode cX8_carton 128 = .ok (.iaload, 1) := by decide +kernel
theorem dX8_carton_129 : decode cX8_carton 129 = .ok (.ireturn, 1) := by decide +kernel
theorem dX8_staged_0 : decode cX8_staged 0 = .ok (.aload_n 0, 1) := by decide +kernel
theorem dX8_staged_1 : decode cX8_staged 1 = .ok (.iconst 0, 1) := by decide +kernel
theorem dX8_staged_2 : decode cX8_staged 2 = .ok (.putfield 84, 3) := by decide +kernel
theorem dX8_staged_5 : decode cX8_staged 5 = .ok (.iload_n 1, 1) := by decide +kernel
theorem dX8_staged_6 : decode cX8_staged 6 = .ok (.iconst 0, 1) := by decide +kernel
theorem dX8_staged_7 : decode cX8_staged 7 = .ok (.sipush 199, 3) := by decide +kernel
theorem dX8_staged_10 : decode cX8_staged 10 = .ok (.invokestatic 88, 3) := by decide +kernel
theorem dX8_staged_13 : decode cX8_staged 13 = .ok (.ifCond .eq 12, 3) := by decide +kernel
theorem dX8_staged_16 : decode cX8_staged 16 = .ok (.iload_n 2, 1) := by decide +kernel
theorem dX8_staged_17 : decode cX8_staged 17 = .ok (.iconst (-1), 1) := by decide +kernel
theorem dX8_staged_18 : decode cX8_staged 18 = .ok (.iconst 3, 1) := by decide +kernel
theorem dX8_staged_19 : decode cX8_staged 19 = .ok (.invokestatic 88, 3) := by decide +kernel
theorem dX8_staged_22 : decode cX8_staged 22 = .ok (.ifCond .ne 5, 3) := by decide +kernel
theorem dX8_staged_25 : decode cX8_staged 25 = .ok (.iconst (-1), 1) := by decide +kernel
theorem dX8_staged_26 : decode cX8_staged 26 = .ok (.ireturn, 1) := by decide +kernel
theorem dX8_staged_27 : decode cX8_staged 27 = .ok (.iconst 0, 1) := by decide +kernel
theorem dX8_staged_28 : decode cX8_staged 28 = .ok (.istore_n 3, 1) := by decide +kernel
theorem dX8_staged_29 : decode cX8_staged 29 = .ok (.aload_n 0, 1) := by decide +kernel
theorem dX8_staged_30 : decode cX8_staged 30 = .ok (.invokevirtual 272, 3) := by decide +kernel
theorem dX8_staged_33 : decode cX8_staged 33 = .ok (.istore 4, 2) := by decide +kernel
theorem dX8_staged_35 : decode cX8_staged 35 = .ok (.iconst 0, 1) := by decide +kernel
theorem dX8_staged_36 : decode cX8_staged 36 = .ok (.istore 5, 2) := by decide +kernel
theorem dX8_staged_38 : decode cX8_staged 38 = .ok (.iload 5, 2) := by decide +kernel
theorem dX8_staged_40 : decode cX8_staged 40 = .ok (.aload_n 0, 1) := by decide +kernel
theorem dX8_staged_41 : decode cX8_staged 41 = .ok (.getfield 202, 3) := by decide +kernel
theorem dX8_staged_44 : decode cX8_staged 44 = .ok (.if_icmp .ge 94, 3) := by decide +kernel
theorem dX8_staged_47 : decode cX8_staged 47 = .ok (.iload 4, 2) := by decide +kernel
theorem dX8_staged_49 : decode cX8_staged 49 = .ok (.ifCond .lt 89, 3) := by decide +kernel
theorem dX8_staged_52 : decode cX8_staged 52 = .ok (.aload_n 0, 1) := by decide +kernel
theorem dX8_staged_53 : decode cX8_staged 53 = .ok (.getfield 36, 3) := by decide +kernel
theorem dX8_staged_56 : decode cX8_staged 56 = .ok (.iload 5, 2) := by decide +kernel
theorem dX8_staged_58 : decode cX8_staged 58 = .ok (.iaload, 1) := by decide +kernel
theorem dX8_staged_59 : decode cX8_staged 59 = .ok (.iconst (-1), 1) := by decide +kernel
theorem dX8_staged_60 : decode cX8_staged 60 = .ok (.if_icmp .eq 40, 3) := by decide +kernel
theorem dX8_staged_63 : decode cX8_staged 63 = .ok (.aload_n 0, 1) := by decide +kernel
theorem dX8_staged_64 : decode cX8_staged 64 = .ok (.getfield 36, 3) := by decide +kernel
theorem dX8_staged_67 : decode cX8_staged 67 = .ok (.iload 5, 2) := by decide +kernel
theorem dX8_staged_69 : decode cX8_staged 69 = .ok (.iaload, 1) := by decide +kernel
theorem dX8_staged_70 : decode cX8_staged 70 = .ok (.iload_n 1, 1) := by decide +kernel
theorem dX8_staged_71 : decode cX8_staged 71 = .ok (.if_icmp .gt 29, 3) := by decide +kernel
theorem dX8_staged_74 : decode cX8_staged 74 = .ok (.aload_n 0, 1) := by decide +kernel
theorem dX8_staged_75 : decode cX8_staged 75 = .ok (.getfield 39, 3) := by decide +kernel
theorem dX8_staged_78 : decode cX8_staged 78 = .ok (.iload 5, 2) := by decide +kernel
theorem dX8_staged_80 : decode cX8_staged 80 = .ok (.iaload, 1) := by decide +kernel
theorem dX8_staged_81 : decode cX8_staged 81 = .ok (.iconst (-1), 1) := by decide +kernel
theorem dX8_staged_82 : decode cX8_staged 82 = .ok (.if_icmp .eq 14, 3) := by decide +kernel
theorem dX8_staged_85 : decode cX8_staged 85 = .ok (.aload_n 0, 1) := by decide +kernel
theorem dX8_staged_86 : decode cX8_staged 86 = .ok (.getfield 39, 3) := by decide +kernel
theorem dX8_staged_89 : decode cX8_staged 89 = .ok (.iload 5, 2) := by decide +kernel
theorem dX8_staged_91 : decode cX8_staged 91 = .ok (.iaload, 1) := by decide +kernel
theorem dX8_staged_92 : decode cX8_staged 92 = .ok (.iload_n 1, 1) := by decide +kernel
theorem dX8_staged_93 : decode cX8_staged 93 = .ok (.if_icmp .le 7, 3) := by decide +kernel
theorem dX8_staged_96 : decode cX8_staged 96 = .ok (.iconst 1, 1) := by decide +kernel
theorem dX8_staged_97 : decode cX8_staged 97 = .ok (.goto 4, 3) := by decide +kernel
theorem dX8_staged_100 : decode cX8_staged 100 = .ok (.iconst 0, 1) := by decide +kernel
theorem dX8_staged_101 : decode cX8_staged 101 = .ok (.istore 6, 2) := by decide +kernel
theorem dX8_staged_103 : decode cX8_staged 103 = .ok (.iload_n 3, 1) := by decide +kernel
theorem dX8_staged_104 : decode cX8_staged 104 = .ok (.iload 6, 2) := by decide +kernel
theorem dX8_staged_106 : decode cX8_staged 106 = .ok (.ifCond .eq 23, 3) := by decide +kernel
theorem dX8_staged_109 : decode cX8_staged 109 = .ok (.iload_n 2, 1) := by decide +kernel
theorem dX8_staged_110 : decode cX8_staged 110 = .ok (.iconst (-1), 1) := by decide +kernel
theorem dX8_staged_111 : decode cX8_staged 111 = .ok (.if_icmp .eq 14, 3) := by decide +kernel
theorem dX8_staged_114 : decode cX8_staged 114 = .ok (.aload_n 0, 1) := by decide +kernel
theorem dX8_staged_115 : decode cX8_staged 115 = .ok (.getfield 33, 3) := by decide +kernel
theorem dX8_staged_118 : decode cX8_staged 118 = .ok (.iload 5, 2) := by decide +kernel
theorem dX8_staged_120 : decode cX8_staged 120 = .ok (.iaload, 1) := by decide +kernel
theorem dX8_staged_121 : decode cX8_staged 121 = .ok (.iload_n 2, 1) := by decide +kernel
theorem dX8_staged_122 : decode cX8_staged 122 = .ok (.if_icmp .ne 7, 3) := by decide +kernel
theorem dX8_staged_125 : decode cX8_staged 125 = .ok (.iconst 1, 1) := by decide +kernel
theorem dX8_staged_126 : decode cX8_staged 126 = .ok (.goto 4, 3) := by decide +kernel
theorem dX8_staged_129 : decode cX8_staged 129 = .ok (.iconst 0, 1) := by decide +kernel
theorem dX8_staged_130 : decode cX8_staged 130 = .ok (.iadd, 1) := by decide +kernel
theorem dX8_staged_131 : decode cX8_staged 131 = .ok (.istore_n 3, 1) := by decide +kernel
theorem dX8_staged_132 : decode cX8_staged 132 = .ok (.iinc 5 1, 3) := by decide +kernel
theorem dX8_staged_135 : decode cX8_staged 135 = .ok (.goto (-97), 3) := by decide +kernel
theorem dX8_staged_138 : decode cX8_staged 138 = .ok (.iload_n 3, 1) := by decide +kernel
theorem dX8_staged_139 : decode cX8_staged 139 = .ok (.ireturn, 1) := by decide +kernel
theorem dX8_at_0 : decode cX8_at 0 = .ok (.aload_n 0, 1) := by decide +kernel
theorem dX8_at_1 : decode cX8_at 1 = .ok (.iconst 0, 1) := by decide +kernel
theorem dX8_at_2 : decode cX8_at 2 = .ok (.putfield 84, 3) := by decide +kernel
theorem dX8_at_5 : decode cX8_at 5 = .ok (.aload_n 0, 1) := by decide +kernel
theorem dX8_at_6 : decode cX8_at 6 = .ok (.iload_n 1, 1) := by decide +kernel
theorem dX8_at_7 : decode cX8_at 7 = .ok (.invokevirtual 293, 3) := by decide +kernel
theorem dX8_at_10 : decode cX8_at 10 = .ok (.ifCond .eq 14, 3) := by decide +kernel
theorem dX8_at_13 : decode cX8_at 13 = .ok (.iload_n 2, 1) := by decide +kernel
theorem dX8_at_14 : decode cX8_at 14 = .ok (.iconst 0, 1) := by decide +kernel
theorem dX8_at_15 : decode cX8_at 15 = .ok (.sipush 199, 3) := by decide +kernel
theorem dX8_at_18 : decode cX8_at 18 = .ok (.invokestatic 88, 3) := by decide +kernel
theorem dX8_at_21 : decode cX8_at 21 = .ok (.ifCond .ne 5, 3) := by decide +kernel
theorem dX8_at_24 : decode cX8_at 24 = .ok (.iconst (-1), 1) := by decide +kernel
theorem dX8_at_25 : decode cX8_at 25 = .ok (.ireturn, 1) := by decide +kernel
theorem dX8_at_26 : decode cX8_at 26 = .ok (.aload_n 0, 1) := by decide +kernel
theorem dX8_at_27 : decode cX8_at 27 = .ok (.invokevirtual 272, 3) := by decide +kernel
theorem dX8_at_30 : decode cX8_at 30 = .ok (.istore_n 3, 1) := by decide +kernel
theorem dX8_at_31 : decode cX8_at 31 = .ok (.iconst 0, 1) := by decide +kernel
theorem dX8_at_32 : decode cX8_at 32 = .ok (.istore 4, 2) := by decide +kernel
theorem dX8_at_34 : decode cX8_at 34 = .ok (.iload 4, 2) := by decide +kernel
theorem dX8_at_36 : decode cX8_at 36 = .ok (.aload_n 0, 1) := by decide +kernel
theorem dX8_at_37 : decode cX8_at 37 = .ok (.iload_n 1, 1) := by decide +kernel
theorem dX8_at_38 : decode cX8_at 38 = .ok (.invokevirtual 191, 3) := by decide +kernel
theorem dX8_at_41 : decode cX8_at 41 = .ok (.if_icmp .ge 69, 3) := by decide +kernel
theorem dX8_at_44 : decode cX8_at 44 = .ok (.iload_n 3, 1) := by decide +kernel
theorem dX8_at_45 : decode cX8_at 45 = .ok (.ifCond .lt 65, 3) := by decide +kernel
theorem dX8_at_48 : decode cX8_at 48 = .ok (.aload_n 0, 1) := by decide +kernel
theorem dX8_at_49 : decode cX8_at 49 = .ok (.iload_n 1, 1) := by decide +kernel
theorem dX8_at_50 : decode cX8_at 50 = .ok (.iload 4, 2) := by decide +kernel
theorem dX8_at_52 : decode cX8_at 52 = .ok (.invokevirtual 205, 3) := by decide +kernel
theorem dX8_at_55 : decode cX8_at 55 = .ok (.istore 5, 2) := by decide +kernel
theorem dX8_at_57 : decode cX8_at 57 = .ok (.aload_n 0, 1) := by decide +kernel
theorem dX8_at_58 : decode cX8_at 58 = .ok (.getfield 48, 3) := by decide +kernel
theorem dX8_at_61 : decode cX8_at 61 = .ok (.iload 5, 2) := by decide +kernel
theorem dX8_at_63 : decode cX8_at 63 = .ok (.iaload, 1) := by decide +kernel
theorem dX8_at_64 : decode cX8_at 64 = .ok (.iconst (-1), 1) := by decide +kernel
theorem dX8_at_65 : decode cX8_at 65 = .ok (.if_icmp .eq 39, 3) := by decide +kernel
theorem dX8_at_68 : decode cX8_at 68 = .ok (.aload_n 0, 1) := by decide +kernel
theorem dX8_at_69 : decode cX8_at 69 = .ok (.getfield 48, 3) := by decide +kernel
theorem dX8_at_72 : decode cX8_at 72 = .ok (.iload 5, 2) := by decide +kernel
theorem dX8_at_74 : decode cX8_at 74 = .ok (.iaload, 1) := by decide +kernel
theorem dX8_at_75 : decode cX8_at 75 = .ok (.iload_n 2, 1) := by decide +kernel
theorem dX8_at_76 : decode cX8_at 76 = .ok (.if_icmp .gt 28, 3) := by decide +kernel
theorem dX8_at_79 : decode cX8_at 79 = .ok (.aload_n 0, 1) := by decide +kernel
theorem dX8_at_80 : decode cX8_at 80 = .ok (.getfield 51, 3) := by decide +kernel
theorem dX8_at_83 : decode cX8_at 83 = .ok (.iload 5, 2) := by decide +kernel
theorem dX8_at_85 : decode cX8_at 85 = .ok (.iaload, 1) := by decide +kernel
theorem dX8_at_86 : decode cX8_at 86 = .ok (.iconst (-1), 1) := by decide +kernel
theorem dX8_at_87 : decode cX8_at 87 = .ok (.if_icmp .eq 14, 3) := by decide +kernel
theorem dX8_at_90 : decode cX8_at 90 = .ok (.aload_n 0, 1) := by decide +kernel
theorem dX8_at_91 : decode cX8_at 91 = .ok (.getfield 51, 3) := by decide +kernel
theorem dX8_at_94 : decode cX8_at 94 = .ok (.iload 5, 2) := by decide +kernel
theorem dX8_at_96 : decode cX8_at 96 = .ok (.iaload, 1) := by decide +kernel
theorem dX8_at_97 : decode cX8_at 97 = .ok (.iload_n 2, 1) := by decide +kernel
theorem dX8_at_98 : decode cX8_at 98 = .ok (.if_icmp .lt 6, 3) := by decide +kernel
theorem dX8_at_101 : decode cX8_at 101 = .ok (.iload 5, 2) := by decide +kernel
theorem dX8_at_103 : decode cX8_at 103 = .ok (.ireturn, 1) := by decide +kernel
theorem dX8_at_104 : decode cX8_at 104 = .ok (.iinc 4 1, 3) := by decide +kernel
theorem dX8_at_107 : decode cX8_at 107 = .ok (.goto (-73), 3) := by decide +kernel
theorem dX8_at_110 : decode cX8_at 110 = .ok (.iconst (-1), 1) := by decide +kernel
theorem dX8_at_111 : decode cX8_at 111 = .ok (.ireturn, 1) := by decide +kernel
theorem dX8_travel_0 : decode cX8_travel 0 = .ok (.aload_n 0, 1) := by decide +kernel
theorem dX8_travel_1 : decode cX8_travel 1 = .ok (.iconst 0, 1) := by decide +kernel
theorem dX8_travel_2 : decode cX8_travel 2 = .ok (.putfield 84, 3) := by decide +kernel
theorem dX8_travel_5 : decode cX8_travel 5 = .ok (.aload_n 0, 1) := by decide +kernel
theorem dX8_travel_6 : decode cX8_travel 6 = .ok (.iload_n 1, 1) := by decide +kernel
theorem dX8_travel_7 : decode cX8_travel 7 = .ok (.invokevirtual 293, 3) := by decide +kernel
theorem dX8_travel_10 : decode cX8_travel 10 = .ok (.ifCond .eq 20, 3) := by decide +kernel
theorem dX8_travel_13 : decode cX8_travel 13 = .ok (.aload_n 0, 1) := by decide +kernel
theorem dX8_travel_14 : decode cX8_travel 14 = .ok (.iload_n 2, 1) := by decide +kernel
theorem dX8_travel_15 : decode cX8_travel 15 = .ok (.invokevirtual 293, 3) := by decide +kernel
theorem dX8_travel_18 : decode cX8_travel 18 = .ok (.ifCond .eq 12, 3) := by decide +kernel
theorem dX8_travel_21 : decode cX8_travel 21 = .ok (.aload_n 0, 1) := by decide +kernel
theorem dX8_travel_22 : decode cX8_travel 22 = .ok (.iload_n 1, 1) := by decide +kernel
theorem dX8_travel_23 : decode cX8_travel 23 = .ok (.iload_n 2, 1) := by decide +kernel
theorem dX8_travel_24 : decode cX8_travel 24 = .ok (.invokevirtual 211, 3) := by decide +kernel
theorem dX8_travel_27 : decode cX8_travel 27 = .ok (.goto 4, 3) := by decide +kernel
theorem dX8_travel_30 : decode cX8_travel 30 = .ok (.iconst (-1), 1) := by decide +kernel
theorem dX8_travel_31 : decode cX8_travel 31 = .ok (.ireturn, 1) := by decide +kernel
theorem dX8_would_0 : decode cX8_would 0 = .ok (.aload_n 0, 1) := by decide +kernel
theorem dX8_would_1 : decode cX8_would 1 = .ok (.iconst 0, 1) := by decide +kernel
theorem dX8_would_2 : decode cX8_would 2 = .ok (.putfield 84, 3) := by decide +kernel
theorem dX8_would_5 : decode cX8_would 5 = .ok (.aload_n 0, 1) := by decide +kernel
theorem dX8_would_6 : decode cX8_would 6 = .ok (.invokevirtual 318, 3) := by decide +kernel
theorem dX8_would_9 : decode cX8_would 9 = .ok (.aload_n 0, 1) := by decide +kernel
theorem dX8_would_10 : decode cX8_would 10 = .ok (.iload_n 1, 1) := by decide +kernel
theorem dX8_would_11 : decode cX8_would 11 = .ok (.iload_n 2, 1) := by decide +kernel
theorem dX8_would_12 : decode cX8_would 12 = .ok (.iload_n 3, 1) := by decide +kernel
theorem dX8_would_13 : decode cX8_would 13 = .ok (.invokevirtual 321, 3) := by decide +kernel
theorem dX8_would_16 : decode cX8_would 16 = .ok (.istore 4, 2) := by decide +kernel
theorem dX8_would_18 : decode cX8_would 18 = .ok (.iload 4, 2) := by decide +kernel
theorem dX8_would_20 : decode cX8_would 20 = .ok (.ifCond .eq 6, 3) := by decide +kernel
theorem dX8_would_23 : decode cX8_would 23 = .ok (.iload 4, 2) := by decide +kernel
theorem dX8_would_25 : decode cX8_would 25 = .ok (.ireturn, 1) := by decide +kernel
theorem dX8_would_26 : decode cX8_would 26 = .ok (.aload_n 0, 1) := by decide +kernel
theorem dX8_would_27 : decode cX8_would 27 = .ok (.invokevirtual 272, 3) := by decide +kernel
theorem dX8_would_30 : decode cX8_would 30 = .ok (.istore 5, 2) := by decide +kernel
theorem dX8_would_32 : decode cX8_would 32 = .ok (.aload_n 0, 1) := by decide +kernel
theorem dX8_would_33 : decode cX8_would 33 = .ok (.invokevirtual 312, 3) := by decide +kernel
theorem dX8_would_36 : decode cX8_would 36 = .ok (.iload 5, 2) := by decide +kernel
theorem dX8_would_38 : decode cX8_would 38 = .ok (.ireturn, 1) := by decide +kernel
theorem dX8_delayed_0 : decode cX8_delayed 0 = .ok (.aload_n 0, 1) := by decide +kernel
theorem dX8_delayed_1 : decode cX8_delayed 1 = .ok (.iconst 0, 1) := by decide +kernel
theorem dX8_delayed_2 : decode cX8_delayed 2 = .ok (.putfield 84, 3) := by decide +kernel
theorem dX8_delayed_5 : decode cX8_delayed 5 = .ok (.aload_n 0, 1) := by decide +kernel
theorem dX8_delayed_6 : decode cX8_delayed 6 = .ok (.iload_n 1, 1) := by decide +kernel
theorem dX8_delayed_7 : decode cX8_delayed 7 = .ok (.invokevirtual 290, 3) := by decide +kernel
theorem dX8_delayed_10 : decode cX8_delayed 10 = .ok (.ifCond .eq 26, 3) := by decide +kernel
theorem dX8_delayed_13 : decode cX8_delayed 13 = .ok (.iload_n 2, 1) := by decide +kernel
theorem dX8_delayed_14 : decode cX8_delayed 14 = .ok (.iconst 1, 1) := by decide +kernel
theorem dX8_delayed_15 : decode cX8_delayed 15 = .ok (.bipush 99, 2) := by decide +kernel
theorem dX8_delayed_17 : decode cX8_delayed 17 = .ok (.invokestatic 88, 3) := by decide +kernel
theorem dX8_delayed_20 : decode cX8_delayed 20 = .ok (.ifCond .eq 16, 3) := by decide +kernel
theorem dX8_delayed_23 : decode cX8_delayed 23 = .ok (.aload_n 0, 1) := by decide +kernel
theorem dX8_delayed_24 : decode cX8_delayed 24 = .ok (.iload_n 1, 1) := by decide +kernel
theorem dX8_delayed_25 : decode cX8_delayed 25 = .ok (.iconst 1, 1) := by decide +kernel
theorem dX8_delayed_26 : decode cX8_delayed 26 = .ok (.invokevirtual 92, 3) := by decide +kernel
theorem dX8_delayed_29 : decode cX8_delayed 29 = .ok (.iload_n 2, 1) := by decide +kernel
theorem dX8_delayed_30 : decode cX8_delayed 30 = .ok (.iadd, 1) := by decide +kernel
theorem dX8_delayed_31 : decode cX8_delayed 31 = .ok (.bipush 99, 2) := by decide +kernel
theorem dX8_delayed_33 : decode cX8_delayed 33 = .ok (.if_icmp .le 5, 3) := by decide +kernel
theorem dX8_delayed_36 : decode cX8_delayed 36 = .ok (.iconst (-1), 1) := by decide +kernel
theorem dX8_delayed_37 : decode cX8_delayed 37 = .ok (.ireturn, 1) := by decide +kernel
theorem dX8_delayed_38 : decode cX8_delayed 38 = .ok (.aload_n 0, 1) := by decide +kernel
theorem dX8_delayed_39 : decode cX8_delayed 39 = .ok (.getfield 7, 3) := by decide +kernel
theorem dX8_delayed_42 : decode cX8_delayed 42 = .ok (.bipush 17, 2) := by decide +kernel
theorem dX8_delayed_44 : decode cX8_delayed 44 = .ok (.bipush 6, 2) := by decide +kernel
theorem dX8_delayed_46 : decode cX8_delayed 46 = .ok (.iload_n 1, 1) := by decide +kernel
theorem dX8_delayed_47 : decode cX8_delayed 47 = .ok (.imul, 1) := by decide +kernel
theorem dX8_delayed_48 : decode cX8_delayed 48 = .ok (.iadd, 1) := by decide +kernel
theorem dX8_delayed_49 : decode cX8_delayed 49 = .ok (.iconst 1, 1) := by decide +kernel
theorem dX8_delayed_50 : decode cX8_delayed 50 = .ok (.iadd, 1) := by decide +kernel
theorem dX8_delayed_51 : decode cX8_delayed 51 = .ok (.dup2, 1) := by decide +kernel
theorem dX8_delayed_52 : decode cX8_delayed 52 = .ok (.iaload, 1) := by decide +kernel
theorem dX8_delayed_53 : decode cX8_delayed 53 = .ok (.iload_n 2, 1) := by decide +kernel
theorem dX8_delayed_54 : decode cX8_delayed 54 = .ok (.iadd, 1) := by decide +kernel
theorem dX8_delayed_55 : decode cX8_delayed 55 = .ok (.iastore, 1) := by decide +kernel
theorem dX8_delayed_56 : decode cX8_delayed 56 = .ok (.aload_n 0, 1) := by decide +kernel
theorem dX8_delayed_57 : decode cX8_delayed 57 = .ok (.invokevirtual 272, 3) := by decide +kernel
theorem dX8_delayed_60 : decode cX8_delayed 60 = .ok (.istore_n 3, 1) := by decide +kernel
theorem dX8_delayed_61 : decode cX8_delayed 61 = .ok (.aload_n 0, 1) := by decide +kernel
theorem dX8_delayed_62 : decode cX8_delayed 62 = .ok (.getfield 7, 3) := by decide +kernel
theorem dX8_delayed_65 : decode cX8_delayed 65 = .ok (.bipush 17, 2) := by decide +kernel
theorem dX8_delayed_67 : decode cX8_delayed 67 = .ok (.bipush 6, 2) := by decide +kernel
theorem dX8_delayed_69 : decode cX8_delayed 69 = .ok (.iload_n 1, 1) := by decide +kernel
theorem dX8_delayed_70 : decode cX8_delayed 70 = .ok (.imul, 1) := by decide +kernel
theorem dX8_delayed_71 : decode cX8_delayed 71 = .ok (.iadd, 1) := by decide +kernel
theorem dX8_delayed_72 : decode cX8_delayed 72 = .ok (.iconst 1, 1) := by decide +kernel
theorem dX8_delayed_73 : decode cX8_delayed 73 = .ok (.iadd, 1) := by decide +kernel
theorem dX8_delayed_74 : decode cX8_delayed 74 = .ok (.dup2, 1) := by decide +kernel
theorem dX8_delayed_75 : decode cX8_delayed 75 = .ok (.iaload, 1) := by decide +kernel
theorem dX8_delayed_76 : decode cX8_delayed 76 = .ok (.iload_n 2, 1) := by decide +kernel
theorem dX8_delayed_77 : decode cX8_delayed 77 = .ok (.isub, 1) := by decide +kernel
theorem dX8_delayed_78 : decode cX8_delayed 78 = .ok (.iastore, 1) := by decide +kernel
theorem dX8_delayed_79 : decode cX8_delayed 79 = .ok (.iload_n 3, 1) := by decide +kernel
theorem dX8_delayed_80 : decode cX8_delayed 80 = .ok (.ireturn, 1) := by decide +kernel
theorem dX8_withStaging_0 : decode cX8_withStaging 0 = .ok (.aload_n 0, 1) := by decide +kernel
theorem dX8_withStaging_1 : decode cX8_withStaging 1 = .ok (.getfield 7, 3) := by decide +kernel
theorem dX8_withStaging_4 : decode cX8_withStaging 4 = .ok (.iconst 2, 1) := by decide +kernel
theorem dX8_withStaging_5 : decode cX8_withStaging 5 = .ok (.iaload, 1) := by decide +kernel
theorem dX8_withStaging_6 : decode cX8_withStaging 6 = .ok (.istore_n 2, 1) := by decide +kernel
theorem dX8_withStaging_7 : decode cX8_withStaging 7 = .ok (.aload_n 0, 1) := by decide +kernel
theorem dX8_withStaging_8 : decode cX8_withStaging 8 = .ok (.getfield 7, 3) := by decide +kernel
theorem dX8_withStaging_11 : decode cX8_withStaging 11 = .ok (.iconst 2, 1) := by decide +kernel
theorem dX8_withStaging_12 : decode cX8_withStaging 12 = .ok (.iload_n 1, 1) := by decide +kernel
theorem dX8_withStaging_13 : decode cX8_withStaging 13 = .ok (.iastore, 1) := by decide +kernel
theorem dX8_withStaging_14 : decode cX8_withStaging 14 = .ok (.aload_n 0, 1) := by decide +kernel
theorem dX8_withStaging_15 : decode cX8_withStaging 15 = .ok (.invokevirtual 272, 3) := by decide +kernel
theorem dX8_withStaging_18 : decode cX8_withStaging 18 = .ok (.istore_n 3, 1) := by decide +kernel
theorem dX8_withStaging_19 : decode cX8_withStaging 19 = .ok (.aload_n 0, 1) := by decide +kernel
theorem dX8_withStaging_20 : decode cX8_withStaging 20 = .ok (.getfield 7, 3) := by decide +kernel
theorem dX8_withStaging_23 : decode cX8_withStaging 23 = .ok (.iconst 2, 1) := by decide +kernel
theorem dX8_withStaging_24 : decode cX8_withStaging 24 = .ok (.iload_n 2, 1) := by decide +kernel
theorem dX8_withStaging_25 : decode cX8_withStaging 25 = .ok (.iastore, 1) := by decide +kernel
theorem dX8_withStaging_26 : decode cX8_withStaging 26 = .ok (.iload_n 3, 1) := by decide +kernel
theorem dX8_withStaging_27 : decode cX8_withStaging 27 = .ok (.ireturn, 1) := by decide +kernel
theorem dX8_roomy_0 : decode cX8_roomy 0 = .ok (.aload_n 0, 1) := by decide +kernel
theorem dX8_roomy_1 : decode cX8_roomy 1 = .ok (.iconst 0, 1) := by decide +kernel
theorem dX8_roomy_2 : decode cX8_roomy 2 = .ok (.putfield 84, 3) := by decide +kernel
theorem dX8_roomy_5 : decode cX8_roomy 5 = .ok (.iload_n 1, 1) := by decide +kernel
theorem dX8_roomy_6 : decode cX8_roomy 6 = .ok (.iconst 0, 1) := by decide +kernel
theorem dX8_roomy_7 : decode cX8_roomy 7 = .ok (.bipush 40, 2) := by decide +kernel
theorem dX8_roomy_9 : decode cX8_roomy 9 = .ok (.invokestatic 88, 3) := by decide +kernel
theorem dX8_roomy_12 : decode cX8_roomy 12 = .ok (.ifCond .eq 11, 3) := by decide +kernel
theorem dX8_roomy_15 : decode cX8_roomy 15 = .ok (.aload_n 0, 1) := by decide +kernel
theorem dX8_roomy_16 : decode cX8_roomy 16 = .ok (.iload_n 1, 1) := by decide +kernel
theorem dX8_roomy_17 : decode cX8_roomy 17 = .ok (.invokevirtual 361, 3) := by decide +kernel
theorem dX8_roomy_20 : decode cX8_roomy 20 = .ok (.goto 4, 3) := by decide +kernel
theorem dX8_roomy_23 : decode cX8_roomy 23 = .ok (.iconst (-1), 1) := by decide +kernel
theorem dX8_roomy_24 : decode cX8_roomy 24 = .ok (.ireturn, 1) := by decide +kernel
theorem dX8_least_0 : decode cX8_least 0 = .ok (.aload_n 0, 1) := by decide +kernel
theorem dX8_least_1 : decode cX8_least 1 = .ok (.iconst 0, 1) := by decide +kernel
theorem dX8_least_2 : decode cX8_least 2 = .ok (.putfield 84, 3) := by decide +kernel
theorem dX8_least_5 : decode cX8_least 5 = .ok (.aload_n 0, 1) := by decide +kernel
theorem dX8_least_6 : decode cX8_least 6 = .ok (.invokevirtual 272, 3) := by decide +kernel
theorem dX8_least_9 : decode cX8_least 9 = .ok (.istore_n 1, 1) := by decide +kernel
theorem dX8_least_10 : decode cX8_least 10 = .ok (.iconst 0, 1) := by decide +kernel
theorem dX8_least_11 : decode cX8_least 11 = .ok (.istore_n 2, 1) := by decide +kernel
theorem dX8_least_12 : decode cX8_least 12 = .ok (.aload_n 0, 1) := by decide +kernel
theorem dX8_least_13 : decode cX8_least 13 = .ok (.iload_n 2, 1) := by decide +kernel
theorem dX8_least_14 : decode cX8_least 14 = .ok (.invokevirtual 361, 3) := by decide +kernel
theorem dX8_least_17 : decode cX8_least 17 = .ok (.iload_n 1, 1) := by decide +kernel
theorem dX8_least_18 : decode cX8_least 18 = .ok (.if_icmp .le 9, 3) := by decide +kernel
theorem dX8_least_21 : decode cX8_least 21 = .ok (.iinc 2 1, 3) := by decide +kernel
theorem dX8_least_24 : decode cX8_least 24 = .ok (.goto (-12), 3) := by decide +kernel
theorem dX8_least_27 : decode cX8_least 27 = .ok (.iload_n 2, 1) := by decide +kernel
theorem dX8_least_28 : decode cX8_least 28 = .ok (.ireturn, 1) := by decide +kernel
theorem dX8_moves_0 : decode cX8_moves 0 = .ok (.aload_n 0, 1) := by decide +kernel
theorem dX8_moves_1 : decode cX8_moves 1 = .ok (.iconst 0, 1) := by decide +kernel
theorem dX8_moves_2 : decode cX8_moves 2 = .ok (.putfield 84, 3) := by decide +kernel
theorem dX8_moves_5 : decode cX8_moves 5 = .ok (.aload_n 0, 1) := by decide +kernel
theorem dX8_moves_6 : decode cX8_moves 6 = .ok (.invokevirtual 318, 3) := by decide +kernel
theorem dX8_moves_9 : decode cX8_moves 9 = .ok (.iconst 0, 1) := by decide +kernel
theorem dX8_moves_10 : decode cX8_moves 10 = .ok (.istore_n 2, 1) := by decide +kernel
theorem dX8_moves_11 : decode cX8_moves 11 = .ok (.iconst 0, 1) := by decide +kernel
theorem dX8_moves_12 : decode cX8_moves 12 = .ok (.istore_n 3, 1) := by decide +kernel
theorem dX8_moves_13 : decode cX8_moves 13 = .ok (.iload_n 3, 1) := by decide +kernel
theorem dX8_moves_14 : decode cX8_moves 14 = .ok (.aload_n 0, 1) := by decide +kernel
theorem dX8_moves_15 : decode cX8_moves 15 = .ok (.getfield 7, 3) := by decide +kernel
theorem dX8_moves_18 : decode cX8_moves 18 = .ok (.iconst 1, 1) := by decide +kernel
theorem dX8_moves_19 : decode cX8_moves 19 = .ok (.iaload, 1) := by decide +kernel
theorem dX8_moves_20 : decode cX8_moves 20 = .ok (.if_icmp .ge 134, 3) := by decide +kernel
theorem dX8_moves_23 : decode cX8_moves 23 = .ok (.iconst 0, 1) := by decide +kernel
theorem dX8_moves_24 : decode cX8_moves 24 = .ok (.istore 4, 2) := by decide +kernel
theorem dX8_moves_26 : decode cX8_moves 26 = .ok (.iload 4, 2) := by decide +kernel
theorem dX8_moves_28 : decode cX8_moves 28 = .ok (.aload_n 0, 1) := by decide +kernel
theorem dX8_moves_29 : decode cX8_moves 29 = .ok (.getfield 7, 3) := by decide +kernel
theorem dX8_moves_32 : decode cX8_moves 32 = .ok (.iconst 0, 1) := by decide +kernel
theorem dX8_moves_33 : decode cX8_moves 33 = .ok (.iaload, 1) := by decide +kernel
theorem dX8_moves_34 : decode cX8_moves 34 = .ok (.if_icmp .ge 66, 3) := by decide +kernel
theorem dX8_moves_37 : decode cX8_moves 37 = .ok (.aload_n 0, 1) := by decide +kernel
theorem dX8_moves_38 : decode cX8_moves 38 = .ok (.iload_n 3, 1) := by decide +kernel
theorem dX8_moves_39 : decode cX8_moves 39 = .ok (.invokevirtual 284, 3) := by decide +kernel
theorem dX8_moves_42 : decode cX8_moves 42 = .ok (.iconst (-1), 1) := by decide +kernel
theorem dX8_moves_43 : decode cX8_moves 43 = .ok (.if_icmp .eq 57, 3) := by decide +kernel
theorem dX8_moves_46 : decode cX8_moves 46 = .ok (.iload_n 1, 1) := by decide +kernel
theorem dX8_moves_47 : decode cX8_moves 47 = .ok (.ifCond .ne 53, 3) := by decide +kernel
theorem dX8_moves_50 : decode cX8_moves 50 = .ok (.iconst 0, 1) := by decide +kernel
theorem dX8_moves_51 : decode cX8_moves 51 = .ok (.istore 5, 2) := by decide +kernel
theorem dX8_moves_53 : decode cX8_moves 53 = .ok (.iload 5, 2) := by decide +kernel
theorem dX8_moves_55 : decode cX8_moves 55 = .ok (.aload_n 0, 1) := by decide +kernel
theorem dX8_moves_56 : decode cX8_moves 56 = .ok (.iload 4, 2) := by decide +kernel
theorem dX8_moves_58 : decode cX8_moves 58 = .ok (.invokevirtual 191, 3) := by decide +kernel
theorem dX8_moves_61 : decode cX8_moves 61 = .ok (.if_icmp .gt 33, 3) := by decide +kernel
theorem dX8_moves_64 : decode cX8_moves 64 = .ok (.iload_n 2, 1) := by decide +kernel
theorem dX8_moves_65 : decode cX8_moves 65 = .ok (.aload_n 0, 1) := by decide +kernel
theorem dX8_moves_66 : decode cX8_moves 66 = .ok (.iload_n 3, 1) := by decide +kernel
theorem dX8_moves_67 : decode cX8_moves 67 = .ok (.iload 4, 2) := by decide +kernel
theorem dX8_moves_69 : decode cX8_moves 69 = .ok (.iload 5, 2) := by decide +kernel
theorem dX8_moves_71 : decode cX8_moves 71 = .ok (.invokevirtual 321, 3) := by decide +kernel
theorem dX8_moves_74 : decode cX8_moves 74 = .ok (.ifCond .ne 7, 3) := by decide +kernel
theorem dX8_moves_77 : decode cX8_moves 77 = .ok (.iconst 1, 1) := by decide +kernel
theorem dX8_moves_78 : decode cX8_moves 78 = .ok (.goto 4, 3) := by decide +kernel
theorem dX8_moves_81 : decode cX8_moves 81 = .ok (.iconst 0, 1) := by decide +kernel
theorem dX8_moves_82 : decode cX8_moves 82 = .ok (.iadd, 1) := by decide +kernel
theorem dX8_moves_83 : decode cX8_moves 83 = .ok (.istore_n 2, 1) := by decide +kernel
theorem dX8_moves_84 : decode cX8_moves 84 = .ok (.aload_n 0, 1) := by decide +kernel
theorem dX8_moves_85 : decode cX8_moves 85 = .ok (.invokevirtual 312, 3) := by decide +kernel
theorem dX8_moves_88 : decode cX8_moves 88 = .ok (.iinc 5 1, 3) := by decide +kernel
theorem dX8_moves_91 : decode cX8_moves 91 = .ok (.goto (-38), 3) := by decide +kernel
theorem dX8_moves_94 : decode cX8_moves 94 = .ok (.iinc 4 1, 3) := by decide +kernel
theorem dX8_moves_97 : decode cX8_moves 97 = .ok (.goto (-71), 3) := by decide +kernel
theorem dX8_moves_100 : decode cX8_moves 100 = .ok (.iload_n 3, 1) := by decide +kernel
theorem dX8_moves_101 : decode cX8_moves 101 = .ok (.iconst 1, 1) := by decide +kernel
theorem dX8_moves_102 : decode cX8_moves 102 = .ok (.iadd, 1) := by decide +kernel
theorem dX8_moves_103 : decode cX8_moves 103 = .ok (.istore 4, 2) := by decide +kernel
theorem dX8_moves_105 : decode cX8_moves 105 = .ok (.iload 4, 2) := by decide +kernel
theorem dX8_moves_107 : decode cX8_moves 107 = .ok (.aload_n 0, 1) := by decide +kernel
theorem dX8_moves_108 : decode cX8_moves 108 = .ok (.getfield 7, 3) := by decide +kernel
theorem dX8_moves_111 : decode cX8_moves 111 = .ok (.iconst 1, 1) := by decide +kernel
theorem dX8_moves_112 : decode cX8_moves 112 = .ok (.iaload, 1) := by decide +kernel
theorem dX8_moves_113 : decode cX8_moves 113 = .ok (.if_icmp .ge 35, 3) := by decide +kernel
theorem dX8_moves_116 : decode cX8_moves 116 = .ok (.iload_n 1, 1) := by decide +kernel
theorem dX8_moves_117 : decode cX8_moves 117 = .ok (.ifCond .eq 31, 3) := by decide +kernel
theorem dX8_moves_120 : decode cX8_moves 120 = .ok (.iload_n 2, 1) := by decide +kernel
theorem dX8_moves_121 : decode cX8_moves 121 = .ok (.aload_n 0, 1) := by decide +kernel
theorem dX8_moves_122 : decode cX8_moves 122 = .ok (.iload_n 3, 1) := by decide +kernel
theorem dX8_moves_123 : decode cX8_moves 123 = .ok (.iload 4, 2) := by decide +kernel
theorem dX8_moves_125 : decode cX8_moves 125 = .ok (.invokevirtual 328, 3) := by decide +kernel
theorem dX8_moves_128 : decode cX8_moves 128 = .ok (.ifCond .ne 7, 3) := by decide +kernel
theorem dX8_moves_131 : decode cX8_moves 131 = .ok (.iconst 1, 1) := by decide +kernel
theorem dX8_moves_132 : decode cX8_moves 132 = .ok (.goto 4, 3) := by decide +kernel
theorem dX8_moves_135 : decode cX8_moves 135 = .ok (.iconst 0, 1) := by decide +kernel
theorem dX8_moves_136 : decode cX8_moves 136 = .ok (.iadd, 1) := by decide +kernel
theorem dX8_moves_137 : decode cX8_moves 137 = .ok (.istore_n 2, 1) := by decide +kernel
theorem dX8_moves_138 : decode cX8_moves 138 = .ok (.aload_n 0, 1) := by decide +kernel
theorem dX8_moves_139 : decode cX8_moves 139 = .ok (.invokevirtual 312, 3) := by decide +kernel
theorem dX8_moves_142 : decode cX8_moves 142 = .ok (.iinc 4 1, 3) := by decide +kernel
theorem dX8_moves_145 : decode cX8_moves 145 = .ok (.goto (-40), 3) := by decide +kernel
theorem dX8_moves_148 : decode cX8_moves 148 = .ok (.iinc 3 1, 3) := by decide +kernel
theorem dX8_moves_151 : decode cX8_moves 151 = .ok (.goto (-138), 3) := by decide +kernel
theorem dX8_moves_154 : decode cX8_moves 154 = .ok (.iload_n 2, 1) := by decide +kernel
theorem dX8_moves_155 : decode cX8_moves 155 = .ok (.ireturn, 1) := by decide +kernel
theorem dX8_copiesText_0 : decode cX8_copiesText 0 = .ok (.iconst 0, 1) := by decide +kernel
theorem dX8_copiesText_1 : decode cX8_copiesText 1 = .ok (.istore_n 3, 1) := by decide +kernel
theorem dX8_copiesText_2 : decode cX8_copiesText 2 = .ok (.iload_n 3, 1) := by decide +kernel
theorem dX8_copiesText_3 : decode cX8_copiesText 3 = .ok (.bipush 122, 2) := by decide +kernel
theorem dX8_copiesText_5 : decode cX8_copiesText 5 = .ok (.if_icmp .ge 31, 3) := by decide +kernel
theorem dX8_copiesText_8 : decode cX8_copiesText 8 = .ok (.aload_n 0, 1) := by decide +kernel
theorem dX8_copiesText_9 : decode cX8_copiesText 9 = .ok (.getfield 7, 3) := by decide +kernel
theorem dX8_copiesText_12 : decode cX8_copiesText 12 = .ok (.bipush 122, 2) := by decide +kernel
theorem dX8_copiesText_14 : decode cX8_copiesText 14 = .ok (.iload_n 2, 1) := by decide +kernel
theorem dX8_copiesText_15 : decode cX8_copiesText 15 = .ok (.imul, 1) := by decide +kernel
theorem dX8_copiesText_16 : decode cX8_copiesText 16 = .ok (.iload_n 3, 1) := by decide +kernel
theorem dX8_copiesText_17 : decode cX8_copiesText 17 = .ok (.iadd, 1) := by decide +kernel
theorem dX8_copiesText_18 : decode cX8_copiesText 18 = .ok (.aload_n 0, 1) := by decide +kernel
theorem dX8_copiesText_19 : decode cX8_copiesText 19 = .ok (.getfield 7, 3) := by decide +kernel
theorem dX8_copiesText_22 : decode cX8_copiesText 22 = .ok (.bipush 122, 2) := by decide +kernel
theorem dX8_copiesText_24 : decode cX8_copiesText 24 = .ok (.iload_n 1, 1) := by decide +kernel
theorem dX8_copiesText_25 : decode cX8_copiesText 25 = .ok (.imul, 1) := by decide +kernel
theorem dX8_copiesText_26 : decode cX8_copiesText 26 = .ok (.iload_n 3, 1) := by decide +kernel
theorem dX8_copiesText_27 : decode cX8_copiesText 27 = .ok (.iadd, 1) := by decide +kernel
theorem dX8_copiesText_28 : decode cX8_copiesText 28 = .ok (.iaload, 1) := by decide +kernel
theorem dX8_copiesText_29 : decode cX8_copiesText 29 = .ok (.iastore, 1) := by decide +kernel
theorem dX8_copiesText_30 : decode cX8_copiesText 30 = .ok (.iinc 3 1, 3) := by decide +kernel
theorem dX8_copiesText_33 : decode cX8_copiesText 33 = .ok (.goto (-31), 3) := by decide +kernel
theorem dX8_copiesText_36 : decode cX8_copiesText 36 = .ok (.iconst 0, 1) := by decide +kernel
theorem dX8_copiesText_37 : decode cX8_copiesText 37 = .ok (.istore_n 3, 1) := by decide +kernel
theorem dX8_copiesText_38 : decode cX8_copiesText 38 = .ok (.iload_n 3, 1) := by decide +kernel
theorem dX8_copiesText_39 : decode cX8_copiesText 39 = .ok (.sipush 400, 3) := by decide +kernel
theorem dX8_copiesText_42 : decode cX8_copiesText 42 = .ok (.if_icmp .ge 33, 3) := by decide +kernel
theorem dX8_copiesText_45 : decode cX8_copiesText 45 = .ok (.aload_n 0, 1) := by decide +kernel
theorem dX8_copiesText_46 : decode cX8_copiesText 46 = .ok (.getfield 13, 3) := by decide +kernel
theorem dX8_copiesText_49 : decode cX8_copiesText 49 = .ok (.sipush 400, 3) := by decide +kernel
theorem dX8_copiesText_52 : decode cX8_copiesText 52 = .ok (.iload_n 2, 1) := by decide +kernel
theorem dX8_copiesText_53 : decode cX8_copiesText 53 = .ok (.imul, 1) := by decide +kernel
theorem dX8_copiesText_54 : decode cX8_copiesText 54 = .ok (.iload_n 3, 1) := by decide +kernel
theorem dX8_copiesText_55 : decode cX8_copiesText 55 = .ok (.iadd, 1) := by decide +kernel
theorem dX8_copiesText_56 : decode cX8_copiesText 56 = .ok (.aload_n 0, 1) := by decide +kernel
theorem dX8_copiesText_57 : decode cX8_copiesText 57 = .ok (.getfield 13, 3) := by decide +kernel
theorem dX8_copiesText_60 : decode cX8_copiesText 60 = .ok (.sipush 400, 3) := by decide +kernel
theorem dX8_copiesText_63 : decode cX8_copiesText 63 = .ok (.iload_n 1, 1) := by decide +kernel
theorem dX8_copiesText_64 : decode cX8_copiesText 64 = .ok (.imul, 1) := by decide +kernel
theorem dX8_copiesText_65 : decode cX8_copiesText 65 = .ok (.iload_n 3, 1) := by decide +kernel
theorem dX8_copiesText_66 : decode cX8_copiesText 66 = .ok (.iadd, 1) := by decide +kernel
theorem dX8_copiesText_67 : decode cX8_copiesText 67 = .ok (.baload, 1) := by decide +kernel
theorem dX8_copiesText_68 : decode cX8_copiesText 68 = .ok (.bastore, 1) := by decide +kernel
theorem dX8_copiesText_69 : decode cX8_copiesText 69 = .ok (.iinc 3 1, 3) := by decide +kernel
theorem dX8_copiesText_72 : decode cX8_copiesText 72 = .ok (.goto (-34), 3) := by decide +kernel
theorem dX8_copiesText_75 : decode cX8_copiesText 75 = .ok (.return_, 1) := by decide +kernel
theorem dX8_image_0 : decode cX8_image 0 = .ok (.aload_n 0, 1) := by decide +kernel
theorem dX8_image_1 : decode cX8_image 1 = .ok (.iconst 0, 1) := by decide +kernel
theorem dX8_image_2 : decode cX8_image 2 = .ok (.putfield 84, 3) := by decide +kernel
theorem dX8_image_5 : decode cX8_image 5 = .ok (.iload_n 1, 1) := by decide +kernel
theorem dX8_image_6 : decode cX8_image 6 = .ok (.iconst 0, 1) := by decide +kernel
theorem dX8_image_7 : decode cX8_image 7 = .ok (.iconst 2, 1) := by decide +kernel
theorem dX8_image_8 : decode cX8_image 8 = .ok (.invokestatic 88, 3) := by decide +kernel
theorem dX8_image_11 : decode cX8_image 11 = .ok (.ifCond .ne 5, 3) := by decide +kernel
theorem dX8_image_14 : decode cX8_image 14 = .ok (.iconst 0, 1) := by decide +kernel
theorem dX8_image_15 : decode cX8_image 15 = .ok (.ireturn, 1) := by decide +kernel
theorem dX8_image_16 : decode cX8_image 16 = .ok (.aload_n 0, 1) := by decide +kernel
theorem dX8_image_17 : decode cX8_image 17 = .ok (.iconst 0, 1) := by decide +kernel
theorem dX8_image_18 : decode cX8_image 18 = .ok (.iload_n 1, 1) := by decide +kernel
theorem dX8_image_19 : decode cX8_image 19 = .ok (.iconst 1, 1) := by decide +kernel
theorem dX8_image_20 : decode cX8_image 20 = .ok (.iadd, 1) := by decide +kernel
theorem dX8_image_21 : decode cX8_image 21 = .ok (.invokevirtual 364, 3) := by decide +kernel
theorem dX8_image_24 : decode cX8_image 24 = .ok (.aload_n 0, 1) := by decide +kernel
theorem dX8_image_25 : decode cX8_image 25 = .ok (.getfield 17, 3) := by decide +kernel
theorem dX8_image_28 : decode cX8_image 28 = .ok (.iload_n 1, 1) := by decide +kernel
theorem dX8_image_29 : decode cX8_image 29 = .ok (.iconst 1, 1) := by decide +kernel
theorem dX8_image_30 : decode cX8_image 30 = .ok (.bastore, 1) := by decide +kernel
theorem dX8_image_31 : decode cX8_image 31 = .ok (.iconst 1, 1) := by decide +kernel
theorem dX8_image_32 : decode cX8_image 32 = .ok (.ireturn, 1) := by decide +kernel
theorem dX8_again_0 : decode cX8_again 0 = .ok (.aload_n 0, 1) := by decide +kernel
theorem dX8_again_1 : decode cX8_again 1 = .ok (.iconst 0, 1) := by decide +kernel
theorem dX8_again_2 : decode cX8_again 2 = .ok (.putfield 84, 3) := by decide +kernel
theorem dX8_again_5 : decode cX8_again 5 = .ok (.iload_n 1, 1) := by decide +kernel
theorem dX8_again_6 : decode cX8_again 6 = .ok (.iconst 0, 1) := by decide +kernel
theorem dX8_again_7 : decode cX8_again 7 = .ok (.iconst 2, 1) := by decide +kernel
theorem dX8_again_8 : decode cX8_again 8 = .ok (.invokestatic 88, 3) := by decide +kernel
theorem dX8_again_11 : decode cX8_again 11 = .ok (.ifCond .eq 12, 3) := by decide +kernel
theorem dX8_again_14 : decode cX8_again 14 = .ok (.aload_n 0, 1) := by decide +kernel
theorem dX8_again_15 : decode cX8_again 15 = .ok (.getfield 17, 3) := by decide +kernel
theorem dX8_again_18 : decode cX8_again 18 = .ok (.iload_n 1, 1) := by decide +kernel
theorem dX8_again_19 : decode cX8_again 19 = .ok (.baload, 1) := by decide +kernel
theorem dX8_again_20 : decode cX8_again 20 = .ok (.ifCond .ne 5, 3) := by decide +kernel
theorem dX8_again_23 : decode cX8_again 23 = .ok (.iconst 0, 1) := by decide +kernel
theorem dX8_again_24 : decode cX8_again 24 = .ok (.ireturn, 1) := by decide +kernel
theorem dX8_again_25 : decode cX8_again 25 = .ok (.aload_n 0, 1) := by decide +kernel
theorem dX8_again_26 : decode cX8_again 26 = .ok (.iload_n 1, 1) := by decide +kernel
theorem dX8_again_27 : decode cX8_again 27 = .ok (.iconst 1, 1) := by decide +kernel
theorem dX8_again_28 : decode cX8_again 28 = .ok (.iadd, 1) := by decide +kernel
theorem dX8_again_29 : decode cX8_again 29 = .ok (.iconst 0, 1) := by decide +kernel
theorem dX8_again_30 : decode cX8_again 30 = .ok (.invokevirtual 364, 3) := by decide +kernel
theorem dX8_again_33 : decode cX8_again 33 = .ok (.aload_n 0, 1) := by decide +kernel
theorem dX8_again_34 : decode cX8_again 34 = .ok (.iconst 0, 1) := by decide +kernel
theorem dX8_again_35 : decode cX8_again 35 = .ok (.putfield 181, 3) := by decide +kernel
theorem dX8_again_38 : decode cX8_again 38 = .ok (.iconst 1, 1) := by decide +kernel
theorem dX8_again_39 : decode cX8_again 39 = .ok (.ireturn, 1) := by decide +kernel
