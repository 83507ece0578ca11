theorem dX2_dropOldestState_22 : decode cX2_dropOldestState 22 = .ok (.getfield 22, 3) := by decide +kernel
theorem dX2_dropOldestState_25 : decode cX2_dropOldestState 25 = .ok (.iload_n 2, 1) := by decide +kernel
theorem dX2_dropOldestState_26 : decode cX2_dropOldestState 26 = .ok (.aaload, 1) := by decide +kernel
theorem dX2_dropOldestState_27 : decode cX2_dropOldestState 27 = .ok (.aastore, 1) := by decide +kernel
theorem dX2_dropOldestState_28 : decode cX2_dropOldestState 28 = .ok (.iinc 2 1, 3) := by decide +kernel
theorem dX2_dropOldestState_31 : decode cX2_dropOldestState 31 = .ok (.goto (-22), 3) := by decide +kernel
theorem dX2_dropOldestState_34 : decode cX2_dropOldestState 34 = .ok (.aload_n 0, 1) := by decide +kernel
theorem dX2_dropOldestState_35 : decode cX2_dropOldestState 35 = .ok (.getfield 22, 3) := by decide +kernel
theorem dX2_dropOldestState_38 : decode cX2_dropOldestState 38 = .ok (.iconst 3, 1) := by decide +kernel
theorem dX2_dropOldestState_39 : decode cX2_dropOldestState 39 = .ok (.aload_n 1, 1) := by decide +kernel
theorem dX2_dropOldestState_40 : decode cX2_dropOldestState 40 = .ok (.aastore, 1) := by decide +kernel
theorem dX2_dropOldestState_41 : decode cX2_dropOldestState 41 = .ok (.aload_n 0, 1) := by decide +kernel
theorem dX2_dropOldestState_42 : decode cX2_dropOldestState 42 = .ok (.iconst 3, 1) := by decide +kernel
theorem dX2_dropOldestState_43 : decode cX2_dropOldestState 43 = .ok (.putfield 111, 3) := by decide +kernel
theorem dX2_dropOldestState_46 : decode cX2_dropOldestState 46 = .ok (.return_, 1) := by decide +kernel
theorem dX2_tryCycles_0 : decode cX2_tryCycles 0 = .ok (.aload_n 0, 1) := by decide +kernel
theorem dX2_tryCycles_1 : decode cX2_tryCycles 1 = .ok (.getfield 19, 3) := by decide +kernel
theorem dX2_tryCycles_4 : decode cX2_tryCycles 4 = .ok (.aload_n 0, 1) := by decide +kernel
theorem dX2_tryCycles_5 : decode cX2_tryCycles 5 = .ok (.getfield 10, 3) := by decide +kernel
theorem dX2_tryCycles_8 : decode cX2_tryCycles 8 = .ok (.invokevirtual 114, 3) := by decide +kernel
theorem dX2_tryCycles_11 : decode cX2_tryCycles 11 = .ok (.aload_n 0, 1) := by decide +kernel
theorem dX2_tryCycles_12 : decode cX2_tryCycles 12 = .ok (.getfield 19, 3) := by decide +kernel
theorem dX2_tryCycles_15 : decode cX2_tryCycles 15 = .ok (.iconst 0, 1) := by decide +kernel
theorem dX2_tryCycles_16 : decode cX2_tryCycles 16 = .ok (.putfield 82, 3) := by decide +kernel
theorem dX2_tryCycles_19 : decode cX2_tryCycles 19 = .ok (.aload_n 0, 1) := by decide +kernel
theorem dX2_tryCycles_20 : decode cX2_tryCycles 20 = .ok (.getfield 19, 3) := by decide +kernel
theorem dX2_tryCycles_23 : decode cX2_tryCycles 23 = .ok (.iload_n 1, 1) := by decide +kernel
theorem dX2_tryCycles_24 : decode cX2_tryCycles 24 = .ok (.putfield 79, 3) := by decide +kernel
theorem dX2_tryCycles_27 : decode cX2_tryCycles 27 = .ok (.aload_n 0, 1) := by decide +kernel
theorem dX2_tryCycles_28 : decode cX2_tryCycles 28 = .ok (.getfield 19, 3) := by decide +kernel
theorem dX2_tryCycles_31 : decode cX2_tryCycles 31 = .ok (.iload_n 2, 1) := by decide +kernel
theorem dX2_tryCycles_32 : decode cX2_tryCycles 32 = .ok (.invokevirtual 101, 3) := by decide +kernel
theorem dX2_tryCycles_35 : decode cX2_tryCycles 35 = .ok (.return_, 1) := by decide +kernel
theorem dJ6_bitCount_0f7a4_0 : decode cJ6_bitCount_0f7a4 0 = .ok (.iload_n 0, 1) := by decide +kernel
theorem dJ6_bitCount_0f7a4_1 : decode cJ6_bitCount_0f7a4 1 = .ok (.iload_n 0, 1) := by decide +kernel
theorem dJ6_bitCount_0f7a4_2 : decode cJ6_bitCount_0f7a4 2 = .ok (.iconst 1, 1) := by decide +kernel
theorem dJ6_bitCount_0f7a4_3 : decode cJ6_bitCount_0f7a4 3 = .ok (.iushr, 1) := by decide +kernel
theorem dJ6_bitCount_0f7a4_4 : decode cJ6_bitCount_0f7a4 4 = .ok (.ldc_w 265, 3) := by decide +kernel
theorem dJ6_bitCount_0f7a4_7 : decode cJ6_bitCount_0f7a4 7 = .ok (.iand, 1) := by decide +kernel
theorem dJ6_bitCount_0f7a4_8 : decode cJ6_bitCount_0f7a4 8 = .ok (.isub, 1) := by decide +kernel
theorem dJ6_bitCount_0f7a4_9 : decode cJ6_bitCount_0f7a4 9 = .ok (.istore_n 0, 1) := by decide +kernel
theorem dJ6_bitCount_0f7a4_10 : decode cJ6_bitCount_0f7a4 10 = .ok (.iload_n 0, 1) := by decide +kernel
theorem dJ6_bitCount_0f7a4_11 : decode cJ6_bitCount_0f7a4 11 = .ok (.ldc_w 266, 3) := by decide +kernel
theorem dJ6_bitCount_0f7a4_14 : decode cJ6_bitCount_0f7a4 14 = .ok (.iand, 1) := by decide +kernel
theorem dJ6_bitCount_0f7a4_15 : decode cJ6_bitCount_0f7a4 15 = .ok (.iload_n 0, 1) := by decide +kernel
theorem dJ6_bitCount_0f7a4_16 : decode cJ6_bitCount_0f7a4 16 = .ok (.iconst 2, 1) := by decide +kernel
theorem dJ6_bitCount_0f7a4_17 : decode cJ6_bitCount_0f7a4 17 = .ok (.iushr, 1) := by decide +kernel
theorem dJ6_bitCount_0f7a4_18 : decode cJ6_bitCount_0f7a4 18 = .ok (.ldc_w 266, 3) := by decide +kernel
theorem dJ6_bitCount_0f7a4_21 : decode cJ6_bitCount_0f7a4 21 = .ok (.iand, 1) := by decide +kernel
theorem dJ6_bitCount_0f7a4_22 : decode cJ6_bitCount_0f7a4 22 = .ok (.iadd, 1) := by decide +kernel
theorem dJ6_bitCount_0f7a4_23 : decode cJ6_bitCount_0f7a4 23 = .ok (.istore_n 0, 1) := by decide +kernel
theorem dJ6_bitCount_0f7a4_24 : decode cJ6_bitCount_0f7a4 24 = .ok (.iload_n 0, 1) := by decide +kernel
theorem dJ6_bitCount_0f7a4_25 : decode cJ6_bitCount_0f7a4 25 = .ok (.iload_n 0, 1) := by decide +kernel
theorem dJ6_bitCount_0f7a4_26 : decode cJ6_bitCount_0f7a4 26 = .ok (.iconst 4, 1) := by decide +kernel
theorem dJ6_bitCount_0f7a4_27 : decode cJ6_bitCount_0f7a4 27 = .ok (.iushr, 1) := by decide +kernel
theorem dJ6_bitCount_0f7a4_28 : decode cJ6_bitCount_0f7a4 28 = .ok (.iadd, 1) := by decide +kernel
theorem dJ6_bitCount_0f7a4_29 : decode cJ6_bitCount_0f7a4 29 = .ok (.ldc_w 267, 3) := by decide +kernel
theorem dJ6_bitCount_0f7a4_32 : decode cJ6_bitCount_0f7a4 32 = .ok (.iand, 1) := by decide +kernel
theorem dJ6_bitCount_0f7a4_33 : decode cJ6_bitCount_0f7a4 33 = .ok (.istore_n 0, 1) := by decide +kernel
theorem dJ6_bitCount_0f7a4_34 : decode cJ6_bitCount_0f7a4 34 = .ok (.iload_n 0, 1) := by decide +kernel
theorem dJ6_bitCount_0f7a4_35 : decode cJ6_bitCount_0f7a4 35 = .ok (.iload_n 0, 1) := by decide +kernel
theorem dJ6_bitCount_0f7a4_36 : decode cJ6_bitCount_0f7a4 36 = .ok (.bipush 8, 2) := by decide +kernel
theorem dJ6_bitCount_0f7a4_38 : decode cJ6_bitCount_0f7a4 38 = .ok (.iushr, 1) := by decide +kernel
theorem dJ6_bitCount_0f7a4_39 : decode cJ6_bitCount_0f7a4 39 = .ok (.iadd, 1) := by decide +kernel
theorem dJ6_bitCount_0f7a4_40 : decode cJ6_bitCount_0f7a4 40 = .ok (.istore_n 0, 1) := by decide +kernel
theorem dJ6_bitCount_0f7a4_41 : decode cJ6_bitCount_0f7a4 41 = .ok (.iload_n 0, 1) := by decide +kernel
theorem dJ6_bitCount_0f7a4_42 : decode cJ6_bitCount_0f7a4 42 = .ok (.iload_n 0, 1) := by decide +kernel
theorem dJ6_bitCount_0f7a4_43 : decode cJ6_bitCount_0f7a4 43 = .ok (.bipush 16, 2) := by decide +kernel
theorem dJ6_bitCount_0f7a4_45 : decode cJ6_bitCount_0f7a4 45 = .ok (.iushr, 1) := by decide +kernel
theorem dJ6_bitCount_0f7a4_46 : decode cJ6_bitCount_0f7a4 46 = .ok (.iadd, 1) := by decide +kernel
theorem dJ6_bitCount_0f7a4_47 : decode cJ6_bitCount_0f7a4 47 = .ok (.istore_n 0, 1) := by decide +kernel
theorem dJ6_bitCount_0f7a4_48 : decode cJ6_bitCount_0f7a4 48 = .ok (.iload_n 0, 1) := by decide +kernel
theorem dJ6_bitCount_0f7a4_49 : decode cJ6_bitCount_0f7a4 49 = .ok (.bipush 63, 2) := by decide +kernel
theorem dJ6_bitCount_0f7a4_51 : decode cJ6_bitCount_0f7a4 51 = .ok (.iand, 1) := by decide +kernel
theorem dJ6_bitCount_0f7a4_52 : decode cJ6_bitCount_0f7a4 52 = .ok (.ireturn, 1) := by decide +kernel
theorem dJ9_max_7cf53_0 : decode cJ9_max_7cf53 0 = .ok (.iload_n 0, 1) := by decide +kernel
theorem dJ9_max_7cf53_1 : decode cJ9_max_7cf53 1 = .ok (.iload_n 1, 1) := by decide +kernel
theorem dJ9_max_7cf53_2 : decode cJ9_max_7cf53 2 = .ok (.if_icmp .lt 7, 3) := by decide +kernel
theorem dJ9_max_7cf53_5 : decode cJ9_max_7cf53 5 = .ok (.iload_n 0, 1) := by decide +kernel
theorem dJ9_max_7cf53_6 : decode cJ9_max_7cf53 6 = .ok (.goto 4, 3) := by decide +kernel
theorem dJ9_max_7cf53_9 : decode cJ9_max_7cf53 9 = .ok (.iload_n 1, 1) := by decide +kernel
theorem dJ9_max_7cf53_10 : decode cJ9_max_7cf53 10 = .ok (.ireturn, 1) := by decide +kernel
theorem dJ9_min_7cf53_0 : decode cJ9_min_7cf53 0 = .ok (.iload_n 0, 1) := by decide +kernel
theorem dJ9_min_7cf53_1 : decode cJ9_min_7cf53 1 = .ok (.iload_n 1, 1) := by decide +kernel
theorem dJ9_min_7cf53_2 : decode cJ9_min_7cf53 2 = .ok (.if_icmp .gt 7, 3) := by decide +kernel
theorem dJ9_min_7cf53_5 : decode cJ9_min_7cf53 5 = .ok (.iload_n 0, 1) := by decide +kernel
theorem dJ9_min_7cf53_6 : decode cJ9_min_7cf53 6 = .ok (.goto 4, 3) := by decide +kernel
theorem dJ9_min_7cf53_9 : decode cJ9_min_7cf53 9 = .ok (.iload_n 1, 1) := by decide +kernel
theorem dJ9_min_7cf53_10 : decode cJ9_min_7cf53 10 = .ok (.ireturn, 1) := by decide +kernel
theorem dL_cell_0 : decode cL_cell 0 = .ok (.iload_n 1, 1) := by decide +kernel
theorem dL_cell_1 : decode cL_cell 1 = .ok (.aload_n 0, 1) := by decide +kernel
theorem dL_cell_2 : decode cL_cell 2 = .ok (.arraylength, 1) := by decide +kernel
theorem dL_cell_3 : decode cL_cell 3 = .ok (.if_icmp .ge 9, 3) := by decide +kernel
theorem dL_cell_6 : decode cL_cell 6 = .ok (.aload_n 0, 1) := by decide +kernel
theorem dL_cell_7 : decode cL_cell 7 = .ok (.iload_n 1, 1) := by decide +kernel
theorem dL_cell_8 : decode cL_cell 8 = .ok (.iaload, 1) := by decide +kernel
theorem dL_cell_9 : decode cL_cell 9 = .ok (.goto 11, 3) := by decide +kernel
theorem dL_cell_12 : decode cL_cell 12 = .ok (.ldc 7, 2) := by decide +kernel
theorem dL_cell_14 : decode cL_cell 14 = .ok (.iload_n 1, 1) := by decide +kernel
theorem dL_cell_15 : decode cL_cell 15 = .ok (.sipush 1109, 3) := by decide +kernel
theorem dL_cell_18 : decode cL_cell 18 = .ok (.iadd, 1) := by decide +kernel
theorem dL_cell_19 : decode cL_cell 19 = .ok (.imul, 1) := by decide +kernel
theorem dL_cell_20 : decode cL_cell 20 = .ok (.ireturn, 1) := by decide +kernel
theorem dL_up_0 : decode cL_up 0 = .ok (.iload_n 0, 1) := by decide +kernel
theorem dL_up_1 : decode cL_up 1 = .ok (.ldc 8, 2) := by decide +kernel
theorem dL_up_3 : decode cL_up 3 = .ok (.iand, 1) := by decide +kernel
theorem dL_up_4 : decode cL_up 4 = .ok (.iload_n 1, 1) := by decide +kernel
theorem dL_up_5 : decode cL_up 5 = .ok (.irem, 1) := by decide +kernel
theorem dL_up_6 : decode cL_up 6 = .ok (.ireturn, 1) := by decide +kernel
theorem dL_isStep_0 : decode cL_isStep 0 = .ok (.iload_n 3, 1) := by decide +kernel
theorem dL_isStep_1 : decode cL_isStep 1 = .ok (.iconst 4, 1) := by decide +kernel
theorem dL_isStep_2 : decode cL_isStep 2 = .ok (.ishr, 1) := by decide +kernel
theorem dL_isStep_3 : decode cL_isStep 3 = .ok (.istore 4, 2) := by decide +kernel
theorem dL_isStep_5 : decode cL_isStep 5 = .ok (.aload_n 0, 1) := by decide +kernel
theorem dL_isStep_6 : decode cL_isStep 6 = .ok (.iconst 3, 1) := by decide +kernel
theorem dL_isStep_7 : decode cL_isStep 7 = .ok (.invokevirtual 9, 3) := by decide +kernel
theorem dL_isStep_10 : decode cL_isStep 10 = .ok (.istore 5, 2) := by decide +kernel
theorem dL_isStep_12 : decode cL_isStep 12 = .ok (.aload_n 0, 1) := by decide +kernel
theorem dL_isStep_13 : decode cL_isStep 13 = .ok (.iconst 0, 1) := by decide +kernel
theorem dL_isStep_14 : decode cL_isStep 14 = .ok (.invokevirtual 9, 3) := by decide +kernel
theorem dL_isStep_17 : decode cL_isStep 17 = .ok (.istore 6, 2) := by decide +kernel
theorem dL_isStep_19 : decode cL_isStep 19 = .ok (.iload_n 3, 1) := by decide +kernel
theorem dL_isStep_20 : decode cL_isStep 20 = .ok (.bipush 15, 2) := by decide +kernel
theorem dL_isStep_22 : decode cL_isStep 22 = .ok (.invokestatic 15, 3) := by decide +kernel
theorem dL_isStep_25 : decode cL_isStep 25 = .ok (.tableswitch 818 0 12 #[67, 67, 127, 127, 359, 359, 359, 359, 359, 492, 537, 638, 638], 67) := by decide +kernel
theorem dL_isStep_92 : decode cL_isStep 92 = .ok (.iload 4, 2) := by decide +kernel
theorem dL_isStep_94 : decode cL_isStep 94 = .ok (.iconst 3, 1) := by decide +kernel
theorem dL_isStep_95 : decode cL_isStep 95 = .ok (.invokestatic 15, 3) := by decide +kernel
theorem dL_isStep_98 : decode cL_isStep 98 = .ok (.istore 7, 2) := by decide +kernel
theorem dL_isStep_100 : decode cL_isStep 100 = .ok (.bipush 40, 2) := by decide +kernel
theorem dL_isStep_102 : decode cL_isStep 102 = .ok (.iload 4, 2) := by decide +kernel
theorem dL_isStep_104 : decode cL_isStep 104 = .ok (.iconst 2, 1) := by decide +kernel
theorem dL_isStep_105 : decode cL_isStep 105 = .ok (.ishr, 1) := by decide +kernel
theorem dL_isStep_106 : decode cL_isStep 106 = .ok (.sipush 190, 3) := by decide +kernel
theorem dL_isStep_109 : decode cL_isStep 109 = .ok (.invokestatic 15, 3) := by decide +kernel
theorem dL_isStep_112 : decode cL_isStep 112 = .ok (.iadd, 1) := by decide +kernel
theorem dL_isStep_113 : decode cL_isStep 113 = .ok (.istore 8, 2) := by decide +kernel
theorem dL_isStep_115 : decode cL_isStep 115 = .ok (.aload_n 0, 1) := by decide +kernel
theorem dL_isStep_116 : decode cL_isStep 116 = .ok (.iload 7, 2) := by decide +kernel
theorem dL_isStep_118 : decode cL_isStep 118 = .ok (.iload 8, 2) := by decide +kernel
theorem dL_isStep_120 : decode cL_isStep 120 = .ok (.invokevirtual 21, 3) := by decide +kernel
theorem dL_isStep_123 : decode cL_isStep 123 = .ok (.aload_n 1, 1) := by decide +kernel
theorem dL_isStep_124 : decode cL_isStep 124 = .ok (.iload 7, 2) := by decide +kernel
theorem dL_isStep_126 : decode cL_isStep 126 = .ok (.iload 8, 2) := by decide +kernel
theorem dL_isStep_128 : decode cL_isStep 128 = .ok (.invokevirtual 21, 3) := by decide +kernel
theorem dL_isStep_131 : decode cL_isStep 131 = .ok (.if_icmp .ne 19, 3) := by decide +kernel
theorem dL_isStep_134 : decode cL_isStep 134 = .ok (.aload_n 0, 1) := by decide +kernel
theorem dL_isStep_135 : decode cL_isStep 135 = .ok (.iload 7, 2) := by decide +kernel
theorem dL_isStep_137 : decode cL_isStep 137 = .ok (.iconst 0, 1) := by decide +kernel
theorem dL_isStep_138 : decode cL_isStep 138 = .ok (.invokevirtual 24, 3) := by decide +kernel
theorem dL_isStep_141 : decode cL_isStep 141 = .ok (.iload 8, 2) := by decide +kernel
theorem dL_isStep_143 : decode cL_isStep 143 = .ok (.if_icmp .ne 7, 3) := by decide +kernel
theorem dL_isStep_146 : decode cL_isStep 146 = .ok (.iconst 1, 1) := by decide +kernel
theorem dL_isStep_147 : decode cL_isStep 147 = .ok (.goto 4, 3) := by decide +kernel
theorem dL_isStep_150 : decode cL_isStep 150 = .ok (.iconst 0, 1) := by decide +kernel
theorem dL_isStep_151 : decode cL_isStep 151 = .ok (.ireturn, 1) := by decide +kernel
theorem dL_isStep_152 : decode cL_isStep 152 = .ok (.iconst 1, 1) := by decide +kernel
theorem dL_isStep_153 : decode cL_isStep 153 = .ok (.iload 4, 2) := by decide +kernel
theorem dL_isStep_155 : decode cL_isStep 155 = .ok (.bipush 6, 2) := by decide +kernel
theorem dL_isStep_157 : decode cL_isStep 157 = .ok (.invokestatic 15, 3) := by decide +kernel
theorem dL_isStep_160 : decode cL_isStep 160 = .ok (.iadd, 1) := by decide +kernel
theorem dL_isStep_161 : decode cL_isStep 161 = .ok (.istore 7, 2) := by decide +kernel
theorem dL_isStep_163 : decode cL_isStep 163 = .ok (.aload_n 0, 1) := by decide +kernel
theorem dL_isStep_164 : decode cL_isStep 164 = .ok (.invokevirtual 27, 3) := by decide +kernel
theorem dL_isStep_167 : decode cL_isStep 167 = .ok (.aload_n 1, 1) := by decide +kernel
theorem dL_isStep_168 : decode cL_isStep 168 = .ok (.invokevirtual 27, 3) := by decide +kernel
theorem dL_isStep_171 : decode cL_isStep 171 = .ok (.if_icmp .ne 7, 3) := by decide +kernel
theorem dL_isStep_174 : decode cL_isStep 174 = .ok (.iconst 1, 1) := by decide +kernel
theorem dL_isStep_175 : decode cL_isStep 175 = .ok (.goto 4, 3) := by decide +kernel
theorem dL_isStep_178 : decode cL_isStep 178 = .ok (.iconst 0, 1) := by decide +kernel
theorem dL_isStep_179 : decode cL_isStep 179 = .ok (.istore 8, 2) := by decide +kernel
theorem dL_isStep_181 : decode cL_isStep 181 = .ok (.iconst 0, 1) := by decide +kernel
theorem dL_isStep_182 : decode cL_isStep 182 = .ok (.istore 9, 2) := by decide +kernel
theorem dL_isStep_184 : decode cL_isStep 184 = .ok (.iload 9, 2) := by decide +kernel
theorem dL_isStep_186 : decode cL_isStep 186 = .ok (.iload 7, 2) := by decide +kernel
theorem dL_isStep_188 : decode cL_isStep 188 = .ok (.if_icmp .ge 141, 3) := by decide +kernel
theorem dL_isStep_191 : decode cL_isStep 191 = .ok (.iload 4, 2) := by decide +kernel
theorem dL_isStep_193 : decode cL_isStep 193 = .ok (.iconst 2, 1) := by decide +kernel
theorem dL_isStep_194 : decode cL_isStep 194 = .ok (.iload 9, 2) := by decide +kernel
theorem dL_isStep_196 : decode cL_isStep 196 = .ok (.imul, 1) := by decide +kernel
theorem dL_isStep_197 : decode cL_isStep 197 = .ok (.ishr, 1) := by decide +kernel
theorem dL_isStep_198 : decode cL_isStep 198 = .ok (.bipush 8, 2) := by decide +kernel
theorem dL_isStep_200 : decode cL_isStep 200 = .ok (.invokestatic 15, 3) := by decide +kernel
theorem dL_isStep_203 : decode cL_isStep 203 = .ok (.istore 10, 2) := by decide +kernel
theorem dL_isStep_205 : decode cL_isStep 205 = .ok (.iload 8, 2) := by decide +kernel
theorem dL_isStep_207 : decode cL_isStep 207 = .ok (.ifCond .eq 47, 3) := by decide +kernel
theorem dL_isStep_210 : decode cL_isStep 210 = .ok (.iload 9, 2) := by decide +kernel
theorem dL_isStep_212 : decode cL_isStep 212 = .ok (.ifCond .eq 18, 3) := by decide +kernel
theorem dL_isStep_215 : decode cL_isStep 215 = .ok (.aload_n 0, 1) := by decide +kernel
theorem dL_isStep_216 : decode cL_isStep 216 = .ok (.bipush 44, 2) := by decide +kernel
theorem dL_isStep_218 : decode cL_isStep 218 = .ok (.invokevirtual 31, 3) := by decide +kernel
theorem dL_isStep_221 : decode cL_isStep 221 = .ok (.aload_n 1, 1) := by decide +kernel
theorem dL_isStep_222 : decode cL_isStep 222 = .ok (.bipush 44, 2) := by decide +kernel
theorem dL_isStep_224 : decode cL_isStep 224 = .ok (.invokevirtual 31, 3) := by decide +kernel
theorem dL_isStep_227 : decode cL_isStep 227 = .ok (.if_icmp .ne 27, 3) := by decide +kernel
theorem dL_isStep_230 : decode cL_isStep 230 = .ok (.iload 10, 2) := by decide +kernel
theorem dL_isStep_232 : decode cL_isStep 232 = .ok (.ifCond .gt 18, 3) := by decide +kernel
theorem dL_isStep_235 : decode cL_isStep 235 = .ok (.aload_n 0, 1) := by decide +kernel
theorem dL_isStep_236 : decode cL_isStep 236 = .ok (.bipush 45, 2) := by decide +kernel
theorem dL_isStep_238 : decode cL_isStep 238 = .ok (.invokevirtual 31, 3) := by decide +kernel
theorem dL_isStep_241 : decode cL_isStep 241 = .ok (.aload_n 1, 1) := by decide +kernel
theorem dL_isStep_242 : decode cL_isStep 242 = .ok (.bipush 45, 2) := by decide +kernel
theorem dL_isStep_244 : decode cL_isStep 244 = .ok (.invokevirtual 31, 3) := by decide +kernel
theorem dL_isStep_247 : decode cL_isStep 247 = .ok (.if_icmp .ne 7, 3) := by decide +kernel
theorem dL_isStep_250 : decode cL_isStep 250 = .ok (.iconst 1, 1) := by decide +kernel
theorem dL_isStep_251 : decode cL_isStep 251 = .ok (.goto 4, 3) := by decide +kernel
theorem dL_isStep_254 : decode cL_isStep 254 = .ok (.iconst 0, 1) := by decide +kernel
theorem dL_isStep_255 : decode cL_isStep 255 = .ok (.istore 8, 2) := by decide +kernel
theorem dL_isStep_257 : decode cL_isStep 257 = .ok (.iconst 0, 1) := by decide +kernel
theorem dL_isStep_258 : decode cL_isStep 258 = .ok (.istore 11, 2) := by decide +kernel
theorem dL_isStep_260 : decode cL_isStep 260 = .ok (.iload 11, 2) := by decide +kernel
theorem dL_isStep_262 : decode cL_isStep 262 = .ok (.iconst 3, 1) := by decide +kernel
theorem dL_isStep_263 : decode cL_isStep 263 = .ok (.if_icmp .ge 54, 3) := by decide +kernel
theorem dL_isStep_266 : decode cL_isStep 266 = .ok (.iload 8, 2) := by decide +kernel
theorem dL_isStep_268 : decode cL_isStep 268 = .ok (.ifCond .eq 40, 3) := by decide +kernel
theorem dL_isStep_271 : decode cL_isStep 271 = .ok (.iload 10, 2) := by decide +kernel
theorem dL_isStep_273 : decode cL_isStep 273 = .ok (.iload 11, 2) := by decide +kernel
theorem dL_isStep_275 : decode cL_isStep 275 = .ok (.ishr, 1) := by decide +kernel
theorem dL_isStep_276 : decode cL_isStep 276 = .ok (.iconst 1, 1) := by decide +kernel
theorem dL_isStep_277 : decode cL_isStep 277 = .ok (.iand, 1) := by decide +kernel
theorem dL_isStep_278 : decode cL_isStep 278 = .ok (.ifCond .eq 26, 3) := by decide +kernel
theorem dL_isStep_281 : decode cL_isStep 281 = .ok (.aload_n 0, 1) := by decide +kernel
theorem dL_isStep_282 : decode cL_isStep 282 = .ok (.bipush 48, 2) := by decide +kernel
theorem dL_isStep_284 : decode cL_isStep 284 = .ok (.iload 11, 2) := by decide +kernel
theorem dL_isStep_286 : decode cL_isStep 286 = .ok (.iadd, 1) := by decide +kernel
theorem dL_isStep_287 : decode cL_isStep 287 = .ok (.i2c, 1) := by decide +kernel
theorem dL_isStep_288 : decode cL_isStep 288 = .ok (.invokevirtual 31, 3) := by decide +kernel
theorem dL_isStep_291 : decode cL_isStep 291 = .ok (.aload_n 1, 1) := by decide +kernel
theorem dL_isStep_292 : decode cL_isStep 292 = .ok (.bipush 48, 2) := by decide +kernel
theorem dL_isStep_294 : decode cL_isStep 294 = .ok (.iload 11, 2) := by decide +kernel
theorem dL_isStep_296 : decode cL_isStep 296 = .ok (.iadd, 1) := by decide +kernel
theorem dL_isStep_297 : decode cL_isStep 297 = .ok (.i2c, 1) := by decide +kernel
theorem dL_isStep_298 : decode cL_isStep 298 = .ok (.invokevirtual 31, 3) := by decide +kernel
theorem dL_isStep_301 : decode cL_isStep 301 = .ok (.if_icmp .ne 7, 3) := by decide +kernel
theorem dL_isStep_304 : decode cL_isStep 304 = .ok (.iconst 1, 1) := by decide +kernel
theorem dL_isStep_305 : decode cL_isStep 305 = .ok (.goto 4, 3) := by decide +kernel
theorem dL_isStep_308 : decode cL_isStep 308 = .ok (.iconst 0, 1) := by decide +kernel
theorem dL_isStep_309 : decode cL_isStep 309 = .ok (.istore 8, 2) := by decide +kernel
theorem dL_isStep_311 : decode cL_isStep 311 = .ok (.iinc 11 1, 3) := by decide +kernel
theorem dL_isStep_314 : decode cL_isStep 314 = .ok (.goto (-54), 3) := by decide +kernel
theorem dL_isStep_317 : decode cL_isStep 317 = .ok (.aload_n 2, 1) := by decide +kernel
theorem dL_isStep_318 : decode cL_isStep 318 = .ok (.iload 9, 2) := by decide +kernel
theorem dL_isStep_320 : decode cL_isStep 320 = .ok (.iload 10, 2) := by decide +kernel
theorem dL_isStep_322 : decode cL_isStep 322 = .ok (.iastore, 1) := by decide +kernel
theorem dL_isStep_323 : decode cL_isStep 323 = .ok (.iinc 9 1, 3) := by decide +kernel
theorem dL_isStep_326 : decode cL_isStep 326 = .ok (.goto (-142), 3) := by decide +kernel
theorem dL_isStep_329 : decode cL_isStep 329 = .ok (.iload 8, 2) := by decide +kernel
theorem dL_isStep_331 : decode cL_isStep 331 = .ok (.ifCond .eq 51, 3) := by decide +kernel
theorem dL_isStep_334 : decode cL_isStep 334 = .ok (.aload_n 0, 1) := by decide +kernel
theorem dL_isStep_335 : decode cL_isStep 335 = .ok (.invokevirtual 35, 3) := by decide +kernel
theorem dL_isStep_338 : decode cL_isStep 338 = .ok (.iload 7, 2) := by decide +kernel
theorem dL_isStep_340 : decode cL_isStep 340 = .ok (.if_icmp .ne 42, 3) := by decide +kernel
theorem dL_isStep_343 : decode cL_isStep 343 = .ok (.aload_n 1, 1) := by decide +kernel
theorem dL_isStep_344 : decode cL_isStep 344 = .ok (.invokevirtual 35, 3) := by decide +kernel
theorem dL_isStep_347 : decode cL_isStep 347 = .ok (.iload 7, 2) := by decide +kernel
theorem dL_isStep_349 : decode cL_isStep 349 = .ok (.if_icmp .ne 33, 3) := by decide +kernel
theorem dL_isStep_352 : decode cL_isStep 352 = .ok (.aload_n 0, 1) := by decide +kernel
theorem dL_isStep_353 : decode cL_isStep 353 = .ok (.iload 7, 2) := by decide +kernel
theorem dL_isStep_355 : decode cL_isStep 355 = .ok (.iconst 1, 1) := by decide +kernel
theorem dL_isStep_356 : decode cL_isStep 356 = .ok (.isub, 1) := by decide +kernel
theorem dL_isStep_357 : decode cL_isStep 357 = .ok (.invokevirtual 38, 3) := by decide +kernel
theorem dL_isStep_360 : decode cL_isStep 360 = .ok (.aload_n 2, 1) := by decide +kernel
theorem dL_isStep_361 : decode cL_isStep 361 = .ok (.iload 7, 2) := by decide +kernel
theorem dL_isStep_363 : decode cL_isStep 363 = .ok (.iconst 1, 1) := by decide +kernel
theorem dL_isStep_364 : decode cL_isStep 364 = .ok (.isub, 1) := by decide +kernel
theorem dL_isStep_365 : decode cL_isStep 365 = .ok (.iaload, 1) := by decide +kernel
theorem dL_isStep_366 : decode cL_isStep 366 = .ok (.if_icmp .ne 16, 3) := by decide +kernel
theorem dL_isStep_369 : decode cL_isStep 369 = .ok (.aload_n 0, 1) := by decide +kernel
theorem dL_isStep_370 : decode cL_isStep 370 = .ok (.bipush 11, 2) := by decide +kernel
theorem dL_isStep_372 : decode cL_isStep 372 = .ok (.invokevirtual 9, 3) := by decide +kernel
theorem dL_isStep_375 : decode cL_isStep 375 = .ok (.ifCond .ne 7, 3) := by decide +kernel
theorem dL_isStep_378 : decode cL_isStep 378 = .ok (.iconst 1, 1) := by decide +kernel
theorem dL_isStep_379 : decode cL_isStep 379 = .ok (.goto 4, 3) := by decide +kernel
theorem dL_isStep_382 : decode cL_isStep 382 = .ok (.iconst 0, 1) := by decide +kernel
theorem dL_isStep_383 : decode cL_isStep 383 = .ok (.ireturn, 1) := by decide +kernel
theorem dL_isStep_384 : decode cL_isStep 384 = .ok (.iconst 1, 1) := by decide +kernel
theorem dL_isStep_385 : decode cL_isStep 385 = .ok (.iload 4, 2) := by decide +kernel
theorem dL_isStep_387 : decode cL_isStep 387 = .ok (.iload 4, 2) := by decide +kernel
theorem dL_isStep_389 : decode cL_isStep 389 = .ok (.bipush 6, 2) := by decide +kernel
theorem dL_isStep_391 : decode cL_isStep 391 = .ok (.ishr, 1) := by decide +kernel
theorem dL_isStep_392 : decode cL_isStep 392 = .ok (.iconst 3, 1) := by decide +kernel
theorem dL_isStep_393 : decode cL_isStep 393 = .ok (.invokestatic 15, 3) := by decide +kernel
theorem dL_isStep_396 : decode cL_isStep 396 = .ok (.ifCond .ne 9, 3) := by decide +kernel
theorem dL_isStep_399 : decode cL_isStep 399 = .ok (.sipush 200, 3) := by decide +kernel
theorem dL_isStep_402 : decode cL_isStep 402 = .ok (.goto 5, 3) := by decide +kernel
theorem dL_isStep_405 : decode cL_isStep 405 = .ok (.bipush 30, 2) := by decide +kernel
theorem dL_isStep_407 : decode cL_isStep 407 = .ok (.invokestatic 15, 3) := by decide +kernel
theorem dL_isStep_410 : decode cL_isStep 410 = .ok (.iadd, 1) := by decide +kernel
theorem dL_isStep_411 : decode cL_isStep 411 = .ok (.istore 7, 2) := by decide +kernel
theorem dL_isStep_413 : decode cL_isStep 413 = .ok (.aload_n 0, 1) := by decide +kernel
theorem dL_isStep_414 : decode cL_isStep 414 = .ok (.iload 7, 2) := by decide +kernel
theorem dL_isStep_416 : decode cL_isStep 416 = .ok (.invokevirtual 41, 3) := by decide +kernel
theorem dL_isStep_419 : decode cL_isStep 419 = .ok (.istore 8, 2) := by decide +kernel
theorem dL_isStep_421 : decode cL_isStep 421 = .ok (.iload 8, 2) := by decide +kernel
theorem dL_isStep_423 : decode cL_isStep 423 = .ok (.ifCond .lt 14, 3) := by decide +kernel
theorem dL_isStep_426 : decode cL_isStep 426 = .ok (.iload 8, 2) := by decide +kernel
theorem dL_isStep_428 : decode cL_isStep 428 = .ok (.iload 7, 2) := by decide +kernel
theorem dL_isStep_430 : decode cL_isStep 430 = .ok (.if_icmp .gt 7, 3) := by decide +kernel
theorem dL_isStep_433 : decode cL_isStep 433 = .ok (.iconst 1, 1) := by decide +kernel
theorem dL_isStep_434 : decode cL_isStep 434 = .ok (.goto 4, 3) := by decide +kernel
theorem dL_isStep_437 : decode cL_isStep 437 = .ok (.iconst 0, 1) := by decide +kernel
theorem dL_isStep_438 : decode cL_isStep 438 = .ok (.istore 9, 2) := by decide +kernel
theorem dL_isStep_440 : decode cL_isStep 440 = .ok (.iconst 0, 1) := by decide +kernel
theorem dL_isStep_441 : decode cL_isStep 441 = .ok (.istore 10, 2) := by decide +kernel
theorem dL_isStep_443 : decode cL_isStep 443 = .ok (.iload 10, 2) := by decide +kernel
theorem dL_isStep_445 : decode cL_isStep 445 = .ok (.iload 7, 2) := by decide +kernel
theorem dL_isStep_447 : decode cL_isStep 447 = .ok (.if_icmp .ge 20, 3) := by decide +kernel
theorem dL_isStep_450 : decode cL_isStep 450 = .ok (.iload 9, 2) := by decide +kernel
theorem dL_isStep_452 : decode cL_isStep 452 = .ok (.ifCond .eq 15, 3) := by decide +kernel
theorem dL_isStep_455 : decode cL_isStep 455 = .ok (.aload_n 1, 1) := by decide +kernel
theorem dL_isStep_456 : decode cL_isStep 456 = .ok (.invokestatic 44, 3) := by decide +kernel
theorem dL_isStep_459 : decode cL_isStep 459 = .ok (.istore 9, 2) := by decide +kernel
theorem dL_isStep_461 : decode cL_isStep 461 = .ok (.iinc 10 1, 3) := by decide +kernel
theorem dL_isStep_464 : decode cL_isStep 464 = .ok (.goto (-21), 3) := by decide +kernel
theorem dL_isStep_467 : decode cL_isStep 467 = .ok (.iload 9, 2) := by decide +kernel
theorem dL_isStep_469 : decode cL_isStep 469 = .ok (.ifCond .eq 46, 3) := by decide +kernel
theorem dL_isStep_472 : decode cL_isStep 472 = .ok (.aload_n 1, 1) := by decide +kernel
theorem dL_isStep_473 : decode cL_isStep 473 = .ok (.iconst 5, 1) := by decide +kernel
theorem dL_isStep_474 : decode cL_isStep 474 = .ok (.invokevirtual 9, 3) := by decide +kernel
theorem dL_isStep_477 : decode cL_isStep 477 = .ok (.aload_n 0, 1) := by decide +kernel
theorem dL_isStep_478 : decode cL_isStep 478 = .ok (.iconst 5, 1) := by decide +kernel
theorem dL_isStep_479 : decode cL_isStep 479 = .ok (.invokevirtual 9, 3) := by decide +kernel
theorem dL_isStep_482 : decode cL_isStep 482 = .ok (.if_icmp .ne 33, 3) := by decide +kernel
theorem dL_isStep_485 : decode cL_isStep 485 = .ok (.aload_n 0, 1) := by decide +kernel
theorem dL_isStep_486 : decode cL_isStep 486 = .ok (.iconst 3, 1) := by decide +kernel
theorem dL_isStep_487 : decode cL_isStep 487 = .ok (.invokevirtual 9, 3) := by decide +kernel
theorem dL_isStep_490 : decode cL_isStep 490 = .ok (.aload_n 1, 1) := by decide +kernel
theorem dL_isStep_491 : decode cL_isStep 491 = .ok (.iconst 3, 1) := by decide +kernel
theorem dL_isStep_492 : decode cL_isStep 492 = .ok (.invokevirtual 9, 3) := by decide +kernel
theorem dL_isStep_495 : decode cL_isStep 495 = .ok (.if_icmp .ne 20, 3) := by decide +kernel
theorem dL_isStep_498 : decode cL_isStep 498 = .ok (.aload_n 0, 1) := by decide +kernel
theorem dL_isStep_499 : decode cL_isStep 499 = .ok (.iconst 3, 1) := by decide +kernel
theorem dL_isStep_500 : decode cL_isStep 500 = .ok (.invokevirtual 9, 3) := by decide +kernel
theorem dL_isStep_503 : decode cL_isStep 503 = .ok (.iload 5, 2) := by decide +kernel
theorem dL_isStep_505 : decode cL_isStep 505 = .ok (.iload 7, 2) := by decide +kernel
theorem dL_isStep_507 : decode cL_isStep 507 = .ok (.iadd, 1) := by decide +kernel
theorem dL_isStep_508 : decode cL_isStep 508 = .ok (.if_icmp .lt 7, 3) := by decide +kernel
theorem dL_isStep_511 : decode cL_isStep 511 = .ok (.iconst 1, 1) := by decide +kernel
theorem dL_isStep_512 : decode cL_isStep 512 = .ok (.goto 4, 3) := by decide +kernel
theorem dL_isStep_515 : decode cL_isStep 515 = .ok (.iconst 0, 1) := by decide +kernel
theorem dL_isStep_516 : decode cL_isStep 516 = .ok (.ireturn, 1) := by decide +kernel
theorem dL_isStep_517 : decode cL_isStep 517 = .ok (.sipush 500, 3) := by decide +kernel
theorem dL_isStep_520 : decode cL_isStep 520 = .ok (.iload 4, 2) := by decide +kernel
theorem dL_isStep_522 : decode cL_isStep 522 = .ok (.sipush 701, 3) := by decide +kernel
theorem dL_isStep_525 : decode cL_isStep 525 = .ok (.invokestatic 15, 3) := by decide +kernel
theorem dL_isStep_528 : decode cL_isStep 528 = .ok (.iadd, 1) := by decide +kernel
theorem dL_isStep_529 : decode cL_isStep 529 = .ok (.istore 7, 2) := by decide +kernel
theorem dL_isStep_531 : decode cL_isStep 531 = .ok (.aload_n 0, 1) := by decide +kernel
theorem dL_isStep_532 : decode cL_isStep 532 = .ok (.iload 7, 2) := by decide +kernel
theorem dL_isStep_534 : decode cL_isStep 534 = .ok (.invokevirtual 48, 3) := by decide +kernel
theorem dL_isStep_537 : decode cL_isStep 537 = .ok (.aload_n 1, 1) := by decide +kernel
theorem dL_isStep_538 : decode cL_isStep 538 = .ok (.iload 7, 2) := by decide +kernel
theorem dL_isStep_540 : decode cL_isStep 540 = .ok (.invokevirtual 48, 3) := by decide +kernel
theorem dL_isStep_543 : decode cL_isStep 543 = .ok (.if_icmp .ne 17, 3) := by decide +kernel
theorem dL_isStep_546 : decode cL_isStep 546 = .ok (.aload_n 0, 1) := by decide +kernel
theorem dL_isStep_547 : decode cL_isStep 547 = .ok (.iconst 0, 1) := by decide +kernel
theorem dL_isStep_548 : decode cL_isStep 548 = .ok (.invokevirtual 9, 3) := by decide +kernel
theorem dL_isStep_551 : decode cL_isStep 551 = .ok (.iload 7, 2) := by decide +kernel
theorem dL_isStep_553 : decode cL_isStep 553 = .ok (.if_icmp .ne 7, 3) := by decide +kernel
theorem dL_isStep_556 : decode cL_isStep 556 = .ok (.iconst 1, 1) := by decide +kernel
theorem dL_isStep_557 : decode cL_isStep 557 = .ok (.goto 4, 3) := by decide +kernel
theorem dL_isStep_560 : decode cL_isStep 560 = .ok (.iconst 0, 1) := by decide +kernel
theorem dL_isStep_561 : decode cL_isStep 561 = .ok (.ireturn, 1) := by decide +kernel
theorem dL_isStep_562 : decode cL_isStep 562 = .ok (.iload 4, 2) := by decide +kernel
theorem dL_isStep_564 : decode cL_isStep 564 = .ok (.iconst 4, 1) := by decide +kernel
theorem dL_isStep_565 : decode cL_isStep 565 = .ok (.invokestatic 15, 3) := by decide +kernel
theorem dL_isStep_568 : decode cL_isStep 568 = .ok (.ifCond .le 7, 3) := by decide +kernel
theorem dL_isStep_571 : decode cL_isStep 571 = .ok (.iconst 1, 1) := by decide +kernel
theorem dL_isStep_572 : decode cL_isStep 572 = .ok (.goto 4, 3) := by decide +kernel
theorem dL_isStep_575 : decode cL_isStep 575 = .ok (.iconst 0, 1) := by decide +kernel
theorem dL_isStep_576 : decode cL_isStep 576 = .ok (.istore 7, 2) := by decide +kernel
theorem dL_isStep_578 : decode cL_isStep 578 = .ok (.aload_n 0, 1) := by decide +kernel
theorem dL_isStep_579 : decode cL_isStep 579 = .ok (.iconst 2, 1) := by decide +kernel
theorem dL_isStep_580 : decode cL_isStep 580 = .ok (.invokevirtual 9, 3) := by decide +kernel
theorem dL_isStep_583 : decode cL_isStep 583 = .ok (.iconst 1, 1) := by decide +kernel
theorem dL_isStep_584 : decode cL_isStep 584 = .ok (.if_icmp .ne 7, 3) := by decide +kernel
theorem dL_isStep_587 : decode cL_isStep 587 = .ok (.iconst 1, 1) := by decide +kernel
theorem dL_isStep_588 : decode cL_isStep 588 = .ok (.goto 4, 3) := by decide +kernel
theorem dL_isStep_591 : decode cL_isStep 591 = .ok (.iconst 0, 1) := by decide +kernel
theorem dL_isStep_592 : decode cL_isStep 592 = .ok (.istore 8, 2) := by decide +kernel
theorem dL_isStep_594 : decode cL_isStep 594 = .ok (.aload_n 0, 1) := by decide +kernel
theorem dL_isStep_595 : decode cL_isStep 595 = .ok (.iload 7, 2) := by decide +kernel
theorem dL_isStep_597 : decode cL_isStep 597 = .ok (.invokevirtual 51, 3) := by decide +kernel
theorem dL_isStep_600 : decode cL_isStep 600 = .ok (.istore 9, 2) := by decide +kernel
theorem dL_isStep_602 : decode cL_isStep 602 = .ok (.iload 9, 2) := by decide +kernel
theorem dL_isStep_604 : decode cL_isStep 604 = .ok (.aload_n 1, 1) := by decide +kernel
theorem dL_isStep_605 : decode cL_isStep 605 = .ok (.iload 7, 2) := by decide +kernel
theorem dL_isStep_607 : decode cL_isStep 607 = .ok (.invokevirtual 51, 3) := by decide +kernel
theorem dL_isStep_610 : decode cL_isStep 610 = .ok (.if_icmp .ne 51, 3) := by decide +kernel
theorem dL_isStep_613 : decode cL_isStep 613 = .ok (.iload 9, 2) := by decide +kernel
theorem dL_isStep_615 : decode cL_isStep 615 = .ok (.iload 7, 2) := by decide +kernel
theorem dL_isStep_617 : decode cL_isStep 617 = .ok (.iload 8, 2) := by decide +kernel
theorem dL_isStep_619 : decode cL_isStep 619 = .ok (.if_icmp .ne 8, 3) := by decide +kernel
theorem dL_isStep_622 : decode cL_isStep 622 = .ok (.bipush (-5), 2) := by decide +kernel
theorem dL_isStep_624 : decode cL_isStep 624 = .ok (.goto 5, 3) := by decide +kernel
theorem dL_isStep_627 : decode cL_isStep 627 = .ok (.iload 6, 2) := by decide +kernel
theorem dL_isStep_629 : decode cL_isStep 629 = .ok (.if_icmp .ne 32, 3) := by decide +kernel
theorem dL_isStep_632 : decode cL_isStep 632 = .ok (.iload 7, 2) := by decide +kernel
theorem dL_isStep_634 : decode cL_isStep 634 = .ok (.iload 8, 2) := by decide +kernel
theorem dL_isStep_636 : decode cL_isStep 636 = .ok (.if_icmp .eq 21, 3) := by decide +kernel
theorem dL_isStep_639 : decode cL_isStep 639 = .ok (.aload_n 0, 1) := by decide +kernel
theorem dL_isStep_640 : decode cL_isStep 640 = .ok (.bipush 8, 2) := by decide +kernel
theorem dL_isStep_642 : decode cL_isStep 642 = .ok (.invokevirtual 9, 3) := by decide +kernel
theorem dL_isStep_645 : decode cL_isStep 645 = .ok (.ifCond .ne 16, 3) := by decide +kernel
theorem dL_isStep_648 : decode cL_isStep 648 = .ok (.aload_n 0, 1) := by decide +kernel
theorem dL_isStep_649 : decode cL_isStep 649 = .ok (.bipush 9, 2) := by decide +kernel
theorem dL_isStep_651 : decode cL_isStep 651 = .ok (.invokevirtual 9, 3) := by decide +kernel
theorem dL_isStep_654 : decode cL_isStep 654 = .ok (.ifCond .ne 7, 3) := by decide +kernel
theorem dL_isStep_657 : decode cL_isStep 657 = .ok (.iconst 1, 1) := by decide +kernel
theorem dL_isStep_658 : decode cL_isStep 658 = .ok (.goto 4, 3) := by decide +kernel
theorem dL_isStep_661 : decode cL_isStep 661 = .ok (.iconst 0, 1) := by decide +kernel
theorem dL_isStep_662 : decode cL_isStep 662 = .ok (.ireturn, 1) := by decide +kernel
theorem dL_isStep_663 : decode cL_isStep 663 = .ok (.iload 4, 2) := by decide +kernel
theorem dL_isStep_665 : decode cL_isStep 665 = .ok (.bipush 7, 2) := by decide +kernel
theorem dL_isStep_667 : decode cL_isStep 667 = .ok (.invokestatic 15, 3) := by decide +kernel
theorem dL_isStep_670 : decode cL_isStep 670 = .ok (.istore 7, 2) := by decide +kernel
theorem dL_isStep_672 : decode cL_isStep 672 = .ok (.iload 7, 2) := by decide +kernel
theorem dL_isStep_674 : decode cL_isStep 674 = .ok (.ifCond .ne 19, 3) := by decide +kernel
theorem dL_isStep_677 : decode cL_isStep 677 = .ok (.bipush 100, 2) := by decide +kernel
theorem dL_isStep_679 : decode cL_isStep 679 = .ok (.iload 4, 2) := by decide +kernel
theorem dL_isStep_681 : decode cL_isStep 681 = .ok (.iconst 3, 1) := by decide +kernel
theorem dL_isStep_682 : decode cL_isStep 682 = .ok (.ishr, 1) := by decide +kernel
theorem dL_isStep_683 : decode cL_isStep 683 = .ok (.sipush 200, 3) := by decide +kernel
theorem dL_isStep_686 : decode cL_isStep 686 = .ok (.invokestatic 15, 3) := by decide +kernel
theorem dL_isStep_689 : decode cL_isStep 689 = .ok (.iadd, 1) := by decide +kernel
theorem dL_isStep_690 : decode cL_isStep 690 = .ok (.goto 112, 3) := by decide +kernel
theorem dL_isStep_693 : decode cL_isStep 693 = .ok (.iload 7, 2) := by decide +kernel
theorem dL_isStep_695 : decode cL_isStep 695 = .ok (.iconst 1, 1) := by decide +kernel
theorem dL_isStep_696 : decode cL_isStep 696 = .ok (.if_icmp .ne 16, 3) := by decide +kernel
theorem dL_isStep_699 : decode cL_isStep 699 = .ok (.iload 4, 2) := by decide +kernel
theorem dL_isStep_701 : decode cL_isStep 701 = .ok (.iconst 3, 1) := by decide +kernel
theorem dL_isStep_702 : decode cL_isStep 702 = .ok (.ishr, 1) := by decide +kernel
theorem dL_isStep_703 : decode cL_isStep 703 = .ok (.sipush 150, 3) := by decide +kernel
theorem dL_isStep_706 : decode cL_isStep 706 = .ok (.invokestatic 15, 3) := by decide +kernel
theorem dL_isStep_709 : decode cL_isStep 709 = .ok (.goto 93, 3) := by decide +kernel
theorem dL_isStep_712 : decode cL_isStep 712 = .ok (.iload 7, 2) := by decide +kernel
theorem dL_isStep_714 : decode cL_isStep 714 = .ok (.iconst 2, 1) := by decide +kernel
theorem dL_isStep_715 : decode cL_isStep 715 = .ok (.if_icmp .ne 17, 3) := by decide +kernel
theorem dL_isStep_718 : decode cL_isStep 718 = .ok (.iconst 1, 1) := by decide +kernel
theorem dL_isStep_719 : decode cL_isStep 719 = .ok (.iload 4, 2) := by decide +kernel
theorem dL_isStep_721 : decode cL_isStep 721 = .ok (.iconst 3, 1) := by decide +kernel
theorem dL_isStep_722 : decode cL_isStep 722 = .ok (.ishr, 1) := by decide +kernel
theorem dL_isStep_723 : decode cL_isStep 723 = .ok (.bipush 20, 2) := by decide +kernel
theorem dL_isStep_725 : decode cL_isStep 725 = .ok (.invokestatic 15, 3) := by decide +kernel
theorem dL_isStep_728 : decode cL_isStep 728 = .ok (.iadd, 1) := by decide +kernel
theorem dL_isStep_729 : decode cL_isStep 729 = .ok (.goto 73, 3) := by decide +kernel
theorem dL_isStep_732 : decode cL_isStep 732 = .ok (.iload 7, 2) := by decide +kernel
theorem dL_isStep_734 : decode cL_isStep 734 = .ok (.iconst 3, 1) := by decide +kernel
theorem dL_isStep_735 : decode cL_isStep 735 = .ok (.if_icmp .ne 18, 3) := by decide +kernel
theorem dL_isStep_738 : decode cL_isStep 738 = .ok (.bipush 10, 2) := by decide +kernel
theorem dL_isStep_740 : decode cL_isStep 740 = .ok (.iload 4, 2) := by decide +kernel
theorem dL_isStep_742 : decode cL_isStep 742 = .ok (.iconst 3, 1) := by decide +kernel
theorem dL_isStep_743 : decode cL_isStep 743 = .ok (.ishr, 1) := by decide +kernel
theorem dL_isStep_744 : decode cL_isStep 744 = .ok (.bipush 90, 2) := by decide +kernel
theorem dL_isStep_746 : decode cL_isStep 746 = .ok (.invokestatic 15, 3) := by decide +kernel
theorem dL_isStep_749 : decode cL_isStep 749 = .ok (.iadd, 1) := by decide +kernel
theorem dL_isStep_750 : decode cL_isStep 750 = .ok (.goto 52, 3) := by decide +kernel
theorem dL_isStep_753 : decode cL_isStep 753 = .ok (.iload 7, 2) := by decide +kernel
theorem dL_isStep_755 : decode cL_isStep 755 = .ok (.iconst 4, 1) := by decide +kernel
theorem dL_isStep_756 : decode cL_isStep 756 = .ok (.if_icmp .ne 15, 3) := by decide +kernel
theorem dL_isStep_759 : decode cL_isStep 759 = .ok (.iload 4, 2) := by decide +kernel
theorem dL_isStep_761 : decode cL_isStep 761 = .ok (.iconst 3, 1) := by decide +kernel
theorem dL_isStep_762 : decode cL_isStep 762 = .ok (.ishr, 1) := by decide +kernel
theorem dL_isStep_763 : decode cL_isStep 763 = .ok (.bipush 12, 2) := by decide +kernel
theorem dL_isStep_765 : decode cL_isStep 765 = .ok (.invokestatic 15, 3) := by decide +kernel
theorem dL_isStep_768 : decode cL_isStep 768 = .ok (.goto 34, 3) := by decide +kernel
theorem dL_isStep_771 : decode cL_isStep 771 = .ok (.iload 7, 2) := by decide +kernel
theorem dL_isStep_773 : decode cL_isStep 773 = .ok (.iconst 5, 1) := by decide +kernel
theorem dL_isStep_774 : decode cL_isStep 774 = .ok (.if_icmp .ne 17, 3) := by decide +kernel
theorem dL_isStep_777 : decode cL_isStep 777 = .ok (.iconst 1, 1) := by decide +kernel
theorem dL_isStep_778 : decode cL_isStep 778 = .ok (.iload 4, 2) := by decide +kernel
theorem dL_isStep_780 : decode cL_isStep 780 = .ok (.iconst 3, 1) := by decide +kernel
theorem dL_isStep_781 : decode cL_isStep 781 = .ok (.ishr, 1) := by decide +kernel
theorem dL_isStep_782 : decode cL_isStep 782 = .ok (.bipush 50, 2) := by decide +kernel
theorem dL_isStep_784 : decode cL_isStep 784 = .ok (.invokestatic 15, 3) := by decide +kernel
theorem dL_isStep_787 : decode cL_isStep 787 = .ok (.iadd, 1) := by decide +kernel
theorem dL_isStep_788 : decode cL_isStep 788 = .ok (.goto 14, 3) := by decide +kernel
theorem dL_isStep_791 : decode cL_isStep 791 = .ok (.iconst 1, 1) := by decide +kernel
theorem dL_isStep_792 : decode cL_isStep 792 = .ok (.iload 4, 2) := by decide +kernel
theorem dL_isStep_794 : decode cL_isStep 794 = .ok (.iconst 3, 1) := by decide +kernel
theorem dL_isStep_795 : decode cL_isStep 795 = .ok (.ishr, 1) := by decide +kernel
theorem dL_isStep_796 : decode cL_isStep 796 = .ok (.bipush 10, 2) := by decide +kernel
theorem dL_isStep_798 : decode cL_isStep 798 = .ok (.invokestatic 15, 3) := by decide +kernel
theorem dL_isStep_801 : decode cL_isStep 801 = .ok (.iadd, 1) := by decide +kernel
theorem dL_isStep_802 : decode cL_isStep 802 = .ok (.istore 8, 2) := by decide +kernel
theorem dL_isStep_804 : decode cL_isStep 804 = .ok (.aload_n 0, 1) := by decide +kernel
theorem dL_isStep_805 : decode cL_isStep 805 = .ok (.iload 7, 2) := by decide +kernel
theorem dL_isStep_807 : decode cL_isStep 807 = .ok (.iload 8, 2) := by decide +kernel
theorem dL_isStep_809 : decode cL_isStep 809 = .ok (.invokevirtual 55, 3) := by decide +kernel
theorem dL_isStep_812 : decode cL_isStep 812 = .ok (.aload_n 1, 1) := by decide +kernel
theorem dL_isStep_813 : decode cL_isStep 813 = .ok (.iload 7, 2) := by decide +kernel
theorem dL_isStep_815 : decode cL_isStep 815 = .ok (.iload 8, 2) := by decide +kernel
theorem dL_isStep_817 : decode cL_isStep 817 = .ok (.invokevirtual 55, 3) := by decide +kernel
theorem dL_isStep_820 : decode cL_isStep 820 = .ok (.if_icmp .ne 21, 3) := by decide +kernel
theorem dL_isStep_823 : decode cL_isStep 823 = .ok (.aload_n 0, 1) := by decide +kernel
theorem dL_isStep_824 : decode cL_isStep 824 = .ok (.bipush 17, 2) := by decide +kernel
theorem dL_isStep_826 : decode cL_isStep 826 = .ok (.iload 7, 2) := by decide +kernel
theorem dL_isStep_828 : decode cL_isStep 828 = .ok (.iadd, 1) := by decide +kernel
theorem dL_isStep_829 : decode cL_isStep 829 = .ok (.invokevirtual 9, 3) := by decide +kernel
theorem dL_isStep_832 : decode cL_isStep 832 = .ok (.iload 8, 2) := by decide +kernel
theorem dL_isStep_834 : decode cL_isStep 834 = .ok (.if_icmp .ne 7, 3) := by decide +kernel
theorem dL_isStep_837 : decode cL_isStep 837 = .ok (.iconst 1, 1) := by decide +kernel
theorem dL_isStep_838 : decode cL_isStep 838 = .ok (.goto 4, 3) := by decide +kernel
theorem dL_isStep_841 : decode cL_isStep 841 = .ok (.iconst 0, 1) := by decide +kernel
theorem dL_isStep_842 : decode cL_isStep 842 = .ok (.ireturn, 1) := by decide +kernel
theorem dL_isStep_843 : decode cL_isStep 843 = .ok (.iconst 1, 1) := by decide +kernel
theorem dL_isStep_844 : decode cL_isStep 844 = .ok (.iload 4, 2) := by decide +kernel
theorem dL_isStep_846 : decode cL_isStep 846 = .ok (.bipush 40, 2) := by decide +kernel
theorem dL_isStep_848 : decode cL_isStep 848 = .ok (.invokestatic 15, 3) := by decide +kernel
theorem dL_isStep_851 : decode cL_isStep 851 = .ok (.iadd, 1) := by decide +kernel
theorem dL_isStep_852 : decode cL_isStep 852 = .ok (.istore 7, 2) := by decide +kernel
theorem dL_isStep_854 : decode cL_isStep 854 = .ok (.aload_n 0, 1) := by decide +kernel
theorem dL_isStep_855 : decode cL_isStep 855 = .ok (.iconst 1, 1) := by decide +kernel
theorem dL_isStep_856 : decode cL_isStep 856 = .ok (.invokevirtual 58, 3) := by decide +kernel
theorem dL_isStep_859 : decode cL_isStep 859 = .ok (.istore 8, 2) := by decide +kernel
theorem dL_isStep_861 : decode cL_isStep 861 = .ok (.aload_n 0, 1) := by decide +kernel
theorem dL_isStep_862 : decode cL_isStep 862 = .ok (.iconst 0, 1) := by decide +kernel
theorem dL_isStep_863 : decode cL_isStep 863 = .ok (.invokevirtual 58, 3) := by decide +kernel
theorem dL_isStep_866 : decode cL_isStep 866 = .ok (.istore 9, 2) := by decide +kernel
theorem dL_isStep_868 : decode cL_isStep 868 = .ok (.aload_n 0, 1) := by decide +kernel
theorem dL_isStep_869 : decode cL_isStep 869 = .ok (.iload 7, 2) := by decide +kernel
theorem dL_isStep_871 : decode cL_isStep 871 = .ok (.invokevirtual 61, 3) := by decide +kernel
theorem dL_isStep_874 : decode cL_isStep 874 = .ok (.aload_n 1, 1) := by decide +kernel
theorem dL_isStep_875 : decode cL_isStep 875 = .ok (.iload 7, 2) := by decide +kernel
theorem dL_isStep_877 : decode cL_isStep 877 = .ok (.invokevirtual 61, 3) := by decide +kernel
theorem dL_isStep_880 : decode cL_isStep 880 = .ok (.if_icmp .ne 49, 3) := by decide +kernel
theorem dL_isStep_883 : decode cL_isStep 883 = .ok (.iload 8, 2) := by decide +kernel
theorem dL_isStep_885 : decode cL_isStep 885 = .ok (.aload_n 1, 1) := by decide +kernel
theorem dL_isStep_886 : decode cL_isStep 886 = .ok (.iconst 1, 1) := by decide +kernel
theorem dL_isStep_887 : decode cL_isStep 887 = .ok (.invokevirtual 58, 3) := by decide +kernel
theorem dL_isStep_890 : decode cL_isStep 890 = .ok (.if_icmp .ne 39, 3) := by decide +kernel
theorem dL_isStep_893 : decode cL_isStep 893 = .ok (.iload 9, 2) := by decide +kernel
theorem dL_isStep_895 : decode cL_isStep 895 = .ok (.aload_n 1, 1) := by decide +kernel
theorem dL_isStep_896 : decode cL_isStep 896 = .ok (.iconst 0, 1) := by decide +kernel
theorem dL_isStep_897 : decode cL_isStep 897 = .ok (.invokevirtual 58, 3) := by decide +kernel
theorem dL_isStep_900 : decode cL_isStep 900 = .ok (.if_icmp .ne 29, 3) := by decide +kernel
theorem dL_isStep_903 : decode cL_isStep 903 = .ok (.iload 9, 2) := by decide +kernel
theorem dL_isStep_905 : decode cL_isStep 905 = .ok (.bipush (-5), 2) := by decide +kernel
theorem dL_isStep_907 : decode cL_isStep 907 = .ok (.if_icmp .eq 18, 3) := by decide +kernel
theorem dL_isStep_910 : decode cL_isStep 910 = .ok (.iload 8, 2) := by decide +kernel
theorem dL_isStep_912 : decode cL_isStep 912 = .ok (.sipush 500, 3) := by decide +kernel
theorem dL_isStep_915 : decode cL_isStep 915 = .ok (.if_icmp .lt 14, 3) := by decide +kernel
theorem dL_isStep_918 : decode cL_isStep 918 = .ok (.iload 8, 2) := by decide +kernel
theorem dL_isStep_920 : decode cL_isStep 920 = .ok (.iload 9, 2) := by decide +kernel
theorem dL_isStep_922 : decode cL_isStep 922 = .ok (.if_icmp .gt 7, 3) := by decide +kernel
theorem dL_isStep_925 : decode cL_isStep 925 = .ok (.iconst 1, 1) := by decide +kernel
theorem dL_isStep_926 : decode cL_isStep 926 = .ok (.goto 4, 3) := by decide +kernel
theorem dL_isStep_929 : decode cL_isStep 929 = .ok (.iconst 0, 1) := by decide +kernel
theorem dL_isStep_930 : decode cL_isStep 930 = .ok (.istore 10, 2) := by decide +kernel
theorem dL_isStep_932 : decode cL_isStep 932 = .ok (.iload 10, 2) := by decide +kernel
theorem dL_isStep_934 : decode cL_isStep 934 = .ok (.ifCond .eq 64, 3) := by decide +kernel
theorem dL_isStep_937 : decode cL_isStep 937 = .ok (.aload_n 0, 1) := by decide +kernel
theorem dL_isStep_938 : decode cL_isStep 938 = .ok (.sipush 500, 3) := by decide +kernel
theorem dL_isStep_941 : decode cL_isStep 941 = .ok (.iload 4, 2) := by decide +kernel
theorem dL_isStep_943 : decode cL_isStep 943 = .ok (.sipush 701, 3) := by decide +kernel
theorem dL_isStep_946 : decode cL_isStep 946 = .ok (.invokestatic 15, 3) := by decide +kernel
theorem dL_isStep_949 : decode cL_isStep 949 = .ok (.iadd, 1) := by decide +kernel
theorem dL_isStep_950 : decode cL_isStep 950 = .ok (.iload 7, 2) := by decide +kernel
theorem dL_isStep_952 : decode cL_isStep 952 = .ok (.iload 4, 2) := by decide +kernel
theorem dL_isStep_954 : decode cL_isStep 954 = .ok (.bipush 9, 2) := by decide +kernel
theorem dL_isStep_956 : decode cL_isStep 956 = .ok (.ishr, 1) := by decide +kernel
theorem dL_isStep_957 : decode cL_isStep 957 = .ok (.iconst 5, 1) := by decide +kernel
theorem dL_isStep_958 : decode cL_isStep 958 = .ok (.invokestatic 15, 3) := by decide +kernel
theorem dL_isStep_961 : decode cL_isStep 961 = .ok (.invokevirtual 64, 3) := by decide +kernel
theorem dL_isStep_964 : decode cL_isStep 964 = .ok (.aload_n 1, 1) := by decide +kernel
theorem dL_isStep_965 : decode cL_isStep 965 = .ok (.sipush 500, 3) := by decide +kernel
theorem dL_isStep_968 : decode cL_isStep 968 = .ok (.iload 4, 2) := by decide +kernel
theorem dL_isStep_970 : decode cL_isStep 970 = .ok (.sipush 701, 3) := by decide +kernel
theorem dL_isStep_973 : decode cL_isStep 973 = .ok (.invokestatic 15, 3) := by decide +kernel
theorem dL_isStep_976 : decode cL_isStep 976 = .ok (.iadd, 1) := by decide +kernel
theorem dL_isStep_977 : decode cL_isStep 977 = .ok (.iload 7, 2) := by decide +kernel
theorem dL_isStep_979 : decode cL_isStep 979 = .ok (.iload 4, 2) := by decide +kernel
theorem dL_isStep_981 : decode cL_isStep 981 = .ok (.bipush 9, 2) := by decide +kernel
theorem dL_isStep_983 : decode cL_isStep 983 = .ok (.ishr, 1) := by decide +kernel
theorem dL_isStep_984 : decode cL_isStep 984 = .ok (.iconst 5, 1) := by decide +kernel
theorem dL_isStep_985 : decode cL_isStep 985 = .ok (.invokestatic 15, 3) := by decide +kernel
theorem dL_isStep_988 : decode cL_isStep 988 = .ok (.invokevirtual 64, 3) := by decide +kernel
theorem dL_isStep_991 : decode cL_isStep 991 = .ok (.if_icmp .ne 7, 3) := by decide +kernel
theorem dL_isStep_994 : decode cL_isStep 994 = .ok (.iconst 1, 1) := by decide +kernel
theorem dL_isStep_995 : decode cL_isStep 995 = .ok (.goto 4, 3) := by decide +kernel
theorem dL_isStep_998 : decode cL_isStep 998 = .ok (.iconst 0, 1) := by decide +kernel
theorem dL_isStep_999 : decode cL_isStep 999 = .ok (.ireturn, 1) := by decide +kernel
theorem dL_isCycle_0 : decode cL_isCycle 0 = .ok (.aload_n 0, 1) := by decide +kernel
theorem dL_isCycle_1 : decode cL_isCycle 1 = .ok (.bipush 11, 2) := by decide +kernel
theorem dL_isCycle_3 : decode cL_isCycle 3 = .ok (.invokevirtual 9, 3) := by decide +kernel
theorem dL_isCycle_6 : decode cL_isCycle 6 = .ok (.istore_n 1, 1) := by decide +kernel
theorem dL_isCycle_7 : decode cL_isCycle 7 = .ok (.aload_n 0, 1) := by decide +kernel
theorem dL_isCycle_8 : decode cL_isCycle 8 = .ok (.iload_n 1, 1) := by decide +kernel
theorem dL_isCycle_9 : decode cL_isCycle 9 = .ok (.invokevirtual 38, 3) := by decide +kernel
theorem dL_isCycle_12 : decode cL_isCycle 12 = .ok (.istore_n 2, 1) := by decide +kernel
theorem dL_isCycle_13 : decode cL_isCycle 13 = .ok (.iconst 0, 1) := by decide +kernel
theorem dL_isCycle_14 : decode cL_isCycle 14 = .ok (.istore_n 3, 1) := by decide +kernel
theorem dL_isCycle_15 : decode cL_isCycle 15 = .ok (.iconst 0, 1) := by decide +kernel
theorem dL_isCycle_16 : decode cL_isCycle 16 = .ok (.istore 4, 2) := by decide +kernel
theorem dL_isCycle_18 : decode cL_isCycle 18 = .ok (.iconst 0, 1) := by decide +kernel
theorem dL_isCycle_19 : decode cL_isCycle 19 = .ok (.istore 5, 2) := by decide +kernel
theorem dL_isCycle_21 : decode cL_isCycle 21 = .ok (.iload 5, 2) := by decide +kernel
theorem dL_isCycle_23 : decode cL_isCycle 23 = .ok (.aload_n 0, 1) := by decide +kernel
theorem dL_isCycle_24 : decode cL_isCycle 24 = .ok (.bipush 12, 2) := by decide +kernel
theorem dL_isCycle_26 : decode cL_isCycle 26 = .ok (.invokevirtual 9, 3) := by decide +kernel
theorem dL_isCycle_29 : decode cL_isCycle 29 = .ok (.if_icmp .ge 53, 3) := by decide +kernel
theorem dL_isCycle_32 : decode cL_isCycle 32 = .ok (.iload_n 2, 1) := by decide +kernel
theorem dL_isCycle_33 : decode cL_isCycle 33 = .ok (.iload 5, 2) := by decide +kernel
theorem dL_isCycle_35 : decode cL_isCycle 35 = .ok (.ishr, 1) := by decide +kernel
theorem dL_isCycle_36 : decode cL_isCycle 36 = .ok (.iconst 1, 1) := by decide +kernel
theorem dL_isCycle_37 : decode cL_isCycle 37 = .ok (.iand, 1) := by decide +kernel
theorem dL_isCycle_38 : decode cL_isCycle 38 = .ok (.iconst 1, 1) := by decide +kernel
theorem dL_isCycle_39 : decode cL_isCycle 39 = .ok (.if_icmp .ne 37, 3) := by decide +kernel
theorem dL_isCycle_42 : decode cL_isCycle 42 = .ok (.aload_n 0, 1) := by decide +kernel
theorem dL_isCycle_43 : decode cL_isCycle 43 = .ok (.iload 5, 2) := by decide +kernel
theorem dL_isCycle_45 : decode cL_isCycle 45 = .ok (.iconst 2, 1) := by decide +kernel
theorem dL_isCycle_46 : decode cL_isCycle 46 = .ok (.invokevirtual 24, 3) := by decide +kernel
theorem dL_isCycle_49 : decode cL_isCycle 49 = .ok (.istore 6, 2) := by decide +kernel
theorem dL_isCycle_51 : decode cL_isCycle 51 = .ok (.iload 6, 2) := by decide +kernel
theorem dL_isCycle_53 : decode cL_isCycle 53 = .ok (.iload_n 3, 1) := by decide +kernel
theorem dL_isCycle_54 : decode cL_isCycle 54 = .ok (.if_icmp .le 8, 3) := by decide +kernel
theorem dL_isCycle_57 : decode cL_isCycle 57 = .ok (.iload 6, 2) := by decide +kernel
theorem dL_isCycle_59 : decode cL_isCycle 59 = .ok (.goto 4, 3) := by decide +kernel
theorem dL_isCycle_62 : decode cL_isCycle 62 = .ok (.iload_n 3, 1) := by decide +kernel
theorem dL_isCycle_63 : decode cL_isCycle 63 = .ok (.istore_n 3, 1) := by decide +kernel
theorem dL_isCycle_64 : decode cL_isCycle 64 = .ok (.iload 4, 2) := by decide +kernel
theorem dL_isCycle_66 : decode cL_isCycle 66 = .ok (.aload_n 0, 1) := by decide +kernel
theorem dL_isCycle_67 : decode cL_isCycle 67 = .ok (.iload 5, 2) := by decide +kernel
theorem dL_isCycle_69 : decode cL_isCycle 69 = .ok (.iconst 3, 1) := by decide +kernel
theorem dL_isCycle_70 : decode cL_isCycle 70 = .ok (.invokevirtual 24, 3) := by decide +kernel
theorem dL_isCycle_73 : decode cL_isCycle 73 = .ok (.iadd, 1) := by decide +kernel
theorem dL_isCycle_74 : decode cL_isCycle 74 = .ok (.istore 4, 2) := by decide +kernel
theorem dL_isCycle_76 : decode cL_isCycle 76 = .ok (.iinc 5 1, 3) := by decide +kernel
theorem dL_isCycle_79 : decode cL_isCycle 79 = .ok (.goto (-58), 3) := by decide +kernel
theorem dL_isCycle_82 : decode cL_isCycle 82 = .ok (.aload_n 0, 1) := by decide +kernel
theorem dL_isCycle_83 : decode cL_isCycle 83 = .ok (.iconst 0, 1) := by decide +kernel
theorem dL_isCycle_84 : decode cL_isCycle 84 = .ok (.invokevirtual 9, 3) := by decide +kernel
theorem dL_isCycle_87 : decode cL_isCycle 87 = .ok (.istore 5, 2) := by decide +kernel
theorem dL_isCycle_89 : decode cL_isCycle 89 = .ok (.aload_n 0, 1) := by decide +kernel
theorem dL_isCycle_90 : decode cL_isCycle 90 = .ok (.iconst 1, 1) := by decide +kernel
theorem dL_isCycle_91 : decode cL_isCycle 91 = .ok (.invokevirtual 9, 3) := by decide +kernel
theorem dL_isCycle_94 : decode cL_isCycle 94 = .ok (.istore 6, 2) := by decide +kernel
theorem dL_isCycle_96 : decode cL_isCycle 96 = .ok (.aload_n 0, 1) := by decide +kernel
theorem dL_isCycle_97 : decode cL_isCycle 97 = .ok (.iconst 3, 1) := by decide +kernel
theorem dL_isCycle_98 : decode cL_isCycle 98 = .ok (.invokevirtual 9, 3) := by decide +kernel
theorem dL_isCycle_101 : decode cL_isCycle 101 = .ok (.istore 7, 2) := by decide +kernel
theorem dL_isCycle_103 : decode cL_isCycle 103 = .ok (.aload_n 0, 1) := by decide +kernel
theorem dL_isCycle_104 : decode cL_isCycle 104 = .ok (.iconst 4, 1) := by decide +kernel
theorem dL_isCycle_105 : decode cL_isCycle 105 = .ok (.invokevirtual 9, 3) := by decide +kernel
theorem dL_isCycle_108 : decode cL_isCycle 108 = .ok (.istore 8, 2) := by decide +kernel
theorem dL_isCycle_110 : decode cL_isCycle 110 = .ok (.aload_n 0, 1) := by decide +kernel
theorem dL_isCycle_111 : decode cL_isCycle 111 = .ok (.bipush 6, 2) := by decide +kernel
theorem dL_isCycle_113 : decode cL_isCycle 113 = .ok (.invokevirtual 9, 3) := by decide +kernel
theorem dL_isCycle_116 : decode cL_isCycle 116 = .ok (.istore 9, 2) := by decide +kernel
theorem dL_isCycle_118 : decode cL_isCycle 118 = .ok (.aload_n 0, 1) := by decide +kernel
theorem dL_isCycle_119 : decode cL_isCycle 119 = .ok (.bipush 8, 2) := by decide +kernel
theorem dL_isCycle_121 : decode cL_isCycle 121 = .ok (.invokevirtual 9, 3) := by decide +kernel
theorem dL_isCycle_124 : decode cL_isCycle 124 = .ok (.istore 10, 2) := by decide +kernel
theorem dL_isCycle_126 : decode cL_isCycle 126 = .ok (.aload_n 0, 1) := by decide +kernel
theorem dL_isCycle_127 : decode cL_isCycle 127 = .ok (.bipush 9, 2) := by decide +kernel
theorem dL_isCycle_129 : decode cL_isCycle 129 = .ok (.invokevirtual 9, 3) := by decide +kernel
theorem dL_isCycle_132 : decode cL_isCycle 132 = .ok (.istore 11, 2) := by decide +kernel
theorem dL_isCycle_134 : decode cL_isCycle 134 = .ok (.aload_n 0, 1) := by decide +kernel
theorem dL_isCycle_135 : decode cL_isCycle 135 = .ok (.bipush 19, 2) := by decide +kernel
theorem dL_isCycle_137 : decode cL_isCycle 137 = .ok (.invokevirtual 9, 3) := by decide +kernel
theorem dL_isCycle_140 : decode cL_isCycle 140 = .ok (.istore 12, 2) := by decide +kernel
theorem dL_isCycle_142 : decode cL_isCycle 142 = .ok (.aload_n 0, 1) := by decide +kernel
theorem dL_isCycle_143 : decode cL_isCycle 143 = .ok (.iconst 2, 1) := by decide +kernel
theorem dL_isCycle_144 : decode cL_isCycle 144 = .ok (.invokevirtual 9, 3) := by decide +kernel
theorem dL_isCycle_147 : decode cL_isCycle 147 = .ok (.iconst 1, 1) := by decide +kernel
theorem dL_isCycle_148 : decode cL_isCycle 148 = .ok (.if_icmp .ne 7, 3) := by decide +kernel
theorem dL_isCycle_151 : decode cL_isCycle 151 = .ok (.iconst 1, 1) := by decide +kernel
theorem dL_isCycle_152 : decode cL_isCycle 152 = .ok (.goto 4, 3) := by decide +kernel
theorem dL_isCycle_155 : decode cL_isCycle 155 = .ok (.iconst 0, 1) := by decide +kernel
theorem dL_isCycle_156 : decode cL_isCycle 156 = .ok (.istore 13, 2) := by decide +kernel
theorem dL_isCycle_158 : decode cL_isCycle 158 = .ok (.aload_n 0, 1) := by decide +kernel
theorem dL_isCycle_159 : decode cL_isCycle 159 = .ok (.bipush 15, 2) := by decide +kernel
theorem dL_isCycle_161 : decode cL_isCycle 161 = .ok (.invokevirtual 9, 3) := by decide +kernel
theorem dL_isCycle_164 : decode cL_isCycle 164 = .ok (.aload_n 0, 1) := by decide +kernel
theorem dL_isCycle_165 : decode cL_isCycle 165 = .ok (.bipush 16, 2) := by decide +kernel
theorem dL_isCycle_167 : decode cL_isCycle 167 = .ok (.invokevirtual 9, 3) := by decide +kernel
theorem dL_isCycle_170 : decode cL_isCycle 170 = .ok (.iadd, 1) := by decide +kernel
theorem dL_isCycle_171 : decode cL_isCycle 171 = .ok (.istore 14, 2) := by decide +kernel
theorem dL_isCycle_173 : decode cL_isCycle 173 = .ok (.aload_n 0, 1) := by decide +kernel
