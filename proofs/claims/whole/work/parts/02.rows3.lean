theorem dX7_add_138 : decode cX7_add 138 = .ok (.goto 4, 3) := by decide +kernel
theorem dX7_add_141 : decode cX7_add 141 = .ok (.iconst 0, 1) := by decide +kernel
theorem dX7_add_142 : decode cX7_add 142 = .ok (.iadd, 1) := by decide +kernel
theorem dX7_add_143 : decode cX7_add 143 = .ok (.istore 6, 2) := by decide +kernel
theorem dX7_add_145 : decode cX7_add 145 = .ok (.iload 6, 2) := by decide +kernel
theorem dX7_add_147 : decode cX7_add 147 = .ok (.bipush 9, 2) := by decide +kernel
theorem dX7_add_149 : decode cX7_add 149 = .ok (.if_icmp .le 11, 3) := by decide +kernel
theorem dX7_add_152 : decode cX7_add 152 = .ok (.iload 6, 2) := by decide +kernel
theorem dX7_add_154 : decode cX7_add 154 = .ok (.bipush 6, 2) := by decide +kernel
theorem dX7_add_156 : decode cX7_add 156 = .ok (.iadd, 1) := by decide +kernel
theorem dX7_add_157 : decode cX7_add 157 = .ok (.goto 5, 3) := by decide +kernel
theorem dX7_add_160 : decode cX7_add 160 = .ok (.iload 6, 2) := by decide +kernel
theorem dX7_add_162 : decode cX7_add 162 = .ok (.istore 6, 2) := by decide +kernel
theorem dX7_add_164 : decode cX7_add 164 = .ok (.aload_n 0, 1) := by decide +kernel
theorem dX7_add_165 : decode cX7_add 165 = .ok (.aload_n 0, 1) := by decide +kernel
theorem dX7_add_166 : decode cX7_add 166 = .ok (.iload_n 3, 1) := by decide +kernel
theorem dX7_add_167 : decode cX7_add 167 = .ok (.sipush 255, 3) := by decide +kernel
theorem dX7_add_170 : decode cX7_add 170 = .ok (.iand, 1) := by decide +kernel
theorem dX7_add_171 : decode cX7_add 171 = .ok (.invokevirtual 173, 3) := by decide +kernel
theorem dX7_add_174 : decode cX7_add 174 = .ok (.putfield 136, 3) := by decide +kernel
theorem dX7_add_177 : decode cX7_add 177 = .ok (.aload_n 0, 1) := by decide +kernel
theorem dX7_add_178 : decode cX7_add 178 = .ok (.iconst 1, 1) := by decide +kernel
theorem dX7_add_179 : decode cX7_add 179 = .ok (.iload_n 3, 1) := by decide +kernel
theorem dX7_add_180 : decode cX7_add 180 = .ok (.sipush 255, 3) := by decide +kernel
theorem dX7_add_183 : decode cX7_add 183 = .ok (.if_icmp .le 7, 3) := by decide +kernel
theorem dX7_add_186 : decode cX7_add 186 = .ok (.iconst 1, 1) := by decide +kernel
theorem dX7_add_187 : decode cX7_add 187 = .ok (.goto 4, 3) := by decide +kernel
theorem dX7_add_190 : decode cX7_add 190 = .ok (.iconst 0, 1) := by decide +kernel
theorem dX7_add_191 : decode cX7_add 191 = .ok (.invokevirtual 157, 3) := by decide +kernel
theorem dX7_add_194 : decode cX7_add 194 = .ok (.iload 4, 2) := by decide +kernel
theorem dX7_add_196 : decode cX7_add 196 = .ok (.ifCond .eq 38, 3) := by decide +kernel
theorem dX7_add_199 : decode cX7_add 199 = .ok (.aload_n 0, 1) := by decide +kernel
theorem dX7_add_200 : decode cX7_add 200 = .ok (.bipush 16, 2) := by decide +kernel
theorem dX7_add_202 : decode cX7_add 202 = .ok (.iload 6, 2) := by decide +kernel
theorem dX7_add_204 : decode cX7_add 204 = .ok (.bipush 16, 2) := by decide +kernel
theorem dX7_add_206 : decode cX7_add 206 = .ok (.irem, 1) := by decide +kernel
theorem dX7_add_207 : decode cX7_add 207 = .ok (.imul, 1) := by decide +kernel
theorem dX7_add_208 : decode cX7_add 208 = .ok (.iload 5, 2) := by decide +kernel
theorem dX7_add_210 : decode cX7_add 210 = .ok (.bipush 16, 2) := by decide +kernel
theorem dX7_add_212 : decode cX7_add 212 = .ok (.irem, 1) := by decide +kernel
theorem dX7_add_213 : decode cX7_add 213 = .ok (.iadd, 1) := by decide +kernel
theorem dX7_add_214 : decode cX7_add 214 = .ok (.putfield 136, 3) := by decide +kernel
theorem dX7_add_217 : decode cX7_add 217 = .ok (.aload_n 0, 1) := by decide +kernel
theorem dX7_add_218 : decode cX7_add 218 = .ok (.iconst 1, 1) := by decide +kernel
theorem dX7_add_219 : decode cX7_add 219 = .ok (.iload 6, 2) := by decide +kernel
theorem dX7_add_221 : decode cX7_add 221 = .ok (.bipush 15, 2) := by decide +kernel
theorem dX7_add_223 : decode cX7_add 223 = .ok (.if_icmp .le 7, 3) := by decide +kernel
theorem dX7_add_226 : decode cX7_add 226 = .ok (.iconst 1, 1) := by decide +kernel
theorem dX7_add_227 : decode cX7_add 227 = .ok (.goto 4, 3) := by decide +kernel
theorem dX7_add_230 : decode cX7_add 230 = .ok (.iconst 0, 1) := by decide +kernel
theorem dX7_add_231 : decode cX7_add 231 = .ok (.invokevirtual 157, 3) := by decide +kernel
theorem dX7_add_234 : decode cX7_add 234 = .ok (.return_, 1) := by decide +kernel
theorem dX7_compare_0 : decode cX7_compare 0 = .ok (.aload_n 0, 1) := by decide +kernel
theorem dX7_compare_1 : decode cX7_compare 1 = .ok (.iload_n 1, 1) := by decide +kernel
theorem dX7_compare_2 : decode cX7_compare 2 = .ok (.iload_n 2, 1) := by decide +kernel
theorem dX7_compare_3 : decode cX7_compare 3 = .ok (.isub, 1) := by decide +kernel
theorem dX7_compare_4 : decode cX7_compare 4 = .ok (.sipush 255, 3) := by decide +kernel
theorem dX7_compare_7 : decode cX7_compare 7 = .ok (.iand, 1) := by decide +kernel
theorem dX7_compare_8 : decode cX7_compare 8 = .ok (.invokevirtual 173, 3) := by decide +kernel
theorem dX7_compare_11 : decode cX7_compare 11 = .ok (.pop, 1) := by decide +kernel
theorem dX7_compare_12 : decode cX7_compare 12 = .ok (.aload_n 0, 1) := by decide +kernel
theorem dX7_compare_13 : decode cX7_compare 13 = .ok (.iconst 1, 1) := by decide +kernel
theorem dX7_compare_14 : decode cX7_compare 14 = .ok (.iload_n 1, 1) := by decide +kernel
theorem dX7_compare_15 : decode cX7_compare 15 = .ok (.iload_n 2, 1) := by decide +kernel
theorem dX7_compare_16 : decode cX7_compare 16 = .ok (.if_icmp .lt 7, 3) := by decide +kernel
theorem dX7_compare_19 : decode cX7_compare 19 = .ok (.iconst 1, 1) := by decide +kernel
theorem dX7_compare_20 : decode cX7_compare 20 = .ok (.goto 4, 3) := by decide +kernel
theorem dX7_compare_23 : decode cX7_compare 23 = .ok (.iconst 0, 1) := by decide +kernel
theorem dX7_compare_24 : decode cX7_compare 24 = .ok (.invokevirtual 157, 3) := by decide +kernel
theorem dX7_compare_27 : decode cX7_compare 27 = .ok (.return_, 1) := by decide +kernel
theorem dX7_operate_0 : decode cX7_operate 0 = .ok (.aload_n 0, 1) := by decide +kernel
theorem dX7_operate_1 : decode cX7_operate 1 = .ok (.getfield 167, 3) := by decide +kernel
theorem dX7_operate_4 : decode cX7_operate 4 = .ok (.iconst 5, 1) := by decide +kernel
theorem dX7_operate_5 : decode cX7_operate 5 = .ok (.ishr, 1) := by decide +kernel
theorem dX7_operate_6 : decode cX7_operate 6 = .ok (.istore_n 2, 1) := by decide +kernel
theorem dX7_operate_7 : decode cX7_operate 7 = .ok (.iload_n 2, 1) := by decide +kernel
theorem dX7_operate_8 : decode cX7_operate 8 = .ok (.ifCond .ne 17, 3) := by decide +kernel
theorem dX7_operate_11 : decode cX7_operate 11 = .ok (.aload_n 0, 1) := by decide +kernel
theorem dX7_operate_12 : decode cX7_operate 12 = .ok (.aload_n 0, 1) := by decide +kernel
theorem dX7_operate_13 : decode cX7_operate 13 = .ok (.aload_n 0, 1) := by decide +kernel
theorem dX7_operate_14 : decode cX7_operate 14 = .ok (.getfield 136, 3) := by decide +kernel
theorem dX7_operate_17 : decode cX7_operate 17 = .ok (.iload_n 1, 1) := by decide +kernel
theorem dX7_operate_18 : decode cX7_operate 18 = .ok (.ior, 1) := by decide +kernel
theorem dX7_operate_19 : decode cX7_operate 19 = .ok (.invokevirtual 173, 3) := by decide +kernel
theorem dX7_operate_22 : decode cX7_operate 22 = .ok (.putfield 136, 3) := by decide +kernel
theorem dX7_operate_25 : decode cX7_operate 25 = .ok (.iload_n 2, 1) := by decide +kernel
theorem dX7_operate_26 : decode cX7_operate 26 = .ok (.iconst 1, 1) := by decide +kernel
theorem dX7_operate_27 : decode cX7_operate 27 = .ok (.if_icmp .ne 17, 3) := by decide +kernel
theorem dX7_operate_30 : decode cX7_operate 30 = .ok (.aload_n 0, 1) := by decide +kernel
theorem dX7_operate_31 : decode cX7_operate 31 = .ok (.aload_n 0, 1) := by decide +kernel
theorem dX7_operate_32 : decode cX7_operate 32 = .ok (.aload_n 0, 1) := by decide +kernel
theorem dX7_operate_33 : decode cX7_operate 33 = .ok (.getfield 136, 3) := by decide +kernel
theorem dX7_operate_36 : decode cX7_operate 36 = .ok (.iload_n 1, 1) := by decide +kernel
theorem dX7_operate_37 : decode cX7_operate 37 = .ok (.iand, 1) := by decide +kernel
theorem dX7_operate_38 : decode cX7_operate 38 = .ok (.invokevirtual 173, 3) := by decide +kernel
theorem dX7_operate_41 : decode cX7_operate 41 = .ok (.putfield 136, 3) := by decide +kernel
theorem dX7_operate_44 : decode cX7_operate 44 = .ok (.iload_n 2, 1) := by decide +kernel
theorem dX7_operate_45 : decode cX7_operate 45 = .ok (.iconst 2, 1) := by decide +kernel
theorem dX7_operate_46 : decode cX7_operate 46 = .ok (.if_icmp .ne 17, 3) := by decide +kernel
theorem dX7_operate_49 : decode cX7_operate 49 = .ok (.aload_n 0, 1) := by decide +kernel
theorem dX7_operate_50 : decode cX7_operate 50 = .ok (.aload_n 0, 1) := by decide +kernel
theorem dX7_operate_51 : decode cX7_operate 51 = .ok (.aload_n 0, 1) := by decide +kernel
theorem dX7_operate_52 : decode cX7_operate 52 = .ok (.getfield 136, 3) := by decide +kernel
theorem dX7_operate_55 : decode cX7_operate 55 = .ok (.iload_n 1, 1) := by decide +kernel
theorem dX7_operate_56 : decode cX7_operate 56 = .ok (.ixor, 1) := by decide +kernel
theorem dX7_operate_57 : decode cX7_operate 57 = .ok (.invokevirtual 173, 3) := by decide +kernel
theorem dX7_operate_60 : decode cX7_operate 60 = .ok (.putfield 136, 3) := by decide +kernel
theorem dX7_operate_63 : decode cX7_operate 63 = .ok (.iload_n 2, 1) := by decide +kernel
theorem dX7_operate_64 : decode cX7_operate 64 = .ok (.iconst 3, 1) := by decide +kernel
theorem dX7_operate_65 : decode cX7_operate 65 = .ok (.if_icmp .ne 8, 3) := by decide +kernel
theorem dX7_operate_68 : decode cX7_operate 68 = .ok (.aload_n 0, 1) := by decide +kernel
theorem dX7_operate_69 : decode cX7_operate 69 = .ok (.iload_n 1, 1) := by decide +kernel
theorem dX7_operate_70 : decode cX7_operate 70 = .ok (.invokevirtual 176, 3) := by decide +kernel
theorem dX7_operate_73 : decode cX7_operate 73 = .ok (.iload_n 2, 1) := by decide +kernel
theorem dX7_operate_74 : decode cX7_operate 74 = .ok (.iconst 5, 1) := by decide +kernel
theorem dX7_operate_75 : decode cX7_operate 75 = .ok (.if_icmp .ne 12, 3) := by decide +kernel
theorem dX7_operate_78 : decode cX7_operate 78 = .ok (.aload_n 0, 1) := by decide +kernel
theorem dX7_operate_79 : decode cX7_operate 79 = .ok (.aload_n 0, 1) := by decide +kernel
theorem dX7_operate_80 : decode cX7_operate 80 = .ok (.iload_n 1, 1) := by decide +kernel
theorem dX7_operate_81 : decode cX7_operate 81 = .ok (.invokevirtual 173, 3) := by decide +kernel
theorem dX7_operate_84 : decode cX7_operate 84 = .ok (.putfield 136, 3) := by decide +kernel
theorem dX7_operate_87 : decode cX7_operate 87 = .ok (.iload_n 2, 1) := by decide +kernel
theorem dX7_operate_88 : decode cX7_operate 88 = .ok (.bipush 6, 2) := by decide +kernel
theorem dX7_operate_90 : decode cX7_operate 90 = .ok (.if_icmp .ne 12, 3) := by decide +kernel
theorem dX7_operate_93 : decode cX7_operate 93 = .ok (.aload_n 0, 1) := by decide +kernel
theorem dX7_operate_94 : decode cX7_operate 94 = .ok (.aload_n 0, 1) := by decide +kernel
theorem dX7_operate_95 : decode cX7_operate 95 = .ok (.getfield 136, 3) := by decide +kernel
theorem dX7_operate_98 : decode cX7_operate 98 = .ok (.iload_n 1, 1) := by decide +kernel
theorem dX7_operate_99 : decode cX7_operate 99 = .ok (.invokevirtual 179, 3) := by decide +kernel
theorem dX7_operate_102 : decode cX7_operate 102 = .ok (.iload_n 2, 1) := by decide +kernel
theorem dX7_operate_103 : decode cX7_operate 103 = .ok (.bipush 7, 2) := by decide +kernel
theorem dX7_operate_105 : decode cX7_operate 105 = .ok (.if_icmp .ne 12, 3) := by decide +kernel
theorem dX7_operate_108 : decode cX7_operate 108 = .ok (.aload_n 0, 1) := by decide +kernel
theorem dX7_operate_109 : decode cX7_operate 109 = .ok (.sipush 255, 3) := by decide +kernel
theorem dX7_operate_112 : decode cX7_operate 112 = .ok (.iload_n 1, 1) := by decide +kernel
theorem dX7_operate_113 : decode cX7_operate 113 = .ok (.isub, 1) := by decide +kernel
theorem dX7_operate_114 : decode cX7_operate 114 = .ok (.invokevirtual 176, 3) := by decide +kernel
theorem dX7_operate_117 : decode cX7_operate 117 = .ok (.return_, 1) := by decide +kernel
theorem dX7_operand_0 : decode cX7_operand 0 = .ok (.aload_n 0, 1) := by decide +kernel
theorem dX7_operand_1 : decode cX7_operand 1 = .ok (.getfield 167, 3) := by decide +kernel
theorem dX7_operand_4 : decode cX7_operand 4 = .ok (.iconst 5, 1) := by decide +kernel
theorem dX7_operand_5 : decode cX7_operand 5 = .ok (.ishr, 1) := by decide +kernel
theorem dX7_operand_6 : decode cX7_operand 6 = .ok (.iconst 4, 1) := by decide +kernel
theorem dX7_operand_7 : decode cX7_operand 7 = .ok (.if_icmp .ne 15, 3) := by decide +kernel
theorem dX7_operand_10 : decode cX7_operand 10 = .ok (.aload_n 0, 1) := by decide +kernel
theorem dX7_operand_11 : decode cX7_operand 11 = .ok (.iload_n 1, 1) := by decide +kernel
theorem dX7_operand_12 : decode cX7_operand 12 = .ok (.aload_n 0, 1) := by decide +kernel
theorem dX7_operand_13 : decode cX7_operand 13 = .ok (.getfield 136, 3) := by decide +kernel
theorem dX7_operand_16 : decode cX7_operand 16 = .ok (.invokevirtual 164, 3) := by decide +kernel
theorem dX7_operand_19 : decode cX7_operand 19 = .ok (.goto 14, 3) := by decide +kernel
theorem dX7_operand_22 : decode cX7_operand 22 = .ok (.aload_n 0, 1) := by decide +kernel
theorem dX7_operand_23 : decode cX7_operand 23 = .ok (.iload_n 1, 1) := by decide +kernel
theorem dX7_operand_24 : decode cX7_operand 24 = .ok (.invokevirtual 161, 3) := by decide +kernel
theorem dX7_operand_27 : decode cX7_operand 27 = .ok (.istore_n 2, 1) := by decide +kernel
theorem dX7_operand_28 : decode cX7_operand 28 = .ok (.aload_n 0, 1) := by decide +kernel
theorem dX7_operand_29 : decode cX7_operand 29 = .ok (.iload_n 2, 1) := by decide +kernel
theorem dX7_operand_30 : decode cX7_operand 30 = .ok (.invokevirtual 182, 3) := by decide +kernel
theorem dX7_operand_33 : decode cX7_operand 33 = .ok (.aload_n 0, 1) := by decide +kernel
theorem dX7_operand_34 : decode cX7_operand 34 = .ok (.iconst 0, 1) := by decide +kernel
theorem dX7_operand_35 : decode cX7_operand 35 = .ok (.putfield 148, 3) := by decide +kernel
theorem dX7_operand_38 : decode cX7_operand 38 = .ok (.return_, 1) := by decide +kernel
theorem dX7_arithmeticStep_0 : decode cX7_arithmeticStep 0 = .ok (.aload_n 0, 1) := by decide +kernel
theorem dX7_arithmeticStep_1 : decode cX7_arithmeticStep 1 = .ok (.getfield 167, 3) := by decide +kernel
theorem dX7_arithmeticStep_4 : decode cX7_arithmeticStep 4 = .ok (.iconst 2, 1) := by decide +kernel
theorem dX7_arithmeticStep_5 : decode cX7_arithmeticStep 5 = .ok (.ishr, 1) := by decide +kernel
theorem dX7_arithmeticStep_6 : decode cX7_arithmeticStep 6 = .ok (.bipush 7, 2) := by decide +kernel
theorem dX7_arithmeticStep_8 : decode cX7_arithmeticStep 8 = .ok (.iand, 1) := by decide +kernel
theorem dX7_arithmeticStep_9 : decode cX7_arithmeticStep 9 = .ok (.istore_n 1, 1) := by decide +kernel
theorem dX7_arithmeticStep_10 : decode cX7_arithmeticStep 10 = .ok (.aload_n 0, 1) := by decide +kernel
theorem dX7_arithmeticStep_11 : decode cX7_arithmeticStep 11 = .ok (.getfield 148, 3) := by decide +kernel
theorem dX7_arithmeticStep_14 : decode cX7_arithmeticStep 14 = .ok (.iconst 1, 1) := by decide +kernel
theorem dX7_arithmeticStep_15 : decode cX7_arithmeticStep 15 = .ok (.if_icmp .ne 37, 3) := by decide +kernel
theorem dX7_arithmeticStep_18 : decode cX7_arithmeticStep 18 = .ok (.aload_n 0, 1) := by decide +kernel
theorem dX7_arithmeticStep_19 : decode cX7_arithmeticStep 19 = .ok (.aload_n 0, 1) := by decide +kernel
theorem dX7_arithmeticStep_20 : decode cX7_arithmeticStep 20 = .ok (.invokevirtual 185, 3) := by decide +kernel
theorem dX7_arithmeticStep_23 : decode cX7_arithmeticStep 23 = .ok (.putfield 188, 3) := by decide +kernel
theorem dX7_arithmeticStep_26 : decode cX7_arithmeticStep 26 = .ok (.aload_n 0, 1) := by decide +kernel
theorem dX7_arithmeticStep_27 : decode cX7_arithmeticStep 27 = .ok (.iconst 2, 1) := by decide +kernel
theorem dX7_arithmeticStep_28 : decode cX7_arithmeticStep 28 = .ok (.putfield 148, 3) := by decide +kernel
theorem dX7_arithmeticStep_31 : decode cX7_arithmeticStep 31 = .ok (.iload_n 1, 1) := by decide +kernel
theorem dX7_arithmeticStep_32 : decode cX7_arithmeticStep 32 = .ok (.iconst 2, 1) := by decide +kernel
theorem dX7_arithmeticStep_33 : decode cX7_arithmeticStep 33 = .ok (.if_icmp .ne 179, 3) := by decide +kernel
theorem dX7_arithmeticStep_36 : decode cX7_arithmeticStep 36 = .ok (.aload_n 0, 1) := by decide +kernel
theorem dX7_arithmeticStep_37 : decode cX7_arithmeticStep 37 = .ok (.aload_n 0, 1) := by decide +kernel
theorem dX7_arithmeticStep_38 : decode cX7_arithmeticStep 38 = .ok (.getfield 188, 3) := by decide +kernel
theorem dX7_arithmeticStep_41 : decode cX7_arithmeticStep 41 = .ok (.invokevirtual 182, 3) := by decide +kernel
theorem dX7_arithmeticStep_44 : decode cX7_arithmeticStep 44 = .ok (.aload_n 0, 1) := by decide +kernel
theorem dX7_arithmeticStep_45 : decode cX7_arithmeticStep 45 = .ok (.iconst 0, 1) := by decide +kernel
theorem dX7_arithmeticStep_46 : decode cX7_arithmeticStep 46 = .ok (.putfield 148, 3) := by decide +kernel
theorem dX7_arithmeticStep_49 : decode cX7_arithmeticStep 49 = .ok (.goto 163, 3) := by decide +kernel
theorem dX7_arithmeticStep_52 : decode cX7_arithmeticStep 52 = .ok (.iload_n 1, 1) := by decide +kernel
theorem dX7_arithmeticStep_53 : decode cX7_arithmeticStep 53 = .ok (.iconst 1, 1) := by decide +kernel
theorem dX7_arithmeticStep_54 : decode cX7_arithmeticStep 54 = .ok (.if_icmp .ne 14, 3) := by decide +kernel
theorem dX7_arithmeticStep_57 : decode cX7_arithmeticStep 57 = .ok (.aload_n 0, 1) := by decide +kernel
theorem dX7_arithmeticStep_58 : decode cX7_arithmeticStep 58 = .ok (.aload_n 0, 1) := by decide +kernel
theorem dX7_arithmeticStep_59 : decode cX7_arithmeticStep 59 = .ok (.getfield 188, 3) := by decide +kernel
theorem dX7_arithmeticStep_62 : decode cX7_arithmeticStep 62 = .ok (.invokevirtual 191, 3) := by decide +kernel
theorem dX7_arithmeticStep_65 : decode cX7_arithmeticStep 65 = .ok (.goto 147, 3) := by decide +kernel
theorem dX7_arithmeticStep_68 : decode cX7_arithmeticStep 68 = .ok (.aload_n 0, 1) := by decide +kernel
theorem dX7_arithmeticStep_69 : decode cX7_arithmeticStep 69 = .ok (.getfield 148, 3) := by decide +kernel
theorem dX7_arithmeticStep_72 : decode cX7_arithmeticStep 72 = .ok (.iconst 2, 1) := by decide +kernel
theorem dX7_arithmeticStep_73 : decode cX7_arithmeticStep 73 = .ok (.if_icmp .ne 19, 3) := by decide +kernel
theorem dX7_arithmeticStep_76 : decode cX7_arithmeticStep 76 = .ok (.aload_n 0, 1) := by decide +kernel
theorem dX7_arithmeticStep_77 : decode cX7_arithmeticStep 77 = .ok (.aload_n 0, 1) := by decide +kernel
theorem dX7_arithmeticStep_78 : decode cX7_arithmeticStep 78 = .ok (.invokevirtual 185, 3) := by decide +kernel
theorem dX7_arithmeticStep_81 : decode cX7_arithmeticStep 81 = .ok (.putfield 194, 3) := by decide +kernel
theorem dX7_arithmeticStep_84 : decode cX7_arithmeticStep 84 = .ok (.aload_n 0, 1) := by decide +kernel
theorem dX7_arithmeticStep_85 : decode cX7_arithmeticStep 85 = .ok (.iconst 3, 1) := by decide +kernel
theorem dX7_arithmeticStep_86 : decode cX7_arithmeticStep 86 = .ok (.putfield 148, 3) := by decide +kernel
theorem dX7_arithmeticStep_89 : decode cX7_arithmeticStep 89 = .ok (.goto 123, 3) := by decide +kernel
theorem dX7_arithmeticStep_92 : decode cX7_arithmeticStep 92 = .ok (.iload_n 1, 1) := by decide +kernel
theorem dX7_arithmeticStep_93 : decode cX7_arithmeticStep 93 = .ok (.iconst 3, 1) := by decide +kernel
theorem dX7_arithmeticStep_94 : decode cX7_arithmeticStep 94 = .ok (.if_icmp .ne 23, 3) := by decide +kernel
theorem dX7_arithmeticStep_97 : decode cX7_arithmeticStep 97 = .ok (.aload_n 0, 1) := by decide +kernel
theorem dX7_arithmeticStep_98 : decode cX7_arithmeticStep 98 = .ok (.aload_n 0, 1) := by decide +kernel
theorem dX7_arithmeticStep_99 : decode cX7_arithmeticStep 99 = .ok (.getfield 188, 3) := by decide +kernel
theorem dX7_arithmeticStep_102 : decode cX7_arithmeticStep 102 = .ok (.sipush 256, 3) := by decide +kernel
theorem dX7_arithmeticStep_105 : decode cX7_arithmeticStep 105 = .ok (.aload_n 0, 1) := by decide +kernel
theorem dX7_arithmeticStep_106 : decode cX7_arithmeticStep 106 = .ok (.getfield 194, 3) := by decide +kernel
theorem dX7_arithmeticStep_109 : decode cX7_arithmeticStep 109 = .ok (.imul, 1) := by decide +kernel
theorem dX7_arithmeticStep_110 : decode cX7_arithmeticStep 110 = .ok (.iadd, 1) := by decide +kernel
theorem dX7_arithmeticStep_111 : decode cX7_arithmeticStep 111 = .ok (.invokevirtual 191, 3) := by decide +kernel
theorem dX7_arithmeticStep_114 : decode cX7_arithmeticStep 114 = .ok (.goto 98, 3) := by decide +kernel
theorem dX7_arithmeticStep_117 : decode cX7_arithmeticStep 117 = .ok (.aload_n 0, 1) := by decide +kernel
theorem dX7_arithmeticStep_118 : decode cX7_arithmeticStep 118 = .ok (.getfield 148, 3) := by decide +kernel
theorem dX7_arithmeticStep_121 : decode cX7_arithmeticStep 121 = .ok (.iconst 3, 1) := by decide +kernel
theorem dX7_arithmeticStep_122 : decode cX7_arithmeticStep 122 = .ok (.if_icmp .ne 68, 3) := by decide +kernel
theorem dX7_arithmeticStep_125 : decode cX7_arithmeticStep 125 = .ok (.aload_n 0, 1) := by decide +kernel
theorem dX7_arithmeticStep_126 : decode cX7_arithmeticStep 126 = .ok (.getfield 188, 3) := by decide +kernel
theorem dX7_arithmeticStep_129 : decode cX7_arithmeticStep 129 = .ok (.aload_n 0, 1) := by decide +kernel
theorem dX7_arithmeticStep_130 : decode cX7_arithmeticStep 130 = .ok (.getfield 139, 3) := by decide +kernel
theorem dX7_arithmeticStep_133 : decode cX7_arithmeticStep 133 = .ok (.iadd, 1) := by decide +kernel
theorem dX7_arithmeticStep_134 : decode cX7_arithmeticStep 134 = .ok (.sipush 255, 3) := by decide +kernel
theorem dX7_arithmeticStep_137 : decode cX7_arithmeticStep 137 = .ok (.if_icmp .gt 13, 3) := by decide +kernel
theorem dX7_arithmeticStep_140 : decode cX7_arithmeticStep 140 = .ok (.aload_n 0, 1) := by decide +kernel
theorem dX7_arithmeticStep_141 : decode cX7_arithmeticStep 141 = .ok (.getfield 167, 3) := by decide +kernel
theorem dX7_arithmeticStep_144 : decode cX7_arithmeticStep 144 = .ok (.sipush 157, 3) := by decide +kernel
theorem dX7_arithmeticStep_147 : decode cX7_arithmeticStep 147 = .ok (.if_icmp .ne 43, 3) := by decide +kernel
theorem dX7_arithmeticStep_150 : decode cX7_arithmeticStep 150 = .ok (.aload_n 0, 1) := by decide +kernel
theorem dX7_arithmeticStep_151 : decode cX7_arithmeticStep 151 = .ok (.aload_n 0, 1) := by decide +kernel
theorem dX7_arithmeticStep_152 : decode cX7_arithmeticStep 152 = .ok (.getfield 188, 3) := by decide +kernel
theorem dX7_arithmeticStep_155 : decode cX7_arithmeticStep 155 = .ok (.aload_n 0, 1) := by decide +kernel
theorem dX7_arithmeticStep_156 : decode cX7_arithmeticStep 156 = .ok (.getfield 139, 3) := by decide +kernel
theorem dX7_arithmeticStep_159 : decode cX7_arithmeticStep 159 = .ok (.iadd, 1) := by decide +kernel
theorem dX7_arithmeticStep_160 : decode cX7_arithmeticStep 160 = .ok (.sipush 255, 3) := by decide +kernel
theorem dX7_arithmeticStep_163 : decode cX7_arithmeticStep 163 = .ok (.iand, 1) := by decide +kernel
theorem dX7_arithmeticStep_164 : decode cX7_arithmeticStep 164 = .ok (.sipush 256, 3) := by decide +kernel
theorem dX7_arithmeticStep_167 : decode cX7_arithmeticStep 167 = .ok (.aload_n 0, 1) := by decide +kernel
theorem dX7_arithmeticStep_168 : decode cX7_arithmeticStep 168 = .ok (.getfield 194, 3) := by decide +kernel
theorem dX7_arithmeticStep_171 : decode cX7_arithmeticStep 171 = .ok (.imul, 1) := by decide +kernel
theorem dX7_arithmeticStep_172 : decode cX7_arithmeticStep 172 = .ok (.iadd, 1) := by decide +kernel
theorem dX7_arithmeticStep_173 : decode cX7_arithmeticStep 173 = .ok (.invokevirtual 161, 3) := by decide +kernel
theorem dX7_arithmeticStep_176 : decode cX7_arithmeticStep 176 = .ok (.istore_n 2, 1) := by decide +kernel
theorem dX7_arithmeticStep_177 : decode cX7_arithmeticStep 177 = .ok (.aload_n 0, 1) := by decide +kernel
theorem dX7_arithmeticStep_178 : decode cX7_arithmeticStep 178 = .ok (.iload_n 2, 1) := by decide +kernel
theorem dX7_arithmeticStep_179 : decode cX7_arithmeticStep 179 = .ok (.putfield 197, 3) := by decide +kernel
theorem dX7_arithmeticStep_182 : decode cX7_arithmeticStep 182 = .ok (.aload_n 0, 1) := by decide +kernel
theorem dX7_arithmeticStep_183 : decode cX7_arithmeticStep 183 = .ok (.iconst 4, 1) := by decide +kernel
theorem dX7_arithmeticStep_184 : decode cX7_arithmeticStep 184 = .ok (.putfield 148, 3) := by decide +kernel
theorem dX7_arithmeticStep_187 : decode cX7_arithmeticStep 187 = .ok (.goto 25, 3) := by decide +kernel
theorem dX7_arithmeticStep_190 : decode cX7_arithmeticStep 190 = .ok (.aload_n 0, 1) := by decide +kernel
theorem dX7_arithmeticStep_191 : decode cX7_arithmeticStep 191 = .ok (.aload_n 0, 1) := by decide +kernel
theorem dX7_arithmeticStep_192 : decode cX7_arithmeticStep 192 = .ok (.getfield 188, 3) := by decide +kernel
theorem dX7_arithmeticStep_195 : decode cX7_arithmeticStep 195 = .ok (.aload_n 0, 1) := by decide +kernel
theorem dX7_arithmeticStep_196 : decode cX7_arithmeticStep 196 = .ok (.getfield 139, 3) := by decide +kernel
theorem dX7_arithmeticStep_199 : decode cX7_arithmeticStep 199 = .ok (.iadd, 1) := by decide +kernel
theorem dX7_arithmeticStep_200 : decode cX7_arithmeticStep 200 = .ok (.sipush 256, 3) := by decide +kernel
theorem dX7_arithmeticStep_203 : decode cX7_arithmeticStep 203 = .ok (.aload_n 0, 1) := by decide +kernel
theorem dX7_arithmeticStep_204 : decode cX7_arithmeticStep 204 = .ok (.getfield 194, 3) := by decide +kernel
theorem dX7_arithmeticStep_207 : decode cX7_arithmeticStep 207 = .ok (.imul, 1) := by decide +kernel
theorem dX7_arithmeticStep_208 : decode cX7_arithmeticStep 208 = .ok (.iadd, 1) := by decide +kernel
theorem dX7_arithmeticStep_209 : decode cX7_arithmeticStep 209 = .ok (.invokevirtual 191, 3) := by decide +kernel
theorem dX7_arithmeticStep_212 : decode cX7_arithmeticStep 212 = .ok (.return_, 1) := by decide +kernel
theorem dX7_branchStep_0 : decode cX7_branchStep 0 = .ok (.aload_n 0, 1) := by decide +kernel
theorem dX7_branchStep_1 : decode cX7_branchStep 1 = .ok (.getfield 148, 3) := by decide +kernel
theorem dX7_branchStep_4 : decode cX7_branchStep 4 = .ok (.iconst 1, 1) := by decide +kernel
theorem dX7_branchStep_5 : decode cX7_branchStep 5 = .ok (.if_icmp .ne 85, 3) := by decide +kernel
theorem dX7_branchStep_8 : decode cX7_branchStep 8 = .ok (.aload_n 0, 1) := by decide +kernel
theorem dX7_branchStep_9 : decode cX7_branchStep 9 = .ok (.aload_n 0, 1) := by decide +kernel
theorem dX7_branchStep_10 : decode cX7_branchStep 10 = .ok (.invokevirtual 185, 3) := by decide +kernel
theorem dX7_branchStep_13 : decode cX7_branchStep 13 = .ok (.putfield 188, 3) := by decide +kernel
theorem dX7_branchStep_16 : decode cX7_branchStep 16 = .ok (.aload_n 0, 1) := by decide +kernel
theorem dX7_branchStep_17 : decode cX7_branchStep 17 = .ok (.getfield 167, 3) := by decide +kernel
theorem dX7_branchStep_20 : decode cX7_branchStep 20 = .ok (.bipush 6, 2) := by decide +kernel
theorem dX7_branchStep_22 : decode cX7_branchStep 22 = .ok (.ishr, 1) := by decide +kernel
theorem dX7_branchStep_23 : decode cX7_branchStep 23 = .ok (.istore_n 1, 1) := by decide +kernel
theorem dX7_branchStep_24 : decode cX7_branchStep 24 = .ok (.iload_n 1, 1) := by decide +kernel
theorem dX7_branchStep_25 : decode cX7_branchStep 25 = .ok (.ifCond .ne 9, 3) := by decide +kernel
theorem dX7_branchStep_28 : decode cX7_branchStep 28 = .ok (.sipush 128, 3) := by decide +kernel
theorem dX7_branchStep_31 : decode cX7_branchStep 31 = .ok (.goto 23, 3) := by decide +kernel
theorem dX7_branchStep_34 : decode cX7_branchStep 34 = .ok (.iload_n 1, 1) := by decide +kernel
theorem dX7_branchStep_35 : decode cX7_branchStep 35 = .ok (.iconst 1, 1) := by decide +kernel
theorem dX7_branchStep_36 : decode cX7_branchStep 36 = .ok (.if_icmp .ne 8, 3) := by decide +kernel
theorem dX7_branchStep_39 : decode cX7_branchStep 39 = .ok (.bipush 64, 2) := by decide +kernel
theorem dX7_branchStep_41 : decode cX7_branchStep 41 = .ok (.goto 13, 3) := by decide +kernel
theorem dX7_branchStep_44 : decode cX7_branchStep 44 = .ok (.iload_n 1, 1) := by decide +kernel
theorem dX7_branchStep_45 : decode cX7_branchStep 45 = .ok (.iconst 2, 1) := by decide +kernel
theorem dX7_branchStep_46 : decode cX7_branchStep 46 = .ok (.if_icmp .ne 7, 3) := by decide +kernel
theorem dX7_branchStep_49 : decode cX7_branchStep 49 = .ok (.iconst 1, 1) := by decide +kernel
theorem dX7_branchStep_50 : decode cX7_branchStep 50 = .ok (.goto 4, 3) := by decide +kernel
theorem dX7_branchStep_53 : decode cX7_branchStep 53 = .ok (.iconst 2, 1) := by decide +kernel
theorem dX7_branchStep_54 : decode cX7_branchStep 54 = .ok (.istore_n 2, 1) := by decide +kernel
theorem dX7_branchStep_55 : decode cX7_branchStep 55 = .ok (.aload_n 0, 1) := by decide +kernel
theorem dX7_branchStep_56 : decode cX7_branchStep 56 = .ok (.aload_n 0, 1) := by decide +kernel
theorem dX7_branchStep_57 : decode cX7_branchStep 57 = .ok (.iload_n 2, 1) := by decide +kernel
theorem dX7_branchStep_58 : decode cX7_branchStep 58 = .ok (.invokevirtual 170, 3) := by decide +kernel
theorem dX7_branchStep_61 : decode cX7_branchStep 61 = .ok (.aload_n 0, 1) := by decide +kernel
theorem dX7_branchStep_62 : decode cX7_branchStep 62 = .ok (.getfield 167, 3) := by decide +kernel
theorem dX7_branchStep_65 : decode cX7_branchStep 65 = .ok (.bipush 32, 2) := by decide +kernel
theorem dX7_branchStep_67 : decode cX7_branchStep 67 = .ok (.iand, 1) := by decide +kernel
theorem dX7_branchStep_68 : decode cX7_branchStep 68 = .ok (.ifCond .eq 7, 3) := by decide +kernel
theorem dX7_branchStep_71 : decode cX7_branchStep 71 = .ok (.iconst 1, 1) := by decide +kernel
theorem dX7_branchStep_72 : decode cX7_branchStep 72 = .ok (.goto 4, 3) := by decide +kernel
theorem dX7_branchStep_75 : decode cX7_branchStep 75 = .ok (.iconst 0, 1) := by decide +kernel
theorem dX7_branchStep_76 : decode cX7_branchStep 76 = .ok (.if_icmp .ne 7, 3) := by decide +kernel
theorem dX7_branchStep_79 : decode cX7_branchStep 79 = .ok (.iconst 2, 1) := by decide +kernel
theorem dX7_branchStep_80 : decode cX7_branchStep 80 = .ok (.goto 4, 3) := by decide +kernel
theorem dX7_branchStep_83 : decode cX7_branchStep 83 = .ok (.iconst 0, 1) := by decide +kernel
theorem dX7_branchStep_84 : decode cX7_branchStep 84 = .ok (.putfield 148, 3) := by decide +kernel
theorem dX7_branchStep_87 : decode cX7_branchStep 87 = .ok (.goto 139, 3) := by decide +kernel
theorem dX7_branchStep_90 : decode cX7_branchStep 90 = .ok (.aload_n 0, 1) := by decide +kernel
theorem dX7_branchStep_91 : decode cX7_branchStep 91 = .ok (.aload_n 0, 1) := by decide +kernel
theorem dX7_branchStep_92 : decode cX7_branchStep 92 = .ok (.getfield 145, 3) := by decide +kernel
theorem dX7_branchStep_95 : decode cX7_branchStep 95 = .ok (.invokevirtual 161, 3) := by decide +kernel
theorem dX7_branchStep_98 : decode cX7_branchStep 98 = .ok (.pop, 1) := by decide +kernel
theorem dX7_branchStep_99 : decode cX7_branchStep 99 = .ok (.aload_n 0, 1) := by decide +kernel
theorem dX7_branchStep_100 : decode cX7_branchStep 100 = .ok (.getfield 145, 3) := by decide +kernel
theorem dX7_branchStep_103 : decode cX7_branchStep 103 = .ok (.aload_n 0, 1) := by decide +kernel
theorem dX7_branchStep_104 : decode cX7_branchStep 104 = .ok (.getfield 188, 3) := by decide +kernel
theorem dX7_branchStep_107 : decode cX7_branchStep 107 = .ok (.bipush 127, 2) := by decide +kernel
theorem dX7_branchStep_109 : decode cX7_branchStep 109 = .ok (.if_icmp .le 14, 3) := by decide +kernel
theorem dX7_branchStep_112 : decode cX7_branchStep 112 = .ok (.aload_n 0, 1) := by decide +kernel
theorem dX7_branchStep_113 : decode cX7_branchStep 113 = .ok (.getfield 188, 3) := by decide +kernel
theorem dX7_branchStep_116 : decode cX7_branchStep 116 = .ok (.sipush 256, 3) := by decide +kernel
theorem dX7_branchStep_119 : decode cX7_branchStep 119 = .ok (.isub, 1) := by decide +kernel
theorem dX7_branchStep_120 : decode cX7_branchStep 120 = .ok (.goto 7, 3) := by decide +kernel
theorem dX7_branchStep_123 : decode cX7_branchStep 123 = .ok (.aload_n 0, 1) := by decide +kernel
theorem dX7_branchStep_124 : decode cX7_branchStep 124 = .ok (.getfield 188, 3) := by decide +kernel
theorem dX7_branchStep_127 : decode cX7_branchStep 127 = .ok (.iadd, 1) := by decide +kernel
theorem dX7_branchStep_128 : decode cX7_branchStep 128 = .ok (.ldc 69, 2) := by decide +kernel
theorem dX7_branchStep_130 : decode cX7_branchStep 130 = .ok (.iand, 1) := by decide +kernel
theorem dX7_branchStep_131 : decode cX7_branchStep 131 = .ok (.istore_n 1, 1) := by decide +kernel
theorem dX7_branchStep_132 : decode cX7_branchStep 132 = .ok (.aload_n 0, 1) := by decide +kernel
theorem dX7_branchStep_133 : decode cX7_branchStep 133 = .ok (.getfield 148, 3) := by decide +kernel
theorem dX7_branchStep_136 : decode cX7_branchStep 136 = .ok (.iconst 2, 1) := by decide +kernel
theorem dX7_branchStep_137 : decode cX7_branchStep 137 = .ok (.if_icmp .ne 21, 3) := by decide +kernel
theorem dX7_branchStep_140 : decode cX7_branchStep 140 = .ok (.iload_n 1, 1) := by decide +kernel
theorem dX7_branchStep_141 : decode cX7_branchStep 141 = .ok (.bipush 8, 2) := by decide +kernel
theorem dX7_branchStep_143 : decode cX7_branchStep 143 = .ok (.ishr, 1) := by decide +kernel
theorem dX7_branchStep_144 : decode cX7_branchStep 144 = .ok (.aload_n 0, 1) := by decide +kernel
theorem dX7_branchStep_145 : decode cX7_branchStep 145 = .ok (.getfield 145, 3) := by decide +kernel
theorem dX7_branchStep_148 : decode cX7_branchStep 148 = .ok (.bipush 8, 2) := by decide +kernel
theorem dX7_branchStep_150 : decode cX7_branchStep 150 = .ok (.ishr, 1) := by decide +kernel
theorem dX7_branchStep_151 : decode cX7_branchStep 151 = .ok (.if_icmp .eq 7, 3) := by decide +kernel
theorem dX7_branchStep_154 : decode cX7_branchStep 154 = .ok (.iconst 1, 1) := by decide +kernel
theorem dX7_branchStep_155 : decode cX7_branchStep 155 = .ok (.goto 4, 3) := by decide +kernel
theorem dX7_branchStep_158 : decode cX7_branchStep 158 = .ok (.iconst 0, 1) := by decide +kernel
theorem dX7_branchStep_159 : decode cX7_branchStep 159 = .ok (.istore_n 2, 1) := by decide +kernel
theorem dX7_branchStep_160 : decode cX7_branchStep 160 = .ok (.aload_n 0, 1) := by decide +kernel
theorem dX7_branchStep_161 : decode cX7_branchStep 161 = .ok (.getfield 148, 3) := by decide +kernel
theorem dX7_branchStep_164 : decode cX7_branchStep 164 = .ok (.iconst 2, 1) := by decide +kernel
theorem dX7_branchStep_165 : decode cX7_branchStep 165 = .ok (.if_icmp .ne 8, 3) := by decide +kernel
theorem dX7_branchStep_168 : decode cX7_branchStep 168 = .ok (.aload_n 0, 1) := by decide +kernel
theorem dX7_branchStep_169 : decode cX7_branchStep 169 = .ok (.iload_n 1, 1) := by decide +kernel
theorem dX7_branchStep_170 : decode cX7_branchStep 170 = .ok (.putfield 197, 3) := by decide +kernel
theorem dX7_branchStep_173 : decode cX7_branchStep 173 = .ok (.aload_n 0, 1) := by decide +kernel
theorem dX7_branchStep_174 : decode cX7_branchStep 174 = .ok (.aload_n 0, 1) := by decide +kernel
theorem dX7_branchStep_175 : decode cX7_branchStep 175 = .ok (.getfield 148, 3) := by decide +kernel
theorem dX7_branchStep_178 : decode cX7_branchStep 178 = .ok (.iconst 3, 1) := by decide +kernel
theorem dX7_branchStep_179 : decode cX7_branchStep 179 = .ok (.if_icmp .ne 10, 3) := by decide +kernel
theorem dX7_branchStep_182 : decode cX7_branchStep 182 = .ok (.aload_n 0, 1) := by decide +kernel
theorem dX7_branchStep_183 : decode cX7_branchStep 183 = .ok (.getfield 197, 3) := by decide +kernel
theorem dX7_branchStep_186 : decode cX7_branchStep 186 = .ok (.goto 24, 3) := by decide +kernel
theorem dX7_branchStep_189 : decode cX7_branchStep 189 = .ok (.iload_n 2, 1) := by decide +kernel
theorem dX7_branchStep_190 : decode cX7_branchStep 190 = .ok (.ifCond .eq 19, 3) := by decide +kernel
theorem dX7_branchStep_193 : decode cX7_branchStep 193 = .ok (.aload_n 0, 1) := by decide +kernel
theorem dX7_branchStep_194 : decode cX7_branchStep 194 = .ok (.getfield 145, 3) := by decide +kernel
theorem dX7_branchStep_197 : decode cX7_branchStep 197 = .ok (.ldc 101, 2) := by decide +kernel
theorem dX7_branchStep_199 : decode cX7_branchStep 199 = .ok (.iand, 1) := by decide +kernel
theorem dX7_branchStep_200 : decode cX7_branchStep 200 = .ok (.iload_n 1, 1) := by decide +kernel
theorem dX7_branchStep_201 : decode cX7_branchStep 201 = .ok (.sipush 255, 3) := by decide +kernel
theorem dX7_branchStep_204 : decode cX7_branchStep 204 = .ok (.iand, 1) := by decide +kernel
theorem dX7_branchStep_205 : decode cX7_branchStep 205 = .ok (.iadd, 1) := by decide +kernel
theorem dX7_branchStep_206 : decode cX7_branchStep 206 = .ok (.goto 4, 3) := by decide +kernel
theorem dX7_branchStep_209 : decode cX7_branchStep 209 = .ok (.iload_n 1, 1) := by decide +kernel
theorem dX7_branchStep_210 : decode cX7_branchStep 210 = .ok (.putfield 145, 3) := by decide +kernel
theorem dX7_branchStep_213 : decode cX7_branchStep 213 = .ok (.aload_n 0, 1) := by decide +kernel
theorem dX7_branchStep_214 : decode cX7_branchStep 214 = .ok (.iload_n 2, 1) := by decide +kernel
theorem dX7_branchStep_215 : decode cX7_branchStep 215 = .ok (.ifCond .eq 7, 3) := by decide +kernel
theorem dX7_branchStep_218 : decode cX7_branchStep 218 = .ok (.iconst 3, 1) := by decide +kernel
theorem dX7_branchStep_219 : decode cX7_branchStep 219 = .ok (.goto 4, 3) := by decide +kernel
theorem dX7_branchStep_222 : decode cX7_branchStep 222 = .ok (.iconst 0, 1) := by decide +kernel
theorem dX7_branchStep_223 : decode cX7_branchStep 223 = .ok (.putfield 148, 3) := by decide +kernel
theorem dX7_branchStep_226 : decode cX7_branchStep 226 = .ok (.return_, 1) := by decide +kernel
theorem dX7_interruptStep_0 : decode cX7_interruptStep 0 = .ok (.aload_n 0, 1) := by decide +kernel
theorem dX7_interruptStep_1 : decode cX7_interruptStep 1 = .ok (.getfield 148, 3) := by decide +kernel
theorem dX7_interruptStep_4 : decode cX7_interruptStep 4 = .ok (.iconst 2, 1) := by decide +kernel
theorem dX7_interruptStep_5 : decode cX7_interruptStep 5 = .ok (.if_icmp .ge 12, 3) := by decide +kernel
theorem dX7_interruptStep_8 : decode cX7_interruptStep 8 = .ok (.aload_n 0, 1) := by decide +kernel
theorem dX7_interruptStep_9 : decode cX7_interruptStep 9 = .ok (.aload_n 0, 1) := by decide +kernel
theorem dX7_interruptStep_10 : decode cX7_interruptStep 10 = .ok (.getfield 145, 3) := by decide +kernel
theorem dX7_interruptStep_13 : decode cX7_interruptStep 13 = .ok (.invokevirtual 161, 3) := by decide +kernel
theorem dX7_interruptStep_16 : decode cX7_interruptStep 16 = .ok (.pop, 1) := by decide +kernel
theorem dX7_interruptStep_17 : decode cX7_interruptStep 17 = .ok (.aload_n 0, 1) := by decide +kernel
theorem dX7_interruptStep_18 : decode cX7_interruptStep 18 = .ok (.getfield 148, 3) := by decide +kernel
theorem dX7_interruptStep_21 : decode cX7_interruptStep 21 = .ok (.iconst 2, 1) := by decide +kernel
theorem dX7_interruptStep_22 : decode cX7_interruptStep 22 = .ok (.if_icmp .ne 14, 3) := by decide +kernel
theorem dX7_interruptStep_25 : decode cX7_interruptStep 25 = .ok (.aload_n 0, 1) := by decide +kernel
theorem dX7_interruptStep_26 : decode cX7_interruptStep 26 = .ok (.aload_n 0, 1) := by decide +kernel
theorem dX7_interruptStep_27 : decode cX7_interruptStep 27 = .ok (.getfield 145, 3) := by decide +kernel
theorem dX7_interruptStep_30 : decode cX7_interruptStep 30 = .ok (.bipush 8, 2) := by decide +kernel
theorem dX7_interruptStep_32 : decode cX7_interruptStep 32 = .ok (.ishr, 1) := by decide +kernel
theorem dX7_interruptStep_33 : decode cX7_interruptStep 33 = .ok (.invokevirtual 200, 3) := by decide +kernel
theorem dX7_interruptStep_36 : decode cX7_interruptStep 36 = .ok (.aload_n 0, 1) := by decide +kernel
theorem dX7_interruptStep_37 : decode cX7_interruptStep 37 = .ok (.getfield 148, 3) := by decide +kernel
theorem dX7_interruptStep_40 : decode cX7_interruptStep 40 = .ok (.iconst 3, 1) := by decide +kernel
theorem dX7_interruptStep_41 : decode cX7_interruptStep 41 = .ok (.if_icmp .ne 15, 3) := by decide +kernel
theorem dX7_interruptStep_44 : decode cX7_interruptStep 44 = .ok (.aload_n 0, 1) := by decide +kernel
theorem dX7_interruptStep_45 : decode cX7_interruptStep 45 = .ok (.aload_n 0, 1) := by decide +kernel
theorem dX7_interruptStep_46 : decode cX7_interruptStep 46 = .ok (.getfield 145, 3) := by decide +kernel
theorem dX7_interruptStep_49 : decode cX7_interruptStep 49 = .ok (.sipush 255, 3) := by decide +kernel
theorem dX7_interruptStep_52 : decode cX7_interruptStep 52 = .ok (.iand, 1) := by decide +kernel
theorem dX7_interruptStep_53 : decode cX7_interruptStep 53 = .ok (.invokevirtual 200, 3) := by decide +kernel
theorem dX7_interruptStep_56 : decode cX7_interruptStep 56 = .ok (.aload_n 0, 1) := by decide +kernel
theorem dX7_interruptStep_57 : decode cX7_interruptStep 57 = .ok (.getfield 148, 3) := by decide +kernel
theorem dX7_interruptStep_60 : decode cX7_interruptStep 60 = .ok (.iconst 4, 1) := by decide +kernel
theorem dX7_interruptStep_61 : decode cX7_interruptStep 61 = .ok (.if_icmp .ne 20, 3) := by decide +kernel
theorem dX7_interruptStep_64 : decode cX7_interruptStep 64 = .ok (.aload_n 0, 1) := by decide +kernel
theorem dX7_interruptStep_65 : decode cX7_interruptStep 65 = .ok (.aload_n 0, 1) := by decide +kernel
theorem dX7_interruptStep_66 : decode cX7_interruptStep 66 = .ok (.getfield 60, 3) := by decide +kernel
theorem dX7_interruptStep_69 : decode cX7_interruptStep 69 = .ok (.bipush 32, 2) := by decide +kernel
theorem dX7_interruptStep_71 : decode cX7_interruptStep 71 = .ok (.ior, 1) := by decide +kernel
theorem dX7_interruptStep_72 : decode cX7_interruptStep 72 = .ok (.invokevirtual 200, 3) := by decide +kernel
theorem dX7_interruptStep_75 : decode cX7_interruptStep 75 = .ok (.aload_n 0, 1) := by decide +kernel
theorem dX7_interruptStep_76 : decode cX7_interruptStep 76 = .ok (.iconst 4, 1) := by decide +kernel
theorem dX7_interruptStep_77 : decode cX7_interruptStep 77 = .ok (.iconst 1, 1) := by decide +kernel
theorem dX7_interruptStep_78 : decode cX7_interruptStep 78 = .ok (.invokevirtual 157, 3) := by decide +kernel
theorem dX7_interruptStep_81 : decode cX7_interruptStep 81 = .ok (.aload_n 0, 1) := by decide +kernel
theorem dX7_interruptStep_82 : decode cX7_interruptStep 82 = .ok (.getfield 148, 3) := by decide +kernel
theorem dX7_interruptStep_85 : decode cX7_interruptStep 85 = .ok (.iconst 5, 1) := by decide +kernel
theorem dX7_interruptStep_86 : decode cX7_interruptStep 86 = .ok (.if_icmp .ne 14, 3) := by decide +kernel
theorem dX7_interruptStep_89 : decode cX7_interruptStep 89 = .ok (.aload_n 0, 1) := by decide +kernel
theorem dX7_interruptStep_90 : decode cX7_interruptStep 90 = .ok (.aload_n 0, 1) := by decide +kernel
theorem dX7_interruptStep_91 : decode cX7_interruptStep 91 = .ok (.sipush 8190, 3) := by decide +kernel
theorem dX7_interruptStep_94 : decode cX7_interruptStep 94 = .ok (.invokevirtual 161, 3) := by decide +kernel
theorem dX7_interruptStep_97 : decode cX7_interruptStep 97 = .ok (.putfield 188, 3) := by decide +kernel
theorem dX7_interruptStep_100 : decode cX7_interruptStep 100 = .ok (.aload_n 0, 1) := by decide +kernel
theorem dX7_interruptStep_101 : decode cX7_interruptStep 101 = .ok (.getfield 148, 3) := by decide +kernel
theorem dX7_interruptStep_104 : decode cX7_interruptStep 104 = .ok (.bipush 6, 2) := by decide +kernel
theorem dX7_interruptStep_106 : decode cX7_interruptStep 106 = .ok (.if_icmp .ne 23, 3) := by decide +kernel
theorem dX7_interruptStep_109 : decode cX7_interruptStep 109 = .ok (.aload_n 0, 1) := by decide +kernel
theorem dX7_interruptStep_110 : decode cX7_interruptStep 110 = .ok (.sipush 256, 3) := by decide +kernel
theorem dX7_interruptStep_113 : decode cX7_interruptStep 113 = .ok (.aload_n 0, 1) := by decide +kernel
theorem dX7_interruptStep_114 : decode cX7_interruptStep 114 = .ok (.sipush 8191, 3) := by decide +kernel
theorem dX7_interruptStep_117 : decode cX7_interruptStep 117 = .ok (.invokevirtual 161, 3) := by decide +kernel
theorem dX7_interruptStep_120 : decode cX7_interruptStep 120 = .ok (.imul, 1) := by decide +kernel
theorem dX7_interruptStep_121 : decode cX7_interruptStep 121 = .ok (.aload_n 0, 1) := by decide +kernel
theorem dX7_interruptStep_122 : decode cX7_interruptStep 122 = .ok (.getfield 188, 3) := by decide +kernel
theorem dX7_interruptStep_125 : decode cX7_interruptStep 125 = .ok (.iadd, 1) := by decide +kernel
theorem dX7_interruptStep_126 : decode cX7_interruptStep 126 = .ok (.putfield 145, 3) := by decide +kernel
theorem dX7_interruptStep_129 : decode cX7_interruptStep 129 = .ok (.aload_n 0, 1) := by decide +kernel
theorem dX7_interruptStep_130 : decode cX7_interruptStep 130 = .ok (.aload_n 0, 1) := by decide +kernel
theorem dX7_interruptStep_131 : decode cX7_interruptStep 131 = .ok (.getfield 148, 3) := by decide +kernel
theorem dX7_interruptStep_134 : decode cX7_interruptStep 134 = .ok (.bipush 6, 2) := by decide +kernel
theorem dX7_interruptStep_136 : decode cX7_interruptStep 136 = .ok (.if_icmp .ne 7, 3) := by decide +kernel
theorem dX7_interruptStep_139 : decode cX7_interruptStep 139 = .ok (.iconst 0, 1) := by decide +kernel
theorem dX7_interruptStep_140 : decode cX7_interruptStep 140 = .ok (.goto 9, 3) := by decide +kernel
theorem dX7_interruptStep_143 : decode cX7_interruptStep 143 = .ok (.aload_n 0, 1) := by decide +kernel
theorem dX7_interruptStep_144 : decode cX7_interruptStep 144 = .ok (.getfield 148, 3) := by decide +kernel
theorem dX7_interruptStep_147 : decode cX7_interruptStep 147 = .ok (.iconst 1, 1) := by decide +kernel
theorem dX7_interruptStep_148 : decode cX7_interruptStep 148 = .ok (.iadd, 1) := by decide +kernel
theorem dX7_interruptStep_149 : decode cX7_interruptStep 149 = .ok (.putfield 148, 3) := by decide +kernel
theorem dX7_interruptStep_152 : decode cX7_interruptStep 152 = .ok (.return_, 1) := by decide +kernel
theorem dX7_jumpStep_0 : decode cX7_jumpStep 0 = .ok (.aload_n 0, 1) := by decide +kernel
theorem dX7_jumpStep_1 : decode cX7_jumpStep 1 = .ok (.getfield 167, 3) := by decide +kernel
theorem dX7_jumpStep_4 : decode cX7_jumpStep 4 = .ok (.bipush 76, 2) := by decide +kernel
theorem dX7_jumpStep_6 : decode cX7_jumpStep 6 = .ok (.if_icmp .ne 7, 3) := by decide +kernel
theorem dX7_jumpStep_9 : decode cX7_jumpStep 9 = .ok (.iconst 2, 1) := by decide +kernel
theorem dX7_jumpStep_10 : decode cX7_jumpStep 10 = .ok (.goto 4, 3) := by decide +kernel
theorem dX7_jumpStep_13 : decode cX7_jumpStep 13 = .ok (.iconst 5, 1) := by decide +kernel
theorem dX7_jumpStep_14 : decode cX7_jumpStep 14 = .ok (.istore_n 1, 1) := by decide +kernel
theorem dX7_jumpStep_15 : decode cX7_jumpStep 15 = .ok (.aload_n 0, 1) := by decide +kernel
theorem dX7_jumpStep_16 : decode cX7_jumpStep 16 = .ok (.getfield 167, 3) := by decide +kernel
theorem dX7_jumpStep_19 : decode cX7_jumpStep 19 = .ok (.bipush 76, 2) := by decide +kernel
theorem dX7_jumpStep_21 : decode cX7_jumpStep 21 = .ok (.if_icmp .ne 11, 3) := by decide +kernel
theorem dX7_jumpStep_24 : decode cX7_jumpStep 24 = .ok (.aload_n 0, 1) := by decide +kernel
theorem dX7_jumpStep_25 : decode cX7_jumpStep 25 = .ok (.getfield 148, 3) := by decide +kernel
theorem dX7_jumpStep_28 : decode cX7_jumpStep 28 = .ok (.iconst 1, 1) := by decide +kernel
theorem dX7_jumpStep_29 : decode cX7_jumpStep 29 = .ok (.if_icmp .eq 20, 3) := by decide +kernel
theorem dX7_jumpStep_32 : decode cX7_jumpStep 32 = .ok (.aload_n 0, 1) := by decide +kernel
theorem dX7_jumpStep_33 : decode cX7_jumpStep 33 = .ok (.getfield 167, 3) := by decide +kernel
theorem dX7_jumpStep_36 : decode cX7_jumpStep 36 = .ok (.bipush 32, 2) := by decide +kernel
theorem dX7_jumpStep_38 : decode cX7_jumpStep 38 = .ok (.if_icmp .ne 22, 3) := by decide +kernel
theorem dX7_jumpStep_41 : decode cX7_jumpStep 41 = .ok (.aload_n 0, 1) := by decide +kernel
theorem dX7_jumpStep_42 : decode cX7_jumpStep 42 = .ok (.getfield 148, 3) := by decide +kernel
theorem dX7_jumpStep_45 : decode cX7_jumpStep 45 = .ok (.iconst 1, 1) := by decide +kernel
theorem dX7_jumpStep_46 : decode cX7_jumpStep 46 = .ok (.if_icmp .ne 14, 3) := by decide +kernel
theorem dX7_jumpStep_49 : decode cX7_jumpStep 49 = .ok (.aload_n 0, 1) := by decide +kernel
theorem dX7_jumpStep_50 : decode cX7_jumpStep 50 = .ok (.aload_n 0, 1) := by decide +kernel
theorem dX7_jumpStep_51 : decode cX7_jumpStep 51 = .ok (.invokevirtual 185, 3) := by decide +kernel
theorem dX7_jumpStep_54 : decode cX7_jumpStep 54 = .ok (.putfield 188, 3) := by decide +kernel
theorem dX7_jumpStep_57 : decode cX7_jumpStep 57 = .ok (.goto 128, 3) := by decide +kernel
theorem dX7_jumpStep_60 : decode cX7_jumpStep 60 = .ok (.aload_n 0, 1) := by decide +kernel
theorem dX7_jumpStep_61 : decode cX7_jumpStep 61 = .ok (.getfield 167, 3) := by decide +kernel
theorem dX7_jumpStep_64 : decode cX7_jumpStep 64 = .ok (.bipush 76, 2) := by decide +kernel
theorem dX7_jumpStep_66 : decode cX7_jumpStep 66 = .ok (.if_icmp .eq 20, 3) := by decide +kernel
theorem dX7_jumpStep_69 : decode cX7_jumpStep 69 = .ok (.aload_n 0, 1) := by decide +kernel
theorem dX7_jumpStep_70 : decode cX7_jumpStep 70 = .ok (.getfield 167, 3) := by decide +kernel
theorem dX7_jumpStep_73 : decode cX7_jumpStep 73 = .ok (.bipush 32, 2) := by decide +kernel
theorem dX7_jumpStep_75 : decode cX7_jumpStep 75 = .ok (.if_icmp .ne 31, 3) := by decide +kernel
theorem dX7_jumpStep_78 : decode cX7_jumpStep 78 = .ok (.aload_n 0, 1) := by decide +kernel
theorem dX7_jumpStep_79 : decode cX7_jumpStep 79 = .ok (.getfield 148, 3) := by decide +kernel
theorem dX7_jumpStep_82 : decode cX7_jumpStep 82 = .ok (.iconst 5, 1) := by decide +kernel
theorem dX7_jumpStep_83 : decode cX7_jumpStep 83 = .ok (.if_icmp .ne 23, 3) := by decide +kernel
theorem dX7_jumpStep_86 : decode cX7_jumpStep 86 = .ok (.aload_n 0, 1) := by decide +kernel
theorem dX7_jumpStep_87 : decode cX7_jumpStep 87 = .ok (.sipush 256, 3) := by decide +kernel
theorem dX7_jumpStep_90 : decode cX7_jumpStep 90 = .ok (.aload_n 0, 1) := by decide +kernel
theorem dX7_jumpStep_91 : decode cX7_jumpStep 91 = .ok (.invokevirtual 185, 3) := by decide +kernel
theorem dX7_jumpStep_94 : decode cX7_jumpStep 94 = .ok (.imul, 1) := by decide +kernel
theorem dX7_jumpStep_95 : decode cX7_jumpStep 95 = .ok (.aload_n 0, 1) := by decide +kernel
theorem dX7_jumpStep_96 : decode cX7_jumpStep 96 = .ok (.getfield 188, 3) := by decide +kernel
theorem dX7_jumpStep_99 : decode cX7_jumpStep 99 = .ok (.iadd, 1) := by decide +kernel
theorem dX7_jumpStep_100 : decode cX7_jumpStep 100 = .ok (.putfield 145, 3) := by decide +kernel
theorem dX7_jumpStep_103 : decode cX7_jumpStep 103 = .ok (.goto 82, 3) := by decide +kernel
theorem dX7_jumpStep_106 : decode cX7_jumpStep 106 = .ok (.aload_n 0, 1) := by decide +kernel
theorem dX7_jumpStep_107 : decode cX7_jumpStep 107 = .ok (.getfield 167, 3) := by decide +kernel
theorem dX7_jumpStep_110 : decode cX7_jumpStep 110 = .ok (.bipush 32, 2) := by decide +kernel
theorem dX7_jumpStep_112 : decode cX7_jumpStep 112 = .ok (.if_icmp .ne 27, 3) := by decide +kernel
theorem dX7_jumpStep_115 : decode cX7_jumpStep 115 = .ok (.aload_n 0, 1) := by decide +kernel
theorem dX7_jumpStep_116 : decode cX7_jumpStep 116 = .ok (.getfield 148, 3) := by decide +kernel
theorem dX7_jumpStep_119 : decode cX7_jumpStep 119 = .ok (.iconst 2, 1) := by decide +kernel
theorem dX7_jumpStep_120 : decode cX7_jumpStep 120 = .ok (.if_icmp .ne 19, 3) := by decide +kernel
theorem dX7_jumpStep_123 : decode cX7_jumpStep 123 = .ok (.aload_n 0, 1) := by decide +kernel
theorem dX7_jumpStep_124 : decode cX7_jumpStep 124 = .ok (.sipush 256, 3) := by decide +kernel
theorem dX7_jumpStep_127 : decode cX7_jumpStep 127 = .ok (.aload_n 0, 1) := by decide +kernel
theorem dX7_jumpStep_128 : decode cX7_jumpStep 128 = .ok (.getfield 57, 3) := by decide +kernel
theorem dX7_jumpStep_131 : decode cX7_jumpStep 131 = .ok (.iadd, 1) := by decide +kernel
theorem dX7_jumpStep_132 : decode cX7_jumpStep 132 = .ok (.invokevirtual 161, 3) := by decide +kernel
theorem dX7_jumpStep_135 : decode cX7_jumpStep 135 = .ok (.pop, 1) := by decide +kernel
theorem dX7_jumpStep_136 : decode cX7_jumpStep 136 = .ok (.goto 49, 3) := by decide +kernel
theorem dX7_jumpStep_139 : decode cX7_jumpStep 139 = .ok (.aload_n 0, 1) := by decide +kernel
theorem dX7_jumpStep_140 : decode cX7_jumpStep 140 = .ok (.getfield 167, 3) := by decide +kernel
theorem dX7_jumpStep_143 : decode cX7_jumpStep 143 = .ok (.bipush 32, 2) := by decide +kernel
theorem dX7_jumpStep_145 : decode cX7_jumpStep 145 = .ok (.if_icmp .ne 36, 3) := by decide +kernel
theorem dX7_jumpStep_148 : decode cX7_jumpStep 148 = .ok (.aload_n 0, 1) := by decide +kernel
theorem dX7_jumpStep_149 : decode cX7_jumpStep 149 = .ok (.aload_n 0, 1) := by decide +kernel
theorem dX7_jumpStep_150 : decode cX7_jumpStep 150 = .ok (.getfield 148, 3) := by decide +kernel
theorem dX7_jumpStep_153 : decode cX7_jumpStep 153 = .ok (.iconst 3, 1) := by decide +kernel
theorem dX7_jumpStep_154 : decode cX7_jumpStep 154 = .ok (.if_icmp .ne 13, 3) := by decide +kernel
theorem dX7_jumpStep_157 : decode cX7_jumpStep 157 = .ok (.aload_n 0, 1) := by decide +kernel
theorem dX7_jumpStep_158 : decode cX7_jumpStep 158 = .ok (.getfield 145, 3) := by decide +kernel
theorem dX7_jumpStep_161 : decode cX7_jumpStep 161 = .ok (.bipush 8, 2) := by decide +kernel
theorem dX7_jumpStep_163 : decode cX7_jumpStep 163 = .ok (.ishr, 1) := by decide +kernel
theorem dX7_jumpStep_164 : decode cX7_jumpStep 164 = .ok (.goto 11, 3) := by decide +kernel
theorem dX7_jumpStep_167 : decode cX7_jumpStep 167 = .ok (.aload_n 0, 1) := by decide +kernel
theorem dX7_jumpStep_168 : decode cX7_jumpStep 168 = .ok (.getfield 145, 3) := by decide +kernel
theorem dX7_jumpStep_171 : decode cX7_jumpStep 171 = .ok (.sipush 255, 3) := by decide +kernel
theorem dX7_jumpStep_174 : decode cX7_jumpStep 174 = .ok (.iand, 1) := by decide +kernel
theorem dX7_jumpStep_175 : decode cX7_jumpStep 175 = .ok (.invokevirtual 200, 3) := by decide +kernel
theorem dX7_jumpStep_178 : decode cX7_jumpStep 178 = .ok (.goto 7, 3) := by decide +kernel
theorem dX7_jumpStep_181 : decode cX7_jumpStep 181 = .ok (.aload_n 0, 1) := by decide +kernel
theorem dX7_jumpStep_182 : decode cX7_jumpStep 182 = .ok (.invokevirtual 203, 3) := by decide +kernel
theorem dX7_jumpStep_185 : decode cX7_jumpStep 185 = .ok (.aload_n 0, 1) := by decide +kernel
theorem dX7_jumpStep_186 : decode cX7_jumpStep 186 = .ok (.aload_n 0, 1) := by decide +kernel
theorem dX7_jumpStep_187 : decode cX7_jumpStep 187 = .ok (.getfield 148, 3) := by decide +kernel
theorem dX7_jumpStep_190 : decode cX7_jumpStep 190 = .ok (.iload_n 1, 1) := by decide +kernel
theorem dX7_jumpStep_191 : decode cX7_jumpStep 191 = .ok (.if_icmp .ne 7, 3) := by decide +kernel
theorem dX7_jumpStep_194 : decode cX7_jumpStep 194 = .ok (.iconst 0, 1) := by decide +kernel
theorem dX7_jumpStep_195 : decode cX7_jumpStep 195 = .ok (.goto 9, 3) := by decide +kernel
theorem dX7_jumpStep_198 : decode cX7_jumpStep 198 = .ok (.aload_n 0, 1) := by decide +kernel
theorem dX7_jumpStep_199 : decode cX7_jumpStep 199 = .ok (.getfield 148, 3) := by decide +kernel
theorem dX7_jumpStep_202 : decode cX7_jumpStep 202 = .ok (.iconst 1, 1) := by decide +kernel
theorem dX7_jumpStep_203 : decode cX7_jumpStep 203 = .ok (.iadd, 1) := by decide +kernel
theorem dX7_jumpStep_204 : decode cX7_jumpStep 204 = .ok (.putfield 148, 3) := by decide +kernel
theorem dX7_jumpStep_207 : decode cX7_jumpStep 207 = .ok (.return_, 1) := by decide +kernel
theorem dX7_returnStep_0 : decode cX7_returnStep 0 = .ok (.aload_n 0, 1) := by decide +kernel
theorem dX7_returnStep_1 : decode cX7_returnStep 1 = .ok (.getfield 148, 3) := by decide +kernel
theorem dX7_returnStep_4 : decode cX7_returnStep 4 = .ok (.iconst 1, 1) := by decide +kernel
theorem dX7_returnStep_5 : decode cX7_returnStep 5 = .ok (.if_icmp .ne 12, 3) := by decide +kernel
theorem dX7_returnStep_8 : decode cX7_returnStep 8 = .ok (.aload_n 0, 1) := by decide +kernel
theorem dX7_returnStep_9 : decode cX7_returnStep 9 = .ok (.aload_n 0, 1) := by decide +kernel
theorem dX7_returnStep_10 : decode cX7_returnStep 10 = .ok (.getfield 145, 3) := by decide +kernel
theorem dX7_returnStep_13 : decode cX7_returnStep 13 = .ok (.invokevirtual 161, 3) := by decide +kernel
theorem dX7_returnStep_16 : decode cX7_returnStep 16 = .ok (.pop, 1) := by decide +kernel
theorem dX7_returnStep_17 : decode cX7_returnStep 17 = .ok (.aload_n 0, 1) := by decide +kernel
theorem dX7_returnStep_18 : decode cX7_returnStep 18 = .ok (.getfield 148, 3) := by decide +kernel
theorem dX7_returnStep_21 : decode cX7_returnStep 21 = .ok (.iconst 2, 1) := by decide +kernel
theorem dX7_returnStep_22 : decode cX7_returnStep 22 = .ok (.if_icmp .ne 9, 3) := by decide +kernel
theorem dX7_returnStep_25 : decode cX7_returnStep 25 = .ok (.aload_n 0, 1) := by decide +kernel
theorem dX7_returnStep_26 : decode cX7_returnStep 26 = .ok (.iconst 1, 1) := by decide +kernel
theorem dX7_returnStep_27 : decode cX7_returnStep 27 = .ok (.invokevirtual 206, 3) := by decide +kernel
theorem dX7_returnStep_30 : decode cX7_returnStep 30 = .ok (.pop, 1) := by decide +kernel
theorem dX7_returnStep_31 : decode cX7_returnStep 31 = .ok (.aload_n 0, 1) := by decide +kernel
theorem dX7_returnStep_32 : decode cX7_returnStep 32 = .ok (.getfield 167, 3) := by decide +kernel
theorem dX7_returnStep_35 : decode cX7_returnStep 35 = .ok (.bipush 64, 2) := by decide +kernel
theorem dX7_returnStep_37 : decode cX7_returnStep 37 = .ok (.if_icmp .ne 24, 3) := by decide +kernel
theorem dX7_returnStep_40 : decode cX7_returnStep 40 = .ok (.aload_n 0, 1) := by decide +kernel
theorem dX7_returnStep_41 : decode cX7_returnStep 41 = .ok (.getfield 148, 3) := by decide +kernel
theorem dX7_returnStep_44 : decode cX7_returnStep 44 = .ok (.iconst 3, 1) := by decide +kernel
theorem dX7_returnStep_45 : decode cX7_returnStep 45 = .ok (.if_icmp .ne 16, 3) := by decide +kernel
theorem dX7_returnStep_48 : decode cX7_returnStep 48 = .ok (.aload_n 0, 1) := by decide +kernel
theorem dX7_returnStep_49 : decode cX7_returnStep 49 = .ok (.aload_n 0, 1) := by decide +kernel
theorem dX7_returnStep_50 : decode cX7_returnStep 50 = .ok (.iconst 1, 1) := by decide +kernel
theorem dX7_returnStep_51 : decode cX7_returnStep 51 = .ok (.invokevirtual 206, 3) := by decide +kernel
theorem dX7_returnStep_54 : decode cX7_returnStep 54 = .ok (.sipush 207, 3) := by decide +kernel
theorem dX7_returnStep_57 : decode cX7_returnStep 57 = .ok (.iand, 1) := by decide +kernel
theorem dX7_returnStep_58 : decode cX7_returnStep 58 = .ok (.putfield 60, 3) := by decide +kernel
theorem dX7_returnStep_61 : decode cX7_returnStep 61 = .ok (.aload_n 0, 1) := by decide +kernel
theorem dX7_returnStep_62 : decode cX7_returnStep 62 = .ok (.getfield 167, 3) := by decide +kernel
theorem dX7_returnStep_65 : decode cX7_returnStep 65 = .ok (.bipush 64, 2) := by decide +kernel
theorem dX7_returnStep_67 : decode cX7_returnStep 67 = .ok (.if_icmp .ne 28, 3) := by decide +kernel
theorem dX7_returnStep_70 : decode cX7_returnStep 70 = .ok (.aload_n 0, 1) := by decide +kernel
theorem dX7_returnStep_71 : decode cX7_returnStep 71 = .ok (.getfield 148, 3) := by decide +kernel
theorem dX7_returnStep_74 : decode cX7_returnStep 74 = .ok (.iconst 4, 1) := by decide +kernel
theorem dX7_returnStep_75 : decode cX7_returnStep 75 = .ok (.if_icmp .ne 20, 3) := by decide +kernel
theorem dX7_returnStep_78 : decode cX7_returnStep 78 = .ok (.aload_n 0, 1) := by decide +kernel
theorem dX7_returnStep_79 : decode cX7_returnStep 79 = .ok (.aload_n 0, 1) := by decide +kernel
theorem dX7_returnStep_80 : decode cX7_returnStep 80 = .ok (.getfield 145, 3) := by decide +kernel
theorem dX7_returnStep_83 : decode cX7_returnStep 83 = .ok (.ldc 101, 2) := by decide +kernel
theorem dX7_returnStep_85 : decode cX7_returnStep 85 = .ok (.iand, 1) := by decide +kernel
theorem dX7_returnStep_86 : decode cX7_returnStep 86 = .ok (.aload_n 0, 1) := by decide +kernel
theorem dX7_returnStep_87 : decode cX7_returnStep 87 = .ok (.iconst 1, 1) := by decide +kernel
theorem dX7_returnStep_88 : decode cX7_returnStep 88 = .ok (.invokevirtual 206, 3) := by decide +kernel
theorem dX7_returnStep_91 : decode cX7_returnStep 91 = .ok (.iadd, 1) := by decide +kernel
theorem dX7_returnStep_92 : decode cX7_returnStep 92 = .ok (.putfield 145, 3) := by decide +kernel
theorem dX7_returnStep_95 : decode cX7_returnStep 95 = .ok (.aload_n 0, 1) := by decide +kernel
theorem dX7_returnStep_96 : decode cX7_returnStep 96 = .ok (.getfield 167, 3) := by decide +kernel
theorem dX7_returnStep_99 : decode cX7_returnStep 99 = .ok (.bipush 64, 2) := by decide +kernel
theorem dX7_returnStep_101 : decode cX7_returnStep 101 = .ok (.if_icmp .ne 33, 3) := by decide +kernel
theorem dX7_returnStep_104 : decode cX7_returnStep 104 = .ok (.aload_n 0, 1) := by decide +kernel
theorem dX7_returnStep_105 : decode cX7_returnStep 105 = .ok (.getfield 148, 3) := by decide +kernel
theorem dX7_returnStep_108 : decode cX7_returnStep 108 = .ok (.iconst 5, 1) := by decide +kernel
theorem dX7_returnStep_109 : decode cX7_returnStep 109 = .ok (.if_icmp .ne 25, 3) := by decide +kernel
theorem dX7_returnStep_112 : decode cX7_returnStep 112 = .ok (.aload_n 0, 1) := by decide +kernel
theorem dX7_returnStep_113 : decode cX7_returnStep 113 = .ok (.aload_n 0, 1) := by decide +kernel
theorem dX7_returnStep_114 : decode cX7_returnStep 114 = .ok (.getfield 145, 3) := by decide +kernel
theorem dX7_returnStep_117 : decode cX7_returnStep 117 = .ok (.sipush 255, 3) := by decide +kernel
theorem dX7_returnStep_120 : decode cX7_returnStep 120 = .ok (.iand, 1) := by decide +kernel
theorem dX7_returnStep_121 : decode cX7_returnStep 121 = .ok (.sipush 256, 3) := by decide +kernel
theorem dX7_returnStep_124 : decode cX7_returnStep 124 = .ok (.aload_n 0, 1) := by decide +kernel
theorem dX7_returnStep_125 : decode cX7_returnStep 125 = .ok (.iconst 0, 1) := by decide +kernel
theorem dX7_returnStep_126 : decode cX7_returnStep 126 = .ok (.invokevirtual 206, 3) := by decide +kernel
theorem dX7_returnStep_129 : decode cX7_returnStep 129 = .ok (.imul, 1) := by decide +kernel
theorem dX7_returnStep_130 : decode cX7_returnStep 130 = .ok (.iadd, 1) := by decide +kernel
theorem dX7_returnStep_131 : decode cX7_returnStep 131 = .ok (.putfield 145, 3) := by decide +kernel
theorem dX7_returnStep_134 : decode cX7_returnStep 134 = .ok (.aload_n 0, 1) := by decide +kernel
theorem dX7_returnStep_135 : decode cX7_returnStep 135 = .ok (.getfield 167, 3) := by decide +kernel
theorem dX7_returnStep_138 : decode cX7_returnStep 138 = .ok (.bipush 96, 2) := by decide +kernel
theorem dX7_returnStep_140 : decode cX7_returnStep 140 = .ok (.if_icmp .ne 20, 3) := by decide +kernel
theorem dX7_returnStep_143 : decode cX7_returnStep 143 = .ok (.aload_n 0, 1) := by decide +kernel
theorem dX7_returnStep_144 : decode cX7_returnStep 144 = .ok (.getfield 148, 3) := by decide +kernel
theorem dX7_returnStep_147 : decode cX7_returnStep 147 = .ok (.iconst 3, 1) := by decide +kernel
theorem dX7_returnStep_148 : decode cX7_returnStep 148 = .ok (.if_icmp .ne 12, 3) := by decide +kernel
theorem dX7_returnStep_151 : decode cX7_returnStep 151 = .ok (.aload_n 0, 1) := by decide +kernel
theorem dX7_returnStep_152 : decode cX7_returnStep 152 = .ok (.aload_n 0, 1) := by decide +kernel
theorem dX7_returnStep_153 : decode cX7_returnStep 153 = .ok (.iconst 1, 1) := by decide +kernel
theorem dX7_returnStep_154 : decode cX7_returnStep 154 = .ok (.invokevirtual 206, 3) := by decide +kernel
theorem dX7_returnStep_157 : decode cX7_returnStep 157 = .ok (.putfield 188, 3) := by decide +kernel
theorem dX7_returnStep_160 : decode cX7_returnStep 160 = .ok (.aload_n 0, 1) := by decide +kernel
theorem dX7_returnStep_161 : decode cX7_returnStep 161 = .ok (.getfield 167, 3) := by decide +kernel
theorem dX7_returnStep_164 : decode cX7_returnStep 164 = .ok (.bipush 96, 2) := by decide +kernel
theorem dX7_returnStep_166 : decode cX7_returnStep 166 = .ok (.if_icmp .ne 29, 3) := by decide +kernel
theorem dX7_returnStep_169 : decode cX7_returnStep 169 = .ok (.aload_n 0, 1) := by decide +kernel
theorem dX7_returnStep_170 : decode cX7_returnStep 170 = .ok (.getfield 148, 3) := by decide +kernel
theorem dX7_returnStep_173 : decode cX7_returnStep 173 = .ok (.iconst 4, 1) := by decide +kernel
theorem dX7_returnStep_174 : decode cX7_returnStep 174 = .ok (.if_icmp .ne 21, 3) := by decide +kernel
theorem dX7_returnStep_177 : decode cX7_returnStep 177 = .ok (.aload_n 0, 1) := by decide +kernel
theorem dX7_returnStep_178 : decode cX7_returnStep 178 = .ok (.sipush 256, 3) := by decide +kernel
theorem dX7_returnStep_181 : decode cX7_returnStep 181 = .ok (.aload_n 0, 1) := by decide +kernel
theorem dX7_returnStep_182 : decode cX7_returnStep 182 = .ok (.iconst 0, 1) := by decide +kernel
theorem dX7_returnStep_183 : decode cX7_returnStep 183 = .ok (.invokevirtual 206, 3) := by decide +kernel
theorem dX7_returnStep_186 : decode cX7_returnStep 186 = .ok (.imul, 1) := by decide +kernel
theorem dX7_returnStep_187 : decode cX7_returnStep 187 = .ok (.aload_n 0, 1) := by decide +kernel
theorem dX7_returnStep_188 : decode cX7_returnStep 188 = .ok (.getfield 188, 3) := by decide +kernel
theorem dX7_returnStep_191 : decode cX7_returnStep 191 = .ok (.iadd, 1) := by decide +kernel
theorem dX7_returnStep_192 : decode cX7_returnStep 192 = .ok (.putfield 145, 3) := by decide +kernel
theorem dX7_returnStep_195 : decode cX7_returnStep 195 = .ok (.aload_n 0, 1) := by decide +kernel
theorem dX7_returnStep_196 : decode cX7_returnStep 196 = .ok (.getfield 167, 3) := by decide +kernel
theorem dX7_returnStep_199 : decode cX7_returnStep 199 = .ok (.bipush 96, 2) := by decide +kernel
theorem dX7_returnStep_201 : decode cX7_returnStep 201 = .ok (.if_icmp .ne 16, 3) := by decide +kernel
theorem dX7_returnStep_204 : decode cX7_returnStep 204 = .ok (.aload_n 0, 1) := by decide +kernel
theorem dX7_returnStep_205 : decode cX7_returnStep 205 = .ok (.getfield 148, 3) := by decide +kernel
theorem dX7_returnStep_208 : decode cX7_returnStep 208 = .ok (.iconst 5, 1) := by decide +kernel
theorem dX7_returnStep_209 : decode cX7_returnStep 209 = .ok (.if_icmp .ne 8, 3) := by decide +kernel
theorem dX7_returnStep_212 : decode cX7_returnStep 212 = .ok (.aload_n 0, 1) := by decide +kernel
theorem dX7_returnStep_213 : decode cX7_returnStep 213 = .ok (.invokevirtual 185, 3) := by decide +kernel
theorem dX7_returnStep_216 : decode cX7_returnStep 216 = .ok (.pop, 1) := by decide +kernel
theorem dX7_returnStep_217 : decode cX7_returnStep 217 = .ok (.return_, 1) := by decide +kernel
theorem dX7_byteStep_0 : decode cX7_byteStep 0 = .ok (.aload_n 0, 1) := by decide +kernel
theorem dX7_byteStep_1 : decode cX7_byteStep 1 = .ok (.getfield 148, 3) := by decide +kernel
theorem dX7_byteStep_4 : decode cX7_byteStep 4 = .ok (.iconst 1, 1) := by decide +kernel
theorem dX7_byteStep_5 : decode cX7_byteStep 5 = .ok (.if_icmp .ne 164, 3) := by decide +kernel
theorem dX7_byteStep_8 : decode cX7_byteStep 8 = .ok (.aload_n 0, 1) := by decide +kernel
theorem dX7_byteStep_9 : decode cX7_byteStep 9 = .ok (.aload_n 0, 1) := by decide +kernel
theorem dX7_byteStep_10 : decode cX7_byteStep 10 = .ok (.invokevirtual 185, 3) := by decide +kernel
theorem dX7_byteStep_13 : decode cX7_byteStep 13 = .ok (.putfield 188, 3) := by decide +kernel
theorem dX7_byteStep_16 : decode cX7_byteStep 16 = .ok (.aload_n 0, 1) := by decide +kernel
theorem dX7_byteStep_17 : decode cX7_byteStep 17 = .ok (.iconst 2, 1) := by decide +kernel
theorem dX7_byteStep_18 : decode cX7_byteStep 18 = .ok (.putfield 148, 3) := by decide +kernel
theorem dX7_byteStep_21 : decode cX7_byteStep 21 = .ok (.aload_n 0, 1) := by decide +kernel
theorem dX7_byteStep_22 : decode cX7_byteStep 22 = .ok (.getfield 167, 3) := by decide +kernel
theorem dX7_byteStep_25 : decode cX7_byteStep 25 = .ok (.sipush 162, 3) := by decide +kernel
theorem dX7_byteStep_28 : decode cX7_byteStep 28 = .ok (.if_icmp .eq 33, 3) := by decide +kernel
theorem dX7_byteStep_31 : decode cX7_byteStep 31 = .ok (.aload_n 0, 1) := by decide +kernel
theorem dX7_byteStep_32 : decode cX7_byteStep 32 = .ok (.getfield 167, 3) := by decide +kernel
theorem dX7_byteStep_35 : decode cX7_byteStep 35 = .ok (.sipush 160, 3) := by decide +kernel
theorem dX7_byteStep_38 : decode cX7_byteStep 38 = .ok (.if_icmp .eq 23, 3) := by decide +kernel
theorem dX7_byteStep_41 : decode cX7_byteStep 41 = .ok (.aload_n 0, 1) := by decide +kernel
theorem dX7_byteStep_42 : decode cX7_byteStep 42 = .ok (.getfield 167, 3) := by decide +kernel
theorem dX7_byteStep_45 : decode cX7_byteStep 45 = .ok (.sipush 224, 3) := by decide +kernel
theorem dX7_byteStep_48 : decode cX7_byteStep 48 = .ok (.if_icmp .eq 13, 3) := by decide +kernel
theorem dX7_byteStep_51 : decode cX7_byteStep 51 = .ok (.aload_n 0, 1) := by decide +kernel
theorem dX7_byteStep_52 : decode cX7_byteStep 52 = .ok (.getfield 167, 3) := by decide +kernel
theorem dX7_byteStep_55 : decode cX7_byteStep 55 = .ok (.sipush 192, 3) := by decide +kernel
theorem dX7_byteStep_58 : decode cX7_byteStep 58 = .ok (.if_icmp .ne 7, 3) := by decide +kernel
theorem dX7_byteStep_61 : decode cX7_byteStep 61 = .ok (.iconst 1, 1) := by decide +kernel
theorem dX7_byteStep_62 : decode cX7_byteStep 62 = .ok (.goto 4, 3) := by decide +kernel
theorem dX7_byteStep_65 : decode cX7_byteStep 65 = .ok (.iconst 0, 1) := by decide +kernel
theorem dX7_byteStep_66 : decode cX7_byteStep 66 = .ok (.istore_n 1, 1) := by decide +kernel
theorem dX7_byteStep_67 : decode cX7_byteStep 67 = .ok (.aload_n 0, 1) := by decide +kernel
theorem dX7_byteStep_68 : decode cX7_byteStep 68 = .ok (.getfield 167, 3) := by decide +kernel
theorem dX7_byteStep_71 : decode cX7_byteStep 71 = .ok (.sipush 162, 3) := by decide +kernel
theorem dX7_byteStep_74 : decode cX7_byteStep 74 = .ok (.if_icmp .ne 15, 3) := by decide +kernel
theorem dX7_byteStep_77 : decode cX7_byteStep 77 = .ok (.aload_n 0, 1) := by decide +kernel
theorem dX7_byteStep_78 : decode cX7_byteStep 78 = .ok (.aload_n 0, 1) := by decide +kernel
theorem dX7_byteStep_79 : decode cX7_byteStep 79 = .ok (.aload_n 0, 1) := by decide +kernel
theorem dX7_byteStep_80 : decode cX7_byteStep 80 = .ok (.getfield 188, 3) := by decide +kernel
theorem dX7_byteStep_83 : decode cX7_byteStep 83 = .ok (.invokevirtual 173, 3) := by decide +kernel
theorem dX7_byteStep_86 : decode cX7_byteStep 86 = .ok (.putfield 139, 3) := by decide +kernel
theorem dX7_byteStep_89 : decode cX7_byteStep 89 = .ok (.aload_n 0, 1) := by decide +kernel
theorem dX7_byteStep_90 : decode cX7_byteStep 90 = .ok (.getfield 167, 3) := by decide +kernel
theorem dX7_byteStep_93 : decode cX7_byteStep 93 = .ok (.sipush 160, 3) := by decide +kernel
theorem dX7_byteStep_96 : decode cX7_byteStep 96 = .ok (.if_icmp .ne 15, 3) := by decide +kernel
theorem dX7_byteStep_99 : decode cX7_byteStep 99 = .ok (.aload_n 0, 1) := by decide +kernel
theorem dX7_byteStep_100 : decode cX7_byteStep 100 = .ok (.aload_n 0, 1) := by decide +kernel
theorem dX7_byteStep_101 : decode cX7_byteStep 101 = .ok (.aload_n 0, 1) := by decide +kernel
theorem dX7_byteStep_102 : decode cX7_byteStep 102 = .ok (.getfield 188, 3) := by decide +kernel
theorem dX7_byteStep_105 : decode cX7_byteStep 105 = .ok (.invokevirtual 173, 3) := by decide +kernel
theorem dX7_byteStep_108 : decode cX7_byteStep 108 = .ok (.putfield 142, 3) := by decide +kernel
theorem dX7_byteStep_111 : decode cX7_byteStep 111 = .ok (.aload_n 0, 1) := by decide +kernel
theorem dX7_byteStep_112 : decode cX7_byteStep 112 = .ok (.getfield 167, 3) := by decide +kernel
theorem dX7_byteStep_115 : decode cX7_byteStep 115 = .ok (.sipush 224, 3) := by decide +kernel
theorem dX7_byteStep_118 : decode cX7_byteStep 118 = .ok (.if_icmp .ne 15, 3) := by decide +kernel
theorem dX7_byteStep_121 : decode cX7_byteStep 121 = .ok (.aload_n 0, 1) := by decide +kernel
theorem dX7_byteStep_122 : decode cX7_byteStep 122 = .ok (.aload_n 0, 1) := by decide +kernel
theorem dX7_byteStep_123 : decode cX7_byteStep 123 = .ok (.getfield 139, 3) := by decide +kernel
theorem dX7_byteStep_126 : decode cX7_byteStep 126 = .ok (.aload_n 0, 1) := by decide +kernel
theorem dX7_byteStep_127 : decode cX7_byteStep 127 = .ok (.getfield 188, 3) := by decide +kernel
theorem dX7_byteStep_130 : decode cX7_byteStep 130 = .ok (.invokevirtual 179, 3) := by decide +kernel
theorem dX7_byteStep_133 : decode cX7_byteStep 133 = .ok (.aload_n 0, 1) := by decide +kernel
theorem dX7_byteStep_134 : decode cX7_byteStep 134 = .ok (.getfield 167, 3) := by decide +kernel
theorem dX7_byteStep_137 : decode cX7_byteStep 137 = .ok (.sipush 192, 3) := by decide +kernel
theorem dX7_byteStep_140 : decode cX7_byteStep 140 = .ok (.if_icmp .ne 15, 3) := by decide +kernel
theorem dX7_byteStep_143 : decode cX7_byteStep 143 = .ok (.aload_n 0, 1) := by decide +kernel
theorem dX7_byteStep_144 : decode cX7_byteStep 144 = .ok (.aload_n 0, 1) := by decide +kernel
theorem dX7_byteStep_145 : decode cX7_byteStep 145 = .ok (.getfield 142, 3) := by decide +kernel
theorem dX7_byteStep_148 : decode cX7_byteStep 148 = .ok (.aload_n 0, 1) := by decide +kernel
theorem dX7_byteStep_149 : decode cX7_byteStep 149 = .ok (.getfield 188, 3) := by decide +kernel
theorem dX7_byteStep_152 : decode cX7_byteStep 152 = .ok (.invokevirtual 179, 3) := by decide +kernel
theorem dX7_byteStep_155 : decode cX7_byteStep 155 = .ok (.aload_n 0, 1) := by decide +kernel
theorem dX7_byteStep_156 : decode cX7_byteStep 156 = .ok (.iload_n 1, 1) := by decide +kernel
theorem dX7_byteStep_157 : decode cX7_byteStep 157 = .ok (.ifCond .eq 7, 3) := by decide +kernel
theorem dX7_byteStep_160 : decode cX7_byteStep 160 = .ok (.iconst 0, 1) := by decide +kernel
theorem dX7_byteStep_161 : decode cX7_byteStep 161 = .ok (.goto 4, 3) := by decide +kernel
theorem dX7_byteStep_164 : decode cX7_byteStep 164 = .ok (.iconst 2, 1) := by decide +kernel
theorem dX7_byteStep_165 : decode cX7_byteStep 165 = .ok (.putfield 148, 3) := by decide +kernel
theorem dX7_byteStep_168 : decode cX7_byteStep 168 = .ok (.return_, 1) := by decide +kernel
theorem dX7_byteStep_169 : decode cX7_byteStep 169 = .ok (.aload_n 0, 1) := by decide +kernel
theorem dX7_byteStep_170 : decode cX7_byteStep 170 = .ok (.getfield 167, 3) := by decide +kernel
theorem dX7_byteStep_173 : decode cX7_byteStep 173 = .ok (.sipush 134, 3) := by decide +kernel
theorem dX7_byteStep_176 : decode cX7_byteStep 176 = .ok (.if_icmp .eq 13, 3) := by decide +kernel
theorem dX7_byteStep_179 : decode cX7_byteStep 179 = .ok (.aload_n 0, 1) := by decide +kernel
theorem dX7_byteStep_180 : decode cX7_byteStep 180 = .ok (.getfield 167, 3) := by decide +kernel
theorem dX7_byteStep_183 : decode cX7_byteStep 183 = .ok (.sipush 132, 3) := by decide +kernel
theorem dX7_byteStep_186 : decode cX7_byteStep 186 = .ok (.if_icmp .ne 35, 3) := by decide +kernel
theorem dX7_byteStep_189 : decode cX7_byteStep 189 = .ok (.aload_n 0, 1) := by decide +kernel
theorem dX7_byteStep_190 : decode cX7_byteStep 190 = .ok (.aload_n 0, 1) := by decide +kernel
theorem dX7_byteStep_191 : decode cX7_byteStep 191 = .ok (.getfield 188, 3) := by decide +kernel
theorem dX7_byteStep_194 : decode cX7_byteStep 194 = .ok (.aload_n 0, 1) := by decide +kernel
theorem dX7_byteStep_195 : decode cX7_byteStep 195 = .ok (.getfield 167, 3) := by decide +kernel
theorem dX7_byteStep_198 : decode cX7_byteStep 198 = .ok (.sipush 134, 3) := by decide +kernel
theorem dX7_byteStep_201 : decode cX7_byteStep 201 = .ok (.if_icmp .ne 10, 3) := by decide +kernel
theorem dX7_byteStep_204 : decode cX7_byteStep 204 = .ok (.aload_n 0, 1) := by decide +kernel
theorem dX7_byteStep_205 : decode cX7_byteStep 205 = .ok (.getfield 139, 3) := by decide +kernel
theorem dX7_byteStep_208 : decode cX7_byteStep 208 = .ok (.goto 7, 3) := by decide +kernel
theorem dX7_byteStep_211 : decode cX7_byteStep 211 = .ok (.aload_n 0, 1) := by decide +kernel
theorem dX7_byteStep_212 : decode cX7_byteStep 212 = .ok (.getfield 142, 3) := by decide +kernel
theorem dX7_byteStep_215 : decode cX7_byteStep 215 = .ok (.invokevirtual 164, 3) := by decide +kernel
theorem dX7_byteStep_218 : decode cX7_byteStep 218 = .ok (.goto 96, 3) := by decide +kernel
theorem dX7_byteStep_221 : decode cX7_byteStep 221 = .ok (.aload_n 0, 1) := by decide +kernel
theorem dX7_byteStep_222 : decode cX7_byteStep 222 = .ok (.getfield 148, 3) := by decide +kernel
theorem dX7_byteStep_225 : decode cX7_byteStep 225 = .ok (.iconst 2, 1) := by decide +kernel
theorem dX7_byteStep_226 : decode cX7_byteStep 226 = .ok (.if_icmp .ne 18, 3) := by decide +kernel
theorem dX7_byteStep_229 : decode cX7_byteStep 229 = .ok (.aload_n 0, 1) := by decide +kernel
theorem dX7_byteStep_230 : decode cX7_byteStep 230 = .ok (.aload_n 0, 1) := by decide +kernel
theorem dX7_byteStep_231 : decode cX7_byteStep 231 = .ok (.aload_n 0, 1) := by decide +kernel
theorem dX7_byteStep_232 : decode cX7_byteStep 232 = .ok (.getfield 188, 3) := by decide +kernel
theorem dX7_byteStep_235 : decode cX7_byteStep 235 = .ok (.invokevirtual 161, 3) := by decide +kernel
theorem dX7_byteStep_238 : decode cX7_byteStep 238 = .ok (.putfield 197, 3) := by decide +kernel
theorem dX7_byteStep_241 : decode cX7_byteStep 241 = .ok (.goto 73, 3) := by decide +kernel
theorem dX7_byteStep_244 : decode cX7_byteStep 244 = .ok (.aload_n 0, 1) := by decide +kernel
theorem dX7_byteStep_245 : decode cX7_byteStep 245 = .ok (.getfield 148, 3) := by decide +kernel
theorem dX7_byteStep_248 : decode cX7_byteStep 248 = .ok (.iconst 3, 1) := by decide +kernel
theorem dX7_byteStep_249 : decode cX7_byteStep 249 = .ok (.if_icmp .ne 18, 3) := by decide +kernel
theorem dX7_byteStep_252 : decode cX7_byteStep 252 = .ok (.aload_n 0, 1) := by decide +kernel
theorem dX7_byteStep_253 : decode cX7_byteStep 253 = .ok (.aload_n 0, 1) := by decide +kernel
theorem dX7_byteStep_254 : decode cX7_byteStep 254 = .ok (.getfield 188, 3) := by decide +kernel
theorem dX7_byteStep_257 : decode cX7_byteStep 257 = .ok (.aload_n 0, 1) := by decide +kernel
theorem dX7_byteStep_258 : decode cX7_byteStep 258 = .ok (.getfield 197, 3) := by decide +kernel
theorem dX7_byteStep_261 : decode cX7_byteStep 261 = .ok (.invokevirtual 164, 3) := by decide +kernel
theorem dX7_byteStep_264 : decode cX7_byteStep 264 = .ok (.goto 50, 3) := by decide +kernel
theorem dX7_byteStep_267 : decode cX7_byteStep 267 = .ok (.aload_n 0, 1) := by decide +kernel
theorem dX7_byteStep_268 : decode cX7_byteStep 268 = .ok (.aload_n 0, 1) := by decide +kernel
theorem dX7_byteStep_269 : decode cX7_byteStep 269 = .ok (.getfield 188, 3) := by decide +kernel
theorem dX7_byteStep_272 : decode cX7_byteStep 272 = .ok (.aload_n 0, 1) := by decide +kernel
theorem dX7_byteStep_273 : decode cX7_byteStep 273 = .ok (.aload_n 0, 1) := by decide +kernel
theorem dX7_byteStep_274 : decode cX7_byteStep 274 = .ok (.getfield 167, 3) := by decide +kernel
theorem dX7_byteStep_277 : decode cX7_byteStep 277 = .ok (.sipush 230, 3) := by decide +kernel
theorem dX7_byteStep_280 : decode cX7_byteStep 280 = .ok (.if_icmp .ne 16, 3) := by decide +kernel
theorem dX7_byteStep_283 : decode cX7_byteStep 283 = .ok (.aload_n 0, 1) := by decide +kernel
theorem dX7_byteStep_284 : decode cX7_byteStep 284 = .ok (.getfield 197, 3) := by decide +kernel
theorem dX7_byteStep_287 : decode cX7_byteStep 287 = .ok (.iconst 1, 1) := by decide +kernel
theorem dX7_byteStep_288 : decode cX7_byteStep 288 = .ok (.iadd, 1) := by decide +kernel
theorem dX7_byteStep_289 : decode cX7_byteStep 289 = .ok (.sipush 255, 3) := by decide +kernel
theorem dX7_byteStep_292 : decode cX7_byteStep 292 = .ok (.iand, 1) := by decide +kernel
theorem dX7_byteStep_293 : decode cX7_byteStep 293 = .ok (.goto 15, 3) := by decide +kernel
theorem dX7_byteStep_296 : decode cX7_byteStep 296 = .ok (.aload_n 0, 1) := by decide +kernel
theorem dX7_byteStep_297 : decode cX7_byteStep 297 = .ok (.getfield 197, 3) := by decide +kernel
theorem dX7_byteStep_300 : decode cX7_byteStep 300 = .ok (.sipush 255, 3) := by decide +kernel
theorem dX7_byteStep_303 : decode cX7_byteStep 303 = .ok (.iadd, 1) := by decide +kernel
theorem dX7_byteStep_304 : decode cX7_byteStep 304 = .ok (.sipush 255, 3) := by decide +kernel
theorem dX7_byteStep_307 : decode cX7_byteStep 307 = .ok (.iand, 1) := by decide +kernel
theorem dX7_byteStep_308 : decode cX7_byteStep 308 = .ok (.invokevirtual 173, 3) := by decide +kernel
theorem dX7_byteStep_311 : decode cX7_byteStep 311 = .ok (.invokevirtual 164, 3) := by decide +kernel
theorem dX7_byteStep_314 : decode cX7_byteStep 314 = .ok (.aload_n 0, 1) := by decide +kernel
theorem dX7_byteStep_315 : decode cX7_byteStep 315 = .ok (.getfield 167, 3) := by decide +kernel
theorem dX7_byteStep_318 : decode cX7_byteStep 318 = .ok (.sipush 230, 3) := by decide +kernel
theorem dX7_byteStep_321 : decode cX7_byteStep 321 = .ok (.if_icmp .eq 13, 3) := by decide +kernel
theorem dX7_byteStep_324 : decode cX7_byteStep 324 = .ok (.aload_n 0, 1) := by decide +kernel
theorem dX7_byteStep_325 : decode cX7_byteStep 325 = .ok (.getfield 167, 3) := by decide +kernel
theorem dX7_byteStep_328 : decode cX7_byteStep 328 = .ok (.sipush 198, 3) := by decide +kernel
theorem dX7_byteStep_331 : decode cX7_byteStep 331 = .ok (.if_icmp .ne 15, 3) := by decide +kernel
theorem dX7_byteStep_334 : decode cX7_byteStep 334 = .ok (.aload_n 0, 1) := by decide +kernel
theorem dX7_byteStep_335 : decode cX7_byteStep 335 = .ok (.getfield 148, 3) := by decide +kernel
theorem dX7_byteStep_338 : decode cX7_byteStep 338 = .ok (.iconst 4, 1) := by decide +kernel
theorem dX7_byteStep_339 : decode cX7_byteStep 339 = .ok (.if_icmp .ge 7, 3) := by decide +kernel
theorem dX7_byteStep_342 : decode cX7_byteStep 342 = .ok (.iconst 1, 1) := by decide +kernel
theorem dX7_byteStep_343 : decode cX7_byteStep 343 = .ok (.goto 4, 3) := by decide +kernel
theorem dX7_byteStep_346 : decode cX7_byteStep 346 = .ok (.iconst 0, 1) := by decide +kernel
theorem dX7_byteStep_347 : decode cX7_byteStep 347 = .ok (.istore_n 1, 1) := by decide +kernel
theorem dX7_byteStep_348 : decode cX7_byteStep 348 = .ok (.aload_n 0, 1) := by decide +kernel
theorem dX7_byteStep_349 : decode cX7_byteStep 349 = .ok (.iload_n 1, 1) := by decide +kernel
theorem dX7_byteStep_350 : decode cX7_byteStep 350 = .ok (.ifCond .eq 12, 3) := by decide +kernel
theorem dX7_byteStep_353 : decode cX7_byteStep 353 = .ok (.aload_n 0, 1) := by decide +kernel
theorem dX7_byteStep_354 : decode cX7_byteStep 354 = .ok (.getfield 148, 3) := by decide +kernel
theorem dX7_byteStep_357 : decode cX7_byteStep 357 = .ok (.iconst 1, 1) := by decide +kernel
theorem dX7_byteStep_358 : decode cX7_byteStep 358 = .ok (.iadd, 1) := by decide +kernel
theorem dX7_byteStep_359 : decode cX7_byteStep 359 = .ok (.goto 4, 3) := by decide +kernel
theorem dX7_byteStep_362 : decode cX7_byteStep 362 = .ok (.iconst 0, 1) := by decide +kernel
theorem dX7_byteStep_363 : decode cX7_byteStep 363 = .ok (.putfield 148, 3) := by decide +kernel
theorem dX7_byteStep_366 : decode cX7_byteStep 366 = .ok (.return_, 1) := by decide +kernel
theorem dX7_plainStep_0 : decode cX7_plainStep 0 = .ok (.aload_n 0, 1) := by decide +kernel
theorem dX7_plainStep_1 : decode cX7_plainStep 1 = .ok (.aload_n 0, 1) := by decide +kernel
theorem dX7_plainStep_2 : decode cX7_plainStep 2 = .ok (.getfield 145, 3) := by decide +kernel
theorem dX7_plainStep_5 : decode cX7_plainStep 5 = .ok (.invokevirtual 161, 3) := by decide +kernel
theorem dX7_plainStep_8 : decode cX7_plainStep 8 = .ok (.pop, 1) := by decide +kernel
theorem dX7_plainStep_9 : decode cX7_plainStep 9 = .ok (.aload_n 0, 1) := by decide +kernel
theorem dX7_plainStep_10 : decode cX7_plainStep 10 = .ok (.iconst 0, 1) := by decide +kernel
theorem dX7_plainStep_11 : decode cX7_plainStep 11 = .ok (.putfield 148, 3) := by decide +kernel
theorem dX7_plainStep_14 : decode cX7_plainStep 14 = .ok (.aload_n 0, 1) := by decide +kernel
theorem dX7_plainStep_15 : decode cX7_plainStep 15 = .ok (.getfield 167, 3) := by decide +kernel
theorem dX7_plainStep_18 : decode cX7_plainStep 18 = .ok (.istore_n 1, 1) := by decide +kernel
theorem dX7_plainStep_19 : decode cX7_plainStep 19 = .ok (.iload_n 1, 1) := by decide +kernel
theorem dX7_plainStep_20 : decode cX7_plainStep 20 = .ok (.bipush 24, 2) := by decide +kernel
theorem dX7_plainStep_22 : decode cX7_plainStep 22 = .ok (.if_icmp .eq 9, 3) := by decide +kernel
theorem dX7_plainStep_25 : decode cX7_plainStep 25 = .ok (.iload_n 1, 1) := by decide +kernel
theorem dX7_plainStep_26 : decode cX7_plainStep 26 = .ok (.bipush 56, 2) := by decide +kernel
theorem dX7_plainStep_28 : decode cX7_plainStep 28 = .ok (.if_icmp .ne 19, 3) := by decide +kernel
theorem dX7_plainStep_31 : decode cX7_plainStep 31 = .ok (.aload_n 0, 1) := by decide +kernel
theorem dX7_plainStep_32 : decode cX7_plainStep 32 = .ok (.iconst 1, 1) := by decide +kernel
theorem dX7_plainStep_33 : decode cX7_plainStep 33 = .ok (.iload_n 1, 1) := by decide +kernel
theorem dX7_plainStep_34 : decode cX7_plainStep 34 = .ok (.bipush 56, 2) := by decide +kernel
theorem dX7_plainStep_36 : decode cX7_plainStep 36 = .ok (.if_icmp .ne 7, 3) := by decide +kernel
theorem dX7_plainStep_39 : decode cX7_plainStep 39 = .ok (.iconst 1, 1) := by decide +kernel
theorem dX7_plainStep_40 : decode cX7_plainStep 40 = .ok (.goto 4, 3) := by decide +kernel
theorem dX7_plainStep_43 : decode cX7_plainStep 43 = .ok (.iconst 0, 1) := by decide +kernel
theorem dX7_plainStep_44 : decode cX7_plainStep 44 = .ok (.invokevirtual 157, 3) := by decide +kernel
theorem dX7_plainStep_47 : decode cX7_plainStep 47 = .ok (.iload_n 1, 1) := by decide +kernel
theorem dX7_plainStep_48 : decode cX7_plainStep 48 = .ok (.bipush 88, 2) := by decide +kernel
theorem dX7_plainStep_50 : decode cX7_plainStep 50 = .ok (.if_icmp .eq 9, 3) := by decide +kernel
theorem dX7_plainStep_53 : decode cX7_plainStep 53 = .ok (.iload_n 1, 1) := by decide +kernel
theorem dX7_plainStep_54 : decode cX7_plainStep 54 = .ok (.bipush 120, 2) := by decide +kernel
theorem dX7_plainStep_56 : decode cX7_plainStep 56 = .ok (.if_icmp .ne 19, 3) := by decide +kernel
theorem dX7_plainStep_59 : decode cX7_plainStep 59 = .ok (.aload_n 0, 1) := by decide +kernel
theorem dX7_plainStep_60 : decode cX7_plainStep 60 = .ok (.iconst 4, 1) := by decide +kernel
theorem dX7_plainStep_61 : decode cX7_plainStep 61 = .ok (.iload_n 1, 1) := by decide +kernel
theorem dX7_plainStep_62 : decode cX7_plainStep 62 = .ok (.bipush 120, 2) := by decide +kernel
theorem dX7_plainStep_64 : decode cX7_plainStep 64 = .ok (.if_icmp .ne 7, 3) := by decide +kernel
theorem dX7_plainStep_67 : decode cX7_plainStep 67 = .ok (.iconst 1, 1) := by decide +kernel
theorem dX7_plainStep_68 : decode cX7_plainStep 68 = .ok (.goto 4, 3) := by decide +kernel
theorem dX7_plainStep_71 : decode cX7_plainStep 71 = .ok (.iconst 0, 1) := by decide +kernel
theorem dX7_plainStep_72 : decode cX7_plainStep 72 = .ok (.invokevirtual 157, 3) := by decide +kernel
theorem dX7_plainStep_75 : decode cX7_plainStep 75 = .ok (.iload_n 1, 1) := by decide +kernel
theorem dX7_plainStep_76 : decode cX7_plainStep 76 = .ok (.sipush 216, 3) := by decide +kernel
theorem dX7_plainStep_79 : decode cX7_plainStep 79 = .ok (.if_icmp .eq 10, 3) := by decide +kernel
theorem dX7_plainStep_82 : decode cX7_plainStep 82 = .ok (.iload_n 1, 1) := by decide +kernel
theorem dX7_plainStep_83 : decode cX7_plainStep 83 = .ok (.sipush 248, 3) := by decide +kernel
theorem dX7_plainStep_86 : decode cX7_plainStep 86 = .ok (.if_icmp .ne 21, 3) := by decide +kernel
theorem dX7_plainStep_89 : decode cX7_plainStep 89 = .ok (.aload_n 0, 1) := by decide +kernel
theorem dX7_plainStep_90 : decode cX7_plainStep 90 = .ok (.bipush 8, 2) := by decide +kernel
theorem dX7_plainStep_92 : decode cX7_plainStep 92 = .ok (.iload_n 1, 1) := by decide +kernel
theorem dX7_plainStep_93 : decode cX7_plainStep 93 = .ok (.sipush 248, 3) := by decide +kernel
theorem dX7_plainStep_96 : decode cX7_plainStep 96 = .ok (.if_icmp .ne 7, 3) := by decide +kernel
theorem dX7_plainStep_99 : decode cX7_plainStep 99 = .ok (.iconst 1, 1) := by decide +kernel
theorem dX7_plainStep_100 : decode cX7_plainStep 100 = .ok (.goto 4, 3) := by decide +kernel
theorem dX7_plainStep_103 : decode cX7_plainStep 103 = .ok (.iconst 0, 1) := by decide +kernel
theorem dX7_plainStep_104 : decode cX7_plainStep 104 = .ok (.invokevirtual 157, 3) := by decide +kernel
theorem dX7_plainStep_107 : decode cX7_plainStep 107 = .ok (.iload_n 1, 1) := by decide +kernel
theorem dX7_plainStep_108 : decode cX7_plainStep 108 = .ok (.sipush 170, 3) := by decide +kernel
theorem dX7_plainStep_111 : decode cX7_plainStep 111 = .ok (.if_icmp .ne 15, 3) := by decide +kernel
theorem dX7_plainStep_114 : decode cX7_plainStep 114 = .ok (.aload_n 0, 1) := by decide +kernel
theorem dX7_plainStep_115 : decode cX7_plainStep 115 = .ok (.aload_n 0, 1) := by decide +kernel
theorem dX7_plainStep_116 : decode cX7_plainStep 116 = .ok (.aload_n 0, 1) := by decide +kernel
theorem dX7_plainStep_117 : decode cX7_plainStep 117 = .ok (.getfield 136, 3) := by decide +kernel
theorem dX7_plainStep_120 : decode cX7_plainStep 120 = .ok (.invokevirtual 173, 3) := by decide +kernel
theorem dX7_plainStep_123 : decode cX7_plainStep 123 = .ok (.putfield 139, 3) := by decide +kernel
theorem dX7_plainStep_126 : decode cX7_plainStep 126 = .ok (.iload_n 1, 1) := by decide +kernel
theorem dX7_plainStep_127 : decode cX7_plainStep 127 = .ok (.sipush 138, 3) := by decide +kernel
theorem dX7_plainStep_130 : decode cX7_plainStep 130 = .ok (.if_icmp .ne 15, 3) := by decide +kernel
theorem dX7_plainStep_133 : decode cX7_plainStep 133 = .ok (.aload_n 0, 1) := by decide +kernel
theorem dX7_plainStep_134 : decode cX7_plainStep 134 = .ok (.aload_n 0, 1) := by decide +kernel
theorem dX7_plainStep_135 : decode cX7_plainStep 135 = .ok (.aload_n 0, 1) := by decide +kernel
theorem dX7_plainStep_136 : decode cX7_plainStep 136 = .ok (.getfield 139, 3) := by decide +kernel
theorem dX7_plainStep_139 : decode cX7_plainStep 139 = .ok (.invokevirtual 173, 3) := by decide +kernel
theorem dX7_plainStep_142 : decode cX7_plainStep 142 = .ok (.putfield 136, 3) := by decide +kernel
theorem dX7_plainStep_145 : decode cX7_plainStep 145 = .ok (.iload_n 1, 1) := by decide +kernel
theorem dX7_plainStep_146 : decode cX7_plainStep 146 = .ok (.sipush 168, 3) := by decide +kernel
theorem dX7_plainStep_149 : decode cX7_plainStep 149 = .ok (.if_icmp .ne 15, 3) := by decide +kernel
theorem dX7_plainStep_152 : decode cX7_plainStep 152 = .ok (.aload_n 0, 1) := by decide +kernel
theorem dX7_plainStep_153 : decode cX7_plainStep 153 = .ok (.aload_n 0, 1) := by decide +kernel
theorem dX7_plainStep_154 : decode cX7_plainStep 154 = .ok (.aload_n 0, 1) := by decide +kernel
theorem dX7_plainStep_155 : decode cX7_plainStep 155 = .ok (.getfield 136, 3) := by decide +kernel
theorem dX7_plainStep_158 : decode cX7_plainStep 158 = .ok (.invokevirtual 173, 3) := by decide +kernel
theorem dX7_plainStep_161 : decode cX7_plainStep 161 = .ok (.putfield 142, 3) := by decide +kernel
theorem dX7_plainStep_164 : decode cX7_plainStep 164 = .ok (.iload_n 1, 1) := by decide +kernel
theorem dX7_plainStep_165 : decode cX7_plainStep 165 = .ok (.sipush 152, 3) := by decide +kernel
theorem dX7_plainStep_168 : decode cX7_plainStep 168 = .ok (.if_icmp .ne 15, 3) := by decide +kernel
theorem dX7_plainStep_171 : decode cX7_plainStep 171 = .ok (.aload_n 0, 1) := by decide +kernel
theorem dX7_plainStep_172 : decode cX7_plainStep 172 = .ok (.aload_n 0, 1) := by decide +kernel
theorem dX7_plainStep_173 : decode cX7_plainStep 173 = .ok (.aload_n 0, 1) := by decide +kernel
theorem dX7_plainStep_174 : decode cX7_plainStep 174 = .ok (.getfield 142, 3) := by decide +kernel
theorem dX7_plainStep_177 : decode cX7_plainStep 177 = .ok (.invokevirtual 173, 3) := by decide +kernel
theorem dX7_plainStep_180 : decode cX7_plainStep 180 = .ok (.putfield 136, 3) := by decide +kernel
theorem dX7_plainStep_183 : decode cX7_plainStep 183 = .ok (.iload_n 1, 1) := by decide +kernel
theorem dX7_plainStep_184 : decode cX7_plainStep 184 = .ok (.sipush 232, 3) := by decide +kernel
theorem dX7_plainStep_187 : decode cX7_plainStep 187 = .ok (.if_icmp .ne 21, 3) := by decide +kernel
theorem dX7_plainStep_190 : decode cX7_plainStep 190 = .ok (.aload_n 0, 1) := by decide +kernel
theorem dX7_plainStep_191 : decode cX7_plainStep 191 = .ok (.aload_n 0, 1) := by decide +kernel
theorem dX7_plainStep_192 : decode cX7_plainStep 192 = .ok (.aload_n 0, 1) := by decide +kernel
theorem dX7_plainStep_193 : decode cX7_plainStep 193 = .ok (.getfield 139, 3) := by decide +kernel
theorem dX7_plainStep_196 : decode cX7_plainStep 196 = .ok (.iconst 1, 1) := by decide +kernel
theorem dX7_plainStep_197 : decode cX7_plainStep 197 = .ok (.iadd, 1) := by decide +kernel
theorem dX7_plainStep_198 : decode cX7_plainStep 198 = .ok (.sipush 255, 3) := by decide +kernel
theorem dX7_plainStep_201 : decode cX7_plainStep 201 = .ok (.iand, 1) := by decide +kernel
theorem dX7_plainStep_202 : decode cX7_plainStep 202 = .ok (.invokevirtual 173, 3) := by decide +kernel
theorem dX7_plainStep_205 : decode cX7_plainStep 205 = .ok (.putfield 139, 3) := by decide +kernel
theorem dX7_plainStep_208 : decode cX7_plainStep 208 = .ok (.iload_n 1, 1) := by decide +kernel
theorem dX7_plainStep_209 : decode cX7_plainStep 209 = .ok (.sipush 200, 3) := by decide +kernel
theorem dX7_plainStep_212 : decode cX7_plainStep 212 = .ok (.if_icmp .ne 21, 3) := by decide +kernel
theorem dX7_plainStep_215 : decode cX7_plainStep 215 = .ok (.aload_n 0, 1) := by decide +kernel
theorem dX7_plainStep_216 : decode cX7_plainStep 216 = .ok (.aload_n 0, 1) := by decide +kernel
theorem dX7_plainStep_217 : decode cX7_plainStep 217 = .ok (.aload_n 0, 1) := by decide +kernel
theorem dX7_plainStep_218 : decode cX7_plainStep 218 = .ok (.getfield 142, 3) := by decide +kernel
theorem dX7_plainStep_221 : decode cX7_plainStep 221 = .ok (.iconst 1, 1) := by decide +kernel
theorem dX7_plainStep_222 : decode cX7_plainStep 222 = .ok (.iadd, 1) := by decide +kernel
theorem dX7_plainStep_223 : decode cX7_plainStep 223 = .ok (.sipush 255, 3) := by decide +kernel
theorem dX7_plainStep_226 : decode cX7_plainStep 226 = .ok (.iand, 1) := by decide +kernel
theorem dX7_plainStep_227 : decode cX7_plainStep 227 = .ok (.invokevirtual 173, 3) := by decide +kernel
theorem dX7_plainStep_230 : decode cX7_plainStep 230 = .ok (.putfield 142, 3) := by decide +kernel
theorem dX7_plainStep_233 : decode cX7_plainStep 233 = .ok (.iload_n 1, 1) := by decide +kernel
theorem dX7_plainStep_234 : decode cX7_plainStep 234 = .ok (.sipush 202, 3) := by decide +kernel
theorem dX7_plainStep_237 : decode cX7_plainStep 237 = .ok (.if_icmp .ne 23, 3) := by decide +kernel
theorem dX7_plainStep_240 : decode cX7_plainStep 240 = .ok (.aload_n 0, 1) := by decide +kernel
theorem dX7_plainStep_241 : decode cX7_plainStep 241 = .ok (.aload_n 0, 1) := by decide +kernel
theorem dX7_plainStep_242 : decode cX7_plainStep 242 = .ok (.aload_n 0, 1) := by decide +kernel
theorem dX7_plainStep_243 : decode cX7_plainStep 243 = .ok (.getfield 139, 3) := by decide +kernel
theorem dX7_plainStep_246 : decode cX7_plainStep 246 = .ok (.sipush 255, 3) := by decide +kernel
theorem dX7_plainStep_249 : decode cX7_plainStep 249 = .ok (.iadd, 1) := by decide +kernel
theorem dX7_plainStep_250 : decode cX7_plainStep 250 = .ok (.sipush 255, 3) := by decide +kernel
theorem dX7_plainStep_253 : decode cX7_plainStep 253 = .ok (.iand, 1) := by decide +kernel
theorem dX7_plainStep_254 : decode cX7_plainStep 254 = .ok (.invokevirtual 173, 3) := by decide +kernel
theorem dX7_plainStep_257 : decode cX7_plainStep 257 = .ok (.putfield 139, 3) := by decide +kernel
theorem dX7_plainStep_260 : decode cX7_plainStep 260 = .ok (.iload_n 1, 1) := by decide +kernel
theorem dX7_plainStep_261 : decode cX7_plainStep 261 = .ok (.sipush 136, 3) := by decide +kernel
theorem dX7_plainStep_264 : decode cX7_plainStep 264 = .ok (.if_icmp .ne 23, 3) := by decide +kernel
theorem dX7_plainStep_267 : decode cX7_plainStep 267 = .ok (.aload_n 0, 1) := by decide +kernel
theorem dX7_plainStep_268 : decode cX7_plainStep 268 = .ok (.aload_n 0, 1) := by decide +kernel
theorem dX7_plainStep_269 : decode cX7_plainStep 269 = .ok (.aload_n 0, 1) := by decide +kernel
theorem dX7_plainStep_270 : decode cX7_plainStep 270 = .ok (.getfield 142, 3) := by decide +kernel
theorem dX7_plainStep_273 : decode cX7_plainStep 273 = .ok (.sipush 255, 3) := by decide +kernel
theorem dX7_plainStep_276 : decode cX7_plainStep 276 = .ok (.iadd, 1) := by decide +kernel
theorem dX7_plainStep_277 : decode cX7_plainStep 277 = .ok (.sipush 255, 3) := by decide +kernel
theorem dX7_plainStep_280 : decode cX7_plainStep 280 = .ok (.iand, 1) := by decide +kernel
theorem dX7_plainStep_281 : decode cX7_plainStep 281 = .ok (.invokevirtual 173, 3) := by decide +kernel
theorem dX7_plainStep_284 : decode cX7_plainStep 284 = .ok (.putfield 142, 3) := by decide +kernel
theorem dX7_plainStep_287 : decode cX7_plainStep 287 = .ok (.iload_n 1, 1) := by decide +kernel
theorem dX7_plainStep_288 : decode cX7_plainStep 288 = .ok (.bipush 10, 2) := by decide +kernel
theorem dX7_plainStep_290 : decode cX7_plainStep 290 = .ok (.if_icmp .ne 20, 3) := by decide +kernel
theorem dX7_plainStep_293 : decode cX7_plainStep 293 = .ok (.aload_n 0, 1) := by decide +kernel
theorem dX7_plainStep_294 : decode cX7_plainStep 294 = .ok (.getfield 136, 3) := by decide +kernel
theorem dX7_plainStep_297 : decode cX7_plainStep 297 = .ok (.bipush 127, 2) := by decide +kernel
theorem dX7_plainStep_299 : decode cX7_plainStep 299 = .ok (.if_icmp .le 7, 3) := by decide +kernel
theorem dX7_plainStep_302 : decode cX7_plainStep 302 = .ok (.iconst 1, 1) := by decide +kernel
theorem dX7_plainStep_303 : decode cX7_plainStep 303 = .ok (.goto 22, 3) := by decide +kernel
theorem dX7_plainStep_306 : decode cX7_plainStep 306 = .ok (.iconst 0, 1) := by decide +kernel
theorem dX7_plainStep_307 : decode cX7_plainStep 307 = .ok (.goto 18, 3) := by decide +kernel
theorem dX7_plainStep_310 : decode cX7_plainStep 310 = .ok (.aload_n 0, 1) := by decide +kernel
theorem dX7_plainStep_311 : decode cX7_plainStep 311 = .ok (.getfield 136, 3) := by decide +kernel
theorem dX7_plainStep_314 : decode cX7_plainStep 314 = .ok (.iconst 1, 1) := by decide +kernel
theorem dX7_plainStep_315 : decode cX7_plainStep 315 = .ok (.iand, 1) := by decide +kernel
theorem dX7_plainStep_316 : decode cX7_plainStep 316 = .ok (.iconst 1, 1) := by decide +kernel
theorem dX7_plainStep_317 : decode cX7_plainStep 317 = .ok (.if_icmp .ne 7, 3) := by decide +kernel
theorem dX7_plainStep_320 : decode cX7_plainStep 320 = .ok (.iconst 1, 1) := by decide +kernel
theorem dX7_plainStep_321 : decode cX7_plainStep 321 = .ok (.goto 4, 3) := by decide +kernel
theorem dX7_plainStep_324 : decode cX7_plainStep 324 = .ok (.iconst 0, 1) := by decide +kernel
theorem dX7_plainStep_325 : decode cX7_plainStep 325 = .ok (.istore_n 2, 1) := by decide +kernel
theorem dX7_plainStep_326 : decode cX7_plainStep 326 = .ok (.iload_n 1, 1) := by decide +kernel
theorem dX7_plainStep_327 : decode cX7_plainStep 327 = .ok (.bipush 10, 2) := by decide +kernel
theorem dX7_plainStep_329 : decode cX7_plainStep 329 = .ok (.if_icmp .ne 21, 3) := by decide +kernel
theorem dX7_plainStep_332 : decode cX7_plainStep 332 = .ok (.aload_n 0, 1) := by decide +kernel
theorem dX7_plainStep_333 : decode cX7_plainStep 333 = .ok (.aload_n 0, 1) := by decide +kernel
theorem dX7_plainStep_334 : decode cX7_plainStep 334 = .ok (.iconst 2, 1) := by decide +kernel
theorem dX7_plainStep_335 : decode cX7_plainStep 335 = .ok (.aload_n 0, 1) := by decide +kernel
theorem dX7_plainStep_336 : decode cX7_plainStep 336 = .ok (.getfield 136, 3) := by decide +kernel
theorem dX7_plainStep_339 : decode cX7_plainStep 339 = .ok (.imul, 1) := by decide +kernel
theorem dX7_plainStep_340 : decode cX7_plainStep 340 = .ok (.sipush 255, 3) := by decide +kernel
theorem dX7_plainStep_343 : decode cX7_plainStep 343 = .ok (.iand, 1) := by decide +kernel
theorem dX7_plainStep_344 : decode cX7_plainStep 344 = .ok (.invokevirtual 173, 3) := by decide +kernel
theorem dX7_plainStep_347 : decode cX7_plainStep 347 = .ok (.putfield 136, 3) := by decide +kernel
theorem dX7_plainStep_350 : decode cX7_plainStep 350 = .ok (.iload_n 1, 1) := by decide +kernel
theorem dX7_plainStep_351 : decode cX7_plainStep 351 = .ok (.bipush 74, 2) := by decide +kernel
theorem dX7_plainStep_353 : decode cX7_plainStep 353 = .ok (.if_icmp .ne 17, 3) := by decide +kernel
theorem dX7_plainStep_356 : decode cX7_plainStep 356 = .ok (.aload_n 0, 1) := by decide +kernel
theorem dX7_plainStep_357 : decode cX7_plainStep 357 = .ok (.aload_n 0, 1) := by decide +kernel
theorem dX7_plainStep_358 : decode cX7_plainStep 358 = .ok (.aload_n 0, 1) := by decide +kernel
theorem dX7_plainStep_359 : decode cX7_plainStep 359 = .ok (.getfield 136, 3) := by decide +kernel
theorem dX7_plainStep_362 : decode cX7_plainStep 362 = .ok (.iconst 2, 1) := by decide +kernel
theorem dX7_plainStep_363 : decode cX7_plainStep 363 = .ok (.idiv, 1) := by decide +kernel
theorem dX7_plainStep_364 : decode cX7_plainStep 364 = .ok (.invokevirtual 173, 3) := by decide +kernel
theorem dX7_plainStep_367 : decode cX7_plainStep 367 = .ok (.putfield 136, 3) := by decide +kernel
theorem dX7_plainStep_370 : decode cX7_plainStep 370 = .ok (.iload_n 1, 1) := by decide +kernel
theorem dX7_plainStep_371 : decode cX7_plainStep 371 = .ok (.bipush 10, 2) := by decide +kernel
theorem dX7_plainStep_373 : decode cX7_plainStep 373 = .ok (.if_icmp .eq 9, 3) := by decide +kernel
theorem dX7_plainStep_376 : decode cX7_plainStep 376 = .ok (.iload_n 1, 1) := by decide +kernel
theorem dX7_plainStep_377 : decode cX7_plainStep 377 = .ok (.bipush 74, 2) := by decide +kernel
theorem dX7_plainStep_379 : decode cX7_plainStep 379 = .ok (.if_icmp .ne 9, 3) := by decide +kernel
theorem dX7_plainStep_382 : decode cX7_plainStep 382 = .ok (.aload_n 0, 1) := by decide +kernel
theorem dX7_plainStep_383 : decode cX7_plainStep 383 = .ok (.iconst 1, 1) := by decide +kernel
theorem dX7_plainStep_384 : decode cX7_plainStep 384 = .ok (.iload_n 2, 1) := by decide +kernel
theorem dX7_plainStep_385 : decode cX7_plainStep 385 = .ok (.invokevirtual 157, 3) := by decide +kernel
theorem dX7_plainStep_388 : decode cX7_plainStep 388 = .ok (.return_, 1) := by decide +kernel
theorem dX7_stackStep_0 : decode cX7_stackStep 0 = .ok (.aload_n 0, 1) := by decide +kernel
theorem dX7_stackStep_1 : decode cX7_stackStep 1 = .ok (.getfield 148, 3) := by decide +kernel
theorem dX7_stackStep_4 : decode cX7_stackStep 4 = .ok (.iconst 1, 1) := by decide +kernel
theorem dX7_stackStep_5 : decode cX7_stackStep 5 = .ok (.if_icmp .ne 12, 3) := by decide +kernel
theorem dX7_stackStep_8 : decode cX7_stackStep 8 = .ok (.aload_n 0, 1) := by decide +kernel
theorem dX7_stackStep_9 : decode cX7_stackStep 9 = .ok (.aload_n 0, 1) := by decide +kernel
theorem dX7_stackStep_10 : decode cX7_stackStep 10 = .ok (.getfield 145, 3) := by decide +kernel
theorem dX7_stackStep_13 : decode cX7_stackStep 13 = .ok (.invokevirtual 161, 3) := by decide +kernel
theorem dX7_stackStep_16 : decode cX7_stackStep 16 = .ok (.pop, 1) := by decide +kernel
theorem dX7_stackStep_17 : decode cX7_stackStep 17 = .ok (.aload_n 0, 1) := by decide +kernel
theorem dX7_stackStep_18 : decode cX7_stackStep 18 = .ok (.getfield 167, 3) := by decide +kernel
theorem dX7_stackStep_21 : decode cX7_stackStep 21 = .ok (.bipush 72, 2) := by decide +kernel
theorem dX7_stackStep_23 : decode cX7_stackStep 23 = .ok (.if_icmp .ne 19, 3) := by decide +kernel
theorem dX7_stackStep_26 : decode cX7_stackStep 26 = .ok (.aload_n 0, 1) := by decide +kernel
theorem dX7_stackStep_27 : decode cX7_stackStep 27 = .ok (.getfield 148, 3) := by decide +kernel
theorem dX7_stackStep_30 : decode cX7_stackStep 30 = .ok (.iconst 2, 1) := by decide +kernel
theorem dX7_stackStep_31 : decode cX7_stackStep 31 = .ok (.if_icmp .ne 11, 3) := by decide +kernel
theorem dX7_stackStep_34 : decode cX7_stackStep 34 = .ok (.aload_n 0, 1) := by decide +kernel
theorem dX7_stackStep_35 : decode cX7_stackStep 35 = .ok (.aload_n 0, 1) := by decide +kernel
theorem dX7_stackStep_36 : decode cX7_stackStep 36 = .ok (.getfield 136, 3) := by decide +kernel
theorem dX7_stackStep_39 : decode cX7_stackStep 39 = .ok (.invokevirtual 200, 3) := by decide +kernel
theorem dX7_stackStep_42 : decode cX7_stackStep 42 = .ok (.aload_n 0, 1) := by decide +kernel
theorem dX7_stackStep_43 : decode cX7_stackStep 43 = .ok (.getfield 167, 3) := by decide +kernel
theorem dX7_stackStep_46 : decode cX7_stackStep 46 = .ok (.bipush 104, 2) := by decide +kernel
theorem dX7_stackStep_48 : decode cX7_stackStep 48 = .ok (.if_icmp .ne 17, 3) := by decide +kernel
theorem dX7_stackStep_51 : decode cX7_stackStep 51 = .ok (.aload_n 0, 1) := by decide +kernel
theorem dX7_stackStep_52 : decode cX7_stackStep 52 = .ok (.getfield 148, 3) := by decide +kernel
theorem dX7_stackStep_55 : decode cX7_stackStep 55 = .ok (.iconst 2, 1) := by decide +kernel
theorem dX7_stackStep_56 : decode cX7_stackStep 56 = .ok (.if_icmp .ne 9, 3) := by decide +kernel
theorem dX7_stackStep_59 : decode cX7_stackStep 59 = .ok (.aload_n 0, 1) := by decide +kernel
theorem dX7_stackStep_60 : decode cX7_stackStep 60 = .ok (.iconst 1, 1) := by decide +kernel
theorem dX7_stackStep_61 : decode cX7_stackStep 61 = .ok (.invokevirtual 206, 3) := by decide +kernel
theorem dX7_stackStep_64 : decode cX7_stackStep 64 = .ok (.pop, 1) := by decide +kernel
theorem dX7_stackStep_65 : decode cX7_stackStep 65 = .ok (.aload_n 0, 1) := by decide +kernel
theorem dX7_stackStep_66 : decode cX7_stackStep 66 = .ok (.getfield 167, 3) := by decide +kernel
theorem dX7_stackStep_69 : decode cX7_stackStep 69 = .ok (.bipush 104, 2) := by decide +kernel
theorem dX7_stackStep_71 : decode cX7_stackStep 71 = .ok (.if_icmp .ne 24, 3) := by decide +kernel
theorem dX7_stackStep_74 : decode cX7_stackStep 74 = .ok (.aload_n 0, 1) := by decide +kernel
theorem dX7_stackStep_75 : decode cX7_stackStep 75 = .ok (.getfield 148, 3) := by decide +kernel
theorem dX7_stackStep_78 : decode cX7_stackStep 78 = .ok (.iconst 3, 1) := by decide +kernel
theorem dX7_stackStep_79 : decode cX7_stackStep 79 = .ok (.if_icmp .ne 16, 3) := by decide +kernel
theorem dX7_stackStep_82 : decode cX7_stackStep 82 = .ok (.aload_n 0, 1) := by decide +kernel
theorem dX7_stackStep_83 : decode cX7_stackStep 83 = .ok (.aload_n 0, 1) := by decide +kernel
theorem dX7_stackStep_84 : decode cX7_stackStep 84 = .ok (.aload_n 0, 1) := by decide +kernel
theorem dX7_stackStep_85 : decode cX7_stackStep 85 = .ok (.iconst 0, 1) := by decide +kernel
theorem dX7_stackStep_86 : decode cX7_stackStep 86 = .ok (.invokevirtual 206, 3) := by decide +kernel
theorem dX7_stackStep_89 : decode cX7_stackStep 89 = .ok (.invokevirtual 173, 3) := by decide +kernel
theorem dX7_stackStep_92 : decode cX7_stackStep 92 = .ok (.putfield 136, 3) := by decide +kernel
theorem dX7_stackStep_95 : decode cX7_stackStep 95 = .ok (.aload_n 0, 1) := by decide +kernel
theorem dX7_stackStep_96 : decode cX7_stackStep 96 = .ok (.aload_n 0, 1) := by decide +kernel
theorem dX7_stackStep_97 : decode cX7_stackStep 97 = .ok (.getfield 148, 3) := by decide +kernel
theorem dX7_stackStep_100 : decode cX7_stackStep 100 = .ok (.aload_n 0, 1) := by decide +kernel
theorem dX7_stackStep_101 : decode cX7_stackStep 101 = .ok (.getfield 167, 3) := by decide +kernel
theorem dX7_stackStep_104 : decode cX7_stackStep 104 = .ok (.bipush 72, 2) := by decide +kernel
theorem dX7_stackStep_106 : decode cX7_stackStep 106 = .ok (.if_icmp .ne 7, 3) := by decide +kernel
theorem dX7_stackStep_109 : decode cX7_stackStep 109 = .ok (.iconst 2, 1) := by decide +kernel
theorem dX7_stackStep_110 : decode cX7_stackStep 110 = .ok (.goto 4, 3) := by decide +kernel
theorem dX7_stackStep_113 : decode cX7_stackStep 113 = .ok (.iconst 3, 1) := by decide +kernel
theorem dX7_stackStep_114 : decode cX7_stackStep 114 = .ok (.if_icmp .ne 7, 3) := by decide +kernel
theorem dX7_stackStep_117 : decode cX7_stackStep 117 = .ok (.iconst 0, 1) := by decide +kernel
theorem dX7_stackStep_118 : decode cX7_stackStep 118 = .ok (.goto 9, 3) := by decide +kernel
theorem dX7_stackStep_121 : decode cX7_stackStep 121 = .ok (.aload_n 0, 1) := by decide +kernel
theorem dX7_stackStep_122 : decode cX7_stackStep 122 = .ok (.getfield 148, 3) := by decide +kernel
theorem dX7_stackStep_125 : decode cX7_stackStep 125 = .ok (.iconst 1, 1) := by decide +kernel
theorem dX7_stackStep_126 : decode cX7_stackStep 126 = .ok (.iadd, 1) := by decide +kernel
theorem dX7_stackStep_127 : decode cX7_stackStep 127 = .ok (.putfield 148, 3) := by decide +kernel
theorem dX7_stackStep_130 : decode cX7_stackStep 130 = .ok (.return_, 1) := by decide +kernel
theorem dX7_branch_0 : decode cX7_branch 0 = .ok (.iload_n 0, 1) := by decide +kernel
theorem dX7_branch_1 : decode cX7_branch 1 = .ok (.bipush 31, 2) := by decide +kernel
theorem dX7_branch_3 : decode cX7_branch 3 = .ok (.iand, 1) := by decide +kernel
theorem dX7_branch_4 : decode cX7_branch 4 = .ok (.bipush 16, 2) := by decide +kernel
theorem dX7_branch_6 : decode cX7_branch 6 = .ok (.if_icmp .ne 7, 3) := by decide +kernel
theorem dX7_branch_9 : decode cX7_branch 9 = .ok (.iconst 1, 1) := by decide +kernel
theorem dX7_branch_10 : decode cX7_branch 10 = .ok (.goto 4, 3) := by decide +kernel
theorem dX7_branch_13 : decode cX7_branch 13 = .ok (.iconst 0, 1) := by decide +kernel
theorem dX7_branch_14 : decode cX7_branch 14 = .ok (.ireturn, 1) := by decide +kernel
theorem dX7_jump_0 : decode cX7_jump 0 = .ok (.iload_n 0, 1) := by decide +kernel
theorem dX7_jump_1 : decode cX7_jump 1 = .ok (.bipush 76, 2) := by decide +kernel
theorem dX7_jump_3 : decode cX7_jump 3 = .ok (.if_icmp .eq 21, 3) := by decide +kernel
theorem dX7_jump_6 : decode cX7_jump 6 = .ok (.iload_n 0, 1) := by decide +kernel
theorem dX7_jump_7 : decode cX7_jump 7 = .ok (.bipush 32, 2) := by decide +kernel
theorem dX7_jump_9 : decode cX7_jump 9 = .ok (.if_icmp .eq 15, 3) := by decide +kernel
theorem dX7_jump_12 : decode cX7_jump 12 = .ok (.iload_n 0, 1) := by decide +kernel
theorem dX7_jump_13 : decode cX7_jump 13 = .ok (.bipush 96, 2) := by decide +kernel
theorem dX7_jump_15 : decode cX7_jump 15 = .ok (.if_icmp .eq 9, 3) := by decide +kernel
theorem dX7_jump_18 : decode cX7_jump 18 = .ok (.iload_n 0, 1) := by decide +kernel
theorem dX7_jump_19 : decode cX7_jump 19 = .ok (.bipush 64, 2) := by decide +kernel
theorem dX7_jump_21 : decode cX7_jump 21 = .ok (.if_icmp .ne 7, 3) := by decide +kernel
theorem dX7_jump_24 : decode cX7_jump 24 = .ok (.iconst 1, 1) := by decide +kernel
theorem dX7_jump_25 : decode cX7_jump 25 = .ok (.goto 4, 3) := by decide +kernel
theorem dX7_jump_28 : decode cX7_jump 28 = .ok (.iconst 0, 1) := by decide +kernel
theorem dX7_jump_29 : decode cX7_jump 29 = .ok (.ireturn, 1) := by decide +kernel
theorem dX7_withByte_0 : decode cX7_withByte 0 = .ok (.iload_n 0, 1) := by decide +kernel
theorem dX7_withByte_1 : decode cX7_withByte 1 = .ok (.sipush 162, 3) := by decide +kernel
theorem dX7_withByte_4 : decode cX7_withByte 4 = .ok (.if_icmp .eq 52, 3) := by decide +kernel
theorem dX7_withByte_7 : decode cX7_withByte 7 = .ok (.iload_n 0, 1) := by decide +kernel
theorem dX7_withByte_8 : decode cX7_withByte 8 = .ok (.sipush 160, 3) := by decide +kernel
theorem dX7_withByte_11 : decode cX7_withByte 11 = .ok (.if_icmp .eq 45, 3) := by decide +kernel
theorem dX7_withByte_14 : decode cX7_withByte 14 = .ok (.iload_n 0, 1) := by decide +kernel
theorem dX7_withByte_15 : decode cX7_withByte 15 = .ok (.sipush 224, 3) := by decide +kernel
theorem dX7_withByte_18 : decode cX7_withByte 18 = .ok (.if_icmp .eq 38, 3) := by decide +kernel
theorem dX7_withByte_21 : decode cX7_withByte 21 = .ok (.iload_n 0, 1) := by decide +kernel
theorem dX7_withByte_22 : decode cX7_withByte 22 = .ok (.sipush 192, 3) := by decide +kernel
theorem dX7_withByte_25 : decode cX7_withByte 25 = .ok (.if_icmp .eq 31, 3) := by decide +kernel
theorem dX7_withByte_28 : decode cX7_withByte 28 = .ok (.iload_n 0, 1) := by decide +kernel
theorem dX7_withByte_29 : decode cX7_withByte 29 = .ok (.sipush 134, 3) := by decide +kernel
theorem dX7_withByte_32 : decode cX7_withByte 32 = .ok (.if_icmp .eq 24, 3) := by decide +kernel
theorem dX7_withByte_35 : decode cX7_withByte 35 = .ok (.iload_n 0, 1) := by decide +kernel
theorem dX7_withByte_36 : decode cX7_withByte 36 = .ok (.sipush 132, 3) := by decide +kernel
theorem dX7_withByte_39 : decode cX7_withByte 39 = .ok (.if_icmp .eq 17, 3) := by decide +kernel
theorem dX7_withByte_42 : decode cX7_withByte 42 = .ok (.iload_n 0, 1) := by decide +kernel
theorem dX7_withByte_43 : decode cX7_withByte 43 = .ok (.sipush 230, 3) := by decide +kernel
theorem dX7_withByte_46 : decode cX7_withByte 46 = .ok (.if_icmp .eq 10, 3) := by decide +kernel
theorem dX7_withByte_49 : decode cX7_withByte 49 = .ok (.iload_n 0, 1) := by decide +kernel
theorem dX7_withByte_50 : decode cX7_withByte 50 = .ok (.sipush 198, 3) := by decide +kernel
theorem dX7_withByte_53 : decode cX7_withByte 53 = .ok (.if_icmp .ne 7, 3) := by decide +kernel
theorem dX7_withByte_56 : decode cX7_withByte 56 = .ok (.iconst 1, 1) := by decide +kernel
theorem dX7_withByte_57 : decode cX7_withByte 57 = .ok (.goto 4, 3) := by decide +kernel
theorem dX7_withByte_60 : decode cX7_withByte 60 = .ok (.iconst 0, 1) := by decide +kernel
theorem dX7_withByte_61 : decode cX7_withByte 61 = .ok (.ireturn, 1) := by decide +kernel
theorem dX7_plain_0 : decode cX7_plain 0 = .ok (.iload_n 0, 1) := by decide +kernel
theorem dX7_plain_1 : decode cX7_plain 1 = .ok (.bipush 24, 2) := by decide +kernel
theorem dX7_plain_3 : decode cX7_plain 3 = .ok (.if_icmp .eq 35, 3) := by decide +kernel
theorem dX7_plain_6 : decode cX7_plain 6 = .ok (.iload_n 0, 1) := by decide +kernel
theorem dX7_plain_7 : decode cX7_plain 7 = .ok (.bipush 56, 2) := by decide +kernel
theorem dX7_plain_9 : decode cX7_plain 9 = .ok (.if_icmp .eq 29, 3) := by decide +kernel
theorem dX7_plain_12 : decode cX7_plain 12 = .ok (.iload_n 0, 1) := by decide +kernel
theorem dX7_plain_13 : decode cX7_plain 13 = .ok (.bipush 88, 2) := by decide +kernel
theorem dX7_plain_15 : decode cX7_plain 15 = .ok (.if_icmp .eq 23, 3) := by decide +kernel
theorem dX7_plain_18 : decode cX7_plain 18 = .ok (.iload_n 0, 1) := by decide +kernel
theorem dX7_plain_19 : decode cX7_plain 19 = .ok (.bipush 120, 2) := by decide +kernel
theorem dX7_plain_21 : decode cX7_plain 21 = .ok (.if_icmp .eq 17, 3) := by decide +kernel
theorem dX7_plain_24 : decode cX7_plain 24 = .ok (.iload_n 0, 1) := by decide +kernel
theorem dX7_plain_25 : decode cX7_plain 25 = .ok (.sipush 216, 3) := by decide +kernel
theorem dX7_plain_28 : decode cX7_plain 28 = .ok (.if_icmp .eq 10, 3) := by decide +kernel
theorem dX7_plain_31 : decode cX7_plain 31 = .ok (.iload_n 0, 1) := by decide +kernel
theorem dX7_plain_32 : decode cX7_plain 32 = .ok (.sipush 248, 3) := by decide +kernel
theorem dX7_plain_35 : decode cX7_plain 35 = .ok (.if_icmp .ne 7, 3) := by decide +kernel
theorem dX7_plain_38 : decode cX7_plain 38 = .ok (.iconst 1, 1) := by decide +kernel
theorem dX7_plain_39 : decode cX7_plain 39 = .ok (.goto 4, 3) := by decide +kernel
theorem dX7_plain_42 : decode cX7_plain 42 = .ok (.iconst 0, 1) := by decide +kernel
theorem dX7_plain_43 : decode cX7_plain 43 = .ok (.istore_n 1, 1) := by decide +kernel
theorem dX7_plain_44 : decode cX7_plain 44 = .ok (.iload_n 0, 1) := by decide +kernel
theorem dX7_plain_45 : decode cX7_plain 45 = .ok (.sipush 170, 3) := by decide +kernel
theorem dX7_plain_48 : decode cX7_plain 48 = .ok (.if_icmp .eq 52, 3) := by decide +kernel
theorem dX7_plain_51 : decode cX7_plain 51 = .ok (.iload_n 0, 1) := by decide +kernel
theorem dX7_plain_52 : decode cX7_plain 52 = .ok (.sipush 138, 3) := by decide +kernel
theorem dX7_plain_55 : decode cX7_plain 55 = .ok (.if_icmp .eq 45, 3) := by decide +kernel
theorem dX7_plain_58 : decode cX7_plain 58 = .ok (.iload_n 0, 1) := by decide +kernel
theorem dX7_plain_59 : decode cX7_plain 59 = .ok (.sipush 168, 3) := by decide +kernel
theorem dX7_plain_62 : decode cX7_plain 62 = .ok (.if_icmp .eq 38, 3) := by decide +kernel
theorem dX7_plain_65 : decode cX7_plain 65 = .ok (.iload_n 0, 1) := by decide +kernel
theorem dX7_plain_66 : decode cX7_plain 66 = .ok (.sipush 152, 3) := by decide +kernel
theorem dX7_plain_69 : decode cX7_plain 69 = .ok (.if_icmp .eq 31, 3) := by decide +kernel
theorem dX7_plain_72 : decode cX7_plain 72 = .ok (.iload_n 0, 1) := by decide +kernel
theorem dX7_plain_73 : decode cX7_plain 73 = .ok (.sipush 232, 3) := by decide +kernel
theorem dX7_plain_76 : decode cX7_plain 76 = .ok (.if_icmp .eq 24, 3) := by decide +kernel
theorem dX7_plain_79 : decode cX7_plain 79 = .ok (.iload_n 0, 1) := by decide +kernel
theorem dX7_plain_80 : decode cX7_plain 80 = .ok (.sipush 200, 3) := by decide +kernel
theorem dX7_plain_83 : decode cX7_plain 83 = .ok (.if_icmp .eq 17, 3) := by decide +kernel
theorem dX7_plain_86 : decode cX7_plain 86 = .ok (.iload_n 0, 1) := by decide +kernel
theorem dX7_plain_87 : decode cX7_plain 87 = .ok (.sipush 202, 3) := by decide +kernel
theorem dX7_plain_90 : decode cX7_plain 90 = .ok (.if_icmp .eq 10, 3) := by decide +kernel
theorem dX7_plain_93 : decode cX7_plain 93 = .ok (.iload_n 0, 1) := by decide +kernel
theorem dX7_plain_94 : decode cX7_plain 94 = .ok (.sipush 136, 3) := by decide +kernel
theorem dX7_plain_97 : decode cX7_plain 97 = .ok (.if_icmp .ne 7, 3) := by decide +kernel
theorem dX7_plain_100 : decode cX7_plain 100 = .ok (.iconst 1, 1) := by decide +kernel
theorem dX7_plain_101 : decode cX7_plain 101 = .ok (.goto 4, 3) := by decide +kernel
theorem dX7_plain_104 : decode cX7_plain 104 = .ok (.iconst 0, 1) := by decide +kernel
theorem dX7_plain_105 : decode cX7_plain 105 = .ok (.istore_n 2, 1) := by decide +kernel
theorem dX7_plain_106 : decode cX7_plain 106 = .ok (.iload_n 1, 1) := by decide +kernel
theorem dX7_plain_107 : decode cX7_plain 107 = .ok (.ifCond .ne 26, 3) := by decide +kernel
theorem dX7_plain_110 : decode cX7_plain 110 = .ok (.iload_n 2, 1) := by decide +kernel
theorem dX7_plain_111 : decode cX7_plain 111 = .ok (.ifCond .ne 22, 3) := by decide +kernel
theorem dX7_plain_114 : decode cX7_plain 114 = .ok (.iload_n 0, 1) := by decide +kernel
theorem dX7_plain_115 : decode cX7_plain 115 = .ok (.bipush 10, 2) := by decide +kernel
theorem dX7_plain_117 : decode cX7_plain 117 = .ok (.if_icmp .eq 16, 3) := by decide +kernel
theorem dX7_plain_120 : decode cX7_plain 120 = .ok (.iload_n 0, 1) := by decide +kernel
theorem dX7_plain_121 : decode cX7_plain 121 = .ok (.bipush 74, 2) := by decide +kernel
theorem dX7_plain_123 : decode cX7_plain 123 = .ok (.if_icmp .eq 10, 3) := by decide +kernel
theorem dX7_plain_126 : decode cX7_plain 126 = .ok (.iload_n 0, 1) := by decide +kernel
theorem dX7_plain_127 : decode cX7_plain 127 = .ok (.sipush 234, 3) := by decide +kernel
theorem dX7_plain_130 : decode cX7_plain 130 = .ok (.if_icmp .ne 7, 3) := by decide +kernel
theorem dX7_plain_133 : decode cX7_plain 133 = .ok (.iconst 1, 1) := by decide +kernel
theorem dX7_plain_134 : decode cX7_plain 134 = .ok (.goto 4, 3) := by decide +kernel
theorem dX7_plain_137 : decode cX7_plain 137 = .ok (.iconst 0, 1) := by decide +kernel
theorem dX7_plain_138 : decode cX7_plain 138 = .ok (.ireturn, 1) := by decide +kernel
theorem dX7_begin_0 : decode cX7_begin 0 = .ok (.aload_n 0, 1) := by decide +kernel
theorem dX7_begin_1 : decode cX7_begin 1 = .ok (.iconst 1, 1) := by decide +kernel
theorem dX7_begin_2 : decode cX7_begin 2 = .ok (.putfield 148, 3) := by decide +kernel
theorem dX7_begin_5 : decode cX7_begin 5 = .ok (.aload_n 0, 1) := by decide +kernel
theorem dX7_begin_6 : decode cX7_begin 6 = .ok (.invokevirtual 210, 3) := by decide +kernel
theorem dX7_begin_9 : decode cX7_begin 9 = .ok (.ifCond .eq 38, 3) := by decide +kernel
theorem dX7_begin_12 : decode cX7_begin 12 = .ok (.aload_n 0, 1) := by decide +kernel
theorem dX7_begin_13 : decode cX7_begin 13 = .ok (.iconst 4, 1) := by decide +kernel
theorem dX7_begin_14 : decode cX7_begin 14 = .ok (.invokevirtual 170, 3) := by decide +kernel
theorem dX7_begin_17 : decode cX7_begin 17 = .ok (.ifCond .ne 30, 3) := by decide +kernel
theorem dX7_begin_20 : decode cX7_begin 20 = .ok (.aload_n 0, 1) := by decide +kernel
theorem dX7_begin_21 : decode cX7_begin 21 = .ok (.sipush 256, 3) := by decide +kernel
theorem dX7_begin_24 : decode cX7_begin 24 = .ok (.putfield 167, 3) := by decide +kernel
theorem dX7_begin_27 : decode cX7_begin 27 = .ok (.aload_n 0, 1) := by decide +kernel
theorem dX7_begin_28 : decode cX7_begin 28 = .ok (.dup, 1) := by decide +kernel
theorem dX7_begin_29 : decode cX7_begin 29 = .ok (.getfield 154, 3) := by decide +kernel
theorem dX7_begin_32 : decode cX7_begin 32 = .ok (.iconst 1, 1) := by decide +kernel
theorem dX7_begin_33 : decode cX7_begin 33 = .ok (.iadd, 1) := by decide +kernel
theorem dX7_begin_34 : decode cX7_begin 34 = .ok (.putfield 154, 3) := by decide +kernel
theorem dX7_begin_37 : decode cX7_begin 37 = .ok (.aload_n 0, 1) := by decide +kernel
theorem dX7_begin_38 : decode cX7_begin 38 = .ok (.aload_n 0, 1) := by decide +kernel
theorem dX7_begin_39 : decode cX7_begin 39 = .ok (.getfield 145, 3) := by decide +kernel
theorem dX7_begin_42 : decode cX7_begin 42 = .ok (.invokevirtual 161, 3) := by decide +kernel
theorem dX7_begin_45 : decode cX7_begin 45 = .ok (.pop, 1) := by decide +kernel
theorem dX7_begin_46 : decode cX7_begin 46 = .ok (.return_, 1) := by decide +kernel
theorem dX7_begin_47 : decode cX7_begin 47 = .ok (.aload_n 0, 1) := by decide +kernel
theorem dX7_begin_48 : decode cX7_begin 48 = .ok (.aload_n 0, 1) := by decide +kernel
theorem dX7_begin_49 : decode cX7_begin 49 = .ok (.invokevirtual 185, 3) := by decide +kernel
theorem dX7_begin_52 : decode cX7_begin 52 = .ok (.putfield 167, 3) := by decide +kernel
theorem dX7_begin_55 : decode cX7_begin 55 = .ok (.aload_n 0, 1) := by decide +kernel
theorem dX7_begin_56 : decode cX7_begin 56 = .ok (.aload_n 0, 1) := by decide +kernel
theorem dX7_begin_57 : decode cX7_begin 57 = .ok (.getfield 167, 3) := by decide +kernel
theorem dX7_begin_60 : decode cX7_begin 60 = .ok (.invokestatic 213, 3) := by decide +kernel
theorem dX7_begin_63 : decode cX7_begin 63 = .ok (.ifCond .ne 65, 3) := by decide +kernel
theorem dX7_begin_66 : decode cX7_begin 66 = .ok (.aload_n 0, 1) := by decide +kernel
theorem dX7_begin_67 : decode cX7_begin 67 = .ok (.getfield 167, 3) := by decide +kernel
theorem dX7_begin_70 : decode cX7_begin 70 = .ok (.invokestatic 216, 3) := by decide +kernel
theorem dX7_begin_73 : decode cX7_begin 73 = .ok (.ifCond .ne 55, 3) := by decide +kernel
theorem dX7_begin_76 : decode cX7_begin 76 = .ok (.aload_n 0, 1) := by decide +kernel
theorem dX7_begin_77 : decode cX7_begin 77 = .ok (.getfield 167, 3) := by decide +kernel
theorem dX7_begin_80 : decode cX7_begin 80 = .ok (.invokestatic 219, 3) := by decide +kernel
theorem dX7_begin_83 : decode cX7_begin 83 = .ok (.ifCond .ne 45, 3) := by decide +kernel
theorem dX7_begin_86 : decode cX7_begin 86 = .ok (.aload_n 0, 1) := by decide +kernel
theorem dX7_begin_87 : decode cX7_begin 87 = .ok (.getfield 167, 3) := by decide +kernel
theorem dX7_begin_90 : decode cX7_begin 90 = .ok (.invokestatic 222, 3) := by decide +kernel
theorem dX7_begin_93 : decode cX7_begin 93 = .ok (.ifCond .ne 35, 3) := by decide +kernel
theorem dX7_begin_96 : decode cX7_begin 96 = .ok (.aload_n 0, 1) := by decide +kernel
theorem dX7_begin_97 : decode cX7_begin 97 = .ok (.getfield 167, 3) := by decide +kernel
theorem dX7_begin_100 : decode cX7_begin 100 = .ok (.invokestatic 225, 3) := by decide +kernel
theorem dX7_begin_103 : decode cX7_begin 103 = .ok (.ifCond .ne 25, 3) := by decide +kernel
theorem dX7_begin_106 : decode cX7_begin 106 = .ok (.aload_n 0, 1) := by decide +kernel
theorem dX7_begin_107 : decode cX7_begin 107 = .ok (.getfield 167, 3) := by decide +kernel
theorem dX7_begin_110 : decode cX7_begin 110 = .ok (.bipush 72, 2) := by decide +kernel
theorem dX7_begin_112 : decode cX7_begin 112 = .ok (.if_icmp .eq 16, 3) := by decide +kernel
theorem dX7_begin_115 : decode cX7_begin 115 = .ok (.aload_n 0, 1) := by decide +kernel
theorem dX7_begin_116 : decode cX7_begin 116 = .ok (.getfield 167, 3) := by decide +kernel
theorem dX7_begin_119 : decode cX7_begin 119 = .ok (.bipush 104, 2) := by decide +kernel
theorem dX7_begin_121 : decode cX7_begin 121 = .ok (.if_icmp .eq 7, 3) := by decide +kernel
theorem dX7_begin_124 : decode cX7_begin 124 = .ok (.iconst 1, 1) := by decide +kernel
theorem dX7_begin_125 : decode cX7_begin 125 = .ok (.goto 4, 3) := by decide +kernel
theorem dX7_begin_128 : decode cX7_begin 128 = .ok (.iconst 0, 1) := by decide +kernel
theorem dX7_begin_129 : decode cX7_begin 129 = .ok (.putfield 63, 3) := by decide +kernel
theorem dX7_begin_132 : decode cX7_begin 132 = .ok (.return_, 1) := by decide +kernel
theorem dX7_processorCycle_0 : decode cX7_processorCycle 0 = .ok (.aload_n 0, 1) := by decide +kernel
theorem dX7_processorCycle_1 : decode cX7_processorCycle 1 = .ok (.getfield 63, 3) := by decide +kernel
theorem dX7_processorCycle_4 : decode cX7_processorCycle 4 = .ok (.ifCond .eq 4, 3) := by decide +kernel
theorem dX7_processorCycle_7 : decode cX7_processorCycle 7 = .ok (.return_, 1) := by decide +kernel
theorem dX7_processorCycle_8 : decode cX7_processorCycle 8 = .ok (.aload_n 0, 1) := by decide +kernel
theorem dX7_processorCycle_9 : decode cX7_processorCycle 9 = .ok (.invokevirtual 228, 3) := by decide +kernel
theorem dX7_processorCycle_12 : decode cX7_processorCycle 12 = .ok (.ifCond .eq 21, 3) := by decide +kernel
theorem dX7_processorCycle_15 : decode cX7_processorCycle 15 = .ok (.aload_n 0, 1) := by decide +kernel
theorem dX7_processorCycle_16 : decode cX7_processorCycle 16 = .ok (.invokevirtual 231, 3) := by decide +kernel
theorem dX7_processorCycle_19 : decode cX7_processorCycle 19 = .ok (.ifCond .ne 14, 3) := by decide +kernel
theorem dX7_processorCycle_22 : decode cX7_processorCycle 22 = .ok (.aload_n 0, 1) := by decide +kernel
theorem dX7_processorCycle_23 : decode cX7_processorCycle 23 = .ok (.dup, 1) := by decide +kernel
theorem dX7_processorCycle_24 : decode cX7_processorCycle 24 = .ok (.getfield 151, 3) := by decide +kernel
theorem dX7_processorCycle_27 : decode cX7_processorCycle 27 = .ok (.iconst 1, 1) := by decide +kernel
theorem dX7_processorCycle_28 : decode cX7_processorCycle 28 = .ok (.iadd, 1) := by decide +kernel
theorem dX7_processorCycle_29 : decode cX7_processorCycle 29 = .ok (.putfield 151, 3) := by decide +kernel
theorem dX7_processorCycle_32 : decode cX7_processorCycle 32 = .ok (.return_, 1) := by decide +kernel
theorem dX7_processorCycle_33 : decode cX7_processorCycle 33 = .ok (.aload_n 0, 1) := by decide +kernel
theorem dX7_processorCycle_34 : decode cX7_processorCycle 34 = .ok (.getfield 148, 3) := by decide +kernel
theorem dX7_processorCycle_37 : decode cX7_processorCycle 37 = .ok (.ifCond .ne 10, 3) := by decide +kernel
theorem dX7_processorCycle_40 : decode cX7_processorCycle 40 = .ok (.aload_n 0, 1) := by decide +kernel
theorem dX7_processorCycle_41 : decode cX7_processorCycle 41 = .ok (.invokevirtual 234, 3) := by decide +kernel
theorem dX7_processorCycle_44 : decode cX7_processorCycle 44 = .ok (.goto 109, 3) := by decide +kernel
theorem dX7_processorCycle_47 : decode cX7_processorCycle 47 = .ok (.aload_n 0, 1) := by decide +kernel
theorem dX7_processorCycle_48 : decode cX7_processorCycle 48 = .ok (.getfield 167, 3) := by decide +kernel
theorem dX7_processorCycle_51 : decode cX7_processorCycle 51 = .ok (.sipush 256, 3) := by decide +kernel
theorem dX7_processorCycle_54 : decode cX7_processorCycle 54 = .ok (.if_icmp .ne 10, 3) := by decide +kernel
theorem dX7_processorCycle_57 : decode cX7_processorCycle 57 = .ok (.aload_n 0, 1) := by decide +kernel
theorem dX7_processorCycle_58 : decode cX7_processorCycle 58 = .ok (.invokevirtual 237, 3) := by decide +kernel
theorem dX7_processorCycle_61 : decode cX7_processorCycle 61 = .ok (.goto 92, 3) := by decide +kernel
theorem dX7_processorCycle_64 : decode cX7_processorCycle 64 = .ok (.aload_n 0, 1) := by decide +kernel
theorem dX7_processorCycle_65 : decode cX7_processorCycle 65 = .ok (.getfield 167, 3) := by decide +kernel
theorem dX7_processorCycle_68 : decode cX7_processorCycle 68 = .ok (.invokestatic 213, 3) := by decide +kernel
theorem dX7_processorCycle_71 : decode cX7_processorCycle 71 = .ok (.ifCond .eq 10, 3) := by decide +kernel
theorem dX7_processorCycle_74 : decode cX7_processorCycle 74 = .ok (.aload_n 0, 1) := by decide +kernel
theorem dX7_processorCycle_75 : decode cX7_processorCycle 75 = .ok (.invokevirtual 240, 3) := by decide +kernel
theorem dX7_processorCycle_78 : decode cX7_processorCycle 78 = .ok (.goto 75, 3) := by decide +kernel
theorem dX7_processorCycle_81 : decode cX7_processorCycle 81 = .ok (.aload_n 0, 1) := by decide +kernel
theorem dX7_processorCycle_82 : decode cX7_processorCycle 82 = .ok (.getfield 167, 3) := by decide +kernel
theorem dX7_processorCycle_85 : decode cX7_processorCycle 85 = .ok (.invokestatic 216, 3) := by decide +kernel
theorem dX7_processorCycle_88 : decode cX7_processorCycle 88 = .ok (.ifCond .eq 10, 3) := by decide +kernel
theorem dX7_processorCycle_91 : decode cX7_processorCycle 91 = .ok (.aload_n 0, 1) := by decide +kernel
theorem dX7_processorCycle_92 : decode cX7_processorCycle 92 = .ok (.invokevirtual 243, 3) := by decide +kernel
theorem dX7_processorCycle_95 : decode cX7_processorCycle 95 = .ok (.goto 58, 3) := by decide +kernel
theorem dX7_processorCycle_98 : decode cX7_processorCycle 98 = .ok (.aload_n 0, 1) := by decide +kernel
theorem dX7_processorCycle_99 : decode cX7_processorCycle 99 = .ok (.getfield 167, 3) := by decide +kernel
theorem dX7_processorCycle_102 : decode cX7_processorCycle 102 = .ok (.invokestatic 219, 3) := by decide +kernel
theorem dX7_processorCycle_105 : decode cX7_processorCycle 105 = .ok (.ifCond .eq 10, 3) := by decide +kernel
theorem dX7_processorCycle_108 : decode cX7_processorCycle 108 = .ok (.aload_n 0, 1) := by decide +kernel
theorem dX7_processorCycle_109 : decode cX7_processorCycle 109 = .ok (.invokevirtual 246, 3) := by decide +kernel
theorem dX7_processorCycle_112 : decode cX7_processorCycle 112 = .ok (.goto 41, 3) := by decide +kernel
theorem dX7_processorCycle_115 : decode cX7_processorCycle 115 = .ok (.aload_n 0, 1) := by decide +kernel
theorem dX7_processorCycle_116 : decode cX7_processorCycle 116 = .ok (.getfield 167, 3) := by decide +kernel
theorem dX7_processorCycle_119 : decode cX7_processorCycle 119 = .ok (.invokestatic 222, 3) := by decide +kernel
theorem dX7_processorCycle_122 : decode cX7_processorCycle 122 = .ok (.ifCond .eq 10, 3) := by decide +kernel
theorem dX7_processorCycle_125 : decode cX7_processorCycle 125 = .ok (.aload_n 0, 1) := by decide +kernel
theorem dX7_processorCycle_126 : decode cX7_processorCycle 126 = .ok (.invokevirtual 249, 3) := by decide +kernel
theorem dX7_processorCycle_129 : decode cX7_processorCycle 129 = .ok (.goto 24, 3) := by decide +kernel
theorem dX7_processorCycle_132 : decode cX7_processorCycle 132 = .ok (.aload_n 0, 1) := by decide +kernel
theorem dX7_processorCycle_133 : decode cX7_processorCycle 133 = .ok (.getfield 167, 3) := by decide +kernel
theorem dX7_processorCycle_136 : decode cX7_processorCycle 136 = .ok (.invokestatic 225, 3) := by decide +kernel
theorem dX7_processorCycle_139 : decode cX7_processorCycle 139 = .ok (.ifCond .eq 10, 3) := by decide +kernel
theorem dX7_processorCycle_142 : decode cX7_processorCycle 142 = .ok (.aload_n 0, 1) := by decide +kernel
theorem dX7_processorCycle_143 : decode cX7_processorCycle 143 = .ok (.invokevirtual 252, 3) := by decide +kernel
theorem dX7_processorCycle_146 : decode cX7_processorCycle 146 = .ok (.goto 7, 3) := by decide +kernel
theorem dX7_processorCycle_149 : decode cX7_processorCycle 149 = .ok (.aload_n 0, 1) := by decide +kernel
theorem dX7_processorCycle_150 : decode cX7_processorCycle 150 = .ok (.invokevirtual 255, 3) := by decide +kernel
theorem dX7_processorCycle_153 : decode cX7_processorCycle 153 = .ok (.return_, 1) := by decide +kernel
theorem dX7_run_0 : decode cX7_run 0 = .ok (.iload_n 1, 1) := by decide +kernel
theorem dX7_run_1 : decode cX7_run 1 = .ok (.iconst 1, 1) := by decide +kernel
theorem dX7_run_2 : decode cX7_run 2 = .ok (.if_icmp .lt 10, 3) := by decide +kernel
theorem dX7_run_5 : decode cX7_run 5 = .ok (.iload_n 1, 1) := by decide +kernel
theorem dX7_run_6 : decode cX7_run 6 = .ok (.sipush 1000, 3) := by decide +kernel
theorem dX7_run_9 : decode cX7_run 9 = .ok (.if_icmp .le 5, 3) := by decide +kernel
theorem dX7_run_12 : decode cX7_run 12 = .ok (.iconst (-1), 1) := by decide +kernel
theorem dX7_run_13 : decode cX7_run 13 = .ok (.ireturn, 1) := by decide +kernel
theorem dX7_run_14 : decode cX7_run 14 = .ok (.aload_n 0, 1) := by decide +kernel
theorem dX7_run_15 : decode cX7_run 15 = .ok (.iconst 0, 1) := by decide +kernel
theorem dX7_run_16 : decode cX7_run 16 = .ok (.putfield 102, 3) := by decide +kernel
theorem dX7_run_19 : decode cX7_run 19 = .ok (.iconst 0, 1) := by decide +kernel
theorem dX7_run_20 : decode cX7_run 20 = .ok (.istore_n 2, 1) := by decide +kernel
theorem dX7_run_21 : decode cX7_run 21 = .ok (.iload_n 2, 1) := by decide +kernel
theorem dX7_run_22 : decode cX7_run 22 = .ok (.iload_n 1, 1) := by decide +kernel
theorem dX7_run_23 : decode cX7_run 23 = .ok (.if_icmp .ge 81, 3) := by decide +kernel
theorem dX7_run_26 : decode cX7_run 26 = .ok (.aload_n 0, 1) := by decide +kernel
theorem dX7_run_27 : decode cX7_run 27 = .ok (.invokevirtual 258, 3) := by decide +kernel
theorem dX7_run_30 : decode cX7_run 30 = .ok (.aload_n 0, 1) := by decide +kernel
theorem dX7_run_31 : decode cX7_run 31 = .ok (.invokevirtual 261, 3) := by decide +kernel
theorem dX7_run_34 : decode cX7_run 34 = .ok (.aload_n 0, 1) := by decide +kernel
theorem dX7_run_35 : decode cX7_run 35 = .ok (.invokevirtual 264, 3) := by decide +kernel
theorem dX7_run_38 : decode cX7_run 38 = .ok (.aload_n 0, 1) := by decide +kernel
theorem dX7_run_39 : decode cX7_run 39 = .ok (.dup, 1) := by decide +kernel
theorem dX7_run_40 : decode cX7_run 40 = .ok (.getfield 267, 3) := by decide +kernel
theorem dX7_run_43 : decode cX7_run 43 = .ok (.iconst 1, 1) := by decide +kernel
theorem dX7_run_44 : decode cX7_run 44 = .ok (.iadd, 1) := by decide +kernel
theorem dX7_run_45 : decode cX7_run 45 = .ok (.putfield 267, 3) := by decide +kernel
theorem dX7_run_48 : decode cX7_run 48 = .ok (.aload_n 0, 1) := by decide +kernel
theorem dX7_run_49 : decode cX7_run 49 = .ok (.dup, 1) := by decide +kernel
theorem dX7_run_50 : decode cX7_run 50 = .ok (.getfield 120, 3) := by decide +kernel
theorem dX7_run_53 : decode cX7_run 53 = .ok (.iconst 1, 1) := by decide +kernel
theorem dX7_run_54 : decode cX7_run 54 = .ok (.iadd, 1) := by decide +kernel
theorem dX7_run_55 : decode cX7_run 55 = .ok (.putfield 120, 3) := by decide +kernel
theorem dX7_run_58 : decode cX7_run 58 = .ok (.aload_n 0, 1) := by decide +kernel
theorem dX7_run_59 : decode cX7_run 59 = .ok (.aload_n 0, 1) := by decide +kernel
theorem dX7_run_60 : decode cX7_run 60 = .ok (.getfield 120, 3) := by decide +kernel
theorem dX7_run_63 : decode cX7_run 63 = .ok (.bipush 24, 2) := by decide +kernel
theorem dX7_run_65 : decode cX7_run 65 = .ok (.if_icmp .ne 15, 3) := by decide +kernel
theorem dX7_run_68 : decode cX7_run 68 = .ok (.aload_n 0, 1) := by decide +kernel
theorem dX7_run_69 : decode cX7_run 69 = .ok (.getfield 85, 3) := by decide +kernel
theorem dX7_run_72 : decode cX7_run 72 = .ok (.iconst 1, 1) := by decide +kernel
theorem dX7_run_73 : decode cX7_run 73 = .ok (.iadd, 1) := by decide +kernel
theorem dX7_run_74 : decode cX7_run 74 = .ok (.bipush 40, 2) := by decide +kernel
theorem dX7_run_76 : decode cX7_run 76 = .ok (.irem, 1) := by decide +kernel
theorem dX7_run_77 : decode cX7_run 77 = .ok (.goto 7, 3) := by decide +kernel
theorem dX7_run_80 : decode cX7_run 80 = .ok (.aload_n 0, 1) := by decide +kernel
theorem dX7_run_81 : decode cX7_run 81 = .ok (.getfield 85, 3) := by decide +kernel
theorem dX7_run_84 : decode cX7_run 84 = .ok (.putfield 85, 3) := by decide +kernel
theorem dX7_run_87 : decode cX7_run 87 = .ok (.aload_n 0, 1) := by decide +kernel
theorem dX7_run_88 : decode cX7_run 88 = .ok (.aload_n 0, 1) := by decide +kernel
theorem dX7_run_89 : decode cX7_run 89 = .ok (.getfield 120, 3) := by decide +kernel
theorem dX7_run_92 : decode cX7_run 92 = .ok (.bipush 24, 2) := by decide +kernel
theorem dX7_run_94 : decode cX7_run 94 = .ok (.irem, 1) := by decide +kernel
theorem dX7_run_95 : decode cX7_run 95 = .ok (.putfield 120, 3) := by decide +kernel
theorem dX7_run_98 : decode cX7_run 98 = .ok (.iinc 2 1, 3) := by decide +kernel
theorem dX7_run_101 : decode cX7_run 101 = .ok (.goto (-80), 3) := by decide +kernel
theorem dX7_run_104 : decode cX7_run 104 = .ok (.aload_n 0, 1) := by decide +kernel
theorem dX7_run_105 : decode cX7_run 105 = .ok (.getfield 102, 3) := by decide +kernel
theorem dX7_run_108 : decode cX7_run 108 = .ok (.ireturn, 1) := by decide +kernel
theorem dX7_ram_0 : decode cX7_ram 0 = .ok (.iload_n 1, 1) := by decide +kernel
theorem dX7_ram_1 : decode cX7_ram 1 = .ok (.sipush 8192, 3) := by decide +kernel
theorem dX7_ram_4 : decode cX7_ram 4 = .ok (.invokestatic 70, 3) := by decide +kernel
theorem dX7_ram_7 : decode cX7_ram 7 = .ok (.ifCond .eq 12, 3) := by decide +kernel
theorem dX7_ram_10 : decode cX7_ram 10 = .ok (.aload_n 0, 1) := by decide +kernel
theorem dX7_ram_11 : decode cX7_ram 11 = .ok (.getfield 7, 3) := by decide +kernel
theorem dX7_ram_14 : decode cX7_ram 14 = .ok (.iload_n 1, 1) := by decide +kernel
theorem dX7_ram_15 : decode cX7_ram 15 = .ok (.iaload, 1) := by decide +kernel
theorem dX7_ram_16 : decode cX7_ram 16 = .ok (.goto 4, 3) := by decide +kernel
theorem dX7_ram_19 : decode cX7_ram 19 = .ok (.iconst (-1), 1) := by decide +kernel
theorem dX7_ram_20 : decode cX7_ram 20 = .ok (.ireturn, 1) := by decide +kernel
theorem dX7_look_0 : decode cX7_look 0 = .ok (.iload_n 1, 1) := by decide +kernel
theorem dX7_look_1 : decode cX7_look 1 = .ok (.sipush 8192, 3) := by decide +kernel
theorem dX7_look_4 : decode cX7_look 4 = .ok (.invokestatic 70, 3) := by decide +kernel
theorem dX7_look_7 : decode cX7_look 7 = .ok (.ifCond .eq 11, 3) := by decide +kernel
theorem dX7_look_10 : decode cX7_look 10 = .ok (.aload_n 0, 1) := by decide +kernel
theorem dX7_look_11 : decode cX7_look 11 = .ok (.iload_n 1, 1) := by decide +kernel
theorem dX7_look_12 : decode cX7_look 12 = .ok (.invokevirtual 105, 3) := by decide +kernel
theorem dX7_look_15 : decode cX7_look 15 = .ok (.goto 4, 3) := by decide +kernel
theorem dX7_look_18 : decode cX7_look 18 = .ok (.iconst (-1), 1) := by decide +kernel
theorem dX7_look_19 : decode cX7_look 19 = .ok (.ireturn, 1) := by decide +kernel
theorem dX7_register_0 : decode cX7_register 0 = .ok (.iload_n 1, 1) := by decide +kernel
theorem dX7_register_1 : decode cX7_register 1 = .ok (.ifCond .ne 8, 3) := by decide +kernel
theorem dX7_register_4 : decode cX7_register 4 = .ok (.aload_n 0, 1) := by decide +kernel
theorem dX7_register_5 : decode cX7_register 5 = .ok (.getfield 136, 3) := by decide +kernel
theorem dX7_register_8 : decode cX7_register 8 = .ok (.ireturn, 1) := by decide +kernel
theorem dX7_register_9 : decode cX7_register 9 = .ok (.iload_n 1, 1) := by decide +kernel
theorem dX7_register_10 : decode cX7_register 10 = .ok (.iconst 1, 1) := by decide +kernel
theorem dX7_register_11 : decode cX7_register 11 = .ok (.if_icmp .ne 8, 3) := by decide +kernel
theorem dX7_register_14 : decode cX7_register 14 = .ok (.aload_n 0, 1) := by decide +kernel
theorem dX7_register_15 : decode cX7_register 15 = .ok (.getfield 139, 3) := by decide +kernel
theorem dX7_register_18 : decode cX7_register 18 = .ok (.ireturn, 1) := by decide +kernel
theorem dX7_register_19 : decode cX7_register 19 = .ok (.iload_n 1, 1) := by decide +kernel
theorem dX7_register_20 : decode cX7_register 20 = .ok (.iconst 2, 1) := by decide +kernel
theorem dX7_register_21 : decode cX7_register 21 = .ok (.if_icmp .ne 8, 3) := by decide +kernel
theorem dX7_register_24 : decode cX7_register 24 = .ok (.aload_n 0, 1) := by decide +kernel
theorem dX7_register_25 : decode cX7_register 25 = .ok (.getfield 142, 3) := by decide +kernel
theorem dX7_register_28 : decode cX7_register 28 = .ok (.ireturn, 1) := by decide +kernel
theorem dX7_register_29 : decode cX7_register 29 = .ok (.iload_n 1, 1) := by decide +kernel
theorem dX7_register_30 : decode cX7_register 30 = .ok (.iconst 3, 1) := by decide +kernel
theorem dX7_register_31 : decode cX7_register 31 = .ok (.if_icmp .ne 8, 3) := by decide +kernel
theorem dX7_register_34 : decode cX7_register 34 = .ok (.aload_n 0, 1) := by decide +kernel
theorem dX7_register_35 : decode cX7_register 35 = .ok (.getfield 57, 3) := by decide +kernel
theorem dX7_register_38 : decode cX7_register 38 = .ok (.ireturn, 1) := by decide +kernel
theorem dX7_register_39 : decode cX7_register 39 = .ok (.iload_n 1, 1) := by decide +kernel
theorem dX7_register_40 : decode cX7_register 40 = .ok (.iconst 4, 1) := by decide +kernel
theorem dX7_register_41 : decode cX7_register 41 = .ok (.if_icmp .ne 8, 3) := by decide +kernel
theorem dX7_register_44 : decode cX7_register 44 = .ok (.aload_n 0, 1) := by decide +kernel
theorem dX7_register_45 : decode cX7_register 45 = .ok (.getfield 60, 3) := by decide +kernel
theorem dX7_register_48 : decode cX7_register 48 = .ok (.ireturn, 1) := by decide +kernel
theorem dX7_register_49 : decode cX7_register 49 = .ok (.iload_n 1, 1) := by decide +kernel
theorem dX7_register_50 : decode cX7_register 50 = .ok (.iconst 5, 1) := by decide +kernel
theorem dX7_register_51 : decode cX7_register 51 = .ok (.if_icmp .ne 10, 3) := by decide +kernel
theorem dX7_register_54 : decode cX7_register 54 = .ok (.aload_n 0, 1) := by decide +kernel
theorem dX7_register_55 : decode cX7_register 55 = .ok (.getfield 145, 3) := by decide +kernel
theorem dX7_register_58 : decode cX7_register 58 = .ok (.goto 17, 3) := by decide +kernel
theorem dX7_register_61 : decode cX7_register 61 = .ok (.iload_n 1, 1) := by decide +kernel
theorem dX7_register_62 : decode cX7_register 62 = .ok (.bipush 6, 2) := by decide +kernel
theorem dX7_register_64 : decode cX7_register 64 = .ok (.if_icmp .ne 10, 3) := by decide +kernel
theorem dX7_register_67 : decode cX7_register 67 = .ok (.aload_n 0, 1) := by decide +kernel
theorem dX7_register_68 : decode cX7_register 68 = .ok (.getfield 22, 3) := by decide +kernel
theorem dX7_register_71 : decode cX7_register 71 = .ok (.goto 4, 3) := by decide +kernel
theorem dX7_register_74 : decode cX7_register 74 = .ok (.iconst (-1), 1) := by decide +kernel
theorem dX7_register_75 : decode cX7_register 75 = .ok (.ireturn, 1) := by decide +kernel
theorem dX7_jammed_0 : decode cX7_jammed 0 = .ok (.aload_n 0, 1) := by decide +kernel
theorem dX7_jammed_1 : decode cX7_jammed 1 = .ok (.getfield 63, 3) := by decide +kernel
theorem dX7_jammed_4 : decode cX7_jammed 4 = .ok (.ireturn, 1) := by decide +kernel
theorem dX7_beam_0 : decode cX7_beam 0 = .ok (.bipush 24, 2) := by decide +kernel
theorem dX7_beam_2 : decode cX7_beam 2 = .ok (.aload_n 0, 1) := by decide +kernel
theorem dX7_beam_3 : decode cX7_beam 3 = .ok (.getfield 85, 3) := by decide +kernel
theorem dX7_beam_6 : decode cX7_beam 6 = .ok (.imul, 1) := by decide +kernel
theorem dX7_beam_7 : decode cX7_beam 7 = .ok (.aload_n 0, 1) := by decide +kernel
theorem dX7_beam_8 : decode cX7_beam 8 = .ok (.getfield 120, 3) := by decide +kernel
theorem dX7_beam_11 : decode cX7_beam 11 = .ok (.iadd, 1) := by decide +kernel
theorem dX7_beam_12 : decode cX7_beam 12 = .ok (.ireturn, 1) := by decide +kernel
theorem dX7_point_0 : decode cX7_point 0 = .ok (.iload_n 1, 1) := by decide +kernel
theorem dX7_point_1 : decode cX7_point 1 = .ok (.bipush 40, 2) := by decide +kernel
theorem dX7_point_3 : decode cX7_point 3 = .ok (.invokestatic 70, 3) := by decide +kernel
theorem dX7_point_6 : decode cX7_point 6 = .ok (.ifCond .eq 26, 3) := by decide +kernel
theorem dX7_point_9 : decode cX7_point 9 = .ok (.iload_n 2, 1) := by decide +kernel
theorem dX7_point_10 : decode cX7_point 10 = .ok (.bipush 64, 2) := by decide +kernel
theorem dX7_point_12 : decode cX7_point 12 = .ok (.invokestatic 70, 3) := by decide +kernel
theorem dX7_point_15 : decode cX7_point 15 = .ok (.ifCond .eq 17, 3) := by decide +kernel
theorem dX7_point_18 : decode cX7_point 18 = .ok (.aload_n 0, 1) := by decide +kernel
theorem dX7_point_19 : decode cX7_point 19 = .ok (.getfield 42, 3) := by decide +kernel
theorem dX7_point_22 : decode cX7_point 22 = .ok (.bipush 64, 2) := by decide +kernel
theorem dX7_point_24 : decode cX7_point 24 = .ok (.iload_n 1, 1) := by decide +kernel
theorem dX7_point_25 : decode cX7_point 25 = .ok (.imul, 1) := by decide +kernel
theorem dX7_point_26 : decode cX7_point 26 = .ok (.iload_n 2, 1) := by decide +kernel
theorem dX7_point_27 : decode cX7_point 27 = .ok (.iadd, 1) := by decide +kernel
theorem dX7_point_28 : decode cX7_point 28 = .ok (.iaload, 1) := by decide +kernel
theorem dX7_point_29 : decode cX7_point 29 = .ok (.goto 4, 3) := by decide +kernel
theorem dX7_point_32 : decode cX7_point 32 = .ok (.iconst (-1), 1) := by decide +kernel
theorem dX7_point_33 : decode cX7_point 33 = .ok (.ireturn, 1) := by decide +kernel
theorem dX7_access_0 : decode cX7_access 0 = .ok (.aload_n 0, 1) := by decide +kernel
theorem dX7_access_1 : decode cX7_access 1 = .ok (.getfield 66, 3) := by decide +kernel
theorem dX7_access_4 : decode cX7_access 4 = .ok (.ireturn, 1) := by decide +kernel
theorem dX7_cycles_0 : decode cX7_cycles 0 = .ok (.aload_n 0, 1) := by decide +kernel
theorem dX7_cycles_1 : decode cX7_cycles 1 = .ok (.getfield 267, 3) := by decide +kernel
theorem dX7_cycles_4 : decode cX7_cycles 4 = .ok (.ireturn, 1) := by decide +kernel
theorem dX7_stolen_0 : decode cX7_stolen 0 = .ok (.aload_n 0, 1) := by decide +kernel
theorem dX7_stolen_1 : decode cX7_stolen 1 = .ok (.getfield 151, 3) := by decide +kernel
theorem dX7_stolen_4 : decode cX7_stolen 4 = .ok (.ireturn, 1) := by decide +kernel
theorem dX7_interrupts_0 : decode cX7_interrupts 0 = .ok (.aload_n 0, 1) := by decide +kernel
theorem dX7_interrupts_1 : decode cX7_interrupts 1 = .ok (.getfield 154, 3) := by decide +kernel
theorem dX7_interrupts_4 : decode cX7_interrupts 4 = .ok (.ireturn, 1) := by decide +kernel
theorem dL_law_0 : decode cL_law 0 = .ok (.new 7, 3) := by decide +kernel
theorem dL_law_3 : decode cL_law 3 = .ok (.dup, 1) := by decide +kernel
theorem dL_law_4 : decode cL_law 4 = .ok (.invokespecial 9, 3) := by decide +kernel
theorem dL_law_7 : decode cL_law 7 = .ok (.astore_n 1, 1) := by decide +kernel
theorem dL_law_8 : decode cL_law 8 = .ok (.new 10, 3) := by decide +kernel
theorem dL_law_11 : decode cL_law 11 = .ok (.dup, 1) := by decide +kernel
theorem dL_law_12 : decode cL_law 12 = .ok (.invokespecial 12, 3) := by decide +kernel
theorem dL_law_15 : decode cL_law 15 = .ok (.astore_n 2, 1) := by decide +kernel
theorem dL_law_16 : decode cL_law 16 = .ok (.iconst 0, 1) := by decide +kernel
theorem dL_law_17 : decode cL_law 17 = .ok (.istore_n 3, 1) := by decide +kernel
theorem dL_law_18 : decode cL_law 18 = .ok (.iload_n 3, 1) := by decide +kernel
theorem dL_law_19 : decode cL_law 19 = .ok (.aload_n 0, 1) := by decide +kernel
theorem dL_law_20 : decode cL_law 20 = .ok (.arraylength, 1) := by decide +kernel
theorem dL_law_21 : decode cL_law 21 = .ok (.iconst 4, 1) := by decide +kernel
theorem dL_law_22 : decode cL_law 22 = .ok (.isub, 1) := by decide +kernel
theorem dL_law_23 : decode cL_law 23 = .ok (.if_icmp .gt 414, 3) := by decide +kernel
theorem dL_law_26 : decode cL_law 26 = .ok (.aload_n 0, 1) := by decide +kernel
theorem dL_law_27 : decode cL_law 27 = .ok (.iload_n 3, 1) := by decide +kernel
theorem dL_law_28 : decode cL_law 28 = .ok (.iaload, 1) := by decide +kernel
theorem dL_law_29 : decode cL_law 29 = .ok (.bipush 15, 2) := by decide +kernel
theorem dL_law_31 : decode cL_law 31 = .ok (.iand, 1) := by decide +kernel
theorem dL_law_32 : decode cL_law 32 = .ok (.tableswitch 399 0 14 #[76, 119, 152, 163, 196, 219, 242, 265, 288, 301, 314, 347, 360, 373, 386], 76) := by decide +kernel
theorem dL_law_108 : decode cL_law 108 = .ok (.aload_n 1, 1) := by decide +kernel
theorem dL_law_109 : decode cL_law 109 = .ok (.aload_n 0, 1) := by decide +kernel
theorem dL_law_110 : decode cL_law 110 = .ok (.iload_n 3, 1) := by decide +kernel
theorem dL_law_111 : decode cL_law 111 = .ok (.iconst 1, 1) := by decide +kernel
theorem dL_law_112 : decode cL_law 112 = .ok (.iadd, 1) := by decide +kernel
theorem dL_law_113 : decode cL_law 113 = .ok (.iaload, 1) := by decide +kernel
theorem dL_law_114 : decode cL_law 114 = .ok (.aload_n 0, 1) := by decide +kernel
theorem dL_law_115 : decode cL_law 115 = .ok (.iload_n 3, 1) := by decide +kernel
theorem dL_law_116 : decode cL_law 116 = .ok (.iconst 2, 1) := by decide +kernel
theorem dL_law_117 : decode cL_law 117 = .ok (.iadd, 1) := by decide +kernel
theorem dL_law_118 : decode cL_law 118 = .ok (.iaload, 1) := by decide +kernel
theorem dL_law_119 : decode cL_law 119 = .ok (.aload_n 0, 1) := by decide +kernel
theorem dL_law_120 : decode cL_law 120 = .ok (.iload_n 3, 1) := by decide +kernel
theorem dL_law_121 : decode cL_law 121 = .ok (.iconst 3, 1) := by decide +kernel
theorem dL_law_122 : decode cL_law 122 = .ok (.iadd, 1) := by decide +kernel
theorem dL_law_123 : decode cL_law 123 = .ok (.iaload, 1) := by decide +kernel
theorem dL_law_124 : decode cL_law 124 = .ok (.invokevirtual 13, 3) := by decide +kernel
theorem dL_law_127 : decode cL_law 127 = .ok (.aload_n 2, 1) := by decide +kernel
theorem dL_law_128 : decode cL_law 128 = .ok (.aload_n 0, 1) := by decide +kernel
theorem dL_law_129 : decode cL_law 129 = .ok (.iload_n 3, 1) := by decide +kernel
theorem dL_law_130 : decode cL_law 130 = .ok (.iconst 1, 1) := by decide +kernel
theorem dL_law_131 : decode cL_law 131 = .ok (.iadd, 1) := by decide +kernel
theorem dL_law_132 : decode cL_law 132 = .ok (.iaload, 1) := by decide +kernel
theorem dL_law_133 : decode cL_law 133 = .ok (.aload_n 0, 1) := by decide +kernel
theorem dL_law_134 : decode cL_law 134 = .ok (.iload_n 3, 1) := by decide +kernel
theorem dL_law_135 : decode cL_law 135 = .ok (.iconst 2, 1) := by decide +kernel
theorem dL_law_136 : decode cL_law 136 = .ok (.iadd, 1) := by decide +kernel
theorem dL_law_137 : decode cL_law 137 = .ok (.iaload, 1) := by decide +kernel
theorem dL_law_138 : decode cL_law 138 = .ok (.aload_n 0, 1) := by decide +kernel
theorem dL_law_139 : decode cL_law 139 = .ok (.iload_n 3, 1) := by decide +kernel
theorem dL_law_140 : decode cL_law 140 = .ok (.iconst 3, 1) := by decide +kernel
theorem dL_law_141 : decode cL_law 141 = .ok (.iadd, 1) := by decide +kernel
theorem dL_law_142 : decode cL_law 142 = .ok (.iaload, 1) := by decide +kernel
theorem dL_law_143 : decode cL_law 143 = .ok (.invokevirtual 17, 3) := by decide +kernel
theorem dL_law_146 : decode cL_law 146 = .ok (.if_icmp .eq 285, 3) := by decide +kernel
theorem dL_law_149 : decode cL_law 149 = .ok (.iconst 0, 1) := by decide +kernel
theorem dL_law_150 : decode cL_law 150 = .ok (.ireturn, 1) := by decide +kernel
theorem dL_law_151 : decode cL_law 151 = .ok (.aload_n 1, 1) := by decide +kernel
theorem dL_law_152 : decode cL_law 152 = .ok (.aload_n 0, 1) := by decide +kernel
theorem dL_law_153 : decode cL_law 153 = .ok (.iload_n 3, 1) := by decide +kernel
theorem dL_law_154 : decode cL_law 154 = .ok (.iconst 1, 1) := by decide +kernel
theorem dL_law_155 : decode cL_law 155 = .ok (.iadd, 1) := by decide +kernel
theorem dL_law_156 : decode cL_law 156 = .ok (.iaload, 1) := by decide +kernel
theorem dL_law_157 : decode cL_law 157 = .ok (.aload_n 0, 1) := by decide +kernel
theorem dL_law_158 : decode cL_law 158 = .ok (.iload_n 3, 1) := by decide +kernel
theorem dL_law_159 : decode cL_law 159 = .ok (.iconst 2, 1) := by decide +kernel
theorem dL_law_160 : decode cL_law 160 = .ok (.iadd, 1) := by decide +kernel
theorem dL_law_161 : decode cL_law 161 = .ok (.iaload, 1) := by decide +kernel
theorem dL_law_162 : decode cL_law 162 = .ok (.invokevirtual 18, 3) := by decide +kernel
theorem dL_law_165 : decode cL_law 165 = .ok (.aload_n 2, 1) := by decide +kernel
theorem dL_law_166 : decode cL_law 166 = .ok (.aload_n 0, 1) := by decide +kernel
theorem dL_law_167 : decode cL_law 167 = .ok (.iload_n 3, 1) := by decide +kernel
theorem dL_law_168 : decode cL_law 168 = .ok (.iconst 1, 1) := by decide +kernel
theorem dL_law_169 : decode cL_law 169 = .ok (.iadd, 1) := by decide +kernel
theorem dL_law_170 : decode cL_law 170 = .ok (.iaload, 1) := by decide +kernel
theorem dL_law_171 : decode cL_law 171 = .ok (.aload_n 0, 1) := by decide +kernel
theorem dL_law_172 : decode cL_law 172 = .ok (.iload_n 3, 1) := by decide +kernel
theorem dL_law_173 : decode cL_law 173 = .ok (.iconst 2, 1) := by decide +kernel
theorem dL_law_174 : decode cL_law 174 = .ok (.iadd, 1) := by decide +kernel
theorem dL_law_175 : decode cL_law 175 = .ok (.iaload, 1) := by decide +kernel
theorem dL_law_176 : decode cL_law 176 = .ok (.invokevirtual 22, 3) := by decide +kernel
theorem dL_law_179 : decode cL_law 179 = .ok (.if_icmp .eq 252, 3) := by decide +kernel
theorem dL_law_182 : decode cL_law 182 = .ok (.iconst 0, 1) := by decide +kernel
theorem dL_law_183 : decode cL_law 183 = .ok (.ireturn, 1) := by decide +kernel
theorem dL_law_184 : decode cL_law 184 = .ok (.aload_n 1, 1) := by decide +kernel
theorem dL_law_185 : decode cL_law 185 = .ok (.invokevirtual 23, 3) := by decide +kernel
theorem dL_law_188 : decode cL_law 188 = .ok (.aload_n 2, 1) := by decide +kernel
theorem dL_law_189 : decode cL_law 189 = .ok (.invokevirtual 26, 3) := by decide +kernel
theorem dL_law_192 : decode cL_law 192 = .ok (.goto 239, 3) := by decide +kernel
theorem dL_law_195 : decode cL_law 195 = .ok (.aload_n 1, 1) := by decide +kernel
theorem dL_law_196 : decode cL_law 196 = .ok (.aload_n 0, 1) := by decide +kernel
theorem dL_law_197 : decode cL_law 197 = .ok (.iload_n 3, 1) := by decide +kernel
theorem dL_law_198 : decode cL_law 198 = .ok (.iconst 1, 1) := by decide +kernel
theorem dL_law_199 : decode cL_law 199 = .ok (.iadd, 1) := by decide +kernel
theorem dL_law_200 : decode cL_law 200 = .ok (.iaload, 1) := by decide +kernel
theorem dL_law_201 : decode cL_law 201 = .ok (.aload_n 0, 1) := by decide +kernel
theorem dL_law_202 : decode cL_law 202 = .ok (.iload_n 3, 1) := by decide +kernel
theorem dL_law_203 : decode cL_law 203 = .ok (.iconst 2, 1) := by decide +kernel
theorem dL_law_204 : decode cL_law 204 = .ok (.iadd, 1) := by decide +kernel
theorem dL_law_205 : decode cL_law 205 = .ok (.iaload, 1) := by decide +kernel
theorem dL_law_206 : decode cL_law 206 = .ok (.invokevirtual 27, 3) := by decide +kernel
theorem dL_law_209 : decode cL_law 209 = .ok (.aload_n 2, 1) := by decide +kernel
theorem dL_law_210 : decode cL_law 210 = .ok (.aload_n 0, 1) := by decide +kernel
theorem dL_law_211 : decode cL_law 211 = .ok (.iload_n 3, 1) := by decide +kernel
theorem dL_law_212 : decode cL_law 212 = .ok (.iconst 1, 1) := by decide +kernel
theorem dL_law_213 : decode cL_law 213 = .ok (.iadd, 1) := by decide +kernel
theorem dL_law_214 : decode cL_law 214 = .ok (.iaload, 1) := by decide +kernel
theorem dL_law_215 : decode cL_law 215 = .ok (.aload_n 0, 1) := by decide +kernel
theorem dL_law_216 : decode cL_law 216 = .ok (.iload_n 3, 1) := by decide +kernel
theorem dL_law_217 : decode cL_law 217 = .ok (.iconst 2, 1) := by decide +kernel
theorem dL_law_218 : decode cL_law 218 = .ok (.iadd, 1) := by decide +kernel
theorem dL_law_219 : decode cL_law 219 = .ok (.iaload, 1) := by decide +kernel
theorem dL_law_220 : decode cL_law 220 = .ok (.invokevirtual 30, 3) := by decide +kernel
theorem dL_law_223 : decode cL_law 223 = .ok (.if_icmp .eq 208, 3) := by decide +kernel
theorem dL_law_226 : decode cL_law 226 = .ok (.iconst 0, 1) := by decide +kernel
theorem dL_law_227 : decode cL_law 227 = .ok (.ireturn, 1) := by decide +kernel
theorem dL_law_228 : decode cL_law 228 = .ok (.aload_n 1, 1) := by decide +kernel
theorem dL_law_229 : decode cL_law 229 = .ok (.aload_n 0, 1) := by decide +kernel
theorem dL_law_230 : decode cL_law 230 = .ok (.iload_n 3, 1) := by decide +kernel
theorem dL_law_231 : decode cL_law 231 = .ok (.iconst 1, 1) := by decide +kernel
theorem dL_law_232 : decode cL_law 232 = .ok (.iadd, 1) := by decide +kernel
theorem dL_law_233 : decode cL_law 233 = .ok (.iaload, 1) := by decide +kernel
theorem dL_law_234 : decode cL_law 234 = .ok (.invokevirtual 31, 3) := by decide +kernel
theorem dL_law_237 : decode cL_law 237 = .ok (.aload_n 2, 1) := by decide +kernel
theorem dL_law_238 : decode cL_law 238 = .ok (.aload_n 0, 1) := by decide +kernel
theorem dL_law_239 : decode cL_law 239 = .ok (.iload_n 3, 1) := by decide +kernel
theorem dL_law_240 : decode cL_law 240 = .ok (.iconst 1, 1) := by decide +kernel
theorem dL_law_241 : decode cL_law 241 = .ok (.iadd, 1) := by decide +kernel
theorem dL_law_242 : decode cL_law 242 = .ok (.iaload, 1) := by decide +kernel
theorem dL_law_243 : decode cL_law 243 = .ok (.invokevirtual 35, 3) := by decide +kernel
theorem dL_law_246 : decode cL_law 246 = .ok (.if_icmp .eq 185, 3) := by decide +kernel
theorem dL_law_249 : decode cL_law 249 = .ok (.iconst 0, 1) := by decide +kernel
theorem dL_law_250 : decode cL_law 250 = .ok (.ireturn, 1) := by decide +kernel
theorem dL_law_251 : decode cL_law 251 = .ok (.aload_n 1, 1) := by decide +kernel
theorem dL_law_252 : decode cL_law 252 = .ok (.aload_n 0, 1) := by decide +kernel
theorem dL_law_253 : decode cL_law 253 = .ok (.iload_n 3, 1) := by decide +kernel
theorem dL_law_254 : decode cL_law 254 = .ok (.iconst 1, 1) := by decide +kernel
theorem dL_law_255 : decode cL_law 255 = .ok (.iadd, 1) := by decide +kernel
theorem dL_law_256 : decode cL_law 256 = .ok (.iaload, 1) := by decide +kernel
theorem dL_law_257 : decode cL_law 257 = .ok (.invokevirtual 36, 3) := by decide +kernel
theorem dL_law_260 : decode cL_law 260 = .ok (.aload_n 2, 1) := by decide +kernel
theorem dL_law_261 : decode cL_law 261 = .ok (.aload_n 0, 1) := by decide +kernel
theorem dL_law_262 : decode cL_law 262 = .ok (.iload_n 3, 1) := by decide +kernel
theorem dL_law_263 : decode cL_law 263 = .ok (.iconst 1, 1) := by decide +kernel
theorem dL_law_264 : decode cL_law 264 = .ok (.iadd, 1) := by decide +kernel
theorem dL_law_265 : decode cL_law 265 = .ok (.iaload, 1) := by decide +kernel
theorem dL_law_266 : decode cL_law 266 = .ok (.invokevirtual 39, 3) := by decide +kernel
theorem dL_law_269 : decode cL_law 269 = .ok (.if_icmp .eq 162, 3) := by decide +kernel
theorem dL_law_272 : decode cL_law 272 = .ok (.iconst 0, 1) := by decide +kernel
theorem dL_law_273 : decode cL_law 273 = .ok (.ireturn, 1) := by decide +kernel
theorem dL_law_274 : decode cL_law 274 = .ok (.aload_n 1, 1) := by decide +kernel
theorem dL_law_275 : decode cL_law 275 = .ok (.aload_n 0, 1) := by decide +kernel
theorem dL_law_276 : decode cL_law 276 = .ok (.iload_n 3, 1) := by decide +kernel
theorem dL_law_277 : decode cL_law 277 = .ok (.iconst 1, 1) := by decide +kernel
theorem dL_law_278 : decode cL_law 278 = .ok (.iadd, 1) := by decide +kernel
theorem dL_law_279 : decode cL_law 279 = .ok (.iaload, 1) := by decide +kernel
theorem dL_law_280 : decode cL_law 280 = .ok (.invokevirtual 40, 3) := by decide +kernel
theorem dL_law_283 : decode cL_law 283 = .ok (.aload_n 2, 1) := by decide +kernel
theorem dL_law_284 : decode cL_law 284 = .ok (.aload_n 0, 1) := by decide +kernel
theorem dL_law_285 : decode cL_law 285 = .ok (.iload_n 3, 1) := by decide +kernel
theorem dL_law_286 : decode cL_law 286 = .ok (.iconst 1, 1) := by decide +kernel
theorem dL_law_287 : decode cL_law 287 = .ok (.iadd, 1) := by decide +kernel
theorem dL_law_288 : decode cL_law 288 = .ok (.iaload, 1) := by decide +kernel
theorem dL_law_289 : decode cL_law 289 = .ok (.invokevirtual 43, 3) := by decide +kernel
theorem dL_law_292 : decode cL_law 292 = .ok (.if_icmp .eq 139, 3) := by decide +kernel
theorem dL_law_295 : decode cL_law 295 = .ok (.iconst 0, 1) := by decide +kernel
theorem dL_law_296 : decode cL_law 296 = .ok (.ireturn, 1) := by decide +kernel
theorem dL_law_297 : decode cL_law 297 = .ok (.aload_n 1, 1) := by decide +kernel
theorem dL_law_298 : decode cL_law 298 = .ok (.aload_n 0, 1) := by decide +kernel
theorem dL_law_299 : decode cL_law 299 = .ok (.iload_n 3, 1) := by decide +kernel
theorem dL_law_300 : decode cL_law 300 = .ok (.iconst 1, 1) := by decide +kernel
theorem dL_law_301 : decode cL_law 301 = .ok (.iadd, 1) := by decide +kernel
theorem dL_law_302 : decode cL_law 302 = .ok (.iaload, 1) := by decide +kernel
theorem dL_law_303 : decode cL_law 303 = .ok (.invokevirtual 44, 3) := by decide +kernel
theorem dL_law_306 : decode cL_law 306 = .ok (.aload_n 2, 1) := by decide +kernel
theorem dL_law_307 : decode cL_law 307 = .ok (.aload_n 0, 1) := by decide +kernel
theorem dL_law_308 : decode cL_law 308 = .ok (.iload_n 3, 1) := by decide +kernel
theorem dL_law_309 : decode cL_law 309 = .ok (.iconst 1, 1) := by decide +kernel
theorem dL_law_310 : decode cL_law 310 = .ok (.iadd, 1) := by decide +kernel
theorem dL_law_311 : decode cL_law 311 = .ok (.iaload, 1) := by decide +kernel
theorem dL_law_312 : decode cL_law 312 = .ok (.invokevirtual 47, 3) := by decide +kernel
theorem dL_law_315 : decode cL_law 315 = .ok (.if_icmp .eq 116, 3) := by decide +kernel
theorem dL_law_318 : decode cL_law 318 = .ok (.iconst 0, 1) := by decide +kernel
theorem dL_law_319 : decode cL_law 319 = .ok (.ireturn, 1) := by decide +kernel
theorem dL_law_320 : decode cL_law 320 = .ok (.aload_n 1, 1) := by decide +kernel
theorem dL_law_321 : decode cL_law 321 = .ok (.invokevirtual 48, 3) := by decide +kernel
theorem dL_law_324 : decode cL_law 324 = .ok (.aload_n 2, 1) := by decide +kernel
theorem dL_law_325 : decode cL_law 325 = .ok (.invokevirtual 52, 3) := by decide +kernel
theorem dL_law_328 : decode cL_law 328 = .ok (.if_icmp .eq 103, 3) := by decide +kernel
theorem dL_law_331 : decode cL_law 331 = .ok (.iconst 0, 1) := by decide +kernel
theorem dL_law_332 : decode cL_law 332 = .ok (.ireturn, 1) := by decide +kernel
theorem dL_law_333 : decode cL_law 333 = .ok (.aload_n 1, 1) := by decide +kernel
theorem dL_law_334 : decode cL_law 334 = .ok (.invokevirtual 53, 3) := by decide +kernel
theorem dL_law_337 : decode cL_law 337 = .ok (.aload_n 2, 1) := by decide +kernel
theorem dL_law_338 : decode cL_law 338 = .ok (.invokevirtual 57, 3) := by decide +kernel
theorem dL_law_341 : decode cL_law 341 = .ok (.if_icmp .eq 90, 3) := by decide +kernel
theorem dL_law_344 : decode cL_law 344 = .ok (.iconst 0, 1) := by decide +kernel
theorem dL_law_345 : decode cL_law 345 = .ok (.ireturn, 1) := by decide +kernel
theorem dL_law_346 : decode cL_law 346 = .ok (.aload_n 1, 1) := by decide +kernel
theorem dL_law_347 : decode cL_law 347 = .ok (.aload_n 0, 1) := by decide +kernel
theorem dL_law_348 : decode cL_law 348 = .ok (.iload_n 3, 1) := by decide +kernel
theorem dL_law_349 : decode cL_law 349 = .ok (.iconst 1, 1) := by decide +kernel
theorem dL_law_350 : decode cL_law 350 = .ok (.iadd, 1) := by decide +kernel
theorem dL_law_351 : decode cL_law 351 = .ok (.iaload, 1) := by decide +kernel
theorem dL_law_352 : decode cL_law 352 = .ok (.aload_n 0, 1) := by decide +kernel
theorem dL_law_353 : decode cL_law 353 = .ok (.iload_n 3, 1) := by decide +kernel
theorem dL_law_354 : decode cL_law 354 = .ok (.iconst 2, 1) := by decide +kernel
theorem dL_law_355 : decode cL_law 355 = .ok (.iadd, 1) := by decide +kernel
theorem dL_law_356 : decode cL_law 356 = .ok (.iaload, 1) := by decide +kernel
theorem dL_law_357 : decode cL_law 357 = .ok (.invokevirtual 58, 3) := by decide +kernel
theorem dL_law_360 : decode cL_law 360 = .ok (.aload_n 2, 1) := by decide +kernel
theorem dL_law_361 : decode cL_law 361 = .ok (.aload_n 0, 1) := by decide +kernel
theorem dL_law_362 : decode cL_law 362 = .ok (.iload_n 3, 1) := by decide +kernel
theorem dL_law_363 : decode cL_law 363 = .ok (.iconst 1, 1) := by decide +kernel
theorem dL_law_364 : decode cL_law 364 = .ok (.iadd, 1) := by decide +kernel
theorem dL_law_365 : decode cL_law 365 = .ok (.iaload, 1) := by decide +kernel
theorem dL_law_366 : decode cL_law 366 = .ok (.aload_n 0, 1) := by decide +kernel
theorem dL_law_367 : decode cL_law 367 = .ok (.iload_n 3, 1) := by decide +kernel
theorem dL_law_368 : decode cL_law 368 = .ok (.iconst 2, 1) := by decide +kernel
theorem dL_law_369 : decode cL_law 369 = .ok (.iadd, 1) := by decide +kernel
theorem dL_law_370 : decode cL_law 370 = .ok (.iaload, 1) := by decide +kernel
theorem dL_law_371 : decode cL_law 371 = .ok (.invokevirtual 62, 3) := by decide +kernel
theorem dL_law_374 : decode cL_law 374 = .ok (.if_icmp .eq 57, 3) := by decide +kernel
theorem dL_law_377 : decode cL_law 377 = .ok (.iconst 0, 1) := by decide +kernel
theorem dL_law_378 : decode cL_law 378 = .ok (.ireturn, 1) := by decide +kernel
theorem dL_law_379 : decode cL_law 379 = .ok (.aload_n 1, 1) := by decide +kernel
theorem dL_law_380 : decode cL_law 380 = .ok (.invokevirtual 63, 3) := by decide +kernel
theorem dL_law_383 : decode cL_law 383 = .ok (.aload_n 2, 1) := by decide +kernel
theorem dL_law_384 : decode cL_law 384 = .ok (.invokevirtual 66, 3) := by decide +kernel
theorem dL_law_387 : decode cL_law 387 = .ok (.if_icmp .eq 44, 3) := by decide +kernel
theorem dL_law_390 : decode cL_law 390 = .ok (.iconst 0, 1) := by decide +kernel
theorem dL_law_391 : decode cL_law 391 = .ok (.ireturn, 1) := by decide +kernel
theorem dL_law_392 : decode cL_law 392 = .ok (.aload_n 1, 1) := by decide +kernel
theorem dL_law_393 : decode cL_law 393 = .ok (.invokevirtual 67, 3) := by decide +kernel
theorem dL_law_396 : decode cL_law 396 = .ok (.aload_n 2, 1) := by decide +kernel
theorem dL_law_397 : decode cL_law 397 = .ok (.invokevirtual 70, 3) := by decide +kernel
theorem dL_law_400 : decode cL_law 400 = .ok (.if_icmp .eq 31, 3) := by decide +kernel
theorem dL_law_403 : decode cL_law 403 = .ok (.iconst 0, 1) := by decide +kernel
theorem dL_law_404 : decode cL_law 404 = .ok (.ireturn, 1) := by decide +kernel
theorem dL_law_405 : decode cL_law 405 = .ok (.aload_n 1, 1) := by decide +kernel
theorem dL_law_406 : decode cL_law 406 = .ok (.invokevirtual 71, 3) := by decide +kernel
theorem dL_law_409 : decode cL_law 409 = .ok (.aload_n 2, 1) := by decide +kernel
theorem dL_law_410 : decode cL_law 410 = .ok (.invokevirtual 74, 3) := by decide +kernel
theorem dL_law_413 : decode cL_law 413 = .ok (.if_icmp .eq 18, 3) := by decide +kernel
theorem dL_law_416 : decode cL_law 416 = .ok (.iconst 0, 1) := by decide +kernel
theorem dL_law_417 : decode cL_law 417 = .ok (.ireturn, 1) := by decide +kernel
theorem dL_law_418 : decode cL_law 418 = .ok (.aload_n 1, 1) := by decide +kernel
theorem dL_law_419 : decode cL_law 419 = .ok (.invokevirtual 75, 3) := by decide +kernel
theorem dL_law_422 : decode cL_law 422 = .ok (.aload_n 2, 1) := by decide +kernel
theorem dL_law_423 : decode cL_law 423 = .ok (.invokevirtual 78, 3) := by decide +kernel
theorem dL_law_426 : decode cL_law 426 = .ok (.if_icmp .eq 5, 3) := by decide +kernel
theorem dL_law_429 : decode cL_law 429 = .ok (.iconst 0, 1) := by decide +kernel
theorem dL_law_430 : decode cL_law 430 = .ok (.ireturn, 1) := by decide +kernel
theorem dL_law_431 : decode cL_law 431 = .ok (.iinc 3 4, 3) := by decide +kernel
theorem dL_law_434 : decode cL_law 434 = .ok (.goto (-416), 3) := by decide +kernel
theorem dL_law_437 : decode cL_law 437 = .ok (.iconst 1, 1) := by decide +kernel
theorem dL_law_438 : decode cL_law 438 = .ok (.ireturn, 1) := by decide +kernel
