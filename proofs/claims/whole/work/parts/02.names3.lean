theorem dX3_makeAccess_0 : decode cX3_makeAccess 0 = .ok (.aload_n 0, 1) := by decide +kernel
theorem dX3_makeAccess_1 : decode cX3_makeAccess 1 = .ok (.getfield 18, 3) := by decide +kernel
theorem dX3_makeAccess_4 : decode cX3_makeAccess 4 = .ok (.ifCond .eq 5, 3) := by decide +kernel
theorem dX3_makeAccess_7 : decode cX3_makeAccess 7 = .ok (.iconst 0, 1) := by decide +kernel
theorem dX3_makeAccess_8 : decode cX3_makeAccess 8 = .ok (.ireturn, 1) := by decide +kernel
theorem dX3_makeAccess_9 : decode cX3_makeAccess 9 = .ok (.iload_n 1, 1) := by decide +kernel
theorem dX3_makeAccess_10 : decode cX3_makeAccess 10 = .ok (.ifCond .eq 22, 3) := by decide +kernel
theorem dX3_makeAccess_13 : decode cX3_makeAccess 13 = .ok (.aload_n 0, 1) := by decide +kernel
theorem dX3_makeAccess_14 : decode cX3_makeAccess 14 = .ok (.invokevirtual 64, 3) := by decide +kernel
theorem dX3_makeAccess_17 : decode cX3_makeAccess 17 = .ok (.ifCond .ne 15, 3) := by decide +kernel
theorem dX3_makeAccess_20 : decode cX3_makeAccess 20 = .ok (.aload_n 0, 1) := by decide +kernel
theorem dX3_makeAccess_21 : decode cX3_makeAccess 21 = .ok (.dup, 1) := by decide +kernel
theorem dX3_makeAccess_22 : decode cX3_makeAccess 22 = .ok (.getfield 52, 3) := by decide +kernel
theorem dX3_makeAccess_25 : decode cX3_makeAccess 25 = .ok (.iconst 1, 1) := by decide +kernel
theorem dX3_makeAccess_26 : decode cX3_makeAccess 26 = .ok (.iadd, 1) := by decide +kernel
theorem dX3_makeAccess_27 : decode cX3_makeAccess 27 = .ok (.putfield 52, 3) := by decide +kernel
theorem dX3_makeAccess_30 : decode cX3_makeAccess 30 = .ok (.iconst 0, 1) := by decide +kernel
theorem dX3_makeAccess_31 : decode cX3_makeAccess 31 = .ok (.ireturn, 1) := by decide +kernel
theorem dX3_makeAccess_32 : decode cX3_makeAccess 32 = .ok (.aload_n 0, 1) := by decide +kernel
theorem dX3_makeAccess_33 : decode cX3_makeAccess 33 = .ok (.dup, 1) := by decide +kernel
theorem dX3_makeAccess_34 : decode cX3_makeAccess 34 = .ok (.getfield 68, 3) := by decide +kernel
theorem dX3_makeAccess_37 : decode cX3_makeAccess 37 = .ok (.iconst 1, 1) := by decide +kernel
theorem dX3_makeAccess_38 : decode cX3_makeAccess 38 = .ok (.iadd, 1) := by decide +kernel
theorem dX3_makeAccess_39 : decode cX3_makeAccess 39 = .ok (.putfield 68, 3) := by decide +kernel
theorem dX3_makeAccess_42 : decode cX3_makeAccess 42 = .ok (.aload_n 0, 1) := by decide +kernel
theorem dX3_makeAccess_43 : decode cX3_makeAccess 43 = .ok (.getfield 22, 3) := by decide +kernel
theorem dX3_makeAccess_46 : decode cX3_makeAccess 46 = .ok (.tableswitch 183 0 15 #[78, 183, 85, 92, 99, 106, 113, 120, 127, 134, 141, 148, 155, 162, 169, 176], 78) := by decide +kernel
theorem dX3_makeAccess_124 : decode cX3_makeAccess 124 = .ok (.aload_n 0, 1) := by decide +kernel
theorem dX3_makeAccess_125 : decode cX3_makeAccess 125 = .ok (.invokevirtual 71, 3) := by decide +kernel
theorem dX3_makeAccess_128 : decode cX3_makeAccess 128 = .ok (.goto 101, 3) := by decide +kernel
theorem dX3_makeAccess_131 : decode cX3_makeAccess 131 = .ok (.aload_n 0, 1) := by decide +kernel
theorem dX3_makeAccess_132 : decode cX3_makeAccess 132 = .ok (.invokevirtual 74, 3) := by decide +kernel
theorem dX3_makeAccess_135 : decode cX3_makeAccess 135 = .ok (.goto 94, 3) := by decide +kernel
theorem dX3_makeAccess_138 : decode cX3_makeAccess 138 = .ok (.aload_n 0, 1) := by decide +kernel
theorem dX3_makeAccess_139 : decode cX3_makeAccess 139 = .ok (.invokevirtual 77, 3) := by decide +kernel
theorem dX3_makeAccess_142 : decode cX3_makeAccess 142 = .ok (.goto 87, 3) := by decide +kernel
theorem dX3_makeAccess_145 : decode cX3_makeAccess 145 = .ok (.aload_n 0, 1) := by decide +kernel
theorem dX3_makeAccess_146 : decode cX3_makeAccess 146 = .ok (.invokevirtual 80, 3) := by decide +kernel
theorem dX3_makeAccess_149 : decode cX3_makeAccess 149 = .ok (.goto 80, 3) := by decide +kernel
theorem dX3_makeAccess_152 : decode cX3_makeAccess 152 = .ok (.aload_n 0, 1) := by decide +kernel
theorem dX3_makeAccess_153 : decode cX3_makeAccess 153 = .ok (.invokevirtual 83, 3) := by decide +kernel
theorem dX3_makeAccess_156 : decode cX3_makeAccess 156 = .ok (.goto 73, 3) := by decide +kernel
theorem dX3_makeAccess_159 : decode cX3_makeAccess 159 = .ok (.aload_n 0, 1) := by decide +kernel
theorem dX3_makeAccess_160 : decode cX3_makeAccess 160 = .ok (.invokevirtual 86, 3) := by decide +kernel
theorem dX3_makeAccess_163 : decode cX3_makeAccess 163 = .ok (.goto 66, 3) := by decide +kernel
theorem dX3_makeAccess_166 : decode cX3_makeAccess 166 = .ok (.aload_n 0, 1) := by decide +kernel
theorem dX3_makeAccess_167 : decode cX3_makeAccess 167 = .ok (.invokevirtual 89, 3) := by decide +kernel
theorem dX3_makeAccess_170 : decode cX3_makeAccess 170 = .ok (.goto 59, 3) := by decide +kernel
theorem dX3_makeAccess_173 : decode cX3_makeAccess 173 = .ok (.aload_n 0, 1) := by decide +kernel
theorem dX3_makeAccess_174 : decode cX3_makeAccess 174 = .ok (.invokevirtual 92, 3) := by decide +kernel
theorem dX3_makeAccess_177 : decode cX3_makeAccess 177 = .ok (.goto 52, 3) := by decide +kernel
theorem dX3_makeAccess_180 : decode cX3_makeAccess 180 = .ok (.aload_n 0, 1) := by decide +kernel
theorem dX3_makeAccess_181 : decode cX3_makeAccess 181 = .ok (.invokevirtual 95, 3) := by decide +kernel
theorem dX3_makeAccess_184 : decode cX3_makeAccess 184 = .ok (.goto 45, 3) := by decide +kernel
theorem dX3_makeAccess_187 : decode cX3_makeAccess 187 = .ok (.aload_n 0, 1) := by decide +kernel
theorem dX3_makeAccess_188 : decode cX3_makeAccess 188 = .ok (.invokevirtual 98, 3) := by decide +kernel
theorem dX3_makeAccess_191 : decode cX3_makeAccess 191 = .ok (.goto 38, 3) := by decide +kernel
theorem dX3_makeAccess_194 : decode cX3_makeAccess 194 = .ok (.aload_n 0, 1) := by decide +kernel
theorem dX3_makeAccess_195 : decode cX3_makeAccess 195 = .ok (.invokevirtual 101, 3) := by decide +kernel
theorem dX3_makeAccess_198 : decode cX3_makeAccess 198 = .ok (.goto 31, 3) := by decide +kernel
theorem dX3_makeAccess_201 : decode cX3_makeAccess 201 = .ok (.aload_n 0, 1) := by decide +kernel
theorem dX3_makeAccess_202 : decode cX3_makeAccess 202 = .ok (.invokevirtual 104, 3) := by decide +kernel
theorem dX3_makeAccess_205 : decode cX3_makeAccess 205 = .ok (.goto 24, 3) := by decide +kernel
theorem dX3_makeAccess_208 : decode cX3_makeAccess 208 = .ok (.aload_n 0, 1) := by decide +kernel
theorem dX3_makeAccess_209 : decode cX3_makeAccess 209 = .ok (.invokevirtual 107, 3) := by decide +kernel
theorem dX3_makeAccess_212 : decode cX3_makeAccess 212 = .ok (.goto 17, 3) := by decide +kernel
theorem dX3_makeAccess_215 : decode cX3_makeAccess 215 = .ok (.aload_n 0, 1) := by decide +kernel
theorem dX3_makeAccess_216 : decode cX3_makeAccess 216 = .ok (.invokevirtual 110, 3) := by decide +kernel
theorem dX3_makeAccess_219 : decode cX3_makeAccess 219 = .ok (.goto 10, 3) := by decide +kernel
theorem dX3_makeAccess_222 : decode cX3_makeAccess 222 = .ok (.aload_n 0, 1) := by decide +kernel
theorem dX3_makeAccess_223 : decode cX3_makeAccess 223 = .ok (.invokevirtual 113, 3) := by decide +kernel
theorem dX3_makeAccess_226 : decode cX3_makeAccess 226 = .ok (.goto 3, 3) := by decide +kernel
theorem dX3_makeAccess_229 : decode cX3_makeAccess 229 = .ok (.iconst 1, 1) := by decide +kernel
theorem dX3_makeAccess_230 : decode cX3_makeAccess 230 = .ok (.ireturn, 1) := by decide +kernel
set_option maxRecDepth 20000 in
theorem ggX3_writesNext_X3_stores : GoodIn wsX3_writesNext wsX3_stores := goodIn_r _ [7, 8, 9, 10, 11, 12, 13, 14, 15, 16, 17, 18, 19, 20, 21, 22] (by decide +kernel) (by decide +kernel)
set_option maxRecDepth 20000 in
theorem gX3_writesNext_X3_stores : GoodIn wsX3_writesNext (wsV RX3 116 RX3 yX3_stores wsX3_stores) := goodIn_app (goodIn_of _ (by decide +kernel)) ggX3_writesNext_X3_stores
theorem dX3_writesNext_0 : decode cX3_writesNext 0 = .ok (.aload_n 0, 1) := by decide +kernel
theorem dX3_writesNext_1 : decode cX3_writesNext 1 = .ok (.getfield 68, 3) := by decide +kernel
theorem dX3_writesNext_4 : decode cX3_writesNext 4 = .ok (.iconst 1, 1) := by decide +kernel
theorem dX3_writesNext_5 : decode cX3_writesNext 5 = .ok (.iadd, 1) := by decide +kernel
theorem dX3_writesNext_6 : decode cX3_writesNext 6 = .ok (.istore_n 1, 1) := by decide +kernel
theorem dX3_writesNext_7 : decode cX3_writesNext 7 = .ok (.aload_n 0, 1) := by decide +kernel
theorem dX3_writesNext_8 : decode cX3_writesNext 8 = .ok (.getfield 22, 3) := by decide +kernel
theorem dX3_writesNext_11 : decode cX3_writesNext 11 = .ok (.tableswitch 173 2 14 #[65, 173, 173, 81, 99, 117, 135, 173, 173, 146, 173, 173, 162], 65) := by decide +kernel
theorem dX3_writesNext_76 : decode cX3_writesNext 76 = .ok (.iload_n 1, 1) := by decide +kernel
theorem dX3_writesNext_77 : decode cX3_writesNext 77 = .ok (.iconst 3, 1) := by decide +kernel
theorem dX3_writesNext_78 : decode cX3_writesNext 78 = .ok (.if_icmp .lt 12, 3) := by decide +kernel
theorem dX3_writesNext_81 : decode cX3_writesNext 81 = .ok (.iload_n 1, 1) := by decide +kernel
theorem dX3_writesNext_82 : decode cX3_writesNext 82 = .ok (.iconst 5, 1) := by decide +kernel
theorem dX3_writesNext_83 : decode cX3_writesNext 83 = .ok (.if_icmp .gt 7, 3) := by decide +kernel
theorem dX3_writesNext_86 : decode cX3_writesNext 86 = .ok (.iconst 1, 1) := by decide +kernel
theorem dX3_writesNext_87 : decode cX3_writesNext 87 = .ok (.goto 4, 3) := by decide +kernel
theorem dX3_writesNext_90 : decode cX3_writesNext 90 = .ok (.iconst 0, 1) := by decide +kernel
theorem dX3_writesNext_91 : decode cX3_writesNext 91 = .ok (.ireturn, 1) := by decide +kernel
theorem dX3_writesNext_92 : decode cX3_writesNext 92 = .ok (.aload_n 0, 1) := by decide +kernel
theorem dX3_writesNext_93 : decode cX3_writesNext 93 = .ok (.invokevirtual 116, 3) := by decide +kernel
theorem dX3_writesNext_96 : decode cX3_writesNext 96 = .ok (.ifCond .eq 12, 3) := by decide +kernel
theorem dX3_writesNext_99 : decode cX3_writesNext 99 = .ok (.iload_n 1, 1) := by decide +kernel
theorem dX3_writesNext_100 : decode cX3_writesNext 100 = .ok (.iconst 3, 1) := by decide +kernel
theorem dX3_writesNext_101 : decode cX3_writesNext 101 = .ok (.if_icmp .ne 7, 3) := by decide +kernel
theorem dX3_writesNext_104 : decode cX3_writesNext 104 = .ok (.iconst 1, 1) := by decide +kernel
theorem dX3_writesNext_105 : decode cX3_writesNext 105 = .ok (.goto 4, 3) := by decide +kernel
theorem dX3_writesNext_108 : decode cX3_writesNext 108 = .ok (.iconst 0, 1) := by decide +kernel
theorem dX3_writesNext_109 : decode cX3_writesNext 109 = .ok (.ireturn, 1) := by decide +kernel
theorem dX3_writesNext_110 : decode cX3_writesNext 110 = .ok (.aload_n 0, 1) := by decide +kernel
theorem dX3_writesNext_111 : decode cX3_writesNext 111 = .ok (.invokevirtual 116, 3) := by decide +kernel
theorem dX3_writesNext_114 : decode cX3_writesNext 114 = .ok (.ifCond .eq 12, 3) := by decide +kernel
theorem dX3_writesNext_117 : decode cX3_writesNext 117 = .ok (.iload_n 1, 1) := by decide +kernel
theorem dX3_writesNext_118 : decode cX3_writesNext 118 = .ok (.iconst 4, 1) := by decide +kernel
theorem dX3_writesNext_119 : decode cX3_writesNext 119 = .ok (.if_icmp .ne 7, 3) := by decide +kernel
theorem dX3_writesNext_122 : decode cX3_writesNext 122 = .ok (.iconst 1, 1) := by decide +kernel
theorem dX3_writesNext_123 : decode cX3_writesNext 123 = .ok (.goto 4, 3) := by decide +kernel
theorem dX3_writesNext_126 : decode cX3_writesNext 126 = .ok (.iconst 0, 1) := by decide +kernel
theorem dX3_writesNext_127 : decode cX3_writesNext 127 = .ok (.ireturn, 1) := by decide +kernel
theorem dX3_writesNext_128 : decode cX3_writesNext 128 = .ok (.aload_n 0, 1) := by decide +kernel
theorem dX3_writesNext_129 : decode cX3_writesNext 129 = .ok (.invokevirtual 116, 3) := by decide +kernel
theorem dX3_writesNext_132 : decode cX3_writesNext 132 = .ok (.ifCond .eq 12, 3) := by decide +kernel
theorem dX3_writesNext_135 : decode cX3_writesNext 135 = .ok (.iload_n 1, 1) := by decide +kernel
theorem dX3_writesNext_136 : decode cX3_writesNext 136 = .ok (.iconst 5, 1) := by decide +kernel
theorem dX3_writesNext_137 : decode cX3_writesNext 137 = .ok (.if_icmp .ne 7, 3) := by decide +kernel
theorem dX3_writesNext_140 : decode cX3_writesNext 140 = .ok (.iconst 1, 1) := by decide +kernel
theorem dX3_writesNext_141 : decode cX3_writesNext 141 = .ok (.goto 4, 3) := by decide +kernel
theorem dX3_writesNext_144 : decode cX3_writesNext 144 = .ok (.iconst 0, 1) := by decide +kernel
theorem dX3_writesNext_145 : decode cX3_writesNext 145 = .ok (.ireturn, 1) := by decide +kernel
theorem dX3_writesNext_146 : decode cX3_writesNext 146 = .ok (.iload_n 1, 1) := by decide +kernel
theorem dX3_writesNext_147 : decode cX3_writesNext 147 = .ok (.iconst 4, 1) := by decide +kernel
theorem dX3_writesNext_148 : decode cX3_writesNext 148 = .ok (.if_icmp .lt 7, 3) := by decide +kernel
theorem dX3_writesNext_151 : decode cX3_writesNext 151 = .ok (.iconst 1, 1) := by decide +kernel
theorem dX3_writesNext_152 : decode cX3_writesNext 152 = .ok (.goto 4, 3) := by decide +kernel
theorem dX3_writesNext_155 : decode cX3_writesNext 155 = .ok (.iconst 0, 1) := by decide +kernel
theorem dX3_writesNext_156 : decode cX3_writesNext 156 = .ok (.ireturn, 1) := by decide +kernel
theorem dX3_writesNext_157 : decode cX3_writesNext 157 = .ok (.iload_n 1, 1) := by decide +kernel
theorem dX3_writesNext_158 : decode cX3_writesNext 158 = .ok (.iconst 4, 1) := by decide +kernel
theorem dX3_writesNext_159 : decode cX3_writesNext 159 = .ok (.if_icmp .eq 8, 3) := by decide +kernel
theorem dX3_writesNext_162 : decode cX3_writesNext 162 = .ok (.iload_n 1, 1) := by decide +kernel
theorem dX3_writesNext_163 : decode cX3_writesNext 163 = .ok (.iconst 5, 1) := by decide +kernel
theorem dX3_writesNext_164 : decode cX3_writesNext 164 = .ok (.if_icmp .ne 7, 3) := by decide +kernel
theorem dX3_writesNext_167 : decode cX3_writesNext 167 = .ok (.iconst 1, 1) := by decide +kernel
theorem dX3_writesNext_168 : decode cX3_writesNext 168 = .ok (.goto 4, 3) := by decide +kernel
theorem dX3_writesNext_171 : decode cX3_writesNext 171 = .ok (.iconst 0, 1) := by decide +kernel
theorem dX3_writesNext_172 : decode cX3_writesNext 172 = .ok (.ireturn, 1) := by decide +kernel
theorem dX3_writesNext_173 : decode cX3_writesNext 173 = .ok (.iload_n 1, 1) := by decide +kernel
theorem dX3_writesNext_174 : decode cX3_writesNext 174 = .ok (.iconst 3, 1) := by decide +kernel
theorem dX3_writesNext_175 : decode cX3_writesNext 175 = .ok (.if_icmp .ne 7, 3) := by decide +kernel
theorem dX3_writesNext_178 : decode cX3_writesNext 178 = .ok (.iconst 1, 1) := by decide +kernel
theorem dX3_writesNext_179 : decode cX3_writesNext 179 = .ok (.goto 4, 3) := by decide +kernel
theorem dX3_writesNext_182 : decode cX3_writesNext 182 = .ok (.iconst 0, 1) := by decide +kernel
theorem dX3_writesNext_183 : decode cX3_writesNext 183 = .ok (.ireturn, 1) := by decide +kernel
theorem dX3_writesNext_184 : decode cX3_writesNext 184 = .ok (.iconst 0, 1) := by decide +kernel
theorem dX3_writesNext_185 : decode cX3_writesNext 185 = .ok (.ireturn, 1) := by decide +kernel
theorem dX3_word_0 : decode cX3_word 0 = .ok (.iload_n 1, 1) := by decide +kernel
theorem dX3_word_1 : decode cX3_word 1 = .ok (.bipush 8, 2) := by decide +kernel
theorem dX3_word_3 : decode cX3_word 3 = .ok (.ishl, 1) := by decide +kernel
theorem dX3_word_4 : decode cX3_word 4 = .ok (.iload_n 0, 1) := by decide +kernel
theorem dX3_word_5 : decode cX3_word 5 = .ok (.ior, 1) := by decide +kernel
theorem dX3_word_6 : decode cX3_word 6 = .ok (.ireturn, 1) := by decide +kernel
theorem dX3_stores_0 : decode cX3_stores 0 = .ok (.aload_n 0, 1) := by decide +kernel
theorem dX3_stores_1 : decode cX3_stores 1 = .ok (.getfield 119, 3) := by decide +kernel
theorem dX3_stores_4 : decode cX3_stores 4 = .ok (.iconst 5, 1) := by decide +kernel
theorem dX3_stores_5 : decode cX3_stores 5 = .ok (.ishr, 1) := by decide +kernel
theorem dX3_stores_6 : decode cX3_stores 6 = .ok (.iconst 4, 1) := by decide +kernel
theorem dX3_stores_7 : decode cX3_stores 7 = .ok (.if_icmp .ne 7, 3) := by decide +kernel
theorem dX3_stores_10 : decode cX3_stores 10 = .ok (.iconst 1, 1) := by decide +kernel
theorem dX3_stores_11 : decode cX3_stores 11 = .ok (.goto 4, 3) := by decide +kernel
theorem dX3_stores_14 : decode cX3_stores 14 = .ok (.iconst 0, 1) := by decide +kernel
theorem dX3_stores_15 : decode cX3_stores 15 = .ok (.ireturn, 1) := by decide +kernel
theorem dX3_endInstruction_0 : decode cX3_endInstruction 0 = .ok (.aload_n 0, 1) := by decide +kernel
theorem dX3_endInstruction_1 : decode cX3_endInstruction 1 = .ok (.iconst 0, 1) := by decide +kernel
theorem dX3_endInstruction_2 : decode cX3_endInstruction 2 = .ok (.putfield 22, 3) := by decide +kernel
theorem dX3_endInstruction_5 : decode cX3_endInstruction 5 = .ok (.aload_n 0, 1) := by decide +kernel
theorem dX3_endInstruction_6 : decode cX3_endInstruction 6 = .ok (.iconst 0, 1) := by decide +kernel
theorem dX3_endInstruction_7 : decode cX3_endInstruction 7 = .ok (.putfield 68, 3) := by decide +kernel
theorem dX3_endInstruction_10 : decode cX3_endInstruction 10 = .ok (.return_, 1) := by decide +kernel
set_option maxRecDepth 20000 in
theorem ggX3_nextByte_X0_read : GoodIn wsX3_nextByte wsX0_read := goodIn_r _ [9, 10, 11, 12, 13, 14, 8, 15, 16, 17, 18, 19, 20, 21, 22, 23, 24, 25, 26, 27, 28, 29, 30, 31, 32, 33, 34, 35, 36, 37, 38, 39, 40, 41, 42, 43, 44, 45, 46, 47, 48, 49, 50, 51, 52, 53, 54, 55, 56, 57, 58, 59, 60, 61, 62, 63, 64, 65, 66, 87, 88, 89, 90, 91, 92, 93, 94, 95, 96, 97, 98, 99, 100, 101, 102, 103, 104, 105, 106, 107, 108, 109, 110, 111, 112, 113, 114, 115, 116, 117, 118, 119, 120, 121, 122, 123, 124] (by decide +kernel) (by decide +kernel)
set_option maxRecDepth 20000 in
theorem gX3_nextByte_X0_read : GoodIn wsX3_nextByte (wsV RX3 125 RX0 yX0_read wsX0_read) := goodIn_app (goodIn_of _ (by decide +kernel)) ggX3_nextByte_X0_read
theorem dX3_nextByte_0 : decode cX3_nextByte 0 = .ok (.aload_n 0, 1) := by decide +kernel
theorem dX3_nextByte_1 : decode cX3_nextByte 1 = .ok (.getfield 26, 3) := by decide +kernel
theorem dX3_nextByte_4 : decode cX3_nextByte 4 = .ok (.aload_n 0, 1) := by decide +kernel
theorem dX3_nextByte_5 : decode cX3_nextByte 5 = .ok (.getfield 12, 3) := by decide +kernel
theorem dX3_nextByte_8 : decode cX3_nextByte 8 = .ok (.getfield 122, 3) := by decide +kernel
theorem dX3_nextByte_11 : decode cX3_nextByte 11 = .ok (.invokevirtual 125, 3) := by decide +kernel
theorem dX3_nextByte_14 : decode cX3_nextByte 14 = .ok (.istore_n 1, 1) := by decide +kernel
theorem dX3_nextByte_15 : decode cX3_nextByte 15 = .ok (.aload_n 0, 1) := by decide +kernel
theorem dX3_nextByte_16 : decode cX3_nextByte 16 = .ok (.getfield 12, 3) := by decide +kernel
theorem dX3_nextByte_19 : decode cX3_nextByte 19 = .ok (.aload_n 0, 1) := by decide +kernel
theorem dX3_nextByte_20 : decode cX3_nextByte 20 = .ok (.getfield 12, 3) := by decide +kernel
theorem dX3_nextByte_23 : decode cX3_nextByte 23 = .ok (.getfield 122, 3) := by decide +kernel
theorem dX3_nextByte_26 : decode cX3_nextByte 26 = .ok (.iconst 1, 1) := by decide +kernel
theorem dX3_nextByte_27 : decode cX3_nextByte 27 = .ok (.iadd, 1) := by decide +kernel
theorem dX3_nextByte_28 : decode cX3_nextByte 28 = .ok (.ldc 128, 2) := by decide +kernel
theorem dX3_nextByte_30 : decode cX3_nextByte 30 = .ok (.iand, 1) := by decide +kernel
theorem dX3_nextByte_31 : decode cX3_nextByte 31 = .ok (.putfield 122, 3) := by decide +kernel
theorem dX3_nextByte_34 : decode cX3_nextByte 34 = .ok (.iload_n 1, 1) := by decide +kernel
theorem dX3_nextByte_35 : decode cX3_nextByte 35 = .ok (.ireturn, 1) := by decide +kernel
set_option maxRecDepth 20000 in
theorem ggX3_push_X0_write : GoodIn wsX3_push wsX0_write := goodIn_r _ [8, 9, 10, 11, 12, 13, 14, 15, 16, 7, 17, 18, 19, 20, 21, 22, 23, 24, 25, 26, 27, 28, 29, 30, 31, 32, 33, 34, 35, 36, 37, 38, 39, 40, 41, 42, 43, 44, 45, 46, 47, 48, 49, 50, 51, 52, 53, 54, 55, 56, 57, 58, 59, 60, 61, 62, 63, 64, 65, 66, 67, 68, 69, 70, 71, 72, 73, 74, 95, 96, 97, 98, 99, 100, 101, 102, 103, 104, 105, 106, 107, 108, 109, 110, 111, 112, 113, 114, 115, 116, 117, 118, 119, 120, 121, 122, 123, 124, 125, 126, 127, 128, 129, 130, 131, 132] (by decide +kernel) (by decide +kernel)
set_option maxRecDepth 20000 in
theorem gX3_push_X0_write : GoodIn wsX3_push (wsV RX3 132 RX0 yX0_write wsX0_write) := goodIn_app (goodIn_of _ (by decide +kernel)) ggX3_push_X0_write
theorem dX3_push_0 : decode cX3_push 0 = .ok (.aload_n 0, 1) := by decide +kernel
theorem dX3_push_1 : decode cX3_push 1 = .ok (.getfield 26, 3) := by decide +kernel
theorem dX3_push_4 : decode cX3_push 4 = .ok (.sipush 256, 3) := by decide +kernel
theorem dX3_push_7 : decode cX3_push 7 = .ok (.aload_n 0, 1) := by decide +kernel
theorem dX3_push_8 : decode cX3_push 8 = .ok (.getfield 12, 3) := by decide +kernel
theorem dX3_push_11 : decode cX3_push 11 = .ok (.getfield 129, 3) := by decide +kernel
theorem dX3_push_14 : decode cX3_push 14 = .ok (.iadd, 1) := by decide +kernel
theorem dX3_push_15 : decode cX3_push 15 = .ok (.iload_n 1, 1) := by decide +kernel
theorem dX3_push_16 : decode cX3_push 16 = .ok (.invokevirtual 132, 3) := by decide +kernel
theorem dX3_push_19 : decode cX3_push 19 = .ok (.aload_n 0, 1) := by decide +kernel
theorem dX3_push_20 : decode cX3_push 20 = .ok (.getfield 12, 3) := by decide +kernel
theorem dX3_push_23 : decode cX3_push 23 = .ok (.aload_n 0, 1) := by decide +kernel
theorem dX3_push_24 : decode cX3_push 24 = .ok (.getfield 12, 3) := by decide +kernel
theorem dX3_push_27 : decode cX3_push 27 = .ok (.getfield 129, 3) := by decide +kernel
theorem dX3_push_30 : decode cX3_push 30 = .ok (.iconst 1, 1) := by decide +kernel
theorem dX3_push_31 : decode cX3_push 31 = .ok (.isub, 1) := by decide +kernel
theorem dX3_push_32 : decode cX3_push 32 = .ok (.sipush 255, 3) := by decide +kernel
theorem dX3_push_35 : decode cX3_push 35 = .ok (.iand, 1) := by decide +kernel
theorem dX3_push_36 : decode cX3_push 36 = .ok (.putfield 129, 3) := by decide +kernel
theorem dX3_push_39 : decode cX3_push 39 = .ok (.return_, 1) := by decide +kernel
set_option maxRecDepth 20000 in
theorem ggX3_readStack_X0_read : GoodIn wsX3_readStack wsX0_read := goodIn_r _ [8, 9, 10, 11, 12, 13, 7, 14, 15, 16, 17, 18, 19, 20, 21, 22, 23, 24, 25, 26, 27, 28, 29, 30, 31, 32, 33, 34, 35, 36, 37, 38, 39, 40, 41, 42, 43, 44, 45, 46, 47, 48, 49, 50, 51, 52, 53, 54, 55, 56, 57, 58, 59, 60, 61, 62, 63, 64, 65, 86, 87, 88, 89, 90, 91, 92, 93, 94, 95, 96, 97, 98, 99, 100, 101, 102, 103, 104, 105, 106, 107, 108, 109, 110, 111, 112, 113, 114, 115, 116, 117, 118, 119, 120, 121, 122, 123] (by decide +kernel) (by decide +kernel)
set_option maxRecDepth 20000 in
theorem gX3_readStack_X0_read : GoodIn wsX3_readStack (wsV RX3 125 RX0 yX0_read wsX0_read) := goodIn_app (goodIn_of _ (by decide +kernel)) ggX3_readStack_X0_read
theorem dX3_readStack_0 : decode cX3_readStack 0 = .ok (.aload_n 0, 1) := by decide +kernel
theorem dX3_readStack_1 : decode cX3_readStack 1 = .ok (.getfield 26, 3) := by decide +kernel
theorem dX3_readStack_4 : decode cX3_readStack 4 = .ok (.sipush 256, 3) := by decide +kernel
theorem dX3_readStack_7 : decode cX3_readStack 7 = .ok (.aload_n 0, 1) := by decide +kernel
theorem dX3_readStack_8 : decode cX3_readStack 8 = .ok (.getfield 12, 3) := by decide +kernel
theorem dX3_readStack_11 : decode cX3_readStack 11 = .ok (.getfield 129, 3) := by decide +kernel
theorem dX3_readStack_14 : decode cX3_readStack 14 = .ok (.iadd, 1) := by decide +kernel
theorem dX3_readStack_15 : decode cX3_readStack 15 = .ok (.invokevirtual 125, 3) := by decide +kernel
theorem dX3_readStack_18 : decode cX3_readStack 18 = .ok (.ireturn, 1) := by decide +kernel
theorem dX3_growStack_0 : decode cX3_growStack 0 = .ok (.aload_n 0, 1) := by decide +kernel
theorem dX3_growStack_1 : decode cX3_growStack 1 = .ok (.getfield 12, 3) := by decide +kernel
theorem dX3_growStack_4 : decode cX3_growStack 4 = .ok (.aload_n 0, 1) := by decide +kernel
theorem dX3_growStack_5 : decode cX3_growStack 5 = .ok (.getfield 12, 3) := by decide +kernel
theorem dX3_growStack_8 : decode cX3_growStack 8 = .ok (.getfield 129, 3) := by decide +kernel
theorem dX3_growStack_11 : decode cX3_growStack 11 = .ok (.iconst 1, 1) := by decide +kernel
theorem dX3_growStack_12 : decode cX3_growStack 12 = .ok (.iadd, 1) := by decide +kernel
theorem dX3_growStack_13 : decode cX3_growStack 13 = .ok (.sipush 255, 3) := by decide +kernel
theorem dX3_growStack_16 : decode cX3_growStack 16 = .ok (.iand, 1) := by decide +kernel
theorem dX3_growStack_17 : decode cX3_growStack 17 = .ok (.putfield 129, 3) := by decide +kernel
theorem dX3_growStack_20 : decode cX3_growStack 20 = .ok (.return_, 1) := by decide +kernel
set_option maxRecDepth 20000 in
theorem ggX3_begin_X2_asksInterrupt : GoodIn wsX3_begin wsX2_asksInterrupt := goodIn_r _ [14, 15, 16, 118, 119, 120, 121, 122, 123, 124, 125, 126, 127, 128, 129, 130, 131, 132, 133, 134, 135, 136] (by decide +kernel) (by decide +kernel)
set_option maxRecDepth 20000 in
theorem gX3_begin_X2_asksInterrupt : GoodIn wsX3_begin (wsV RX3 136 RX2 yX2_asksInterrupt wsX2_asksInterrupt) := goodIn_app (goodIn_of _ (by decide +kernel)) ggX3_begin_X2_asksInterrupt
set_option maxRecDepth 20000 in
theorem ggX3_begin_X1_asksInterrupt : GoodIn wsX3_begin wsX1_asksInterrupt := goodIn_r _ [21, 22, 23, 137, 138, 139, 140, 141, 142, 143] (by decide +kernel) (by decide +kernel)
set_option maxRecDepth 20000 in
theorem gX3_begin_X1_asksInterrupt : GoodIn wsX3_begin (wsV RX3 141 RX1 yX1_asksInterrupt wsX1_asksInterrupt) := goodIn_app (goodIn_of _ (by decide +kernel)) ggX3_begin_X1_asksInterrupt
set_option maxRecDepth 20000 in
theorem ggX3_begin_X4_has : GoodIn wsX3_begin wsX4_has := goodIn_r _ [28, 29, 112, 113, 114, 115, 116, 117] (by decide +kernel) (by decide +kernel)
set_option maxRecDepth 20000 in
theorem gX3_begin_X4_has : GoodIn wsX3_begin (wsV RX3 144 RX4 yX4_has wsX4_has) := goodIn_app (goodIn_of _ (by decide +kernel)) ggX3_begin_X4_has
set_option maxRecDepth 20000 in
theorem ggX3_begin_X0_read : GoodIn wsX3_begin wsX0_read := goodIn_r _ [34, 35, 36, 37, 38, 39, 33, 40, 41, 42, 43, 44, 45, 46, 47, 48, 49, 50, 51, 52, 53, 54, 55, 56, 57, 13, 58, 59, 60, 61, 62, 15, 16, 63, 64, 65, 66, 67, 68, 69, 20, 70, 71, 72, 73, 74, 75, 22, 23, 76, 77, 78, 79, 80, 81, 82, 83, 84, 85, 144, 145, 146, 147, 148, 149, 150, 151, 118, 119, 120, 121, 122, 123, 124, 125, 126, 127, 128, 129, 130, 131, 132, 133, 134, 135, 136, 137, 138, 139, 140, 141, 142, 143, 152, 153, 154, 155] (by decide +kernel) (by decide +kernel)
set_option maxRecDepth 20000 in
theorem gX3_begin_X0_read : GoodIn wsX3_begin (wsV RX3 125 RX0 yX0_read wsX0_read) := goodIn_app (goodIn_of _ (by decide +kernel)) ggX3_begin_X0_read
set_option maxRecDepth 20000 in
theorem ggX3_begin_X3_nextByte : GoodIn wsX3_begin wsX3_nextByte := goodIn_r _ [90, 6, 3, 7, 91, 30, 31, 32, 33, 34, 35, 36, 37, 38, 39, 40, 41, 42, 43, 44, 45, 46, 47, 48, 49, 50, 51, 52, 53, 54, 55, 56, 57, 13, 58, 59, 60, 61, 62, 15, 16, 63, 64, 65, 66, 67, 68, 69, 20, 70, 71, 72, 73, 74, 75, 22, 23, 76, 77, 78, 79, 80, 81, 82, 83, 84, 85, 98, 99, 100, 101, 102, 103, 104, 105, 106, 107, 108, 109, 110, 111, 112, 113, 114, 115, 116, 117, 144, 145, 146, 147, 148, 149, 150, 151, 118, 119, 120, 121, 122, 123, 124, 125, 126, 127, 128, 129, 130, 131, 132, 133, 134, 135, 136, 137, 138, 139, 140, 141, 142, 143, 152, 153, 154, 155] (by decide +kernel) (by decide +kernel)
set_option maxRecDepth 20000 in
theorem gX3_begin_X3_nextByte : GoodIn wsX3_begin (wsV RX3 148 RX3 yX3_nextByte wsX3_nextByte) := goodIn_app (goodIn_of _ (by decide +kernel)) ggX3_begin_X3_nextByte
set_option maxRecDepth 20000 in
theorem ggX3_begin_X3_kindOf : GoodIn wsX3_begin wsX3_kindOf := goodIn_r _ [94, 95, 96, 89, 97] (by decide +kernel) (by decide +kernel)
set_option maxRecDepth 20000 in
theorem gX3_begin_X3_kindOf : GoodIn wsX3_begin (va_wsS RX3 152 yX3_kindOf wsX3_kindOf) := goodIn_app (goodIn_of _ (by decide +kernel)) ggX3_begin_X3_kindOf
theorem dX3_begin_0 : decode cX3_begin 0 = .ok (.aload_n 0, 1) := by decide +kernel
theorem dX3_begin_1 : decode cX3_begin 1 = .ok (.getfield 30, 3) := by decide +kernel
theorem dX3_begin_4 : decode cX3_begin 4 = .ok (.invokevirtual 136, 3) := by decide +kernel
theorem dX3_begin_7 : decode cX3_begin 7 = .ok (.ifCond .ne 13, 3) := by decide +kernel
theorem dX3_begin_10 : decode cX3_begin 10 = .ok (.aload_n 0, 1) := by decide +kernel
theorem dX3_begin_11 : decode cX3_begin 11 = .ok (.getfield 34, 3) := by decide +kernel
theorem dX3_begin_14 : decode cX3_begin 14 = .ok (.invokevirtual 141, 3) := by decide +kernel
theorem dX3_begin_17 : decode cX3_begin 17 = .ok (.ifCond .eq 7, 3) := by decide +kernel
theorem dX3_begin_20 : decode cX3_begin 20 = .ok (.iconst 1, 1) := by decide +kernel
theorem dX3_begin_21 : decode cX3_begin 21 = .ok (.goto 4, 3) := by decide +kernel
theorem dX3_begin_24 : decode cX3_begin 24 = .ok (.iconst 0, 1) := by decide +kernel
theorem dX3_begin_25 : decode cX3_begin 25 = .ok (.istore_n 1, 1) := by decide +kernel
theorem dX3_begin_26 : decode cX3_begin 26 = .ok (.iload_n 1, 1) := by decide +kernel
theorem dX3_begin_27 : decode cX3_begin 27 = .ok (.ifCond .eq 45, 3) := by decide +kernel
theorem dX3_begin_30 : decode cX3_begin 30 = .ok (.aload_n 0, 1) := by decide +kernel
theorem dX3_begin_31 : decode cX3_begin 31 = .ok (.getfield 12, 3) := by decide +kernel
theorem dX3_begin_34 : decode cX3_begin 34 = .ok (.iconst 4, 1) := by decide +kernel
theorem dX3_begin_35 : decode cX3_begin 35 = .ok (.invokevirtual 144, 3) := by decide +kernel
theorem dX3_begin_38 : decode cX3_begin 38 = .ok (.ifCond .ne 34, 3) := by decide +kernel
theorem dX3_begin_41 : decode cX3_begin 41 = .ok (.aload_n 0, 1) := by decide +kernel
theorem dX3_begin_42 : decode cX3_begin 42 = .ok (.dup, 1) := by decide +kernel
theorem dX3_begin_43 : decode cX3_begin 43 = .ok (.getfield 55, 3) := by decide +kernel
theorem dX3_begin_46 : decode cX3_begin 46 = .ok (.iconst 1, 1) := by decide +kernel
theorem dX3_begin_47 : decode cX3_begin 47 = .ok (.iadd, 1) := by decide +kernel
theorem dX3_begin_48 : decode cX3_begin 48 = .ok (.putfield 55, 3) := by decide +kernel
theorem dX3_begin_51 : decode cX3_begin 51 = .ok (.aload_n 0, 1) := by decide +kernel
theorem dX3_begin_52 : decode cX3_begin 52 = .ok (.iconst 2, 1) := by decide +kernel
theorem dX3_begin_53 : decode cX3_begin 53 = .ok (.putfield 22, 3) := by decide +kernel
theorem dX3_begin_56 : decode cX3_begin 56 = .ok (.aload_n 0, 1) := by decide +kernel
theorem dX3_begin_57 : decode cX3_begin 57 = .ok (.getfield 26, 3) := by decide +kernel
theorem dX3_begin_60 : decode cX3_begin 60 = .ok (.aload_n 0, 1) := by decide +kernel
theorem dX3_begin_61 : decode cX3_begin 61 = .ok (.getfield 12, 3) := by decide +kernel
theorem dX3_begin_64 : decode cX3_begin 64 = .ok (.getfield 122, 3) := by decide +kernel
theorem dX3_begin_67 : decode cX3_begin 67 = .ok (.invokevirtual 125, 3) := by decide +kernel
theorem dX3_begin_70 : decode cX3_begin 70 = .ok (.pop, 1) := by decide +kernel
theorem dX3_begin_71 : decode cX3_begin 71 = .ok (.return_, 1) := by decide +kernel
theorem dX3_begin_72 : decode cX3_begin 72 = .ok (.aload_n 0, 1) := by decide +kernel
theorem dX3_begin_73 : decode cX3_begin 73 = .ok (.aload_n 0, 1) := by decide +kernel
theorem dX3_begin_74 : decode cX3_begin 74 = .ok (.invokevirtual 148, 3) := by decide +kernel
theorem dX3_begin_77 : decode cX3_begin 77 = .ok (.putfield 119, 3) := by decide +kernel
theorem dX3_begin_80 : decode cX3_begin 80 = .ok (.aload_n 0, 1) := by decide +kernel
theorem dX3_begin_81 : decode cX3_begin 81 = .ok (.aload_n 0, 1) := by decide +kernel
theorem dX3_begin_82 : decode cX3_begin 82 = .ok (.getfield 119, 3) := by decide +kernel
theorem dX3_begin_85 : decode cX3_begin 85 = .ok (.invokestatic 152, 3) := by decide +kernel
theorem dX3_begin_88 : decode cX3_begin 88 = .ok (.putfield 22, 3) := by decide +kernel
theorem dX3_begin_91 : decode cX3_begin 91 = .ok (.aload_n 0, 1) := by decide +kernel
theorem dX3_begin_92 : decode cX3_begin 92 = .ok (.aload_n 0, 1) := by decide +kernel
theorem dX3_begin_93 : decode cX3_begin 93 = .ok (.getfield 22, 3) := by decide +kernel
theorem dX3_begin_96 : decode cX3_begin 96 = .ok (.iconst 1, 1) := by decide +kernel
theorem dX3_begin_97 : decode cX3_begin 97 = .ok (.if_icmp .ne 7, 3) := by decide +kernel
theorem dX3_begin_100 : decode cX3_begin 100 = .ok (.iconst 1, 1) := by decide +kernel
theorem dX3_begin_101 : decode cX3_begin 101 = .ok (.goto 4, 3) := by decide +kernel
theorem dX3_begin_104 : decode cX3_begin 104 = .ok (.iconst 0, 1) := by decide +kernel
theorem dX3_begin_105 : decode cX3_begin 105 = .ok (.putfield 18, 3) := by decide +kernel
theorem dX3_begin_108 : decode cX3_begin 108 = .ok (.return_, 1) := by decide +kernel
set_option maxRecDepth 20000 in
theorem ggX3_kindOf_X3_arithmeticKindOf : GoodIn wsX3_kindOf wsX3_arithmeticKindOf := goodIn_r _ [4] (by decide +kernel) (by decide +kernel)
set_option maxRecDepth 20000 in
theorem gX3_kindOf_X3_arithmeticKindOf : GoodIn wsX3_kindOf (va_wsS RX3 155 yX3_arithmeticKindOf wsX3_arithmeticKindOf) := goodIn_app (goodIn_of _ (by decide +kernel)) ggX3_kindOf_X3_arithmeticKindOf
theorem dX3_kindOf_0 : decode cX3_kindOf 0 = .ok (.iload_n 0, 1) := by decide +kernel
theorem dX3_kindOf_1 : decode cX3_kindOf 1 = .ok (.lookupswitch 353 #[(10, 351), (16, 330), (24, 351), (32, 336), (48, 330), (56, 351), (64, 342), (72, 345), (74, 351), (76, 333), (80, 330), (88, 351), (96, 339), (104, 348), (112, 330), (120, 351), (132, 325), (134, 325), (136, 351), (138, 351), (144, 330), (152, 351), (160, 323), (162, 323), (168, 351), (170, 351), (176, 330), (192, 323), (198, 327), (200, 351), (202, 351), (208, 330), (216, 351), (224, 323), (230, 327), (232, 351), (234, 351), (240, 330), (248, 351)], 323) := by decide +kernel
theorem dX3_kindOf_324 : decode cX3_kindOf 324 = .ok (.iconst 4, 1) := by decide +kernel
theorem dX3_kindOf_325 : decode cX3_kindOf 325 = .ok (.ireturn, 1) := by decide +kernel
theorem dX3_kindOf_326 : decode cX3_kindOf 326 = .ok (.iconst 5, 1) := by decide +kernel
theorem dX3_kindOf_327 : decode cX3_kindOf 327 = .ok (.ireturn, 1) := by decide +kernel
theorem dX3_kindOf_328 : decode cX3_kindOf 328 = .ok (.bipush 8, 2) := by decide +kernel
theorem dX3_kindOf_330 : decode cX3_kindOf 330 = .ok (.ireturn, 1) := by decide +kernel
theorem dX3_kindOf_331 : decode cX3_kindOf 331 = .ok (.bipush 9, 2) := by decide +kernel
theorem dX3_kindOf_333 : decode cX3_kindOf 333 = .ok (.ireturn, 1) := by decide +kernel
theorem dX3_kindOf_334 : decode cX3_kindOf 334 = .ok (.bipush 10, 2) := by decide +kernel
theorem dX3_kindOf_336 : decode cX3_kindOf 336 = .ok (.ireturn, 1) := by decide +kernel
theorem dX3_kindOf_337 : decode cX3_kindOf 337 = .ok (.bipush 11, 2) := by decide +kernel
theorem dX3_kindOf_339 : decode cX3_kindOf 339 = .ok (.ireturn, 1) := by decide +kernel
theorem dX3_kindOf_340 : decode cX3_kindOf 340 = .ok (.bipush 12, 2) := by decide +kernel
theorem dX3_kindOf_342 : decode cX3_kindOf 342 = .ok (.ireturn, 1) := by decide +kernel
theorem dX3_kindOf_343 : decode cX3_kindOf 343 = .ok (.bipush 13, 2) := by decide +kernel
theorem dX3_kindOf_345 : decode cX3_kindOf 345 = .ok (.ireturn, 1) := by decide +kernel
theorem dX3_kindOf_346 : decode cX3_kindOf 346 = .ok (.bipush 14, 2) := by decide +kernel
theorem dX3_kindOf_348 : decode cX3_kindOf 348 = .ok (.ireturn, 1) := by decide +kernel
theorem dX3_kindOf_349 : decode cX3_kindOf 349 = .ok (.bipush 15, 2) := by decide +kernel
theorem dX3_kindOf_351 : decode cX3_kindOf 351 = .ok (.ireturn, 1) := by decide +kernel
theorem dX3_kindOf_352 : decode cX3_kindOf 352 = .ok (.iconst 3, 1) := by decide +kernel
theorem dX3_kindOf_353 : decode cX3_kindOf 353 = .ok (.ireturn, 1) := by decide +kernel
theorem dX3_kindOf_354 : decode cX3_kindOf 354 = .ok (.iload_n 0, 1) := by decide +kernel
theorem dX3_kindOf_355 : decode cX3_kindOf 355 = .ok (.invokestatic 155, 3) := by decide +kernel
theorem dX3_kindOf_358 : decode cX3_kindOf 358 = .ok (.ireturn, 1) := by decide +kernel
theorem dX3_arithmeticKindOf_0 : decode cX3_arithmeticKindOf 0 = .ok (.iload_n 0, 1) := by decide +kernel
theorem dX3_arithmeticKindOf_1 : decode cX3_arithmeticKindOf 1 = .ok (.iconst 3, 1) := by decide +kernel
theorem dX3_arithmeticKindOf_2 : decode cX3_arithmeticKindOf 2 = .ok (.iand, 1) := by decide +kernel
theorem dX3_arithmeticKindOf_3 : decode cX3_arithmeticKindOf 3 = .ok (.iconst 1, 1) := by decide +kernel
theorem dX3_arithmeticKindOf_4 : decode cX3_arithmeticKindOf 4 = .ok (.if_icmp .eq 5, 3) := by decide +kernel
theorem dX3_arithmeticKindOf_7 : decode cX3_arithmeticKindOf 7 = .ok (.iconst 1, 1) := by decide +kernel
theorem dX3_arithmeticKindOf_8 : decode cX3_arithmeticKindOf 8 = .ok (.ireturn, 1) := by decide +kernel
theorem dX3_arithmeticKindOf_9 : decode cX3_arithmeticKindOf 9 = .ok (.iload_n 0, 1) := by decide +kernel
theorem dX3_arithmeticKindOf_10 : decode cX3_arithmeticKindOf 10 = .ok (.iconst 2, 1) := by decide +kernel
theorem dX3_arithmeticKindOf_11 : decode cX3_arithmeticKindOf 11 = .ok (.ishr, 1) := by decide +kernel
theorem dX3_arithmeticKindOf_12 : decode cX3_arithmeticKindOf 12 = .ok (.bipush 7, 2) := by decide +kernel
theorem dX3_arithmeticKindOf_14 : decode cX3_arithmeticKindOf 14 = .ok (.iand, 1) := by decide +kernel
theorem dX3_arithmeticKindOf_15 : decode cX3_arithmeticKindOf 15 = .ok (.tableswitch 62 1 7 #[41, 43, 56, 62, 62, 62, 59], 41) := by decide +kernel
theorem dX3_arithmeticKindOf_56 : decode cX3_arithmeticKindOf 56 = .ok (.iconst 5, 1) := by decide +kernel
theorem dX3_arithmeticKindOf_57 : decode cX3_arithmeticKindOf 57 = .ok (.ireturn, 1) := by decide +kernel
theorem dX3_arithmeticKindOf_58 : decode cX3_arithmeticKindOf 58 = .ok (.iload_n 0, 1) := by decide +kernel
theorem dX3_arithmeticKindOf_59 : decode cX3_arithmeticKindOf 59 = .ok (.iconst 5, 1) := by decide +kernel
theorem dX3_arithmeticKindOf_60 : decode cX3_arithmeticKindOf 60 = .ok (.ishr, 1) := by decide +kernel
theorem dX3_arithmeticKindOf_61 : decode cX3_arithmeticKindOf 61 = .ok (.iconst 4, 1) := by decide +kernel
theorem dX3_arithmeticKindOf_62 : decode cX3_arithmeticKindOf 62 = .ok (.if_icmp .ne 7, 3) := by decide +kernel
theorem dX3_arithmeticKindOf_65 : decode cX3_arithmeticKindOf 65 = .ok (.iconst 1, 1) := by decide +kernel
theorem dX3_arithmeticKindOf_66 : decode cX3_arithmeticKindOf 66 = .ok (.goto 4, 3) := by decide +kernel
theorem dX3_arithmeticKindOf_69 : decode cX3_arithmeticKindOf 69 = .ok (.iconst 4, 1) := by decide +kernel
theorem dX3_arithmeticKindOf_70 : decode cX3_arithmeticKindOf 70 = .ok (.ireturn, 1) := by decide +kernel
theorem dX3_arithmeticKindOf_71 : decode cX3_arithmeticKindOf 71 = .ok (.bipush 6, 2) := by decide +kernel
theorem dX3_arithmeticKindOf_73 : decode cX3_arithmeticKindOf 73 = .ok (.ireturn, 1) := by decide +kernel
theorem dX3_arithmeticKindOf_74 : decode cX3_arithmeticKindOf 74 = .ok (.bipush 7, 2) := by decide +kernel
theorem dX3_arithmeticKindOf_76 : decode cX3_arithmeticKindOf 76 = .ok (.ireturn, 1) := by decide +kernel
theorem dX3_arithmeticKindOf_77 : decode cX3_arithmeticKindOf 77 = .ok (.iconst 1, 1) := by decide +kernel
theorem dX3_arithmeticKindOf_78 : decode cX3_arithmeticKindOf 78 = .ok (.ireturn, 1) := by decide +kernel
set_option maxRecDepth 20000 in
theorem ggX3_interrupt_X0_read : GoodIn wsX3_interrupt wsX0_read := goodIn_r _ [11, 12, 13, 14, 15, 16, 10, 17, 18, 19, 20, 21, 22, 23, 24, 25, 26, 27, 28, 29, 30, 31, 32, 33, 34, 35, 36, 37, 38, 39, 40, 41, 42, 43, 44, 45, 46, 47, 48, 49, 50, 51, 52, 53, 54, 55, 56, 57, 58, 59, 60, 61, 62, 63, 64, 65, 66, 67, 68, 153, 154, 155, 156, 157, 158, 159, 160, 161, 162, 163, 164, 165, 166, 167, 168, 169, 170, 171, 172, 173, 174, 175, 176, 177, 178, 179, 180, 181, 182, 183, 184, 185, 186, 187, 188, 189, 190] (by decide +kernel) (by decide +kernel)
set_option maxRecDepth 20000 in
theorem gX3_interrupt_X0_read : GoodIn wsX3_interrupt (wsV RX3 125 RX0 yX0_read wsX0_read) := goodIn_app (goodIn_of _ (by decide +kernel)) ggX3_interrupt_X0_read
set_option maxRecDepth 20000 in
theorem ggX3_interrupt_X3_push : GoodIn wsX3_interrupt wsX3_push := goodIn_r _ [73, 2, 3, 74, 75, 76, 77, 10, 78, 12, 23, 30, 18, 13, 19, 20, 21, 22, 79, 80, 81, 35, 82, 37, 83, 39, 40, 41, 42, 43, 44, 45, 46, 84, 85, 86, 50, 87, 52, 54, 56, 88, 89, 90, 91, 53, 92, 93, 94, 95, 96, 97, 98, 99, 100, 101, 102, 103, 104, 105, 106, 107, 108, 109, 58, 110, 111, 112, 113, 114, 115, 116, 117, 118, 64, 133, 134, 135, 136, 137, 138, 139, 140, 141, 142, 143, 144, 145, 146, 147, 148, 149, 150, 151, 152, 153, 154, 155, 156, 157, 158, 159, 160, 161, 162, 163, 164, 165, 166, 167, 168, 169, 170, 171, 172, 173, 174, 175, 176, 177, 178, 179, 180, 181, 182, 183, 184, 185, 186, 187, 188, 189, 190] (by decide +kernel) (by decide +kernel)
set_option maxRecDepth 20000 in
theorem gX3_interrupt_X3_push : GoodIn wsX3_interrupt (wsV RX3 158 RX3 yX3_push wsX3_push) := goodIn_app (goodIn_of _ (by decide +kernel)) ggX3_interrupt_X3_push
set_option maxRecDepth 20000 in
theorem ggX3_interrupt_X4_put : GoodIn wsX3_interrupt wsX4_put := goodIn_r _ [123, 124, 147, 148, 149, 150, 151, 152] (by decide +kernel) (by decide +kernel)
set_option maxRecDepth 20000 in
theorem gX3_interrupt_X4_put : GoodIn wsX3_interrupt (wsV RX3 164 RX4 yX4_put wsX4_put) := goodIn_app (goodIn_of _ (by decide +kernel)) ggX3_interrupt_X4_put
set_option maxRecDepth 20000 in
theorem ggX3_interrupt_X3_word : GoodIn wsX3_interrupt wsX3_word := goodIn_r _ [127] (by decide +kernel) (by decide +kernel)
set_option maxRecDepth 20000 in
theorem gX3_interrupt_X3_word : GoodIn wsX3_interrupt (va_wsS RX3 44 yX3_word wsX3_word) := goodIn_app (goodIn_of _ (by decide +kernel)) ggX3_interrupt_X3_word
set_option maxRecDepth 20000 in
theorem ggX3_interrupt_X3_endInstruction : GoodIn wsX3_interrupt wsX3_endInstruction := goodIn_r _ [131, 132, 1, 133, 134, 135, 136, 137, 138, 139, 140, 141, 142, 143, 144, 145, 146] (by decide +kernel) (by decide +kernel)
set_option maxRecDepth 20000 in
theorem gX3_interrupt_X3_endInstruction : GoodIn wsX3_interrupt (wsV RX3 61 RX3 yX3_endInstruction wsX3_endInstruction) := goodIn_app (goodIn_of _ (by decide +kernel)) ggX3_interrupt_X3_endInstruction
theorem dX3_interrupt_0 : decode cX3_interrupt 0 = .ok (.aload_n 0, 1) := by decide +kernel
theorem dX3_interrupt_1 : decode cX3_interrupt 1 = .ok (.getfield 68, 3) := by decide +kernel
theorem dX3_interrupt_4 : decode cX3_interrupt 4 = .ok (.tableswitch 132 2 6 #[36, 54, 71, 89, 115], 36) := by decide +kernel
theorem dX3_interrupt_40 : decode cX3_interrupt 40 = .ok (.aload_n 0, 1) := by decide +kernel
theorem dX3_interrupt_41 : decode cX3_interrupt 41 = .ok (.getfield 26, 3) := by decide +kernel
theorem dX3_interrupt_44 : decode cX3_interrupt 44 = .ok (.aload_n 0, 1) := by decide +kernel
theorem dX3_interrupt_45 : decode cX3_interrupt 45 = .ok (.getfield 12, 3) := by decide +kernel
theorem dX3_interrupt_48 : decode cX3_interrupt 48 = .ok (.getfield 122, 3) := by decide +kernel
theorem dX3_interrupt_51 : decode cX3_interrupt 51 = .ok (.invokevirtual 125, 3) := by decide +kernel
theorem dX3_interrupt_54 : decode cX3_interrupt 54 = .ok (.pop, 1) := by decide +kernel
theorem dX3_interrupt_55 : decode cX3_interrupt 55 = .ok (.goto 109, 3) := by decide +kernel
theorem dX3_interrupt_58 : decode cX3_interrupt 58 = .ok (.aload_n 0, 1) := by decide +kernel
theorem dX3_interrupt_59 : decode cX3_interrupt 59 = .ok (.aload_n 0, 1) := by decide +kernel
theorem dX3_interrupt_60 : decode cX3_interrupt 60 = .ok (.getfield 12, 3) := by decide +kernel
theorem dX3_interrupt_63 : decode cX3_interrupt 63 = .ok (.getfield 122, 3) := by decide +kernel
theorem dX3_interrupt_66 : decode cX3_interrupt 66 = .ok (.bipush 8, 2) := by decide +kernel
theorem dX3_interrupt_68 : decode cX3_interrupt 68 = .ok (.ishr, 1) := by decide +kernel
theorem dX3_interrupt_69 : decode cX3_interrupt 69 = .ok (.invokevirtual 158, 3) := by decide +kernel
theorem dX3_interrupt_72 : decode cX3_interrupt 72 = .ok (.goto 92, 3) := by decide +kernel
theorem dX3_interrupt_75 : decode cX3_interrupt 75 = .ok (.aload_n 0, 1) := by decide +kernel
theorem dX3_interrupt_76 : decode cX3_interrupt 76 = .ok (.aload_n 0, 1) := by decide +kernel
theorem dX3_interrupt_77 : decode cX3_interrupt 77 = .ok (.getfield 12, 3) := by decide +kernel
theorem dX3_interrupt_80 : decode cX3_interrupt 80 = .ok (.getfield 122, 3) := by decide +kernel
theorem dX3_interrupt_83 : decode cX3_interrupt 83 = .ok (.sipush 255, 3) := by decide +kernel
theorem dX3_interrupt_86 : decode cX3_interrupt 86 = .ok (.iand, 1) := by decide +kernel
theorem dX3_interrupt_87 : decode cX3_interrupt 87 = .ok (.invokevirtual 158, 3) := by decide +kernel
theorem dX3_interrupt_90 : decode cX3_interrupt 90 = .ok (.goto 74, 3) := by decide +kernel
theorem dX3_interrupt_93 : decode cX3_interrupt 93 = .ok (.aload_n 0, 1) := by decide +kernel
theorem dX3_interrupt_94 : decode cX3_interrupt 94 = .ok (.aload_n 0, 1) := by decide +kernel
theorem dX3_interrupt_95 : decode cX3_interrupt 95 = .ok (.getfield 12, 3) := by decide +kernel
theorem dX3_interrupt_98 : decode cX3_interrupt 98 = .ok (.getfield 161, 3) := by decide +kernel
theorem dX3_interrupt_101 : decode cX3_interrupt 101 = .ok (.bipush 32, 2) := by decide +kernel
theorem dX3_interrupt_103 : decode cX3_interrupt 103 = .ok (.ior, 1) := by decide +kernel
theorem dX3_interrupt_104 : decode cX3_interrupt 104 = .ok (.invokevirtual 158, 3) := by decide +kernel
theorem dX3_interrupt_107 : decode cX3_interrupt 107 = .ok (.aload_n 0, 1) := by decide +kernel
theorem dX3_interrupt_108 : decode cX3_interrupt 108 = .ok (.getfield 12, 3) := by decide +kernel
theorem dX3_interrupt_111 : decode cX3_interrupt 111 = .ok (.iconst 4, 1) := by decide +kernel
theorem dX3_interrupt_112 : decode cX3_interrupt 112 = .ok (.iconst 1, 1) := by decide +kernel
theorem dX3_interrupt_113 : decode cX3_interrupt 113 = .ok (.invokevirtual 164, 3) := by decide +kernel
theorem dX3_interrupt_116 : decode cX3_interrupt 116 = .ok (.goto 48, 3) := by decide +kernel
theorem dX3_interrupt_119 : decode cX3_interrupt 119 = .ok (.aload_n 0, 1) := by decide +kernel
theorem dX3_interrupt_120 : decode cX3_interrupt 120 = .ok (.aload_n 0, 1) := by decide +kernel
theorem dX3_interrupt_121 : decode cX3_interrupt 121 = .ok (.getfield 26, 3) := by decide +kernel
theorem dX3_interrupt_124 : decode cX3_interrupt 124 = .ok (.sipush 8190, 3) := by decide +kernel
theorem dX3_interrupt_127 : decode cX3_interrupt 127 = .ok (.invokevirtual 125, 3) := by decide +kernel
theorem dX3_interrupt_130 : decode cX3_interrupt 130 = .ok (.putfield 168, 3) := by decide +kernel
theorem dX3_interrupt_133 : decode cX3_interrupt 133 = .ok (.goto 31, 3) := by decide +kernel
theorem dX3_interrupt_136 : decode cX3_interrupt 136 = .ok (.aload_n 0, 1) := by decide +kernel
theorem dX3_interrupt_137 : decode cX3_interrupt 137 = .ok (.getfield 12, 3) := by decide +kernel
theorem dX3_interrupt_140 : decode cX3_interrupt 140 = .ok (.aload_n 0, 1) := by decide +kernel
theorem dX3_interrupt_141 : decode cX3_interrupt 141 = .ok (.getfield 168, 3) := by decide +kernel
theorem dX3_interrupt_144 : decode cX3_interrupt 144 = .ok (.aload_n 0, 1) := by decide +kernel
theorem dX3_interrupt_145 : decode cX3_interrupt 145 = .ok (.getfield 26, 3) := by decide +kernel
theorem dX3_interrupt_148 : decode cX3_interrupt 148 = .ok (.sipush 8191, 3) := by decide +kernel
theorem dX3_interrupt_151 : decode cX3_interrupt 151 = .ok (.invokevirtual 125, 3) := by decide +kernel
theorem dX3_interrupt_154 : decode cX3_interrupt 154 = .ok (.invokestatic 44, 3) := by decide +kernel
theorem dX3_interrupt_157 : decode cX3_interrupt 157 = .ok (.putfield 122, 3) := by decide +kernel
theorem dX3_interrupt_160 : decode cX3_interrupt 160 = .ok (.aload_n 0, 1) := by decide +kernel
theorem dX3_interrupt_161 : decode cX3_interrupt 161 = .ok (.invokevirtual 61, 3) := by decide +kernel
theorem dX3_interrupt_164 : decode cX3_interrupt 164 = .ok (.return_, 1) := by decide +kernel
set_option maxRecDepth 20000 in
theorem ggX3_single_X0_read : GoodIn wsX3_single wsX0_read := goodIn_r _ [9, 10, 11, 12, 13, 14, 8, 15, 16, 17, 18, 19, 20, 21, 22, 23, 24, 25, 26, 27, 28, 29, 30, 31, 32, 33, 34, 35, 36, 37, 38, 39, 40, 41, 42, 43, 44, 45, 46, 47, 48, 49, 50, 51, 52, 53, 54, 55, 56, 57, 58, 59, 60, 61, 62, 63, 64, 65, 66, 111, 112, 113, 114, 115, 116, 117, 118, 119, 120, 121, 122, 123, 124, 125, 126, 127, 128, 129, 130, 131, 132, 133, 134, 135, 136, 137, 138, 139, 140, 141, 142, 143, 144, 145, 146, 147, 148] (by decide +kernel) (by decide +kernel)
set_option maxRecDepth 20000 in
theorem gX3_single_X0_read : GoodIn wsX3_single (wsV RX3 125 RX0 yX0_read wsX0_read) := goodIn_app (goodIn_of _ (by decide +kernel)) ggX3_single_X0_read
set_option maxRecDepth 20000 in
theorem ggX3_single_X4_single : GoodIn wsX3_single wsX4_single := goodIn_r _ [71, 72, 73, 74, 75, 76, 77, 70, 78, 79, 80, 81, 82, 83, 105, 106, 107, 108, 109, 110] (by decide +kernel) (by decide +kernel)
set_option maxRecDepth 20000 in
theorem gX3_single_X4_single : GoodIn wsX3_single (wsV RX3 171 RX4 yX4_single wsX4_single) := goodIn_app (goodIn_of _ (by decide +kernel)) ggX3_single_X4_single
set_option maxRecDepth 20000 in
theorem ggX3_single_X3_endInstruction : GoodIn wsX3_single wsX3_endInstruction := goodIn_r _ [88, 89, 90, 91, 92, 93, 94, 95, 96, 97, 98, 99, 100, 101, 102, 103, 104] (by decide +kernel) (by decide +kernel)
set_option maxRecDepth 20000 in
theorem gX3_single_X3_endInstruction : GoodIn wsX3_single (wsV RX3 61 RX3 yX3_endInstruction wsX3_endInstruction) := goodIn_app (goodIn_of _ (by decide +kernel)) ggX3_single_X3_endInstruction
theorem dX3_single_0 : decode cX3_single 0 = .ok (.aload_n 0, 1) := by decide +kernel
theorem dX3_single_1 : decode cX3_single 1 = .ok (.getfield 26, 3) := by decide +kernel
theorem dX3_single_4 : decode cX3_single 4 = .ok (.aload_n 0, 1) := by decide +kernel
theorem dX3_single_5 : decode cX3_single 5 = .ok (.getfield 12, 3) := by decide +kernel
theorem dX3_single_8 : decode cX3_single 8 = .ok (.getfield 122, 3) := by decide +kernel
theorem dX3_single_11 : decode cX3_single 11 = .ok (.invokevirtual 125, 3) := by decide +kernel
theorem dX3_single_14 : decode cX3_single 14 = .ok (.pop, 1) := by decide +kernel
theorem dX3_single_15 : decode cX3_single 15 = .ok (.aload_n 0, 1) := by decide +kernel
theorem dX3_single_16 : decode cX3_single 16 = .ok (.getfield 12, 3) := by decide +kernel
theorem dX3_single_19 : decode cX3_single 19 = .ok (.aload_n 0, 1) := by decide +kernel
theorem dX3_single_20 : decode cX3_single 20 = .ok (.getfield 119, 3) := by decide +kernel
theorem dX3_single_23 : decode cX3_single 23 = .ok (.invokevirtual 171, 3) := by decide +kernel
theorem dX3_single_26 : decode cX3_single 26 = .ok (.aload_n 0, 1) := by decide +kernel
theorem dX3_single_27 : decode cX3_single 27 = .ok (.invokevirtual 61, 3) := by decide +kernel
theorem dX3_single_30 : decode cX3_single 30 = .ok (.return_, 1) := by decide +kernel
set_option maxRecDepth 20000 in
theorem ggX3_own_X3_nextByte : GoodIn wsX3_own wsX3_nextByte := goodIn_r _ [9, 10, 2, 11, 12, 13, 14, 15, 16, 17, 18, 19, 20, 21, 22, 23, 24, 25, 26, 27, 28, 29, 30, 31, 32, 33, 34, 35, 36, 37, 38, 39, 40, 41, 42, 43, 44, 45, 46, 47, 48, 49, 50, 51, 52, 53, 54, 55, 56, 57, 58, 59, 60, 61, 62, 63, 64, 65, 66, 67, 68, 69, 70, 71, 72, 73, 74, 113, 114, 115, 116, 117, 118, 119, 120, 121, 122, 123, 124, 125, 126, 127, 128, 129, 130, 131, 132, 133, 134, 135, 136, 137, 138, 139, 140, 141, 142, 143, 144, 145, 146, 147, 148, 149, 150, 151, 152, 153, 154, 155, 156, 157, 158, 159, 160, 161, 162, 163, 164, 165, 166, 167, 168, 169, 170] (by decide +kernel) (by decide +kernel)
set_option maxRecDepth 20000 in
theorem gX3_own_X3_nextByte : GoodIn wsX3_own (wsV RX3 148 RX3 yX3_nextByte wsX3_nextByte) := goodIn_app (goodIn_of _ (by decide +kernel)) ggX3_own_X3_nextByte
set_option maxRecDepth 20000 in
theorem ggX3_own_X4_judged : GoodIn wsX3_own wsX4_judged := goodIn_r _ [79, 80, 127, 128, 129, 130, 131, 132] (by decide +kernel) (by decide +kernel)
set_option maxRecDepth 20000 in
theorem gX3_own_X4_judged : GoodIn wsX3_own (wsV RX3 173 RX4 yX4_judged wsX4_judged) := goodIn_app (goodIn_of _ (by decide +kernel)) ggX3_own_X4_judged
set_option maxRecDepth 20000 in
theorem ggX3_own_X4_compare : GoodIn wsX3_own wsX4_compare := goodIn_r _ [84, 85, 76, 77, 78, 79, 80, 86, 87, 88, 89, 127, 128, 129, 130, 131, 132] (by decide +kernel) (by decide +kernel)
set_option maxRecDepth 20000 in
theorem gX3_own_X4_compare : GoodIn wsX3_own (wsV RX3 182 RX4 yX4_compare wsX4_compare) := goodIn_app (goodIn_of _ (by decide +kernel)) ggX3_own_X4_compare
set_option maxRecDepth 20000 in
theorem ggX3_own_X4_calculate : GoodIn wsX3_own wsX4_calculate := goodIn_r _ [93, 94, 85, 76, 77, 78, 79, 80, 95, 96, 97, 98, 99, 100, 101, 102, 86, 87, 88, 89, 103, 104, 105, 106, 82, 83, 84, 127, 128, 129, 130, 131, 132] (by decide +kernel) (by decide +kernel)
set_option maxRecDepth 20000 in
theorem gX3_own_X4_calculate : GoodIn wsX3_own (wsV RX3 185 RX4 yX4_calculate wsX4_calculate) := goodIn_app (goodIn_of _ (by decide +kernel)) ggX3_own_X4_calculate
set_option maxRecDepth 20000 in
theorem ggX3_own_X3_endInstruction : GoodIn wsX3_own wsX3_endInstruction := goodIn_r _ [110, 111, 112, 113, 114, 115, 116, 117, 118, 119, 120, 121, 122, 123, 124, 125, 126] (by decide +kernel) (by decide +kernel)
set_option maxRecDepth 20000 in
theorem gX3_own_X3_endInstruction : GoodIn wsX3_own (wsV RX3 61 RX3 yX3_endInstruction wsX3_endInstruction) := goodIn_app (goodIn_of _ (by decide +kernel)) ggX3_own_X3_endInstruction
theorem dX3_own_0 : decode cX3_own 0 = .ok (.aload_n 0, 1) := by decide +kernel
theorem dX3_own_1 : decode cX3_own 1 = .ok (.invokevirtual 148, 3) := by decide +kernel
theorem dX3_own_4 : decode cX3_own 4 = .ok (.istore_n 1, 1) := by decide +kernel
theorem dX3_own_5 : decode cX3_own 5 = .ok (.aload_n 0, 1) := by decide +kernel
theorem dX3_own_6 : decode cX3_own 6 = .ok (.getfield 119, 3) := by decide +kernel
theorem dX3_own_9 : decode cX3_own 9 = .ok (.lookupswitch 115 #[(160, 61), (162, 43), (192, 97), (224, 79)], 43) := by decide +kernel
theorem dX3_own_52 : decode cX3_own 52 = .ok (.aload_n 0, 1) := by decide +kernel
theorem dX3_own_53 : decode cX3_own 53 = .ok (.getfield 12, 3) := by decide +kernel
theorem dX3_own_56 : decode cX3_own 56 = .ok (.aload_n 0, 1) := by decide +kernel
theorem dX3_own_57 : decode cX3_own 57 = .ok (.getfield 12, 3) := by decide +kernel
theorem dX3_own_60 : decode cX3_own 60 = .ok (.iload_n 1, 1) := by decide +kernel
theorem dX3_own_61 : decode cX3_own 61 = .ok (.invokevirtual 173, 3) := by decide +kernel
theorem dX3_own_64 : decode cX3_own 64 = .ok (.putfield 176, 3) := by decide +kernel
theorem dX3_own_67 : decode cX3_own 67 = .ok (.goto 71, 3) := by decide +kernel
theorem dX3_own_70 : decode cX3_own 70 = .ok (.aload_n 0, 1) := by decide +kernel
theorem dX3_own_71 : decode cX3_own 71 = .ok (.getfield 12, 3) := by decide +kernel
theorem dX3_own_74 : decode cX3_own 74 = .ok (.aload_n 0, 1) := by decide +kernel
theorem dX3_own_75 : decode cX3_own 75 = .ok (.getfield 12, 3) := by decide +kernel
theorem dX3_own_78 : decode cX3_own 78 = .ok (.iload_n 1, 1) := by decide +kernel
theorem dX3_own_79 : decode cX3_own 79 = .ok (.invokevirtual 173, 3) := by decide +kernel
theorem dX3_own_82 : decode cX3_own 82 = .ok (.putfield 179, 3) := by decide +kernel
theorem dX3_own_85 : decode cX3_own 85 = .ok (.goto 53, 3) := by decide +kernel
theorem dX3_own_88 : decode cX3_own 88 = .ok (.aload_n 0, 1) := by decide +kernel
theorem dX3_own_89 : decode cX3_own 89 = .ok (.getfield 12, 3) := by decide +kernel
theorem dX3_own_92 : decode cX3_own 92 = .ok (.aload_n 0, 1) := by decide +kernel
theorem dX3_own_93 : decode cX3_own 93 = .ok (.getfield 12, 3) := by decide +kernel
theorem dX3_own_96 : decode cX3_own 96 = .ok (.getfield 176, 3) := by decide +kernel
theorem dX3_own_99 : decode cX3_own 99 = .ok (.iload_n 1, 1) := by decide +kernel
theorem dX3_own_100 : decode cX3_own 100 = .ok (.invokevirtual 182, 3) := by decide +kernel
theorem dX3_own_103 : decode cX3_own 103 = .ok (.goto 35, 3) := by decide +kernel
theorem dX3_own_106 : decode cX3_own 106 = .ok (.aload_n 0, 1) := by decide +kernel
theorem dX3_own_107 : decode cX3_own 107 = .ok (.getfield 12, 3) := by decide +kernel
theorem dX3_own_110 : decode cX3_own 110 = .ok (.aload_n 0, 1) := by decide +kernel
theorem dX3_own_111 : decode cX3_own 111 = .ok (.getfield 12, 3) := by decide +kernel
theorem dX3_own_114 : decode cX3_own 114 = .ok (.getfield 179, 3) := by decide +kernel
theorem dX3_own_117 : decode cX3_own 117 = .ok (.iload_n 1, 1) := by decide +kernel
theorem dX3_own_118 : decode cX3_own 118 = .ok (.invokevirtual 182, 3) := by decide +kernel
theorem dX3_own_121 : decode cX3_own 121 = .ok (.goto 17, 3) := by decide +kernel
theorem dX3_own_124 : decode cX3_own 124 = .ok (.aload_n 0, 1) := by decide +kernel
theorem dX3_own_125 : decode cX3_own 125 = .ok (.getfield 12, 3) := by decide +kernel
theorem dX3_own_128 : decode cX3_own 128 = .ok (.aload_n 0, 1) := by decide +kernel
theorem dX3_own_129 : decode cX3_own 129 = .ok (.getfield 119, 3) := by decide +kernel
theorem dX3_own_132 : decode cX3_own 132 = .ok (.iconst 5, 1) := by decide +kernel
theorem dX3_own_133 : decode cX3_own 133 = .ok (.ishr, 1) := by decide +kernel
theorem dX3_own_134 : decode cX3_own 134 = .ok (.iload_n 1, 1) := by decide +kernel
theorem dX3_own_135 : decode cX3_own 135 = .ok (.invokevirtual 185, 3) := by decide +kernel
theorem dX3_own_138 : decode cX3_own 138 = .ok (.aload_n 0, 1) := by decide +kernel
theorem dX3_own_139 : decode cX3_own 139 = .ok (.invokevirtual 61, 3) := by decide +kernel
theorem dX3_own_142 : decode cX3_own 142 = .ok (.return_, 1) := by decide +kernel
set_option maxRecDepth 20000 in
theorem ggX3_shortAddress_X3_nextByte : GoodIn wsX3_shortAddress wsX3_nextByte := goodIn_r _ [7, 8, 9, 10, 11, 12, 13, 14, 15, 16, 17, 18, 19, 20, 21, 22, 23, 24, 25, 26, 27, 28, 29, 30, 31, 32, 33, 34, 35, 36, 37, 38, 39, 40, 41, 42, 43, 44, 45, 46, 47, 48, 49, 50, 51, 52, 53, 54, 55, 56, 57, 58, 59, 60, 61, 62, 63, 64, 65, 66, 67, 68, 69, 70, 71, 72, 73, 165, 166, 167, 168, 169, 170, 171, 172, 173, 174, 175, 176, 177, 178, 179, 180, 181, 182, 183, 184, 185, 186, 187, 188, 189, 190, 191, 192, 193, 194, 195, 196, 197, 198, 199, 200, 201, 202, 203, 204, 205, 206, 207, 208, 209, 210, 211, 212, 213, 214, 215, 216, 217, 218, 219, 220, 221, 222] (by decide +kernel) (by decide +kernel)
set_option maxRecDepth 20000 in
theorem gX3_shortAddress_X3_nextByte : GoodIn wsX3_shortAddress (wsV RX3 148 RX3 yX3_nextByte wsX3_nextByte) := goodIn_app (goodIn_of _ (by decide +kernel)) ggX3_shortAddress_X3_nextByte
set_option maxRecDepth 20000 in
theorem ggX3_shortAddress_X3_useOperandAt : GoodIn wsX3_shortAddress wsX3_useOperandAt := goodIn_r _ [77, 8, 78, 9, 79, 80, 81, 82, 83, 84, 6, 85, 86, 87, 88, 15, 89, 17, 28, 35, 23, 18, 24, 25, 26, 27, 90, 91, 92, 40, 93, 42, 94, 44, 45, 46, 47, 48, 49, 50, 51, 95, 96, 97, 55, 98, 57, 59, 61, 99, 100, 101, 102, 58, 103, 104, 105, 106, 107, 108, 109, 110, 111, 112, 113, 114, 115, 116, 117, 118, 119, 120, 63, 121, 122, 123, 124, 125, 126, 127, 128, 129, 69, 12, 13, 14, 16, 19, 20, 21, 22, 29, 30, 31, 32, 33, 34, 36, 37, 38, 39, 41, 43, 52, 53, 54, 56, 60, 62, 64, 65, 66, 67, 68, 70, 71, 72, 73, 130, 131, 132, 133, 134, 135, 136, 137, 138, 139, 140, 141, 142, 143, 144, 145, 146, 147, 148, 149, 150, 151, 152, 153, 154, 155, 156, 157, 158, 159, 160, 161, 162, 163, 164, 1, 165, 166, 167, 168, 169, 170, 171, 172, 173, 174, 175, 176, 177, 178, 179, 180, 181, 182, 183, 184, 185, 186, 187, 188, 189, 190, 191, 192, 193, 194, 195, 196, 197, 198, 199, 200, 201, 202, 203, 204, 205, 206, 207, 208, 209, 210, 211, 212, 213, 214, 215, 216, 217, 218, 219, 220, 221, 222] (by decide +kernel) (by decide +kernel)
set_option maxRecDepth 20000 in
theorem gX3_shortAddress_X3_useOperandAt : GoodIn wsX3_shortAddress (wsV RX3 188 RX3 yX3_useOperandAt wsX3_useOperandAt) := goodIn_app (goodIn_of _ (by decide +kernel)) ggX3_shortAddress_X3_useOperandAt
theorem dX3_shortAddress_0 : decode cX3_shortAddress 0 = .ok (.aload_n 0, 1) := by decide +kernel
theorem dX3_shortAddress_1 : decode cX3_shortAddress 1 = .ok (.getfield 68, 3) := by decide +kernel
theorem dX3_shortAddress_4 : decode cX3_shortAddress 4 = .ok (.iconst 2, 1) := by decide +kernel
theorem dX3_shortAddress_5 : decode cX3_shortAddress 5 = .ok (.if_icmp .ne 14, 3) := by decide +kernel
theorem dX3_shortAddress_8 : decode cX3_shortAddress 8 = .ok (.aload_n 0, 1) := by decide +kernel
theorem dX3_shortAddress_9 : decode cX3_shortAddress 9 = .ok (.aload_n 0, 1) := by decide +kernel
theorem dX3_shortAddress_10 : decode cX3_shortAddress 10 = .ok (.invokevirtual 148, 3) := by decide +kernel
theorem dX3_shortAddress_13 : decode cX3_shortAddress 13 = .ok (.putfield 168, 3) := by decide +kernel
theorem dX3_shortAddress_16 : decode cX3_shortAddress 16 = .ok (.goto 11, 3) := by decide +kernel
theorem dX3_shortAddress_19 : decode cX3_shortAddress 19 = .ok (.aload_n 0, 1) := by decide +kernel
theorem dX3_shortAddress_20 : decode cX3_shortAddress 20 = .ok (.aload_n 0, 1) := by decide +kernel
theorem dX3_shortAddress_21 : decode cX3_shortAddress 21 = .ok (.getfield 168, 3) := by decide +kernel
theorem dX3_shortAddress_24 : decode cX3_shortAddress 24 = .ok (.invokevirtual 188, 3) := by decide +kernel
theorem dX3_shortAddress_27 : decode cX3_shortAddress 27 = .ok (.return_, 1) := by decide +kernel
set_option maxRecDepth 20000 in
theorem ggX3_longAddress_X3_nextByte : GoodIn wsX3_longAddress wsX3_nextByte := goodIn_r _ [8, 9, 10, 11, 12, 13, 14, 15, 16, 17, 18, 19, 20, 21, 22, 23, 24, 25, 26, 27, 28, 29, 30, 31, 32, 33, 34, 35, 36, 37, 38, 39, 40, 41, 42, 43, 44, 45, 46, 47, 48, 49, 50, 51, 52, 53, 54, 55, 56, 57, 58, 59, 60, 61, 62, 63, 64, 65, 66, 67, 68, 69, 70, 71, 72, 73, 74, 169, 170, 171, 172, 173, 174, 175, 176, 177, 178, 179, 180, 181, 182, 183, 184, 185, 186, 187, 188, 189, 190, 191, 192, 193, 194, 195, 196, 197, 198, 199, 200, 201, 202, 203, 204, 205, 206, 207, 208, 209, 210, 211, 212, 213, 214, 215, 216, 217, 218, 219, 220, 221, 222, 223, 224, 225, 226] (by decide +kernel) (by decide +kernel)
set_option maxRecDepth 20000 in
theorem gX3_longAddress_X3_nextByte : GoodIn wsX3_longAddress (wsV RX3 148 RX3 yX3_nextByte wsX3_nextByte) := goodIn_app (goodIn_of _ (by decide +kernel)) ggX3_longAddress_X3_nextByte
set_option maxRecDepth 20000 in
theorem ggX3_longAddress_X3_word : GoodIn wsX3_longAddress wsX3_word := goodIn_r _ [77] (by decide +kernel) (by decide +kernel)
set_option maxRecDepth 20000 in
theorem gX3_longAddress_X3_word : GoodIn wsX3_longAddress (va_wsS RX3 44 yX3_word wsX3_word) := goodIn_app (goodIn_of _ (by decide +kernel)) ggX3_longAddress_X3_word
set_option maxRecDepth 20000 in
theorem ggX3_longAddress_X3_useOperandAt : GoodIn wsX3_longAddress wsX3_useOperandAt := goodIn_r _ [81, 9, 82, 10, 83, 84, 85, 86, 87, 88, 7, 89, 90, 91, 92, 16, 93, 18, 29, 36, 24, 19, 25, 26, 27, 28, 94, 95, 96, 41, 97, 43, 98, 45, 46, 47, 48, 49, 50, 51, 52, 99, 100, 101, 56, 102, 58, 60, 62, 103, 104, 105, 106, 59, 107, 108, 109, 110, 111, 112, 113, 114, 115, 116, 117, 118, 119, 120, 121, 122, 123, 124, 64, 125, 126, 127, 128, 129, 130, 131, 132, 133, 70, 13, 14, 15, 17, 20, 21, 22, 23, 30, 31, 32, 33, 34, 35, 37, 38, 39, 40, 42, 44, 53, 54, 55, 57, 61, 63, 65, 66, 67, 68, 69, 71, 72, 73, 74, 134, 135, 136, 137, 138, 139, 140, 141, 142, 143, 144, 145, 146, 147, 148, 149, 150, 151, 152, 153, 154, 155, 156, 157, 158, 159, 160, 161, 162, 163, 164, 165, 166, 167, 168, 1, 169, 170, 171, 172, 173, 174, 175, 176, 177, 178, 179, 180, 181, 182, 183, 184, 185, 186, 187, 188, 189, 190, 191, 192, 193, 194, 195, 196, 197, 198, 199, 200, 201, 202, 203, 204, 205, 206, 207, 208, 209, 210, 211, 212, 213, 214, 215, 216, 217, 218, 219, 220, 221, 222, 223, 224, 225, 226] (by decide +kernel) (by decide +kernel)
set_option maxRecDepth 20000 in
theorem gX3_longAddress_X3_useOperandAt : GoodIn wsX3_longAddress (wsV RX3 188 RX3 yX3_useOperandAt wsX3_useOperandAt) := goodIn_app (goodIn_of _ (by decide +kernel)) ggX3_longAddress_X3_useOperandAt
theorem dX3_longAddress_0 : decode cX3_longAddress 0 = .ok (.aload_n 0, 1) := by decide +kernel
theorem dX3_longAddress_1 : decode cX3_longAddress 1 = .ok (.getfield 68, 3) := by decide +kernel
theorem dX3_longAddress_4 : decode cX3_longAddress 4 = .ok (.lookupswitch 50 #[(2, 28), (3, 39)], 28) := by decide +kernel
theorem dX3_longAddress_32 : decode cX3_longAddress 32 = .ok (.aload_n 0, 1) := by decide +kernel
theorem dX3_longAddress_33 : decode cX3_longAddress 33 = .ok (.aload_n 0, 1) := by decide +kernel
theorem dX3_longAddress_34 : decode cX3_longAddress 34 = .ok (.invokevirtual 148, 3) := by decide +kernel
theorem dX3_longAddress_37 : decode cX3_longAddress 37 = .ok (.putfield 168, 3) := by decide +kernel
theorem dX3_longAddress_40 : decode cX3_longAddress 40 = .ok (.goto 29, 3) := by decide +kernel
theorem dX3_longAddress_43 : decode cX3_longAddress 43 = .ok (.aload_n 0, 1) := by decide +kernel
theorem dX3_longAddress_44 : decode cX3_longAddress 44 = .ok (.aload_n 0, 1) := by decide +kernel
theorem dX3_longAddress_45 : decode cX3_longAddress 45 = .ok (.invokevirtual 148, 3) := by decide +kernel
theorem dX3_longAddress_48 : decode cX3_longAddress 48 = .ok (.putfield 191, 3) := by decide +kernel
theorem dX3_longAddress_51 : decode cX3_longAddress 51 = .ok (.goto 18, 3) := by decide +kernel
theorem dX3_longAddress_54 : decode cX3_longAddress 54 = .ok (.aload_n 0, 1) := by decide +kernel
theorem dX3_longAddress_55 : decode cX3_longAddress 55 = .ok (.aload_n 0, 1) := by decide +kernel
theorem dX3_longAddress_56 : decode cX3_longAddress 56 = .ok (.getfield 168, 3) := by decide +kernel
theorem dX3_longAddress_59 : decode cX3_longAddress 59 = .ok (.aload_n 0, 1) := by decide +kernel
theorem dX3_longAddress_60 : decode cX3_longAddress 60 = .ok (.getfield 191, 3) := by decide +kernel
theorem dX3_longAddress_63 : decode cX3_longAddress 63 = .ok (.invokestatic 44, 3) := by decide +kernel
theorem dX3_longAddress_66 : decode cX3_longAddress 66 = .ok (.invokevirtual 188, 3) := by decide +kernel
theorem dX3_longAddress_69 : decode cX3_longAddress 69 = .ok (.return_, 1) := by decide +kernel
set_option maxRecDepth 20000 in
theorem ggX3_longAddressX_X3_nextByte : GoodIn wsX3_longAddressX wsX3_nextByte := goodIn_r _ [10, 11, 4, 12, 13, 14, 15, 16, 17, 18, 19, 20, 21, 22, 23, 24, 25, 26, 27, 28, 29, 30, 31, 32, 33, 34, 35, 36, 37, 38, 39, 40, 41, 42, 43, 44, 45, 46, 47, 48, 49, 50, 51, 52, 53, 54, 55, 56, 57, 58, 59, 60, 61, 62, 63, 64, 65, 66, 67, 68, 69, 70, 71, 72, 73, 74, 75, 173, 174, 175, 176, 177, 178, 179, 180, 181, 182, 183, 184, 185, 186, 187, 188, 189, 190, 191, 192, 193, 194, 195, 196, 197, 198, 199, 200, 201, 202, 203, 204, 205, 206, 207, 208, 209, 210, 211, 212, 213, 214, 215, 216, 217, 218, 219, 220, 221, 222, 223, 224, 225, 226, 227, 228, 229, 230] (by decide +kernel) (by decide +kernel)
set_option maxRecDepth 20000 in
theorem gX3_longAddressX_X3_nextByte : GoodIn wsX3_longAddressX (wsV RX3 148 RX3 yX3_nextByte wsX3_nextByte) := goodIn_app (goodIn_of _ (by decide +kernel)) ggX3_longAddressX_X3_nextByte
set_option maxRecDepth 20000 in
theorem ggX3_longAddressX_X3_readBeforeCarry : GoodIn wsX3_longAddressX wsX3_readBeforeCarry := goodIn_r _ [79, 2, 4, 5, 11, 3, 80, 81, 82, 9, 83, 14, 15, 16, 17, 18, 19, 20, 21, 22, 23, 24, 25, 26, 27, 28, 29, 30, 31, 32, 33, 34, 35, 36, 37, 38, 39, 40, 41, 42, 43, 44, 45, 46, 47, 48, 49, 50, 51, 52, 53, 54, 55, 56, 57, 58, 59, 60, 61, 62, 63, 64, 65, 66, 67, 68, 69, 70, 71, 72, 73, 74, 75, 84, 85, 86, 87, 88, 89, 90, 91, 92, 93, 94, 95, 96, 97, 98, 99, 100, 101, 102, 103, 104, 105, 106, 107, 108, 109, 110, 111, 112, 113, 114, 115, 116, 117, 118, 119, 120, 121, 122, 1, 173, 174, 175, 176, 177, 178, 179, 180, 181, 182, 183, 184, 185, 186, 187, 188, 189, 190, 191, 192, 193, 194, 195, 196, 197, 198, 199, 200, 201, 202, 203, 204, 205, 206, 207, 208, 209, 210, 211, 212, 213, 214, 215, 216, 217, 218, 219, 220, 221, 222, 223, 224, 225, 226, 227, 228, 229, 230] (by decide +kernel) (by decide +kernel)
set_option maxRecDepth 20000 in
theorem gX3_longAddressX_X3_readBeforeCarry : GoodIn wsX3_longAddressX (wsV RX3 194 RX3 yX3_readBeforeCarry wsX3_readBeforeCarry) := goodIn_app (goodIn_of _ (by decide +kernel)) ggX3_longAddressX_X3_readBeforeCarry
set_option maxRecDepth 20000 in
theorem ggX3_longAddressX_X3_word : GoodIn wsX3_longAddressX wsX3_word := goodIn_r _ [83] (by decide +kernel) (by decide +kernel)
set_option maxRecDepth 20000 in
theorem gX3_longAddressX_X3_word : GoodIn wsX3_longAddressX (va_wsS RX3 44 yX3_word wsX3_word) := goodIn_app (goodIn_of _ (by decide +kernel)) ggX3_longAddressX_X3_word
set_option maxRecDepth 20000 in
theorem ggX3_longAddressX_X3_useOperandAt : GoodIn wsX3_longAddressX wsX3_useOperandAt := goodIn_r _ [126, 11, 80, 4, 5, 127, 128, 84, 85, 86, 9, 87, 129, 130, 131, 17, 132, 19, 30, 37, 25, 20, 26, 27, 28, 29, 133, 134, 135, 42, 136, 44, 137, 46, 47, 48, 49, 50, 51, 52, 53, 138, 139, 140, 57, 141, 59, 61, 63, 142, 143, 144, 145, 60, 146, 147, 148, 149, 150, 151, 152, 153, 154, 155, 156, 157, 158, 159, 160, 161, 162, 163, 65, 164, 165, 166, 167, 168, 169, 170, 171, 172, 71, 14, 15, 16, 18, 21, 22, 23, 24, 31, 32, 33, 34, 35, 36, 38, 39, 40, 41, 43, 45, 54, 55, 56, 58, 62, 64, 66, 67, 68, 69, 70, 72, 73, 74, 75, 88, 89, 90, 91, 92, 93, 94, 95, 96, 97, 98, 99, 100, 101, 102, 103, 104, 105, 106, 107, 108, 109, 110, 111, 112, 113, 114, 115, 116, 117, 118, 119, 120, 121, 122, 1, 173, 174, 175, 176, 177, 178, 179, 180, 181, 182, 183, 184, 185, 186, 187, 188, 189, 190, 191, 192, 193, 194, 195, 196, 197, 198, 199, 200, 201, 202, 203, 204, 205, 206, 207, 208, 209, 210, 211, 212, 213, 214, 215, 216, 217, 218, 219, 220, 221, 222, 223, 224, 225, 226, 227, 228, 229, 230] (by decide +kernel) (by decide +kernel)
set_option maxRecDepth 20000 in
theorem gX3_longAddressX_X3_useOperandAt : GoodIn wsX3_longAddressX (wsV RX3 188 RX3 yX3_useOperandAt wsX3_useOperandAt) := goodIn_app (goodIn_of _ (by decide +kernel)) ggX3_longAddressX_X3_useOperandAt
theorem dX3_longAddressX_0 : decode cX3_longAddressX 0 = .ok (.aload_n 0, 1) := by decide +kernel
theorem dX3_longAddressX_1 : decode cX3_longAddressX 1 = .ok (.getfield 68, 3) := by decide +kernel
theorem dX3_longAddressX_4 : decode cX3_longAddressX 4 = .ok (.tableswitch 57 2 4 #[28, 39, 50], 28) := by decide +kernel
theorem dX3_longAddressX_32 : decode cX3_longAddressX 32 = .ok (.aload_n 0, 1) := by decide +kernel
theorem dX3_longAddressX_33 : decode cX3_longAddressX 33 = .ok (.aload_n 0, 1) := by decide +kernel
theorem dX3_longAddressX_34 : decode cX3_longAddressX 34 = .ok (.invokevirtual 148, 3) := by decide +kernel
theorem dX3_longAddressX_37 : decode cX3_longAddressX 37 = .ok (.putfield 168, 3) := by decide +kernel
theorem dX3_longAddressX_40 : decode cX3_longAddressX 40 = .ok (.goto 44, 3) := by decide +kernel
theorem dX3_longAddressX_43 : decode cX3_longAddressX 43 = .ok (.aload_n 0, 1) := by decide +kernel
theorem dX3_longAddressX_44 : decode cX3_longAddressX 44 = .ok (.aload_n 0, 1) := by decide +kernel
theorem dX3_longAddressX_45 : decode cX3_longAddressX 45 = .ok (.invokevirtual 148, 3) := by decide +kernel
theorem dX3_longAddressX_48 : decode cX3_longAddressX 48 = .ok (.putfield 191, 3) := by decide +kernel
theorem dX3_longAddressX_51 : decode cX3_longAddressX 51 = .ok (.goto 33, 3) := by decide +kernel
theorem dX3_longAddressX_54 : decode cX3_longAddressX 54 = .ok (.aload_n 0, 1) := by decide +kernel
theorem dX3_longAddressX_55 : decode cX3_longAddressX 55 = .ok (.invokevirtual 194, 3) := by decide +kernel
theorem dX3_longAddressX_58 : decode cX3_longAddressX 58 = .ok (.goto 26, 3) := by decide +kernel
theorem dX3_longAddressX_61 : decode cX3_longAddressX 61 = .ok (.aload_n 0, 1) := by decide +kernel
theorem dX3_longAddressX_62 : decode cX3_longAddressX 62 = .ok (.aload_n 0, 1) := by decide +kernel
theorem dX3_longAddressX_63 : decode cX3_longAddressX 63 = .ok (.getfield 168, 3) := by decide +kernel
theorem dX3_longAddressX_66 : decode cX3_longAddressX 66 = .ok (.aload_n 0, 1) := by decide +kernel
theorem dX3_longAddressX_67 : decode cX3_longAddressX 67 = .ok (.getfield 191, 3) := by decide +kernel
theorem dX3_longAddressX_70 : decode cX3_longAddressX 70 = .ok (.invokestatic 44, 3) := by decide +kernel
theorem dX3_longAddressX_73 : decode cX3_longAddressX 73 = .ok (.aload_n 0, 1) := by decide +kernel
theorem dX3_longAddressX_74 : decode cX3_longAddressX 74 = .ok (.getfield 12, 3) := by decide +kernel
theorem dX3_longAddressX_77 : decode cX3_longAddressX 77 = .ok (.getfield 176, 3) := by decide +kernel
theorem dX3_longAddressX_80 : decode cX3_longAddressX 80 = .ok (.iadd, 1) := by decide +kernel
theorem dX3_longAddressX_81 : decode cX3_longAddressX 81 = .ok (.invokevirtual 188, 3) := by decide +kernel
theorem dX3_longAddressX_84 : decode cX3_longAddressX 84 = .ok (.return_, 1) := by decide +kernel
set_option maxRecDepth 20000 in
theorem ggX3_readBeforeCarry_X3_word : GoodIn wsX3_readBeforeCarry wsX3_word := goodIn_r _ [10] (by decide +kernel) (by decide +kernel)
set_option maxRecDepth 20000 in
theorem gX3_readBeforeCarry_X3_word : GoodIn wsX3_readBeforeCarry (va_wsS RX3 44 yX3_word wsX3_word) := goodIn_app (goodIn_of _ (by decide +kernel)) ggX3_readBeforeCarry_X3_word
set_option maxRecDepth 20000 in
theorem ggX3_readBeforeCarry_X0_read : GoodIn wsX3_readBeforeCarry wsX0_read := goodIn_r _ [15, 16, 17, 18, 19, 20, 14, 21, 22, 23, 24, 25, 26, 27, 28, 29, 30, 31, 32, 33, 34, 35, 36, 37, 38, 39, 40, 41, 42, 43, 44, 45, 46, 47, 48, 49, 50, 51, 52, 53, 54, 55, 56, 57, 58, 59, 60, 61, 62, 63, 64, 65, 66, 67, 68, 69, 70, 71, 72, 133, 134, 135, 136, 137, 138, 139, 140, 141, 142, 143, 144, 145, 146, 147, 148, 149, 150, 151, 152, 153, 154, 155, 156, 157, 158, 159, 160, 161, 162, 163, 164, 165, 166, 167, 168, 169, 170] (by decide +kernel) (by decide +kernel)
set_option maxRecDepth 20000 in
theorem gX3_readBeforeCarry_X0_read : GoodIn wsX3_readBeforeCarry (wsV RX3 125 RX0 yX0_read wsX0_read) := goodIn_app (goodIn_of _ (by decide +kernel)) ggX3_readBeforeCarry_X0_read
set_option maxRecDepth 20000 in
theorem ggX3_readBeforeCarry_X3_stores : GoodIn wsX3_readBeforeCarry wsX3_stores := goodIn_r _ [76, 6, 113, 114, 115, 116, 117, 118, 119, 120, 121, 122, 123, 124, 125, 126] (by decide +kernel) (by decide +kernel)
set_option maxRecDepth 20000 in
theorem gX3_readBeforeCarry_X3_stores : GoodIn wsX3_readBeforeCarry (wsV RX3 116 RX3 yX3_stores wsX3_stores) := goodIn_app (goodIn_of _ (by decide +kernel)) ggX3_readBeforeCarry_X3_stores
set_option maxRecDepth 20000 in
theorem ggX3_readBeforeCarry_X4_calculate : GoodIn wsX3_readBeforeCarry wsX4_calculate := goodIn_r _ [81, 82, 83, 84, 85, 80, 86, 87, 88, 89, 90, 91, 92, 93, 94, 95, 96, 97, 98, 99, 100, 101, 102, 103, 104, 105, 106, 127, 128, 129, 130, 131, 132] (by decide +kernel) (by decide +kernel)
set_option maxRecDepth 20000 in
theorem gX3_readBeforeCarry_X4_calculate : GoodIn wsX3_readBeforeCarry (wsV RX3 185 RX4 yX4_calculate wsX4_calculate) := goodIn_app (goodIn_of _ (by decide +kernel)) ggX3_readBeforeCarry_X4_calculate
set_option maxRecDepth 20000 in
theorem ggX3_readBeforeCarry_X3_endInstruction : GoodIn wsX3_readBeforeCarry wsX3_endInstruction := goodIn_r _ [110, 111, 112, 113, 114, 115, 116, 117, 118, 119, 120, 121, 122, 123, 124, 125, 126] (by decide +kernel) (by decide +kernel)
set_option maxRecDepth 20000 in
theorem gX3_readBeforeCarry_X3_endInstruction : GoodIn wsX3_readBeforeCarry (wsV RX3 61 RX3 yX3_endInstruction wsX3_endInstruction) := goodIn_app (goodIn_of _ (by decide +kernel)) ggX3_readBeforeCarry_X3_endInstruction
theorem dX3_readBeforeCarry_0 : decode cX3_readBeforeCarry 0 = .ok (.aload_n 0, 1) := by decide +kernel
theorem dX3_readBeforeCarry_1 : decode cX3_readBeforeCarry 1 = .ok (.getfield 168, 3) := by decide +kernel
theorem dX3_readBeforeCarry_4 : decode cX3_readBeforeCarry 4 = .ok (.aload_n 0, 1) := by decide +kernel
theorem dX3_readBeforeCarry_5 : decode cX3_readBeforeCarry 5 = .ok (.getfield 12, 3) := by decide +kernel
theorem dX3_readBeforeCarry_8 : decode cX3_readBeforeCarry 8 = .ok (.getfield 176, 3) := by decide +kernel
theorem dX3_readBeforeCarry_11 : decode cX3_readBeforeCarry 11 = .ok (.iadd, 1) := by decide +kernel
theorem dX3_readBeforeCarry_12 : decode cX3_readBeforeCarry 12 = .ok (.istore_n 1, 1) := by decide +kernel
theorem dX3_readBeforeCarry_13 : decode cX3_readBeforeCarry 13 = .ok (.aload_n 0, 1) := by decide +kernel
theorem dX3_readBeforeCarry_14 : decode cX3_readBeforeCarry 14 = .ok (.getfield 26, 3) := by decide +kernel
theorem dX3_readBeforeCarry_17 : decode cX3_readBeforeCarry 17 = .ok (.iload_n 1, 1) := by decide +kernel
theorem dX3_readBeforeCarry_18 : decode cX3_readBeforeCarry 18 = .ok (.sipush 255, 3) := by decide +kernel
theorem dX3_readBeforeCarry_21 : decode cX3_readBeforeCarry 21 = .ok (.iand, 1) := by decide +kernel
theorem dX3_readBeforeCarry_22 : decode cX3_readBeforeCarry 22 = .ok (.aload_n 0, 1) := by decide +kernel
theorem dX3_readBeforeCarry_23 : decode cX3_readBeforeCarry 23 = .ok (.getfield 191, 3) := by decide +kernel
theorem dX3_readBeforeCarry_26 : decode cX3_readBeforeCarry 26 = .ok (.invokestatic 44, 3) := by decide +kernel
theorem dX3_readBeforeCarry_29 : decode cX3_readBeforeCarry 29 = .ok (.invokevirtual 125, 3) := by decide +kernel
theorem dX3_readBeforeCarry_32 : decode cX3_readBeforeCarry 32 = .ok (.istore_n 2, 1) := by decide +kernel
theorem dX3_readBeforeCarry_33 : decode cX3_readBeforeCarry 33 = .ok (.iload_n 1, 1) := by decide +kernel
theorem dX3_readBeforeCarry_34 : decode cX3_readBeforeCarry 34 = .ok (.sipush 255, 3) := by decide +kernel
theorem dX3_readBeforeCarry_37 : decode cX3_readBeforeCarry 37 = .ok (.if_icmp .gt 28, 3) := by decide +kernel
theorem dX3_readBeforeCarry_40 : decode cX3_readBeforeCarry 40 = .ok (.aload_n 0, 1) := by decide +kernel
theorem dX3_readBeforeCarry_41 : decode cX3_readBeforeCarry 41 = .ok (.invokevirtual 116, 3) := by decide +kernel
theorem dX3_readBeforeCarry_44 : decode cX3_readBeforeCarry 44 = .ok (.ifCond .ne 21, 3) := by decide +kernel
theorem dX3_readBeforeCarry_47 : decode cX3_readBeforeCarry 47 = .ok (.aload_n 0, 1) := by decide +kernel
theorem dX3_readBeforeCarry_48 : decode cX3_readBeforeCarry 48 = .ok (.getfield 12, 3) := by decide +kernel
theorem dX3_readBeforeCarry_51 : decode cX3_readBeforeCarry 51 = .ok (.aload_n 0, 1) := by decide +kernel
theorem dX3_readBeforeCarry_52 : decode cX3_readBeforeCarry 52 = .ok (.getfield 119, 3) := by decide +kernel
theorem dX3_readBeforeCarry_55 : decode cX3_readBeforeCarry 55 = .ok (.iconst 5, 1) := by decide +kernel
theorem dX3_readBeforeCarry_56 : decode cX3_readBeforeCarry 56 = .ok (.ishr, 1) := by decide +kernel
theorem dX3_readBeforeCarry_57 : decode cX3_readBeforeCarry 57 = .ok (.iload_n 2, 1) := by decide +kernel
theorem dX3_readBeforeCarry_58 : decode cX3_readBeforeCarry 58 = .ok (.invokevirtual 185, 3) := by decide +kernel
theorem dX3_readBeforeCarry_61 : decode cX3_readBeforeCarry 61 = .ok (.aload_n 0, 1) := by decide +kernel
theorem dX3_readBeforeCarry_62 : decode cX3_readBeforeCarry 62 = .ok (.invokevirtual 61, 3) := by decide +kernel
theorem dX3_readBeforeCarry_65 : decode cX3_readBeforeCarry 65 = .ok (.return_, 1) := by decide +kernel
set_option maxRecDepth 20000 in
theorem ggX3_useOperandAt_X3_stores : GoodIn wsX3_useOperandAt wsX3_stores := goodIn_r _ [11, 2, 154, 155, 156, 157, 158, 159, 160, 161, 162, 163, 164, 165, 166, 167] (by decide +kernel) (by decide +kernel)
set_option maxRecDepth 20000 in
theorem gX3_useOperandAt_X3_stores : GoodIn wsX3_useOperandAt (wsV RX3 116 RX3 yX3_stores wsX3_stores) := goodIn_app (goodIn_of _ (by decide +kernel)) ggX3_useOperandAt_X3_stores
set_option maxRecDepth 20000 in
theorem ggX3_useOperandAt_X0_write : GoodIn wsX3_useOperandAt wsX0_write := goodIn_r _ [16, 17, 18, 19, 20, 21, 22, 23, 24, 15, 25, 26, 27, 28, 29, 30, 31, 32, 33, 34, 35, 36, 37, 38, 39, 40, 41, 42, 43, 44, 45, 46, 47, 48, 49, 50, 51, 52, 53, 54, 55, 56, 57, 58, 59, 60, 61, 62, 63, 64, 65, 66, 67, 68, 69, 70, 71, 72, 73, 74, 75, 76, 77, 78, 79, 80, 81, 82, 174, 175, 176, 177, 178, 179, 180, 181, 182, 183, 184, 185, 186, 187, 188, 189, 190, 191, 192, 193, 194, 195, 196, 197, 198, 199, 200, 201, 202, 203, 204, 205, 206, 207, 208, 209, 210, 211] (by decide +kernel) (by decide +kernel)
set_option maxRecDepth 20000 in
theorem gX3_useOperandAt_X0_write : GoodIn wsX3_useOperandAt (wsV RX3 132 RX0 yX0_write wsX0_write) := goodIn_app (goodIn_of _ (by decide +kernel)) ggX3_useOperandAt_X0_write
set_option maxRecDepth 20000 in
theorem ggX3_useOperandAt_X0_read : GoodIn wsX3_useOperandAt wsX0_read := goodIn_r _ [86, 17, 21, 87, 88, 89, 15, 90, 20, 22, 23, 24, 25, 18, 91, 92, 93, 94, 95, 96, 19, 97, 98, 99, 100, 29, 101, 31, 102, 33, 34, 35, 36, 37, 38, 39, 40, 103, 104, 105, 44, 106, 46, 53, 47, 107, 48, 108, 72, 109, 110, 111, 112, 113, 82, 114, 115, 116, 117, 174, 175, 176, 177, 178, 179, 180, 181, 182, 183, 184, 185, 186, 187, 188, 189, 190, 191, 192, 193, 194, 195, 196, 197, 198, 199, 200, 201, 202, 203, 204, 205, 206, 207, 208, 209, 210, 211] (by decide +kernel) (by decide +kernel)
set_option maxRecDepth 20000 in
theorem gX3_useOperandAt_X0_read : GoodIn wsX3_useOperandAt (wsV RX3 125 RX0 yX0_read wsX0_read) := goodIn_app (goodIn_of _ (by decide +kernel)) ggX3_useOperandAt_X0_read
set_option maxRecDepth 20000 in
theorem ggX3_useOperandAt_X4_calculate : GoodIn wsX3_useOperandAt wsX4_calculate := goodIn_r _ [122, 123, 124, 125, 126, 121, 127, 128, 129, 130, 131, 132, 133, 134, 135, 136, 137, 138, 139, 140, 141, 142, 143, 144, 145, 146, 147, 168, 169, 170, 171, 172, 173] (by decide +kernel) (by decide +kernel)
set_option maxRecDepth 20000 in
theorem gX3_useOperandAt_X4_calculate : GoodIn wsX3_useOperandAt (wsV RX3 185 RX4 yX4_calculate wsX4_calculate) := goodIn_app (goodIn_of _ (by decide +kernel)) ggX3_useOperandAt_X4_calculate
set_option maxRecDepth 20000 in
theorem ggX3_useOperandAt_X3_endInstruction : GoodIn wsX3_useOperandAt wsX3_endInstruction := goodIn_r _ [151, 152, 153, 154, 155, 156, 157, 158, 159, 160, 161, 162, 163, 164, 165, 166, 167] (by decide +kernel) (by decide +kernel)
set_option maxRecDepth 20000 in
theorem gX3_useOperandAt_X3_endInstruction : GoodIn wsX3_useOperandAt (wsV RX3 61 RX3 yX3_endInstruction wsX3_endInstruction) := goodIn_app (goodIn_of _ (by decide +kernel)) ggX3_useOperandAt_X3_endInstruction
theorem dX3_useOperandAt_0 : decode cX3_useOperandAt 0 = .ok (.aload_n 0, 1) := by decide +kernel
theorem dX3_useOperandAt_1 : decode cX3_useOperandAt 1 = .ok (.invokevirtual 116, 3) := by decide +kernel
theorem dX3_useOperandAt_4 : decode cX3_useOperandAt 4 = .ok (.ifCond .eq 61, 3) := by decide +kernel
theorem dX3_useOperandAt_7 : decode cX3_useOperandAt 7 = .ok (.aload_n 0, 1) := by decide +kernel
theorem dX3_useOperandAt_8 : decode cX3_useOperandAt 8 = .ok (.getfield 26, 3) := by decide +kernel
theorem dX3_useOperandAt_11 : decode cX3_useOperandAt 11 = .ok (.iload_n 1, 1) := by decide +kernel
theorem dX3_useOperandAt_12 : decode cX3_useOperandAt 12 = .ok (.aload_n 0, 1) := by decide +kernel
theorem dX3_useOperandAt_13 : decode cX3_useOperandAt 13 = .ok (.getfield 119, 3) := by decide +kernel
theorem dX3_useOperandAt_16 : decode cX3_useOperandAt 16 = .ok (.sipush 134, 3) := by decide +kernel
theorem dX3_useOperandAt_19 : decode cX3_useOperandAt 19 = .ok (.if_icmp .ne 13, 3) := by decide +kernel
theorem dX3_useOperandAt_22 : decode cX3_useOperandAt 22 = .ok (.aload_n 0, 1) := by decide +kernel
theorem dX3_useOperandAt_23 : decode cX3_useOperandAt 23 = .ok (.getfield 12, 3) := by decide +kernel
theorem dX3_useOperandAt_26 : decode cX3_useOperandAt 26 = .ok (.getfield 176, 3) := by decide +kernel
theorem dX3_useOperandAt_29 : decode cX3_useOperandAt 29 = .ok (.goto 30, 3) := by decide +kernel
theorem dX3_useOperandAt_32 : decode cX3_useOperandAt 32 = .ok (.aload_n 0, 1) := by decide +kernel
theorem dX3_useOperandAt_33 : decode cX3_useOperandAt 33 = .ok (.getfield 119, 3) := by decide +kernel
theorem dX3_useOperandAt_36 : decode cX3_useOperandAt 36 = .ok (.sipush 132, 3) := by decide +kernel
theorem dX3_useOperandAt_39 : decode cX3_useOperandAt 39 = .ok (.if_icmp .ne 13, 3) := by decide +kernel
theorem dX3_useOperandAt_42 : decode cX3_useOperandAt 42 = .ok (.aload_n 0, 1) := by decide +kernel
theorem dX3_useOperandAt_43 : decode cX3_useOperandAt 43 = .ok (.getfield 12, 3) := by decide +kernel
theorem dX3_useOperandAt_46 : decode cX3_useOperandAt 46 = .ok (.getfield 179, 3) := by decide +kernel
theorem dX3_useOperandAt_49 : decode cX3_useOperandAt 49 = .ok (.goto 10, 3) := by decide +kernel
theorem dX3_useOperandAt_52 : decode cX3_useOperandAt 52 = .ok (.aload_n 0, 1) := by decide +kernel
theorem dX3_useOperandAt_53 : decode cX3_useOperandAt 53 = .ok (.getfield 12, 3) := by decide +kernel
theorem dX3_useOperandAt_56 : decode cX3_useOperandAt 56 = .ok (.getfield 197, 3) := by decide +kernel
theorem dX3_useOperandAt_59 : decode cX3_useOperandAt 59 = .ok (.invokevirtual 132, 3) := by decide +kernel
theorem dX3_useOperandAt_62 : decode cX3_useOperandAt 62 = .ok (.goto 24, 3) := by decide +kernel
theorem dX3_useOperandAt_65 : decode cX3_useOperandAt 65 = .ok (.aload_n 0, 1) := by decide +kernel
theorem dX3_useOperandAt_66 : decode cX3_useOperandAt 66 = .ok (.getfield 12, 3) := by decide +kernel
theorem dX3_useOperandAt_69 : decode cX3_useOperandAt 69 = .ok (.aload_n 0, 1) := by decide +kernel
theorem dX3_useOperandAt_70 : decode cX3_useOperandAt 70 = .ok (.getfield 119, 3) := by decide +kernel
theorem dX3_useOperandAt_73 : decode cX3_useOperandAt 73 = .ok (.iconst 5, 1) := by decide +kernel
theorem dX3_useOperandAt_74 : decode cX3_useOperandAt 74 = .ok (.ishr, 1) := by decide +kernel
theorem dX3_useOperandAt_75 : decode cX3_useOperandAt 75 = .ok (.aload_n 0, 1) := by decide +kernel
theorem dX3_useOperandAt_76 : decode cX3_useOperandAt 76 = .ok (.getfield 26, 3) := by decide +kernel
theorem dX3_useOperandAt_79 : decode cX3_useOperandAt 79 = .ok (.iload_n 1, 1) := by decide +kernel
theorem dX3_useOperandAt_80 : decode cX3_useOperandAt 80 = .ok (.invokevirtual 125, 3) := by decide +kernel
theorem dX3_useOperandAt_83 : decode cX3_useOperandAt 83 = .ok (.invokevirtual 185, 3) := by decide +kernel
theorem dX3_useOperandAt_86 : decode cX3_useOperandAt 86 = .ok (.aload_n 0, 1) := by decide +kernel
theorem dX3_useOperandAt_87 : decode cX3_useOperandAt 87 = .ok (.invokevirtual 61, 3) := by decide +kernel
theorem dX3_useOperandAt_90 : decode cX3_useOperandAt 90 = .ok (.return_, 1) := by decide +kernel
set_option maxRecDepth 20000 in
theorem ggX3_change_X3_nextByte : GoodIn wsX3_change wsX3_nextByte := goodIn_r _ [11, 3, 5, 12, 13, 14, 15, 16, 17, 18, 19, 20, 21, 22, 23, 24, 25, 26, 27, 28, 29, 30, 31, 32, 33, 34, 35, 36, 37, 38, 39, 40, 41, 42, 43, 44, 45, 46, 47, 48, 49, 50, 51, 52, 53, 54, 55, 56, 57, 58, 59, 60, 61, 62, 63, 64, 65, 66, 67, 68, 69, 70, 71, 72, 73, 74, 75, 131, 132, 133, 134, 135, 136, 137, 138, 139, 140, 141, 142, 143, 144, 145, 146, 147, 148, 149, 150, 151, 152, 153, 154, 155, 156, 157, 158, 159, 160, 161, 162, 163, 164, 165, 166, 167, 168, 169, 170, 171, 172, 173, 174, 175, 176, 177, 178, 179, 180, 181, 182, 183, 184, 185, 186, 187, 188] (by decide +kernel) (by decide +kernel)
set_option maxRecDepth 20000 in
theorem gX3_change_X3_nextByte : GoodIn wsX3_change (wsV RX3 148 RX3 yX3_nextByte wsX3_nextByte) := goodIn_app (goodIn_of _ (by decide +kernel)) ggX3_change_X3_nextByte
set_option maxRecDepth 20000 in
theorem ggX3_change_X0_read : GoodIn wsX3_change wsX0_read := goodIn_r _ [18, 19, 20, 21, 22, 23, 17, 24, 25, 26, 27, 28, 29, 30, 31, 32, 33, 34, 35, 36, 37, 38, 39, 40, 41, 42, 43, 44, 45, 46, 47, 48, 49, 50, 51, 52, 53, 54, 55, 56, 57, 58, 59, 60, 61, 62, 63, 64, 65, 66, 67, 68, 69, 70, 71, 72, 73, 74, 75, 151, 152, 153, 154, 155, 156, 157, 158, 159, 160, 161, 162, 163, 164, 165, 166, 167, 168, 169, 170, 171, 172, 173, 174, 175, 176, 177, 178, 179, 180, 181, 182, 183, 184, 185, 186, 187, 188] (by decide +kernel) (by decide +kernel)
set_option maxRecDepth 20000 in
theorem gX3_change_X0_read : GoodIn wsX3_change (wsV RX3 125 RX0 yX0_read wsX0_read) := goodIn_app (goodIn_of _ (by decide +kernel)) ggX3_change_X0_read
set_option maxRecDepth 20000 in
theorem ggX3_change_X0_write : GoodIn wsX3_change wsX0_write := goodIn_r _ [79, 19, 30, 37, 25, 20, 26, 27, 28, 17, 29, 80, 81, 82, 42, 83, 44, 84, 46, 47, 48, 49, 50, 51, 52, 53, 85, 86, 87, 57, 88, 59, 61, 63, 89, 90, 91, 92, 60, 93, 94, 95, 96, 97, 98, 99, 100, 101, 102, 103, 104, 105, 106, 107, 108, 109, 110, 65, 111, 112, 113, 114, 115, 116, 117, 118, 119, 71, 151, 152, 153, 154, 155, 156, 157, 158, 159, 160, 161, 162, 163, 164, 165, 166, 167, 168, 169, 170, 171, 172, 173, 174, 175, 176, 177, 178, 179, 180, 181, 182, 183, 184, 185, 186, 187, 188] (by decide +kernel) (by decide +kernel)
set_option maxRecDepth 20000 in
theorem gX3_change_X0_write : GoodIn wsX3_change (wsV RX3 132 RX0 yX0_write wsX0_write) := goodIn_app (goodIn_of _ (by decide +kernel)) ggX3_change_X0_write
set_option maxRecDepth 20000 in
theorem ggX3_change_X4_judged : GoodIn wsX3_change wsX4_judged := goodIn_r _ [124, 125, 145, 146, 147, 148, 149, 150] (by decide +kernel) (by decide +kernel)
set_option maxRecDepth 20000 in
theorem gX3_change_X4_judged : GoodIn wsX3_change (wsV RX3 173 RX4 yX4_judged wsX4_judged) := goodIn_app (goodIn_of _ (by decide +kernel)) ggX3_change_X4_judged
set_option maxRecDepth 20000 in
theorem ggX3_change_X3_endInstruction : GoodIn wsX3_change wsX3_endInstruction := goodIn_r _ [129, 130, 1, 131, 132, 133, 134, 135, 136, 137, 138, 139, 140, 141, 142, 143, 144] (by decide +kernel) (by decide +kernel)
set_option maxRecDepth 20000 in
theorem gX3_change_X3_endInstruction : GoodIn wsX3_change (wsV RX3 61 RX3 yX3_endInstruction wsX3_endInstruction) := goodIn_app (goodIn_of _ (by decide +kernel)) ggX3_change_X3_endInstruction
theorem dX3_change_0 : decode cX3_change 0 = .ok (.aload_n 0, 1) := by decide +kernel
theorem dX3_change_1 : decode cX3_change 1 = .ok (.getfield 68, 3) := by decide +kernel
theorem dX3_change_4 : decode cX3_change 4 = .ok (.tableswitch 75 2 4 #[28, 39, 57], 28) := by decide +kernel
theorem dX3_change_32 : decode cX3_change 32 = .ok (.aload_n 0, 1) := by decide +kernel
theorem dX3_change_33 : decode cX3_change 33 = .ok (.aload_n 0, 1) := by decide +kernel
theorem dX3_change_34 : decode cX3_change 34 = .ok (.invokevirtual 148, 3) := by decide +kernel
theorem dX3_change_37 : decode cX3_change 37 = .ok (.putfield 168, 3) := by decide +kernel
theorem dX3_change_40 : decode cX3_change 40 = .ok (.goto 86, 3) := by decide +kernel
theorem dX3_change_43 : decode cX3_change 43 = .ok (.aload_n 0, 1) := by decide +kernel
theorem dX3_change_44 : decode cX3_change 44 = .ok (.aload_n 0, 1) := by decide +kernel
theorem dX3_change_45 : decode cX3_change 45 = .ok (.getfield 26, 3) := by decide +kernel
theorem dX3_change_48 : decode cX3_change 48 = .ok (.aload_n 0, 1) := by decide +kernel
theorem dX3_change_49 : decode cX3_change 49 = .ok (.getfield 168, 3) := by decide +kernel
theorem dX3_change_52 : decode cX3_change 52 = .ok (.invokevirtual 125, 3) := by decide +kernel
theorem dX3_change_55 : decode cX3_change 55 = .ok (.putfield 200, 3) := by decide +kernel
theorem dX3_change_58 : decode cX3_change 58 = .ok (.goto 68, 3) := by decide +kernel
theorem dX3_change_61 : decode cX3_change 61 = .ok (.aload_n 0, 1) := by decide +kernel
theorem dX3_change_62 : decode cX3_change 62 = .ok (.getfield 26, 3) := by decide +kernel
theorem dX3_change_65 : decode cX3_change 65 = .ok (.aload_n 0, 1) := by decide +kernel
theorem dX3_change_66 : decode cX3_change 66 = .ok (.getfield 168, 3) := by decide +kernel
theorem dX3_change_69 : decode cX3_change 69 = .ok (.aload_n 0, 1) := by decide +kernel
theorem dX3_change_70 : decode cX3_change 70 = .ok (.getfield 200, 3) := by decide +kernel
theorem dX3_change_73 : decode cX3_change 73 = .ok (.invokevirtual 132, 3) := by decide +kernel
theorem dX3_change_76 : decode cX3_change 76 = .ok (.goto 50, 3) := by decide +kernel
theorem dX3_change_79 : decode cX3_change 79 = .ok (.aload_n 0, 1) := by decide +kernel
theorem dX3_change_80 : decode cX3_change 80 = .ok (.getfield 26, 3) := by decide +kernel
theorem dX3_change_83 : decode cX3_change 83 = .ok (.aload_n 0, 1) := by decide +kernel
theorem dX3_change_84 : decode cX3_change 84 = .ok (.getfield 168, 3) := by decide +kernel
theorem dX3_change_87 : decode cX3_change 87 = .ok (.aload_n 0, 1) := by decide +kernel
theorem dX3_change_88 : decode cX3_change 88 = .ok (.getfield 12, 3) := by decide +kernel
theorem dX3_change_91 : decode cX3_change 91 = .ok (.aload_n 0, 1) := by decide +kernel
theorem dX3_change_92 : decode cX3_change 92 = .ok (.getfield 119, 3) := by decide +kernel
theorem dX3_change_95 : decode cX3_change 95 = .ok (.sipush 230, 3) := by decide +kernel
theorem dX3_change_98 : decode cX3_change 98 = .ok (.if_icmp .ne 12, 3) := by decide +kernel
theorem dX3_change_101 : decode cX3_change 101 = .ok (.aload_n 0, 1) := by decide +kernel
theorem dX3_change_102 : decode cX3_change 102 = .ok (.getfield 200, 3) := by decide +kernel
theorem dX3_change_105 : decode cX3_change 105 = .ok (.iconst 1, 1) := by decide +kernel
theorem dX3_change_106 : decode cX3_change 106 = .ok (.iadd, 1) := by decide +kernel
theorem dX3_change_107 : decode cX3_change 107 = .ok (.goto 9, 3) := by decide +kernel
theorem dX3_change_110 : decode cX3_change 110 = .ok (.aload_n 0, 1) := by decide +kernel
theorem dX3_change_111 : decode cX3_change 111 = .ok (.getfield 200, 3) := by decide +kernel
theorem dX3_change_114 : decode cX3_change 114 = .ok (.iconst 1, 1) := by decide +kernel
theorem dX3_change_115 : decode cX3_change 115 = .ok (.isub, 1) := by decide +kernel
theorem dX3_change_116 : decode cX3_change 116 = .ok (.invokevirtual 173, 3) := by decide +kernel
theorem dX3_change_119 : decode cX3_change 119 = .ok (.invokevirtual 132, 3) := by decide +kernel
theorem dX3_change_122 : decode cX3_change 122 = .ok (.aload_n 0, 1) := by decide +kernel
theorem dX3_change_123 : decode cX3_change 123 = .ok (.invokevirtual 61, 3) := by decide +kernel
theorem dX3_change_126 : decode cX3_change 126 = .ok (.return_, 1) := by decide +kernel
set_option maxRecDepth 20000 in
theorem ggX3_branch_X3_nextByte : GoodIn wsX3_branch wsX3_nextByte := goodIn_r _ [13, 5, 3, 6, 8, 14, 15, 16, 17, 18, 19, 20, 21, 22, 23, 24, 25, 26, 27, 28, 29, 30, 31, 32, 33, 34, 35, 36, 37, 38, 39, 40, 41, 42, 43, 44, 45, 46, 47, 48, 49, 50, 51, 52, 53, 54, 55, 56, 57, 58, 59, 60, 61, 62, 63, 64, 65, 66, 67, 68, 69, 70, 71, 72, 73, 74, 75, 98, 99, 100, 101, 102, 103, 104, 105, 106, 107, 108, 109, 110, 111, 112, 113, 114, 115, 116, 117, 118, 119, 120, 121, 122, 123, 124, 125, 126, 127, 128, 129, 130, 131, 132, 133, 134, 135, 136, 137, 138, 139, 140, 141, 142, 143, 144, 145, 146, 147, 148, 149, 150, 151, 152, 153, 154, 155] (by decide +kernel) (by decide +kernel)
set_option maxRecDepth 20000 in
theorem gX3_branch_X3_nextByte : GoodIn wsX3_branch (wsV RX3 148 RX3 yX3_nextByte wsX3_nextByte) := goodIn_app (goodIn_of _ (by decide +kernel)) ggX3_branch_X3_nextByte
set_option maxRecDepth 20000 in
theorem ggX3_branch_X4_branches : GoodIn wsX3_branch wsX4_branches := goodIn_r _ [80, 81, 82, 83, 79, 84, 85, 112, 113, 114, 115, 116, 117] (by decide +kernel) (by decide +kernel)
set_option maxRecDepth 20000 in
theorem gX3_branch_X4_branches : GoodIn wsX3_branch (wsV RX3 203 RX4 yX4_branches wsX4_branches) := goodIn_app (goodIn_of _ (by decide +kernel)) ggX3_branch_X4_branches
set_option maxRecDepth 20000 in
theorem ggX3_branch_X3_endInstruction : GoodIn wsX3_branch wsX3_endInstruction := goodIn_r _ [89, 90, 1, 98, 99, 100, 101, 102, 103, 104, 105, 106, 107, 108, 109, 110, 111] (by decide +kernel) (by decide +kernel)
set_option maxRecDepth 20000 in
theorem gX3_branch_X3_endInstruction : GoodIn wsX3_branch (wsV RX3 61 RX3 yX3_endInstruction wsX3_endInstruction) := goodIn_app (goodIn_of _ (by decide +kernel)) ggX3_branch_X3_endInstruction
set_option maxRecDepth 20000 in
theorem ggX3_branch_X3_branchLow : GoodIn wsX3_branch wsX3_branchLow := goodIn_r _ [94, 5, 3, 6, 2, 7, 14, 15, 16, 17, 18, 19, 20, 21, 22, 23, 24, 25, 26, 27, 28, 29, 30, 31, 32, 33, 34, 35, 36, 37, 38, 39, 40, 41, 42, 43, 44, 45, 46, 47, 48, 49, 50, 51, 52, 53, 54, 55, 56, 57, 58, 59, 60, 61, 62, 63, 64, 65, 66, 67, 68, 69, 70, 71, 72, 73, 74, 75, 95, 96, 12, 97, 86, 87, 88, 89, 90, 1, 98, 99, 100, 101, 102, 103, 104, 105, 106, 107, 108, 109, 110, 111, 112, 113, 114, 115, 116, 117, 118, 119, 120, 121, 122, 123, 124, 125, 126, 127, 128, 129, 130, 131, 132, 133, 134, 135, 136, 137, 138, 139, 140, 141, 142, 143, 144, 145, 146, 147, 148, 149, 150, 151, 152, 153, 154, 155] (by decide +kernel) (by decide +kernel)
set_option maxRecDepth 20000 in
theorem gX3_branch_X3_branchLow : GoodIn wsX3_branch (wsV RX3 206 RX3 yX3_branchLow wsX3_branchLow) := goodIn_app (goodIn_of _ (by decide +kernel)) ggX3_branch_X3_branchLow
set_option maxRecDepth 20000 in
theorem ggX3_branch_X0_read : GoodIn wsX3_branch wsX0_read := goodIn_r _ [18, 19, 20, 21, 22, 23, 17, 24, 25, 26, 27, 28, 29, 30, 31, 32, 33, 34, 35, 36, 37, 38, 39, 40, 41, 42, 43, 44, 45, 46, 47, 48, 49, 50, 51, 52, 53, 54, 55, 56, 57, 58, 59, 60, 61, 62, 63, 64, 65, 66, 67, 68, 69, 70, 71, 72, 73, 74, 75, 118, 119, 120, 121, 122, 123, 124, 125, 126, 127, 128, 129, 130, 131, 132, 133, 134, 135, 136, 137, 138, 139, 140, 141, 142, 143, 144, 145, 146, 147, 148, 149, 150, 151, 152, 153, 154, 155] (by decide +kernel) (by decide +kernel)
set_option maxRecDepth 20000 in
theorem gX3_branch_X0_read : GoodIn wsX3_branch (wsV RX3 125 RX0 yX0_read wsX0_read) := goodIn_app (goodIn_of _ (by decide +kernel)) ggX3_branch_X0_read
theorem dX3_branch_0 : decode cX3_branch 0 = .ok (.aload_n 0, 1) := by decide +kernel
theorem dX3_branch_1 : decode cX3_branch 1 = .ok (.getfield 68, 3) := by decide +kernel
theorem dX3_branch_4 : decode cX3_branch 4 = .ok (.lookupswitch 64 #[(2, 28), (3, 57)], 28) := by decide +kernel
theorem dX3_branch_32 : decode cX3_branch 32 = .ok (.aload_n 0, 1) := by decide +kernel
theorem dX3_branch_33 : decode cX3_branch 33 = .ok (.aload_n 0, 1) := by decide +kernel
theorem dX3_branch_34 : decode cX3_branch 34 = .ok (.invokevirtual 148, 3) := by decide +kernel
theorem dX3_branch_37 : decode cX3_branch 37 = .ok (.putfield 168, 3) := by decide +kernel
theorem dX3_branch_40 : decode cX3_branch 40 = .ok (.aload_n 0, 1) := by decide +kernel
theorem dX3_branch_41 : decode cX3_branch 41 = .ok (.getfield 12, 3) := by decide +kernel
theorem dX3_branch_44 : decode cX3_branch 44 = .ok (.aload_n 0, 1) := by decide +kernel
theorem dX3_branch_45 : decode cX3_branch 45 = .ok (.getfield 119, 3) := by decide +kernel
theorem dX3_branch_48 : decode cX3_branch 48 = .ok (.invokevirtual 203, 3) := by decide +kernel
theorem dX3_branch_51 : decode cX3_branch 51 = .ok (.ifCond .ne 58, 3) := by decide +kernel
theorem dX3_branch_54 : decode cX3_branch 54 = .ok (.aload_n 0, 1) := by decide +kernel
theorem dX3_branch_55 : decode cX3_branch 55 = .ok (.invokevirtual 61, 3) := by decide +kernel
theorem dX3_branch_58 : decode cX3_branch 58 = .ok (.goto 51, 3) := by decide +kernel
theorem dX3_branch_61 : decode cX3_branch 61 = .ok (.aload_n 0, 1) := by decide +kernel
theorem dX3_branch_62 : decode cX3_branch 62 = .ok (.invokevirtual 206, 3) := by decide +kernel
theorem dX3_branch_65 : decode cX3_branch 65 = .ok (.goto 44, 3) := by decide +kernel
theorem dX3_branch_68 : decode cX3_branch 68 = .ok (.aload_n 0, 1) := by decide +kernel
theorem dX3_branch_69 : decode cX3_branch 69 = .ok (.getfield 26, 3) := by decide +kernel
theorem dX3_branch_72 : decode cX3_branch 72 = .ok (.aload_n 0, 1) := by decide +kernel
theorem dX3_branch_73 : decode cX3_branch 73 = .ok (.getfield 12, 3) := by decide +kernel
theorem dX3_branch_76 : decode cX3_branch 76 = .ok (.getfield 122, 3) := by decide +kernel
theorem dX3_branch_79 : decode cX3_branch 79 = .ok (.invokevirtual 125, 3) := by decide +kernel
theorem dX3_branch_82 : decode cX3_branch 82 = .ok (.pop, 1) := by decide +kernel
theorem dX3_branch_83 : decode cX3_branch 83 = .ok (.aload_n 0, 1) := by decide +kernel
theorem dX3_branch_84 : decode cX3_branch 84 = .ok (.getfield 12, 3) := by decide +kernel
theorem dX3_branch_87 : decode cX3_branch 87 = .ok (.aload_n 0, 1) := by decide +kernel
theorem dX3_branch_88 : decode cX3_branch 88 = .ok (.getfield 12, 3) := by decide +kernel
theorem dX3_branch_91 : decode cX3_branch 91 = .ok (.getfield 122, 3) := by decide +kernel
theorem dX3_branch_94 : decode cX3_branch 94 = .ok (.aload_n 0, 1) := by decide +kernel
theorem dX3_branch_95 : decode cX3_branch 95 = .ok (.getfield 209, 3) := by decide +kernel
theorem dX3_branch_98 : decode cX3_branch 98 = .ok (.iadd, 1) := by decide +kernel
theorem dX3_branch_99 : decode cX3_branch 99 = .ok (.ldc 128, 2) := by decide +kernel
theorem dX3_branch_101 : decode cX3_branch 101 = .ok (.iand, 1) := by decide +kernel
theorem dX3_branch_102 : decode cX3_branch 102 = .ok (.putfield 122, 3) := by decide +kernel
theorem dX3_branch_105 : decode cX3_branch 105 = .ok (.aload_n 0, 1) := by decide +kernel
theorem dX3_branch_106 : decode cX3_branch 106 = .ok (.invokevirtual 61, 3) := by decide +kernel
theorem dX3_branch_109 : decode cX3_branch 109 = .ok (.return_, 1) := by decide +kernel
set_option maxRecDepth 20000 in
theorem ggX3_branchLow_X0_read : GoodIn wsX3_branchLow wsX0_read := goodIn_r _ [10, 11, 12, 13, 14, 15, 9, 16, 17, 18, 19, 20, 21, 22, 23, 24, 25, 26, 27, 28, 29, 30, 31, 32, 33, 34, 35, 36, 37, 38, 39, 40, 41, 42, 43, 44, 45, 46, 47, 48, 49, 50, 51, 52, 53, 54, 55, 56, 57, 58, 59, 60, 61, 62, 63, 64, 65, 66, 67, 98, 99, 100, 101, 102, 103, 104, 105, 106, 107, 108, 109, 110, 111, 112, 113, 114, 115, 116, 117, 118, 119, 120, 121, 122, 123, 124, 125, 126, 127, 128, 129, 130, 131, 132, 133, 134, 135] (by decide +kernel) (by decide +kernel)
set_option maxRecDepth 20000 in
theorem gX3_branchLow_X0_read : GoodIn wsX3_branchLow (wsV RX3 125 RX0 yX0_read wsX0_read) := goodIn_app (goodIn_of _ (by decide +kernel)) ggX3_branchLow_X0_read
set_option maxRecDepth 20000 in
theorem ggX3_branchLow_X3_word : GoodIn wsX3_branchLow wsX3_word := goodIn_r _ [71] (by decide +kernel) (by decide +kernel)
set_option maxRecDepth 20000 in
theorem gX3_branchLow_X3_word : GoodIn wsX3_branchLow (va_wsS RX3 44 yX3_word wsX3_word) := goodIn_app (goodIn_of _ (by decide +kernel)) ggX3_branchLow_X3_word
set_option maxRecDepth 20000 in
theorem ggX3_branchLow_X3_endInstruction : GoodIn wsX3_branchLow wsX3_endInstruction := goodIn_r _ [75, 76, 77, 78, 79, 80, 81, 82, 83, 84, 85, 86, 87, 88, 89, 90, 91] (by decide +kernel) (by decide +kernel)
set_option maxRecDepth 20000 in
theorem gX3_branchLow_X3_endInstruction : GoodIn wsX3_branchLow (wsV RX3 61 RX3 yX3_endInstruction wsX3_endInstruction) := goodIn_app (goodIn_of _ (by decide +kernel)) ggX3_branchLow_X3_endInstruction
theorem dX3_branchLow_0 : decode cX3_branchLow 0 = .ok (.aload_n 0, 1) := by decide +kernel
theorem dX3_branchLow_1 : decode cX3_branchLow 1 = .ok (.getfield 26, 3) := by decide +kernel
theorem dX3_branchLow_4 : decode cX3_branchLow 4 = .ok (.aload_n 0, 1) := by decide +kernel
theorem dX3_branchLow_5 : decode cX3_branchLow 5 = .ok (.getfield 12, 3) := by decide +kernel
theorem dX3_branchLow_8 : decode cX3_branchLow 8 = .ok (.getfield 122, 3) := by decide +kernel
theorem dX3_branchLow_11 : decode cX3_branchLow 11 = .ok (.invokevirtual 125, 3) := by decide +kernel
theorem dX3_branchLow_14 : decode cX3_branchLow 14 = .ok (.pop, 1) := by decide +kernel
theorem dX3_branchLow_15 : decode cX3_branchLow 15 = .ok (.aload_n 0, 1) := by decide +kernel
theorem dX3_branchLow_16 : decode cX3_branchLow 16 = .ok (.getfield 12, 3) := by decide +kernel
theorem dX3_branchLow_19 : decode cX3_branchLow 19 = .ok (.getfield 122, 3) := by decide +kernel
theorem dX3_branchLow_22 : decode cX3_branchLow 22 = .ok (.sipush 255, 3) := by decide +kernel
theorem dX3_branchLow_25 : decode cX3_branchLow 25 = .ok (.iand, 1) := by decide +kernel
theorem dX3_branchLow_26 : decode cX3_branchLow 26 = .ok (.aload_n 0, 1) := by decide +kernel
theorem dX3_branchLow_27 : decode cX3_branchLow 27 = .ok (.getfield 168, 3) := by decide +kernel
theorem dX3_branchLow_30 : decode cX3_branchLow 30 = .ok (.sipush 128, 3) := by decide +kernel
theorem dX3_branchLow_33 : decode cX3_branchLow 33 = .ok (.if_icmp .ge 10, 3) := by decide +kernel
theorem dX3_branchLow_36 : decode cX3_branchLow 36 = .ok (.aload_n 0, 1) := by decide +kernel
theorem dX3_branchLow_37 : decode cX3_branchLow 37 = .ok (.getfield 168, 3) := by decide +kernel
theorem dX3_branchLow_40 : decode cX3_branchLow 40 = .ok (.goto 11, 3) := by decide +kernel
theorem dX3_branchLow_43 : decode cX3_branchLow 43 = .ok (.aload_n 0, 1) := by decide +kernel
theorem dX3_branchLow_44 : decode cX3_branchLow 44 = .ok (.getfield 168, 3) := by decide +kernel
theorem dX3_branchLow_47 : decode cX3_branchLow 47 = .ok (.sipush 256, 3) := by decide +kernel
theorem dX3_branchLow_50 : decode cX3_branchLow 50 = .ok (.isub, 1) := by decide +kernel
theorem dX3_branchLow_51 : decode cX3_branchLow 51 = .ok (.iadd, 1) := by decide +kernel
theorem dX3_branchLow_52 : decode cX3_branchLow 52 = .ok (.istore_n 1, 1) := by decide +kernel
theorem dX3_branchLow_53 : decode cX3_branchLow 53 = .ok (.aload_n 0, 1) := by decide +kernel
theorem dX3_branchLow_54 : decode cX3_branchLow 54 = .ok (.getfield 12, 3) := by decide +kernel
theorem dX3_branchLow_57 : decode cX3_branchLow 57 = .ok (.iload_n 1, 1) := by decide +kernel
theorem dX3_branchLow_58 : decode cX3_branchLow 58 = .ok (.sipush 255, 3) := by decide +kernel
theorem dX3_branchLow_61 : decode cX3_branchLow 61 = .ok (.iand, 1) := by decide +kernel
theorem dX3_branchLow_62 : decode cX3_branchLow 62 = .ok (.aload_n 0, 1) := by decide +kernel
theorem dX3_branchLow_63 : decode cX3_branchLow 63 = .ok (.getfield 12, 3) := by decide +kernel
theorem dX3_branchLow_66 : decode cX3_branchLow 66 = .ok (.getfield 122, 3) := by decide +kernel
theorem dX3_branchLow_69 : decode cX3_branchLow 69 = .ok (.bipush 8, 2) := by decide +kernel
theorem dX3_branchLow_71 : decode cX3_branchLow 71 = .ok (.ishr, 1) := by decide +kernel
theorem dX3_branchLow_72 : decode cX3_branchLow 72 = .ok (.invokestatic 44, 3) := by decide +kernel
theorem dX3_branchLow_75 : decode cX3_branchLow 75 = .ok (.putfield 122, 3) := by decide +kernel
theorem dX3_branchLow_78 : decode cX3_branchLow 78 = .ok (.aload_n 0, 1) := by decide +kernel
theorem dX3_branchLow_79 : decode cX3_branchLow 79 = .ok (.iload_n 1, 1) := by decide +kernel
theorem dX3_branchLow_80 : decode cX3_branchLow 80 = .ok (.iload_n 1, 1) := by decide +kernel
theorem dX3_branchLow_81 : decode cX3_branchLow 81 = .ok (.sipush 255, 3) := by decide +kernel
theorem dX3_branchLow_84 : decode cX3_branchLow 84 = .ok (.iand, 1) := by decide +kernel
theorem dX3_branchLow_85 : decode cX3_branchLow 85 = .ok (.isub, 1) := by decide +kernel
theorem dX3_branchLow_86 : decode cX3_branchLow 86 = .ok (.putfield 209, 3) := by decide +kernel
theorem dX3_branchLow_89 : decode cX3_branchLow 89 = .ok (.aload_n 0, 1) := by decide +kernel
theorem dX3_branchLow_90 : decode cX3_branchLow 90 = .ok (.getfield 209, 3) := by decide +kernel
theorem dX3_branchLow_93 : decode cX3_branchLow 93 = .ok (.ifCond .ne 7, 3) := by decide +kernel
theorem dX3_branchLow_96 : decode cX3_branchLow 96 = .ok (.aload_n 0, 1) := by decide +kernel
theorem dX3_branchLow_97 : decode cX3_branchLow 97 = .ok (.invokevirtual 61, 3) := by decide +kernel
theorem dX3_branchLow_100 : decode cX3_branchLow 100 = .ok (.return_, 1) := by decide +kernel
set_option maxRecDepth 20000 in
theorem ggX3_jump_X3_nextByte : GoodIn wsX3_jump wsX3_nextByte := goodIn_r _ [9, 10, 3, 4, 11, 12, 13, 14, 15, 16, 17, 18, 19, 20, 21, 22, 23, 24, 25, 26, 27, 28, 29, 30, 31, 32, 33, 34, 35, 36, 37, 38, 39, 40, 41, 42, 43, 44, 45, 46, 47, 48, 49, 50, 51, 52, 53, 54, 55, 56, 57, 58, 59, 60, 61, 62, 63, 64, 65, 66, 67, 68, 69, 70, 71, 72, 73, 82, 83, 84, 85, 86, 87, 88, 89, 90, 91, 92, 93, 94, 95, 96, 97, 98, 99, 100, 101, 102, 103, 104, 105, 106, 107, 108, 109, 110, 111, 112, 113, 114, 115, 116, 117, 118, 119, 120, 121, 122, 123, 124, 125, 126, 127, 128, 129, 130, 131, 132, 133, 134, 135, 136, 137, 138, 139] (by decide +kernel) (by decide +kernel)
set_option maxRecDepth 20000 in
theorem gX3_jump_X3_nextByte : GoodIn wsX3_jump (wsV RX3 148 RX3 yX3_nextByte wsX3_nextByte) := goodIn_app (goodIn_of _ (by decide +kernel)) ggX3_jump_X3_nextByte
set_option maxRecDepth 20000 in
theorem ggX3_jump_X3_word : GoodIn wsX3_jump wsX3_word := goodIn_r _ [76] (by decide +kernel) (by decide +kernel)
set_option maxRecDepth 20000 in
theorem gX3_jump_X3_word : GoodIn wsX3_jump (va_wsS RX3 44 yX3_word wsX3_word) := goodIn_app (goodIn_of _ (by decide +kernel)) ggX3_jump_X3_word
set_option maxRecDepth 20000 in
theorem ggX3_jump_X3_endInstruction : GoodIn wsX3_jump wsX3_endInstruction := goodIn_r _ [80, 81, 1, 82, 83, 84, 85, 86, 87, 88, 89, 90, 91, 92, 93, 94, 95] (by decide +kernel) (by decide +kernel)
set_option maxRecDepth 20000 in
theorem gX3_jump_X3_endInstruction : GoodIn wsX3_jump (wsV RX3 61 RX3 yX3_endInstruction wsX3_endInstruction) := goodIn_app (goodIn_of _ (by decide +kernel)) ggX3_jump_X3_endInstruction
theorem dX3_jump_0 : decode cX3_jump 0 = .ok (.aload_n 0, 1) := by decide +kernel
theorem dX3_jump_1 : decode cX3_jump 1 = .ok (.getfield 68, 3) := by decide +kernel
theorem dX3_jump_4 : decode cX3_jump 4 = .ok (.iconst 2, 1) := by decide +kernel
theorem dX3_jump_5 : decode cX3_jump 5 = .ok (.if_icmp .ne 14, 3) := by decide +kernel
theorem dX3_jump_8 : decode cX3_jump 8 = .ok (.aload_n 0, 1) := by decide +kernel
theorem dX3_jump_9 : decode cX3_jump 9 = .ok (.aload_n 0, 1) := by decide +kernel
theorem dX3_jump_10 : decode cX3_jump 10 = .ok (.invokevirtual 148, 3) := by decide +kernel
theorem dX3_jump_13 : decode cX3_jump 13 = .ok (.putfield 168, 3) := by decide +kernel
theorem dX3_jump_16 : decode cX3_jump 16 = .ok (.goto 25, 3) := by decide +kernel
theorem dX3_jump_19 : decode cX3_jump 19 = .ok (.aload_n 0, 1) := by decide +kernel
theorem dX3_jump_20 : decode cX3_jump 20 = .ok (.getfield 12, 3) := by decide +kernel
theorem dX3_jump_23 : decode cX3_jump 23 = .ok (.aload_n 0, 1) := by decide +kernel
theorem dX3_jump_24 : decode cX3_jump 24 = .ok (.getfield 168, 3) := by decide +kernel
theorem dX3_jump_27 : decode cX3_jump 27 = .ok (.aload_n 0, 1) := by decide +kernel
theorem dX3_jump_28 : decode cX3_jump 28 = .ok (.invokevirtual 148, 3) := by decide +kernel
theorem dX3_jump_31 : decode cX3_jump 31 = .ok (.invokestatic 44, 3) := by decide +kernel
theorem dX3_jump_34 : decode cX3_jump 34 = .ok (.putfield 122, 3) := by decide +kernel
theorem dX3_jump_37 : decode cX3_jump 37 = .ok (.aload_n 0, 1) := by decide +kernel
theorem dX3_jump_38 : decode cX3_jump 38 = .ok (.invokevirtual 61, 3) := by decide +kernel
theorem dX3_jump_41 : decode cX3_jump 41 = .ok (.return_, 1) := by decide +kernel
set_option maxRecDepth 20000 in
theorem ggX3_call_X3_nextByte : GoodIn wsX3_call wsX3_nextByte := goodIn_r _ [9, 10, 3, 4, 11, 12, 13, 14, 15, 16, 17, 18, 19, 20, 21, 22, 23, 24, 25, 26, 27, 28, 29, 30, 31, 32, 33, 34, 35, 36, 37, 38, 39, 40, 41, 42, 43, 44, 45, 46, 47, 48, 49, 50, 51, 52, 53, 54, 55, 56, 57, 58, 59, 60, 61, 62, 63, 64, 65, 66, 67, 68, 69, 70, 71, 72, 73, 135, 136, 137, 138, 139, 140, 141, 142, 143, 144, 145, 146, 147, 148, 149, 150, 151, 152, 153, 154, 155, 156, 157, 158, 159, 160, 161, 162, 163, 164, 165, 166, 167, 168, 169, 170, 171, 172, 173, 174, 175, 176, 177, 178, 179, 180, 181, 182, 183, 184, 185, 186, 187, 188, 189, 190, 191, 192] (by decide +kernel) (by decide +kernel)
set_option maxRecDepth 20000 in
theorem gX3_call_X3_nextByte : GoodIn wsX3_call (wsV RX3 148 RX3 yX3_nextByte wsX3_nextByte) := goodIn_app (goodIn_of _ (by decide +kernel)) ggX3_call_X3_nextByte
set_option maxRecDepth 20000 in
theorem ggX3_call_X3_readStack : GoodIn wsX3_call wsX3_readStack := goodIn_r _ [77, 10, 3, 78, 12, 13, 14, 15, 16, 17, 18, 19, 20, 21, 22, 23, 24, 25, 26, 27, 28, 29, 30, 31, 32, 33, 34, 35, 36, 37, 38, 39, 40, 41, 42, 43, 44, 45, 46, 47, 48, 49, 50, 51, 52, 53, 54, 55, 56, 57, 58, 59, 60, 61, 62, 63, 64, 65, 66, 67, 68, 69, 70, 71, 72, 73, 135, 136, 137, 138, 139, 140, 141, 142, 143, 144, 145, 146, 147, 148, 149, 150, 151, 152, 153, 154, 155, 156, 157, 158, 159, 160, 161, 162, 163, 164, 165, 166, 167, 168, 169, 170, 171, 172, 173, 174, 175, 176, 177, 178, 179, 180, 181, 182, 183, 184, 185, 186, 187, 188, 189, 190, 191, 192] (by decide +kernel) (by decide +kernel)
set_option maxRecDepth 20000 in
theorem gX3_call_X3_readStack : GoodIn wsX3_call (wsV RX3 212 RX3 yX3_readStack wsX3_readStack) := goodIn_app (goodIn_of _ (by decide +kernel)) ggX3_call_X3_readStack
set_option maxRecDepth 20000 in
theorem ggX3_call_X3_push : GoodIn wsX3_call wsX3_push := goodIn_r _ [82, 10, 3, 78, 83, 84, 85, 15, 86, 17, 28, 35, 23, 18, 24, 25, 26, 27, 87, 88, 89, 40, 90, 42, 91, 44, 45, 46, 47, 48, 49, 50, 51, 92, 93, 94, 55, 95, 57, 59, 61, 96, 97, 98, 99, 58, 100, 101, 102, 103, 104, 105, 106, 107, 108, 109, 110, 111, 112, 113, 114, 115, 116, 117, 63, 118, 119, 120, 121, 122, 123, 124, 125, 126, 69, 135, 136, 137, 138, 139, 140, 141, 142, 143, 144, 145, 146, 147, 148, 149, 150, 151, 152, 153, 154, 155, 156, 157, 158, 159, 160, 161, 162, 163, 164, 165, 166, 167, 168, 169, 170, 171, 172, 173, 174, 175, 176, 177, 178, 179, 180, 181, 182, 183, 184, 185, 186, 187, 188, 189, 190, 191, 192] (by decide +kernel) (by decide +kernel)
set_option maxRecDepth 20000 in
theorem gX3_call_X3_push : GoodIn wsX3_call (wsV RX3 158 RX3 yX3_push wsX3_push) := goodIn_app (goodIn_of _ (by decide +kernel)) ggX3_call_X3_push
set_option maxRecDepth 20000 in
theorem ggX3_call_X3_word : GoodIn wsX3_call wsX3_word := goodIn_r _ [129] (by decide +kernel) (by decide +kernel)
set_option maxRecDepth 20000 in
theorem gX3_call_X3_word : GoodIn wsX3_call (va_wsS RX3 44 yX3_word wsX3_word) := goodIn_app (goodIn_of _ (by decide +kernel)) ggX3_call_X3_word
set_option maxRecDepth 20000 in
theorem ggX3_call_X3_endInstruction : GoodIn wsX3_call wsX3_endInstruction := goodIn_r _ [133, 134, 1, 135, 136, 137, 138, 139, 140, 141, 142, 143, 144, 145, 146, 147, 148] (by decide +kernel) (by decide +kernel)
set_option maxRecDepth 20000 in
theorem gX3_call_X3_endInstruction : GoodIn wsX3_call (wsV RX3 61 RX3 yX3_endInstruction wsX3_endInstruction) := goodIn_app (goodIn_of _ (by decide +kernel)) ggX3_call_X3_endInstruction
theorem dX3_call_0 : decode cX3_call 0 = .ok (.aload_n 0, 1) := by decide +kernel
theorem dX3_call_1 : decode cX3_call 1 = .ok (.getfield 68, 3) := by decide +kernel
theorem dX3_call_4 : decode cX3_call 4 = .ok (.tableswitch 86 2 5 #[32, 43, 51, 68], 32) := by decide +kernel
theorem dX3_call_36 : decode cX3_call 36 = .ok (.aload_n 0, 1) := by decide +kernel
theorem dX3_call_37 : decode cX3_call 37 = .ok (.aload_n 0, 1) := by decide +kernel
theorem dX3_call_38 : decode cX3_call 38 = .ok (.invokevirtual 148, 3) := by decide +kernel
theorem dX3_call_41 : decode cX3_call 41 = .ok (.putfield 168, 3) := by decide +kernel
theorem dX3_call_44 : decode cX3_call 44 = .ok (.goto 68, 3) := by decide +kernel
theorem dX3_call_47 : decode cX3_call 47 = .ok (.aload_n 0, 1) := by decide +kernel
theorem dX3_call_48 : decode cX3_call 48 = .ok (.invokevirtual 212, 3) := by decide +kernel
theorem dX3_call_51 : decode cX3_call 51 = .ok (.pop, 1) := by decide +kernel
theorem dX3_call_52 : decode cX3_call 52 = .ok (.goto 60, 3) := by decide +kernel
theorem dX3_call_55 : decode cX3_call 55 = .ok (.aload_n 0, 1) := by decide +kernel
theorem dX3_call_56 : decode cX3_call 56 = .ok (.aload_n 0, 1) := by decide +kernel
theorem dX3_call_57 : decode cX3_call 57 = .ok (.getfield 12, 3) := by decide +kernel
theorem dX3_call_60 : decode cX3_call 60 = .ok (.getfield 122, 3) := by decide +kernel
theorem dX3_call_63 : decode cX3_call 63 = .ok (.bipush 8, 2) := by decide +kernel
theorem dX3_call_65 : decode cX3_call 65 = .ok (.ishr, 1) := by decide +kernel
theorem dX3_call_66 : decode cX3_call 66 = .ok (.invokevirtual 158, 3) := by decide +kernel
theorem dX3_call_69 : decode cX3_call 69 = .ok (.goto 43, 3) := by decide +kernel
theorem dX3_call_72 : decode cX3_call 72 = .ok (.aload_n 0, 1) := by decide +kernel
theorem dX3_call_73 : decode cX3_call 73 = .ok (.aload_n 0, 1) := by decide +kernel
theorem dX3_call_74 : decode cX3_call 74 = .ok (.getfield 12, 3) := by decide +kernel
theorem dX3_call_77 : decode cX3_call 77 = .ok (.getfield 122, 3) := by decide +kernel
theorem dX3_call_80 : decode cX3_call 80 = .ok (.sipush 255, 3) := by decide +kernel
theorem dX3_call_83 : decode cX3_call 83 = .ok (.iand, 1) := by decide +kernel
theorem dX3_call_84 : decode cX3_call 84 = .ok (.invokevirtual 158, 3) := by decide +kernel
theorem dX3_call_87 : decode cX3_call 87 = .ok (.goto 25, 3) := by decide +kernel
theorem dX3_call_90 : decode cX3_call 90 = .ok (.aload_n 0, 1) := by decide +kernel
theorem dX3_call_91 : decode cX3_call 91 = .ok (.getfield 12, 3) := by decide +kernel
theorem dX3_call_94 : decode cX3_call 94 = .ok (.aload_n 0, 1) := by decide +kernel
theorem dX3_call_95 : decode cX3_call 95 = .ok (.getfield 168, 3) := by decide +kernel
theorem dX3_call_98 : decode cX3_call 98 = .ok (.aload_n 0, 1) := by decide +kernel
theorem dX3_call_99 : decode cX3_call 99 = .ok (.invokevirtual 148, 3) := by decide +kernel
theorem dX3_call_102 : decode cX3_call 102 = .ok (.invokestatic 44, 3) := by decide +kernel
theorem dX3_call_105 : decode cX3_call 105 = .ok (.putfield 122, 3) := by decide +kernel
theorem dX3_call_108 : decode cX3_call 108 = .ok (.aload_n 0, 1) := by decide +kernel
theorem dX3_call_109 : decode cX3_call 109 = .ok (.invokevirtual 61, 3) := by decide +kernel
theorem dX3_call_112 : decode cX3_call 112 = .ok (.return_, 1) := by decide +kernel
set_option maxRecDepth 20000 in
theorem ggX3_returnFromCall_X0_read : GoodIn wsX3_returnFromCall wsX0_read := goodIn_r _ [10, 11, 12, 13, 14, 15, 9, 16, 17, 18, 19, 20, 21, 22, 23, 24, 25, 26, 27, 28, 29, 30, 31, 32, 33, 34, 35, 36, 37, 38, 39, 40, 41, 42, 43, 44, 45, 46, 47, 48, 49, 50, 51, 52, 53, 54, 55, 56, 57, 58, 59, 60, 61, 62, 63, 64, 65, 66, 67, 111, 112, 113, 114, 115, 116, 117, 118, 119, 120, 121, 122, 123, 124, 125, 126, 127, 128, 129, 130, 131, 132, 133, 134, 135, 136, 137, 138, 139, 140, 141, 142, 143, 144, 145, 146, 147, 148] (by decide +kernel) (by decide +kernel)
set_option maxRecDepth 20000 in
theorem gX3_returnFromCall_X0_read : GoodIn wsX3_returnFromCall (wsV RX3 125 RX0 yX0_read wsX0_read) := goodIn_app (goodIn_of _ (by decide +kernel)) ggX3_returnFromCall_X0_read
set_option maxRecDepth 20000 in
theorem ggX3_returnFromCall_X3_readStack : GoodIn wsX3_returnFromCall wsX3_readStack := goodIn_r _ [72, 2, 3, 73, 6, 7, 8, 9, 10, 11, 12, 13, 14, 15, 16, 17, 18, 19, 20, 21, 22, 23, 24, 25, 26, 27, 28, 29, 30, 31, 32, 33, 34, 35, 36, 37, 38, 39, 40, 41, 42, 43, 44, 45, 46, 47, 48, 49, 50, 51, 52, 53, 54, 55, 56, 57, 58, 59, 60, 61, 62, 63, 64, 65, 66, 67, 91, 92, 93, 94, 95, 96, 97, 98, 99, 100, 101, 102, 103, 104, 105, 106, 107, 108, 109, 110, 111, 112, 113, 114, 115, 116, 117, 118, 119, 120, 121, 122, 123, 124, 125, 126, 127, 128, 129, 130, 131, 132, 133, 134, 135, 136, 137, 138, 139, 140, 141, 142, 143, 144, 145, 146, 147, 148] (by decide +kernel) (by decide +kernel)
set_option maxRecDepth 20000 in
theorem gX3_returnFromCall_X3_readStack : GoodIn wsX3_returnFromCall (wsV RX3 212 RX3 yX3_readStack wsX3_readStack) := goodIn_app (goodIn_of _ (by decide +kernel)) ggX3_returnFromCall_X3_readStack
set_option maxRecDepth 20000 in
theorem ggX3_returnFromCall_X3_growStack : GoodIn wsX3_returnFromCall wsX3_growStack := goodIn_r _ [77, 3, 73, 91, 92, 93, 94, 95, 96, 97, 98, 99, 100, 101, 102, 103, 104, 105, 106, 107, 108, 109, 110] (by decide +kernel) (by decide +kernel)
set_option maxRecDepth 20000 in
theorem gX3_returnFromCall_X3_growStack : GoodIn wsX3_returnFromCall (wsV RX3 215 RX3 yX3_growStack wsX3_growStack) := goodIn_app (goodIn_of _ (by decide +kernel)) ggX3_returnFromCall_X3_growStack
set_option maxRecDepth 20000 in
theorem ggX3_returnFromCall_X3_word : GoodIn wsX3_returnFromCall wsX3_word := goodIn_r _ [80] (by decide +kernel) (by decide +kernel)
set_option maxRecDepth 20000 in
theorem gX3_returnFromCall_X3_word : GoodIn wsX3_returnFromCall (va_wsS RX3 44 yX3_word wsX3_word) := goodIn_app (goodIn_of _ (by decide +kernel)) ggX3_returnFromCall_X3_word
set_option maxRecDepth 20000 in
theorem ggX3_returnFromCall_X3_nextByte : GoodIn wsX3_returnFromCall wsX3_nextByte := goodIn_r _ [84, 2, 3, 4, 85, 6, 7, 8, 9, 10, 11, 12, 13, 14, 15, 16, 17, 18, 19, 20, 21, 22, 23, 24, 25, 26, 27, 28, 29, 30, 31, 32, 33, 34, 35, 36, 37, 38, 39, 40, 41, 42, 43, 44, 45, 46, 47, 48, 49, 50, 51, 52, 53, 54, 55, 56, 57, 58, 59, 60, 61, 62, 63, 64, 65, 66, 67, 91, 92, 93, 94, 95, 96, 97, 98, 99, 100, 101, 102, 103, 104, 105, 106, 107, 108, 109, 110, 111, 112, 113, 114, 115, 116, 117, 118, 119, 120, 121, 122, 123, 124, 125, 126, 127, 128, 129, 130, 131, 132, 133, 134, 135, 136, 137, 138, 139, 140, 141, 142, 143, 144, 145, 146, 147, 148] (by decide +kernel) (by decide +kernel)
set_option maxRecDepth 20000 in
theorem gX3_returnFromCall_X3_nextByte : GoodIn wsX3_returnFromCall (wsV RX3 148 RX3 yX3_nextByte wsX3_nextByte) := goodIn_app (goodIn_of _ (by decide +kernel)) ggX3_returnFromCall_X3_nextByte
set_option maxRecDepth 20000 in
theorem ggX3_returnFromCall_X3_endInstruction : GoodIn wsX3_returnFromCall wsX3_endInstruction := goodIn_r _ [89, 90, 1, 91, 92, 93, 94, 95, 96, 97, 98, 99, 100, 101, 102, 103, 104] (by decide +kernel) (by decide +kernel)
set_option maxRecDepth 20000 in
theorem gX3_returnFromCall_X3_endInstruction : GoodIn wsX3_returnFromCall (wsV RX3 61 RX3 yX3_endInstruction wsX3_endInstruction) := goodIn_app (goodIn_of _ (by decide +kernel)) ggX3_returnFromCall_X3_endInstruction
theorem dX3_returnFromCall_0 : decode cX3_returnFromCall 0 = .ok (.aload_n 0, 1) := by decide +kernel
theorem dX3_returnFromCall_1 : decode cX3_returnFromCall 1 = .ok (.getfield 68, 3) := by decide +kernel
theorem dX3_returnFromCall_4 : decode cX3_returnFromCall 4 = .ok (.tableswitch 98 2 5 #[32, 50, 62, 77], 32) := by decide +kernel
theorem dX3_returnFromCall_36 : decode cX3_returnFromCall 36 = .ok (.aload_n 0, 1) := by decide +kernel
theorem dX3_returnFromCall_37 : decode cX3_returnFromCall 37 = .ok (.getfield 26, 3) := by decide +kernel
theorem dX3_returnFromCall_40 : decode cX3_returnFromCall 40 = .ok (.aload_n 0, 1) := by decide +kernel
theorem dX3_returnFromCall_41 : decode cX3_returnFromCall 41 = .ok (.getfield 12, 3) := by decide +kernel
theorem dX3_returnFromCall_44 : decode cX3_returnFromCall 44 = .ok (.getfield 122, 3) := by decide +kernel
theorem dX3_returnFromCall_47 : decode cX3_returnFromCall 47 = .ok (.invokevirtual 125, 3) := by decide +kernel
theorem dX3_returnFromCall_50 : decode cX3_returnFromCall 50 = .ok (.pop, 1) := by decide +kernel
theorem dX3_returnFromCall_51 : decode cX3_returnFromCall 51 = .ok (.goto 60, 3) := by decide +kernel
theorem dX3_returnFromCall_54 : decode cX3_returnFromCall 54 = .ok (.aload_n 0, 1) := by decide +kernel
theorem dX3_returnFromCall_55 : decode cX3_returnFromCall 55 = .ok (.invokevirtual 212, 3) := by decide +kernel
theorem dX3_returnFromCall_58 : decode cX3_returnFromCall 58 = .ok (.pop, 1) := by decide +kernel
theorem dX3_returnFromCall_59 : decode cX3_returnFromCall 59 = .ok (.aload_n 0, 1) := by decide +kernel
theorem dX3_returnFromCall_60 : decode cX3_returnFromCall 60 = .ok (.invokevirtual 215, 3) := by decide +kernel
theorem dX3_returnFromCall_63 : decode cX3_returnFromCall 63 = .ok (.goto 48, 3) := by decide +kernel
theorem dX3_returnFromCall_66 : decode cX3_returnFromCall 66 = .ok (.aload_n 0, 1) := by decide +kernel
theorem dX3_returnFromCall_67 : decode cX3_returnFromCall 67 = .ok (.aload_n 0, 1) := by decide +kernel
