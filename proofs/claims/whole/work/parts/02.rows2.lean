theorem dX4_add_0 : decode cX4_add 0 = .ok (.aload_n 0, 1) := by decide +kernel
theorem dX4_add_1 : decode cX4_add 1 = .ok (.getfield 16, 3) := by decide +kernel
theorem dX4_add_4 : decode cX4_add 4 = .ok (.istore_n 3, 1) := by decide +kernel
theorem dX4_add_5 : decode cX4_add 5 = .ok (.aload_n 0, 1) := by decide +kernel
theorem dX4_add_6 : decode cX4_add 6 = .ok (.getfield 13, 3) := by decide +kernel
theorem dX4_add_9 : decode cX4_add 9 = .ok (.iconst 1, 1) := by decide +kernel
theorem dX4_add_10 : decode cX4_add 10 = .ok (.iand, 1) := by decide +kernel
theorem dX4_add_11 : decode cX4_add 11 = .ok (.istore 4, 2) := by decide +kernel
theorem dX4_add_13 : decode cX4_add 13 = .ok (.iload_n 3, 1) := by decide +kernel
theorem dX4_add_14 : decode cX4_add 14 = .ok (.iload_n 1, 1) := by decide +kernel
theorem dX4_add_15 : decode cX4_add 15 = .ok (.iadd, 1) := by decide +kernel
theorem dX4_add_16 : decode cX4_add 16 = .ok (.iload 4, 2) := by decide +kernel
theorem dX4_add_18 : decode cX4_add 18 = .ok (.iadd, 1) := by decide +kernel
theorem dX4_add_19 : decode cX4_add 19 = .ok (.istore 5, 2) := by decide +kernel
theorem dX4_add_21 : decode cX4_add 21 = .ok (.aload_n 0, 1) := by decide +kernel
theorem dX4_add_22 : decode cX4_add 22 = .ok (.aload_n 0, 1) := by decide +kernel
theorem dX4_add_23 : decode cX4_add 23 = .ok (.iload 5, 2) := by decide +kernel
theorem dX4_add_25 : decode cX4_add 25 = .ok (.invokevirtual 28, 3) := by decide +kernel
theorem dX4_add_28 : decode cX4_add 28 = .ok (.putfield 16, 3) := by decide +kernel
theorem dX4_add_31 : decode cX4_add 31 = .ok (.aload_n 0, 1) := by decide +kernel
theorem dX4_add_32 : decode cX4_add 32 = .ok (.bipush 64, 2) := by decide +kernel
theorem dX4_add_34 : decode cX4_add 34 = .ok (.iload_n 3, 1) := by decide +kernel
theorem dX4_add_35 : decode cX4_add 35 = .ok (.iload_n 1, 1) := by decide +kernel
theorem dX4_add_36 : decode cX4_add 36 = .ok (.ixor, 1) := by decide +kernel
theorem dX4_add_37 : decode cX4_add 37 = .ok (.sipush 128, 3) := by decide +kernel
theorem dX4_add_40 : decode cX4_add 40 = .ok (.iand, 1) := by decide +kernel
theorem dX4_add_41 : decode cX4_add 41 = .ok (.ifCond .ne 20, 3) := by decide +kernel
theorem dX4_add_44 : decode cX4_add 44 = .ok (.iload_n 3, 1) := by decide +kernel
theorem dX4_add_45 : decode cX4_add 45 = .ok (.aload_n 0, 1) := by decide +kernel
theorem dX4_add_46 : decode cX4_add 46 = .ok (.getfield 16, 3) := by decide +kernel
theorem dX4_add_49 : decode cX4_add 49 = .ok (.ixor, 1) := by decide +kernel
theorem dX4_add_50 : decode cX4_add 50 = .ok (.sipush 128, 3) := by decide +kernel
theorem dX4_add_53 : decode cX4_add 53 = .ok (.iand, 1) := by decide +kernel
theorem dX4_add_54 : decode cX4_add 54 = .ok (.ifCond .eq 7, 3) := by decide +kernel
theorem dX4_add_57 : decode cX4_add 57 = .ok (.iconst 1, 1) := by decide +kernel
theorem dX4_add_58 : decode cX4_add 58 = .ok (.goto 4, 3) := by decide +kernel
theorem dX4_add_61 : decode cX4_add 61 = .ok (.iconst 0, 1) := by decide +kernel
theorem dX4_add_62 : decode cX4_add 62 = .ok (.invokevirtual 44, 3) := by decide +kernel
theorem dX4_add_65 : decode cX4_add 65 = .ok (.iload_n 2, 1) := by decide +kernel
theorem dX4_add_66 : decode cX4_add 66 = .ok (.ifCond .eq 22, 3) := by decide +kernel
theorem dX4_add_69 : decode cX4_add 69 = .ok (.iload_n 3, 1) := by decide +kernel
theorem dX4_add_70 : decode cX4_add 70 = .ok (.iload_n 1, 1) := by decide +kernel
theorem dX4_add_71 : decode cX4_add 71 = .ok (.iload 4, 2) := by decide +kernel
theorem dX4_add_73 : decode cX4_add 73 = .ok (.invokestatic 47, 3) := by decide +kernel
theorem dX4_add_76 : decode cX4_add 76 = .ok (.istore 5, 2) := by decide +kernel
theorem dX4_add_78 : decode cX4_add 78 = .ok (.aload_n 0, 1) := by decide +kernel
theorem dX4_add_79 : decode cX4_add 79 = .ok (.iload 5, 2) := by decide +kernel
theorem dX4_add_81 : decode cX4_add 81 = .ok (.sipush 255, 3) := by decide +kernel
theorem dX4_add_84 : decode cX4_add 84 = .ok (.iand, 1) := by decide +kernel
theorem dX4_add_85 : decode cX4_add 85 = .ok (.putfield 16, 3) := by decide +kernel
theorem dX4_add_88 : decode cX4_add 88 = .ok (.aload_n 0, 1) := by decide +kernel
theorem dX4_add_89 : decode cX4_add 89 = .ok (.iconst 1, 1) := by decide +kernel
theorem dX4_add_90 : decode cX4_add 90 = .ok (.iload 5, 2) := by decide +kernel
theorem dX4_add_92 : decode cX4_add 92 = .ok (.sipush 255, 3) := by decide +kernel
theorem dX4_add_95 : decode cX4_add 95 = .ok (.if_icmp .le 7, 3) := by decide +kernel
theorem dX4_add_98 : decode cX4_add 98 = .ok (.iconst 1, 1) := by decide +kernel
theorem dX4_add_99 : decode cX4_add 99 = .ok (.goto 4, 3) := by decide +kernel
theorem dX4_add_102 : decode cX4_add 102 = .ok (.iconst 0, 1) := by decide +kernel
theorem dX4_add_103 : decode cX4_add 103 = .ok (.invokevirtual 44, 3) := by decide +kernel
theorem dX4_add_106 : decode cX4_add 106 = .ok (.return_, 1) := by decide +kernel
theorem dX4_decimalSum_0 : decode cX4_decimalSum 0 = .ok (.iload_n 0, 1) := by decide +kernel
theorem dX4_decimalSum_1 : decode cX4_decimalSum 1 = .ok (.bipush 15, 2) := by decide +kernel
theorem dX4_decimalSum_3 : decode cX4_decimalSum 3 = .ok (.iand, 1) := by decide +kernel
theorem dX4_decimalSum_4 : decode cX4_decimalSum 4 = .ok (.iload_n 1, 1) := by decide +kernel
theorem dX4_decimalSum_5 : decode cX4_decimalSum 5 = .ok (.bipush 15, 2) := by decide +kernel
theorem dX4_decimalSum_7 : decode cX4_decimalSum 7 = .ok (.iand, 1) := by decide +kernel
theorem dX4_decimalSum_8 : decode cX4_decimalSum 8 = .ok (.iadd, 1) := by decide +kernel
theorem dX4_decimalSum_9 : decode cX4_decimalSum 9 = .ok (.iload_n 2, 1) := by decide +kernel
theorem dX4_decimalSum_10 : decode cX4_decimalSum 10 = .ok (.iadd, 1) := by decide +kernel
theorem dX4_decimalSum_11 : decode cX4_decimalSum 11 = .ok (.istore_n 3, 1) := by decide +kernel
theorem dX4_decimalSum_12 : decode cX4_decimalSum 12 = .ok (.iload_n 3, 1) := by decide +kernel
theorem dX4_decimalSum_13 : decode cX4_decimalSum 13 = .ok (.bipush 9, 2) := by decide +kernel
theorem dX4_decimalSum_15 : decode cX4_decimalSum 15 = .ok (.if_icmp .le 6, 3) := by decide +kernel
theorem dX4_decimalSum_18 : decode cX4_decimalSum 18 = .ok (.iinc 3 6, 3) := by decide +kernel
theorem dX4_decimalSum_21 : decode cX4_decimalSum 21 = .ok (.iload_n 0, 1) := by decide +kernel
theorem dX4_decimalSum_22 : decode cX4_decimalSum 22 = .ok (.iconst 4, 1) := by decide +kernel
theorem dX4_decimalSum_23 : decode cX4_decimalSum 23 = .ok (.ishr, 1) := by decide +kernel
theorem dX4_decimalSum_24 : decode cX4_decimalSum 24 = .ok (.iload_n 1, 1) := by decide +kernel
theorem dX4_decimalSum_25 : decode cX4_decimalSum 25 = .ok (.iconst 4, 1) := by decide +kernel
theorem dX4_decimalSum_26 : decode cX4_decimalSum 26 = .ok (.ishr, 1) := by decide +kernel
theorem dX4_decimalSum_27 : decode cX4_decimalSum 27 = .ok (.iadd, 1) := by decide +kernel
theorem dX4_decimalSum_28 : decode cX4_decimalSum 28 = .ok (.iload_n 3, 1) := by decide +kernel
theorem dX4_decimalSum_29 : decode cX4_decimalSum 29 = .ok (.bipush 15, 2) := by decide +kernel
theorem dX4_decimalSum_31 : decode cX4_decimalSum 31 = .ok (.if_icmp .le 7, 3) := by decide +kernel
theorem dX4_decimalSum_34 : decode cX4_decimalSum 34 = .ok (.iconst 1, 1) := by decide +kernel
theorem dX4_decimalSum_35 : decode cX4_decimalSum 35 = .ok (.goto 4, 3) := by decide +kernel
theorem dX4_decimalSum_38 : decode cX4_decimalSum 38 = .ok (.iconst 0, 1) := by decide +kernel
theorem dX4_decimalSum_39 : decode cX4_decimalSum 39 = .ok (.iadd, 1) := by decide +kernel
theorem dX4_decimalSum_40 : decode cX4_decimalSum 40 = .ok (.istore 4, 2) := by decide +kernel
theorem dX4_decimalSum_42 : decode cX4_decimalSum 42 = .ok (.iload 4, 2) := by decide +kernel
theorem dX4_decimalSum_44 : decode cX4_decimalSum 44 = .ok (.bipush 9, 2) := by decide +kernel
theorem dX4_decimalSum_46 : decode cX4_decimalSum 46 = .ok (.if_icmp .le 6, 3) := by decide +kernel
theorem dX4_decimalSum_49 : decode cX4_decimalSum 49 = .ok (.iinc 4 6, 3) := by decide +kernel
theorem dX4_decimalSum_52 : decode cX4_decimalSum 52 = .ok (.bipush 16, 2) := by decide +kernel
theorem dX4_decimalSum_54 : decode cX4_decimalSum 54 = .ok (.iload 4, 2) := by decide +kernel
theorem dX4_decimalSum_56 : decode cX4_decimalSum 56 = .ok (.imul, 1) := by decide +kernel
theorem dX4_decimalSum_57 : decode cX4_decimalSum 57 = .ok (.iload_n 3, 1) := by decide +kernel
theorem dX4_decimalSum_58 : decode cX4_decimalSum 58 = .ok (.bipush 15, 2) := by decide +kernel
theorem dX4_decimalSum_60 : decode cX4_decimalSum 60 = .ok (.iand, 1) := by decide +kernel
theorem dX4_decimalSum_61 : decode cX4_decimalSum 61 = .ok (.iadd, 1) := by decide +kernel
theorem dX4_decimalSum_62 : decode cX4_decimalSum 62 = .ok (.ireturn, 1) := by decide +kernel
theorem dX4_single_0 : decode cX4_single 0 = .ok (.iload_n 1, 1) := by decide +kernel
theorem dX4_single_1 : decode cX4_single 1 = .ok (.lookupswitch 396 #[(10, 323), (24, 139), (56, 148), (74, 360), (88, 157), (120, 166), (136, 306), (138, 210), (152, 240), (168, 225), (170, 195), (200, 272), (202, 289), (216, 175), (232, 255), (248, 185)], 139) := by decide +kernel
theorem dX4_single_140 : decode cX4_single 140 = .ok (.aload_n 0, 1) := by decide +kernel
theorem dX4_single_141 : decode cX4_single 141 = .ok (.iconst 1, 1) := by decide +kernel
theorem dX4_single_142 : decode cX4_single 142 = .ok (.iconst 0, 1) := by decide +kernel
theorem dX4_single_143 : decode cX4_single 143 = .ok (.invokevirtual 44, 3) := by decide +kernel
theorem dX4_single_146 : decode cX4_single 146 = .ok (.goto 251, 3) := by decide +kernel
theorem dX4_single_149 : decode cX4_single 149 = .ok (.aload_n 0, 1) := by decide +kernel
theorem dX4_single_150 : decode cX4_single 150 = .ok (.iconst 1, 1) := by decide +kernel
theorem dX4_single_151 : decode cX4_single 151 = .ok (.iconst 1, 1) := by decide +kernel
theorem dX4_single_152 : decode cX4_single 152 = .ok (.invokevirtual 44, 3) := by decide +kernel
theorem dX4_single_155 : decode cX4_single 155 = .ok (.goto 242, 3) := by decide +kernel
theorem dX4_single_158 : decode cX4_single 158 = .ok (.aload_n 0, 1) := by decide +kernel
theorem dX4_single_159 : decode cX4_single 159 = .ok (.iconst 4, 1) := by decide +kernel
theorem dX4_single_160 : decode cX4_single 160 = .ok (.iconst 0, 1) := by decide +kernel
theorem dX4_single_161 : decode cX4_single 161 = .ok (.invokevirtual 44, 3) := by decide +kernel
theorem dX4_single_164 : decode cX4_single 164 = .ok (.goto 233, 3) := by decide +kernel
theorem dX4_single_167 : decode cX4_single 167 = .ok (.aload_n 0, 1) := by decide +kernel
theorem dX4_single_168 : decode cX4_single 168 = .ok (.iconst 4, 1) := by decide +kernel
theorem dX4_single_169 : decode cX4_single 169 = .ok (.iconst 1, 1) := by decide +kernel
theorem dX4_single_170 : decode cX4_single 170 = .ok (.invokevirtual 44, 3) := by decide +kernel
theorem dX4_single_173 : decode cX4_single 173 = .ok (.goto 224, 3) := by decide +kernel
theorem dX4_single_176 : decode cX4_single 176 = .ok (.aload_n 0, 1) := by decide +kernel
theorem dX4_single_177 : decode cX4_single 177 = .ok (.bipush 8, 2) := by decide +kernel
theorem dX4_single_179 : decode cX4_single 179 = .ok (.iconst 0, 1) := by decide +kernel
theorem dX4_single_180 : decode cX4_single 180 = .ok (.invokevirtual 44, 3) := by decide +kernel
theorem dX4_single_183 : decode cX4_single 183 = .ok (.goto 214, 3) := by decide +kernel
theorem dX4_single_186 : decode cX4_single 186 = .ok (.aload_n 0, 1) := by decide +kernel
theorem dX4_single_187 : decode cX4_single 187 = .ok (.bipush 8, 2) := by decide +kernel
theorem dX4_single_189 : decode cX4_single 189 = .ok (.iconst 1, 1) := by decide +kernel
theorem dX4_single_190 : decode cX4_single 190 = .ok (.invokevirtual 44, 3) := by decide +kernel
theorem dX4_single_193 : decode cX4_single 193 = .ok (.goto 204, 3) := by decide +kernel
theorem dX4_single_196 : decode cX4_single 196 = .ok (.aload_n 0, 1) := by decide +kernel
theorem dX4_single_197 : decode cX4_single 197 = .ok (.aload_n 0, 1) := by decide +kernel
theorem dX4_single_198 : decode cX4_single 198 = .ok (.aload_n 0, 1) := by decide +kernel
theorem dX4_single_199 : decode cX4_single 199 = .ok (.getfield 16, 3) := by decide +kernel
theorem dX4_single_202 : decode cX4_single 202 = .ok (.invokevirtual 28, 3) := by decide +kernel
theorem dX4_single_205 : decode cX4_single 205 = .ok (.putfield 19, 3) := by decide +kernel
theorem dX4_single_208 : decode cX4_single 208 = .ok (.goto 189, 3) := by decide +kernel
theorem dX4_single_211 : decode cX4_single 211 = .ok (.aload_n 0, 1) := by decide +kernel
theorem dX4_single_212 : decode cX4_single 212 = .ok (.aload_n 0, 1) := by decide +kernel
theorem dX4_single_213 : decode cX4_single 213 = .ok (.aload_n 0, 1) := by decide +kernel
theorem dX4_single_214 : decode cX4_single 214 = .ok (.getfield 19, 3) := by decide +kernel
theorem dX4_single_217 : decode cX4_single 217 = .ok (.invokevirtual 28, 3) := by decide +kernel
theorem dX4_single_220 : decode cX4_single 220 = .ok (.putfield 16, 3) := by decide +kernel
theorem dX4_single_223 : decode cX4_single 223 = .ok (.goto 174, 3) := by decide +kernel
theorem dX4_single_226 : decode cX4_single 226 = .ok (.aload_n 0, 1) := by decide +kernel
theorem dX4_single_227 : decode cX4_single 227 = .ok (.aload_n 0, 1) := by decide +kernel
theorem dX4_single_228 : decode cX4_single 228 = .ok (.aload_n 0, 1) := by decide +kernel
theorem dX4_single_229 : decode cX4_single 229 = .ok (.getfield 16, 3) := by decide +kernel
theorem dX4_single_232 : decode cX4_single 232 = .ok (.invokevirtual 28, 3) := by decide +kernel
theorem dX4_single_235 : decode cX4_single 235 = .ok (.putfield 22, 3) := by decide +kernel
theorem dX4_single_238 : decode cX4_single 238 = .ok (.goto 159, 3) := by decide +kernel
theorem dX4_single_241 : decode cX4_single 241 = .ok (.aload_n 0, 1) := by decide +kernel
theorem dX4_single_242 : decode cX4_single 242 = .ok (.aload_n 0, 1) := by decide +kernel
theorem dX4_single_243 : decode cX4_single 243 = .ok (.aload_n 0, 1) := by decide +kernel
theorem dX4_single_244 : decode cX4_single 244 = .ok (.getfield 22, 3) := by decide +kernel
theorem dX4_single_247 : decode cX4_single 247 = .ok (.invokevirtual 28, 3) := by decide +kernel
theorem dX4_single_250 : decode cX4_single 250 = .ok (.putfield 16, 3) := by decide +kernel
theorem dX4_single_253 : decode cX4_single 253 = .ok (.goto 144, 3) := by decide +kernel
theorem dX4_single_256 : decode cX4_single 256 = .ok (.aload_n 0, 1) := by decide +kernel
theorem dX4_single_257 : decode cX4_single 257 = .ok (.aload_n 0, 1) := by decide +kernel
theorem dX4_single_258 : decode cX4_single 258 = .ok (.aload_n 0, 1) := by decide +kernel
theorem dX4_single_259 : decode cX4_single 259 = .ok (.getfield 19, 3) := by decide +kernel
theorem dX4_single_262 : decode cX4_single 262 = .ok (.iconst 1, 1) := by decide +kernel
theorem dX4_single_263 : decode cX4_single 263 = .ok (.iadd, 1) := by decide +kernel
theorem dX4_single_264 : decode cX4_single 264 = .ok (.invokevirtual 28, 3) := by decide +kernel
theorem dX4_single_267 : decode cX4_single 267 = .ok (.putfield 19, 3) := by decide +kernel
theorem dX4_single_270 : decode cX4_single 270 = .ok (.goto 127, 3) := by decide +kernel
theorem dX4_single_273 : decode cX4_single 273 = .ok (.aload_n 0, 1) := by decide +kernel
theorem dX4_single_274 : decode cX4_single 274 = .ok (.aload_n 0, 1) := by decide +kernel
theorem dX4_single_275 : decode cX4_single 275 = .ok (.aload_n 0, 1) := by decide +kernel
theorem dX4_single_276 : decode cX4_single 276 = .ok (.getfield 22, 3) := by decide +kernel
theorem dX4_single_279 : decode cX4_single 279 = .ok (.iconst 1, 1) := by decide +kernel
theorem dX4_single_280 : decode cX4_single 280 = .ok (.iadd, 1) := by decide +kernel
theorem dX4_single_281 : decode cX4_single 281 = .ok (.invokevirtual 28, 3) := by decide +kernel
theorem dX4_single_284 : decode cX4_single 284 = .ok (.putfield 22, 3) := by decide +kernel
theorem dX4_single_287 : decode cX4_single 287 = .ok (.goto 110, 3) := by decide +kernel
theorem dX4_single_290 : decode cX4_single 290 = .ok (.aload_n 0, 1) := by decide +kernel
theorem dX4_single_291 : decode cX4_single 291 = .ok (.aload_n 0, 1) := by decide +kernel
theorem dX4_single_292 : decode cX4_single 292 = .ok (.aload_n 0, 1) := by decide +kernel
theorem dX4_single_293 : decode cX4_single 293 = .ok (.getfield 19, 3) := by decide +kernel
theorem dX4_single_296 : decode cX4_single 296 = .ok (.iconst 1, 1) := by decide +kernel
theorem dX4_single_297 : decode cX4_single 297 = .ok (.isub, 1) := by decide +kernel
theorem dX4_single_298 : decode cX4_single 298 = .ok (.invokevirtual 28, 3) := by decide +kernel
theorem dX4_single_301 : decode cX4_single 301 = .ok (.putfield 19, 3) := by decide +kernel
theorem dX4_single_304 : decode cX4_single 304 = .ok (.goto 93, 3) := by decide +kernel
theorem dX4_single_307 : decode cX4_single 307 = .ok (.aload_n 0, 1) := by decide +kernel
theorem dX4_single_308 : decode cX4_single 308 = .ok (.aload_n 0, 1) := by decide +kernel
theorem dX4_single_309 : decode cX4_single 309 = .ok (.aload_n 0, 1) := by decide +kernel
theorem dX4_single_310 : decode cX4_single 310 = .ok (.getfield 22, 3) := by decide +kernel
theorem dX4_single_313 : decode cX4_single 313 = .ok (.iconst 1, 1) := by decide +kernel
theorem dX4_single_314 : decode cX4_single 314 = .ok (.isub, 1) := by decide +kernel
theorem dX4_single_315 : decode cX4_single 315 = .ok (.invokevirtual 28, 3) := by decide +kernel
theorem dX4_single_318 : decode cX4_single 318 = .ok (.putfield 22, 3) := by decide +kernel
theorem dX4_single_321 : decode cX4_single 321 = .ok (.goto 76, 3) := by decide +kernel
theorem dX4_single_324 : decode cX4_single 324 = .ok (.aload_n 0, 1) := by decide +kernel
theorem dX4_single_325 : decode cX4_single 325 = .ok (.iconst 1, 1) := by decide +kernel
theorem dX4_single_326 : decode cX4_single 326 = .ok (.aload_n 0, 1) := by decide +kernel
theorem dX4_single_327 : decode cX4_single 327 = .ok (.getfield 16, 3) := by decide +kernel
theorem dX4_single_330 : decode cX4_single 330 = .ok (.sipush 128, 3) := by decide +kernel
theorem dX4_single_333 : decode cX4_single 333 = .ok (.if_icmp .lt 7, 3) := by decide +kernel
theorem dX4_single_336 : decode cX4_single 336 = .ok (.iconst 1, 1) := by decide +kernel
theorem dX4_single_337 : decode cX4_single 337 = .ok (.goto 4, 3) := by decide +kernel
theorem dX4_single_340 : decode cX4_single 340 = .ok (.iconst 0, 1) := by decide +kernel
theorem dX4_single_341 : decode cX4_single 341 = .ok (.invokevirtual 44, 3) := by decide +kernel
theorem dX4_single_344 : decode cX4_single 344 = .ok (.aload_n 0, 1) := by decide +kernel
theorem dX4_single_345 : decode cX4_single 345 = .ok (.aload_n 0, 1) := by decide +kernel
theorem dX4_single_346 : decode cX4_single 346 = .ok (.aload_n 0, 1) := by decide +kernel
theorem dX4_single_347 : decode cX4_single 347 = .ok (.getfield 16, 3) := by decide +kernel
theorem dX4_single_350 : decode cX4_single 350 = .ok (.iconst 2, 1) := by decide +kernel
theorem dX4_single_351 : decode cX4_single 351 = .ok (.imul, 1) := by decide +kernel
theorem dX4_single_352 : decode cX4_single 352 = .ok (.invokevirtual 28, 3) := by decide +kernel
theorem dX4_single_355 : decode cX4_single 355 = .ok (.putfield 16, 3) := by decide +kernel
theorem dX4_single_358 : decode cX4_single 358 = .ok (.goto 39, 3) := by decide +kernel
theorem dX4_single_361 : decode cX4_single 361 = .ok (.aload_n 0, 1) := by decide +kernel
theorem dX4_single_362 : decode cX4_single 362 = .ok (.iconst 1, 1) := by decide +kernel
theorem dX4_single_363 : decode cX4_single 363 = .ok (.aload_n 0, 1) := by decide +kernel
theorem dX4_single_364 : decode cX4_single 364 = .ok (.getfield 16, 3) := by decide +kernel
theorem dX4_single_367 : decode cX4_single 367 = .ok (.iconst 1, 1) := by decide +kernel
theorem dX4_single_368 : decode cX4_single 368 = .ok (.iand, 1) := by decide +kernel
theorem dX4_single_369 : decode cX4_single 369 = .ok (.ifCond .eq 7, 3) := by decide +kernel
theorem dX4_single_372 : decode cX4_single 372 = .ok (.iconst 1, 1) := by decide +kernel
theorem dX4_single_373 : decode cX4_single 373 = .ok (.goto 4, 3) := by decide +kernel
theorem dX4_single_376 : decode cX4_single 376 = .ok (.iconst 0, 1) := by decide +kernel
theorem dX4_single_377 : decode cX4_single 377 = .ok (.invokevirtual 44, 3) := by decide +kernel
theorem dX4_single_380 : decode cX4_single 380 = .ok (.aload_n 0, 1) := by decide +kernel
theorem dX4_single_381 : decode cX4_single 381 = .ok (.aload_n 0, 1) := by decide +kernel
theorem dX4_single_382 : decode cX4_single 382 = .ok (.aload_n 0, 1) := by decide +kernel
theorem dX4_single_383 : decode cX4_single 383 = .ok (.getfield 16, 3) := by decide +kernel
theorem dX4_single_386 : decode cX4_single 386 = .ok (.iconst 2, 1) := by decide +kernel
theorem dX4_single_387 : decode cX4_single 387 = .ok (.idiv, 1) := by decide +kernel
theorem dX4_single_388 : decode cX4_single 388 = .ok (.invokevirtual 28, 3) := by decide +kernel
theorem dX4_single_391 : decode cX4_single 391 = .ok (.putfield 16, 3) := by decide +kernel
theorem dX4_single_394 : decode cX4_single 394 = .ok (.goto 3, 3) := by decide +kernel
theorem dX4_single_397 : decode cX4_single 397 = .ok (.return_, 1) := by decide +kernel
theorem dX4_branches_0 : decode cX4_branches 0 = .ok (.iload_n 1, 1) := by decide +kernel
theorem dX4_branches_1 : decode cX4_branches 1 = .ok (.bipush 64, 2) := by decide +kernel
theorem dX4_branches_3 : decode cX4_branches 3 = .ok (.if_icmp .ge 9, 3) := by decide +kernel
theorem dX4_branches_6 : decode cX4_branches 6 = .ok (.sipush 128, 3) := by decide +kernel
theorem dX4_branches_9 : decode cX4_branches 9 = .ok (.goto 27, 3) := by decide +kernel
theorem dX4_branches_12 : decode cX4_branches 12 = .ok (.iload_n 1, 1) := by decide +kernel
theorem dX4_branches_13 : decode cX4_branches 13 = .ok (.sipush 128, 3) := by decide +kernel
theorem dX4_branches_16 : decode cX4_branches 16 = .ok (.if_icmp .ge 8, 3) := by decide +kernel
theorem dX4_branches_19 : decode cX4_branches 19 = .ok (.bipush 64, 2) := by decide +kernel
theorem dX4_branches_21 : decode cX4_branches 21 = .ok (.goto 15, 3) := by decide +kernel
theorem dX4_branches_24 : decode cX4_branches 24 = .ok (.iload_n 1, 1) := by decide +kernel
theorem dX4_branches_25 : decode cX4_branches 25 = .ok (.sipush 192, 3) := by decide +kernel
theorem dX4_branches_28 : decode cX4_branches 28 = .ok (.if_icmp .ge 7, 3) := by decide +kernel
theorem dX4_branches_31 : decode cX4_branches 31 = .ok (.iconst 1, 1) := by decide +kernel
theorem dX4_branches_32 : decode cX4_branches 32 = .ok (.goto 4, 3) := by decide +kernel
theorem dX4_branches_35 : decode cX4_branches 35 = .ok (.iconst 2, 1) := by decide +kernel
theorem dX4_branches_36 : decode cX4_branches 36 = .ok (.istore_n 2, 1) := by decide +kernel
theorem dX4_branches_37 : decode cX4_branches 37 = .ok (.iload_n 1, 1) := by decide +kernel
theorem dX4_branches_38 : decode cX4_branches 38 = .ok (.bipush 32, 2) := by decide +kernel
theorem dX4_branches_40 : decode cX4_branches 40 = .ok (.iand, 1) := by decide +kernel
theorem dX4_branches_41 : decode cX4_branches 41 = .ok (.ifCond .eq 7, 3) := by decide +kernel
theorem dX4_branches_44 : decode cX4_branches 44 = .ok (.iconst 1, 1) := by decide +kernel
theorem dX4_branches_45 : decode cX4_branches 45 = .ok (.goto 4, 3) := by decide +kernel
theorem dX4_branches_48 : decode cX4_branches 48 = .ok (.iconst 0, 1) := by decide +kernel
theorem dX4_branches_49 : decode cX4_branches 49 = .ok (.istore_n 3, 1) := by decide +kernel
theorem dX4_branches_50 : decode cX4_branches 50 = .ok (.aload_n 0, 1) := by decide +kernel
theorem dX4_branches_51 : decode cX4_branches 51 = .ok (.iload_n 2, 1) := by decide +kernel
theorem dX4_branches_52 : decode cX4_branches 52 = .ok (.invokevirtual 32, 3) := by decide +kernel
theorem dX4_branches_55 : decode cX4_branches 55 = .ok (.iload_n 3, 1) := by decide +kernel
theorem dX4_branches_56 : decode cX4_branches 56 = .ok (.if_icmp .ne 7, 3) := by decide +kernel
theorem dX4_branches_59 : decode cX4_branches 59 = .ok (.iconst 1, 1) := by decide +kernel
theorem dX4_branches_60 : decode cX4_branches 60 = .ok (.goto 4, 3) := by decide +kernel
theorem dX4_branches_63 : decode cX4_branches 63 = .ok (.iconst 0, 1) := by decide +kernel
theorem dX4_branches_64 : decode cX4_branches 64 = .ok (.ireturn, 1) := by decide +kernel
theorem dX5_init_0 : decode cX5_init 0 = .ok (.aload_n 0, 1) := by decide +kernel
theorem dX5_init_1 : decode cX5_init 1 = .ok (.invokespecial 1, 3) := by decide +kernel
theorem dX5_init_4 : decode cX5_init 4 = .ok (.aload_n 0, 1) := by decide +kernel
theorem dX5_init_5 : decode cX5_init 5 = .ok (.ldc 7, 2) := by decide +kernel
theorem dX5_init_7 : decode cX5_init 7 = .ok (.putfield 8, 3) := by decide +kernel
theorem dX5_init_10 : decode cX5_init 10 = .ok (.aload_n 0, 1) := by decide +kernel
theorem dX5_init_11 : decode cX5_init 11 = .ok (.ldc 7, 2) := by decide +kernel
theorem dX5_init_13 : decode cX5_init 13 = .ok (.putfield 14, 3) := by decide +kernel
theorem dX5_init_16 : decode cX5_init 16 = .ok (.aload_n 0, 1) := by decide +kernel
theorem dX5_init_17 : decode cX5_init 17 = .ok (.iload_n 1, 1) := by decide +kernel
theorem dX5_init_18 : decode cX5_init 18 = .ok (.putfield 17, 3) := by decide +kernel
theorem dX5_init_21 : decode cX5_init 21 = .ok (.return_, 1) := by decide +kernel
theorem dX5_isRunning_0 : decode cX5_isRunning 0 = .ok (.aload_n 0, 1) := by decide +kernel
theorem dX5_isRunning_1 : decode cX5_isRunning 1 = .ok (.getfield 20, 3) := by decide +kernel
theorem dX5_isRunning_4 : decode cX5_isRunning 4 = .ok (.iconst 1, 1) := by decide +kernel
theorem dX5_isRunning_5 : decode cX5_isRunning 5 = .ok (.iand, 1) := by decide +kernel
theorem dX5_isRunning_6 : decode cX5_isRunning 6 = .ok (.ifCond .eq 7, 3) := by decide +kernel
theorem dX5_isRunning_9 : decode cX5_isRunning 9 = .ok (.iconst 1, 1) := by decide +kernel
theorem dX5_isRunning_10 : decode cX5_isRunning 10 = .ok (.goto 4, 3) := by decide +kernel
theorem dX5_isRunning_13 : decode cX5_isRunning 13 = .ok (.iconst 0, 1) := by decide +kernel
theorem dX5_isRunning_14 : decode cX5_isRunning 14 = .ok (.ireturn, 1) := by decide +kernel
theorem dX5_isCascaded_0 : decode cX5_isCascaded 0 = .ok (.aload_n 0, 1) := by decide +kernel
theorem dX5_isCascaded_1 : decode cX5_isCascaded 1 = .ok (.getfield 20, 3) := by decide +kernel
theorem dX5_isCascaded_4 : decode cX5_isCascaded 4 = .ok (.bipush 64, 2) := by decide +kernel
theorem dX5_isCascaded_6 : decode cX5_isCascaded 6 = .ok (.iand, 1) := by decide +kernel
theorem dX5_isCascaded_7 : decode cX5_isCascaded 7 = .ok (.ifCond .eq 7, 3) := by decide +kernel
theorem dX5_isCascaded_10 : decode cX5_isCascaded 10 = .ok (.iconst 1, 1) := by decide +kernel
theorem dX5_isCascaded_11 : decode cX5_isCascaded 11 = .ok (.goto 4, 3) := by decide +kernel
theorem dX5_isCascaded_14 : decode cX5_isCascaded 14 = .ok (.iconst 0, 1) := by decide +kernel
theorem dX5_isCascaded_15 : decode cX5_isCascaded 15 = .ok (.ireturn, 1) := by decide +kernel
theorem dX5_countDown_0 : decode cX5_countDown 0 = .ok (.aload_n 0, 1) := by decide +kernel
theorem dX5_countDown_1 : decode cX5_countDown 1 = .ok (.getfield 8, 3) := by decide +kernel
theorem dX5_countDown_4 : decode cX5_countDown 4 = .ok (.ifCond .eq 15, 3) := by decide +kernel
theorem dX5_countDown_7 : decode cX5_countDown 7 = .ok (.aload_n 0, 1) := by decide +kernel
theorem dX5_countDown_8 : decode cX5_countDown 8 = .ok (.dup, 1) := by decide +kernel
theorem dX5_countDown_9 : decode cX5_countDown 9 = .ok (.getfield 8, 3) := by decide +kernel
theorem dX5_countDown_12 : decode cX5_countDown 12 = .ok (.iconst 1, 1) := by decide +kernel
theorem dX5_countDown_13 : decode cX5_countDown 13 = .ok (.isub, 1) := by decide +kernel
theorem dX5_countDown_14 : decode cX5_countDown 14 = .ok (.putfield 8, 3) := by decide +kernel
theorem dX5_countDown_17 : decode cX5_countDown 17 = .ok (.iconst 0, 1) := by decide +kernel
theorem dX5_countDown_18 : decode cX5_countDown 18 = .ok (.ireturn, 1) := by decide +kernel
theorem dX5_countDown_19 : decode cX5_countDown 19 = .ok (.aload_n 0, 1) := by decide +kernel
theorem dX5_countDown_20 : decode cX5_countDown 20 = .ok (.aload_n 0, 1) := by decide +kernel
theorem dX5_countDown_21 : decode cX5_countDown 21 = .ok (.getfield 14, 3) := by decide +kernel
theorem dX5_countDown_24 : decode cX5_countDown 24 = .ok (.putfield 8, 3) := by decide +kernel
theorem dX5_countDown_27 : decode cX5_countDown 27 = .ok (.aload_n 0, 1) := by decide +kernel
theorem dX5_countDown_28 : decode cX5_countDown 28 = .ok (.getfield 20, 3) := by decide +kernel
theorem dX5_countDown_31 : decode cX5_countDown 31 = .ok (.bipush 8, 2) := by decide +kernel
theorem dX5_countDown_33 : decode cX5_countDown 33 = .ok (.iand, 1) := by decide +kernel
theorem dX5_countDown_34 : decode cX5_countDown 34 = .ok (.ifCond .eq 14, 3) := by decide +kernel
theorem dX5_countDown_37 : decode cX5_countDown 37 = .ok (.aload_n 0, 1) := by decide +kernel
theorem dX5_countDown_38 : decode cX5_countDown 38 = .ok (.dup, 1) := by decide +kernel
theorem dX5_countDown_39 : decode cX5_countDown 39 = .ok (.getfield 20, 3) := by decide +kernel
theorem dX5_countDown_42 : decode cX5_countDown 42 = .ok (.bipush (-2), 2) := by decide +kernel
theorem dX5_countDown_44 : decode cX5_countDown 44 = .ok (.iand, 1) := by decide +kernel
theorem dX5_countDown_45 : decode cX5_countDown 45 = .ok (.putfield 20, 3) := by decide +kernel
theorem dX5_countDown_48 : decode cX5_countDown 48 = .ok (.iconst 1, 1) := by decide +kernel
theorem dX5_countDown_49 : decode cX5_countDown 49 = .ok (.ireturn, 1) := by decide +kernel
theorem dX5_setLowLatch_0 : decode cX5_setLowLatch 0 = .ok (.aload_n 0, 1) := by decide +kernel
theorem dX5_setLowLatch_1 : decode cX5_setLowLatch 1 = .ok (.aload_n 0, 1) := by decide +kernel
theorem dX5_setLowLatch_2 : decode cX5_setLowLatch 2 = .ok (.getfield 14, 3) := by decide +kernel
theorem dX5_setLowLatch_5 : decode cX5_setLowLatch 5 = .ok (.ldc 23, 2) := by decide +kernel
theorem dX5_setLowLatch_7 : decode cX5_setLowLatch 7 = .ok (.iand, 1) := by decide +kernel
theorem dX5_setLowLatch_8 : decode cX5_setLowLatch 8 = .ok (.iload_n 1, 1) := by decide +kernel
theorem dX5_setLowLatch_9 : decode cX5_setLowLatch 9 = .ok (.ior, 1) := by decide +kernel
theorem dX5_setLowLatch_10 : decode cX5_setLowLatch 10 = .ok (.putfield 14, 3) := by decide +kernel
theorem dX5_setLowLatch_13 : decode cX5_setLowLatch 13 = .ok (.return_, 1) := by decide +kernel
theorem dX5_setHighLatch_0 : decode cX5_setHighLatch 0 = .ok (.aload_n 0, 1) := by decide +kernel
theorem dX5_setHighLatch_1 : decode cX5_setHighLatch 1 = .ok (.aload_n 0, 1) := by decide +kernel
theorem dX5_setHighLatch_2 : decode cX5_setHighLatch 2 = .ok (.getfield 14, 3) := by decide +kernel
theorem dX5_setHighLatch_5 : decode cX5_setHighLatch 5 = .ok (.sipush 255, 3) := by decide +kernel
theorem dX5_setHighLatch_8 : decode cX5_setHighLatch 8 = .ok (.iand, 1) := by decide +kernel
theorem dX5_setHighLatch_9 : decode cX5_setHighLatch 9 = .ok (.iload_n 1, 1) := by decide +kernel
theorem dX5_setHighLatch_10 : decode cX5_setHighLatch 10 = .ok (.bipush 8, 2) := by decide +kernel
theorem dX5_setHighLatch_12 : decode cX5_setHighLatch 12 = .ok (.ishl, 1) := by decide +kernel
theorem dX5_setHighLatch_13 : decode cX5_setHighLatch 13 = .ok (.ior, 1) := by decide +kernel
theorem dX5_setHighLatch_14 : decode cX5_setHighLatch 14 = .ok (.putfield 14, 3) := by decide +kernel
theorem dX5_setHighLatch_17 : decode cX5_setHighLatch 17 = .ok (.aload_n 0, 1) := by decide +kernel
theorem dX5_setHighLatch_18 : decode cX5_setHighLatch 18 = .ok (.getfield 20, 3) := by decide +kernel
theorem dX5_setHighLatch_21 : decode cX5_setHighLatch 21 = .ok (.iconst 1, 1) := by decide +kernel
theorem dX5_setHighLatch_22 : decode cX5_setHighLatch 22 = .ok (.iand, 1) := by decide +kernel
theorem dX5_setHighLatch_23 : decode cX5_setHighLatch 23 = .ok (.ifCond .ne 11, 3) := by decide +kernel
theorem dX5_setHighLatch_26 : decode cX5_setHighLatch 26 = .ok (.aload_n 0, 1) := by decide +kernel
theorem dX5_setHighLatch_27 : decode cX5_setHighLatch 27 = .ok (.aload_n 0, 1) := by decide +kernel
theorem dX5_setHighLatch_28 : decode cX5_setHighLatch 28 = .ok (.getfield 14, 3) := by decide +kernel
theorem dX5_setHighLatch_31 : decode cX5_setHighLatch 31 = .ok (.putfield 8, 3) := by decide +kernel
theorem dX5_setHighLatch_34 : decode cX5_setHighLatch 34 = .ok (.return_, 1) := by decide +kernel
theorem dX5_setControl_0 : decode cX5_setControl 0 = .ok (.aload_n 0, 1) := by decide +kernel
theorem dX5_setControl_1 : decode cX5_setControl 1 = .ok (.iload_n 1, 1) := by decide +kernel
theorem dX5_setControl_2 : decode cX5_setControl 2 = .ok (.aload_n 0, 1) := by decide +kernel
theorem dX5_setControl_3 : decode cX5_setControl 3 = .ok (.getfield 17, 3) := by decide +kernel
theorem dX5_setControl_6 : decode cX5_setControl 6 = .ok (.iand, 1) := by decide +kernel
theorem dX5_setControl_7 : decode cX5_setControl 7 = .ok (.putfield 20, 3) := by decide +kernel
theorem dX5_setControl_10 : decode cX5_setControl 10 = .ok (.iload_n 1, 1) := by decide +kernel
theorem dX5_setControl_11 : decode cX5_setControl 11 = .ok (.bipush 16, 2) := by decide +kernel
theorem dX5_setControl_13 : decode cX5_setControl 13 = .ok (.iand, 1) := by decide +kernel
theorem dX5_setControl_14 : decode cX5_setControl 14 = .ok (.ifCond .eq 11, 3) := by decide +kernel
theorem dX5_setControl_17 : decode cX5_setControl 17 = .ok (.aload_n 0, 1) := by decide +kernel
theorem dX5_setControl_18 : decode cX5_setControl 18 = .ok (.aload_n 0, 1) := by decide +kernel
theorem dX5_setControl_19 : decode cX5_setControl 19 = .ok (.getfield 14, 3) := by decide +kernel
theorem dX5_setControl_22 : decode cX5_setControl 22 = .ok (.putfield 8, 3) := by decide +kernel
theorem dX5_setControl_25 : decode cX5_setControl 25 = .ok (.return_, 1) := by decide +kernel
theorem dX6_init_0 : decode cX6_init 0 = .ok (.aload_n 0, 1) := by decide +kernel
theorem dX6_init_1 : decode cX6_init 1 = .ok (.invokespecial 1, 3) := by decide +kernel
theorem dX6_init_4 : decode cX6_init 4 = .ok (.aload_n 0, 1) := by decide +kernel
theorem dX6_init_5 : decode cX6_init 5 = .ok (.sipush 8192, 3) := by decide +kernel
theorem dX6_init_8 : decode cX6_init 8 = .ok (.newarray .int, 2) := by decide +kernel
theorem dX6_init_10 : decode cX6_init 10 = .ok (.putfield 9, 3) := by decide +kernel
theorem dX6_init_13 : decode cX6_init 13 = .ok (.aload_n 0, 1) := by decide +kernel
theorem dX6_init_14 : decode cX6_init 14 = .ok (.sipush 1024, 3) := by decide +kernel
theorem dX6_init_17 : decode cX6_init 17 = .ok (.newarray .int, 2) := by decide +kernel
theorem dX6_init_19 : decode cX6_init 19 = .ok (.putfield 13, 3) := by decide +kernel
theorem dX6_init_22 : decode cX6_init 22 = .ok (.aload_n 0, 1) := by decide +kernel
theorem dX6_init_23 : decode cX6_init 23 = .ok (.sipush 512, 3) := by decide +kernel
theorem dX6_init_26 : decode cX6_init 26 = .ok (.newarray .int, 2) := by decide +kernel
theorem dX6_init_28 : decode cX6_init 28 = .ok (.putfield 16, 3) := by decide +kernel
theorem dX6_init_31 : decode cX6_init 31 = .ok (.aload_n 0, 1) := by decide +kernel
theorem dX6_init_32 : decode cX6_init 32 = .ok (.sipush 1024, 3) := by decide +kernel
theorem dX6_init_35 : decode cX6_init 35 = .ok (.newarray .int, 2) := by decide +kernel
theorem dX6_init_37 : decode cX6_init 37 = .ok (.putfield 19, 3) := by decide +kernel
theorem dX6_init_40 : decode cX6_init 40 = .ok (.aload_n 0, 1) := by decide +kernel
theorem dX6_init_41 : decode cX6_init 41 = .ok (.new 22, 3) := by decide +kernel
theorem dX6_init_44 : decode cX6_init 44 = .ok (.dup, 1) := by decide +kernel
theorem dX6_init_45 : decode cX6_init 45 = .ok (.aload_n 0, 1) := by decide +kernel
theorem dX6_init_46 : decode cX6_init 46 = .ok (.getfield 9, 3) := by decide +kernel
theorem dX6_init_49 : decode cX6_init 49 = .ok (.aload_n 0, 1) := by decide +kernel
theorem dX6_init_50 : decode cX6_init 50 = .ok (.getfield 16, 3) := by decide +kernel
theorem dX6_init_53 : decode cX6_init 53 = .ok (.invokespecial 24, 3) := by decide +kernel
theorem dX6_init_56 : decode cX6_init 56 = .ok (.putfield 27, 3) := by decide +kernel
theorem dX6_init_59 : decode cX6_init 59 = .ok (.aload_n 0, 1) := by decide +kernel
theorem dX6_init_60 : decode cX6_init 60 = .ok (.new 31, 3) := by decide +kernel
theorem dX6_init_63 : decode cX6_init 63 = .ok (.dup, 1) := by decide +kernel
theorem dX6_init_64 : decode cX6_init 64 = .ok (.invokespecial 33, 3) := by decide +kernel
theorem dX6_init_67 : decode cX6_init 67 = .ok (.putfield 34, 3) := by decide +kernel
theorem dX6_init_70 : decode cX6_init 70 = .ok (.aload_n 0, 1) := by decide +kernel
theorem dX6_init_71 : decode cX6_init 71 = .ok (.new 38, 3) := by decide +kernel
theorem dX6_init_74 : decode cX6_init 74 = .ok (.dup, 1) := by decide +kernel
theorem dX6_init_75 : decode cX6_init 75 = .ok (.aload_n 0, 1) := by decide +kernel
theorem dX6_init_76 : decode cX6_init 76 = .ok (.getfield 9, 3) := by decide +kernel
theorem dX6_init_79 : decode cX6_init 79 = .ok (.aload_n 0, 1) := by decide +kernel
theorem dX6_init_80 : decode cX6_init 80 = .ok (.getfield 13, 3) := by decide +kernel
theorem dX6_init_83 : decode cX6_init 83 = .ok (.aload_n 0, 1) := by decide +kernel
theorem dX6_init_84 : decode cX6_init 84 = .ok (.getfield 16, 3) := by decide +kernel
theorem dX6_init_87 : decode cX6_init 87 = .ok (.aload_n 0, 1) := by decide +kernel
theorem dX6_init_88 : decode cX6_init 88 = .ok (.getfield 19, 3) := by decide +kernel
theorem dX6_init_91 : decode cX6_init 91 = .ok (.aload_n 0, 1) := by decide +kernel
theorem dX6_init_92 : decode cX6_init 92 = .ok (.getfield 27, 3) := by decide +kernel
theorem dX6_init_95 : decode cX6_init 95 = .ok (.aload_n 0, 1) := by decide +kernel
theorem dX6_init_96 : decode cX6_init 96 = .ok (.getfield 34, 3) := by decide +kernel
theorem dX6_init_99 : decode cX6_init 99 = .ok (.invokespecial 40, 3) := by decide +kernel
theorem dX6_init_102 : decode cX6_init 102 = .ok (.putfield 43, 3) := by decide +kernel
theorem dX6_init_105 : decode cX6_init 105 = .ok (.aload_n 0, 1) := by decide +kernel
theorem dX6_init_106 : decode cX6_init 106 = .ok (.new 47, 3) := by decide +kernel
theorem dX6_init_109 : decode cX6_init 109 = .ok (.dup, 1) := by decide +kernel
theorem dX6_init_110 : decode cX6_init 110 = .ok (.aload_n 0, 1) := by decide +kernel
theorem dX6_init_111 : decode cX6_init 111 = .ok (.getfield 43, 3) := by decide +kernel
theorem dX6_init_114 : decode cX6_init 114 = .ok (.aload_n 0, 1) := by decide +kernel
theorem dX6_init_115 : decode cX6_init 115 = .ok (.getfield 27, 3) := by decide +kernel
theorem dX6_init_118 : decode cX6_init 118 = .ok (.aload_n 0, 1) := by decide +kernel
theorem dX6_init_119 : decode cX6_init 119 = .ok (.getfield 34, 3) := by decide +kernel
theorem dX6_init_122 : decode cX6_init 122 = .ok (.invokespecial 49, 3) := by decide +kernel
theorem dX6_init_125 : decode cX6_init 125 = .ok (.putfield 52, 3) := by decide +kernel
theorem dX6_init_128 : decode cX6_init 128 = .ok (.return_, 1) := by decide +kernel
theorem dX6_burn_0 : decode cX6_burn 0 = .ok (.iload_n 1, 1) := by decide +kernel
theorem dX6_burn_1 : decode cX6_burn 1 = .ok (.ifCond .lt 15, 3) := by decide +kernel
theorem dX6_burn_4 : decode cX6_burn 4 = .ok (.iload_n 1, 1) := by decide +kernel
theorem dX6_burn_5 : decode cX6_burn 5 = .ok (.iconst 2, 1) := by decide +kernel
theorem dX6_burn_6 : decode cX6_burn 6 = .ok (.if_icmp .gt 10, 3) := by decide +kernel
theorem dX6_burn_9 : decode cX6_burn 9 = .ok (.iload_n 3, 1) := by decide +kernel
theorem dX6_burn_10 : decode cX6_burn 10 = .ok (.invokestatic 56, 3) := by decide +kernel
theorem dX6_burn_13 : decode cX6_burn 13 = .ok (.ifCond .ne 5, 3) := by decide +kernel
theorem dX6_burn_16 : decode cX6_burn 16 = .ok (.iconst 0, 1) := by decide +kernel
theorem dX6_burn_17 : decode cX6_burn 17 = .ok (.ireturn, 1) := by decide +kernel
theorem dX6_burn_18 : decode cX6_burn 18 = .ok (.iload_n 1, 1) := by decide +kernel
theorem dX6_burn_19 : decode cX6_burn 19 = .ok (.ifCond .ne 10, 3) := by decide +kernel
theorem dX6_burn_22 : decode cX6_burn 22 = .ok (.aload_n 0, 1) := by decide +kernel
theorem dX6_burn_23 : decode cX6_burn 23 = .ok (.getfield 13, 3) := by decide +kernel
theorem dX6_burn_26 : decode cX6_burn 26 = .ok (.goto 19, 3) := by decide +kernel
theorem dX6_burn_29 : decode cX6_burn 29 = .ok (.iload_n 1, 1) := by decide +kernel
theorem dX6_burn_30 : decode cX6_burn 30 = .ok (.iconst 1, 1) := by decide +kernel
theorem dX6_burn_31 : decode cX6_burn 31 = .ok (.if_icmp .ne 10, 3) := by decide +kernel
theorem dX6_burn_34 : decode cX6_burn 34 = .ok (.aload_n 0, 1) := by decide +kernel
theorem dX6_burn_35 : decode cX6_burn 35 = .ok (.getfield 16, 3) := by decide +kernel
theorem dX6_burn_38 : decode cX6_burn 38 = .ok (.goto 7, 3) := by decide +kernel
theorem dX6_burn_41 : decode cX6_burn 41 = .ok (.aload_n 0, 1) := by decide +kernel
theorem dX6_burn_42 : decode cX6_burn 42 = .ok (.getfield 19, 3) := by decide +kernel
theorem dX6_burn_45 : decode cX6_burn 45 = .ok (.astore 4, 2) := by decide +kernel
theorem dX6_burn_47 : decode cX6_burn 47 = .ok (.iload_n 2, 1) := by decide +kernel
theorem dX6_burn_48 : decode cX6_burn 48 = .ok (.ifCond .lt 10, 3) := by decide +kernel
theorem dX6_burn_51 : decode cX6_burn 51 = .ok (.iload_n 2, 1) := by decide +kernel
theorem dX6_burn_52 : decode cX6_burn 52 = .ok (.aload 4, 2) := by decide +kernel
theorem dX6_burn_54 : decode cX6_burn 54 = .ok (.arraylength, 1) := by decide +kernel
theorem dX6_burn_55 : decode cX6_burn 55 = .ok (.if_icmp .lt 5, 3) := by decide +kernel
theorem dX6_burn_58 : decode cX6_burn 58 = .ok (.iconst 0, 1) := by decide +kernel
theorem dX6_burn_59 : decode cX6_burn 59 = .ok (.ireturn, 1) := by decide +kernel
theorem dX6_burn_60 : decode cX6_burn 60 = .ok (.aload 4, 2) := by decide +kernel
theorem dX6_burn_62 : decode cX6_burn 62 = .ok (.iload_n 2, 1) := by decide +kernel
theorem dX6_burn_63 : decode cX6_burn 63 = .ok (.iload_n 3, 1) := by decide +kernel
theorem dX6_burn_64 : decode cX6_burn 64 = .ok (.iastore, 1) := by decide +kernel
theorem dX6_burn_65 : decode cX6_burn 65 = .ok (.iconst 1, 1) := by decide +kernel
theorem dX6_burn_66 : decode cX6_burn 66 = .ok (.ireturn, 1) := by decide +kernel
theorem dX6_poke_0 : decode cX6_poke 0 = .ok (.iload_n 1, 1) := by decide +kernel
theorem dX6_poke_1 : decode cX6_poke 1 = .ok (.invokestatic 60, 3) := by decide +kernel
theorem dX6_poke_4 : decode cX6_poke 4 = .ok (.ifCond .eq 10, 3) := by decide +kernel
theorem dX6_poke_7 : decode cX6_poke 7 = .ok (.iload_n 2, 1) := by decide +kernel
theorem dX6_poke_8 : decode cX6_poke 8 = .ok (.invokestatic 56, 3) := by decide +kernel
theorem dX6_poke_11 : decode cX6_poke 11 = .ok (.ifCond .ne 5, 3) := by decide +kernel
theorem dX6_poke_14 : decode cX6_poke 14 = .ok (.iconst 0, 1) := by decide +kernel
theorem dX6_poke_15 : decode cX6_poke 15 = .ok (.ireturn, 1) := by decide +kernel
theorem dX6_poke_16 : decode cX6_poke 16 = .ok (.aload_n 0, 1) := by decide +kernel
theorem dX6_poke_17 : decode cX6_poke 17 = .ok (.getfield 9, 3) := by decide +kernel
theorem dX6_poke_20 : decode cX6_poke 20 = .ok (.iload_n 1, 1) := by decide +kernel
theorem dX6_poke_21 : decode cX6_poke 21 = .ok (.iload_n 2, 1) := by decide +kernel
theorem dX6_poke_22 : decode cX6_poke 22 = .ok (.iastore, 1) := by decide +kernel
theorem dX6_poke_23 : decode cX6_poke 23 = .ok (.iconst 1, 1) := by decide +kernel
theorem dX6_poke_24 : decode cX6_poke 24 = .ok (.ireturn, 1) := by decide +kernel
theorem dX6_power_0 : decode cX6_power 0 = .ok (.aload_n 0, 1) := by decide +kernel
theorem dX6_power_1 : decode cX6_power 1 = .ok (.getfield 52, 3) := by decide +kernel
theorem dX6_power_4 : decode cX6_power 4 = .ok (.invokevirtual 63, 3) := by decide +kernel
theorem dX6_power_7 : decode cX6_power 7 = .ok (.return_, 1) := by decide +kernel
theorem dX6_press_0 : decode cX6_press 0 = .ok (.iload_n 1, 1) := by decide +kernel
theorem dX6_press_1 : decode cX6_press 1 = .ok (.ifCond .lt 16, 3) := by decide +kernel
theorem dX6_press_4 : decode cX6_press 4 = .ok (.iload_n 1, 1) := by decide +kernel
theorem dX6_press_5 : decode cX6_press 5 = .ok (.bipush 8, 2) := by decide +kernel
theorem dX6_press_7 : decode cX6_press 7 = .ok (.if_icmp .ge 10, 3) := by decide +kernel
theorem dX6_press_10 : decode cX6_press 10 = .ok (.iload_n 2, 1) := by decide +kernel
theorem dX6_press_11 : decode cX6_press 11 = .ok (.invokestatic 56, 3) := by decide +kernel
theorem dX6_press_14 : decode cX6_press 14 = .ok (.ifCond .ne 5, 3) := by decide +kernel
theorem dX6_press_17 : decode cX6_press 17 = .ok (.iconst 0, 1) := by decide +kernel
theorem dX6_press_18 : decode cX6_press 18 = .ok (.ireturn, 1) := by decide +kernel
theorem dX6_press_19 : decode cX6_press 19 = .ok (.aload_n 0, 1) := by decide +kernel
theorem dX6_press_20 : decode cX6_press 20 = .ok (.getfield 34, 3) := by decide +kernel
theorem dX6_press_23 : decode cX6_press 23 = .ok (.iload_n 1, 1) := by decide +kernel
theorem dX6_press_24 : decode cX6_press 24 = .ok (.iload_n 2, 1) := by decide +kernel
theorem dX6_press_25 : decode cX6_press 25 = .ok (.invokevirtual 66, 3) := by decide +kernel
theorem dX6_press_28 : decode cX6_press 28 = .ok (.iconst 1, 1) := by decide +kernel
theorem dX6_press_29 : decode cX6_press 29 = .ok (.ireturn, 1) := by decide +kernel
theorem dX6_run_0 : decode cX6_run 0 = .ok (.iload_n 1, 1) := by decide +kernel
theorem dX6_run_1 : decode cX6_run 1 = .ok (.iconst 1, 1) := by decide +kernel
theorem dX6_run_2 : decode cX6_run 2 = .ok (.if_icmp .lt 10, 3) := by decide +kernel
theorem dX6_run_5 : decode cX6_run 5 = .ok (.iload_n 1, 1) := by decide +kernel
theorem dX6_run_6 : decode cX6_run 6 = .ok (.sipush 1000, 3) := by decide +kernel
theorem dX6_run_9 : decode cX6_run 9 = .ok (.if_icmp .le 5, 3) := by decide +kernel
theorem dX6_run_12 : decode cX6_run 12 = .ok (.iconst (-1), 1) := by decide +kernel
theorem dX6_run_13 : decode cX6_run 13 = .ok (.ireturn, 1) := by decide +kernel
theorem dX6_run_14 : decode cX6_run 14 = .ok (.iconst 0, 1) := by decide +kernel
theorem dX6_run_15 : decode cX6_run 15 = .ok (.istore_n 2, 1) := by decide +kernel
theorem dX6_run_16 : decode cX6_run 16 = .ok (.iconst 0, 1) := by decide +kernel
theorem dX6_run_17 : decode cX6_run 17 = .ok (.istore_n 3, 1) := by decide +kernel
theorem dX6_run_18 : decode cX6_run 18 = .ok (.iload_n 3, 1) := by decide +kernel
theorem dX6_run_19 : decode cX6_run 19 = .ok (.iload_n 1, 1) := by decide +kernel
theorem dX6_run_20 : decode cX6_run 20 = .ok (.if_icmp .ge 50, 3) := by decide +kernel
theorem dX6_run_23 : decode cX6_run 23 = .ok (.aload_n 0, 1) := by decide +kernel
theorem dX6_run_24 : decode cX6_run 24 = .ok (.getfield 27, 3) := by decide +kernel
theorem dX6_run_27 : decode cX6_run 27 = .ok (.invokevirtual 70, 3) := by decide +kernel
theorem dX6_run_30 : decode cX6_run 30 = .ok (.aload_n 0, 1) := by decide +kernel
theorem dX6_run_31 : decode cX6_run 31 = .ok (.getfield 34, 3) := by decide +kernel
theorem dX6_run_34 : decode cX6_run 34 = .ok (.invokevirtual 73, 3) := by decide +kernel
theorem dX6_run_37 : decode cX6_run 37 = .ok (.aload_n 0, 1) := by decide +kernel
theorem dX6_run_38 : decode cX6_run 38 = .ok (.getfield 52, 3) := by decide +kernel
theorem dX6_run_41 : decode cX6_run 41 = .ok (.aload_n 0, 1) := by decide +kernel
theorem dX6_run_42 : decode cX6_run 42 = .ok (.getfield 27, 3) := by decide +kernel
theorem dX6_run_45 : decode cX6_run 45 = .ok (.invokevirtual 76, 3) := by decide +kernel
theorem dX6_run_48 : decode cX6_run 48 = .ok (.invokevirtual 80, 3) := by decide +kernel
theorem dX6_run_51 : decode cX6_run 51 = .ok (.ifCond .eq 6, 3) := by decide +kernel
theorem dX6_run_54 : decode cX6_run 54 = .ok (.iinc 2 1, 3) := by decide +kernel
theorem dX6_run_57 : decode cX6_run 57 = .ok (.aload_n 0, 1) := by decide +kernel
theorem dX6_run_58 : decode cX6_run 58 = .ok (.getfield 27, 3) := by decide +kernel
theorem dX6_run_61 : decode cX6_run 61 = .ok (.invokevirtual 84, 3) := by decide +kernel
theorem dX6_run_64 : decode cX6_run 64 = .ok (.iinc 3 1, 3) := by decide +kernel
theorem dX6_run_67 : decode cX6_run 67 = .ok (.goto (-49), 3) := by decide +kernel
theorem dX6_run_70 : decode cX6_run 70 = .ok (.aload_n 0, 1) := by decide +kernel
theorem dX6_run_71 : decode cX6_run 71 = .ok (.dup, 1) := by decide +kernel
theorem dX6_run_72 : decode cX6_run 72 = .ok (.getfield 87, 3) := by decide +kernel
theorem dX6_run_75 : decode cX6_run 75 = .ok (.iload_n 1, 1) := by decide +kernel
theorem dX6_run_76 : decode cX6_run 76 = .ok (.iadd, 1) := by decide +kernel
theorem dX6_run_77 : decode cX6_run 77 = .ok (.putfield 87, 3) := by decide +kernel
theorem dX6_run_80 : decode cX6_run 80 = .ok (.iload_n 2, 1) := by decide +kernel
theorem dX6_run_81 : decode cX6_run 81 = .ok (.ireturn, 1) := by decide +kernel
theorem dX6_ram_0 : decode cX6_ram 0 = .ok (.iload_n 1, 1) := by decide +kernel
theorem dX6_ram_1 : decode cX6_ram 1 = .ok (.invokestatic 60, 3) := by decide +kernel
theorem dX6_ram_4 : decode cX6_ram 4 = .ok (.ifCond .eq 12, 3) := by decide +kernel
theorem dX6_ram_7 : decode cX6_ram 7 = .ok (.aload_n 0, 1) := by decide +kernel
theorem dX6_ram_8 : decode cX6_ram 8 = .ok (.getfield 9, 3) := by decide +kernel
theorem dX6_ram_11 : decode cX6_ram 11 = .ok (.iload_n 1, 1) := by decide +kernel
theorem dX6_ram_12 : decode cX6_ram 12 = .ok (.iaload, 1) := by decide +kernel
theorem dX6_ram_13 : decode cX6_ram 13 = .ok (.goto 4, 3) := by decide +kernel
theorem dX6_ram_16 : decode cX6_ram 16 = .ok (.iconst (-1), 1) := by decide +kernel
theorem dX6_ram_17 : decode cX6_ram 17 = .ok (.ireturn, 1) := by decide +kernel
theorem dX6_look_0 : decode cX6_look 0 = .ok (.iload_n 1, 1) := by decide +kernel
theorem dX6_look_1 : decode cX6_look 1 = .ok (.invokestatic 60, 3) := by decide +kernel
theorem dX6_look_4 : decode cX6_look 4 = .ok (.ifCond .eq 14, 3) := by decide +kernel
theorem dX6_look_7 : decode cX6_look 7 = .ok (.aload_n 0, 1) := by decide +kernel
theorem dX6_look_8 : decode cX6_look 8 = .ok (.getfield 43, 3) := by decide +kernel
theorem dX6_look_11 : decode cX6_look 11 = .ok (.iload_n 1, 1) := by decide +kernel
theorem dX6_look_12 : decode cX6_look 12 = .ok (.invokevirtual 91, 3) := by decide +kernel
theorem dX6_look_15 : decode cX6_look 15 = .ok (.goto 4, 3) := by decide +kernel
theorem dX6_look_18 : decode cX6_look 18 = .ok (.iconst (-1), 1) := by decide +kernel
theorem dX6_look_19 : decode cX6_look 19 = .ok (.ireturn, 1) := by decide +kernel
theorem dX6_register_0 : decode cX6_register 0 = .ok (.iload_n 1, 1) := by decide +kernel
theorem dX6_register_1 : decode cX6_register 1 = .ok (.tableswitch 117 0 6 #[43, 54, 65, 76, 87, 98, 109], 43) := by decide +kernel
theorem dX6_register_44 : decode cX6_register 44 = .ok (.aload_n 0, 1) := by decide +kernel
theorem dX6_register_45 : decode cX6_register 45 = .ok (.getfield 52, 3) := by decide +kernel
theorem dX6_register_48 : decode cX6_register 48 = .ok (.getfield 95, 3) := by decide +kernel
theorem dX6_register_51 : decode cX6_register 51 = .ok (.getfield 99, 3) := by decide +kernel
theorem dX6_register_54 : decode cX6_register 54 = .ok (.ireturn, 1) := by decide +kernel
theorem dX6_register_55 : decode cX6_register 55 = .ok (.aload_n 0, 1) := by decide +kernel
theorem dX6_register_56 : decode cX6_register 56 = .ok (.getfield 52, 3) := by decide +kernel
theorem dX6_register_59 : decode cX6_register 59 = .ok (.getfield 95, 3) := by decide +kernel
theorem dX6_register_62 : decode cX6_register 62 = .ok (.getfield 104, 3) := by decide +kernel
theorem dX6_register_65 : decode cX6_register 65 = .ok (.ireturn, 1) := by decide +kernel
theorem dX6_register_66 : decode cX6_register 66 = .ok (.aload_n 0, 1) := by decide +kernel
theorem dX6_register_67 : decode cX6_register 67 = .ok (.getfield 52, 3) := by decide +kernel
theorem dX6_register_70 : decode cX6_register 70 = .ok (.getfield 95, 3) := by decide +kernel
theorem dX6_register_73 : decode cX6_register 73 = .ok (.getfield 107, 3) := by decide +kernel
theorem dX6_register_76 : decode cX6_register 76 = .ok (.ireturn, 1) := by decide +kernel
theorem dX6_register_77 : decode cX6_register 77 = .ok (.aload_n 0, 1) := by decide +kernel
theorem dX6_register_78 : decode cX6_register 78 = .ok (.getfield 52, 3) := by decide +kernel
theorem dX6_register_81 : decode cX6_register 81 = .ok (.getfield 95, 3) := by decide +kernel
theorem dX6_register_84 : decode cX6_register 84 = .ok (.getfield 110, 3) := by decide +kernel
theorem dX6_register_87 : decode cX6_register 87 = .ok (.ireturn, 1) := by decide +kernel
theorem dX6_register_88 : decode cX6_register 88 = .ok (.aload_n 0, 1) := by decide +kernel
theorem dX6_register_89 : decode cX6_register 89 = .ok (.getfield 52, 3) := by decide +kernel
theorem dX6_register_92 : decode cX6_register 92 = .ok (.getfield 95, 3) := by decide +kernel
theorem dX6_register_95 : decode cX6_register 95 = .ok (.getfield 113, 3) := by decide +kernel
theorem dX6_register_98 : decode cX6_register 98 = .ok (.ireturn, 1) := by decide +kernel
theorem dX6_register_99 : decode cX6_register 99 = .ok (.aload_n 0, 1) := by decide +kernel
theorem dX6_register_100 : decode cX6_register 100 = .ok (.getfield 52, 3) := by decide +kernel
theorem dX6_register_103 : decode cX6_register 103 = .ok (.getfield 95, 3) := by decide +kernel
theorem dX6_register_106 : decode cX6_register 106 = .ok (.getfield 116, 3) := by decide +kernel
theorem dX6_register_109 : decode cX6_register 109 = .ok (.ireturn, 1) := by decide +kernel
theorem dX6_register_110 : decode cX6_register 110 = .ok (.aload_n 0, 1) := by decide +kernel
theorem dX6_register_111 : decode cX6_register 111 = .ok (.getfield 43, 3) := by decide +kernel
theorem dX6_register_114 : decode cX6_register 114 = .ok (.getfield 119, 3) := by decide +kernel
theorem dX6_register_117 : decode cX6_register 117 = .ok (.ireturn, 1) := by decide +kernel
theorem dX6_register_118 : decode cX6_register 118 = .ok (.iconst (-1), 1) := by decide +kernel
theorem dX6_register_119 : decode cX6_register 119 = .ok (.ireturn, 1) := by decide +kernel
theorem dX6_jammed_0 : decode cX6_jammed 0 = .ok (.aload_n 0, 1) := by decide +kernel
theorem dX6_jammed_1 : decode cX6_jammed 1 = .ok (.getfield 52, 3) := by decide +kernel
theorem dX6_jammed_4 : decode cX6_jammed 4 = .ok (.getfield 122, 3) := by decide +kernel
theorem dX6_jammed_7 : decode cX6_jammed 7 = .ok (.ireturn, 1) := by decide +kernel
theorem dX6_beam_0 : decode cX6_beam 0 = .ok (.aload_n 0, 1) := by decide +kernel
theorem dX6_beam_1 : decode cX6_beam 1 = .ok (.getfield 27, 3) := by decide +kernel
theorem dX6_beam_4 : decode cX6_beam 4 = .ok (.getfield 126, 3) := by decide +kernel
theorem dX6_beam_7 : decode cX6_beam 7 = .ok (.bipush 24, 2) := by decide +kernel
theorem dX6_beam_9 : decode cX6_beam 9 = .ok (.imul, 1) := by decide +kernel
theorem dX6_beam_10 : decode cX6_beam 10 = .ok (.aload_n 0, 1) := by decide +kernel
theorem dX6_beam_11 : decode cX6_beam 11 = .ok (.getfield 27, 3) := by decide +kernel
theorem dX6_beam_14 : decode cX6_beam 14 = .ok (.getfield 129, 3) := by decide +kernel
theorem dX6_beam_17 : decode cX6_beam 17 = .ok (.iadd, 1) := by decide +kernel
theorem dX6_beam_18 : decode cX6_beam 18 = .ok (.ireturn, 1) := by decide +kernel
theorem dX6_point_0 : decode cX6_point 0 = .ok (.iload_n 1, 1) := by decide +kernel
theorem dX6_point_1 : decode cX6_point 1 = .ok (.ifCond .lt 19, 3) := by decide +kernel
theorem dX6_point_4 : decode cX6_point 4 = .ok (.iload_n 1, 1) := by decide +kernel
theorem dX6_point_5 : decode cX6_point 5 = .ok (.bipush 40, 2) := by decide +kernel
theorem dX6_point_7 : decode cX6_point 7 = .ok (.if_icmp .ge 13, 3) := by decide +kernel
theorem dX6_point_10 : decode cX6_point 10 = .ok (.iload_n 2, 1) := by decide +kernel
theorem dX6_point_11 : decode cX6_point 11 = .ok (.ifCond .lt 9, 3) := by decide +kernel
theorem dX6_point_14 : decode cX6_point 14 = .ok (.iload_n 2, 1) := by decide +kernel
theorem dX6_point_15 : decode cX6_point 15 = .ok (.bipush 64, 2) := by decide +kernel
theorem dX6_point_17 : decode cX6_point 17 = .ok (.if_icmp .lt 5, 3) := by decide +kernel
theorem dX6_point_20 : decode cX6_point 20 = .ok (.iconst (-1), 1) := by decide +kernel
theorem dX6_point_21 : decode cX6_point 21 = .ok (.ireturn, 1) := by decide +kernel
theorem dX6_point_22 : decode cX6_point 22 = .ok (.aload_n 0, 1) := by decide +kernel
theorem dX6_point_23 : decode cX6_point 23 = .ok (.getfield 27, 3) := by decide +kernel
theorem dX6_point_26 : decode cX6_point 26 = .ok (.getfield 132, 3) := by decide +kernel
theorem dX6_point_29 : decode cX6_point 29 = .ok (.iload_n 1, 1) := by decide +kernel
theorem dX6_point_30 : decode cX6_point 30 = .ok (.bipush 64, 2) := by decide +kernel
theorem dX6_point_32 : decode cX6_point 32 = .ok (.imul, 1) := by decide +kernel
theorem dX6_point_33 : decode cX6_point 33 = .ok (.iload_n 2, 1) := by decide +kernel
theorem dX6_point_34 : decode cX6_point 34 = .ok (.iadd, 1) := by decide +kernel
theorem dX6_point_35 : decode cX6_point 35 = .ok (.iaload, 1) := by decide +kernel
theorem dX6_point_36 : decode cX6_point 36 = .ok (.ireturn, 1) := by decide +kernel
theorem dX6_access_0 : decode cX6_access 0 = .ok (.aload_n 0, 1) := by decide +kernel
theorem dX6_access_1 : decode cX6_access 1 = .ok (.getfield 43, 3) := by decide +kernel
theorem dX6_access_4 : decode cX6_access 4 = .ok (.getfield 135, 3) := by decide +kernel
theorem dX6_access_7 : decode cX6_access 7 = .ok (.ireturn, 1) := by decide +kernel
theorem dX6_cycles_0 : decode cX6_cycles 0 = .ok (.aload_n 0, 1) := by decide +kernel
theorem dX6_cycles_1 : decode cX6_cycles 1 = .ok (.getfield 87, 3) := by decide +kernel
theorem dX6_cycles_4 : decode cX6_cycles 4 = .ok (.ireturn, 1) := by decide +kernel
theorem dX6_stolen_0 : decode cX6_stolen 0 = .ok (.aload_n 0, 1) := by decide +kernel
theorem dX6_stolen_1 : decode cX6_stolen 1 = .ok (.getfield 52, 3) := by decide +kernel
theorem dX6_stolen_4 : decode cX6_stolen 4 = .ok (.getfield 138, 3) := by decide +kernel
theorem dX6_stolen_7 : decode cX6_stolen 7 = .ok (.ireturn, 1) := by decide +kernel
theorem dX6_interrupts_0 : decode cX6_interrupts 0 = .ok (.aload_n 0, 1) := by decide +kernel
theorem dX6_interrupts_1 : decode cX6_interrupts 1 = .ok (.getfield 52, 3) := by decide +kernel
theorem dX6_interrupts_4 : decode cX6_interrupts 4 = .ok (.getfield 141, 3) := by decide +kernel
theorem dX6_interrupts_7 : decode cX6_interrupts 7 = .ok (.ireturn, 1) := by decide +kernel
theorem dX6_isByte_0 : decode cX6_isByte 0 = .ok (.iload_n 0, 1) := by decide +kernel
theorem dX6_isByte_1 : decode cX6_isByte 1 = .ok (.ifCond .lt 14, 3) := by decide +kernel
theorem dX6_isByte_4 : decode cX6_isByte 4 = .ok (.iload_n 0, 1) := by decide +kernel
theorem dX6_isByte_5 : decode cX6_isByte 5 = .ok (.sipush 255, 3) := by decide +kernel
theorem dX6_isByte_8 : decode cX6_isByte 8 = .ok (.if_icmp .gt 7, 3) := by decide +kernel
theorem dX6_isByte_11 : decode cX6_isByte 11 = .ok (.iconst 1, 1) := by decide +kernel
theorem dX6_isByte_12 : decode cX6_isByte 12 = .ok (.goto 4, 3) := by decide +kernel
theorem dX6_isByte_15 : decode cX6_isByte 15 = .ok (.iconst 0, 1) := by decide +kernel
theorem dX6_isByte_16 : decode cX6_isByte 16 = .ok (.ireturn, 1) := by decide +kernel
theorem dX6_isAddress_0 : decode cX6_isAddress 0 = .ok (.iload_n 0, 1) := by decide +kernel
theorem dX6_isAddress_1 : decode cX6_isAddress 1 = .ok (.ifCond .lt 14, 3) := by decide +kernel
theorem dX6_isAddress_4 : decode cX6_isAddress 4 = .ok (.iload_n 0, 1) := by decide +kernel
theorem dX6_isAddress_5 : decode cX6_isAddress 5 = .ok (.sipush 8192, 3) := by decide +kernel
theorem dX6_isAddress_8 : decode cX6_isAddress 8 = .ok (.if_icmp .ge 7, 3) := by decide +kernel
theorem dX6_isAddress_11 : decode cX6_isAddress 11 = .ok (.iconst 1, 1) := by decide +kernel
theorem dX6_isAddress_12 : decode cX6_isAddress 12 = .ok (.goto 4, 3) := by decide +kernel
theorem dX6_isAddress_15 : decode cX6_isAddress 15 = .ok (.iconst 0, 1) := by decide +kernel
theorem dX6_isAddress_16 : decode cX6_isAddress 16 = .ok (.ireturn, 1) := by decide +kernel
theorem dX7_init_0 : decode cX7_init 0 = .ok (.aload_n 0, 1) := by decide +kernel
theorem dX7_init_1 : decode cX7_init 1 = .ok (.invokespecial 1, 3) := by decide +kernel
theorem dX7_init_4 : decode cX7_init 4 = .ok (.aload_n 0, 1) := by decide +kernel
theorem dX7_init_5 : decode cX7_init 5 = .ok (.sipush 8192, 3) := by decide +kernel
theorem dX7_init_8 : decode cX7_init 8 = .ok (.newarray .int, 2) := by decide +kernel
theorem dX7_init_10 : decode cX7_init 10 = .ok (.putfield 7, 3) := by decide +kernel
theorem dX7_init_13 : decode cX7_init 13 = .ok (.aload_n 0, 1) := by decide +kernel
theorem dX7_init_14 : decode cX7_init 14 = .ok (.sipush 1024, 3) := by decide +kernel
theorem dX7_init_17 : decode cX7_init 17 = .ok (.newarray .int, 2) := by decide +kernel
theorem dX7_init_19 : decode cX7_init 19 = .ok (.putfield 13, 3) := by decide +kernel
theorem dX7_init_22 : decode cX7_init 22 = .ok (.aload_n 0, 1) := by decide +kernel
theorem dX7_init_23 : decode cX7_init 23 = .ok (.sipush 512, 3) := by decide +kernel
theorem dX7_init_26 : decode cX7_init 26 = .ok (.newarray .int, 2) := by decide +kernel
theorem dX7_init_28 : decode cX7_init 28 = .ok (.putfield 16, 3) := by decide +kernel
theorem dX7_init_31 : decode cX7_init 31 = .ok (.aload_n 0, 1) := by decide +kernel
theorem dX7_init_32 : decode cX7_init 32 = .ok (.sipush 1024, 3) := by decide +kernel
theorem dX7_init_35 : decode cX7_init 35 = .ok (.newarray .int, 2) := by decide +kernel
theorem dX7_init_37 : decode cX7_init 37 = .ok (.putfield 19, 3) := by decide +kernel
theorem dX7_init_40 : decode cX7_init 40 = .ok (.aload_n 0, 1) := by decide +kernel
theorem dX7_init_41 : decode cX7_init 41 = .ok (.bipush 7, 2) := by decide +kernel
theorem dX7_init_43 : decode cX7_init 43 = .ok (.putfield 22, 3) := by decide +kernel
theorem dX7_init_46 : decode cX7_init 46 = .ok (.aload_n 0, 1) := by decide +kernel
theorem dX7_init_47 : decode cX7_init 47 = .ok (.bipush 7, 2) := by decide +kernel
theorem dX7_init_49 : decode cX7_init 49 = .ok (.newarray .int, 2) := by decide +kernel
theorem dX7_init_51 : decode cX7_init 51 = .ok (.putfield 26, 3) := by decide +kernel
theorem dX7_init_54 : decode cX7_init 54 = .ok (.aload_n 0, 1) := by decide +kernel
theorem dX7_init_55 : decode cX7_init 55 = .ok (.iconst 1, 1) := by decide +kernel
theorem dX7_init_56 : decode cX7_init 56 = .ok (.putfield 29, 3) := by decide +kernel
theorem dX7_init_59 : decode cX7_init 59 = .ok (.aload_n 0, 1) := by decide +kernel
theorem dX7_init_60 : decode cX7_init 60 = .ok (.bipush 8, 2) := by decide +kernel
theorem dX7_init_62 : decode cX7_init 62 = .ok (.newarray .int, 2) := by decide +kernel
theorem dX7_init_64 : decode cX7_init 64 = .ok (.putfield 33, 3) := by decide +kernel
theorem dX7_init_67 : decode cX7_init 67 = .ok (.aload_n 0, 1) := by decide +kernel
theorem dX7_init_68 : decode cX7_init 68 = .ok (.bipush 8, 2) := by decide +kernel
theorem dX7_init_70 : decode cX7_init 70 = .ok (.newarray .int, 2) := by decide +kernel
theorem dX7_init_72 : decode cX7_init 72 = .ok (.putfield 36, 3) := by decide +kernel
theorem dX7_init_75 : decode cX7_init 75 = .ok (.aload_n 0, 1) := by decide +kernel
theorem dX7_init_76 : decode cX7_init 76 = .ok (.bipush 24, 2) := by decide +kernel
theorem dX7_init_78 : decode cX7_init 78 = .ok (.newarray .int, 2) := by decide +kernel
theorem dX7_init_80 : decode cX7_init 80 = .ok (.putfield 39, 3) := by decide +kernel
theorem dX7_init_83 : decode cX7_init 83 = .ok (.aload_n 0, 1) := by decide +kernel
theorem dX7_init_84 : decode cX7_init 84 = .ok (.sipush 2560, 3) := by decide +kernel
theorem dX7_init_87 : decode cX7_init 87 = .ok (.newarray .int, 2) := by decide +kernel
theorem dX7_init_89 : decode cX7_init 89 = .ok (.putfield 42, 3) := by decide +kernel
theorem dX7_init_92 : decode cX7_init 92 = .ok (.aload_n 0, 1) := by decide +kernel
theorem dX7_init_93 : decode cX7_init 93 = .ok (.bipush 8, 2) := by decide +kernel
theorem dX7_init_95 : decode cX7_init 95 = .ok (.newarray .int, 2) := by decide +kernel
theorem dX7_init_97 : decode cX7_init 97 = .ok (.putfield 45, 3) := by decide +kernel
theorem dX7_init_100 : decode cX7_init 100 = .ok (.aload_n 0, 1) := by decide +kernel
theorem dX7_init_101 : decode cX7_init 101 = .ok (.iconst 2, 1) := by decide +kernel
theorem dX7_init_102 : decode cX7_init 102 = .ok (.newarray .int, 2) := by decide +kernel
theorem dX7_init_104 : decode cX7_init 104 = .ok (.putfield 48, 3) := by decide +kernel
theorem dX7_init_107 : decode cX7_init 107 = .ok (.aload_n 0, 1) := by decide +kernel
theorem dX7_init_108 : decode cX7_init 108 = .ok (.iconst 2, 1) := by decide +kernel
theorem dX7_init_109 : decode cX7_init 109 = .ok (.newarray .int, 2) := by decide +kernel
theorem dX7_init_111 : decode cX7_init 111 = .ok (.putfield 51, 3) := by decide +kernel
theorem dX7_init_114 : decode cX7_init 114 = .ok (.aload_n 0, 1) := by decide +kernel
theorem dX7_init_115 : decode cX7_init 115 = .ok (.iconst 2, 1) := by decide +kernel
theorem dX7_init_116 : decode cX7_init 116 = .ok (.newarray .int, 2) := by decide +kernel
theorem dX7_init_118 : decode cX7_init 118 = .ok (.putfield 54, 3) := by decide +kernel
theorem dX7_init_121 : decode cX7_init 121 = .ok (.aload_n 0, 1) := by decide +kernel
theorem dX7_init_122 : decode cX7_init 122 = .ok (.sipush 255, 3) := by decide +kernel
theorem dX7_init_125 : decode cX7_init 125 = .ok (.putfield 57, 3) := by decide +kernel
theorem dX7_init_128 : decode cX7_init 128 = .ok (.aload_n 0, 1) := by decide +kernel
theorem dX7_init_129 : decode cX7_init 129 = .ok (.iconst 4, 1) := by decide +kernel
theorem dX7_init_130 : decode cX7_init 130 = .ok (.putfield 60, 3) := by decide +kernel
theorem dX7_init_133 : decode cX7_init 133 = .ok (.aload_n 0, 1) := by decide +kernel
theorem dX7_init_134 : decode cX7_init 134 = .ok (.iconst 1, 1) := by decide +kernel
theorem dX7_init_135 : decode cX7_init 135 = .ok (.putfield 63, 3) := by decide +kernel
theorem dX7_init_138 : decode cX7_init 138 = .ok (.aload_n 0, 1) := by decide +kernel
theorem dX7_init_139 : decode cX7_init 139 = .ok (.iconst (-1), 1) := by decide +kernel
theorem dX7_init_140 : decode cX7_init 140 = .ok (.putfield 66, 3) := by decide +kernel
theorem dX7_init_143 : decode cX7_init 143 = .ok (.iconst 0, 1) := by decide +kernel
theorem dX7_init_144 : decode cX7_init 144 = .ok (.istore_n 1, 1) := by decide +kernel
theorem dX7_init_145 : decode cX7_init 145 = .ok (.iload_n 1, 1) := by decide +kernel
theorem dX7_init_146 : decode cX7_init 146 = .ok (.iconst 2, 1) := by decide +kernel
theorem dX7_init_147 : decode cX7_init 147 = .ok (.if_icmp .ge 25, 3) := by decide +kernel
theorem dX7_init_150 : decode cX7_init 150 = .ok (.aload_n 0, 1) := by decide +kernel
theorem dX7_init_151 : decode cX7_init 151 = .ok (.getfield 48, 3) := by decide +kernel
theorem dX7_init_154 : decode cX7_init 154 = .ok (.iload_n 1, 1) := by decide +kernel
theorem dX7_init_155 : decode cX7_init 155 = .ok (.ldc 69, 2) := by decide +kernel
theorem dX7_init_157 : decode cX7_init 157 = .ok (.iastore, 1) := by decide +kernel
theorem dX7_init_158 : decode cX7_init 158 = .ok (.aload_n 0, 1) := by decide +kernel
theorem dX7_init_159 : decode cX7_init 159 = .ok (.getfield 51, 3) := by decide +kernel
theorem dX7_init_162 : decode cX7_init 162 = .ok (.iload_n 1, 1) := by decide +kernel
theorem dX7_init_163 : decode cX7_init 163 = .ok (.ldc 69, 2) := by decide +kernel
theorem dX7_init_165 : decode cX7_init 165 = .ok (.iastore, 1) := by decide +kernel
theorem dX7_init_166 : decode cX7_init 166 = .ok (.iinc 1 1, 3) := by decide +kernel
theorem dX7_init_169 : decode cX7_init 169 = .ok (.goto (-24), 3) := by decide +kernel
theorem dX7_init_172 : decode cX7_init 172 = .ok (.return_, 1) := by decide +kernel
theorem dX7_below_0 : decode cX7_below 0 = .ok (.iload_n 0, 1) := by decide +kernel
theorem dX7_below_1 : decode cX7_below 1 = .ok (.ifCond .lt 12, 3) := by decide +kernel
theorem dX7_below_4 : decode cX7_below 4 = .ok (.iload_n 0, 1) := by decide +kernel
theorem dX7_below_5 : decode cX7_below 5 = .ok (.iload_n 1, 1) := by decide +kernel
theorem dX7_below_6 : decode cX7_below 6 = .ok (.if_icmp .ge 7, 3) := by decide +kernel
theorem dX7_below_9 : decode cX7_below 9 = .ok (.iconst 1, 1) := by decide +kernel
theorem dX7_below_10 : decode cX7_below 10 = .ok (.goto 4, 3) := by decide +kernel
theorem dX7_below_13 : decode cX7_below 13 = .ok (.iconst 0, 1) := by decide +kernel
theorem dX7_below_14 : decode cX7_below 14 = .ok (.ireturn, 1) := by decide +kernel
theorem dX7_burn_0 : decode cX7_burn 0 = .ok (.iload_n 1, 1) := by decide +kernel
theorem dX7_burn_1 : decode cX7_burn 1 = .ok (.iconst 3, 1) := by decide +kernel
theorem dX7_burn_2 : decode cX7_burn 2 = .ok (.invokestatic 70, 3) := by decide +kernel
theorem dX7_burn_5 : decode cX7_burn 5 = .ok (.ifCond .eq 34, 3) := by decide +kernel
theorem dX7_burn_8 : decode cX7_burn 8 = .ok (.iload_n 2, 1) := by decide +kernel
theorem dX7_burn_9 : decode cX7_burn 9 = .ok (.iload_n 1, 1) := by decide +kernel
theorem dX7_burn_10 : decode cX7_burn 10 = .ok (.iconst 1, 1) := by decide +kernel
theorem dX7_burn_11 : decode cX7_burn 11 = .ok (.if_icmp .ne 9, 3) := by decide +kernel
theorem dX7_burn_14 : decode cX7_burn 14 = .ok (.sipush 512, 3) := by decide +kernel
theorem dX7_burn_17 : decode cX7_burn 17 = .ok (.goto 6, 3) := by decide +kernel
theorem dX7_burn_20 : decode cX7_burn 20 = .ok (.sipush 1024, 3) := by decide +kernel
theorem dX7_burn_23 : decode cX7_burn 23 = .ok (.invokestatic 70, 3) := by decide +kernel
theorem dX7_burn_26 : decode cX7_burn 26 = .ok (.ifCond .eq 13, 3) := by decide +kernel
theorem dX7_burn_29 : decode cX7_burn 29 = .ok (.iload_n 3, 1) := by decide +kernel
theorem dX7_burn_30 : decode cX7_burn 30 = .ok (.sipush 256, 3) := by decide +kernel
theorem dX7_burn_33 : decode cX7_burn 33 = .ok (.invokestatic 70, 3) := by decide +kernel
theorem dX7_burn_36 : decode cX7_burn 36 = .ok (.ifCond .ne 5, 3) := by decide +kernel
theorem dX7_burn_39 : decode cX7_burn 39 = .ok (.iconst 0, 1) := by decide +kernel
theorem dX7_burn_40 : decode cX7_burn 40 = .ok (.ireturn, 1) := by decide +kernel
theorem dX7_burn_41 : decode cX7_burn 41 = .ok (.iload_n 1, 1) := by decide +kernel
theorem dX7_burn_42 : decode cX7_burn 42 = .ok (.ifCond .ne 10, 3) := by decide +kernel
theorem dX7_burn_45 : decode cX7_burn 45 = .ok (.aload_n 0, 1) := by decide +kernel
theorem dX7_burn_46 : decode cX7_burn 46 = .ok (.getfield 13, 3) := by decide +kernel
theorem dX7_burn_49 : decode cX7_burn 49 = .ok (.iload_n 2, 1) := by decide +kernel
theorem dX7_burn_50 : decode cX7_burn 50 = .ok (.iload_n 3, 1) := by decide +kernel
theorem dX7_burn_51 : decode cX7_burn 51 = .ok (.iastore, 1) := by decide +kernel
theorem dX7_burn_52 : decode cX7_burn 52 = .ok (.iload_n 1, 1) := by decide +kernel
theorem dX7_burn_53 : decode cX7_burn 53 = .ok (.iconst 1, 1) := by decide +kernel
theorem dX7_burn_54 : decode cX7_burn 54 = .ok (.if_icmp .ne 10, 3) := by decide +kernel
theorem dX7_burn_57 : decode cX7_burn 57 = .ok (.aload_n 0, 1) := by decide +kernel
theorem dX7_burn_58 : decode cX7_burn 58 = .ok (.getfield 16, 3) := by decide +kernel
theorem dX7_burn_61 : decode cX7_burn 61 = .ok (.iload_n 2, 1) := by decide +kernel
theorem dX7_burn_62 : decode cX7_burn 62 = .ok (.iload_n 3, 1) := by decide +kernel
theorem dX7_burn_63 : decode cX7_burn 63 = .ok (.iastore, 1) := by decide +kernel
theorem dX7_burn_64 : decode cX7_burn 64 = .ok (.iload_n 1, 1) := by decide +kernel
theorem dX7_burn_65 : decode cX7_burn 65 = .ok (.iconst 2, 1) := by decide +kernel
theorem dX7_burn_66 : decode cX7_burn 66 = .ok (.if_icmp .ne 10, 3) := by decide +kernel
theorem dX7_burn_69 : decode cX7_burn 69 = .ok (.aload_n 0, 1) := by decide +kernel
theorem dX7_burn_70 : decode cX7_burn 70 = .ok (.getfield 19, 3) := by decide +kernel
theorem dX7_burn_73 : decode cX7_burn 73 = .ok (.iload_n 2, 1) := by decide +kernel
theorem dX7_burn_74 : decode cX7_burn 74 = .ok (.iload_n 3, 1) := by decide +kernel
theorem dX7_burn_75 : decode cX7_burn 75 = .ok (.iastore, 1) := by decide +kernel
theorem dX7_burn_76 : decode cX7_burn 76 = .ok (.iconst 1, 1) := by decide +kernel
theorem dX7_burn_77 : decode cX7_burn 77 = .ok (.ireturn, 1) := by decide +kernel
theorem dX7_poke_0 : decode cX7_poke 0 = .ok (.iload_n 1, 1) := by decide +kernel
theorem dX7_poke_1 : decode cX7_poke 1 = .ok (.sipush 8192, 3) := by decide +kernel
theorem dX7_poke_4 : decode cX7_poke 4 = .ok (.invokestatic 70, 3) := by decide +kernel
theorem dX7_poke_7 : decode cX7_poke 7 = .ok (.ifCond .eq 13, 3) := by decide +kernel
theorem dX7_poke_10 : decode cX7_poke 10 = .ok (.iload_n 2, 1) := by decide +kernel
theorem dX7_poke_11 : decode cX7_poke 11 = .ok (.sipush 256, 3) := by decide +kernel
theorem dX7_poke_14 : decode cX7_poke 14 = .ok (.invokestatic 70, 3) := by decide +kernel
theorem dX7_poke_17 : decode cX7_poke 17 = .ok (.ifCond .ne 5, 3) := by decide +kernel
theorem dX7_poke_20 : decode cX7_poke 20 = .ok (.iconst 0, 1) := by decide +kernel
theorem dX7_poke_21 : decode cX7_poke 21 = .ok (.ireturn, 1) := by decide +kernel
theorem dX7_poke_22 : decode cX7_poke 22 = .ok (.aload_n 0, 1) := by decide +kernel
theorem dX7_poke_23 : decode cX7_poke 23 = .ok (.getfield 7, 3) := by decide +kernel
theorem dX7_poke_26 : decode cX7_poke 26 = .ok (.iload_n 1, 1) := by decide +kernel
theorem dX7_poke_27 : decode cX7_poke 27 = .ok (.iload_n 2, 1) := by decide +kernel
theorem dX7_poke_28 : decode cX7_poke 28 = .ok (.iastore, 1) := by decide +kernel
theorem dX7_poke_29 : decode cX7_poke 29 = .ok (.iconst 1, 1) := by decide +kernel
theorem dX7_poke_30 : decode cX7_poke 30 = .ok (.ireturn, 1) := by decide +kernel
theorem dX7_press_0 : decode cX7_press 0 = .ok (.iload_n 1, 1) := by decide +kernel
theorem dX7_press_1 : decode cX7_press 1 = .ok (.bipush 8, 2) := by decide +kernel
theorem dX7_press_3 : decode cX7_press 3 = .ok (.invokestatic 70, 3) := by decide +kernel
theorem dX7_press_6 : decode cX7_press 6 = .ok (.ifCond .eq 13, 3) := by decide +kernel
theorem dX7_press_9 : decode cX7_press 9 = .ok (.iload_n 2, 1) := by decide +kernel
theorem dX7_press_10 : decode cX7_press 10 = .ok (.sipush 256, 3) := by decide +kernel
theorem dX7_press_13 : decode cX7_press 13 = .ok (.invokestatic 70, 3) := by decide +kernel
theorem dX7_press_16 : decode cX7_press 16 = .ok (.ifCond .ne 5, 3) := by decide +kernel
theorem dX7_press_19 : decode cX7_press 19 = .ok (.iconst 0, 1) := by decide +kernel
theorem dX7_press_20 : decode cX7_press 20 = .ok (.ireturn, 1) := by decide +kernel
theorem dX7_press_21 : decode cX7_press 21 = .ok (.aload_n 0, 1) := by decide +kernel
theorem dX7_press_22 : decode cX7_press 22 = .ok (.getfield 45, 3) := by decide +kernel
theorem dX7_press_25 : decode cX7_press 25 = .ok (.iload_n 1, 1) := by decide +kernel
theorem dX7_press_26 : decode cX7_press 26 = .ok (.iload_n 2, 1) := by decide +kernel
theorem dX7_press_27 : decode cX7_press 27 = .ok (.iastore, 1) := by decide +kernel
theorem dX7_press_28 : decode cX7_press 28 = .ok (.iconst 1, 1) := by decide +kernel
theorem dX7_press_29 : decode cX7_press 29 = .ok (.ireturn, 1) := by decide +kernel
theorem dX7_registersAt_0 : decode cX7_registersAt 0 = .ok (.iload_n 1, 1) := by decide +kernel
theorem dX7_registersAt_1 : decode cX7_registersAt 1 = .ok (.sipush 6656, 3) := by decide +kernel
theorem dX7_registersAt_4 : decode cX7_registersAt 4 = .ok (.if_icmp .lt 32, 3) := by decide +kernel
theorem dX7_registersAt_7 : decode cX7_registersAt 7 = .ok (.iload_n 1, 1) := by decide +kernel
theorem dX7_registersAt_8 : decode cX7_registersAt 8 = .ok (.sipush 7168, 3) := by decide +kernel
theorem dX7_registersAt_11 : decode cX7_registersAt 11 = .ok (.if_icmp .ge 25, 3) := by decide +kernel
theorem dX7_registersAt_14 : decode cX7_registersAt 14 = .ok (.aload_n 0, 1) := by decide +kernel
theorem dX7_registersAt_15 : decode cX7_registersAt 15 = .ok (.getfield 22, 3) := by decide +kernel
theorem dX7_registersAt_18 : decode cX7_registersAt 18 = .ok (.iconst 3, 1) := by decide +kernel
theorem dX7_registersAt_19 : decode cX7_registersAt 19 = .ok (.iand, 1) := by decide +kernel
theorem dX7_registersAt_20 : decode cX7_registersAt 20 = .ok (.ifCond .eq 16, 3) := by decide +kernel
theorem dX7_registersAt_23 : decode cX7_registersAt 23 = .ok (.aload_n 0, 1) := by decide +kernel
theorem dX7_registersAt_24 : decode cX7_registersAt 24 = .ok (.getfield 22, 3) := by decide +kernel
theorem dX7_registersAt_27 : decode cX7_registersAt 27 = .ok (.iconst 4, 1) := by decide +kernel
theorem dX7_registersAt_28 : decode cX7_registersAt 28 = .ok (.iand, 1) := by decide +kernel
theorem dX7_registersAt_29 : decode cX7_registersAt 29 = .ok (.ifCond .eq 7, 3) := by decide +kernel
theorem dX7_registersAt_32 : decode cX7_registersAt 32 = .ok (.iconst 1, 1) := by decide +kernel
theorem dX7_registersAt_33 : decode cX7_registersAt 33 = .ok (.goto 4, 3) := by decide +kernel
theorem dX7_registersAt_36 : decode cX7_registersAt 36 = .ok (.iconst 0, 1) := by decide +kernel
theorem dX7_registersAt_37 : decode cX7_registersAt 37 = .ok (.ireturn, 1) := by decide +kernel
theorem dX7_seen_0 : decode cX7_seen 0 = .ok (.iload_n 1, 1) := by decide +kernel
theorem dX7_seen_1 : decode cX7_seen 1 = .ok (.iconst 1, 1) := by decide +kernel
theorem dX7_seen_2 : decode cX7_seen 2 = .ok (.if_icmp .ne 8, 3) := by decide +kernel
theorem dX7_seen_5 : decode cX7_seen 5 = .ok (.aload_n 0, 1) := by decide +kernel
theorem dX7_seen_6 : decode cX7_seen 6 = .ok (.getfield 22, 3) := by decide +kernel
theorem dX7_seen_9 : decode cX7_seen 9 = .ok (.ireturn, 1) := by decide +kernel
theorem dX7_seen_10 : decode cX7_seen 10 = .ok (.iload_n 1, 1) := by decide +kernel
theorem dX7_seen_11 : decode cX7_seen 11 = .ok (.sipush 5120, 3) := by decide +kernel
theorem dX7_seen_14 : decode cX7_seen 14 = .ok (.if_icmp .lt 31, 3) := by decide +kernel
theorem dX7_seen_17 : decode cX7_seen 17 = .ok (.iload_n 1, 1) := by decide +kernel
theorem dX7_seen_18 : decode cX7_seen 18 = .ok (.sipush 6144, 3) := by decide +kernel
theorem dX7_seen_21 : decode cX7_seen 21 = .ok (.if_icmp .ge 24, 3) := by decide +kernel
theorem dX7_seen_24 : decode cX7_seen 24 = .ok (.aload_n 0, 1) := by decide +kernel
theorem dX7_seen_25 : decode cX7_seen 25 = .ok (.getfield 22, 3) := by decide +kernel
theorem dX7_seen_28 : decode cX7_seen 28 = .ok (.iconst 3, 1) := by decide +kernel
theorem dX7_seen_29 : decode cX7_seen 29 = .ok (.iand, 1) := by decide +kernel
theorem dX7_seen_30 : decode cX7_seen 30 = .ok (.iconst 3, 1) := by decide +kernel
theorem dX7_seen_31 : decode cX7_seen 31 = .ok (.if_icmp .ne 14, 3) := by decide +kernel
theorem dX7_seen_34 : decode cX7_seen 34 = .ok (.aload_n 0, 1) := by decide +kernel
theorem dX7_seen_35 : decode cX7_seen 35 = .ok (.getfield 13, 3) := by decide +kernel
theorem dX7_seen_38 : decode cX7_seen 38 = .ok (.iload_n 1, 1) := by decide +kernel
theorem dX7_seen_39 : decode cX7_seen 39 = .ok (.sipush 5120, 3) := by decide +kernel
theorem dX7_seen_42 : decode cX7_seen 42 = .ok (.isub, 1) := by decide +kernel
theorem dX7_seen_43 : decode cX7_seen 43 = .ok (.iaload, 1) := by decide +kernel
theorem dX7_seen_44 : decode cX7_seen 44 = .ok (.ireturn, 1) := by decide +kernel
theorem dX7_seen_45 : decode cX7_seen 45 = .ok (.iload_n 1, 1) := by decide +kernel
theorem dX7_seen_46 : decode cX7_seen 46 = .ok (.sipush 7168, 3) := by decide +kernel
theorem dX7_seen_49 : decode cX7_seen 49 = .ok (.if_icmp .lt 23, 3) := by decide +kernel
theorem dX7_seen_52 : decode cX7_seen 52 = .ok (.aload_n 0, 1) := by decide +kernel
theorem dX7_seen_53 : decode cX7_seen 53 = .ok (.getfield 22, 3) := by decide +kernel
theorem dX7_seen_56 : decode cX7_seen 56 = .ok (.iconst 2, 1) := by decide +kernel
theorem dX7_seen_57 : decode cX7_seen 57 = .ok (.iand, 1) := by decide +kernel
theorem dX7_seen_58 : decode cX7_seen 58 = .ok (.ifCond .eq 14, 3) := by decide +kernel
theorem dX7_seen_61 : decode cX7_seen 61 = .ok (.aload_n 0, 1) := by decide +kernel
theorem dX7_seen_62 : decode cX7_seen 62 = .ok (.getfield 19, 3) := by decide +kernel
theorem dX7_seen_65 : decode cX7_seen 65 = .ok (.iload_n 1, 1) := by decide +kernel
theorem dX7_seen_66 : decode cX7_seen 66 = .ok (.sipush 7168, 3) := by decide +kernel
theorem dX7_seen_69 : decode cX7_seen 69 = .ok (.isub, 1) := by decide +kernel
theorem dX7_seen_70 : decode cX7_seen 70 = .ok (.iaload, 1) := by decide +kernel
theorem dX7_seen_71 : decode cX7_seen 71 = .ok (.ireturn, 1) := by decide +kernel
theorem dX7_seen_72 : decode cX7_seen 72 = .ok (.aload_n 0, 1) := by decide +kernel
theorem dX7_seen_73 : decode cX7_seen 73 = .ok (.iload_n 1, 1) := by decide +kernel
theorem dX7_seen_74 : decode cX7_seen 74 = .ok (.invokevirtual 74, 3) := by decide +kernel
theorem dX7_seen_77 : decode cX7_seen 77 = .ok (.ifCond .eq 14, 3) := by decide +kernel
theorem dX7_seen_80 : decode cX7_seen 80 = .ok (.aload_n 0, 1) := by decide +kernel
theorem dX7_seen_81 : decode cX7_seen 81 = .ok (.iload_n 1, 1) := by decide +kernel
theorem dX7_seen_82 : decode cX7_seen 82 = .ok (.sipush 6656, 3) := by decide +kernel
theorem dX7_seen_85 : decode cX7_seen 85 = .ok (.isub, 1) := by decide +kernel
theorem dX7_seen_86 : decode cX7_seen 86 = .ok (.iconst 0, 1) := by decide +kernel
theorem dX7_seen_87 : decode cX7_seen 87 = .ok (.invokevirtual 78, 3) := by decide +kernel
theorem dX7_seen_90 : decode cX7_seen 90 = .ok (.ireturn, 1) := by decide +kernel
theorem dX7_seen_91 : decode cX7_seen 91 = .ok (.iload_n 1, 1) := by decide +kernel
theorem dX7_seen_92 : decode cX7_seen 92 = .ok (.sipush 6656, 3) := by decide +kernel
theorem dX7_seen_95 : decode cX7_seen 95 = .ok (.if_icmp .lt 32, 3) := by decide +kernel
theorem dX7_seen_98 : decode cX7_seen 98 = .ok (.iload_n 1, 1) := by decide +kernel
theorem dX7_seen_99 : decode cX7_seen 99 = .ok (.sipush 7168, 3) := by decide +kernel
theorem dX7_seen_102 : decode cX7_seen 102 = .ok (.if_icmp .ge 25, 3) := by decide +kernel
theorem dX7_seen_105 : decode cX7_seen 105 = .ok (.aload_n 0, 1) := by decide +kernel
theorem dX7_seen_106 : decode cX7_seen 106 = .ok (.getfield 22, 3) := by decide +kernel
theorem dX7_seen_109 : decode cX7_seen 109 = .ok (.iconst 3, 1) := by decide +kernel
theorem dX7_seen_110 : decode cX7_seen 110 = .ok (.iand, 1) := by decide +kernel
theorem dX7_seen_111 : decode cX7_seen 111 = .ok (.ifCond .eq 16, 3) := by decide +kernel
theorem dX7_seen_114 : decode cX7_seen 114 = .ok (.aload_n 0, 1) := by decide +kernel
theorem dX7_seen_115 : decode cX7_seen 115 = .ok (.getfield 16, 3) := by decide +kernel
theorem dX7_seen_118 : decode cX7_seen 118 = .ok (.iload_n 1, 1) := by decide +kernel
theorem dX7_seen_119 : decode cX7_seen 119 = .ok (.sipush 6656, 3) := by decide +kernel
theorem dX7_seen_122 : decode cX7_seen 122 = .ok (.isub, 1) := by decide +kernel
theorem dX7_seen_123 : decode cX7_seen 123 = .ok (.iaload, 1) := by decide +kernel
theorem dX7_seen_124 : decode cX7_seen 124 = .ok (.goto 9, 3) := by decide +kernel
theorem dX7_seen_127 : decode cX7_seen 127 = .ok (.aload_n 0, 1) := by decide +kernel
theorem dX7_seen_128 : decode cX7_seen 128 = .ok (.getfield 7, 3) := by decide +kernel
theorem dX7_seen_131 : decode cX7_seen 131 = .ok (.iload_n 1, 1) := by decide +kernel
theorem dX7_seen_132 : decode cX7_seen 132 = .ok (.iaload, 1) := by decide +kernel
theorem dX7_seen_133 : decode cX7_seen 133 = .ok (.ireturn, 1) := by decide +kernel
theorem dX7_keyboard_0 : decode cX7_keyboard 0 = .ok (.sipush 255, 3) := by decide +kernel
theorem dX7_keyboard_3 : decode cX7_keyboard 3 = .ok (.istore_n 1, 1) := by decide +kernel
theorem dX7_keyboard_4 : decode cX7_keyboard 4 = .ok (.iconst 0, 1) := by decide +kernel
theorem dX7_keyboard_5 : decode cX7_keyboard 5 = .ok (.istore_n 2, 1) := by decide +kernel
theorem dX7_keyboard_6 : decode cX7_keyboard 6 = .ok (.iload_n 2, 1) := by decide +kernel
theorem dX7_keyboard_7 : decode cX7_keyboard 7 = .ok (.bipush 8, 2) := by decide +kernel
theorem dX7_keyboard_9 : decode cX7_keyboard 9 = .ok (.if_icmp .ge 35, 3) := by decide +kernel
theorem dX7_keyboard_12 : decode cX7_keyboard 12 = .ok (.aload_n 0, 1) := by decide +kernel
theorem dX7_keyboard_13 : decode cX7_keyboard 13 = .ok (.getfield 82, 3) := by decide +kernel
theorem dX7_keyboard_16 : decode cX7_keyboard 16 = .ok (.iload_n 2, 1) := by decide +kernel
theorem dX7_keyboard_17 : decode cX7_keyboard 17 = .ok (.ishr, 1) := by decide +kernel
theorem dX7_keyboard_18 : decode cX7_keyboard 18 = .ok (.iconst 1, 1) := by decide +kernel
theorem dX7_keyboard_19 : decode cX7_keyboard 19 = .ok (.iand, 1) := by decide +kernel
theorem dX7_keyboard_20 : decode cX7_keyboard 20 = .ok (.ifCond .ne 16, 3) := by decide +kernel
theorem dX7_keyboard_23 : decode cX7_keyboard 23 = .ok (.iload_n 1, 1) := by decide +kernel
theorem dX7_keyboard_24 : decode cX7_keyboard 24 = .ok (.aload_n 0, 1) := by decide +kernel
theorem dX7_keyboard_25 : decode cX7_keyboard 25 = .ok (.getfield 45, 3) := by decide +kernel
theorem dX7_keyboard_28 : decode cX7_keyboard 28 = .ok (.iload_n 2, 1) := by decide +kernel
theorem dX7_keyboard_29 : decode cX7_keyboard 29 = .ok (.iaload, 1) := by decide +kernel
theorem dX7_keyboard_30 : decode cX7_keyboard 30 = .ok (.iconst (-1), 1) := by decide +kernel
theorem dX7_keyboard_31 : decode cX7_keyboard 31 = .ok (.ixor, 1) := by decide +kernel
theorem dX7_keyboard_32 : decode cX7_keyboard 32 = .ok (.iand, 1) := by decide +kernel
theorem dX7_keyboard_33 : decode cX7_keyboard 33 = .ok (.goto 4, 3) := by decide +kernel
theorem dX7_keyboard_36 : decode cX7_keyboard 36 = .ok (.iload_n 1, 1) := by decide +kernel
theorem dX7_keyboard_37 : decode cX7_keyboard 37 = .ok (.istore_n 1, 1) := by decide +kernel
theorem dX7_keyboard_38 : decode cX7_keyboard 38 = .ok (.iinc 2 1, 3) := by decide +kernel
theorem dX7_keyboard_41 : decode cX7_keyboard 41 = .ok (.goto (-35), 3) := by decide +kernel
theorem dX7_keyboard_44 : decode cX7_keyboard 44 = .ok (.iload_n 1, 1) := by decide +kernel
theorem dX7_keyboard_45 : decode cX7_keyboard 45 = .ok (.ireturn, 1) := by decide +kernel
theorem dX7_chip_0 : decode cX7_chip 0 = .ok (.iload_n 1, 1) := by decide +kernel
theorem dX7_chip_1 : decode cX7_chip 1 = .ok (.bipush 64, 2) := by decide +kernel
theorem dX7_chip_3 : decode cX7_chip 3 = .ok (.if_icmp .ge 78, 3) := by decide +kernel
theorem dX7_chip_6 : decode cX7_chip 6 = .ok (.iload_n 1, 1) := by decide +kernel
theorem dX7_chip_7 : decode cX7_chip 7 = .ok (.bipush 16, 2) := by decide +kernel
theorem dX7_chip_9 : decode cX7_chip 9 = .ok (.irem, 1) := by decide +kernel
theorem dX7_chip_10 : decode cX7_chip 10 = .ok (.istore_n 3, 1) := by decide +kernel
theorem dX7_chip_11 : decode cX7_chip 11 = .ok (.iload_n 3, 1) := by decide +kernel
theorem dX7_chip_12 : decode cX7_chip 12 = .ok (.iconst 1, 1) := by decide +kernel
theorem dX7_chip_13 : decode cX7_chip 13 = .ok (.if_icmp .ne 8, 3) := by decide +kernel
theorem dX7_chip_16 : decode cX7_chip 16 = .ok (.aload_n 0, 1) := by decide +kernel
theorem dX7_chip_17 : decode cX7_chip 17 = .ok (.getfield 85, 3) := by decide +kernel
theorem dX7_chip_20 : decode cX7_chip 20 = .ok (.ireturn, 1) := by decide +kernel
theorem dX7_chip_21 : decode cX7_chip 21 = .ok (.iload_n 3, 1) := by decide +kernel
theorem dX7_chip_22 : decode cX7_chip 22 = .ok (.iconst 4, 1) := by decide +kernel
theorem dX7_chip_23 : decode cX7_chip 23 = .ok (.if_icmp .ne 41, 3) := by decide +kernel
theorem dX7_chip_26 : decode cX7_chip 26 = .ok (.aload_n 0, 1) := by decide +kernel
theorem dX7_chip_27 : decode cX7_chip 27 = .ok (.getfield 88, 3) := by decide +kernel
theorem dX7_chip_30 : decode cX7_chip 30 = .ok (.ifCond .eq 7, 3) := by decide +kernel
theorem dX7_chip_33 : decode cX7_chip 33 = .ok (.iconst 1, 1) := by decide +kernel
theorem dX7_chip_34 : decode cX7_chip 34 = .ok (.goto 4, 3) := by decide +kernel
theorem dX7_chip_37 : decode cX7_chip 37 = .ok (.iconst 0, 1) := by decide +kernel
theorem dX7_chip_38 : decode cX7_chip 38 = .ok (.aload_n 0, 1) := by decide +kernel
theorem dX7_chip_39 : decode cX7_chip 39 = .ok (.getfield 88, 3) := by decide +kernel
theorem dX7_chip_42 : decode cX7_chip 42 = .ok (.ifCond .eq 19, 3) := by decide +kernel
theorem dX7_chip_45 : decode cX7_chip 45 = .ok (.aload_n 0, 1) := by decide +kernel
theorem dX7_chip_46 : decode cX7_chip 46 = .ok (.getfield 26, 3) := by decide +kernel
theorem dX7_chip_49 : decode cX7_chip 49 = .ok (.iconst 5, 1) := by decide +kernel
theorem dX7_chip_50 : decode cX7_chip 50 = .ok (.iaload, 1) := by decide +kernel
theorem dX7_chip_51 : decode cX7_chip 51 = .ok (.iconst 1, 1) := by decide +kernel
theorem dX7_chip_52 : decode cX7_chip 52 = .ok (.if_icmp .ne 9, 3) := by decide +kernel
theorem dX7_chip_55 : decode cX7_chip 55 = .ok (.sipush 128, 3) := by decide +kernel
theorem dX7_chip_58 : decode cX7_chip 58 = .ok (.goto 4, 3) := by decide +kernel
theorem dX7_chip_61 : decode cX7_chip 61 = .ok (.iconst 0, 1) := by decide +kernel
theorem dX7_chip_62 : decode cX7_chip 62 = .ok (.iadd, 1) := by decide +kernel
theorem dX7_chip_63 : decode cX7_chip 63 = .ok (.ireturn, 1) := by decide +kernel
theorem dX7_chip_64 : decode cX7_chip 64 = .ok (.iload_n 3, 1) := by decide +kernel
theorem dX7_chip_65 : decode cX7_chip 65 = .ok (.bipush 7, 2) := by decide +kernel
theorem dX7_chip_67 : decode cX7_chip 67 = .ok (.if_icmp .ge 12, 3) := by decide +kernel
theorem dX7_chip_70 : decode cX7_chip 70 = .ok (.aload_n 0, 1) := by decide +kernel
theorem dX7_chip_71 : decode cX7_chip 71 = .ok (.getfield 26, 3) := by decide +kernel
theorem dX7_chip_74 : decode cX7_chip 74 = .ok (.iload_n 3, 1) := by decide +kernel
theorem dX7_chip_75 : decode cX7_chip 75 = .ok (.iaload, 1) := by decide +kernel
theorem dX7_chip_76 : decode cX7_chip 76 = .ok (.goto 4, 3) := by decide +kernel
theorem dX7_chip_79 : decode cX7_chip 79 = .ok (.iconst 0, 1) := by decide +kernel
theorem dX7_chip_80 : decode cX7_chip 80 = .ok (.ireturn, 1) := by decide +kernel
theorem dX7_chip_81 : decode cX7_chip 81 = .ok (.iload_n 1, 1) := by decide +kernel
theorem dX7_chip_82 : decode cX7_chip 82 = .ok (.sipush 128, 3) := by decide +kernel
theorem dX7_chip_85 : decode cX7_chip 85 = .ok (.if_icmp .lt 25, 3) := by decide +kernel
theorem dX7_chip_88 : decode cX7_chip 88 = .ok (.iload_n 1, 1) := by decide +kernel
theorem dX7_chip_89 : decode cX7_chip 89 = .ok (.sipush 152, 3) := by decide +kernel
theorem dX7_chip_92 : decode cX7_chip 92 = .ok (.if_icmp .ge 16, 3) := by decide +kernel
theorem dX7_chip_95 : decode cX7_chip 95 = .ok (.aload_n 0, 1) := by decide +kernel
theorem dX7_chip_96 : decode cX7_chip 96 = .ok (.getfield 39, 3) := by decide +kernel
theorem dX7_chip_99 : decode cX7_chip 99 = .ok (.iload_n 1, 1) := by decide +kernel
theorem dX7_chip_100 : decode cX7_chip 100 = .ok (.sipush 128, 3) := by decide +kernel
theorem dX7_chip_103 : decode cX7_chip 103 = .ok (.isub, 1) := by decide +kernel
theorem dX7_chip_104 : decode cX7_chip 104 = .ok (.iaload, 1) := by decide +kernel
theorem dX7_chip_105 : decode cX7_chip 105 = .ok (.goto 4, 3) := by decide +kernel
theorem dX7_chip_108 : decode cX7_chip 108 = .ok (.iconst 0, 1) := by decide +kernel
theorem dX7_chip_109 : decode cX7_chip 109 = .ok (.ireturn, 1) := by decide +kernel
theorem dX7_chip_110 : decode cX7_chip 110 = .ok (.iload_n 1, 1) := by decide +kernel
theorem dX7_chip_111 : decode cX7_chip 111 = .ok (.bipush 16, 2) := by decide +kernel
theorem dX7_chip_113 : decode cX7_chip 113 = .ok (.irem, 1) := by decide +kernel
theorem dX7_chip_114 : decode cX7_chip 114 = .ok (.istore_n 3, 1) := by decide +kernel
theorem dX7_chip_115 : decode cX7_chip 115 = .ok (.iload_n 3, 1) := by decide +kernel
theorem dX7_chip_116 : decode cX7_chip 116 = .ok (.ifCond .ne 8, 3) := by decide +kernel
theorem dX7_chip_119 : decode cX7_chip 119 = .ok (.aload_n 0, 1) := by decide +kernel
theorem dX7_chip_120 : decode cX7_chip 120 = .ok (.getfield 82, 3) := by decide +kernel
theorem dX7_chip_123 : decode cX7_chip 123 = .ok (.ireturn, 1) := by decide +kernel
theorem dX7_chip_124 : decode cX7_chip 124 = .ok (.iload_n 3, 1) := by decide +kernel
theorem dX7_chip_125 : decode cX7_chip 125 = .ok (.iconst 1, 1) := by decide +kernel
theorem dX7_chip_126 : decode cX7_chip 126 = .ok (.if_icmp .ne 8, 3) := by decide +kernel
theorem dX7_chip_129 : decode cX7_chip 129 = .ok (.aload_n 0, 1) := by decide +kernel
theorem dX7_chip_130 : decode cX7_chip 130 = .ok (.invokevirtual 91, 3) := by decide +kernel
theorem dX7_chip_133 : decode cX7_chip 133 = .ok (.ireturn, 1) := by decide +kernel
theorem dX7_chip_134 : decode cX7_chip 134 = .ok (.iload_n 3, 1) := by decide +kernel
theorem dX7_chip_135 : decode cX7_chip 135 = .ok (.iconst 4, 1) := by decide +kernel
theorem dX7_chip_136 : decode cX7_chip 136 = .ok (.if_icmp .lt 31, 3) := by decide +kernel
theorem dX7_chip_139 : decode cX7_chip 139 = .ok (.iload_n 3, 1) := by decide +kernel
theorem dX7_chip_140 : decode cX7_chip 140 = .ok (.bipush 8, 2) := by decide +kernel
theorem dX7_chip_142 : decode cX7_chip 142 = .ok (.if_icmp .ge 25, 3) := by decide +kernel
theorem dX7_chip_145 : decode cX7_chip 145 = .ok (.aload_n 0, 1) := by decide +kernel
theorem dX7_chip_146 : decode cX7_chip 146 = .ok (.getfield 51, 3) := by decide +kernel
theorem dX7_chip_149 : decode cX7_chip 149 = .ok (.iload_n 3, 1) := by decide +kernel
theorem dX7_chip_150 : decode cX7_chip 150 = .ok (.iconst 4, 1) := by decide +kernel
theorem dX7_chip_151 : decode cX7_chip 151 = .ok (.isub, 1) := by decide +kernel
theorem dX7_chip_152 : decode cX7_chip 152 = .ok (.iconst 2, 1) := by decide +kernel
theorem dX7_chip_153 : decode cX7_chip 153 = .ok (.idiv, 1) := by decide +kernel
theorem dX7_chip_154 : decode cX7_chip 154 = .ok (.iaload, 1) := by decide +kernel
theorem dX7_chip_155 : decode cX7_chip 155 = .ok (.bipush 8, 2) := by decide +kernel
theorem dX7_chip_157 : decode cX7_chip 157 = .ok (.iload_n 3, 1) := by decide +kernel
theorem dX7_chip_158 : decode cX7_chip 158 = .ok (.iconst 2, 1) := by decide +kernel
theorem dX7_chip_159 : decode cX7_chip 159 = .ok (.irem, 1) := by decide +kernel
theorem dX7_chip_160 : decode cX7_chip 160 = .ok (.imul, 1) := by decide +kernel
theorem dX7_chip_161 : decode cX7_chip 161 = .ok (.ishr, 1) := by decide +kernel
theorem dX7_chip_162 : decode cX7_chip 162 = .ok (.sipush 255, 3) := by decide +kernel
theorem dX7_chip_165 : decode cX7_chip 165 = .ok (.iand, 1) := by decide +kernel
theorem dX7_chip_166 : decode cX7_chip 166 = .ok (.ireturn, 1) := by decide +kernel
theorem dX7_chip_167 : decode cX7_chip 167 = .ok (.iload_n 3, 1) := by decide +kernel
theorem dX7_chip_168 : decode cX7_chip 168 = .ok (.bipush 14, 2) := by decide +kernel
theorem dX7_chip_170 : decode cX7_chip 170 = .ok (.if_icmp .lt 13, 3) := by decide +kernel
theorem dX7_chip_173 : decode cX7_chip 173 = .ok (.aload_n 0, 1) := by decide +kernel
theorem dX7_chip_174 : decode cX7_chip 174 = .ok (.getfield 54, 3) := by decide +kernel
theorem dX7_chip_177 : decode cX7_chip 177 = .ok (.iload_n 3, 1) := by decide +kernel
theorem dX7_chip_178 : decode cX7_chip 178 = .ok (.bipush 14, 2) := by decide +kernel
theorem dX7_chip_180 : decode cX7_chip 180 = .ok (.isub, 1) := by decide +kernel
theorem dX7_chip_181 : decode cX7_chip 181 = .ok (.iaload, 1) := by decide +kernel
theorem dX7_chip_182 : decode cX7_chip 182 = .ok (.ireturn, 1) := by decide +kernel
theorem dX7_chip_183 : decode cX7_chip 183 = .ok (.iload_n 3, 1) := by decide +kernel
theorem dX7_chip_184 : decode cX7_chip 184 = .ok (.bipush 13, 2) := by decide +kernel
theorem dX7_chip_186 : decode cX7_chip 186 = .ok (.if_icmp .eq 5, 3) := by decide +kernel
theorem dX7_chip_189 : decode cX7_chip 189 = .ok (.iconst 0, 1) := by decide +kernel
theorem dX7_chip_190 : decode cX7_chip 190 = .ok (.ireturn, 1) := by decide +kernel
theorem dX7_chip_191 : decode cX7_chip 191 = .ok (.aload_n 0, 1) := by decide +kernel
theorem dX7_chip_192 : decode cX7_chip 192 = .ok (.getfield 95, 3) := by decide +kernel
theorem dX7_chip_195 : decode cX7_chip 195 = .ok (.aload_n 0, 1) := by decide +kernel
theorem dX7_chip_196 : decode cX7_chip 196 = .ok (.getfield 95, 3) := by decide +kernel
theorem dX7_chip_199 : decode cX7_chip 199 = .ok (.aload_n 0, 1) := by decide +kernel
theorem dX7_chip_200 : decode cX7_chip 200 = .ok (.getfield 98, 3) := by decide +kernel
theorem dX7_chip_203 : decode cX7_chip 203 = .ok (.iand, 1) := by decide +kernel
theorem dX7_chip_204 : decode cX7_chip 204 = .ok (.ifCond .eq 9, 3) := by decide +kernel
theorem dX7_chip_207 : decode cX7_chip 207 = .ok (.sipush 128, 3) := by decide +kernel
theorem dX7_chip_210 : decode cX7_chip 210 = .ok (.goto 4, 3) := by decide +kernel
theorem dX7_chip_213 : decode cX7_chip 213 = .ok (.iconst 0, 1) := by decide +kernel
theorem dX7_chip_214 : decode cX7_chip 214 = .ok (.iadd, 1) := by decide +kernel
theorem dX7_chip_215 : decode cX7_chip 215 = .ok (.istore 4, 2) := by decide +kernel
theorem dX7_chip_217 : decode cX7_chip 217 = .ok (.aload_n 0, 1) := by decide +kernel
theorem dX7_chip_218 : decode cX7_chip 218 = .ok (.iload_n 2, 1) := by decide +kernel
theorem dX7_chip_219 : decode cX7_chip 219 = .ok (.ifCond .eq 7, 3) := by decide +kernel
theorem dX7_chip_222 : decode cX7_chip 222 = .ok (.iconst 0, 1) := by decide +kernel
theorem dX7_chip_223 : decode cX7_chip 223 = .ok (.goto 7, 3) := by decide +kernel
theorem dX7_chip_226 : decode cX7_chip 226 = .ok (.aload_n 0, 1) := by decide +kernel
theorem dX7_chip_227 : decode cX7_chip 227 = .ok (.getfield 95, 3) := by decide +kernel
theorem dX7_chip_230 : decode cX7_chip 230 = .ok (.putfield 95, 3) := by decide +kernel
theorem dX7_chip_233 : decode cX7_chip 233 = .ok (.iload 4, 2) := by decide +kernel
theorem dX7_chip_235 : decode cX7_chip 235 = .ok (.ireturn, 1) := by decide +kernel
theorem dX7_set_0 : decode cX7_set 0 = .ok (.iload_n 1, 1) := by decide +kernel
theorem dX7_set_1 : decode cX7_set 1 = .ok (.bipush 16, 2) := by decide +kernel
theorem dX7_set_3 : decode cX7_set 3 = .ok (.irem, 1) := by decide +kernel
theorem dX7_set_4 : decode cX7_set 4 = .ok (.istore_n 3, 1) := by decide +kernel
theorem dX7_set_5 : decode cX7_set 5 = .ok (.iload_n 1, 1) := by decide +kernel
theorem dX7_set_6 : decode cX7_set 6 = .ok (.bipush 64, 2) := by decide +kernel
theorem dX7_set_8 : decode cX7_set 8 = .ok (.if_icmp .ge 89, 3) := by decide +kernel
theorem dX7_set_11 : decode cX7_set 11 = .ok (.iload_n 3, 1) := by decide +kernel
theorem dX7_set_12 : decode cX7_set 12 = .ok (.ifCond .ne 13, 3) := by decide +kernel
theorem dX7_set_15 : decode cX7_set 15 = .ok (.aload_n 0, 1) := by decide +kernel
theorem dX7_set_16 : decode cX7_set 16 = .ok (.getfield 26, 3) := by decide +kernel
theorem dX7_set_19 : decode cX7_set 19 = .ok (.iconst 0, 1) := by decide +kernel
theorem dX7_set_20 : decode cX7_set 20 = .ok (.iload_n 2, 1) := by decide +kernel
theorem dX7_set_21 : decode cX7_set 21 = .ok (.bipush 23, 2) := by decide +kernel
theorem dX7_set_23 : decode cX7_set 23 = .ok (.iand, 1) := by decide +kernel
theorem dX7_set_24 : decode cX7_set 24 = .ok (.iastore, 1) := by decide +kernel
theorem dX7_set_25 : decode cX7_set 25 = .ok (.iload_n 3, 1) := by decide +kernel
theorem dX7_set_26 : decode cX7_set 26 = .ok (.iconst 1, 1) := by decide +kernel
theorem dX7_set_27 : decode cX7_set 27 = .ok (.if_icmp .ne 10, 3) := by decide +kernel
theorem dX7_set_30 : decode cX7_set 30 = .ok (.aload_n 0, 1) := by decide +kernel
theorem dX7_set_31 : decode cX7_set 31 = .ok (.getfield 26, 3) := by decide +kernel
theorem dX7_set_34 : decode cX7_set 34 = .ok (.iconst 1, 1) := by decide +kernel
theorem dX7_set_35 : decode cX7_set 35 = .ok (.iload_n 2, 1) := by decide +kernel
theorem dX7_set_36 : decode cX7_set 36 = .ok (.iastore, 1) := by decide +kernel
theorem dX7_set_37 : decode cX7_set 37 = .ok (.iload_n 3, 1) := by decide +kernel
theorem dX7_set_38 : decode cX7_set 38 = .ok (.iconst 2, 1) := by decide +kernel
theorem dX7_set_39 : decode cX7_set 39 = .ok (.if_icmp .eq 14, 3) := by decide +kernel
theorem dX7_set_42 : decode cX7_set 42 = .ok (.iload_n 3, 1) := by decide +kernel
theorem dX7_set_43 : decode cX7_set 43 = .ok (.iconst 3, 1) := by decide +kernel
theorem dX7_set_44 : decode cX7_set 44 = .ok (.if_icmp .eq 9, 3) := by decide +kernel
theorem dX7_set_47 : decode cX7_set 47 = .ok (.iload_n 3, 1) := by decide +kernel
theorem dX7_set_48 : decode cX7_set 48 = .ok (.bipush 6, 2) := by decide +kernel
theorem dX7_set_50 : decode cX7_set 50 = .ok (.if_icmp .ne 13, 3) := by decide +kernel
theorem dX7_set_53 : decode cX7_set 53 = .ok (.aload_n 0, 1) := by decide +kernel
theorem dX7_set_54 : decode cX7_set 54 = .ok (.getfield 26, 3) := by decide +kernel
theorem dX7_set_57 : decode cX7_set 57 = .ok (.iload_n 3, 1) := by decide +kernel
theorem dX7_set_58 : decode cX7_set 58 = .ok (.iload_n 2, 1) := by decide +kernel
theorem dX7_set_59 : decode cX7_set 59 = .ok (.bipush 15, 2) := by decide +kernel
theorem dX7_set_61 : decode cX7_set 61 = .ok (.iand, 1) := by decide +kernel
theorem dX7_set_62 : decode cX7_set 62 = .ok (.iastore, 1) := by decide +kernel
theorem dX7_set_63 : decode cX7_set 63 = .ok (.iload_n 3, 1) := by decide +kernel
theorem dX7_set_64 : decode cX7_set 64 = .ok (.iconst 4, 1) := by decide +kernel
theorem dX7_set_65 : decode cX7_set 65 = .ok (.if_icmp .ne 15, 3) := by decide +kernel
theorem dX7_set_68 : decode cX7_set 68 = .ok (.iload_n 2, 1) := by decide +kernel
theorem dX7_set_69 : decode cX7_set 69 = .ok (.iconst 1, 1) := by decide +kernel
theorem dX7_set_70 : decode cX7_set 70 = .ok (.iand, 1) := by decide +kernel
theorem dX7_set_71 : decode cX7_set 71 = .ok (.iconst 1, 1) := by decide +kernel
theorem dX7_set_72 : decode cX7_set 72 = .ok (.if_icmp .ne 8, 3) := by decide +kernel
theorem dX7_set_75 : decode cX7_set 75 = .ok (.aload_n 0, 1) := by decide +kernel
theorem dX7_set_76 : decode cX7_set 76 = .ok (.iconst 0, 1) := by decide +kernel
theorem dX7_set_77 : decode cX7_set 77 = .ok (.putfield 88, 3) := by decide +kernel
theorem dX7_set_80 : decode cX7_set 80 = .ok (.iload_n 3, 1) := by decide +kernel
theorem dX7_set_81 : decode cX7_set 81 = .ok (.iconst 5, 1) := by decide +kernel
theorem dX7_set_82 : decode cX7_set 82 = .ok (.if_icmp .ne 271, 3) := by decide +kernel
theorem dX7_set_85 : decode cX7_set 85 = .ok (.aload_n 0, 1) := by decide +kernel
theorem dX7_set_86 : decode cX7_set 86 = .ok (.getfield 26, 3) := by decide +kernel
theorem dX7_set_89 : decode cX7_set 89 = .ok (.iconst 5, 1) := by decide +kernel
theorem dX7_set_90 : decode cX7_set 90 = .ok (.iload_n 2, 1) := by decide +kernel
theorem dX7_set_91 : decode cX7_set 91 = .ok (.iconst 1, 1) := by decide +kernel
theorem dX7_set_92 : decode cX7_set 92 = .ok (.iand, 1) := by decide +kernel
theorem dX7_set_93 : decode cX7_set 93 = .ok (.iastore, 1) := by decide +kernel
theorem dX7_set_94 : decode cX7_set 94 = .ok (.goto 259, 3) := by decide +kernel
theorem dX7_set_97 : decode cX7_set 97 = .ok (.iload_n 1, 1) := by decide +kernel
theorem dX7_set_98 : decode cX7_set 98 = .ok (.sipush 128, 3) := by decide +kernel
theorem dX7_set_101 : decode cX7_set 101 = .ok (.if_icmp .ge 231, 3) := by decide +kernel
theorem dX7_set_104 : decode cX7_set 104 = .ok (.iload_n 3, 1) := by decide +kernel
theorem dX7_set_105 : decode cX7_set 105 = .ok (.bipush 14, 2) := by decide +kernel
theorem dX7_set_107 : decode cX7_set 107 = .ok (.if_icmp .lt 10, 3) := by decide +kernel
theorem dX7_set_110 : decode cX7_set 110 = .ok (.iload_n 3, 1) := by decide +kernel
theorem dX7_set_111 : decode cX7_set 111 = .ok (.bipush 14, 2) := by decide +kernel
theorem dX7_set_113 : decode cX7_set 113 = .ok (.isub, 1) := by decide +kernel
theorem dX7_set_114 : decode cX7_set 114 = .ok (.goto 8, 3) := by decide +kernel
theorem dX7_set_117 : decode cX7_set 117 = .ok (.iload_n 3, 1) := by decide +kernel
theorem dX7_set_118 : decode cX7_set 118 = .ok (.iconst 4, 1) := by decide +kernel
theorem dX7_set_119 : decode cX7_set 119 = .ok (.isub, 1) := by decide +kernel
theorem dX7_set_120 : decode cX7_set 120 = .ok (.iconst 2, 1) := by decide +kernel
theorem dX7_set_121 : decode cX7_set 121 = .ok (.idiv, 1) := by decide +kernel
theorem dX7_set_122 : decode cX7_set 122 = .ok (.istore 4, 2) := by decide +kernel
theorem dX7_set_124 : decode cX7_set 124 = .ok (.iload_n 3, 1) := by decide +kernel
theorem dX7_set_125 : decode cX7_set 125 = .ok (.ifCond .ne 8, 3) := by decide +kernel
theorem dX7_set_128 : decode cX7_set 128 = .ok (.aload_n 0, 1) := by decide +kernel
theorem dX7_set_129 : decode cX7_set 129 = .ok (.iload_n 2, 1) := by decide +kernel
theorem dX7_set_130 : decode cX7_set 130 = .ok (.putfield 82, 3) := by decide +kernel
theorem dX7_set_133 : decode cX7_set 133 = .ok (.iload_n 3, 1) := by decide +kernel
theorem dX7_set_134 : decode cX7_set 134 = .ok (.iconst 4, 1) := by decide +kernel
theorem dX7_set_135 : decode cX7_set 135 = .ok (.if_icmp .eq 9, 3) := by decide +kernel
theorem dX7_set_138 : decode cX7_set 138 = .ok (.iload_n 3, 1) := by decide +kernel
theorem dX7_set_139 : decode cX7_set 139 = .ok (.bipush 6, 2) := by decide +kernel
theorem dX7_set_141 : decode cX7_set 141 = .ok (.if_icmp .ne 22, 3) := by decide +kernel
theorem dX7_set_144 : decode cX7_set 144 = .ok (.aload_n 0, 1) := by decide +kernel
theorem dX7_set_145 : decode cX7_set 145 = .ok (.getfield 48, 3) := by decide +kernel
theorem dX7_set_148 : decode cX7_set 148 = .ok (.iload 4, 2) := by decide +kernel
theorem dX7_set_150 : decode cX7_set 150 = .ok (.aload_n 0, 1) := by decide +kernel
theorem dX7_set_151 : decode cX7_set 151 = .ok (.getfield 48, 3) := by decide +kernel
theorem dX7_set_154 : decode cX7_set 154 = .ok (.iload 4, 2) := by decide +kernel
theorem dX7_set_156 : decode cX7_set 156 = .ok (.iaload, 1) := by decide +kernel
theorem dX7_set_157 : decode cX7_set 157 = .ok (.ldc 101, 2) := by decide +kernel
theorem dX7_set_159 : decode cX7_set 159 = .ok (.iand, 1) := by decide +kernel
theorem dX7_set_160 : decode cX7_set 160 = .ok (.iload_n 2, 1) := by decide +kernel
theorem dX7_set_161 : decode cX7_set 161 = .ok (.iadd, 1) := by decide +kernel
theorem dX7_set_162 : decode cX7_set 162 = .ok (.iastore, 1) := by decide +kernel
theorem dX7_set_163 : decode cX7_set 163 = .ok (.iload_n 3, 1) := by decide +kernel
theorem dX7_set_164 : decode cX7_set 164 = .ok (.iconst 5, 1) := by decide +kernel
theorem dX7_set_165 : decode cX7_set 165 = .ok (.if_icmp .eq 9, 3) := by decide +kernel
theorem dX7_set_168 : decode cX7_set 168 = .ok (.iload_n 3, 1) := by decide +kernel
theorem dX7_set_169 : decode cX7_set 169 = .ok (.bipush 7, 2) := by decide +kernel
theorem dX7_set_171 : decode cX7_set 171 = .ok (.if_icmp .ne 63, 3) := by decide +kernel
theorem dX7_set_174 : decode cX7_set 174 = .ok (.aload_n 0, 1) := by decide +kernel
theorem dX7_set_175 : decode cX7_set 175 = .ok (.getfield 48, 3) := by decide +kernel
theorem dX7_set_178 : decode cX7_set 178 = .ok (.iload 4, 2) := by decide +kernel
theorem dX7_set_180 : decode cX7_set 180 = .ok (.aload_n 0, 1) := by decide +kernel
theorem dX7_set_181 : decode cX7_set 181 = .ok (.getfield 48, 3) := by decide +kernel
theorem dX7_set_184 : decode cX7_set 184 = .ok (.iload 4, 2) := by decide +kernel
theorem dX7_set_186 : decode cX7_set 186 = .ok (.iaload, 1) := by decide +kernel
theorem dX7_set_187 : decode cX7_set 187 = .ok (.sipush 255, 3) := by decide +kernel
theorem dX7_set_190 : decode cX7_set 190 = .ok (.iand, 1) := by decide +kernel
theorem dX7_set_191 : decode cX7_set 191 = .ok (.sipush 256, 3) := by decide +kernel
theorem dX7_set_194 : decode cX7_set 194 = .ok (.iload_n 2, 1) := by decide +kernel
theorem dX7_set_195 : decode cX7_set 195 = .ok (.imul, 1) := by decide +kernel
theorem dX7_set_196 : decode cX7_set 196 = .ok (.iadd, 1) := by decide +kernel
theorem dX7_set_197 : decode cX7_set 197 = .ok (.iastore, 1) := by decide +kernel
theorem dX7_set_198 : decode cX7_set 198 = .ok (.aload_n 0, 1) := by decide +kernel
theorem dX7_set_199 : decode cX7_set 199 = .ok (.getfield 51, 3) := by decide +kernel
theorem dX7_set_202 : decode cX7_set 202 = .ok (.iload 4, 2) := by decide +kernel
theorem dX7_set_204 : decode cX7_set 204 = .ok (.aload_n 0, 1) := by decide +kernel
theorem dX7_set_205 : decode cX7_set 205 = .ok (.getfield 54, 3) := by decide +kernel
theorem dX7_set_208 : decode cX7_set 208 = .ok (.iload 4, 2) := by decide +kernel
theorem dX7_set_210 : decode cX7_set 210 = .ok (.iaload, 1) := by decide +kernel
theorem dX7_set_211 : decode cX7_set 211 = .ok (.iconst 1, 1) := by decide +kernel
theorem dX7_set_212 : decode cX7_set 212 = .ok (.iand, 1) := by decide +kernel
theorem dX7_set_213 : decode cX7_set 213 = .ok (.ifCond .ne 13, 3) := by decide +kernel
theorem dX7_set_216 : decode cX7_set 216 = .ok (.aload_n 0, 1) := by decide +kernel
theorem dX7_set_217 : decode cX7_set 217 = .ok (.getfield 48, 3) := by decide +kernel
theorem dX7_set_220 : decode cX7_set 220 = .ok (.iload 4, 2) := by decide +kernel
theorem dX7_set_222 : decode cX7_set 222 = .ok (.iaload, 1) := by decide +kernel
theorem dX7_set_223 : decode cX7_set 223 = .ok (.goto 10, 3) := by decide +kernel
theorem dX7_set_226 : decode cX7_set 226 = .ok (.aload_n 0, 1) := by decide +kernel
theorem dX7_set_227 : decode cX7_set 227 = .ok (.getfield 51, 3) := by decide +kernel
theorem dX7_set_230 : decode cX7_set 230 = .ok (.iload 4, 2) := by decide +kernel
theorem dX7_set_232 : decode cX7_set 232 = .ok (.iaload, 1) := by decide +kernel
theorem dX7_set_233 : decode cX7_set 233 = .ok (.iastore, 1) := by decide +kernel
theorem dX7_set_234 : decode cX7_set 234 = .ok (.iload_n 3, 1) := by decide +kernel
theorem dX7_set_235 : decode cX7_set 235 = .ok (.bipush 13, 2) := by decide +kernel
theorem dX7_set_237 : decode cX7_set 237 = .ok (.if_icmp .ne 34, 3) := by decide +kernel
theorem dX7_set_240 : decode cX7_set 240 = .ok (.aload_n 0, 1) := by decide +kernel
theorem dX7_set_241 : decode cX7_set 241 = .ok (.iload_n 2, 1) := by decide +kernel
theorem dX7_set_242 : decode cX7_set 242 = .ok (.bipush 127, 2) := by decide +kernel
theorem dX7_set_244 : decode cX7_set 244 = .ok (.if_icmp .le 14, 3) := by decide +kernel
theorem dX7_set_247 : decode cX7_set 247 = .ok (.aload_n 0, 1) := by decide +kernel
theorem dX7_set_248 : decode cX7_set 248 = .ok (.getfield 98, 3) := by decide +kernel
theorem dX7_set_251 : decode cX7_set 251 = .ok (.iload_n 2, 1) := by decide +kernel
theorem dX7_set_252 : decode cX7_set 252 = .ok (.iconst 3, 1) := by decide +kernel
theorem dX7_set_253 : decode cX7_set 253 = .ok (.iand, 1) := by decide +kernel
theorem dX7_set_254 : decode cX7_set 254 = .ok (.ior, 1) := by decide +kernel
theorem dX7_set_255 : decode cX7_set 255 = .ok (.goto 13, 3) := by decide +kernel
theorem dX7_set_258 : decode cX7_set 258 = .ok (.aload_n 0, 1) := by decide +kernel
theorem dX7_set_259 : decode cX7_set 259 = .ok (.getfield 98, 3) := by decide +kernel
theorem dX7_set_262 : decode cX7_set 262 = .ok (.iload_n 2, 1) := by decide +kernel
theorem dX7_set_263 : decode cX7_set 263 = .ok (.iconst 3, 1) := by decide +kernel
theorem dX7_set_264 : decode cX7_set 264 = .ok (.iand, 1) := by decide +kernel
theorem dX7_set_265 : decode cX7_set 265 = .ok (.iconst (-1), 1) := by decide +kernel
theorem dX7_set_266 : decode cX7_set 266 = .ok (.ixor, 1) := by decide +kernel
theorem dX7_set_267 : decode cX7_set 267 = .ok (.iand, 1) := by decide +kernel
theorem dX7_set_268 : decode cX7_set 268 = .ok (.putfield 98, 3) := by decide +kernel
theorem dX7_set_271 : decode cX7_set 271 = .ok (.iload_n 3, 1) := by decide +kernel
theorem dX7_set_272 : decode cX7_set 272 = .ok (.bipush 14, 2) := by decide +kernel
theorem dX7_set_274 : decode cX7_set 274 = .ok (.if_icmp .lt 55, 3) := by decide +kernel
theorem dX7_set_277 : decode cX7_set 277 = .ok (.aload_n 0, 1) := by decide +kernel
theorem dX7_set_278 : decode cX7_set 278 = .ok (.getfield 54, 3) := by decide +kernel
theorem dX7_set_281 : decode cX7_set 281 = .ok (.iload 4, 2) := by decide +kernel
theorem dX7_set_283 : decode cX7_set 283 = .ok (.iload_n 2, 1) := by decide +kernel
theorem dX7_set_284 : decode cX7_set 284 = .ok (.iload 4, 2) := by decide +kernel
theorem dX7_set_286 : decode cX7_set 286 = .ok (.ifCond .ne 8, 3) := by decide +kernel
theorem dX7_set_289 : decode cX7_set 289 = .ok (.bipush 9, 2) := by decide +kernel
theorem dX7_set_291 : decode cX7_set 291 = .ok (.goto 5, 3) := by decide +kernel
theorem dX7_set_294 : decode cX7_set 294 = .ok (.bipush 73, 2) := by decide +kernel
theorem dX7_set_296 : decode cX7_set 296 = .ok (.iand, 1) := by decide +kernel
theorem dX7_set_297 : decode cX7_set 297 = .ok (.iastore, 1) := by decide +kernel
theorem dX7_set_298 : decode cX7_set 298 = .ok (.aload_n 0, 1) := by decide +kernel
theorem dX7_set_299 : decode cX7_set 299 = .ok (.getfield 51, 3) := by decide +kernel
theorem dX7_set_302 : decode cX7_set 302 = .ok (.iload 4, 2) := by decide +kernel
theorem dX7_set_304 : decode cX7_set 304 = .ok (.iload_n 2, 1) := by decide +kernel
theorem dX7_set_305 : decode cX7_set 305 = .ok (.bipush 16, 2) := by decide +kernel
theorem dX7_set_307 : decode cX7_set 307 = .ok (.iand, 1) := by decide +kernel
theorem dX7_set_308 : decode cX7_set 308 = .ok (.ifCond .eq 13, 3) := by decide +kernel
theorem dX7_set_311 : decode cX7_set 311 = .ok (.aload_n 0, 1) := by decide +kernel
theorem dX7_set_312 : decode cX7_set 312 = .ok (.getfield 48, 3) := by decide +kernel
theorem dX7_set_315 : decode cX7_set 315 = .ok (.iload 4, 2) := by decide +kernel
theorem dX7_set_317 : decode cX7_set 317 = .ok (.iaload, 1) := by decide +kernel
theorem dX7_set_318 : decode cX7_set 318 = .ok (.goto 10, 3) := by decide +kernel
theorem dX7_set_321 : decode cX7_set 321 = .ok (.aload_n 0, 1) := by decide +kernel
theorem dX7_set_322 : decode cX7_set 322 = .ok (.getfield 51, 3) := by decide +kernel
theorem dX7_set_325 : decode cX7_set 325 = .ok (.iload 4, 2) := by decide +kernel
theorem dX7_set_327 : decode cX7_set 327 = .ok (.iaload, 1) := by decide +kernel
theorem dX7_set_328 : decode cX7_set 328 = .ok (.iastore, 1) := by decide +kernel
theorem dX7_set_329 : decode cX7_set 329 = .ok (.goto 24, 3) := by decide +kernel
theorem dX7_set_332 : decode cX7_set 332 = .ok (.iload_n 1, 1) := by decide +kernel
theorem dX7_set_333 : decode cX7_set 333 = .ok (.sipush 152, 3) := by decide +kernel
theorem dX7_set_336 : decode cX7_set 336 = .ok (.if_icmp .ge 17, 3) := by decide +kernel
theorem dX7_set_339 : decode cX7_set 339 = .ok (.aload_n 0, 1) := by decide +kernel
theorem dX7_set_340 : decode cX7_set 340 = .ok (.getfield 39, 3) := by decide +kernel
theorem dX7_set_343 : decode cX7_set 343 = .ok (.iload_n 1, 1) := by decide +kernel
theorem dX7_set_344 : decode cX7_set 344 = .ok (.sipush 128, 3) := by decide +kernel
theorem dX7_set_347 : decode cX7_set 347 = .ok (.isub, 1) := by decide +kernel
theorem dX7_set_348 : decode cX7_set 348 = .ok (.iload_n 2, 1) := by decide +kernel
theorem dX7_set_349 : decode cX7_set 349 = .ok (.bipush 15, 2) := by decide +kernel
theorem dX7_set_351 : decode cX7_set 351 = .ok (.iand, 1) := by decide +kernel
theorem dX7_set_352 : decode cX7_set 352 = .ok (.iastore, 1) := by decide +kernel
theorem dX7_set_353 : decode cX7_set 353 = .ok (.return_, 1) := by decide +kernel
theorem dX7_read_0 : decode cX7_read 0 = .ok (.iload_n 1, 1) := by decide +kernel
theorem dX7_read_1 : decode cX7_read 1 = .ok (.sipush 8192, 3) := by decide +kernel
theorem dX7_read_4 : decode cX7_read 4 = .ok (.irem, 1) := by decide +kernel
theorem dX7_read_5 : decode cX7_read 5 = .ok (.istore_n 2, 1) := by decide +kernel
theorem dX7_read_6 : decode cX7_read 6 = .ok (.aload_n 0, 1) := by decide +kernel
theorem dX7_read_7 : decode cX7_read 7 = .ok (.iload_n 2, 1) := by decide +kernel
theorem dX7_read_8 : decode cX7_read 8 = .ok (.putfield 66, 3) := by decide +kernel
theorem dX7_read_11 : decode cX7_read 11 = .ok (.aload_n 0, 1) := by decide +kernel
theorem dX7_read_12 : decode cX7_read 12 = .ok (.dup, 1) := by decide +kernel
theorem dX7_read_13 : decode cX7_read 13 = .ok (.getfield 102, 3) := by decide +kernel
theorem dX7_read_16 : decode cX7_read 16 = .ok (.iconst 1, 1) := by decide +kernel
theorem dX7_read_17 : decode cX7_read 17 = .ok (.iadd, 1) := by decide +kernel
theorem dX7_read_18 : decode cX7_read 18 = .ok (.putfield 102, 3) := by decide +kernel
theorem dX7_read_21 : decode cX7_read 21 = .ok (.aload_n 0, 1) := by decide +kernel
theorem dX7_read_22 : decode cX7_read 22 = .ok (.iload_n 2, 1) := by decide +kernel
theorem dX7_read_23 : decode cX7_read 23 = .ok (.invokevirtual 74, 3) := by decide +kernel
theorem dX7_read_26 : decode cX7_read 26 = .ok (.ifCond .eq 16, 3) := by decide +kernel
theorem dX7_read_29 : decode cX7_read 29 = .ok (.aload_n 0, 1) := by decide +kernel
theorem dX7_read_30 : decode cX7_read 30 = .ok (.iload_n 2, 1) := by decide +kernel
theorem dX7_read_31 : decode cX7_read 31 = .ok (.sipush 6656, 3) := by decide +kernel
theorem dX7_read_34 : decode cX7_read 34 = .ok (.isub, 1) := by decide +kernel
theorem dX7_read_35 : decode cX7_read 35 = .ok (.iconst 1, 1) := by decide +kernel
theorem dX7_read_36 : decode cX7_read 36 = .ok (.invokevirtual 78, 3) := by decide +kernel
theorem dX7_read_39 : decode cX7_read 39 = .ok (.goto 8, 3) := by decide +kernel
theorem dX7_read_42 : decode cX7_read 42 = .ok (.aload_n 0, 1) := by decide +kernel
theorem dX7_read_43 : decode cX7_read 43 = .ok (.iload_n 2, 1) := by decide +kernel
theorem dX7_read_44 : decode cX7_read 44 = .ok (.invokevirtual 105, 3) := by decide +kernel
theorem dX7_read_47 : decode cX7_read 47 = .ok (.ireturn, 1) := by decide +kernel
theorem dX7_write_0 : decode cX7_write 0 = .ok (.iload_n 1, 1) := by decide +kernel
theorem dX7_write_1 : decode cX7_write 1 = .ok (.sipush 8192, 3) := by decide +kernel
theorem dX7_write_4 : decode cX7_write 4 = .ok (.irem, 1) := by decide +kernel
theorem dX7_write_5 : decode cX7_write 5 = .ok (.istore_n 3, 1) := by decide +kernel
theorem dX7_write_6 : decode cX7_write 6 = .ok (.aload_n 0, 1) := by decide +kernel
theorem dX7_write_7 : decode cX7_write 7 = .ok (.sipush 8192, 3) := by decide +kernel
theorem dX7_write_10 : decode cX7_write 10 = .ok (.iload_n 3, 1) := by decide +kernel
theorem dX7_write_11 : decode cX7_write 11 = .ok (.iadd, 1) := by decide +kernel
theorem dX7_write_12 : decode cX7_write 12 = .ok (.putfield 66, 3) := by decide +kernel
theorem dX7_write_15 : decode cX7_write 15 = .ok (.aload_n 0, 1) := by decide +kernel
theorem dX7_write_16 : decode cX7_write 16 = .ok (.dup, 1) := by decide +kernel
theorem dX7_write_17 : decode cX7_write 17 = .ok (.getfield 102, 3) := by decide +kernel
theorem dX7_write_20 : decode cX7_write 20 = .ok (.iconst 1, 1) := by decide +kernel
theorem dX7_write_21 : decode cX7_write 21 = .ok (.iadd, 1) := by decide +kernel
theorem dX7_write_22 : decode cX7_write 22 = .ok (.putfield 102, 3) := by decide +kernel
theorem dX7_write_25 : decode cX7_write 25 = .ok (.iload_n 3, 1) := by decide +kernel
theorem dX7_write_26 : decode cX7_write 26 = .ok (.iconst 1, 1) := by decide +kernel
theorem dX7_write_27 : decode cX7_write 27 = .ok (.if_icmp .ne 14, 3) := by decide +kernel
theorem dX7_write_30 : decode cX7_write 30 = .ok (.aload_n 0, 1) := by decide +kernel
theorem dX7_write_31 : decode cX7_write 31 = .ok (.iload_n 2, 1) := by decide +kernel
theorem dX7_write_32 : decode cX7_write 32 = .ok (.bipush 7, 2) := by decide +kernel
theorem dX7_write_34 : decode cX7_write 34 = .ok (.iand, 1) := by decide +kernel
theorem dX7_write_35 : decode cX7_write 35 = .ok (.putfield 22, 3) := by decide +kernel
theorem dX7_write_38 : decode cX7_write 38 = .ok (.goto 31, 3) := by decide +kernel
theorem dX7_write_41 : decode cX7_write 41 = .ok (.aload_n 0, 1) := by decide +kernel
theorem dX7_write_42 : decode cX7_write 42 = .ok (.iload_n 3, 1) := by decide +kernel
theorem dX7_write_43 : decode cX7_write 43 = .ok (.invokevirtual 74, 3) := by decide +kernel
theorem dX7_write_46 : decode cX7_write 46 = .ok (.ifCond .eq 16, 3) := by decide +kernel
theorem dX7_write_49 : decode cX7_write 49 = .ok (.aload_n 0, 1) := by decide +kernel
theorem dX7_write_50 : decode cX7_write 50 = .ok (.iload_n 3, 1) := by decide +kernel
theorem dX7_write_51 : decode cX7_write 51 = .ok (.sipush 6656, 3) := by decide +kernel
theorem dX7_write_54 : decode cX7_write 54 = .ok (.isub, 1) := by decide +kernel
theorem dX7_write_55 : decode cX7_write 55 = .ok (.iload_n 2, 1) := by decide +kernel
theorem dX7_write_56 : decode cX7_write 56 = .ok (.invokevirtual 109, 3) := by decide +kernel
theorem dX7_write_59 : decode cX7_write 59 = .ok (.goto 10, 3) := by decide +kernel
theorem dX7_write_62 : decode cX7_write 62 = .ok (.aload_n 0, 1) := by decide +kernel
theorem dX7_write_63 : decode cX7_write 63 = .ok (.getfield 7, 3) := by decide +kernel
theorem dX7_write_66 : decode cX7_write 66 = .ok (.iload_n 3, 1) := by decide +kernel
theorem dX7_write_67 : decode cX7_write 67 = .ok (.iload_n 2, 1) := by decide +kernel
theorem dX7_write_68 : decode cX7_write 68 = .ok (.iastore, 1) := by decide +kernel
theorem dX7_write_69 : decode cX7_write 69 = .ok (.return_, 1) := by decide +kernel
theorem dX7_shows_0 : decode cX7_shows 0 = .ok (.aload_n 0, 1) := by decide +kernel
theorem dX7_shows_1 : decode cX7_shows 1 = .ok (.getfield 85, 3) := by decide +kernel
theorem dX7_shows_4 : decode cX7_shows 4 = .ok (.bipush 8, 2) := by decide +kernel
theorem dX7_shows_6 : decode cX7_shows 6 = .ok (.if_icmp .lt 28, 3) := by decide +kernel
theorem dX7_shows_9 : decode cX7_shows 9 = .ok (.aload_n 0, 1) := by decide +kernel
theorem dX7_shows_10 : decode cX7_shows 10 = .ok (.getfield 85, 3) := by decide +kernel
theorem dX7_shows_13 : decode cX7_shows 13 = .ok (.bipush 31, 2) := by decide +kernel
theorem dX7_shows_15 : decode cX7_shows 15 = .ok (.if_icmp .gt 19, 3) := by decide +kernel
theorem dX7_shows_18 : decode cX7_shows 18 = .ok (.aload_n 0, 1) := by decide +kernel
theorem dX7_shows_19 : decode cX7_shows 19 = .ok (.getfield 26, 3) := by decide +kernel
theorem dX7_shows_22 : decode cX7_shows 22 = .ok (.iconst 0, 1) := by decide +kernel
theorem dX7_shows_23 : decode cX7_shows 23 = .ok (.iaload, 1) := by decide +kernel
theorem dX7_shows_24 : decode cX7_shows 24 = .ok (.bipush 16, 2) := by decide +kernel
theorem dX7_shows_26 : decode cX7_shows 26 = .ok (.iand, 1) := by decide +kernel
theorem dX7_shows_27 : decode cX7_shows 27 = .ok (.ifCond .eq 7, 3) := by decide +kernel
theorem dX7_shows_30 : decode cX7_shows 30 = .ok (.iconst 1, 1) := by decide +kernel
theorem dX7_shows_31 : decode cX7_shows 31 = .ok (.goto 4, 3) := by decide +kernel
theorem dX7_shows_34 : decode cX7_shows 34 = .ok (.iconst 0, 1) := by decide +kernel
theorem dX7_shows_35 : decode cX7_shows 35 = .ok (.ireturn, 1) := by decide +kernel
theorem dX7_paint_0 : decode cX7_paint 0 = .ok (.iconst 0, 1) := by decide +kernel
theorem dX7_paint_1 : decode cX7_paint 1 = .ok (.istore_n 2, 1) := by decide +kernel
theorem dX7_paint_2 : decode cX7_paint 2 = .ok (.iload_n 2, 1) := by decide +kernel
theorem dX7_paint_3 : decode cX7_paint 3 = .ok (.bipush 8, 2) := by decide +kernel
theorem dX7_paint_5 : decode cX7_paint 5 = .ok (.if_icmp .ge 107, 3) := by decide +kernel
theorem dX7_paint_8 : decode cX7_paint 8 = .ok (.aload_n 0, 1) := by decide +kernel
theorem dX7_paint_9 : decode cX7_paint 9 = .ok (.getfield 16, 3) := by decide +kernel
theorem dX7_paint_12 : decode cX7_paint 12 = .ok (.bipush 8, 2) := by decide +kernel
theorem dX7_paint_14 : decode cX7_paint 14 = .ok (.aload_n 0, 1) := by decide +kernel
theorem dX7_paint_15 : decode cX7_paint 15 = .ok (.getfield 33, 3) := by decide +kernel
theorem dX7_paint_18 : decode cX7_paint 18 = .ok (.iload_n 1, 1) := by decide +kernel
theorem dX7_paint_19 : decode cX7_paint 19 = .ok (.iaload, 1) := by decide +kernel
theorem dX7_paint_20 : decode cX7_paint 20 = .ok (.bipush 64, 2) := by decide +kernel
theorem dX7_paint_22 : decode cX7_paint 22 = .ok (.irem, 1) := by decide +kernel
theorem dX7_paint_23 : decode cX7_paint 23 = .ok (.imul, 1) := by decide +kernel
theorem dX7_paint_24 : decode cX7_paint 24 = .ok (.aload_n 0, 1) := by decide +kernel
theorem dX7_paint_25 : decode cX7_paint 25 = .ok (.getfield 113, 3) := by decide +kernel
theorem dX7_paint_28 : decode cX7_paint 28 = .ok (.bipush 8, 2) := by decide +kernel
theorem dX7_paint_30 : decode cX7_paint 30 = .ok (.irem, 1) := by decide +kernel
theorem dX7_paint_31 : decode cX7_paint 31 = .ok (.iadd, 1) := by decide +kernel
theorem dX7_paint_32 : decode cX7_paint 32 = .ok (.iaload, 1) := by decide +kernel
theorem dX7_paint_33 : decode cX7_paint 33 = .ok (.bipush 7, 2) := by decide +kernel
theorem dX7_paint_35 : decode cX7_paint 35 = .ok (.iload_n 2, 1) := by decide +kernel
theorem dX7_paint_36 : decode cX7_paint 36 = .ok (.isub, 1) := by decide +kernel
theorem dX7_paint_37 : decode cX7_paint 37 = .ok (.ishr, 1) := by decide +kernel
theorem dX7_paint_38 : decode cX7_paint 38 = .ok (.iconst 1, 1) := by decide +kernel
theorem dX7_paint_39 : decode cX7_paint 39 = .ok (.iand, 1) := by decide +kernel
theorem dX7_paint_40 : decode cX7_paint 40 = .ok (.istore_n 3, 1) := by decide +kernel
theorem dX7_paint_41 : decode cX7_paint 41 = .ok (.aload_n 0, 1) := by decide +kernel
theorem dX7_paint_42 : decode cX7_paint 42 = .ok (.invokevirtual 116, 3) := by decide +kernel
theorem dX7_paint_45 : decode cX7_paint 45 = .ok (.ifCond .ne 12, 3) := by decide +kernel
theorem dX7_paint_48 : decode cX7_paint 48 = .ok (.aload_n 0, 1) := by decide +kernel
theorem dX7_paint_49 : decode cX7_paint 49 = .ok (.getfield 26, 3) := by decide +kernel
theorem dX7_paint_52 : decode cX7_paint 52 = .ok (.iconst 3, 1) := by decide +kernel
theorem dX7_paint_53 : decode cX7_paint 53 = .ok (.iaload, 1) := by decide +kernel
theorem dX7_paint_54 : decode cX7_paint 54 = .ok (.goto 29, 3) := by decide +kernel
theorem dX7_paint_57 : decode cX7_paint 57 = .ok (.aload_n 0, 1) := by decide +kernel
theorem dX7_paint_58 : decode cX7_paint 58 = .ok (.getfield 29, 3) := by decide +kernel
theorem dX7_paint_61 : decode cX7_paint 61 = .ok (.ifCond .ne 7, 3) := by decide +kernel
theorem dX7_paint_64 : decode cX7_paint 64 = .ok (.iload_n 3, 1) := by decide +kernel
theorem dX7_paint_65 : decode cX7_paint 65 = .ok (.ifCond .ne 12, 3) := by decide +kernel
theorem dX7_paint_68 : decode cX7_paint 68 = .ok (.aload_n 0, 1) := by decide +kernel
theorem dX7_paint_69 : decode cX7_paint 69 = .ok (.getfield 26, 3) := by decide +kernel
theorem dX7_paint_72 : decode cX7_paint 72 = .ok (.iconst 2, 1) := by decide +kernel
theorem dX7_paint_73 : decode cX7_paint 73 = .ok (.iaload, 1) := by decide +kernel
theorem dX7_paint_74 : decode cX7_paint 74 = .ok (.goto 9, 3) := by decide +kernel
theorem dX7_paint_77 : decode cX7_paint 77 = .ok (.aload_n 0, 1) := by decide +kernel
theorem dX7_paint_78 : decode cX7_paint 78 = .ok (.getfield 36, 3) := by decide +kernel
theorem dX7_paint_81 : decode cX7_paint 81 = .ok (.iload_n 1, 1) := by decide +kernel
theorem dX7_paint_82 : decode cX7_paint 82 = .ok (.iaload, 1) := by decide +kernel
theorem dX7_paint_83 : decode cX7_paint 83 = .ok (.istore 4, 2) := by decide +kernel
theorem dX7_paint_85 : decode cX7_paint 85 = .ok (.aload_n 0, 1) := by decide +kernel
theorem dX7_paint_86 : decode cX7_paint 86 = .ok (.getfield 42, 3) := by decide +kernel
theorem dX7_paint_89 : decode cX7_paint 89 = .ok (.bipush 64, 2) := by decide +kernel
theorem dX7_paint_91 : decode cX7_paint 91 = .ok (.aload_n 0, 1) := by decide +kernel
theorem dX7_paint_92 : decode cX7_paint 92 = .ok (.getfield 85, 3) := by decide +kernel
theorem dX7_paint_95 : decode cX7_paint 95 = .ok (.imul, 1) := by decide +kernel
theorem dX7_paint_96 : decode cX7_paint 96 = .ok (.bipush 8, 2) := by decide +kernel
theorem dX7_paint_98 : decode cX7_paint 98 = .ok (.iload_n 1, 1) := by decide +kernel
theorem dX7_paint_99 : decode cX7_paint 99 = .ok (.imul, 1) := by decide +kernel
theorem dX7_paint_100 : decode cX7_paint 100 = .ok (.iadd, 1) := by decide +kernel
theorem dX7_paint_101 : decode cX7_paint 101 = .ok (.iload_n 2, 1) := by decide +kernel
theorem dX7_paint_102 : decode cX7_paint 102 = .ok (.iadd, 1) := by decide +kernel
theorem dX7_paint_103 : decode cX7_paint 103 = .ok (.iload 4, 2) := by decide +kernel
theorem dX7_paint_105 : decode cX7_paint 105 = .ok (.iastore, 1) := by decide +kernel
theorem dX7_paint_106 : decode cX7_paint 106 = .ok (.iinc 2 1, 3) := by decide +kernel
theorem dX7_paint_109 : decode cX7_paint 109 = .ok (.goto (-107), 3) := by decide +kernel
theorem dX7_paint_112 : decode cX7_paint 112 = .ok (.return_, 1) := by decide +kernel
theorem dX7_pictureCycle_0 : decode cX7_pictureCycle 0 = .ok (.aload_n 0, 1) := by decide +kernel
theorem dX7_pictureCycle_1 : decode cX7_pictureCycle 1 = .ok (.getfield 120, 3) := by decide +kernel
theorem dX7_pictureCycle_4 : decode cX7_pictureCycle 4 = .ok (.ifCond .ne 54, 3) := by decide +kernel
theorem dX7_pictureCycle_7 : decode cX7_pictureCycle 7 = .ok (.aload_n 0, 1) := by decide +kernel
theorem dX7_pictureCycle_8 : decode cX7_pictureCycle 8 = .ok (.iconst 0, 1) := by decide +kernel
theorem dX7_pictureCycle_9 : decode cX7_pictureCycle 9 = .ok (.putfield 123, 3) := by decide +kernel
theorem dX7_pictureCycle_12 : decode cX7_pictureCycle 12 = .ok (.aload_n 0, 1) := by decide +kernel
theorem dX7_pictureCycle_13 : decode cX7_pictureCycle 13 = .ok (.aload_n 0, 1) := by decide +kernel
theorem dX7_pictureCycle_14 : decode cX7_pictureCycle 14 = .ok (.getfield 88, 3) := by decide +kernel
theorem dX7_pictureCycle_17 : decode cX7_pictureCycle 17 = .ok (.ifCond .ne 16, 3) := by decide +kernel
theorem dX7_pictureCycle_20 : decode cX7_pictureCycle 20 = .ok (.aload_n 0, 1) := by decide +kernel
theorem dX7_pictureCycle_21 : decode cX7_pictureCycle 21 = .ok (.getfield 85, 3) := by decide +kernel
theorem dX7_pictureCycle_24 : decode cX7_pictureCycle 24 = .ok (.aload_n 0, 1) := by decide +kernel
theorem dX7_pictureCycle_25 : decode cX7_pictureCycle 25 = .ok (.getfield 26, 3) := by decide +kernel
theorem dX7_pictureCycle_28 : decode cX7_pictureCycle 28 = .ok (.iconst 1, 1) := by decide +kernel
theorem dX7_pictureCycle_29 : decode cX7_pictureCycle 29 = .ok (.iaload, 1) := by decide +kernel
theorem dX7_pictureCycle_30 : decode cX7_pictureCycle 30 = .ok (.if_icmp .ne 7, 3) := by decide +kernel
theorem dX7_pictureCycle_33 : decode cX7_pictureCycle 33 = .ok (.iconst 1, 1) := by decide +kernel
theorem dX7_pictureCycle_34 : decode cX7_pictureCycle 34 = .ok (.goto 4, 3) := by decide +kernel
theorem dX7_pictureCycle_37 : decode cX7_pictureCycle 37 = .ok (.iconst 0, 1) := by decide +kernel
theorem dX7_pictureCycle_38 : decode cX7_pictureCycle 38 = .ok (.putfield 88, 3) := by decide +kernel
theorem dX7_pictureCycle_41 : decode cX7_pictureCycle 41 = .ok (.aload_n 0, 1) := by decide +kernel
theorem dX7_pictureCycle_42 : decode cX7_pictureCycle 42 = .ok (.getfield 85, 3) := by decide +kernel
theorem dX7_pictureCycle_45 : decode cX7_pictureCycle 45 = .ok (.ifCond .ne 13, 3) := by decide +kernel
theorem dX7_pictureCycle_48 : decode cX7_pictureCycle 48 = .ok (.aload_n 0, 1) := by decide +kernel
theorem dX7_pictureCycle_49 : decode cX7_pictureCycle 49 = .ok (.iconst 1, 1) := by decide +kernel
theorem dX7_pictureCycle_50 : decode cX7_pictureCycle 50 = .ok (.putfield 29, 3) := by decide +kernel
theorem dX7_pictureCycle_53 : decode cX7_pictureCycle 53 = .ok (.aload_n 0, 1) := by decide +kernel
theorem dX7_pictureCycle_54 : decode cX7_pictureCycle 54 = .ok (.iconst 0, 1) := by decide +kernel
theorem dX7_pictureCycle_55 : decode cX7_pictureCycle 55 = .ok (.putfield 126, 3) := by decide +kernel
theorem dX7_pictureCycle_58 : decode cX7_pictureCycle 58 = .ok (.aload_n 0, 1) := by decide +kernel
theorem dX7_pictureCycle_59 : decode cX7_pictureCycle 59 = .ok (.getfield 120, 3) := by decide +kernel
theorem dX7_pictureCycle_62 : decode cX7_pictureCycle 62 = .ok (.iconst 3, 1) := by decide +kernel
theorem dX7_pictureCycle_63 : decode cX7_pictureCycle 63 = .ok (.if_icmp .ne 44, 3) := by decide +kernel
theorem dX7_pictureCycle_66 : decode cX7_pictureCycle 66 = .ok (.aload_n 0, 1) := by decide +kernel
theorem dX7_pictureCycle_67 : decode cX7_pictureCycle 67 = .ok (.invokevirtual 116, 3) := by decide +kernel
theorem dX7_pictureCycle_70 : decode cX7_pictureCycle 70 = .ok (.ifCond .eq 37, 3) := by decide +kernel
theorem dX7_pictureCycle_73 : decode cX7_pictureCycle 73 = .ok (.aload_n 0, 1) := by decide +kernel
theorem dX7_pictureCycle_74 : decode cX7_pictureCycle 74 = .ok (.getfield 85, 3) := by decide +kernel
theorem dX7_pictureCycle_77 : decode cX7_pictureCycle 77 = .ok (.bipush 8, 2) := by decide +kernel
theorem dX7_pictureCycle_79 : decode cX7_pictureCycle 79 = .ok (.irem, 1) := by decide +kernel
theorem dX7_pictureCycle_80 : decode cX7_pictureCycle 80 = .ok (.aload_n 0, 1) := by decide +kernel
theorem dX7_pictureCycle_81 : decode cX7_pictureCycle 81 = .ok (.getfield 26, 3) := by decide +kernel
theorem dX7_pictureCycle_84 : decode cX7_pictureCycle 84 = .ok (.iconst 0, 1) := by decide +kernel
theorem dX7_pictureCycle_85 : decode cX7_pictureCycle 85 = .ok (.iaload, 1) := by decide +kernel
theorem dX7_pictureCycle_86 : decode cX7_pictureCycle 86 = .ok (.bipush 7, 2) := by decide +kernel
theorem dX7_pictureCycle_88 : decode cX7_pictureCycle 88 = .ok (.iand, 1) := by decide +kernel
theorem dX7_pictureCycle_89 : decode cX7_pictureCycle 89 = .ok (.if_icmp .ne 18, 3) := by decide +kernel
theorem dX7_pictureCycle_92 : decode cX7_pictureCycle 92 = .ok (.aload_n 0, 1) := by decide +kernel
theorem dX7_pictureCycle_93 : decode cX7_pictureCycle 93 = .ok (.iconst 1, 1) := by decide +kernel
theorem dX7_pictureCycle_94 : decode cX7_pictureCycle 94 = .ok (.putfield 123, 3) := by decide +kernel
theorem dX7_pictureCycle_97 : decode cX7_pictureCycle 97 = .ok (.aload_n 0, 1) := by decide +kernel
theorem dX7_pictureCycle_98 : decode cX7_pictureCycle 98 = .ok (.iconst 0, 1) := by decide +kernel
theorem dX7_pictureCycle_99 : decode cX7_pictureCycle 99 = .ok (.putfield 29, 3) := by decide +kernel
theorem dX7_pictureCycle_102 : decode cX7_pictureCycle 102 = .ok (.aload_n 0, 1) := by decide +kernel
theorem dX7_pictureCycle_103 : decode cX7_pictureCycle 103 = .ok (.iconst 0, 1) := by decide +kernel
theorem dX7_pictureCycle_104 : decode cX7_pictureCycle 104 = .ok (.putfield 113, 3) := by decide +kernel
theorem dX7_pictureCycle_107 : decode cX7_pictureCycle 107 = .ok (.aload_n 0, 1) := by decide +kernel
theorem dX7_pictureCycle_108 : decode cX7_pictureCycle 108 = .ok (.getfield 120, 3) := by decide +kernel
theorem dX7_pictureCycle_111 : decode cX7_pictureCycle 111 = .ok (.bipush 6, 2) := by decide +kernel
theorem dX7_pictureCycle_113 : decode cX7_pictureCycle 113 = .ok (.if_icmp .lt 79, 3) := by decide +kernel
theorem dX7_pictureCycle_116 : decode cX7_pictureCycle 116 = .ok (.aload_n 0, 1) := by decide +kernel
theorem dX7_pictureCycle_117 : decode cX7_pictureCycle 117 = .ok (.getfield 120, 3) := by decide +kernel
theorem dX7_pictureCycle_120 : decode cX7_pictureCycle 120 = .ok (.bipush 14, 2) := by decide +kernel
theorem dX7_pictureCycle_122 : decode cX7_pictureCycle 122 = .ok (.if_icmp .ge 70, 3) := by decide +kernel
theorem dX7_pictureCycle_125 : decode cX7_pictureCycle 125 = .ok (.aload_n 0, 1) := by decide +kernel
theorem dX7_pictureCycle_126 : decode cX7_pictureCycle 126 = .ok (.getfield 120, 3) := by decide +kernel
theorem dX7_pictureCycle_129 : decode cX7_pictureCycle 129 = .ok (.bipush 6, 2) := by decide +kernel
theorem dX7_pictureCycle_131 : decode cX7_pictureCycle 131 = .ok (.isub, 1) := by decide +kernel
theorem dX7_pictureCycle_132 : decode cX7_pictureCycle 132 = .ok (.istore_n 1, 1) := by decide +kernel
theorem dX7_pictureCycle_133 : decode cX7_pictureCycle 133 = .ok (.bipush 8, 2) := by decide +kernel
theorem dX7_pictureCycle_135 : decode cX7_pictureCycle 135 = .ok (.aload_n 0, 1) := by decide +kernel
theorem dX7_pictureCycle_136 : decode cX7_pictureCycle 136 = .ok (.getfield 126, 3) := by decide +kernel
theorem dX7_pictureCycle_139 : decode cX7_pictureCycle 139 = .ok (.iconst 3, 1) := by decide +kernel
theorem dX7_pictureCycle_140 : decode cX7_pictureCycle 140 = .ok (.irem, 1) := by decide +kernel
theorem dX7_pictureCycle_141 : decode cX7_pictureCycle 141 = .ok (.imul, 1) := by decide +kernel
theorem dX7_pictureCycle_142 : decode cX7_pictureCycle 142 = .ok (.iload_n 1, 1) := by decide +kernel
theorem dX7_pictureCycle_143 : decode cX7_pictureCycle 143 = .ok (.iadd, 1) := by decide +kernel
theorem dX7_pictureCycle_144 : decode cX7_pictureCycle 144 = .ok (.istore_n 2, 1) := by decide +kernel
theorem dX7_pictureCycle_145 : decode cX7_pictureCycle 145 = .ok (.aload_n 0, 1) := by decide +kernel
theorem dX7_pictureCycle_146 : decode cX7_pictureCycle 146 = .ok (.getfield 123, 3) := by decide +kernel
theorem dX7_pictureCycle_149 : decode cX7_pictureCycle 149 = .ok (.ifCond .eq 38, 3) := by decide +kernel
theorem dX7_pictureCycle_152 : decode cX7_pictureCycle 152 = .ok (.aload_n 0, 1) := by decide +kernel
theorem dX7_pictureCycle_153 : decode cX7_pictureCycle 153 = .ok (.getfield 33, 3) := by decide +kernel
theorem dX7_pictureCycle_156 : decode cX7_pictureCycle 156 = .ok (.iload_n 1, 1) := by decide +kernel
theorem dX7_pictureCycle_157 : decode cX7_pictureCycle 157 = .ok (.aload_n 0, 1) := by decide +kernel
theorem dX7_pictureCycle_158 : decode cX7_pictureCycle 158 = .ok (.getfield 7, 3) := by decide +kernel
theorem dX7_pictureCycle_161 : decode cX7_pictureCycle 161 = .ok (.bipush 64, 2) := by decide +kernel
theorem dX7_pictureCycle_163 : decode cX7_pictureCycle 163 = .ok (.aload_n 0, 1) := by decide +kernel
theorem dX7_pictureCycle_164 : decode cX7_pictureCycle 164 = .ok (.getfield 26, 3) := by decide +kernel
theorem dX7_pictureCycle_167 : decode cX7_pictureCycle 167 = .ok (.bipush 6, 2) := by decide +kernel
theorem dX7_pictureCycle_169 : decode cX7_pictureCycle 169 = .ok (.iaload, 1) := by decide +kernel
theorem dX7_pictureCycle_170 : decode cX7_pictureCycle 170 = .ok (.imul, 1) := by decide +kernel
theorem dX7_pictureCycle_171 : decode cX7_pictureCycle 171 = .ok (.iload_n 2, 1) := by decide +kernel
theorem dX7_pictureCycle_172 : decode cX7_pictureCycle 172 = .ok (.iadd, 1) := by decide +kernel
theorem dX7_pictureCycle_173 : decode cX7_pictureCycle 173 = .ok (.iaload, 1) := by decide +kernel
theorem dX7_pictureCycle_174 : decode cX7_pictureCycle 174 = .ok (.iastore, 1) := by decide +kernel
theorem dX7_pictureCycle_175 : decode cX7_pictureCycle 175 = .ok (.aload_n 0, 1) := by decide +kernel
theorem dX7_pictureCycle_176 : decode cX7_pictureCycle 176 = .ok (.getfield 36, 3) := by decide +kernel
theorem dX7_pictureCycle_179 : decode cX7_pictureCycle 179 = .ok (.iload_n 1, 1) := by decide +kernel
theorem dX7_pictureCycle_180 : decode cX7_pictureCycle 180 = .ok (.aload_n 0, 1) := by decide +kernel
theorem dX7_pictureCycle_181 : decode cX7_pictureCycle 181 = .ok (.getfield 39, 3) := by decide +kernel
theorem dX7_pictureCycle_184 : decode cX7_pictureCycle 184 = .ok (.iload_n 2, 1) := by decide +kernel
theorem dX7_pictureCycle_185 : decode cX7_pictureCycle 185 = .ok (.iaload, 1) := by decide +kernel
theorem dX7_pictureCycle_186 : decode cX7_pictureCycle 186 = .ok (.iastore, 1) := by decide +kernel
theorem dX7_pictureCycle_187 : decode cX7_pictureCycle 187 = .ok (.aload_n 0, 1) := by decide +kernel
theorem dX7_pictureCycle_188 : decode cX7_pictureCycle 188 = .ok (.iload_n 1, 1) := by decide +kernel
theorem dX7_pictureCycle_189 : decode cX7_pictureCycle 189 = .ok (.invokevirtual 129, 3) := by decide +kernel
theorem dX7_pictureCycle_192 : decode cX7_pictureCycle 192 = .ok (.aload_n 0, 1) := by decide +kernel
theorem dX7_pictureCycle_193 : decode cX7_pictureCycle 193 = .ok (.getfield 120, 3) := by decide +kernel
theorem dX7_pictureCycle_196 : decode cX7_pictureCycle 196 = .ok (.bipush 14, 2) := by decide +kernel
theorem dX7_pictureCycle_198 : decode cX7_pictureCycle 198 = .ok (.if_icmp .ne 20, 3) := by decide +kernel
theorem dX7_pictureCycle_201 : decode cX7_pictureCycle 201 = .ok (.aload_n 0, 1) := by decide +kernel
theorem dX7_pictureCycle_202 : decode cX7_pictureCycle 202 = .ok (.getfield 123, 3) := by decide +kernel
theorem dX7_pictureCycle_205 : decode cX7_pictureCycle 205 = .ok (.ifCond .eq 13, 3) := by decide +kernel
theorem dX7_pictureCycle_208 : decode cX7_pictureCycle 208 = .ok (.aload_n 0, 1) := by decide +kernel
theorem dX7_pictureCycle_209 : decode cX7_pictureCycle 209 = .ok (.dup, 1) := by decide +kernel
theorem dX7_pictureCycle_210 : decode cX7_pictureCycle 210 = .ok (.getfield 126, 3) := by decide +kernel
theorem dX7_pictureCycle_213 : decode cX7_pictureCycle 213 = .ok (.iconst 1, 1) := by decide +kernel
theorem dX7_pictureCycle_214 : decode cX7_pictureCycle 214 = .ok (.iadd, 1) := by decide +kernel
theorem dX7_pictureCycle_215 : decode cX7_pictureCycle 215 = .ok (.putfield 126, 3) := by decide +kernel
theorem dX7_pictureCycle_218 : decode cX7_pictureCycle 218 = .ok (.aload_n 0, 1) := by decide +kernel
theorem dX7_pictureCycle_219 : decode cX7_pictureCycle 219 = .ok (.getfield 120, 3) := by decide +kernel
theorem dX7_pictureCycle_222 : decode cX7_pictureCycle 222 = .ok (.bipush 23, 2) := by decide +kernel
theorem dX7_pictureCycle_224 : decode cX7_pictureCycle 224 = .ok (.if_icmp .ne 38, 3) := by decide +kernel
theorem dX7_pictureCycle_227 : decode cX7_pictureCycle 227 = .ok (.aload_n 0, 1) := by decide +kernel
theorem dX7_pictureCycle_228 : decode cX7_pictureCycle 228 = .ok (.getfield 29, 3) := by decide +kernel
theorem dX7_pictureCycle_231 : decode cX7_pictureCycle 231 = .ok (.ifCond .ne 31, 3) := by decide +kernel
theorem dX7_pictureCycle_234 : decode cX7_pictureCycle 234 = .ok (.aload_n 0, 1) := by decide +kernel
theorem dX7_pictureCycle_235 : decode cX7_pictureCycle 235 = .ok (.aload_n 0, 1) := by decide +kernel
theorem dX7_pictureCycle_236 : decode cX7_pictureCycle 236 = .ok (.getfield 113, 3) := by decide +kernel
theorem dX7_pictureCycle_239 : decode cX7_pictureCycle 239 = .ok (.bipush 7, 2) := by decide +kernel
theorem dX7_pictureCycle_241 : decode cX7_pictureCycle 241 = .ok (.if_icmp .ne 7, 3) := by decide +kernel
theorem dX7_pictureCycle_244 : decode cX7_pictureCycle 244 = .ok (.iconst 1, 1) := by decide +kernel
theorem dX7_pictureCycle_245 : decode cX7_pictureCycle 245 = .ok (.goto 4, 3) := by decide +kernel
theorem dX7_pictureCycle_248 : decode cX7_pictureCycle 248 = .ok (.iconst 0, 1) := by decide +kernel
theorem dX7_pictureCycle_249 : decode cX7_pictureCycle 249 = .ok (.putfield 29, 3) := by decide +kernel
theorem dX7_pictureCycle_252 : decode cX7_pictureCycle 252 = .ok (.aload_n 0, 1) := by decide +kernel
theorem dX7_pictureCycle_253 : decode cX7_pictureCycle 253 = .ok (.dup, 1) := by decide +kernel
theorem dX7_pictureCycle_254 : decode cX7_pictureCycle 254 = .ok (.getfield 113, 3) := by decide +kernel
theorem dX7_pictureCycle_257 : decode cX7_pictureCycle 257 = .ok (.iconst 1, 1) := by decide +kernel
theorem dX7_pictureCycle_258 : decode cX7_pictureCycle 258 = .ok (.iadd, 1) := by decide +kernel
theorem dX7_pictureCycle_259 : decode cX7_pictureCycle 259 = .ok (.putfield 113, 3) := by decide +kernel
theorem dX7_pictureCycle_262 : decode cX7_pictureCycle 262 = .ok (.return_, 1) := by decide +kernel
theorem dX7_wanted_0 : decode cX7_wanted 0 = .ok (.aload_n 0, 1) := by decide +kernel
theorem dX7_wanted_1 : decode cX7_wanted 1 = .ok (.getfield 123, 3) := by decide +kernel
theorem dX7_wanted_4 : decode cX7_wanted 4 = .ok (.ifCond .eq 24, 3) := by decide +kernel
theorem dX7_wanted_7 : decode cX7_wanted 7 = .ok (.aload_n 0, 1) := by decide +kernel
theorem dX7_wanted_8 : decode cX7_wanted 8 = .ok (.getfield 120, 3) := by decide +kernel
theorem dX7_wanted_11 : decode cX7_wanted 11 = .ok (.iconst 3, 1) := by decide +kernel
theorem dX7_wanted_12 : decode cX7_wanted 12 = .ok (.if_icmp .lt 16, 3) := by decide +kernel
theorem dX7_wanted_15 : decode cX7_wanted 15 = .ok (.aload_n 0, 1) := by decide +kernel
theorem dX7_wanted_16 : decode cX7_wanted 16 = .ok (.getfield 120, 3) := by decide +kernel
theorem dX7_wanted_19 : decode cX7_wanted 19 = .ok (.bipush 13, 2) := by decide +kernel
theorem dX7_wanted_21 : decode cX7_wanted 21 = .ok (.if_icmp .gt 7, 3) := by decide +kernel
theorem dX7_wanted_24 : decode cX7_wanted 24 = .ok (.iconst 1, 1) := by decide +kernel
theorem dX7_wanted_25 : decode cX7_wanted 25 = .ok (.goto 4, 3) := by decide +kernel
theorem dX7_wanted_28 : decode cX7_wanted 28 = .ok (.iconst 0, 1) := by decide +kernel
theorem dX7_wanted_29 : decode cX7_wanted 29 = .ok (.ireturn, 1) := by decide +kernel
theorem dX7_timer_0 : decode cX7_timer 0 = .ok (.aload_n 0, 1) := by decide +kernel
theorem dX7_timer_1 : decode cX7_timer 1 = .ok (.getfield 51, 3) := by decide +kernel
theorem dX7_timer_4 : decode cX7_timer 4 = .ok (.iload_n 1, 1) := by decide +kernel
theorem dX7_timer_5 : decode cX7_timer 5 = .ok (.iaload, 1) := by decide +kernel
theorem dX7_timer_6 : decode cX7_timer 6 = .ok (.ifCond .le 15, 3) := by decide +kernel
theorem dX7_timer_9 : decode cX7_timer 9 = .ok (.aload_n 0, 1) := by decide +kernel
theorem dX7_timer_10 : decode cX7_timer 10 = .ok (.getfield 51, 3) := by decide +kernel
theorem dX7_timer_13 : decode cX7_timer 13 = .ok (.iload_n 1, 1) := by decide +kernel
theorem dX7_timer_14 : decode cX7_timer 14 = .ok (.dup2, 1) := by decide +kernel
theorem dX7_timer_15 : decode cX7_timer 15 = .ok (.iaload, 1) := by decide +kernel
theorem dX7_timer_16 : decode cX7_timer 16 = .ok (.iconst 1, 1) := by decide +kernel
theorem dX7_timer_17 : decode cX7_timer 17 = .ok (.isub, 1) := by decide +kernel
theorem dX7_timer_18 : decode cX7_timer 18 = .ok (.iastore, 1) := by decide +kernel
theorem dX7_timer_19 : decode cX7_timer 19 = .ok (.iconst 0, 1) := by decide +kernel
theorem dX7_timer_20 : decode cX7_timer 20 = .ok (.ireturn, 1) := by decide +kernel
theorem dX7_timer_21 : decode cX7_timer 21 = .ok (.aload_n 0, 1) := by decide +kernel
theorem dX7_timer_22 : decode cX7_timer 22 = .ok (.aload_n 0, 1) := by decide +kernel
theorem dX7_timer_23 : decode cX7_timer 23 = .ok (.getfield 95, 3) := by decide +kernel
theorem dX7_timer_26 : decode cX7_timer 26 = .ok (.iconst 1, 1) := by decide +kernel
theorem dX7_timer_27 : decode cX7_timer 27 = .ok (.iload_n 1, 1) := by decide +kernel
theorem dX7_timer_28 : decode cX7_timer 28 = .ok (.ishl, 1) := by decide +kernel
theorem dX7_timer_29 : decode cX7_timer 29 = .ok (.ior, 1) := by decide +kernel
theorem dX7_timer_30 : decode cX7_timer 30 = .ok (.putfield 95, 3) := by decide +kernel
theorem dX7_timer_33 : decode cX7_timer 33 = .ok (.aload_n 0, 1) := by decide +kernel
theorem dX7_timer_34 : decode cX7_timer 34 = .ok (.getfield 51, 3) := by decide +kernel
theorem dX7_timer_37 : decode cX7_timer 37 = .ok (.iload_n 1, 1) := by decide +kernel
theorem dX7_timer_38 : decode cX7_timer 38 = .ok (.aload_n 0, 1) := by decide +kernel
theorem dX7_timer_39 : decode cX7_timer 39 = .ok (.getfield 48, 3) := by decide +kernel
theorem dX7_timer_42 : decode cX7_timer 42 = .ok (.iload_n 1, 1) := by decide +kernel
theorem dX7_timer_43 : decode cX7_timer 43 = .ok (.iaload, 1) := by decide +kernel
theorem dX7_timer_44 : decode cX7_timer 44 = .ok (.iastore, 1) := by decide +kernel
theorem dX7_timer_45 : decode cX7_timer 45 = .ok (.aload_n 0, 1) := by decide +kernel
theorem dX7_timer_46 : decode cX7_timer 46 = .ok (.getfield 54, 3) := by decide +kernel
theorem dX7_timer_49 : decode cX7_timer 49 = .ok (.iload_n 1, 1) := by decide +kernel
theorem dX7_timer_50 : decode cX7_timer 50 = .ok (.aload_n 0, 1) := by decide +kernel
theorem dX7_timer_51 : decode cX7_timer 51 = .ok (.getfield 54, 3) := by decide +kernel
theorem dX7_timer_54 : decode cX7_timer 54 = .ok (.iload_n 1, 1) := by decide +kernel
theorem dX7_timer_55 : decode cX7_timer 55 = .ok (.iaload, 1) := by decide +kernel
theorem dX7_timer_56 : decode cX7_timer 56 = .ok (.bipush 8, 2) := by decide +kernel
theorem dX7_timer_58 : decode cX7_timer 58 = .ok (.iand, 1) := by decide +kernel
theorem dX7_timer_59 : decode cX7_timer 59 = .ok (.ifCond .eq 14, 3) := by decide +kernel
theorem dX7_timer_62 : decode cX7_timer 62 = .ok (.aload_n 0, 1) := by decide +kernel
theorem dX7_timer_63 : decode cX7_timer 63 = .ok (.getfield 54, 3) := by decide +kernel
theorem dX7_timer_66 : decode cX7_timer 66 = .ok (.iload_n 1, 1) := by decide +kernel
theorem dX7_timer_67 : decode cX7_timer 67 = .ok (.iaload, 1) := by decide +kernel
theorem dX7_timer_68 : decode cX7_timer 68 = .ok (.iconst 1, 1) := by decide +kernel
theorem dX7_timer_69 : decode cX7_timer 69 = .ok (.isub, 1) := by decide +kernel
theorem dX7_timer_70 : decode cX7_timer 70 = .ok (.goto 9, 3) := by decide +kernel
theorem dX7_timer_73 : decode cX7_timer 73 = .ok (.aload_n 0, 1) := by decide +kernel
theorem dX7_timer_74 : decode cX7_timer 74 = .ok (.getfield 54, 3) := by decide +kernel
theorem dX7_timer_77 : decode cX7_timer 77 = .ok (.iload_n 1, 1) := by decide +kernel
theorem dX7_timer_78 : decode cX7_timer 78 = .ok (.iaload, 1) := by decide +kernel
theorem dX7_timer_79 : decode cX7_timer 79 = .ok (.iastore, 1) := by decide +kernel
theorem dX7_timer_80 : decode cX7_timer 80 = .ok (.iconst 1, 1) := by decide +kernel
theorem dX7_timer_81 : decode cX7_timer 81 = .ok (.ireturn, 1) := by decide +kernel
theorem dX7_timers_0 : decode cX7_timers 0 = .ok (.aload_n 0, 1) := by decide +kernel
theorem dX7_timers_1 : decode cX7_timers 1 = .ok (.getfield 54, 3) := by decide +kernel
theorem dX7_timers_4 : decode cX7_timers 4 = .ok (.iconst 0, 1) := by decide +kernel
theorem dX7_timers_5 : decode cX7_timers 5 = .ok (.iaload, 1) := by decide +kernel
theorem dX7_timers_6 : decode cX7_timers 6 = .ok (.iconst 1, 1) := by decide +kernel
theorem dX7_timers_7 : decode cX7_timers 7 = .ok (.iand, 1) := by decide +kernel
theorem dX7_timers_8 : decode cX7_timers 8 = .ok (.iconst 1, 1) := by decide +kernel
theorem dX7_timers_9 : decode cX7_timers 9 = .ok (.if_icmp .ne 15, 3) := by decide +kernel
theorem dX7_timers_12 : decode cX7_timers 12 = .ok (.aload_n 0, 1) := by decide +kernel
theorem dX7_timers_13 : decode cX7_timers 13 = .ok (.iconst 0, 1) := by decide +kernel
theorem dX7_timers_14 : decode cX7_timers 14 = .ok (.invokevirtual 133, 3) := by decide +kernel
theorem dX7_timers_17 : decode cX7_timers 17 = .ok (.ifCond .eq 7, 3) := by decide +kernel
theorem dX7_timers_20 : decode cX7_timers 20 = .ok (.iconst 1, 1) := by decide +kernel
theorem dX7_timers_21 : decode cX7_timers 21 = .ok (.goto 4, 3) := by decide +kernel
theorem dX7_timers_24 : decode cX7_timers 24 = .ok (.iconst 0, 1) := by decide +kernel
theorem dX7_timers_25 : decode cX7_timers 25 = .ok (.istore_n 1, 1) := by decide +kernel
theorem dX7_timers_26 : decode cX7_timers 26 = .ok (.aload_n 0, 1) := by decide +kernel
theorem dX7_timers_27 : decode cX7_timers 27 = .ok (.getfield 54, 3) := by decide +kernel
theorem dX7_timers_30 : decode cX7_timers 30 = .ok (.iconst 1, 1) := by decide +kernel
theorem dX7_timers_31 : decode cX7_timers 31 = .ok (.iaload, 1) := by decide +kernel
theorem dX7_timers_32 : decode cX7_timers 32 = .ok (.iconst 1, 1) := by decide +kernel
theorem dX7_timers_33 : decode cX7_timers 33 = .ok (.iand, 1) := by decide +kernel
theorem dX7_timers_34 : decode cX7_timers 34 = .ok (.iconst 1, 1) := by decide +kernel
theorem dX7_timers_35 : decode cX7_timers 35 = .ok (.if_icmp .ne 25, 3) := by decide +kernel
theorem dX7_timers_38 : decode cX7_timers 38 = .ok (.aload_n 0, 1) := by decide +kernel
theorem dX7_timers_39 : decode cX7_timers 39 = .ok (.getfield 54, 3) := by decide +kernel
theorem dX7_timers_42 : decode cX7_timers 42 = .ok (.iconst 1, 1) := by decide +kernel
theorem dX7_timers_43 : decode cX7_timers 43 = .ok (.iaload, 1) := by decide +kernel
theorem dX7_timers_44 : decode cX7_timers 44 = .ok (.bipush 64, 2) := by decide +kernel
theorem dX7_timers_46 : decode cX7_timers 46 = .ok (.iand, 1) := by decide +kernel
theorem dX7_timers_47 : decode cX7_timers 47 = .ok (.ifCond .eq 7, 3) := by decide +kernel
theorem dX7_timers_50 : decode cX7_timers 50 = .ok (.iload_n 1, 1) := by decide +kernel
theorem dX7_timers_51 : decode cX7_timers 51 = .ok (.ifCond .eq 9, 3) := by decide +kernel
theorem dX7_timers_54 : decode cX7_timers 54 = .ok (.aload_n 0, 1) := by decide +kernel
theorem dX7_timers_55 : decode cX7_timers 55 = .ok (.iconst 1, 1) := by decide +kernel
theorem dX7_timers_56 : decode cX7_timers 56 = .ok (.invokevirtual 133, 3) := by decide +kernel
theorem dX7_timers_59 : decode cX7_timers 59 = .ok (.pop, 1) := by decide +kernel
theorem dX7_timers_60 : decode cX7_timers 60 = .ok (.return_, 1) := by decide +kernel
theorem dX7_asked_0 : decode cX7_asked 0 = .ok (.aload_n 0, 1) := by decide +kernel
theorem dX7_asked_1 : decode cX7_asked 1 = .ok (.getfield 88, 3) := by decide +kernel
theorem dX7_asked_4 : decode cX7_asked 4 = .ok (.ifCond .eq 13, 3) := by decide +kernel
theorem dX7_asked_7 : decode cX7_asked 7 = .ok (.aload_n 0, 1) := by decide +kernel
theorem dX7_asked_8 : decode cX7_asked 8 = .ok (.getfield 26, 3) := by decide +kernel
theorem dX7_asked_11 : decode cX7_asked 11 = .ok (.iconst 5, 1) := by decide +kernel
theorem dX7_asked_12 : decode cX7_asked 12 = .ok (.iaload, 1) := by decide +kernel
theorem dX7_asked_13 : decode cX7_asked 13 = .ok (.iconst 1, 1) := by decide +kernel
theorem dX7_asked_14 : decode cX7_asked 14 = .ok (.if_icmp .eq 15, 3) := by decide +kernel
theorem dX7_asked_17 : decode cX7_asked 17 = .ok (.aload_n 0, 1) := by decide +kernel
theorem dX7_asked_18 : decode cX7_asked 18 = .ok (.getfield 95, 3) := by decide +kernel
theorem dX7_asked_21 : decode cX7_asked 21 = .ok (.aload_n 0, 1) := by decide +kernel
theorem dX7_asked_22 : decode cX7_asked 22 = .ok (.getfield 98, 3) := by decide +kernel
theorem dX7_asked_25 : decode cX7_asked 25 = .ok (.iand, 1) := by decide +kernel
theorem dX7_asked_26 : decode cX7_asked 26 = .ok (.ifCond .eq 7, 3) := by decide +kernel
theorem dX7_asked_29 : decode cX7_asked 29 = .ok (.iconst 1, 1) := by decide +kernel
theorem dX7_asked_30 : decode cX7_asked 30 = .ok (.goto 4, 3) := by decide +kernel
theorem dX7_asked_33 : decode cX7_asked 33 = .ok (.iconst 0, 1) := by decide +kernel
theorem dX7_asked_34 : decode cX7_asked 34 = .ok (.ireturn, 1) := by decide +kernel
theorem dX7_power_0 : decode cX7_power 0 = .ok (.aload_n 0, 1) := by decide +kernel
theorem dX7_power_1 : decode cX7_power 1 = .ok (.iconst 0, 1) := by decide +kernel
theorem dX7_power_2 : decode cX7_power 2 = .ok (.putfield 136, 3) := by decide +kernel
theorem dX7_power_5 : decode cX7_power 5 = .ok (.aload_n 0, 1) := by decide +kernel
theorem dX7_power_6 : decode cX7_power 6 = .ok (.iconst 0, 1) := by decide +kernel
theorem dX7_power_7 : decode cX7_power 7 = .ok (.putfield 139, 3) := by decide +kernel
theorem dX7_power_10 : decode cX7_power 10 = .ok (.aload_n 0, 1) := by decide +kernel
theorem dX7_power_11 : decode cX7_power 11 = .ok (.iconst 0, 1) := by decide +kernel
theorem dX7_power_12 : decode cX7_power 12 = .ok (.putfield 142, 3) := by decide +kernel
theorem dX7_power_15 : decode cX7_power 15 = .ok (.aload_n 0, 1) := by decide +kernel
theorem dX7_power_16 : decode cX7_power 16 = .ok (.sipush 255, 3) := by decide +kernel
theorem dX7_power_19 : decode cX7_power 19 = .ok (.putfield 57, 3) := by decide +kernel
theorem dX7_power_22 : decode cX7_power 22 = .ok (.aload_n 0, 1) := by decide +kernel
theorem dX7_power_23 : decode cX7_power 23 = .ok (.iconst 4, 1) := by decide +kernel
theorem dX7_power_24 : decode cX7_power 24 = .ok (.putfield 60, 3) := by decide +kernel
theorem dX7_power_27 : decode cX7_power 27 = .ok (.aload_n 0, 1) := by decide +kernel
theorem dX7_power_28 : decode cX7_power 28 = .ok (.aload_n 0, 1) := by decide +kernel
theorem dX7_power_29 : decode cX7_power 29 = .ok (.sipush 8188, 3) := by decide +kernel
theorem dX7_power_32 : decode cX7_power 32 = .ok (.invokevirtual 105, 3) := by decide +kernel
theorem dX7_power_35 : decode cX7_power 35 = .ok (.sipush 256, 3) := by decide +kernel
theorem dX7_power_38 : decode cX7_power 38 = .ok (.aload_n 0, 1) := by decide +kernel
theorem dX7_power_39 : decode cX7_power 39 = .ok (.sipush 8189, 3) := by decide +kernel
theorem dX7_power_42 : decode cX7_power 42 = .ok (.invokevirtual 105, 3) := by decide +kernel
theorem dX7_power_45 : decode cX7_power 45 = .ok (.imul, 1) := by decide +kernel
theorem dX7_power_46 : decode cX7_power 46 = .ok (.iadd, 1) := by decide +kernel
theorem dX7_power_47 : decode cX7_power 47 = .ok (.putfield 145, 3) := by decide +kernel
theorem dX7_power_50 : decode cX7_power 50 = .ok (.aload_n 0, 1) := by decide +kernel
theorem dX7_power_51 : decode cX7_power 51 = .ok (.iconst 0, 1) := by decide +kernel
theorem dX7_power_52 : decode cX7_power 52 = .ok (.putfield 63, 3) := by decide +kernel
theorem dX7_power_55 : decode cX7_power 55 = .ok (.aload_n 0, 1) := by decide +kernel
theorem dX7_power_56 : decode cX7_power 56 = .ok (.iconst 0, 1) := by decide +kernel
theorem dX7_power_57 : decode cX7_power 57 = .ok (.putfield 148, 3) := by decide +kernel
theorem dX7_power_60 : decode cX7_power 60 = .ok (.aload_n 0, 1) := by decide +kernel
theorem dX7_power_61 : decode cX7_power 61 = .ok (.iconst (-1), 1) := by decide +kernel
theorem dX7_power_62 : decode cX7_power 62 = .ok (.putfield 66, 3) := by decide +kernel
theorem dX7_power_65 : decode cX7_power 65 = .ok (.aload_n 0, 1) := by decide +kernel
theorem dX7_power_66 : decode cX7_power 66 = .ok (.iconst 0, 1) := by decide +kernel
theorem dX7_power_67 : decode cX7_power 67 = .ok (.putfield 151, 3) := by decide +kernel
theorem dX7_power_70 : decode cX7_power 70 = .ok (.aload_n 0, 1) := by decide +kernel
theorem dX7_power_71 : decode cX7_power 71 = .ok (.iconst 0, 1) := by decide +kernel
theorem dX7_power_72 : decode cX7_power 72 = .ok (.putfield 154, 3) := by decide +kernel
theorem dX7_power_75 : decode cX7_power 75 = .ok (.return_, 1) := by decide +kernel
theorem dX7_is_0 : decode cX7_is 0 = .ok (.aload_n 0, 1) := by decide +kernel
theorem dX7_is_1 : decode cX7_is 1 = .ok (.getfield 60, 3) := by decide +kernel
theorem dX7_is_4 : decode cX7_is 4 = .ok (.iload_n 1, 1) := by decide +kernel
theorem dX7_is_5 : decode cX7_is 5 = .ok (.iand, 1) := by decide +kernel
theorem dX7_is_6 : decode cX7_is 6 = .ok (.ifCond .eq 7, 3) := by decide +kernel
theorem dX7_is_9 : decode cX7_is 9 = .ok (.iconst 1, 1) := by decide +kernel
theorem dX7_is_10 : decode cX7_is 10 = .ok (.goto 4, 3) := by decide +kernel
theorem dX7_is_13 : decode cX7_is 13 = .ok (.iconst 0, 1) := by decide +kernel
theorem dX7_is_14 : decode cX7_is 14 = .ok (.ireturn, 1) := by decide +kernel
theorem dX7_put_0 : decode cX7_put 0 = .ok (.aload_n 0, 1) := by decide +kernel
theorem dX7_put_1 : decode cX7_put 1 = .ok (.iload_n 2, 1) := by decide +kernel
theorem dX7_put_2 : decode cX7_put 2 = .ok (.ifCond .eq 12, 3) := by decide +kernel
theorem dX7_put_5 : decode cX7_put 5 = .ok (.aload_n 0, 1) := by decide +kernel
theorem dX7_put_6 : decode cX7_put 6 = .ok (.getfield 60, 3) := by decide +kernel
theorem dX7_put_9 : decode cX7_put 9 = .ok (.iload_n 1, 1) := by decide +kernel
theorem dX7_put_10 : decode cX7_put 10 = .ok (.ior, 1) := by decide +kernel
theorem dX7_put_11 : decode cX7_put 11 = .ok (.goto 11, 3) := by decide +kernel
theorem dX7_put_14 : decode cX7_put 14 = .ok (.aload_n 0, 1) := by decide +kernel
theorem dX7_put_15 : decode cX7_put 15 = .ok (.getfield 60, 3) := by decide +kernel
theorem dX7_put_18 : decode cX7_put 18 = .ok (.iload_n 1, 1) := by decide +kernel
theorem dX7_put_19 : decode cX7_put 19 = .ok (.iconst (-1), 1) := by decide +kernel
theorem dX7_put_20 : decode cX7_put 20 = .ok (.ixor, 1) := by decide +kernel
theorem dX7_put_21 : decode cX7_put 21 = .ok (.iand, 1) := by decide +kernel
theorem dX7_put_22 : decode cX7_put 22 = .ok (.putfield 60, 3) := by decide +kernel
theorem dX7_put_25 : decode cX7_put 25 = .ok (.return_, 1) := by decide +kernel
theorem dX7_judged_0 : decode cX7_judged 0 = .ok (.aload_n 0, 1) := by decide +kernel
theorem dX7_judged_1 : decode cX7_judged 1 = .ok (.iconst 2, 1) := by decide +kernel
theorem dX7_judged_2 : decode cX7_judged 2 = .ok (.iload_n 1, 1) := by decide +kernel
theorem dX7_judged_3 : decode cX7_judged 3 = .ok (.ifCond .ne 7, 3) := by decide +kernel
theorem dX7_judged_6 : decode cX7_judged 6 = .ok (.iconst 1, 1) := by decide +kernel
theorem dX7_judged_7 : decode cX7_judged 7 = .ok (.goto 4, 3) := by decide +kernel
theorem dX7_judged_10 : decode cX7_judged 10 = .ok (.iconst 0, 1) := by decide +kernel
theorem dX7_judged_11 : decode cX7_judged 11 = .ok (.invokevirtual 157, 3) := by decide +kernel
theorem dX7_judged_14 : decode cX7_judged 14 = .ok (.aload_n 0, 1) := by decide +kernel
theorem dX7_judged_15 : decode cX7_judged 15 = .ok (.sipush 128, 3) := by decide +kernel
theorem dX7_judged_18 : decode cX7_judged 18 = .ok (.iload_n 1, 1) := by decide +kernel
theorem dX7_judged_19 : decode cX7_judged 19 = .ok (.bipush 127, 2) := by decide +kernel
theorem dX7_judged_21 : decode cX7_judged 21 = .ok (.if_icmp .le 7, 3) := by decide +kernel
theorem dX7_judged_24 : decode cX7_judged 24 = .ok (.iconst 1, 1) := by decide +kernel
theorem dX7_judged_25 : decode cX7_judged 25 = .ok (.goto 4, 3) := by decide +kernel
theorem dX7_judged_28 : decode cX7_judged 28 = .ok (.iconst 0, 1) := by decide +kernel
theorem dX7_judged_29 : decode cX7_judged 29 = .ok (.invokevirtual 157, 3) := by decide +kernel
theorem dX7_judged_32 : decode cX7_judged 32 = .ok (.iload_n 1, 1) := by decide +kernel
theorem dX7_judged_33 : decode cX7_judged 33 = .ok (.ireturn, 1) := by decide +kernel
theorem dX7_next_0 : decode cX7_next 0 = .ok (.aload_n 0, 1) := by decide +kernel
theorem dX7_next_1 : decode cX7_next 1 = .ok (.aload_n 0, 1) := by decide +kernel
theorem dX7_next_2 : decode cX7_next 2 = .ok (.getfield 145, 3) := by decide +kernel
theorem dX7_next_5 : decode cX7_next 5 = .ok (.invokevirtual 161, 3) := by decide +kernel
theorem dX7_next_8 : decode cX7_next 8 = .ok (.istore_n 1, 1) := by decide +kernel
theorem dX7_next_9 : decode cX7_next 9 = .ok (.aload_n 0, 1) := by decide +kernel
theorem dX7_next_10 : decode cX7_next 10 = .ok (.aload_n 0, 1) := by decide +kernel
theorem dX7_next_11 : decode cX7_next 11 = .ok (.getfield 145, 3) := by decide +kernel
theorem dX7_next_14 : decode cX7_next 14 = .ok (.iconst 1, 1) := by decide +kernel
theorem dX7_next_15 : decode cX7_next 15 = .ok (.iadd, 1) := by decide +kernel
theorem dX7_next_16 : decode cX7_next 16 = .ok (.ldc 69, 2) := by decide +kernel
theorem dX7_next_18 : decode cX7_next 18 = .ok (.iand, 1) := by decide +kernel
theorem dX7_next_19 : decode cX7_next 19 = .ok (.putfield 145, 3) := by decide +kernel
theorem dX7_next_22 : decode cX7_next 22 = .ok (.iload_n 1, 1) := by decide +kernel
theorem dX7_next_23 : decode cX7_next 23 = .ok (.ireturn, 1) := by decide +kernel
theorem dX7_push_0 : decode cX7_push 0 = .ok (.aload_n 0, 1) := by decide +kernel
theorem dX7_push_1 : decode cX7_push 1 = .ok (.sipush 256, 3) := by decide +kernel
theorem dX7_push_4 : decode cX7_push 4 = .ok (.aload_n 0, 1) := by decide +kernel
theorem dX7_push_5 : decode cX7_push 5 = .ok (.getfield 57, 3) := by decide +kernel
theorem dX7_push_8 : decode cX7_push 8 = .ok (.iadd, 1) := by decide +kernel
theorem dX7_push_9 : decode cX7_push 9 = .ok (.iload_n 1, 1) := by decide +kernel
theorem dX7_push_10 : decode cX7_push 10 = .ok (.invokevirtual 164, 3) := by decide +kernel
theorem dX7_push_13 : decode cX7_push 13 = .ok (.aload_n 0, 1) := by decide +kernel
theorem dX7_push_14 : decode cX7_push 14 = .ok (.aload_n 0, 1) := by decide +kernel
theorem dX7_push_15 : decode cX7_push 15 = .ok (.getfield 57, 3) := by decide +kernel
theorem dX7_push_18 : decode cX7_push 18 = .ok (.sipush 255, 3) := by decide +kernel
theorem dX7_push_21 : decode cX7_push 21 = .ok (.iadd, 1) := by decide +kernel
theorem dX7_push_22 : decode cX7_push 22 = .ok (.sipush 255, 3) := by decide +kernel
theorem dX7_push_25 : decode cX7_push 25 = .ok (.iand, 1) := by decide +kernel
theorem dX7_push_26 : decode cX7_push 26 = .ok (.putfield 57, 3) := by decide +kernel
theorem dX7_push_29 : decode cX7_push 29 = .ok (.return_, 1) := by decide +kernel
theorem dX7_pull_0 : decode cX7_pull 0 = .ok (.aload_n 0, 1) := by decide +kernel
theorem dX7_pull_1 : decode cX7_pull 1 = .ok (.sipush 256, 3) := by decide +kernel
theorem dX7_pull_4 : decode cX7_pull 4 = .ok (.aload_n 0, 1) := by decide +kernel
theorem dX7_pull_5 : decode cX7_pull 5 = .ok (.getfield 57, 3) := by decide +kernel
theorem dX7_pull_8 : decode cX7_pull 8 = .ok (.iadd, 1) := by decide +kernel
theorem dX7_pull_9 : decode cX7_pull 9 = .ok (.invokevirtual 161, 3) := by decide +kernel
theorem dX7_pull_12 : decode cX7_pull 12 = .ok (.istore_n 2, 1) := by decide +kernel
theorem dX7_pull_13 : decode cX7_pull 13 = .ok (.aload_n 0, 1) := by decide +kernel
theorem dX7_pull_14 : decode cX7_pull 14 = .ok (.iload_n 1, 1) := by decide +kernel
theorem dX7_pull_15 : decode cX7_pull 15 = .ok (.ifCond .eq 16, 3) := by decide +kernel
theorem dX7_pull_18 : decode cX7_pull 18 = .ok (.aload_n 0, 1) := by decide +kernel
theorem dX7_pull_19 : decode cX7_pull 19 = .ok (.getfield 57, 3) := by decide +kernel
theorem dX7_pull_22 : decode cX7_pull 22 = .ok (.iconst 1, 1) := by decide +kernel
theorem dX7_pull_23 : decode cX7_pull 23 = .ok (.iadd, 1) := by decide +kernel
theorem dX7_pull_24 : decode cX7_pull 24 = .ok (.sipush 255, 3) := by decide +kernel
theorem dX7_pull_27 : decode cX7_pull 27 = .ok (.iand, 1) := by decide +kernel
theorem dX7_pull_28 : decode cX7_pull 28 = .ok (.goto 7, 3) := by decide +kernel
theorem dX7_pull_31 : decode cX7_pull 31 = .ok (.aload_n 0, 1) := by decide +kernel
theorem dX7_pull_32 : decode cX7_pull 32 = .ok (.getfield 57, 3) := by decide +kernel
theorem dX7_pull_35 : decode cX7_pull 35 = .ok (.putfield 57, 3) := by decide +kernel
theorem dX7_pull_38 : decode cX7_pull 38 = .ok (.iload_n 2, 1) := by decide +kernel
theorem dX7_pull_39 : decode cX7_pull 39 = .ok (.ireturn, 1) := by decide +kernel
theorem dX7_arithmetic_0 : decode cX7_arithmetic 0 = .ok (.iload_n 0, 1) := by decide +kernel
theorem dX7_arithmetic_1 : decode cX7_arithmetic 1 = .ok (.iconst 2, 1) := by decide +kernel
theorem dX7_arithmetic_2 : decode cX7_arithmetic 2 = .ok (.ishr, 1) := by decide +kernel
theorem dX7_arithmetic_3 : decode cX7_arithmetic 3 = .ok (.bipush 7, 2) := by decide +kernel
theorem dX7_arithmetic_5 : decode cX7_arithmetic 5 = .ok (.iand, 1) := by decide +kernel
theorem dX7_arithmetic_6 : decode cX7_arithmetic 6 = .ok (.istore_n 1, 1) := by decide +kernel
theorem dX7_arithmetic_7 : decode cX7_arithmetic 7 = .ok (.iload_n 0, 1) := by decide +kernel
theorem dX7_arithmetic_8 : decode cX7_arithmetic 8 = .ok (.iconst 3, 1) := by decide +kernel
theorem dX7_arithmetic_9 : decode cX7_arithmetic 9 = .ok (.iand, 1) := by decide +kernel
theorem dX7_arithmetic_10 : decode cX7_arithmetic 10 = .ok (.iconst 1, 1) := by decide +kernel
theorem dX7_arithmetic_11 : decode cX7_arithmetic 11 = .ok (.if_icmp .ne 35, 3) := by decide +kernel
theorem dX7_arithmetic_14 : decode cX7_arithmetic 14 = .ok (.iload_n 1, 1) := by decide +kernel
theorem dX7_arithmetic_15 : decode cX7_arithmetic 15 = .ok (.iconst 1, 1) := by decide +kernel
theorem dX7_arithmetic_16 : decode cX7_arithmetic 16 = .ok (.if_icmp .eq 26, 3) := by decide +kernel
theorem dX7_arithmetic_19 : decode cX7_arithmetic 19 = .ok (.iload_n 1, 1) := by decide +kernel
theorem dX7_arithmetic_20 : decode cX7_arithmetic 20 = .ok (.iconst 2, 1) := by decide +kernel
theorem dX7_arithmetic_21 : decode cX7_arithmetic 21 = .ok (.if_icmp .ne 10, 3) := by decide +kernel
theorem dX7_arithmetic_24 : decode cX7_arithmetic 24 = .ok (.iload_n 0, 1) := by decide +kernel
theorem dX7_arithmetic_25 : decode cX7_arithmetic 25 = .ok (.sipush 137, 3) := by decide +kernel
theorem dX7_arithmetic_28 : decode cX7_arithmetic 28 = .ok (.if_icmp .ne 14, 3) := by decide +kernel
theorem dX7_arithmetic_31 : decode cX7_arithmetic 31 = .ok (.iload_n 1, 1) := by decide +kernel
theorem dX7_arithmetic_32 : decode cX7_arithmetic 32 = .ok (.iconst 3, 1) := by decide +kernel
theorem dX7_arithmetic_33 : decode cX7_arithmetic 33 = .ok (.if_icmp .eq 9, 3) := by decide +kernel
theorem dX7_arithmetic_36 : decode cX7_arithmetic 36 = .ok (.iload_n 1, 1) := by decide +kernel
theorem dX7_arithmetic_37 : decode cX7_arithmetic 37 = .ok (.bipush 7, 2) := by decide +kernel
theorem dX7_arithmetic_39 : decode cX7_arithmetic 39 = .ok (.if_icmp .ne 7, 3) := by decide +kernel
theorem dX7_arithmetic_42 : decode cX7_arithmetic 42 = .ok (.iconst 1, 1) := by decide +kernel
theorem dX7_arithmetic_43 : decode cX7_arithmetic 43 = .ok (.goto 4, 3) := by decide +kernel
theorem dX7_arithmetic_46 : decode cX7_arithmetic 46 = .ok (.iconst 0, 1) := by decide +kernel
theorem dX7_arithmetic_47 : decode cX7_arithmetic 47 = .ok (.ireturn, 1) := by decide +kernel
theorem dX7_writes_0 : decode cX7_writes 0 = .ok (.aload_n 0, 1) := by decide +kernel
theorem dX7_writes_1 : decode cX7_writes 1 = .ok (.getfield 148, 3) := by decide +kernel
theorem dX7_writes_4 : decode cX7_writes 4 = .ok (.ifCond .ne 5, 3) := by decide +kernel
theorem dX7_writes_7 : decode cX7_writes 7 = .ok (.iconst 0, 1) := by decide +kernel
theorem dX7_writes_8 : decode cX7_writes 8 = .ok (.ireturn, 1) := by decide +kernel
theorem dX7_writes_9 : decode cX7_writes 9 = .ok (.aload_n 0, 1) := by decide +kernel
theorem dX7_writes_10 : decode cX7_writes 10 = .ok (.getfield 167, 3) := by decide +kernel
theorem dX7_writes_13 : decode cX7_writes 13 = .ok (.sipush 256, 3) := by decide +kernel
theorem dX7_writes_16 : decode cX7_writes 16 = .ok (.if_icmp .ne 25, 3) := by decide +kernel
theorem dX7_writes_19 : decode cX7_writes 19 = .ok (.aload_n 0, 1) := by decide +kernel
theorem dX7_writes_20 : decode cX7_writes 20 = .ok (.getfield 148, 3) := by decide +kernel
theorem dX7_writes_23 : decode cX7_writes 23 = .ok (.iconst 2, 1) := by decide +kernel
theorem dX7_writes_24 : decode cX7_writes 24 = .ok (.if_icmp .lt 15, 3) := by decide +kernel
theorem dX7_writes_27 : decode cX7_writes 27 = .ok (.aload_n 0, 1) := by decide +kernel
theorem dX7_writes_28 : decode cX7_writes 28 = .ok (.getfield 148, 3) := by decide +kernel
theorem dX7_writes_31 : decode cX7_writes 31 = .ok (.iconst 4, 1) := by decide +kernel
theorem dX7_writes_32 : decode cX7_writes 32 = .ok (.if_icmp .gt 7, 3) := by decide +kernel
theorem dX7_writes_35 : decode cX7_writes 35 = .ok (.iconst 1, 1) := by decide +kernel
theorem dX7_writes_36 : decode cX7_writes 36 = .ok (.goto 4, 3) := by decide +kernel
theorem dX7_writes_39 : decode cX7_writes 39 = .ok (.iconst 0, 1) := by decide +kernel
theorem dX7_writes_40 : decode cX7_writes 40 = .ok (.ireturn, 1) := by decide +kernel
theorem dX7_writes_41 : decode cX7_writes 41 = .ok (.aload_n 0, 1) := by decide +kernel
theorem dX7_writes_42 : decode cX7_writes 42 = .ok (.getfield 167, 3) := by decide +kernel
theorem dX7_writes_45 : decode cX7_writes 45 = .ok (.sipush 133, 3) := by decide +kernel
theorem dX7_writes_48 : decode cX7_writes 48 = .ok (.if_icmp .ne 17, 3) := by decide +kernel
theorem dX7_writes_51 : decode cX7_writes 51 = .ok (.aload_n 0, 1) := by decide +kernel
theorem dX7_writes_52 : decode cX7_writes 52 = .ok (.getfield 148, 3) := by decide +kernel
theorem dX7_writes_55 : decode cX7_writes 55 = .ok (.iconst 2, 1) := by decide +kernel
theorem dX7_writes_56 : decode cX7_writes 56 = .ok (.if_icmp .ne 7, 3) := by decide +kernel
theorem dX7_writes_59 : decode cX7_writes 59 = .ok (.iconst 1, 1) := by decide +kernel
theorem dX7_writes_60 : decode cX7_writes 60 = .ok (.goto 4, 3) := by decide +kernel
theorem dX7_writes_63 : decode cX7_writes 63 = .ok (.iconst 0, 1) := by decide +kernel
theorem dX7_writes_64 : decode cX7_writes 64 = .ok (.ireturn, 1) := by decide +kernel
theorem dX7_writes_65 : decode cX7_writes 65 = .ok (.aload_n 0, 1) := by decide +kernel
theorem dX7_writes_66 : decode cX7_writes 66 = .ok (.getfield 167, 3) := by decide +kernel
theorem dX7_writes_69 : decode cX7_writes 69 = .ok (.sipush 141, 3) := by decide +kernel
theorem dX7_writes_72 : decode cX7_writes 72 = .ok (.if_icmp .ne 17, 3) := by decide +kernel
theorem dX7_writes_75 : decode cX7_writes 75 = .ok (.aload_n 0, 1) := by decide +kernel
theorem dX7_writes_76 : decode cX7_writes 76 = .ok (.getfield 148, 3) := by decide +kernel
theorem dX7_writes_79 : decode cX7_writes 79 = .ok (.iconst 3, 1) := by decide +kernel
theorem dX7_writes_80 : decode cX7_writes 80 = .ok (.if_icmp .ne 7, 3) := by decide +kernel
theorem dX7_writes_83 : decode cX7_writes 83 = .ok (.iconst 1, 1) := by decide +kernel
theorem dX7_writes_84 : decode cX7_writes 84 = .ok (.goto 4, 3) := by decide +kernel
theorem dX7_writes_87 : decode cX7_writes 87 = .ok (.iconst 0, 1) := by decide +kernel
theorem dX7_writes_88 : decode cX7_writes 88 = .ok (.ireturn, 1) := by decide +kernel
theorem dX7_writes_89 : decode cX7_writes 89 = .ok (.aload_n 0, 1) := by decide +kernel
theorem dX7_writes_90 : decode cX7_writes 90 = .ok (.getfield 167, 3) := by decide +kernel
theorem dX7_writes_93 : decode cX7_writes 93 = .ok (.sipush 157, 3) := by decide +kernel
theorem dX7_writes_96 : decode cX7_writes 96 = .ok (.if_icmp .ne 17, 3) := by decide +kernel
theorem dX7_writes_99 : decode cX7_writes 99 = .ok (.aload_n 0, 1) := by decide +kernel
theorem dX7_writes_100 : decode cX7_writes 100 = .ok (.getfield 148, 3) := by decide +kernel
theorem dX7_writes_103 : decode cX7_writes 103 = .ok (.iconst 4, 1) := by decide +kernel
theorem dX7_writes_104 : decode cX7_writes 104 = .ok (.if_icmp .ne 7, 3) := by decide +kernel
theorem dX7_writes_107 : decode cX7_writes 107 = .ok (.iconst 1, 1) := by decide +kernel
theorem dX7_writes_108 : decode cX7_writes 108 = .ok (.goto 4, 3) := by decide +kernel
theorem dX7_writes_111 : decode cX7_writes 111 = .ok (.iconst 0, 1) := by decide +kernel
theorem dX7_writes_112 : decode cX7_writes 112 = .ok (.ireturn, 1) := by decide +kernel
theorem dX7_writes_113 : decode cX7_writes 113 = .ok (.aload_n 0, 1) := by decide +kernel
theorem dX7_writes_114 : decode cX7_writes 114 = .ok (.getfield 167, 3) := by decide +kernel
theorem dX7_writes_117 : decode cX7_writes 117 = .ok (.sipush 134, 3) := by decide +kernel
theorem dX7_writes_120 : decode cX7_writes 120 = .ok (.if_icmp .eq 22, 3) := by decide +kernel
theorem dX7_writes_123 : decode cX7_writes 123 = .ok (.aload_n 0, 1) := by decide +kernel
theorem dX7_writes_124 : decode cX7_writes 124 = .ok (.getfield 167, 3) := by decide +kernel
theorem dX7_writes_127 : decode cX7_writes 127 = .ok (.sipush 132, 3) := by decide +kernel
theorem dX7_writes_130 : decode cX7_writes 130 = .ok (.if_icmp .eq 12, 3) := by decide +kernel
theorem dX7_writes_133 : decode cX7_writes 133 = .ok (.aload_n 0, 1) := by decide +kernel
theorem dX7_writes_134 : decode cX7_writes 134 = .ok (.getfield 167, 3) := by decide +kernel
theorem dX7_writes_137 : decode cX7_writes 137 = .ok (.bipush 72, 2) := by decide +kernel
theorem dX7_writes_139 : decode cX7_writes 139 = .ok (.if_icmp .ne 17, 3) := by decide +kernel
theorem dX7_writes_142 : decode cX7_writes 142 = .ok (.aload_n 0, 1) := by decide +kernel
theorem dX7_writes_143 : decode cX7_writes 143 = .ok (.getfield 148, 3) := by decide +kernel
theorem dX7_writes_146 : decode cX7_writes 146 = .ok (.iconst 2, 1) := by decide +kernel
theorem dX7_writes_147 : decode cX7_writes 147 = .ok (.if_icmp .ne 7, 3) := by decide +kernel
theorem dX7_writes_150 : decode cX7_writes 150 = .ok (.iconst 1, 1) := by decide +kernel
theorem dX7_writes_151 : decode cX7_writes 151 = .ok (.goto 4, 3) := by decide +kernel
theorem dX7_writes_154 : decode cX7_writes 154 = .ok (.iconst 0, 1) := by decide +kernel
theorem dX7_writes_155 : decode cX7_writes 155 = .ok (.ireturn, 1) := by decide +kernel
theorem dX7_writes_156 : decode cX7_writes 156 = .ok (.aload_n 0, 1) := by decide +kernel
theorem dX7_writes_157 : decode cX7_writes 157 = .ok (.getfield 167, 3) := by decide +kernel
theorem dX7_writes_160 : decode cX7_writes 160 = .ok (.sipush 230, 3) := by decide +kernel
theorem dX7_writes_163 : decode cX7_writes 163 = .ok (.if_icmp .eq 22, 3) := by decide +kernel
theorem dX7_writes_166 : decode cX7_writes 166 = .ok (.aload_n 0, 1) := by decide +kernel
theorem dX7_writes_167 : decode cX7_writes 167 = .ok (.getfield 167, 3) := by decide +kernel
theorem dX7_writes_170 : decode cX7_writes 170 = .ok (.sipush 198, 3) := by decide +kernel
theorem dX7_writes_173 : decode cX7_writes 173 = .ok (.if_icmp .eq 12, 3) := by decide +kernel
theorem dX7_writes_176 : decode cX7_writes 176 = .ok (.aload_n 0, 1) := by decide +kernel
theorem dX7_writes_177 : decode cX7_writes 177 = .ok (.getfield 167, 3) := by decide +kernel
theorem dX7_writes_180 : decode cX7_writes 180 = .ok (.bipush 32, 2) := by decide +kernel
theorem dX7_writes_182 : decode cX7_writes 182 = .ok (.if_icmp .ne 23, 3) := by decide +kernel
theorem dX7_writes_185 : decode cX7_writes 185 = .ok (.aload_n 0, 1) := by decide +kernel
theorem dX7_writes_186 : decode cX7_writes 186 = .ok (.getfield 148, 3) := by decide +kernel
theorem dX7_writes_189 : decode cX7_writes 189 = .ok (.iconst 3, 1) := by decide +kernel
theorem dX7_writes_190 : decode cX7_writes 190 = .ok (.if_icmp .lt 15, 3) := by decide +kernel
theorem dX7_writes_193 : decode cX7_writes 193 = .ok (.aload_n 0, 1) := by decide +kernel
theorem dX7_writes_194 : decode cX7_writes 194 = .ok (.getfield 148, 3) := by decide +kernel
theorem dX7_writes_197 : decode cX7_writes 197 = .ok (.iconst 4, 1) := by decide +kernel
theorem dX7_writes_198 : decode cX7_writes 198 = .ok (.if_icmp .gt 7, 3) := by decide +kernel
theorem dX7_writes_201 : decode cX7_writes 201 = .ok (.iconst 1, 1) := by decide +kernel
theorem dX7_writes_202 : decode cX7_writes 202 = .ok (.goto 4, 3) := by decide +kernel
theorem dX7_writes_205 : decode cX7_writes 205 = .ok (.iconst 0, 1) := by decide +kernel
theorem dX7_writes_206 : decode cX7_writes 206 = .ok (.ireturn, 1) := by decide +kernel
theorem dX7_add_0 : decode cX7_add 0 = .ok (.aload_n 0, 1) := by decide +kernel
theorem dX7_add_1 : decode cX7_add 1 = .ok (.getfield 60, 3) := by decide +kernel
theorem dX7_add_4 : decode cX7_add 4 = .ok (.iconst 1, 1) := by decide +kernel
theorem dX7_add_5 : decode cX7_add 5 = .ok (.iand, 1) := by decide +kernel
theorem dX7_add_6 : decode cX7_add 6 = .ok (.istore_n 2, 1) := by decide +kernel
theorem dX7_add_7 : decode cX7_add 7 = .ok (.aload_n 0, 1) := by decide +kernel
theorem dX7_add_8 : decode cX7_add 8 = .ok (.getfield 136, 3) := by decide +kernel
theorem dX7_add_11 : decode cX7_add 11 = .ok (.iload_n 1, 1) := by decide +kernel
theorem dX7_add_12 : decode cX7_add 12 = .ok (.iadd, 1) := by decide +kernel
theorem dX7_add_13 : decode cX7_add 13 = .ok (.iload_n 2, 1) := by decide +kernel
theorem dX7_add_14 : decode cX7_add 14 = .ok (.iadd, 1) := by decide +kernel
theorem dX7_add_15 : decode cX7_add 15 = .ok (.istore_n 3, 1) := by decide +kernel
theorem dX7_add_16 : decode cX7_add 16 = .ok (.aload_n 0, 1) := by decide +kernel
theorem dX7_add_17 : decode cX7_add 17 = .ok (.bipush 8, 2) := by decide +kernel
theorem dX7_add_19 : decode cX7_add 19 = .ok (.invokevirtual 170, 3) := by decide +kernel
theorem dX7_add_22 : decode cX7_add 22 = .ok (.ifCond .eq 17, 3) := by decide +kernel
theorem dX7_add_25 : decode cX7_add 25 = .ok (.aload_n 0, 1) := by decide +kernel
theorem dX7_add_26 : decode cX7_add 26 = .ok (.getfield 167, 3) := by decide +kernel
theorem dX7_add_29 : decode cX7_add 29 = .ok (.iconst 5, 1) := by decide +kernel
theorem dX7_add_30 : decode cX7_add 30 = .ok (.ishr, 1) := by decide +kernel
theorem dX7_add_31 : decode cX7_add 31 = .ok (.iconst 3, 1) := by decide +kernel
theorem dX7_add_32 : decode cX7_add 32 = .ok (.if_icmp .ne 7, 3) := by decide +kernel
theorem dX7_add_35 : decode cX7_add 35 = .ok (.iconst 1, 1) := by decide +kernel
theorem dX7_add_36 : decode cX7_add 36 = .ok (.goto 4, 3) := by decide +kernel
theorem dX7_add_39 : decode cX7_add 39 = .ok (.iconst 0, 1) := by decide +kernel
theorem dX7_add_40 : decode cX7_add 40 = .ok (.istore 4, 2) := by decide +kernel
theorem dX7_add_42 : decode cX7_add 42 = .ok (.aload_n 0, 1) := by decide +kernel
theorem dX7_add_43 : decode cX7_add 43 = .ok (.bipush 64, 2) := by decide +kernel
theorem dX7_add_45 : decode cX7_add 45 = .ok (.aload_n 0, 1) := by decide +kernel
theorem dX7_add_46 : decode cX7_add 46 = .ok (.getfield 136, 3) := by decide +kernel
theorem dX7_add_49 : decode cX7_add 49 = .ok (.sipush 128, 3) := by decide +kernel
theorem dX7_add_52 : decode cX7_add 52 = .ok (.iand, 1) := by decide +kernel
theorem dX7_add_53 : decode cX7_add 53 = .ok (.iload_n 1, 1) := by decide +kernel
theorem dX7_add_54 : decode cX7_add 54 = .ok (.sipush 128, 3) := by decide +kernel
theorem dX7_add_57 : decode cX7_add 57 = .ok (.iand, 1) := by decide +kernel
theorem dX7_add_58 : decode cX7_add 58 = .ok (.if_icmp .ne 23, 3) := by decide +kernel
theorem dX7_add_61 : decode cX7_add 61 = .ok (.iload_n 3, 1) := by decide +kernel
theorem dX7_add_62 : decode cX7_add 62 = .ok (.sipush 128, 3) := by decide +kernel
theorem dX7_add_65 : decode cX7_add 65 = .ok (.iand, 1) := by decide +kernel
theorem dX7_add_66 : decode cX7_add 66 = .ok (.aload_n 0, 1) := by decide +kernel
theorem dX7_add_67 : decode cX7_add 67 = .ok (.getfield 136, 3) := by decide +kernel
theorem dX7_add_70 : decode cX7_add 70 = .ok (.sipush 128, 3) := by decide +kernel
theorem dX7_add_73 : decode cX7_add 73 = .ok (.iand, 1) := by decide +kernel
theorem dX7_add_74 : decode cX7_add 74 = .ok (.if_icmp .eq 7, 3) := by decide +kernel
theorem dX7_add_77 : decode cX7_add 77 = .ok (.iconst 1, 1) := by decide +kernel
theorem dX7_add_78 : decode cX7_add 78 = .ok (.goto 4, 3) := by decide +kernel
theorem dX7_add_81 : decode cX7_add 81 = .ok (.iconst 0, 1) := by decide +kernel
theorem dX7_add_82 : decode cX7_add 82 = .ok (.invokevirtual 157, 3) := by decide +kernel
theorem dX7_add_85 : decode cX7_add 85 = .ok (.aload_n 0, 1) := by decide +kernel
theorem dX7_add_86 : decode cX7_add 86 = .ok (.getfield 136, 3) := by decide +kernel
theorem dX7_add_89 : decode cX7_add 89 = .ok (.bipush 15, 2) := by decide +kernel
theorem dX7_add_91 : decode cX7_add 91 = .ok (.iand, 1) := by decide +kernel
theorem dX7_add_92 : decode cX7_add 92 = .ok (.iload_n 1, 1) := by decide +kernel
theorem dX7_add_93 : decode cX7_add 93 = .ok (.bipush 15, 2) := by decide +kernel
theorem dX7_add_95 : decode cX7_add 95 = .ok (.iand, 1) := by decide +kernel
theorem dX7_add_96 : decode cX7_add 96 = .ok (.iadd, 1) := by decide +kernel
theorem dX7_add_97 : decode cX7_add 97 = .ok (.iload_n 2, 1) := by decide +kernel
theorem dX7_add_98 : decode cX7_add 98 = .ok (.iadd, 1) := by decide +kernel
theorem dX7_add_99 : decode cX7_add 99 = .ok (.istore 5, 2) := by decide +kernel
theorem dX7_add_101 : decode cX7_add 101 = .ok (.iload 5, 2) := by decide +kernel
theorem dX7_add_103 : decode cX7_add 103 = .ok (.bipush 9, 2) := by decide +kernel
theorem dX7_add_105 : decode cX7_add 105 = .ok (.if_icmp .le 11, 3) := by decide +kernel
theorem dX7_add_108 : decode cX7_add 108 = .ok (.iload 5, 2) := by decide +kernel
theorem dX7_add_110 : decode cX7_add 110 = .ok (.bipush 6, 2) := by decide +kernel
theorem dX7_add_112 : decode cX7_add 112 = .ok (.iadd, 1) := by decide +kernel
theorem dX7_add_113 : decode cX7_add 113 = .ok (.goto 5, 3) := by decide +kernel
theorem dX7_add_116 : decode cX7_add 116 = .ok (.iload 5, 2) := by decide +kernel
theorem dX7_add_118 : decode cX7_add 118 = .ok (.istore 5, 2) := by decide +kernel
theorem dX7_add_120 : decode cX7_add 120 = .ok (.aload_n 0, 1) := by decide +kernel
theorem dX7_add_121 : decode cX7_add 121 = .ok (.getfield 136, 3) := by decide +kernel
theorem dX7_add_124 : decode cX7_add 124 = .ok (.iconst 4, 1) := by decide +kernel
theorem dX7_add_125 : decode cX7_add 125 = .ok (.ishr, 1) := by decide +kernel
theorem dX7_add_126 : decode cX7_add 126 = .ok (.iload_n 1, 1) := by decide +kernel
theorem dX7_add_127 : decode cX7_add 127 = .ok (.iconst 4, 1) := by decide +kernel
theorem dX7_add_128 : decode cX7_add 128 = .ok (.ishr, 1) := by decide +kernel
theorem dX7_add_129 : decode cX7_add 129 = .ok (.iadd, 1) := by decide +kernel
theorem dX7_add_130 : decode cX7_add 130 = .ok (.iload 5, 2) := by decide +kernel
theorem dX7_add_132 : decode cX7_add 132 = .ok (.bipush 15, 2) := by decide +kernel
theorem dX7_add_134 : decode cX7_add 134 = .ok (.if_icmp .le 7, 3) := by decide +kernel
theorem dX7_add_137 : decode cX7_add 137 = .ok (.iconst 1, 1) := by decide +kernel
