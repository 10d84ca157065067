theorem dX7_returnStep_0 : decode cX7_returnStep 0 = .ok (.aload_n 0, 1) := by decide +kernel
theorem dX7_returnStep_1 : decode cX7_returnStep 1 = .ok (.getfield 148, 3) := by decide +kernel
theorem dX7_returnStep_4 : decode cX7_returnStep 4 = .ok (.iconst 1, 1) := by decide +kernel
theorem dX7_returnStep_5 : decode cX7_returnStep 5 = .ok (.if_icmp .ne 12, 3) := by decide +kernel
theorem dX7_returnStep_8 : decode cX7_returnStep 8 = .ok (.aload_n 0, 1) := by decide +kernel
theorem dX7_returnStep_9 : decode cX7_returnStep 9 = .ok (.aload_n 0, 1) := by decide +kernel
theorem dX7_returnStep_10 : decode cX7_returnStep 10 = .ok (.getfield 145, 3) := by decide +kernel
theorem dX7_returnStep_13 : decode cX7_returnStep 13 = .ok (.invokevirtual 161, 3) := by decide +kernel
theorem dX7_returnStep_16 : decode cX7_returnStep 16 = .ok (.pop, 1) := by decide +kernel
theorem dX7_returnStep_17 : decode cX7_returnStep 17 = .ok (.aload_n 0, 1) := by decide +kernel
theorem dX7_returnStep_18 : decode cX7_returnStep 18 = .ok (.getfield 148, 3) := by decide +kernel
theorem dX7_returnStep_21 : decode cX7_returnStep 21 = .ok (.iconst 2, 1) := by decide +kernel
theorem dX7_returnStep_22 : decode cX7_returnStep 22 = .ok (.if_icmp .ne 9, 3) := by decide +kernel
theorem dX7_returnStep_25 : decode cX7_returnStep 25 = .ok (.aload_n 0, 1) := by decide +kernel
theorem dX7_returnStep_26 : decode cX7_returnStep 26 = .ok (.iconst 1, 1) := by decide +kernel
theorem dX7_returnStep_27 : decode cX7_returnStep 27 = .ok (.invokevirtual 206, 3) := by decide +kernel
theorem dX7_returnStep_30 : decode cX7_returnStep 30 = .ok (.pop, 1) := by decide +kernel
theorem dX7_returnStep_31 : decode cX7_returnStep 31 = .ok (.aload_n 0, 1) := by decide +kernel
theorem dX7_returnStep_32 : decode cX7_returnStep 32 = .ok (.getfield 167, 3) := by decide +kernel
theorem dX7_returnStep_35 : decode cX7_returnStep 35 = .ok (.bipush 64, 2) := by decide +kernel
theorem dX7_returnStep_37 : decode cX7_returnStep 37 = .ok (.if_icmp .ne 24, 3) := by decide +kernel
theorem dX7_returnStep_40 : decode cX7_returnStep 40 = .ok (.aload_n 0, 1) := by decide +kernel
theorem dX7_returnStep_41 : decode cX7_returnStep 41 = .ok (.getfield 148, 3) := by decide +kernel
theorem dX7_returnStep_44 : decode cX7_returnStep 44 = .ok (.iconst 3, 1) := by decide +kernel
theorem dX7_returnStep_45 : decode cX7_returnStep 45 = .ok (.if_icmp .ne 16, 3) := by decide +kernel
theorem dX7_returnStep_48 : decode cX7_returnStep 48 = .ok (.aload_n 0, 1) := by decide +kernel
theorem dX7_returnStep_49 : decode cX7_returnStep 49 = .ok (.aload_n 0, 1) := by decide +kernel
theorem dX7_returnStep_50 : decode cX7_returnStep 50 = .ok (.iconst 1, 1) := by decide +kernel
theorem dX7_returnStep_51 : decode cX7_returnStep 51 = .ok (.invokevirtual 206, 3) := by decide +kernel
theorem dX7_returnStep_54 : decode cX7_returnStep 54 = .ok (.sipush 207, 3) := by decide +kernel
theorem dX7_returnStep_57 : decode cX7_returnStep 57 = .ok (.iand, 1) := by decide +kernel
theorem dX7_returnStep_58 : decode cX7_returnStep 58 = .ok (.putfield 60, 3) := by decide +kernel
theorem dX7_returnStep_61 : decode cX7_returnStep 61 = .ok (.aload_n 0, 1) := by decide +kernel
theorem dX7_returnStep_62 : decode cX7_returnStep 62 = .ok (.getfield 167, 3) := by decide +kernel
theorem dX7_returnStep_65 : decode cX7_returnStep 65 = .ok (.bipush 64, 2) := by decide +kernel
theorem dX7_returnStep_67 : decode cX7_returnStep 67 = .ok (.if_icmp .ne 28, 3) := by decide +kernel
theorem dX7_returnStep_70 : decode cX7_returnStep 70 = .ok (.aload_n 0, 1) := by decide +kernel
theorem dX7_returnStep_71 : decode cX7_returnStep 71 = .ok (.getfield 148, 3) := by decide +kernel
theorem dX7_returnStep_74 : decode cX7_returnStep 74 = .ok (.iconst 4, 1) := by decide +kernel
theorem dX7_returnStep_75 : decode cX7_returnStep 75 = .ok (.if_icmp .ne 20, 3) := by decide +kernel
theorem dX7_returnStep_78 : decode cX7_returnStep 78 = .ok (.aload_n 0, 1) := by decide +kernel
theorem dX7_returnStep_79 : decode cX7_returnStep 79 = .ok (.aload_n 0, 1) := by decide +kernel
theorem dX7_returnStep_80 : decode cX7_returnStep 80 = .ok (.getfield 145, 3) := by decide +kernel
theorem dX7_returnStep_83 : decode cX7_returnStep 83 = .ok (.ldc 101, 2) := by decide +kernel
theorem dX7_returnStep_85 : decode cX7_returnStep 85 = .ok (.iand, 1) := by decide +kernel
theorem dX7_returnStep_86 : decode cX7_returnStep 86 = .ok (.aload_n 0, 1) := by decide +kernel
theorem dX7_returnStep_87 : decode cX7_returnStep 87 = .ok (.iconst 1, 1) := by decide +kernel
theorem dX7_returnStep_88 : decode cX7_returnStep 88 = .ok (.invokevirtual 206, 3) := by decide +kernel
theorem dX7_returnStep_91 : decode cX7_returnStep 91 = .ok (.iadd, 1) := by decide +kernel
theorem dX7_returnStep_92 : decode cX7_returnStep 92 = .ok (.putfield 145, 3) := by decide +kernel
theorem dX7_returnStep_95 : decode cX7_returnStep 95 = .ok (.aload_n 0, 1) := by decide +kernel
theorem dX7_returnStep_96 : decode cX7_returnStep 96 = .ok (.getfield 167, 3) := by decide +kernel
theorem dX7_returnStep_99 : decode cX7_returnStep 99 = .ok (.bipush 64, 2) := by decide +kernel
theorem dX7_returnStep_101 : decode cX7_returnStep 101 = .ok (.if_icmp .ne 33, 3) := by decide +kernel
theorem dX7_returnStep_104 : decode cX7_returnStep 104 = .ok (.aload_n 0, 1) := by decide +kernel
theorem dX7_returnStep_105 : decode cX7_returnStep 105 = .ok (.getfield 148, 3) := by decide +kernel
theorem dX7_returnStep_108 : decode cX7_returnStep 108 = .ok (.iconst 5, 1) := by decide +kernel
theorem dX7_returnStep_109 : decode cX7_returnStep 109 = .ok (.if_icmp .ne 25, 3) := by decide +kernel
theorem dX7_returnStep_112 : decode cX7_returnStep 112 = .ok (.aload_n 0, 1) := by decide +kernel
theorem dX7_returnStep_113 : decode cX7_returnStep 113 = .ok (.aload_n 0, 1) := by decide +kernel
theorem dX7_returnStep_114 : decode cX7_returnStep 114 = .ok (.getfield 145, 3) := by decide +kernel
theorem dX7_returnStep_117 : decode cX7_returnStep 117 = .ok (.sipush 255, 3) := by decide +kernel
theorem dX7_returnStep_120 : decode cX7_returnStep 120 = .ok (.iand, 1) := by decide +kernel
theorem dX7_returnStep_121 : decode cX7_returnStep 121 = .ok (.sipush 256, 3) := by decide +kernel
theorem dX7_returnStep_124 : decode cX7_returnStep 124 = .ok (.aload_n 0, 1) := by decide +kernel
theorem dX7_returnStep_125 : decode cX7_returnStep 125 = .ok (.iconst 0, 1) := by decide +kernel
theorem dX7_returnStep_126 : decode cX7_returnStep 126 = .ok (.invokevirtual 206, 3) := by decide +kernel
theorem dX7_returnStep_129 : decode cX7_returnStep 129 = .ok (.imul, 1) := by decide +kernel
theorem dX7_returnStep_130 : decode cX7_returnStep 130 = .ok (.iadd, 1) := by decide +kernel
theorem dX7_returnStep_131 : decode cX7_returnStep 131 = .ok (.putfield 145, 3) := by decide +kernel
theorem dX7_returnStep_134 : decode cX7_returnStep 134 = .ok (.aload_n 0, 1) := by decide +kernel
theorem dX7_returnStep_135 : decode cX7_returnStep 135 = .ok (.getfield 167, 3) := by decide +kernel
theorem dX7_returnStep_138 : decode cX7_returnStep 138 = .ok (.bipush 96, 2) := by decide +kernel
theorem dX7_returnStep_140 : decode cX7_returnStep 140 = .ok (.if_icmp .ne 20, 3) := by decide +kernel
theorem dX7_returnStep_143 : decode cX7_returnStep 143 = .ok (.aload_n 0, 1) := by decide +kernel
theorem dX7_returnStep_144 : decode cX7_returnStep 144 = .ok (.getfield 148, 3) := by decide +kernel
theorem dX7_returnStep_147 : decode cX7_returnStep 147 = .ok (.iconst 3, 1) := by decide +kernel
theorem dX7_returnStep_148 : decode cX7_returnStep 148 = .ok (.if_icmp .ne 12, 3) := by decide +kernel
theorem dX7_returnStep_151 : decode cX7_returnStep 151 = .ok (.aload_n 0, 1) := by decide +kernel
theorem dX7_returnStep_152 : decode cX7_returnStep 152 = .ok (.aload_n 0, 1) := by decide +kernel
theorem dX7_returnStep_153 : decode cX7_returnStep 153 = .ok (.iconst 1, 1) := by decide +kernel
theorem dX7_returnStep_154 : decode cX7_returnStep 154 = .ok (.invokevirtual 206, 3) := by decide +kernel
theorem dX7_returnStep_157 : decode cX7_returnStep 157 = .ok (.putfield 188, 3) := by decide +kernel
theorem dX7_returnStep_160 : decode cX7_returnStep 160 = .ok (.aload_n 0, 1) := by decide +kernel
theorem dX7_returnStep_161 : decode cX7_returnStep 161 = .ok (.getfield 167, 3) := by decide +kernel
theorem dX7_returnStep_164 : decode cX7_returnStep 164 = .ok (.bipush 96, 2) := by decide +kernel
theorem dX7_returnStep_166 : decode cX7_returnStep 166 = .ok (.if_icmp .ne 29, 3) := by decide +kernel
theorem dX7_returnStep_169 : decode cX7_returnStep 169 = .ok (.aload_n 0, 1) := by decide +kernel
theorem dX7_returnStep_170 : decode cX7_returnStep 170 = .ok (.getfield 148, 3) := by decide +kernel
theorem dX7_returnStep_173 : decode cX7_returnStep 173 = .ok (.iconst 4, 1) := by decide +kernel
theorem dX7_returnStep_174 : decode cX7_returnStep 174 = .ok (.if_icmp .ne 21, 3) := by decide +kernel
theorem dX7_returnStep_177 : decode cX7_returnStep 177 = .ok (.aload_n 0, 1) := by decide +kernel
theorem dX7_returnStep_178 : decode cX7_returnStep 178 = .ok (.sipush 256, 3) := by decide +kernel
theorem dX7_returnStep_181 : decode cX7_returnStep 181 = .ok (.aload_n 0, 1) := by decide +kernel
theorem dX7_returnStep_182 : decode cX7_returnStep 182 = .ok (.iconst 0, 1) := by decide +kernel
theorem dX7_returnStep_183 : decode cX7_returnStep 183 = .ok (.invokevirtual 206, 3) := by decide +kernel
theorem dX7_returnStep_186 : decode cX7_returnStep 186 = .ok (.imul, 1) := by decide +kernel
theorem dX7_returnStep_187 : decode cX7_returnStep 187 = .ok (.aload_n 0, 1) := by decide +kernel
theorem dX7_returnStep_188 : decode cX7_returnStep 188 = .ok (.getfield 188, 3) := by decide +kernel
theorem dX7_returnStep_191 : decode cX7_returnStep 191 = .ok (.iadd, 1) := by decide +kernel
theorem dX7_returnStep_192 : decode cX7_returnStep 192 = .ok (.putfield 145, 3) := by decide +kernel
theorem dX7_returnStep_195 : decode cX7_returnStep 195 = .ok (.aload_n 0, 1) := by decide +kernel
theorem dX7_returnStep_196 : decode cX7_returnStep 196 = .ok (.getfield 167, 3) := by decide +kernel
theorem dX7_returnStep_199 : decode cX7_returnStep 199 = .ok (.bipush 96, 2) := by decide +kernel
theorem dX7_returnStep_201 : decode cX7_returnStep 201 = .ok (.if_icmp .ne 16, 3) := by decide +kernel
theorem dX7_returnStep_204 : decode cX7_returnStep 204 = .ok (.aload_n 0, 1) := by decide +kernel
theorem dX7_returnStep_205 : decode cX7_returnStep 205 = .ok (.getfield 148, 3) := by decide +kernel
theorem dX7_returnStep_208 : decode cX7_returnStep 208 = .ok (.iconst 5, 1) := by decide +kernel
theorem dX7_returnStep_209 : decode cX7_returnStep 209 = .ok (.if_icmp .ne 8, 3) := by decide +kernel
theorem dX7_returnStep_212 : decode cX7_returnStep 212 = .ok (.aload_n 0, 1) := by decide +kernel
theorem dX7_returnStep_213 : decode cX7_returnStep 213 = .ok (.invokevirtual 185, 3) := by decide +kernel
theorem dX7_returnStep_216 : decode cX7_returnStep 216 = .ok (.pop, 1) := by decide +kernel
theorem dX7_returnStep_217 : decode cX7_returnStep 217 = .ok (.return_, 1) := by decide +kernel
set_option maxRecDepth 20000 in
theorem ggX7_byteStep_X7_next : GoodIn wsX7_byteStep wsX7_next := goodIn_r _ [11, 12, 13, 14, 15, 16, 10, 17, 18, 19, 20, 21, 22, 23, 24, 25, 26, 27, 28, 29, 30, 31, 32, 33, 34, 35, 36, 37, 38, 39, 40, 41, 42, 43, 44, 45, 46, 47, 48, 49, 50, 74, 75, 76, 77, 78, 79, 80, 81, 82, 83, 84, 85, 86, 87, 88, 89, 90, 91, 92, 93, 94, 95, 96, 97, 98, 99, 100, 101, 102, 103, 104, 105, 106, 107, 108, 109, 110, 111, 112, 113, 114] (by decide +kernel) (by decide +kernel)
set_option maxRecDepth 20000 in
theorem gX7_byteStep_X7_next : GoodIn wsX7_byteStep (wsV RX7 185 RX7 yX7_next wsX7_next) := goodIn_app (goodIn_of _ (by decide +kernel)) ggX7_byteStep_X7_next
set_option maxRecDepth 20000 in
theorem ggX7_byteStep_X7_judged : GoodIn wsX7_byteStep wsX7_judged := goodIn_r _ [54, 55, 56, 57, 10, 58, 59, 74, 75, 76, 77, 78, 79, 80, 81, 82, 83, 84, 85, 86, 87, 88, 89, 90, 91, 92, 93, 94, 95, 96, 97, 98, 99, 100, 101, 102, 103, 104, 105, 106, 107, 108, 109, 110, 111, 112, 113, 114] (by decide +kernel) (by decide +kernel)
set_option maxRecDepth 20000 in
theorem gX7_byteStep_X7_judged : GoodIn wsX7_byteStep (wsV RX7 173 RX7 yX7_judged wsX7_judged) := goodIn_app (goodIn_of _ (by decide +kernel)) ggX7_byteStep_X7_judged
set_option maxRecDepth 20000 in
theorem ggX7_byteStep_X7_compare : GoodIn wsX7_byteStep wsX7_compare := goodIn_r _ [63, 51, 52, 53, 10, 54, 55, 56, 57, 58, 59, 74, 75, 76, 77, 78, 79, 80, 81, 82, 83, 84, 85, 86, 87, 88, 89, 90, 91, 92, 93, 94, 95, 96, 97, 98, 99, 100, 101, 102, 103, 104, 105, 106, 107, 108, 109, 110, 111, 112, 113, 114] (by decide +kernel) (by decide +kernel)
set_option maxRecDepth 20000 in
theorem gX7_byteStep_X7_compare : GoodIn wsX7_byteStep (wsV RX7 179 RX7 yX7_compare wsX7_compare) := goodIn_app (goodIn_of _ (by decide +kernel)) ggX7_byteStep_X7_compare
set_option maxRecDepth 20000 in
theorem ggX7_byteStep_X7_write : GoodIn wsX7_byteStep wsX7_write := goodIn_r _ [67, 18, 19, 24, 50, 20, 21, 22, 10, 23, 68, 69, 70, 71, 31, 30, 33, 72, 73, 34, 35, 37, 32, 74, 75, 76, 77, 78, 79, 80, 81, 82, 83, 84, 85, 86, 87, 88, 89, 90, 91, 92, 93, 94, 95, 96, 97, 98, 99, 100, 101, 102, 103, 104, 105, 106, 107, 108, 109, 110, 111, 112, 113, 114] (by decide +kernel) (by decide +kernel)
set_option maxRecDepth 20000 in
theorem gX7_byteStep_X7_write : GoodIn wsX7_byteStep (wsV RX7 164 RX7 yX7_write wsX7_write) := goodIn_app (goodIn_of _ (by decide +kernel)) ggX7_byteStep_X7_write
set_option maxRecDepth 20000 in
theorem ggX7_byteStep_X7_read : GoodIn wsX7_byteStep wsX7_read := goodIn_r _ [17, 18, 19, 20, 21, 22, 10, 23, 24, 25, 26, 27, 28, 29, 30, 31, 32, 33, 34, 35, 36, 37, 38, 39, 40, 41, 42, 43, 44, 45, 46, 47, 48, 49, 50, 74, 75, 76, 77, 78, 79, 80, 81, 82, 83, 84, 85, 86, 87, 88, 89, 90, 91, 92, 93, 94, 95, 96, 97, 98, 99, 100, 101, 102, 103, 104, 105, 106, 107, 108, 109, 110, 111, 112, 113, 114] (by decide +kernel) (by decide +kernel)
set_option maxRecDepth 20000 in
theorem gX7_byteStep_X7_read : GoodIn wsX7_byteStep (wsV RX7 161 RX7 yX7_read wsX7_read) := goodIn_app (goodIn_of _ (by decide +kernel)) ggX7_byteStep_X7_read
theorem dX7_byteStep_0 : decode cX7_byteStep 0 = .ok (.aload_n 0, 1) := by decide +kernel
theorem dX7_byteStep_1 : decode cX7_byteStep 1 = .ok (.getfield 148, 3) := by decide +kernel
theorem dX7_byteStep_4 : decode cX7_byteStep 4 = .ok (.iconst 1, 1) := by decide +kernel
theorem dX7_byteStep_5 : decode cX7_byteStep 5 = .ok (.if_icmp .ne 164, 3) := by decide +kernel
theorem dX7_byteStep_8 : decode cX7_byteStep 8 = .ok (.aload_n 0, 1) := by decide +kernel
theorem dX7_byteStep_9 : decode cX7_byteStep 9 = .ok (.aload_n 0, 1) := by decide +kernel
theorem dX7_byteStep_10 : decode cX7_byteStep 10 = .ok (.invokevirtual 185, 3) := by decide +kernel
theorem dX7_byteStep_13 : decode cX7_byteStep 13 = .ok (.putfield 188, 3) := by decide +kernel
theorem dX7_byteStep_16 : decode cX7_byteStep 16 = .ok (.aload_n 0, 1) := by decide +kernel
theorem dX7_byteStep_17 : decode cX7_byteStep 17 = .ok (.iconst 2, 1) := by decide +kernel
theorem dX7_byteStep_18 : decode cX7_byteStep 18 = .ok (.putfield 148, 3) := by decide +kernel
theorem dX7_byteStep_21 : decode cX7_byteStep 21 = .ok (.aload_n 0, 1) := by decide +kernel
theorem dX7_byteStep_22 : decode cX7_byteStep 22 = .ok (.getfield 167, 3) := by decide +kernel
theorem dX7_byteStep_25 : decode cX7_byteStep 25 = .ok (.sipush 162, 3) := by decide +kernel
theorem dX7_byteStep_28 : decode cX7_byteStep 28 = .ok (.if_icmp .eq 33, 3) := by decide +kernel
theorem dX7_byteStep_31 : decode cX7_byteStep 31 = .ok (.aload_n 0, 1) := by decide +kernel
theorem dX7_byteStep_32 : decode cX7_byteStep 32 = .ok (.getfield 167, 3) := by decide +kernel
theorem dX7_byteStep_35 : decode cX7_byteStep 35 = .ok (.sipush 160, 3) := by decide +kernel
theorem dX7_byteStep_38 : decode cX7_byteStep 38 = .ok (.if_icmp .eq 23, 3) := by decide +kernel
theorem dX7_byteStep_41 : decode cX7_byteStep 41 = .ok (.aload_n 0, 1) := by decide +kernel
theorem dX7_byteStep_42 : decode cX7_byteStep 42 = .ok (.getfield 167, 3) := by decide +kernel
theorem dX7_byteStep_45 : decode cX7_byteStep 45 = .ok (.sipush 224, 3) := by decide +kernel
theorem dX7_byteStep_48 : decode cX7_byteStep 48 = .ok (.if_icmp .eq 13, 3) := by decide +kernel
theorem dX7_byteStep_51 : decode cX7_byteStep 51 = .ok (.aload_n 0, 1) := by decide +kernel
theorem dX7_byteStep_52 : decode cX7_byteStep 52 = .ok (.getfield 167, 3) := by decide +kernel
theorem dX7_byteStep_55 : decode cX7_byteStep 55 = .ok (.sipush 192, 3) := by decide +kernel
theorem dX7_byteStep_58 : decode cX7_byteStep 58 = .ok (.if_icmp .ne 7, 3) := by decide +kernel
theorem dX7_byteStep_61 : decode cX7_byteStep 61 = .ok (.iconst 1, 1) := by decide +kernel
theorem dX7_byteStep_62 : decode cX7_byteStep 62 = .ok (.goto 4, 3) := by decide +kernel
theorem dX7_byteStep_65 : decode cX7_byteStep 65 = .ok (.iconst 0, 1) := by decide +kernel
theorem dX7_byteStep_66 : decode cX7_byteStep 66 = .ok (.istore_n 1, 1) := by decide +kernel
theorem dX7_byteStep_67 : decode cX7_byteStep 67 = .ok (.aload_n 0, 1) := by decide +kernel
theorem dX7_byteStep_68 : decode cX7_byteStep 68 = .ok (.getfield 167, 3) := by decide +kernel
theorem dX7_byteStep_71 : decode cX7_byteStep 71 = .ok (.sipush 162, 3) := by decide +kernel
theorem dX7_byteStep_74 : decode cX7_byteStep 74 = .ok (.if_icmp .ne 15, 3) := by decide +kernel
theorem dX7_byteStep_77 : decode cX7_byteStep 77 = .ok (.aload_n 0, 1) := by decide +kernel
theorem dX7_byteStep_78 : decode cX7_byteStep 78 = .ok (.aload_n 0, 1) := by decide +kernel
theorem dX7_byteStep_79 : decode cX7_byteStep 79 = .ok (.aload_n 0, 1) := by decide +kernel
theorem dX7_byteStep_80 : decode cX7_byteStep 80 = .ok (.getfield 188, 3) := by decide +kernel
theorem dX7_byteStep_83 : decode cX7_byteStep 83 = .ok (.invokevirtual 173, 3) := by decide +kernel
theorem dX7_byteStep_86 : decode cX7_byteStep 86 = .ok (.putfield 139, 3) := by decide +kernel
theorem dX7_byteStep_89 : decode cX7_byteStep 89 = .ok (.aload_n 0, 1) := by decide +kernel
theorem dX7_byteStep_90 : decode cX7_byteStep 90 = .ok (.getfield 167, 3) := by decide +kernel
theorem dX7_byteStep_93 : decode cX7_byteStep 93 = .ok (.sipush 160, 3) := by decide +kernel
theorem dX7_byteStep_96 : decode cX7_byteStep 96 = .ok (.if_icmp .ne 15, 3) := by decide +kernel
theorem dX7_byteStep_99 : decode cX7_byteStep 99 = .ok (.aload_n 0, 1) := by decide +kernel
theorem dX7_byteStep_100 : decode cX7_byteStep 100 = .ok (.aload_n 0, 1) := by decide +kernel
theorem dX7_byteStep_101 : decode cX7_byteStep 101 = .ok (.aload_n 0, 1) := by decide +kernel
theorem dX7_byteStep_102 : decode cX7_byteStep 102 = .ok (.getfield 188, 3) := by decide +kernel
theorem dX7_byteStep_105 : decode cX7_byteStep 105 = .ok (.invokevirtual 173, 3) := by decide +kernel
theorem dX7_byteStep_108 : decode cX7_byteStep 108 = .ok (.putfield 142, 3) := by decide +kernel
theorem dX7_byteStep_111 : decode cX7_byteStep 111 = .ok (.aload_n 0, 1) := by decide +kernel
theorem dX7_byteStep_112 : decode cX7_byteStep 112 = .ok (.getfield 167, 3) := by decide +kernel
theorem dX7_byteStep_115 : decode cX7_byteStep 115 = .ok (.sipush 224, 3) := by decide +kernel
theorem dX7_byteStep_118 : decode cX7_byteStep 118 = .ok (.if_icmp .ne 15, 3) := by decide +kernel
theorem dX7_byteStep_121 : decode cX7_byteStep 121 = .ok (.aload_n 0, 1) := by decide +kernel
theorem dX7_byteStep_122 : decode cX7_byteStep 122 = .ok (.aload_n 0, 1) := by decide +kernel
theorem dX7_byteStep_123 : decode cX7_byteStep 123 = .ok (.getfield 139, 3) := by decide +kernel
theorem dX7_byteStep_126 : decode cX7_byteStep 126 = .ok (.aload_n 0, 1) := by decide +kernel
theorem dX7_byteStep_127 : decode cX7_byteStep 127 = .ok (.getfield 188, 3) := by decide +kernel
theorem dX7_byteStep_130 : decode cX7_byteStep 130 = .ok (.invokevirtual 179, 3) := by decide +kernel
theorem dX7_byteStep_133 : decode cX7_byteStep 133 = .ok (.aload_n 0, 1) := by decide +kernel
theorem dX7_byteStep_134 : decode cX7_byteStep 134 = .ok (.getfield 167, 3) := by decide +kernel
theorem dX7_byteStep_137 : decode cX7_byteStep 137 = .ok (.sipush 192, 3) := by decide +kernel
theorem dX7_byteStep_140 : decode cX7_byteStep 140 = .ok (.if_icmp .ne 15, 3) := by decide +kernel
theorem dX7_byteStep_143 : decode cX7_byteStep 143 = .ok (.aload_n 0, 1) := by decide +kernel
theorem dX7_byteStep_144 : decode cX7_byteStep 144 = .ok (.aload_n 0, 1) := by decide +kernel
theorem dX7_byteStep_145 : decode cX7_byteStep 145 = .ok (.getfield 142, 3) := by decide +kernel
theorem dX7_byteStep_148 : decode cX7_byteStep 148 = .ok (.aload_n 0, 1) := by decide +kernel
theorem dX7_byteStep_149 : decode cX7_byteStep 149 = .ok (.getfield 188, 3) := by decide +kernel
theorem dX7_byteStep_152 : decode cX7_byteStep 152 = .ok (.invokevirtual 179, 3) := by decide +kernel
theorem dX7_byteStep_155 : decode cX7_byteStep 155 = .ok (.aload_n 0, 1) := by decide +kernel
theorem dX7_byteStep_156 : decode cX7_byteStep 156 = .ok (.iload_n 1, 1) := by decide +kernel
theorem dX7_byteStep_157 : decode cX7_byteStep 157 = .ok (.ifCond .eq 7, 3) := by decide +kernel
theorem dX7_byteStep_160 : decode cX7_byteStep 160 = .ok (.iconst 0, 1) := by decide +kernel
theorem dX7_byteStep_161 : decode cX7_byteStep 161 = .ok (.goto 4, 3) := by decide +kernel
theorem dX7_byteStep_164 : decode cX7_byteStep 164 = .ok (.iconst 2, 1) := by decide +kernel
theorem dX7_byteStep_165 : decode cX7_byteStep 165 = .ok (.putfield 148, 3) := by decide +kernel
theorem dX7_byteStep_168 : decode cX7_byteStep 168 = .ok (.return_, 1) := by decide +kernel
theorem dX7_byteStep_169 : decode cX7_byteStep 169 = .ok (.aload_n 0, 1) := by decide +kernel
theorem dX7_byteStep_170 : decode cX7_byteStep 170 = .ok (.getfield 167, 3) := by decide +kernel
theorem dX7_byteStep_173 : decode cX7_byteStep 173 = .ok (.sipush 134, 3) := by decide +kernel
theorem dX7_byteStep_176 : decode cX7_byteStep 176 = .ok (.if_icmp .eq 13, 3) := by decide +kernel
theorem dX7_byteStep_179 : decode cX7_byteStep 179 = .ok (.aload_n 0, 1) := by decide +kernel
theorem dX7_byteStep_180 : decode cX7_byteStep 180 = .ok (.getfield 167, 3) := by decide +kernel
theorem dX7_byteStep_183 : decode cX7_byteStep 183 = .ok (.sipush 132, 3) := by decide +kernel
theorem dX7_byteStep_186 : decode cX7_byteStep 186 = .ok (.if_icmp .ne 35, 3) := by decide +kernel
theorem dX7_byteStep_189 : decode cX7_byteStep 189 = .ok (.aload_n 0, 1) := by decide +kernel
theorem dX7_byteStep_190 : decode cX7_byteStep 190 = .ok (.aload_n 0, 1) := by decide +kernel
theorem dX7_byteStep_191 : decode cX7_byteStep 191 = .ok (.getfield 188, 3) := by decide +kernel
theorem dX7_byteStep_194 : decode cX7_byteStep 194 = .ok (.aload_n 0, 1) := by decide +kernel
theorem dX7_byteStep_195 : decode cX7_byteStep 195 = .ok (.getfield 167, 3) := by decide +kernel
theorem dX7_byteStep_198 : decode cX7_byteStep 198 = .ok (.sipush 134, 3) := by decide +kernel
theorem dX7_byteStep_201 : decode cX7_byteStep 201 = .ok (.if_icmp .ne 10, 3) := by decide +kernel
theorem dX7_byteStep_204 : decode cX7_byteStep 204 = .ok (.aload_n 0, 1) := by decide +kernel
theorem dX7_byteStep_205 : decode cX7_byteStep 205 = .ok (.getfield 139, 3) := by decide +kernel
theorem dX7_byteStep_208 : decode cX7_byteStep 208 = .ok (.goto 7, 3) := by decide +kernel
theorem dX7_byteStep_211 : decode cX7_byteStep 211 = .ok (.aload_n 0, 1) := by decide +kernel
theorem dX7_byteStep_212 : decode cX7_byteStep 212 = .ok (.getfield 142, 3) := by decide +kernel
theorem dX7_byteStep_215 : decode cX7_byteStep 215 = .ok (.invokevirtual 164, 3) := by decide +kernel
theorem dX7_byteStep_218 : decode cX7_byteStep 218 = .ok (.goto 96, 3) := by decide +kernel
theorem dX7_byteStep_221 : decode cX7_byteStep 221 = .ok (.aload_n 0, 1) := by decide +kernel
theorem dX7_byteStep_222 : decode cX7_byteStep 222 = .ok (.getfield 148, 3) := by decide +kernel
theorem dX7_byteStep_225 : decode cX7_byteStep 225 = .ok (.iconst 2, 1) := by decide +kernel
theorem dX7_byteStep_226 : decode cX7_byteStep 226 = .ok (.if_icmp .ne 18, 3) := by decide +kernel
theorem dX7_byteStep_229 : decode cX7_byteStep 229 = .ok (.aload_n 0, 1) := by decide +kernel
theorem dX7_byteStep_230 : decode cX7_byteStep 230 = .ok (.aload_n 0, 1) := by decide +kernel
theorem dX7_byteStep_231 : decode cX7_byteStep 231 = .ok (.aload_n 0, 1) := by decide +kernel
theorem dX7_byteStep_232 : decode cX7_byteStep 232 = .ok (.getfield 188, 3) := by decide +kernel
theorem dX7_byteStep_235 : decode cX7_byteStep 235 = .ok (.invokevirtual 161, 3) := by decide +kernel
theorem dX7_byteStep_238 : decode cX7_byteStep 238 = .ok (.putfield 197, 3) := by decide +kernel
theorem dX7_byteStep_241 : decode cX7_byteStep 241 = .ok (.goto 73, 3) := by decide +kernel
theorem dX7_byteStep_244 : decode cX7_byteStep 244 = .ok (.aload_n 0, 1) := by decide +kernel
theorem dX7_byteStep_245 : decode cX7_byteStep 245 = .ok (.getfield 148, 3) := by decide +kernel
theorem dX7_byteStep_248 : decode cX7_byteStep 248 = .ok (.iconst 3, 1) := by decide +kernel
theorem dX7_byteStep_249 : decode cX7_byteStep 249 = .ok (.if_icmp .ne 18, 3) := by decide +kernel
theorem dX7_byteStep_252 : decode cX7_byteStep 252 = .ok (.aload_n 0, 1) := by decide +kernel
theorem dX7_byteStep_253 : decode cX7_byteStep 253 = .ok (.aload_n 0, 1) := by decide +kernel
theorem dX7_byteStep_254 : decode cX7_byteStep 254 = .ok (.getfield 188, 3) := by decide +kernel
theorem dX7_byteStep_257 : decode cX7_byteStep 257 = .ok (.aload_n 0, 1) := by decide +kernel
theorem dX7_byteStep_258 : decode cX7_byteStep 258 = .ok (.getfield 197, 3) := by decide +kernel
theorem dX7_byteStep_261 : decode cX7_byteStep 261 = .ok (.invokevirtual 164, 3) := by decide +kernel
theorem dX7_byteStep_264 : decode cX7_byteStep 264 = .ok (.goto 50, 3) := by decide +kernel
theorem dX7_byteStep_267 : decode cX7_byteStep 267 = .ok (.aload_n 0, 1) := by decide +kernel
theorem dX7_byteStep_268 : decode cX7_byteStep 268 = .ok (.aload_n 0, 1) := by decide +kernel
theorem dX7_byteStep_269 : decode cX7_byteStep 269 = .ok (.getfield 188, 3) := by decide +kernel
theorem dX7_byteStep_272 : decode cX7_byteStep 272 = .ok (.aload_n 0, 1) := by decide +kernel
theorem dX7_byteStep_273 : decode cX7_byteStep 273 = .ok (.aload_n 0, 1) := by decide +kernel
theorem dX7_byteStep_274 : decode cX7_byteStep 274 = .ok (.getfield 167, 3) := by decide +kernel
theorem dX7_byteStep_277 : decode cX7_byteStep 277 = .ok (.sipush 230, 3) := by decide +kernel
theorem dX7_byteStep_280 : decode cX7_byteStep 280 = .ok (.if_icmp .ne 16, 3) := by decide +kernel
theorem dX7_byteStep_283 : decode cX7_byteStep 283 = .ok (.aload_n 0, 1) := by decide +kernel
theorem dX7_byteStep_284 : decode cX7_byteStep 284 = .ok (.getfield 197, 3) := by decide +kernel
theorem dX7_byteStep_287 : decode cX7_byteStep 287 = .ok (.iconst 1, 1) := by decide +kernel
theorem dX7_byteStep_288 : decode cX7_byteStep 288 = .ok (.iadd, 1) := by decide +kernel
theorem dX7_byteStep_289 : decode cX7_byteStep 289 = .ok (.sipush 255, 3) := by decide +kernel
theorem dX7_byteStep_292 : decode cX7_byteStep 292 = .ok (.iand, 1) := by decide +kernel
theorem dX7_byteStep_293 : decode cX7_byteStep 293 = .ok (.goto 15, 3) := by decide +kernel
theorem dX7_byteStep_296 : decode cX7_byteStep 296 = .ok (.aload_n 0, 1) := by decide +kernel
theorem dX7_byteStep_297 : decode cX7_byteStep 297 = .ok (.getfield 197, 3) := by decide +kernel
theorem dX7_byteStep_300 : decode cX7_byteStep 300 = .ok (.sipush 255, 3) := by decide +kernel
theorem dX7_byteStep_303 : decode cX7_byteStep 303 = .ok (.iadd, 1) := by decide +kernel
theorem dX7_byteStep_304 : decode cX7_byteStep 304 = .ok (.sipush 255, 3) := by decide +kernel
theorem dX7_byteStep_307 : decode cX7_byteStep 307 = .ok (.iand, 1) := by decide +kernel
theorem dX7_byteStep_308 : decode cX7_byteStep 308 = .ok (.invokevirtual 173, 3) := by decide +kernel
theorem dX7_byteStep_311 : decode cX7_byteStep 311 = .ok (.invokevirtual 164, 3) := by decide +kernel
theorem dX7_byteStep_314 : decode cX7_byteStep 314 = .ok (.aload_n 0, 1) := by decide +kernel
theorem dX7_byteStep_315 : decode cX7_byteStep 315 = .ok (.getfield 167, 3) := by decide +kernel
theorem dX7_byteStep_318 : decode cX7_byteStep 318 = .ok (.sipush 230, 3) := by decide +kernel
theorem dX7_byteStep_321 : decode cX7_byteStep 321 = .ok (.if_icmp .eq 13, 3) := by decide +kernel
theorem dX7_byteStep_324 : decode cX7_byteStep 324 = .ok (.aload_n 0, 1) := by decide +kernel
theorem dX7_byteStep_325 : decode cX7_byteStep 325 = .ok (.getfield 167, 3) := by decide +kernel
theorem dX7_byteStep_328 : decode cX7_byteStep 328 = .ok (.sipush 198, 3) := by decide +kernel
theorem dX7_byteStep_331 : decode cX7_byteStep 331 = .ok (.if_icmp .ne 15, 3) := by decide +kernel
theorem dX7_byteStep_334 : decode cX7_byteStep 334 = .ok (.aload_n 0, 1) := by decide +kernel
theorem dX7_byteStep_335 : decode cX7_byteStep 335 = .ok (.getfield 148, 3) := by decide +kernel
theorem dX7_byteStep_338 : decode cX7_byteStep 338 = .ok (.iconst 4, 1) := by decide +kernel
theorem dX7_byteStep_339 : decode cX7_byteStep 339 = .ok (.if_icmp .ge 7, 3) := by decide +kernel
theorem dX7_byteStep_342 : decode cX7_byteStep 342 = .ok (.iconst 1, 1) := by decide +kernel
theorem dX7_byteStep_343 : decode cX7_byteStep 343 = .ok (.goto 4, 3) := by decide +kernel
theorem dX7_byteStep_346 : decode cX7_byteStep 346 = .ok (.iconst 0, 1) := by decide +kernel
theorem dX7_byteStep_347 : decode cX7_byteStep 347 = .ok (.istore_n 1, 1) := by decide +kernel
theorem dX7_byteStep_348 : decode cX7_byteStep 348 = .ok (.aload_n 0, 1) := by decide +kernel
theorem dX7_byteStep_349 : decode cX7_byteStep 349 = .ok (.iload_n 1, 1) := by decide +kernel
theorem dX7_byteStep_350 : decode cX7_byteStep 350 = .ok (.ifCond .eq 12, 3) := by decide +kernel
theorem dX7_byteStep_353 : decode cX7_byteStep 353 = .ok (.aload_n 0, 1) := by decide +kernel
theorem dX7_byteStep_354 : decode cX7_byteStep 354 = .ok (.getfield 148, 3) := by decide +kernel
theorem dX7_byteStep_357 : decode cX7_byteStep 357 = .ok (.iconst 1, 1) := by decide +kernel
theorem dX7_byteStep_358 : decode cX7_byteStep 358 = .ok (.iadd, 1) := by decide +kernel
theorem dX7_byteStep_359 : decode cX7_byteStep 359 = .ok (.goto 4, 3) := by decide +kernel
theorem dX7_byteStep_362 : decode cX7_byteStep 362 = .ok (.iconst 0, 1) := by decide +kernel
theorem dX7_byteStep_363 : decode cX7_byteStep 363 = .ok (.putfield 148, 3) := by decide +kernel
theorem dX7_byteStep_366 : decode cX7_byteStep 366 = .ok (.return_, 1) := by decide +kernel
set_option maxRecDepth 20000 in
theorem ggX7_plainStep_X7_read : GoodIn wsX7_plainStep wsX7_read := goodIn_r _ [11, 12, 13, 14, 15, 16, 10, 17, 18, 19, 20, 21, 22, 23, 24, 25, 26, 27, 28, 29, 30, 31, 32, 33, 34, 35, 36, 37, 38, 39, 40, 41, 42, 43, 44, 54, 55, 56, 57, 58, 59, 60, 61, 62, 63, 64, 65, 66, 67, 68, 69, 70, 71, 72, 73, 74, 75, 76, 77, 78, 79, 80, 81, 82, 83, 84, 85, 86, 87, 88, 89, 90, 91, 92, 93, 94] (by decide +kernel) (by decide +kernel)
set_option maxRecDepth 20000 in
theorem gX7_plainStep_X7_read : GoodIn wsX7_plainStep (wsV RX7 161 RX7 yX7_read wsX7_read) := goodIn_app (goodIn_of _ (by decide +kernel)) ggX7_plainStep_X7_read
set_option maxRecDepth 20000 in
theorem ggX7_plainStep_X7_put : GoodIn wsX7_plainStep wsX7_put := goodIn_r _ [48, 49, 54, 55, 56, 57, 58, 59, 60, 61, 62, 63, 64, 65, 66, 67, 68, 69, 70, 71, 72, 73, 74, 75, 76, 77, 78, 79, 80, 81, 82, 83, 84, 85, 86, 87, 88, 89, 90, 91, 92, 93, 94] (by decide +kernel) (by decide +kernel)
set_option maxRecDepth 20000 in
theorem gX7_plainStep_X7_put : GoodIn wsX7_plainStep (wsV RX7 157 RX7 yX7_put wsX7_put) := goodIn_app (goodIn_of _ (by decide +kernel)) ggX7_plainStep_X7_put
set_option maxRecDepth 20000 in
theorem ggX7_plainStep_X7_judged : GoodIn wsX7_plainStep wsX7_judged := goodIn_r _ [53, 45, 46, 47, 10, 48, 49, 54, 55, 56, 57, 58, 59, 60, 61, 62, 63, 64, 65, 66, 67, 68, 69, 70, 71, 72, 73, 74, 75, 76, 77, 78, 79, 80, 81, 82, 83, 84, 85, 86, 87, 88, 89, 90, 91, 92, 93, 94] (by decide +kernel) (by decide +kernel)
set_option maxRecDepth 20000 in
theorem gX7_plainStep_X7_judged : GoodIn wsX7_plainStep (wsV RX7 173 RX7 yX7_judged wsX7_judged) := goodIn_app (goodIn_of _ (by decide +kernel)) ggX7_plainStep_X7_judged
theorem dX7_plainStep_0 : decode cX7_plainStep 0 = .ok (.aload_n 0, 1) := by decide +kernel
theorem dX7_plainStep_1 : decode cX7_plainStep 1 = .ok (.aload_n 0, 1) := by decide +kernel
theorem dX7_plainStep_2 : decode cX7_plainStep 2 = .ok (.getfield 145, 3) := by decide +kernel
theorem dX7_plainStep_5 : decode cX7_plainStep 5 = .ok (.invokevirtual 161, 3) := by decide +kernel
theorem dX7_plainStep_8 : decode cX7_plainStep 8 = .ok (.pop, 1) := by decide +kernel
theorem dX7_plainStep_9 : decode cX7_plainStep 9 = .ok (.aload_n 0, 1) := by decide +kernel
theorem dX7_plainStep_10 : decode cX7_plainStep 10 = .ok (.iconst 0, 1) := by decide +kernel
theorem dX7_plainStep_11 : decode cX7_plainStep 11 = .ok (.putfield 148, 3) := by decide +kernel
theorem dX7_plainStep_14 : decode cX7_plainStep 14 = .ok (.aload_n 0, 1) := by decide +kernel
theorem dX7_plainStep_15 : decode cX7_plainStep 15 = .ok (.getfield 167, 3) := by decide +kernel
theorem dX7_plainStep_18 : decode cX7_plainStep 18 = .ok (.istore_n 1, 1) := by decide +kernel
theorem dX7_plainStep_19 : decode cX7_plainStep 19 = .ok (.iload_n 1, 1) := by decide +kernel
theorem dX7_plainStep_20 : decode cX7_plainStep 20 = .ok (.bipush 24, 2) := by decide +kernel
theorem dX7_plainStep_22 : decode cX7_plainStep 22 = .ok (.if_icmp .eq 9, 3) := by decide +kernel
theorem dX7_plainStep_25 : decode cX7_plainStep 25 = .ok (.iload_n 1, 1) := by decide +kernel
theorem dX7_plainStep_26 : decode cX7_plainStep 26 = .ok (.bipush 56, 2) := by decide +kernel
theorem dX7_plainStep_28 : decode cX7_plainStep 28 = .ok (.if_icmp .ne 19, 3) := by decide +kernel
theorem dX7_plainStep_31 : decode cX7_plainStep 31 = .ok (.aload_n 0, 1) := by decide +kernel
theorem dX7_plainStep_32 : decode cX7_plainStep 32 = .ok (.iconst 1, 1) := by decide +kernel
theorem dX7_plainStep_33 : decode cX7_plainStep 33 = .ok (.iload_n 1, 1) := by decide +kernel
theorem dX7_plainStep_34 : decode cX7_plainStep 34 = .ok (.bipush 56, 2) := by decide +kernel
theorem dX7_plainStep_36 : decode cX7_plainStep 36 = .ok (.if_icmp .ne 7, 3) := by decide +kernel
theorem dX7_plainStep_39 : decode cX7_plainStep 39 = .ok (.iconst 1, 1) := by decide +kernel
theorem dX7_plainStep_40 : decode cX7_plainStep 40 = .ok (.goto 4, 3) := by decide +kernel
theorem dX7_plainStep_43 : decode cX7_plainStep 43 = .ok (.iconst 0, 1) := by decide +kernel
theorem dX7_plainStep_44 : decode cX7_plainStep 44 = .ok (.invokevirtual 157, 3) := by decide +kernel
theorem dX7_plainStep_47 : decode cX7_plainStep 47 = .ok (.iload_n 1, 1) := by decide +kernel
theorem dX7_plainStep_48 : decode cX7_plainStep 48 = .ok (.bipush 88, 2) := by decide +kernel
theorem dX7_plainStep_50 : decode cX7_plainStep 50 = .ok (.if_icmp .eq 9, 3) := by decide +kernel
theorem dX7_plainStep_53 : decode cX7_plainStep 53 = .ok (.iload_n 1, 1) := by decide +kernel
theorem dX7_plainStep_54 : decode cX7_plainStep 54 = .ok (.bipush 120, 2) := by decide +kernel
theorem dX7_plainStep_56 : decode cX7_plainStep 56 = .ok (.if_icmp .ne 19, 3) := by decide +kernel
theorem dX7_plainStep_59 : decode cX7_plainStep 59 = .ok (.aload_n 0, 1) := by decide +kernel
theorem dX7_plainStep_60 : decode cX7_plainStep 60 = .ok (.iconst 4, 1) := by decide +kernel
theorem dX7_plainStep_61 : decode cX7_plainStep 61 = .ok (.iload_n 1, 1) := by decide +kernel
theorem dX7_plainStep_62 : decode cX7_plainStep 62 = .ok (.bipush 120, 2) := by decide +kernel
theorem dX7_plainStep_64 : decode cX7_plainStep 64 = .ok (.if_icmp .ne 7, 3) := by decide +kernel
theorem dX7_plainStep_67 : decode cX7_plainStep 67 = .ok (.iconst 1, 1) := by decide +kernel
theorem dX7_plainStep_68 : decode cX7_plainStep 68 = .ok (.goto 4, 3) := by decide +kernel
theorem dX7_plainStep_71 : decode cX7_plainStep 71 = .ok (.iconst 0, 1) := by decide +kernel
theorem dX7_plainStep_72 : decode cX7_plainStep 72 = .ok (.invokevirtual 157, 3) := by decide +kernel
theorem dX7_plainStep_75 : decode cX7_plainStep 75 = .ok (.iload_n 1, 1) := by decide +kernel
theorem dX7_plainStep_76 : decode cX7_plainStep 76 = .ok (.sipush 216, 3) := by decide +kernel
theorem dX7_plainStep_79 : decode cX7_plainStep 79 = .ok (.if_icmp .eq 10, 3) := by decide +kernel
theorem dX7_plainStep_82 : decode cX7_plainStep 82 = .ok (.iload_n 1, 1) := by decide +kernel
theorem dX7_plainStep_83 : decode cX7_plainStep 83 = .ok (.sipush 248, 3) := by decide +kernel
theorem dX7_plainStep_86 : decode cX7_plainStep 86 = .ok (.if_icmp .ne 21, 3) := by decide +kernel
theorem dX7_plainStep_89 : decode cX7_plainStep 89 = .ok (.aload_n 0, 1) := by decide +kernel
theorem dX7_plainStep_90 : decode cX7_plainStep 90 = .ok (.bipush 8, 2) := by decide +kernel
theorem dX7_plainStep_92 : decode cX7_plainStep 92 = .ok (.iload_n 1, 1) := by decide +kernel
theorem dX7_plainStep_93 : decode cX7_plainStep 93 = .ok (.sipush 248, 3) := by decide +kernel
theorem dX7_plainStep_96 : decode cX7_plainStep 96 = .ok (.if_icmp .ne 7, 3) := by decide +kernel
theorem dX7_plainStep_99 : decode cX7_plainStep 99 = .ok (.iconst 1, 1) := by decide +kernel
theorem dX7_plainStep_100 : decode cX7_plainStep 100 = .ok (.goto 4, 3) := by decide +kernel
theorem dX7_plainStep_103 : decode cX7_plainStep 103 = .ok (.iconst 0, 1) := by decide +kernel
theorem dX7_plainStep_104 : decode cX7_plainStep 104 = .ok (.invokevirtual 157, 3) := by decide +kernel
theorem dX7_plainStep_107 : decode cX7_plainStep 107 = .ok (.iload_n 1, 1) := by decide +kernel
theorem dX7_plainStep_108 : decode cX7_plainStep 108 = .ok (.sipush 170, 3) := by decide +kernel
theorem dX7_plainStep_111 : decode cX7_plainStep 111 = .ok (.if_icmp .ne 15, 3) := by decide +kernel
theorem dX7_plainStep_114 : decode cX7_plainStep 114 = .ok (.aload_n 0, 1) := by decide +kernel
theorem dX7_plainStep_115 : decode cX7_plainStep 115 = .ok (.aload_n 0, 1) := by decide +kernel
theorem dX7_plainStep_116 : decode cX7_plainStep 116 = .ok (.aload_n 0, 1) := by decide +kernel
theorem dX7_plainStep_117 : decode cX7_plainStep 117 = .ok (.getfield 136, 3) := by decide +kernel
theorem dX7_plainStep_120 : decode cX7_plainStep 120 = .ok (.invokevirtual 173, 3) := by decide +kernel
theorem dX7_plainStep_123 : decode cX7_plainStep 123 = .ok (.putfield 139, 3) := by decide +kernel
theorem dX7_plainStep_126 : decode cX7_plainStep 126 = .ok (.iload_n 1, 1) := by decide +kernel
theorem dX7_plainStep_127 : decode cX7_plainStep 127 = .ok (.sipush 138, 3) := by decide +kernel
theorem dX7_plainStep_130 : decode cX7_plainStep 130 = .ok (.if_icmp .ne 15, 3) := by decide +kernel
theorem dX7_plainStep_133 : decode cX7_plainStep 133 = .ok (.aload_n 0, 1) := by decide +kernel
theorem dX7_plainStep_134 : decode cX7_plainStep 134 = .ok (.aload_n 0, 1) := by decide +kernel
theorem dX7_plainStep_135 : decode cX7_plainStep 135 = .ok (.aload_n 0, 1) := by decide +kernel
theorem dX7_plainStep_136 : decode cX7_plainStep 136 = .ok (.getfield 139, 3) := by decide +kernel
theorem dX7_plainStep_139 : decode cX7_plainStep 139 = .ok (.invokevirtual 173, 3) := by decide +kernel
theorem dX7_plainStep_142 : decode cX7_plainStep 142 = .ok (.putfield 136, 3) := by decide +kernel
theorem dX7_plainStep_145 : decode cX7_plainStep 145 = .ok (.iload_n 1, 1) := by decide +kernel
theorem dX7_plainStep_146 : decode cX7_plainStep 146 = .ok (.sipush 168, 3) := by decide +kernel
theorem dX7_plainStep_149 : decode cX7_plainStep 149 = .ok (.if_icmp .ne 15, 3) := by decide +kernel
theorem dX7_plainStep_152 : decode cX7_plainStep 152 = .ok (.aload_n 0, 1) := by decide +kernel
theorem dX7_plainStep_153 : decode cX7_plainStep 153 = .ok (.aload_n 0, 1) := by decide +kernel
theorem dX7_plainStep_154 : decode cX7_plainStep 154 = .ok (.aload_n 0, 1) := by decide +kernel
theorem dX7_plainStep_155 : decode cX7_plainStep 155 = .ok (.getfield 136, 3) := by decide +kernel
theorem dX7_plainStep_158 : decode cX7_plainStep 158 = .ok (.invokevirtual 173, 3) := by decide +kernel
theorem dX7_plainStep_161 : decode cX7_plainStep 161 = .ok (.putfield 142, 3) := by decide +kernel
theorem dX7_plainStep_164 : decode cX7_plainStep 164 = .ok (.iload_n 1, 1) := by decide +kernel
theorem dX7_plainStep_165 : decode cX7_plainStep 165 = .ok (.sipush 152, 3) := by decide +kernel
theorem dX7_plainStep_168 : decode cX7_plainStep 168 = .ok (.if_icmp .ne 15, 3) := by decide +kernel
theorem dX7_plainStep_171 : decode cX7_plainStep 171 = .ok (.aload_n 0, 1) := by decide +kernel
theorem dX7_plainStep_172 : decode cX7_plainStep 172 = .ok (.aload_n 0, 1) := by decide +kernel
theorem dX7_plainStep_173 : decode cX7_plainStep 173 = .ok (.aload_n 0, 1) := by decide +kernel
theorem dX7_plainStep_174 : decode cX7_plainStep 174 = .ok (.getfield 142, 3) := by decide +kernel
theorem dX7_plainStep_177 : decode cX7_plainStep 177 = .ok (.invokevirtual 173, 3) := by decide +kernel
theorem dX7_plainStep_180 : decode cX7_plainStep 180 = .ok (.putfield 136, 3) := by decide +kernel
theorem dX7_plainStep_183 : decode cX7_plainStep 183 = .ok (.iload_n 1, 1) := by decide +kernel
theorem dX7_plainStep_184 : decode cX7_plainStep 184 = .ok (.sipush 232, 3) := by decide +kernel
theorem dX7_plainStep_187 : decode cX7_plainStep 187 = .ok (.if_icmp .ne 21, 3) := by decide +kernel
theorem dX7_plainStep_190 : decode cX7_plainStep 190 = .ok (.aload_n 0, 1) := by decide +kernel
theorem dX7_plainStep_191 : decode cX7_plainStep 191 = .ok (.aload_n 0, 1) := by decide +kernel
theorem dX7_plainStep_192 : decode cX7_plainStep 192 = .ok (.aload_n 0, 1) := by decide +kernel
theorem dX7_plainStep_193 : decode cX7_plainStep 193 = .ok (.getfield 139, 3) := by decide +kernel
theorem dX7_plainStep_196 : decode cX7_plainStep 196 = .ok (.iconst 1, 1) := by decide +kernel
theorem dX7_plainStep_197 : decode cX7_plainStep 197 = .ok (.iadd, 1) := by decide +kernel
theorem dX7_plainStep_198 : decode cX7_plainStep 198 = .ok (.sipush 255, 3) := by decide +kernel
theorem dX7_plainStep_201 : decode cX7_plainStep 201 = .ok (.iand, 1) := by decide +kernel
theorem dX7_plainStep_202 : decode cX7_plainStep 202 = .ok (.invokevirtual 173, 3) := by decide +kernel
theorem dX7_plainStep_205 : decode cX7_plainStep 205 = .ok (.putfield 139, 3) := by decide +kernel
theorem dX7_plainStep_208 : decode cX7_plainStep 208 = .ok (.iload_n 1, 1) := by decide +kernel
theorem dX7_plainStep_209 : decode cX7_plainStep 209 = .ok (.sipush 200, 3) := by decide +kernel
theorem dX7_plainStep_212 : decode cX7_plainStep 212 = .ok (.if_icmp .ne 21, 3) := by decide +kernel
theorem dX7_plainStep_215 : decode cX7_plainStep 215 = .ok (.aload_n 0, 1) := by decide +kernel
theorem dX7_plainStep_216 : decode cX7_plainStep 216 = .ok (.aload_n 0, 1) := by decide +kernel
theorem dX7_plainStep_217 : decode cX7_plainStep 217 = .ok (.aload_n 0, 1) := by decide +kernel
theorem dX7_plainStep_218 : decode cX7_plainStep 218 = .ok (.getfield 142, 3) := by decide +kernel
theorem dX7_plainStep_221 : decode cX7_plainStep 221 = .ok (.iconst 1, 1) := by decide +kernel
theorem dX7_plainStep_222 : decode cX7_plainStep 222 = .ok (.iadd, 1) := by decide +kernel
theorem dX7_plainStep_223 : decode cX7_plainStep 223 = .ok (.sipush 255, 3) := by decide +kernel
theorem dX7_plainStep_226 : decode cX7_plainStep 226 = .ok (.iand, 1) := by decide +kernel
theorem dX7_plainStep_227 : decode cX7_plainStep 227 = .ok (.invokevirtual 173, 3) := by decide +kernel
theorem dX7_plainStep_230 : decode cX7_plainStep 230 = .ok (.putfield 142, 3) := by decide +kernel
theorem dX7_plainStep_233 : decode cX7_plainStep 233 = .ok (.iload_n 1, 1) := by decide +kernel
theorem dX7_plainStep_234 : decode cX7_plainStep 234 = .ok (.sipush 202, 3) := by decide +kernel
theorem dX7_plainStep_237 : decode cX7_plainStep 237 = .ok (.if_icmp .ne 23, 3) := by decide +kernel
theorem dX7_plainStep_240 : decode cX7_plainStep 240 = .ok (.aload_n 0, 1) := by decide +kernel
theorem dX7_plainStep_241 : decode cX7_plainStep 241 = .ok (.aload_n 0, 1) := by decide +kernel
theorem dX7_plainStep_242 : decode cX7_plainStep 242 = .ok (.aload_n 0, 1) := by decide +kernel
theorem dX7_plainStep_243 : decode cX7_plainStep 243 = .ok (.getfield 139, 3) := by decide +kernel
theorem dX7_plainStep_246 : decode cX7_plainStep 246 = .ok (.sipush 255, 3) := by decide +kernel
theorem dX7_plainStep_249 : decode cX7_plainStep 249 = .ok (.iadd, 1) := by decide +kernel
theorem dX7_plainStep_250 : decode cX7_plainStep 250 = .ok (.sipush 255, 3) := by decide +kernel
theorem dX7_plainStep_253 : decode cX7_plainStep 253 = .ok (.iand, 1) := by decide +kernel
theorem dX7_plainStep_254 : decode cX7_plainStep 254 = .ok (.invokevirtual 173, 3) := by decide +kernel
theorem dX7_plainStep_257 : decode cX7_plainStep 257 = .ok (.putfield 139, 3) := by decide +kernel
theorem dX7_plainStep_260 : decode cX7_plainStep 260 = .ok (.iload_n 1, 1) := by decide +kernel
theorem dX7_plainStep_261 : decode cX7_plainStep 261 = .ok (.sipush 136, 3) := by decide +kernel
theorem dX7_plainStep_264 : decode cX7_plainStep 264 = .ok (.if_icmp .ne 23, 3) := by decide +kernel
theorem dX7_plainStep_267 : decode cX7_plainStep 267 = .ok (.aload_n 0, 1) := by decide +kernel
theorem dX7_plainStep_268 : decode cX7_plainStep 268 = .ok (.aload_n 0, 1) := by decide +kernel
theorem dX7_plainStep_269 : decode cX7_plainStep 269 = .ok (.aload_n 0, 1) := by decide +kernel
theorem dX7_plainStep_270 : decode cX7_plainStep 270 = .ok (.getfield 142, 3) := by decide +kernel
theorem dX7_plainStep_273 : decode cX7_plainStep 273 = .ok (.sipush 255, 3) := by decide +kernel
theorem dX7_plainStep_276 : decode cX7_plainStep 276 = .ok (.iadd, 1) := by decide +kernel
theorem dX7_plainStep_277 : decode cX7_plainStep 277 = .ok (.sipush 255, 3) := by decide +kernel
theorem dX7_plainStep_280 : decode cX7_plainStep 280 = .ok (.iand, 1) := by decide +kernel
theorem dX7_plainStep_281 : decode cX7_plainStep 281 = .ok (.invokevirtual 173, 3) := by decide +kernel
theorem dX7_plainStep_284 : decode cX7_plainStep 284 = .ok (.putfield 142, 3) := by decide +kernel
theorem dX7_plainStep_287 : decode cX7_plainStep 287 = .ok (.iload_n 1, 1) := by decide +kernel
theorem dX7_plainStep_288 : decode cX7_plainStep 288 = .ok (.bipush 10, 2) := by decide +kernel
theorem dX7_plainStep_290 : decode cX7_plainStep 290 = .ok (.if_icmp .ne 20, 3) := by decide +kernel
theorem dX7_plainStep_293 : decode cX7_plainStep 293 = .ok (.aload_n 0, 1) := by decide +kernel
theorem dX7_plainStep_294 : decode cX7_plainStep 294 = .ok (.getfield 136, 3) := by decide +kernel
theorem dX7_plainStep_297 : decode cX7_plainStep 297 = .ok (.bipush 127, 2) := by decide +kernel
theorem dX7_plainStep_299 : decode cX7_plainStep 299 = .ok (.if_icmp .le 7, 3) := by decide +kernel
theorem dX7_plainStep_302 : decode cX7_plainStep 302 = .ok (.iconst 1, 1) := by decide +kernel
theorem dX7_plainStep_303 : decode cX7_plainStep 303 = .ok (.goto 22, 3) := by decide +kernel
theorem dX7_plainStep_306 : decode cX7_plainStep 306 = .ok (.iconst 0, 1) := by decide +kernel
theorem dX7_plainStep_307 : decode cX7_plainStep 307 = .ok (.goto 18, 3) := by decide +kernel
theorem dX7_plainStep_310 : decode cX7_plainStep 310 = .ok (.aload_n 0, 1) := by decide +kernel
theorem dX7_plainStep_311 : decode cX7_plainStep 311 = .ok (.getfield 136, 3) := by decide +kernel
theorem dX7_plainStep_314 : decode cX7_plainStep 314 = .ok (.iconst 1, 1) := by decide +kernel
theorem dX7_plainStep_315 : decode cX7_plainStep 315 = .ok (.iand, 1) := by decide +kernel
theorem dX7_plainStep_316 : decode cX7_plainStep 316 = .ok (.iconst 1, 1) := by decide +kernel
theorem dX7_plainStep_317 : decode cX7_plainStep 317 = .ok (.if_icmp .ne 7, 3) := by decide +kernel
theorem dX7_plainStep_320 : decode cX7_plainStep 320 = .ok (.iconst 1, 1) := by decide +kernel
theorem dX7_plainStep_321 : decode cX7_plainStep 321 = .ok (.goto 4, 3) := by decide +kernel
theorem dX7_plainStep_324 : decode cX7_plainStep 324 = .ok (.iconst 0, 1) := by decide +kernel
theorem dX7_plainStep_325 : decode cX7_plainStep 325 = .ok (.istore_n 2, 1) := by decide +kernel
theorem dX7_plainStep_326 : decode cX7_plainStep 326 = .ok (.iload_n 1, 1) := by decide +kernel
theorem dX7_plainStep_327 : decode cX7_plainStep 327 = .ok (.bipush 10, 2) := by decide +kernel
theorem dX7_plainStep_329 : decode cX7_plainStep 329 = .ok (.if_icmp .ne 21, 3) := by decide +kernel
theorem dX7_plainStep_332 : decode cX7_plainStep 332 = .ok (.aload_n 0, 1) := by decide +kernel
theorem dX7_plainStep_333 : decode cX7_plainStep 333 = .ok (.aload_n 0, 1) := by decide +kernel
theorem dX7_plainStep_334 : decode cX7_plainStep 334 = .ok (.iconst 2, 1) := by decide +kernel
theorem dX7_plainStep_335 : decode cX7_plainStep 335 = .ok (.aload_n 0, 1) := by decide +kernel
theorem dX7_plainStep_336 : decode cX7_plainStep 336 = .ok (.getfield 136, 3) := by decide +kernel
theorem dX7_plainStep_339 : decode cX7_plainStep 339 = .ok (.imul, 1) := by decide +kernel
theorem dX7_plainStep_340 : decode cX7_plainStep 340 = .ok (.sipush 255, 3) := by decide +kernel
theorem dX7_plainStep_343 : decode cX7_plainStep 343 = .ok (.iand, 1) := by decide +kernel
theorem dX7_plainStep_344 : decode cX7_plainStep 344 = .ok (.invokevirtual 173, 3) := by decide +kernel
theorem dX7_plainStep_347 : decode cX7_plainStep 347 = .ok (.putfield 136, 3) := by decide +kernel
theorem dX7_plainStep_350 : decode cX7_plainStep 350 = .ok (.iload_n 1, 1) := by decide +kernel
theorem dX7_plainStep_351 : decode cX7_plainStep 351 = .ok (.bipush 74, 2) := by decide +kernel
theorem dX7_plainStep_353 : decode cX7_plainStep 353 = .ok (.if_icmp .ne 17, 3) := by decide +kernel
theorem dX7_plainStep_356 : decode cX7_plainStep 356 = .ok (.aload_n 0, 1) := by decide +kernel
theorem dX7_plainStep_357 : decode cX7_plainStep 357 = .ok (.aload_n 0, 1) := by decide +kernel
theorem dX7_plainStep_358 : decode cX7_plainStep 358 = .ok (.aload_n 0, 1) := by decide +kernel
theorem dX7_plainStep_359 : decode cX7_plainStep 359 = .ok (.getfield 136, 3) := by decide +kernel
theorem dX7_plainStep_362 : decode cX7_plainStep 362 = .ok (.iconst 2, 1) := by decide +kernel
theorem dX7_plainStep_363 : decode cX7_plainStep 363 = .ok (.idiv, 1) := by decide +kernel
theorem dX7_plainStep_364 : decode cX7_plainStep 364 = .ok (.invokevirtual 173, 3) := by decide +kernel
theorem dX7_plainStep_367 : decode cX7_plainStep 367 = .ok (.putfield 136, 3) := by decide +kernel
theorem dX7_plainStep_370 : decode cX7_plainStep 370 = .ok (.iload_n 1, 1) := by decide +kernel
theorem dX7_plainStep_371 : decode cX7_plainStep 371 = .ok (.bipush 10, 2) := by decide +kernel
theorem dX7_plainStep_373 : decode cX7_plainStep 373 = .ok (.if_icmp .eq 9, 3) := by decide +kernel
theorem dX7_plainStep_376 : decode cX7_plainStep 376 = .ok (.iload_n 1, 1) := by decide +kernel
theorem dX7_plainStep_377 : decode cX7_plainStep 377 = .ok (.bipush 74, 2) := by decide +kernel
theorem dX7_plainStep_379 : decode cX7_plainStep 379 = .ok (.if_icmp .ne 9, 3) := by decide +kernel
theorem dX7_plainStep_382 : decode cX7_plainStep 382 = .ok (.aload_n 0, 1) := by decide +kernel
theorem dX7_plainStep_383 : decode cX7_plainStep 383 = .ok (.iconst 1, 1) := by decide +kernel
theorem dX7_plainStep_384 : decode cX7_plainStep 384 = .ok (.iload_n 2, 1) := by decide +kernel
theorem dX7_plainStep_385 : decode cX7_plainStep 385 = .ok (.invokevirtual 157, 3) := by decide +kernel
theorem dX7_plainStep_388 : decode cX7_plainStep 388 = .ok (.return_, 1) := by decide +kernel
set_option maxRecDepth 20000 in
theorem ggX7_stackStep_X7_read : GoodIn wsX7_stackStep wsX7_read := goodIn_r _ [9, 10, 11, 12, 13, 14, 8, 15, 16, 17, 18, 19, 20, 21, 22, 23, 24, 25, 26, 27, 28, 29, 30, 31, 32, 33, 34, 35, 36, 37, 38, 39, 40, 41, 42, 71, 72, 73, 74, 75, 76, 77, 78, 79, 80, 81, 82, 83, 84, 85, 86, 87, 88, 89, 90, 91, 92, 93, 94, 95, 96, 97, 98, 99, 100, 101, 102, 103, 104, 105, 106, 107, 108, 109, 110, 111] (by decide +kernel) (by decide +kernel)
set_option maxRecDepth 20000 in
theorem gX7_stackStep_X7_read : GoodIn wsX7_stackStep (wsV RX7 161 RX7 yX7_read wsX7_read) := goodIn_app (goodIn_of _ (by decide +kernel)) ggX7_stackStep_X7_read
set_option maxRecDepth 20000 in
theorem ggX7_stackStep_X7_push : GoodIn wsX7_stackStep wsX7_push := goodIn_r _ [46, 47, 48, 49, 50, 8, 51, 10, 11, 16, 42, 12, 13, 14, 15, 52, 53, 54, 55, 23, 22, 25, 56, 57, 26, 27, 29, 24, 71, 72, 73, 74, 75, 76, 77, 78, 79, 80, 81, 82, 83, 84, 85, 86, 87, 88, 89, 90, 91, 92, 93, 94, 95, 96, 97, 98, 99, 100, 101, 102, 103, 104, 105, 106, 107, 108, 109, 110, 111] (by decide +kernel) (by decide +kernel)
set_option maxRecDepth 20000 in
theorem gX7_stackStep_X7_push : GoodIn wsX7_stackStep (wsV RX7 200 RX7 yX7_push wsX7_push) := goodIn_app (goodIn_of _ (by decide +kernel)) ggX7_stackStep_X7_push
set_option maxRecDepth 20000 in
theorem ggX7_stackStep_X7_pull : GoodIn wsX7_stackStep wsX7_pull := goodIn_r _ [61, 47, 5, 6, 7, 8, 9, 10, 11, 12, 13, 14, 15, 16, 17, 18, 19, 20, 21, 22, 23, 24, 25, 26, 27, 28, 29, 30, 31, 32, 33, 34, 35, 36, 37, 38, 39, 40, 41, 42, 71, 72, 73, 74, 75, 76, 77, 78, 79, 80, 81, 82, 83, 84, 85, 86, 87, 88, 89, 90, 91, 92, 93, 94, 95, 96, 97, 98, 99, 100, 101, 102, 103, 104, 105, 106, 107, 108, 109, 110, 111] (by decide +kernel) (by decide +kernel)
set_option maxRecDepth 20000 in
theorem gX7_stackStep_X7_pull : GoodIn wsX7_stackStep (wsV RX7 206 RX7 yX7_pull wsX7_pull) := goodIn_app (goodIn_of _ (by decide +kernel)) ggX7_stackStep_X7_pull
set_option maxRecDepth 20000 in
theorem ggX7_stackStep_X7_judged : GoodIn wsX7_stackStep wsX7_judged := goodIn_r _ [65, 66, 67, 68, 8, 69, 70, 71, 72, 73, 74, 75, 76, 77, 78, 79, 80, 81, 82, 83, 84, 85, 86, 87, 88, 89, 90, 91, 92, 93, 94, 95, 96, 97, 98, 99, 100, 101, 102, 103, 104, 105, 106, 107, 108, 109, 110, 111] (by decide +kernel) (by decide +kernel)
set_option maxRecDepth 20000 in
theorem gX7_stackStep_X7_judged : GoodIn wsX7_stackStep (wsV RX7 173 RX7 yX7_judged wsX7_judged) := goodIn_app (goodIn_of _ (by decide +kernel)) ggX7_stackStep_X7_judged
theorem dX7_stackStep_0 : decode cX7_stackStep 0 = .ok (.aload_n 0, 1) := by decide +kernel
theorem dX7_stackStep_1 : decode cX7_stackStep 1 = .ok (.getfield 148, 3) := by decide +kernel
theorem dX7_stackStep_4 : decode cX7_stackStep 4 = .ok (.iconst 1, 1) := by decide +kernel
theorem dX7_stackStep_5 : decode cX7_stackStep 5 = .ok (.if_icmp .ne 12, 3) := by decide +kernel
theorem dX7_stackStep_8 : decode cX7_stackStep 8 = .ok (.aload_n 0, 1) := by decide +kernel
theorem dX7_stackStep_9 : decode cX7_stackStep 9 = .ok (.aload_n 0, 1) := by decide +kernel
theorem dX7_stackStep_10 : decode cX7_stackStep 10 = .ok (.getfield 145, 3) := by decide +kernel
theorem dX7_stackStep_13 : decode cX7_stackStep 13 = .ok (.invokevirtual 161, 3) := by decide +kernel
theorem dX7_stackStep_16 : decode cX7_stackStep 16 = .ok (.pop, 1) := by decide +kernel
theorem dX7_stackStep_17 : decode cX7_stackStep 17 = .ok (.aload_n 0, 1) := by decide +kernel
theorem dX7_stackStep_18 : decode cX7_stackStep 18 = .ok (.getfield 167, 3) := by decide +kernel
theorem dX7_stackStep_21 : decode cX7_stackStep 21 = .ok (.bipush 72, 2) := by decide +kernel
theorem dX7_stackStep_23 : decode cX7_stackStep 23 = .ok (.if_icmp .ne 19, 3) := by decide +kernel
theorem dX7_stackStep_26 : decode cX7_stackStep 26 = .ok (.aload_n 0, 1) := by decide +kernel
theorem dX7_stackStep_27 : decode cX7_stackStep 27 = .ok (.getfield 148, 3) := by decide +kernel
theorem dX7_stackStep_30 : decode cX7_stackStep 30 = .ok (.iconst 2, 1) := by decide +kernel
theorem dX7_stackStep_31 : decode cX7_stackStep 31 = .ok (.if_icmp .ne 11, 3) := by decide +kernel
theorem dX7_stackStep_34 : decode cX7_stackStep 34 = .ok (.aload_n 0, 1) := by decide +kernel
theorem dX7_stackStep_35 : decode cX7_stackStep 35 = .ok (.aload_n 0, 1) := by decide +kernel
theorem dX7_stackStep_36 : decode cX7_stackStep 36 = .ok (.getfield 136, 3) := by decide +kernel
theorem dX7_stackStep_39 : decode cX7_stackStep 39 = .ok (.invokevirtual 200, 3) := by decide +kernel
theorem dX7_stackStep_42 : decode cX7_stackStep 42 = .ok (.aload_n 0, 1) := by decide +kernel
theorem dX7_stackStep_43 : decode cX7_stackStep 43 = .ok (.getfield 167, 3) := by decide +kernel
theorem dX7_stackStep_46 : decode cX7_stackStep 46 = .ok (.bipush 104, 2) := by decide +kernel
theorem dX7_stackStep_48 : decode cX7_stackStep 48 = .ok (.if_icmp .ne 17, 3) := by decide +kernel
theorem dX7_stackStep_51 : decode cX7_stackStep 51 = .ok (.aload_n 0, 1) := by decide +kernel
theorem dX7_stackStep_52 : decode cX7_stackStep 52 = .ok (.getfield 148, 3) := by decide +kernel
theorem dX7_stackStep_55 : decode cX7_stackStep 55 = .ok (.iconst 2, 1) := by decide +kernel
theorem dX7_stackStep_56 : decode cX7_stackStep 56 = .ok (.if_icmp .ne 9, 3) := by decide +kernel
theorem dX7_stackStep_59 : decode cX7_stackStep 59 = .ok (.aload_n 0, 1) := by decide +kernel
theorem dX7_stackStep_60 : decode cX7_stackStep 60 = .ok (.iconst 1, 1) := by decide +kernel
theorem dX7_stackStep_61 : decode cX7_stackStep 61 = .ok (.invokevirtual 206, 3) := by decide +kernel
theorem dX7_stackStep_64 : decode cX7_stackStep 64 = .ok (.pop, 1) := by decide +kernel
theorem dX7_stackStep_65 : decode cX7_stackStep 65 = .ok (.aload_n 0, 1) := by decide +kernel
theorem dX7_stackStep_66 : decode cX7_stackStep 66 = .ok (.getfield 167, 3) := by decide +kernel
theorem dX7_stackStep_69 : decode cX7_stackStep 69 = .ok (.bipush 104, 2) := by decide +kernel
theorem dX7_stackStep_71 : decode cX7_stackStep 71 = .ok (.if_icmp .ne 24, 3) := by decide +kernel
theorem dX7_stackStep_74 : decode cX7_stackStep 74 = .ok (.aload_n 0, 1) := by decide +kernel
theorem dX7_stackStep_75 : decode cX7_stackStep 75 = .ok (.getfield 148, 3) := by decide +kernel
theorem dX7_stackStep_78 : decode cX7_stackStep 78 = .ok (.iconst 3, 1) := by decide +kernel
theorem dX7_stackStep_79 : decode cX7_stackStep 79 = .ok (.if_icmp .ne 16, 3) := by decide +kernel
theorem dX7_stackStep_82 : decode cX7_stackStep 82 = .ok (.aload_n 0, 1) := by decide +kernel
theorem dX7_stackStep_83 : decode cX7_stackStep 83 = .ok (.aload_n 0, 1) := by decide +kernel
theorem dX7_stackStep_84 : decode cX7_stackStep 84 = .ok (.aload_n 0, 1) := by decide +kernel
theorem dX7_stackStep_85 : decode cX7_stackStep 85 = .ok (.iconst 0, 1) := by decide +kernel
theorem dX7_stackStep_86 : decode cX7_stackStep 86 = .ok (.invokevirtual 206, 3) := by decide +kernel
theorem dX7_stackStep_89 : decode cX7_stackStep 89 = .ok (.invokevirtual 173, 3) := by decide +kernel
theorem dX7_stackStep_92 : decode cX7_stackStep 92 = .ok (.putfield 136, 3) := by decide +kernel
theorem dX7_stackStep_95 : decode cX7_stackStep 95 = .ok (.aload_n 0, 1) := by decide +kernel
theorem dX7_stackStep_96 : decode cX7_stackStep 96 = .ok (.aload_n 0, 1) := by decide +kernel
theorem dX7_stackStep_97 : decode cX7_stackStep 97 = .ok (.getfield 148, 3) := by decide +kernel
theorem dX7_stackStep_100 : decode cX7_stackStep 100 = .ok (.aload_n 0, 1) := by decide +kernel
theorem dX7_stackStep_101 : decode cX7_stackStep 101 = .ok (.getfield 167, 3) := by decide +kernel
theorem dX7_stackStep_104 : decode cX7_stackStep 104 = .ok (.bipush 72, 2) := by decide +kernel
theorem dX7_stackStep_106 : decode cX7_stackStep 106 = .ok (.if_icmp .ne 7, 3) := by decide +kernel
theorem dX7_stackStep_109 : decode cX7_stackStep 109 = .ok (.iconst 2, 1) := by decide +kernel
theorem dX7_stackStep_110 : decode cX7_stackStep 110 = .ok (.goto 4, 3) := by decide +kernel
theorem dX7_stackStep_113 : decode cX7_stackStep 113 = .ok (.iconst 3, 1) := by decide +kernel
theorem dX7_stackStep_114 : decode cX7_stackStep 114 = .ok (.if_icmp .ne 7, 3) := by decide +kernel
theorem dX7_stackStep_117 : decode cX7_stackStep 117 = .ok (.iconst 0, 1) := by decide +kernel
theorem dX7_stackStep_118 : decode cX7_stackStep 118 = .ok (.goto 9, 3) := by decide +kernel
theorem dX7_stackStep_121 : decode cX7_stackStep 121 = .ok (.aload_n 0, 1) := by decide +kernel
theorem dX7_stackStep_122 : decode cX7_stackStep 122 = .ok (.getfield 148, 3) := by decide +kernel
theorem dX7_stackStep_125 : decode cX7_stackStep 125 = .ok (.iconst 1, 1) := by decide +kernel
theorem dX7_stackStep_126 : decode cX7_stackStep 126 = .ok (.iadd, 1) := by decide +kernel
theorem dX7_stackStep_127 : decode cX7_stackStep 127 = .ok (.putfield 148, 3) := by decide +kernel
theorem dX7_stackStep_130 : decode cX7_stackStep 130 = .ok (.return_, 1) := by decide +kernel
theorem dX7_branch_0 : decode cX7_branch 0 = .ok (.iload_n 0, 1) := by decide +kernel
theorem dX7_branch_1 : decode cX7_branch 1 = .ok (.bipush 31, 2) := by decide +kernel
theorem dX7_branch_3 : decode cX7_branch 3 = .ok (.iand, 1) := by decide +kernel
theorem dX7_branch_4 : decode cX7_branch 4 = .ok (.bipush 16, 2) := by decide +kernel
theorem dX7_branch_6 : decode cX7_branch 6 = .ok (.if_icmp .ne 7, 3) := by decide +kernel
theorem dX7_branch_9 : decode cX7_branch 9 = .ok (.iconst 1, 1) := by decide +kernel
theorem dX7_branch_10 : decode cX7_branch 10 = .ok (.goto 4, 3) := by decide +kernel
theorem dX7_branch_13 : decode cX7_branch 13 = .ok (.iconst 0, 1) := by decide +kernel
theorem dX7_branch_14 : decode cX7_branch 14 = .ok (.ireturn, 1) := by decide +kernel
theorem dX7_jump_0 : decode cX7_jump 0 = .ok (.iload_n 0, 1) := by decide +kernel
theorem dX7_jump_1 : decode cX7_jump 1 = .ok (.bipush 76, 2) := by decide +kernel
theorem dX7_jump_3 : decode cX7_jump 3 = .ok (.if_icmp .eq 21, 3) := by decide +kernel
theorem dX7_jump_6 : decode cX7_jump 6 = .ok (.iload_n 0, 1) := by decide +kernel
theorem dX7_jump_7 : decode cX7_jump 7 = .ok (.bipush 32, 2) := by decide +kernel
theorem dX7_jump_9 : decode cX7_jump 9 = .ok (.if_icmp .eq 15, 3) := by decide +kernel
theorem dX7_jump_12 : decode cX7_jump 12 = .ok (.iload_n 0, 1) := by decide +kernel
theorem dX7_jump_13 : decode cX7_jump 13 = .ok (.bipush 96, 2) := by decide +kernel
theorem dX7_jump_15 : decode cX7_jump 15 = .ok (.if_icmp .eq 9, 3) := by decide +kernel
theorem dX7_jump_18 : decode cX7_jump 18 = .ok (.iload_n 0, 1) := by decide +kernel
theorem dX7_jump_19 : decode cX7_jump 19 = .ok (.bipush 64, 2) := by decide +kernel
theorem dX7_jump_21 : decode cX7_jump 21 = .ok (.if_icmp .ne 7, 3) := by decide +kernel
theorem dX7_jump_24 : decode cX7_jump 24 = .ok (.iconst 1, 1) := by decide +kernel
theorem dX7_jump_25 : decode cX7_jump 25 = .ok (.goto 4, 3) := by decide +kernel
theorem dX7_jump_28 : decode cX7_jump 28 = .ok (.iconst 0, 1) := by decide +kernel
theorem dX7_jump_29 : decode cX7_jump 29 = .ok (.ireturn, 1) := by decide +kernel
theorem dX7_withByte_0 : decode cX7_withByte 0 = .ok (.iload_n 0, 1) := by decide +kernel
theorem dX7_withByte_1 : decode cX7_withByte 1 = .ok (.sipush 162, 3) := by decide +kernel
theorem dX7_withByte_4 : decode cX7_withByte 4 = .ok (.if_icmp .eq 52, 3) := by decide +kernel
theorem dX7_withByte_7 : decode cX7_withByte 7 = .ok (.iload_n 0, 1) := by decide +kernel
theorem dX7_withByte_8 : decode cX7_withByte 8 = .ok (.sipush 160, 3) := by decide +kernel
theorem dX7_withByte_11 : decode cX7_withByte 11 = .ok (.if_icmp .eq 45, 3) := by decide +kernel
theorem dX7_withByte_14 : decode cX7_withByte 14 = .ok (.iload_n 0, 1) := by decide +kernel
theorem dX7_withByte_15 : decode cX7_withByte 15 = .ok (.sipush 224, 3) := by decide +kernel
theorem dX7_withByte_18 : decode cX7_withByte 18 = .ok (.if_icmp .eq 38, 3) := by decide +kernel
theorem dX7_withByte_21 : decode cX7_withByte 21 = .ok (.iload_n 0, 1) := by decide +kernel
theorem dX7_withByte_22 : decode cX7_withByte 22 = .ok (.sipush 192, 3) := by decide +kernel
theorem dX7_withByte_25 : decode cX7_withByte 25 = .ok (.if_icmp .eq 31, 3) := by decide +kernel
theorem dX7_withByte_28 : decode cX7_withByte 28 = .ok (.iload_n 0, 1) := by decide +kernel
theorem dX7_withByte_29 : decode cX7_withByte 29 = .ok (.sipush 134, 3) := by decide +kernel
theorem dX7_withByte_32 : decode cX7_withByte 32 = .ok (.if_icmp .eq 24, 3) := by decide +kernel
theorem dX7_withByte_35 : decode cX7_withByte 35 = .ok (.iload_n 0, 1) := by decide +kernel
theorem dX7_withByte_36 : decode cX7_withByte 36 = .ok (.sipush 132, 3) := by decide +kernel
theorem dX7_withByte_39 : decode cX7_withByte 39 = .ok (.if_icmp .eq 17, 3) := by decide +kernel
theorem dX7_withByte_42 : decode cX7_withByte 42 = .ok (.iload_n 0, 1) := by decide +kernel
theorem dX7_withByte_43 : decode cX7_withByte 43 = .ok (.sipush 230, 3) := by decide +kernel
theorem dX7_withByte_46 : decode cX7_withByte 46 = .ok (.if_icmp .eq 10, 3) := by decide +kernel
theorem dX7_withByte_49 : decode cX7_withByte 49 = .ok (.iload_n 0, 1) := by decide +kernel
theorem dX7_withByte_50 : decode cX7_withByte 50 = .ok (.sipush 198, 3) := by decide +kernel
theorem dX7_withByte_53 : decode cX7_withByte 53 = .ok (.if_icmp .ne 7, 3) := by decide +kernel
theorem dX7_withByte_56 : decode cX7_withByte 56 = .ok (.iconst 1, 1) := by decide +kernel
theorem dX7_withByte_57 : decode cX7_withByte 57 = .ok (.goto 4, 3) := by decide +kernel
theorem dX7_withByte_60 : decode cX7_withByte 60 = .ok (.iconst 0, 1) := by decide +kernel
theorem dX7_withByte_61 : decode cX7_withByte 61 = .ok (.ireturn, 1) := by decide +kernel
theorem dX7_plain_0 : decode cX7_plain 0 = .ok (.iload_n 0, 1) := by decide +kernel
theorem dX7_plain_1 : decode cX7_plain 1 = .ok (.bipush 24, 2) := by decide +kernel
theorem dX7_plain_3 : decode cX7_plain 3 = .ok (.if_icmp .eq 35, 3) := by decide +kernel
theorem dX7_plain_6 : decode cX7_plain 6 = .ok (.iload_n 0, 1) := by decide +kernel
theorem dX7_plain_7 : decode cX7_plain 7 = .ok (.bipush 56, 2) := by decide +kernel
theorem dX7_plain_9 : decode cX7_plain 9 = .ok (.if_icmp .eq 29, 3) := by decide +kernel
theorem dX7_plain_12 : decode cX7_plain 12 = .ok (.iload_n 0, 1) := by decide +kernel
theorem dX7_plain_13 : decode cX7_plain 13 = .ok (.bipush 88, 2) := by decide +kernel
theorem dX7_plain_15 : decode cX7_plain 15 = .ok (.if_icmp .eq 23, 3) := by decide +kernel
theorem dX7_plain_18 : decode cX7_plain 18 = .ok (.iload_n 0, 1) := by decide +kernel
theorem dX7_plain_19 : decode cX7_plain 19 = .ok (.bipush 120, 2) := by decide +kernel
theorem dX7_plain_21 : decode cX7_plain 21 = .ok (.if_icmp .eq 17, 3) := by decide +kernel
theorem dX7_plain_24 : decode cX7_plain 24 = .ok (.iload_n 0, 1) := by decide +kernel
theorem dX7_plain_25 : decode cX7_plain 25 = .ok (.sipush 216, 3) := by decide +kernel
theorem dX7_plain_28 : decode cX7_plain 28 = .ok (.if_icmp .eq 10, 3) := by decide +kernel
theorem dX7_plain_31 : decode cX7_plain 31 = .ok (.iload_n 0, 1) := by decide +kernel
theorem dX7_plain_32 : decode cX7_plain 32 = .ok (.sipush 248, 3) := by decide +kernel
theorem dX7_plain_35 : decode cX7_plain 35 = .ok (.if_icmp .ne 7, 3) := by decide +kernel
theorem dX7_plain_38 : decode cX7_plain 38 = .ok (.iconst 1, 1) := by decide +kernel
theorem dX7_plain_39 : decode cX7_plain 39 = .ok (.goto 4, 3) := by decide +kernel
theorem dX7_plain_42 : decode cX7_plain 42 = .ok (.iconst 0, 1) := by decide +kernel
theorem dX7_plain_43 : decode cX7_plain 43 = .ok (.istore_n 1, 1) := by decide +kernel
theorem dX7_plain_44 : decode cX7_plain 44 = .ok (.iload_n 0, 1) := by decide +kernel
theorem dX7_plain_45 : decode cX7_plain 45 = .ok (.sipush 170, 3) := by decide +kernel
theorem dX7_plain_48 : decode cX7_plain 48 = .ok (.if_icmp .eq 52, 3) := by decide +kernel
theorem dX7_plain_51 : decode cX7_plain 51 = .ok (.iload_n 0, 1) := by decide +kernel
theorem dX7_plain_52 : decode cX7_plain 52 = .ok (.sipush 138, 3) := by decide +kernel
theorem dX7_plain_55 : decode cX7_plain 55 = .ok (.if_icmp .eq 45, 3) := by decide +kernel
theorem dX7_plain_58 : decode cX7_plain 58 = .ok (.iload_n 0, 1) := by decide +kernel
theorem dX7_plain_59 : decode cX7_plain 59 = .ok (.sipush 168, 3) := by decide +kernel
theorem dX7_plain_62 : decode cX7_plain 62 = .ok (.if_icmp .eq 38, 3) := by decide +kernel
theorem dX7_plain_65 : decode cX7_plain 65 = .ok (.iload_n 0, 1) := by decide +kernel
theorem dX7_plain_66 : decode cX7_plain 66 = .ok (.sipush 152, 3) := by decide +kernel
theorem dX7_plain_69 : decode cX7_plain 69 = .ok (.if_icmp .eq 31, 3) := by decide +kernel
theorem dX7_plain_72 : decode cX7_plain 72 = .ok (.iload_n 0, 1) := by decide +kernel
theorem dX7_plain_73 : decode cX7_plain 73 = .ok (.sipush 232, 3) := by decide +kernel
theorem dX7_plain_76 : decode cX7_plain 76 = .ok (.if_icmp .eq 24, 3) := by decide +kernel
theorem dX7_plain_79 : decode cX7_plain 79 = .ok (.iload_n 0, 1) := by decide +kernel
theorem dX7_plain_80 : decode cX7_plain 80 = .ok (.sipush 200, 3) := by decide +kernel
theorem dX7_plain_83 : decode cX7_plain 83 = .ok (.if_icmp .eq 17, 3) := by decide +kernel
theorem dX7_plain_86 : decode cX7_plain 86 = .ok (.iload_n 0, 1) := by decide +kernel
theorem dX7_plain_87 : decode cX7_plain 87 = .ok (.sipush 202, 3) := by decide +kernel
theorem dX7_plain_90 : decode cX7_plain 90 = .ok (.if_icmp .eq 10, 3) := by decide +kernel
theorem dX7_plain_93 : decode cX7_plain 93 = .ok (.iload_n 0, 1) := by decide +kernel
theorem dX7_plain_94 : decode cX7_plain 94 = .ok (.sipush 136, 3) := by decide +kernel
theorem dX7_plain_97 : decode cX7_plain 97 = .ok (.if_icmp .ne 7, 3) := by decide +kernel
theorem dX7_plain_100 : decode cX7_plain 100 = .ok (.iconst 1, 1) := by decide +kernel
theorem dX7_plain_101 : decode cX7_plain 101 = .ok (.goto 4, 3) := by decide +kernel
theorem dX7_plain_104 : decode cX7_plain 104 = .ok (.iconst 0, 1) := by decide +kernel
theorem dX7_plain_105 : decode cX7_plain 105 = .ok (.istore_n 2, 1) := by decide +kernel
theorem dX7_plain_106 : decode cX7_plain 106 = .ok (.iload_n 1, 1) := by decide +kernel
theorem dX7_plain_107 : decode cX7_plain 107 = .ok (.ifCond .ne 26, 3) := by decide +kernel
theorem dX7_plain_110 : decode cX7_plain 110 = .ok (.iload_n 2, 1) := by decide +kernel
theorem dX7_plain_111 : decode cX7_plain 111 = .ok (.ifCond .ne 22, 3) := by decide +kernel
theorem dX7_plain_114 : decode cX7_plain 114 = .ok (.iload_n 0, 1) := by decide +kernel
theorem dX7_plain_115 : decode cX7_plain 115 = .ok (.bipush 10, 2) := by decide +kernel
theorem dX7_plain_117 : decode cX7_plain 117 = .ok (.if_icmp .eq 16, 3) := by decide +kernel
theorem dX7_plain_120 : decode cX7_plain 120 = .ok (.iload_n 0, 1) := by decide +kernel
theorem dX7_plain_121 : decode cX7_plain 121 = .ok (.bipush 74, 2) := by decide +kernel
theorem dX7_plain_123 : decode cX7_plain 123 = .ok (.if_icmp .eq 10, 3) := by decide +kernel
theorem dX7_plain_126 : decode cX7_plain 126 = .ok (.iload_n 0, 1) := by decide +kernel
theorem dX7_plain_127 : decode cX7_plain 127 = .ok (.sipush 234, 3) := by decide +kernel
theorem dX7_plain_130 : decode cX7_plain 130 = .ok (.if_icmp .ne 7, 3) := by decide +kernel
theorem dX7_plain_133 : decode cX7_plain 133 = .ok (.iconst 1, 1) := by decide +kernel
theorem dX7_plain_134 : decode cX7_plain 134 = .ok (.goto 4, 3) := by decide +kernel
theorem dX7_plain_137 : decode cX7_plain 137 = .ok (.iconst 0, 1) := by decide +kernel
theorem dX7_plain_138 : decode cX7_plain 138 = .ok (.ireturn, 1) := by decide +kernel
set_option maxRecDepth 20000 in
theorem ggX7_begin_X7_asked : GoodIn wsX7_begin wsX7_asked := goodIn_r _ [10, 11, 12, 13, 14, 73, 74, 75, 76, 77, 78, 79, 80, 81, 82, 83, 84, 85, 86, 87, 88, 89, 90, 91, 92, 93, 94, 95, 96, 97, 98, 99, 100, 101, 102, 103, 104, 105, 106, 107, 108, 109, 110, 111, 112, 113] (by decide +kernel) (by decide +kernel)
set_option maxRecDepth 20000 in
theorem gX7_begin_X7_asked : GoodIn wsX7_begin (wsV RX7 210 RX7 yX7_asked wsX7_asked) := goodIn_app (goodIn_of _ (by decide +kernel)) ggX7_begin_X7_asked
set_option maxRecDepth 20000 in
theorem ggX7_begin_X7_is : GoodIn wsX7_begin wsX7_is := goodIn_r _ [18, 19, 73, 74, 75, 76, 77, 78, 79, 80, 81, 82, 83, 84, 85, 86, 87, 88, 89, 90, 91, 92, 93, 94, 95, 96, 97, 98, 99, 100, 101, 102, 103, 104, 105, 106, 107, 108, 109, 110, 111, 112, 113] (by decide +kernel) (by decide +kernel)
set_option maxRecDepth 20000 in
theorem gX7_begin_X7_is : GoodIn wsX7_begin (wsV RX7 170 RX7 yX7_is wsX7_is) := goodIn_app (goodIn_of _ (by decide +kernel)) ggX7_begin_X7_is
set_option maxRecDepth 20000 in
theorem ggX7_begin_X7_read : GoodIn wsX7_begin wsX7_read := goodIn_r _ [23, 24, 25, 26, 27, 28, 9, 29, 30, 31, 32, 33, 34, 35, 11, 12, 36, 37, 38, 39, 13, 14, 40, 41, 42, 43, 44, 45, 46, 47, 48, 49, 50, 51, 52, 73, 74, 75, 76, 77, 78, 79, 80, 81, 82, 83, 84, 85, 86, 87, 88, 89, 90, 91, 92, 93, 94, 95, 96, 97, 98, 99, 100, 101, 102, 103, 104, 105, 106, 107, 108, 109, 110, 111, 112, 113] (by decide +kernel) (by decide +kernel)
set_option maxRecDepth 20000 in
theorem gX7_begin_X7_read : GoodIn wsX7_begin (wsV RX7 161 RX7 yX7_read wsX7_read) := goodIn_app (goodIn_of _ (by decide +kernel)) ggX7_begin_X7_read
set_option maxRecDepth 20000 in
theorem ggX7_begin_X7_next : GoodIn wsX7_begin wsX7_next := goodIn_r _ [56, 4, 57, 20, 21, 22, 9, 23, 24, 25, 26, 27, 28, 29, 30, 31, 32, 33, 34, 35, 11, 12, 36, 37, 38, 39, 13, 14, 40, 41, 42, 43, 44, 45, 46, 47, 48, 49, 50, 51, 52, 73, 74, 75, 76, 77, 78, 79, 80, 81, 82, 83, 84, 85, 86, 87, 88, 89, 90, 91, 92, 93, 94, 95, 96, 97, 98, 99, 100, 101, 102, 103, 104, 105, 106, 107, 108, 109, 110, 111, 112, 113] (by decide +kernel) (by decide +kernel)
set_option maxRecDepth 20000 in
theorem gX7_begin_X7_next : GoodIn wsX7_begin (wsV RX7 185 RX7 yX7_next wsX7_next) := goodIn_app (goodIn_of _ (by decide +kernel)) ggX7_begin_X7_next
set_option maxRecDepth 20000 in
theorem ggX7_begin_X7_arithmetic : GoodIn wsX7_begin wsX7_arithmetic := goodIn_r _ [60] (by decide +kernel) (by decide +kernel)
set_option maxRecDepth 20000 in
theorem gX7_begin_X7_arithmetic : GoodIn wsX7_begin (va_wsS RX7 213 yX7_arithmetic wsX7_arithmetic) := goodIn_app (goodIn_of _ (by decide +kernel)) ggX7_begin_X7_arithmetic
set_option maxRecDepth 20000 in
theorem ggX7_begin_X7_branch : GoodIn wsX7_begin wsX7_branch := goodIn_r _ [63] (by decide +kernel) (by decide +kernel)
set_option maxRecDepth 20000 in
theorem gX7_begin_X7_branch : GoodIn wsX7_begin (va_wsS RX7 216 yX7_branch wsX7_branch) := goodIn_app (goodIn_of _ (by decide +kernel)) ggX7_begin_X7_branch
set_option maxRecDepth 20000 in
theorem ggX7_begin_X7_jump : GoodIn wsX7_begin wsX7_jump := goodIn_r _ [66] (by decide +kernel) (by decide +kernel)
set_option maxRecDepth 20000 in
theorem gX7_begin_X7_jump : GoodIn wsX7_begin (va_wsS RX7 219 yX7_jump wsX7_jump) := goodIn_app (goodIn_of _ (by decide +kernel)) ggX7_begin_X7_jump
set_option maxRecDepth 20000 in
theorem ggX7_begin_X7_withByte : GoodIn wsX7_begin wsX7_withByte := goodIn_r _ [69] (by decide +kernel) (by decide +kernel)
set_option maxRecDepth 20000 in
theorem gX7_begin_X7_withByte : GoodIn wsX7_begin (va_wsS RX7 222 yX7_withByte wsX7_withByte) := goodIn_app (goodIn_of _ (by decide +kernel)) ggX7_begin_X7_withByte
set_option maxRecDepth 20000 in
theorem ggX7_begin_X7_plain : GoodIn wsX7_begin wsX7_plain := goodIn_r _ [72] (by decide +kernel) (by decide +kernel)
set_option maxRecDepth 20000 in
theorem gX7_begin_X7_plain : GoodIn wsX7_begin (va_wsS RX7 225 yX7_plain wsX7_plain) := goodIn_app (goodIn_of _ (by decide +kernel)) ggX7_begin_X7_plain
theorem dX7_begin_0 : decode cX7_begin 0 = .ok (.aload_n 0, 1) := by decide +kernel
theorem dX7_begin_1 : decode cX7_begin 1 = .ok (.iconst 1, 1) := by decide +kernel
theorem dX7_begin_2 : decode cX7_begin 2 = .ok (.putfield 148, 3) := by decide +kernel
theorem dX7_begin_5 : decode cX7_begin 5 = .ok (.aload_n 0, 1) := by decide +kernel
theorem dX7_begin_6 : decode cX7_begin 6 = .ok (.invokevirtual 210, 3) := by decide +kernel
theorem dX7_begin_9 : decode cX7_begin 9 = .ok (.ifCond .eq 38, 3) := by decide +kernel
theorem dX7_begin_12 : decode cX7_begin 12 = .ok (.aload_n 0, 1) := by decide +kernel
theorem dX7_begin_13 : decode cX7_begin 13 = .ok (.iconst 4, 1) := by decide +kernel
theorem dX7_begin_14 : decode cX7_begin 14 = .ok (.invokevirtual 170, 3) := by decide +kernel
theorem dX7_begin_17 : decode cX7_begin 17 = .ok (.ifCond .ne 30, 3) := by decide +kernel
theorem dX7_begin_20 : decode cX7_begin 20 = .ok (.aload_n 0, 1) := by decide +kernel
theorem dX7_begin_21 : decode cX7_begin 21 = .ok (.sipush 256, 3) := by decide +kernel
theorem dX7_begin_24 : decode cX7_begin 24 = .ok (.putfield 167, 3) := by decide +kernel
theorem dX7_begin_27 : decode cX7_begin 27 = .ok (.aload_n 0, 1) := by decide +kernel
theorem dX7_begin_28 : decode cX7_begin 28 = .ok (.dup, 1) := by decide +kernel
theorem dX7_begin_29 : decode cX7_begin 29 = .ok (.getfield 154, 3) := by decide +kernel
theorem dX7_begin_32 : decode cX7_begin 32 = .ok (.iconst 1, 1) := by decide +kernel
theorem dX7_begin_33 : decode cX7_begin 33 = .ok (.iadd, 1) := by decide +kernel
theorem dX7_begin_34 : decode cX7_begin 34 = .ok (.putfield 154, 3) := by decide +kernel
theorem dX7_begin_37 : decode cX7_begin 37 = .ok (.aload_n 0, 1) := by decide +kernel
theorem dX7_begin_38 : decode cX7_begin 38 = .ok (.aload_n 0, 1) := by decide +kernel
theorem dX7_begin_39 : decode cX7_begin 39 = .ok (.getfield 145, 3) := by decide +kernel
theorem dX7_begin_42 : decode cX7_begin 42 = .ok (.invokevirtual 161, 3) := by decide +kernel
theorem dX7_begin_45 : decode cX7_begin 45 = .ok (.pop, 1) := by decide +kernel
theorem dX7_begin_46 : decode cX7_begin 46 = .ok (.return_, 1) := by decide +kernel
theorem dX7_begin_47 : decode cX7_begin 47 = .ok (.aload_n 0, 1) := by decide +kernel
theorem dX7_begin_48 : decode cX7_begin 48 = .ok (.aload_n 0, 1) := by decide +kernel
theorem dX7_begin_49 : decode cX7_begin 49 = .ok (.invokevirtual 185, 3) := by decide +kernel
theorem dX7_begin_52 : decode cX7_begin 52 = .ok (.putfield 167, 3) := by decide +kernel
theorem dX7_begin_55 : decode cX7_begin 55 = .ok (.aload_n 0, 1) := by decide +kernel
theorem dX7_begin_56 : decode cX7_begin 56 = .ok (.aload_n 0, 1) := by decide +kernel
theorem dX7_begin_57 : decode cX7_begin 57 = .ok (.getfield 167, 3) := by decide +kernel
theorem dX7_begin_60 : decode cX7_begin 60 = .ok (.invokestatic 213, 3) := by decide +kernel
theorem dX7_begin_63 : decode cX7_begin 63 = .ok (.ifCond .ne 65, 3) := by decide +kernel
theorem dX7_begin_66 : decode cX7_begin 66 = .ok (.aload_n 0, 1) := by decide +kernel
theorem dX7_begin_67 : decode cX7_begin 67 = .ok (.getfield 167, 3) := by decide +kernel
theorem dX7_begin_70 : decode cX7_begin 70 = .ok (.invokestatic 216, 3) := by decide +kernel
theorem dX7_begin_73 : decode cX7_begin 73 = .ok (.ifCond .ne 55, 3) := by decide +kernel
theorem dX7_begin_76 : decode cX7_begin 76 = .ok (.aload_n 0, 1) := by decide +kernel
theorem dX7_begin_77 : decode cX7_begin 77 = .ok (.getfield 167, 3) := by decide +kernel
theorem dX7_begin_80 : decode cX7_begin 80 = .ok (.invokestatic 219, 3) := by decide +kernel
theorem dX7_begin_83 : decode cX7_begin 83 = .ok (.ifCond .ne 45, 3) := by decide +kernel
theorem dX7_begin_86 : decode cX7_begin 86 = .ok (.aload_n 0, 1) := by decide +kernel
theorem dX7_begin_87 : decode cX7_begin 87 = .ok (.getfield 167, 3) := by decide +kernel
theorem dX7_begin_90 : decode cX7_begin 90 = .ok (.invokestatic 222, 3) := by decide +kernel
theorem dX7_begin_93 : decode cX7_begin 93 = .ok (.ifCond .ne 35, 3) := by decide +kernel
theorem dX7_begin_96 : decode cX7_begin 96 = .ok (.aload_n 0, 1) := by decide +kernel
theorem dX7_begin_97 : decode cX7_begin 97 = .ok (.getfield 167, 3) := by decide +kernel
theorem dX7_begin_100 : decode cX7_begin 100 = .ok (.invokestatic 225, 3) := by decide +kernel
theorem dX7_begin_103 : decode cX7_begin 103 = .ok (.ifCond .ne 25, 3) := by decide +kernel
theorem dX7_begin_106 : decode cX7_begin 106 = .ok (.aload_n 0, 1) := by decide +kernel
theorem dX7_begin_107 : decode cX7_begin 107 = .ok (.getfield 167, 3) := by decide +kernel
theorem dX7_begin_110 : decode cX7_begin 110 = .ok (.bipush 72, 2) := by decide +kernel
theorem dX7_begin_112 : decode cX7_begin 112 = .ok (.if_icmp .eq 16, 3) := by decide +kernel
theorem dX7_begin_115 : decode cX7_begin 115 = .ok (.aload_n 0, 1) := by decide +kernel
theorem dX7_begin_116 : decode cX7_begin 116 = .ok (.getfield 167, 3) := by decide +kernel
theorem dX7_begin_119 : decode cX7_begin 119 = .ok (.bipush 104, 2) := by decide +kernel
theorem dX7_begin_121 : decode cX7_begin 121 = .ok (.if_icmp .eq 7, 3) := by decide +kernel
theorem dX7_begin_124 : decode cX7_begin 124 = .ok (.iconst 1, 1) := by decide +kernel
theorem dX7_begin_125 : decode cX7_begin 125 = .ok (.goto 4, 3) := by decide +kernel
theorem dX7_begin_128 : decode cX7_begin 128 = .ok (.iconst 0, 1) := by decide +kernel
theorem dX7_begin_129 : decode cX7_begin 129 = .ok (.putfield 63, 3) := by decide +kernel
theorem dX7_begin_132 : decode cX7_begin 132 = .ok (.return_, 1) := by decide +kernel
set_option maxRecDepth 20000 in
theorem ggX7_processorCycle_X7_wanted : GoodIn wsX7_processorCycle wsX7_wanted := goodIn_r _ [9, 10, 11, 169, 170, 171, 172, 173, 174, 175, 176, 177, 178, 179, 180, 181, 182, 183, 184, 185, 186, 187, 188, 189, 190, 191, 192, 193, 194, 195, 196, 197, 198, 199, 200, 201, 202, 203, 204, 205, 206, 207, 208, 209] (by decide +kernel) (by decide +kernel)
set_option maxRecDepth 20000 in
theorem gX7_processorCycle_X7_wanted : GoodIn wsX7_processorCycle (wsV RX7 228 RX7 yX7_wanted wsX7_wanted) := goodIn_app (goodIn_of _ (by decide +kernel)) ggX7_processorCycle_X7_wanted
set_option maxRecDepth 20000 in
theorem ggX7_processorCycle_X7_writes : GoodIn wsX7_processorCycle wsX7_writes := goodIn_r _ [15, 3, 4, 169, 170, 171, 172, 173, 174, 175, 176, 177, 178, 179, 180, 181, 182, 183, 184, 185, 186, 187, 188, 189, 190, 191, 192, 193, 194, 195, 196, 197, 198, 199, 200, 201, 202, 203, 204, 205, 206, 207, 208, 209] (by decide +kernel) (by decide +kernel)
set_option maxRecDepth 20000 in
theorem gX7_processorCycle_X7_writes : GoodIn wsX7_processorCycle (wsV RX7 231 RX7 yX7_writes wsX7_writes) := goodIn_app (goodIn_of _ (by decide +kernel)) ggX7_processorCycle_X7_writes
set_option maxRecDepth 20000 in
theorem ggX7_processorCycle_X7_begin : GoodIn wsX7_processorCycle wsX7_begin := goodIn_r _ [19, 3, 4, 20, 21, 1, 22, 23, 24, 8, 25, 26, 27, 28, 29, 30, 31, 32, 33, 34, 35, 36, 37, 38, 39, 40, 41, 42, 43, 44, 45, 46, 47, 48, 49, 50, 51, 52, 53, 54, 55, 56, 57, 58, 59, 60, 61, 62, 63, 64, 65, 66, 67, 68, 69, 70, 71, 72, 73, 74, 75, 76, 77, 78, 79, 80, 81, 82, 83, 84, 85, 86, 87, 169, 170, 171, 172, 173, 174, 175, 176, 177, 178, 179, 180, 181, 182, 183, 184, 185, 186, 187, 188, 189, 190, 191, 192, 193, 194, 195, 196, 197, 198, 199, 200, 201, 202, 203, 204, 205, 206, 207, 208, 209] (by decide +kernel) (by decide +kernel)
set_option maxRecDepth 20000 in
theorem gX7_processorCycle_X7_begin : GoodIn wsX7_processorCycle (wsV RX7 234 RX7 yX7_begin wsX7_begin) := goodIn_app (goodIn_of _ (by decide +kernel)) ggX7_processorCycle_X7_begin
set_option maxRecDepth 20000 in
theorem ggX7_processorCycle_X7_interruptStep : GoodIn wsX7_processorCycle wsX7_interruptStep := goodIn_r _ [91, 3, 21, 34, 92, 35, 36, 37, 8, 38, 39, 40, 41, 42, 43, 44, 45, 46, 47, 48, 49, 50, 26, 27, 51, 52, 53, 54, 28, 29, 55, 56, 57, 58, 59, 60, 61, 62, 63, 64, 65, 66, 67, 93, 94, 95, 96, 97, 98, 99, 100, 101, 102, 103, 104, 105, 106, 107, 108, 109, 110, 111, 169, 170, 171, 172, 173, 174, 175, 176, 177, 178, 179, 180, 181, 182, 183, 184, 185, 186, 187, 188, 189, 190, 191, 192, 193, 194, 195, 196, 197, 198, 199, 200, 201, 202, 203, 204, 205, 206, 207, 208, 209] (by decide +kernel) (by decide +kernel)
set_option maxRecDepth 20000 in
theorem gX7_processorCycle_X7_interruptStep : GoodIn wsX7_processorCycle (wsV RX7 237 RX7 yX7_interruptStep wsX7_interruptStep) := goodIn_app (goodIn_of _ (by decide +kernel)) ggX7_processorCycle_X7_interruptStep
set_option maxRecDepth 20000 in
theorem ggX7_processorCycle_X7_arithmetic : GoodIn wsX7_processorCycle wsX7_arithmetic := goodIn_r _ [75] (by decide +kernel) (by decide +kernel)
set_option maxRecDepth 20000 in
theorem gX7_processorCycle_X7_arithmetic : GoodIn wsX7_processorCycle (va_wsS RX7 213 yX7_arithmetic wsX7_arithmetic) := goodIn_app (goodIn_of _ (by decide +kernel)) ggX7_processorCycle_X7_arithmetic
set_option maxRecDepth 20000 in
theorem ggX7_processorCycle_X7_arithmeticStep : GoodIn wsX7_processorCycle wsX7_arithmeticStep := goodIn_r _ [115, 4, 3, 92, 116, 117, 118, 68, 69, 70, 8, 71, 21, 72, 35, 36, 37, 38, 39, 40, 41, 42, 43, 44, 45, 46, 47, 48, 49, 50, 26, 27, 51, 52, 53, 54, 28, 29, 55, 56, 57, 58, 59, 60, 61, 62, 63, 64, 65, 66, 67, 119, 120, 121, 122, 123, 124, 125, 126, 127, 108, 109, 110, 111, 34, 128, 129, 130, 131, 30, 31, 32, 33, 132, 133, 134, 135, 136, 137, 138, 139, 98, 99, 100, 101, 102, 103, 104, 105, 106, 107, 169, 170, 171, 172, 173, 174, 175, 176, 177, 178, 179, 180, 181, 182, 183, 184, 185, 186, 187, 188, 189, 190, 191, 192, 193, 194, 195, 196, 197, 198, 199, 200, 201, 202, 203, 204, 205, 206, 207, 208, 209] (by decide +kernel) (by decide +kernel)
set_option maxRecDepth 20000 in
theorem gX7_processorCycle_X7_arithmeticStep : GoodIn wsX7_processorCycle (wsV RX7 240 RX7 yX7_arithmeticStep wsX7_arithmeticStep) := goodIn_app (goodIn_of _ (by decide +kernel)) ggX7_processorCycle_X7_arithmeticStep
set_option maxRecDepth 20000 in
theorem ggX7_processorCycle_X7_branch : GoodIn wsX7_processorCycle wsX7_branch := goodIn_r _ [78] (by decide +kernel) (by decide +kernel)
set_option maxRecDepth 20000 in
theorem gX7_processorCycle_X7_branch : GoodIn wsX7_processorCycle (va_wsS RX7 216 yX7_branch wsX7_branch) := goodIn_app (goodIn_of _ (by decide +kernel)) ggX7_processorCycle_X7_branch
set_option maxRecDepth 20000 in
theorem ggX7_processorCycle_X7_branchStep : GoodIn wsX7_processorCycle wsX7_branchStep := goodIn_r _ [143, 3, 92, 4, 21, 72, 118, 107, 68, 69, 70, 8, 71, 35, 36, 37, 38, 39, 40, 41, 42, 43, 44, 45, 46, 47, 48, 49, 50, 26, 27, 51, 52, 53, 54, 28, 29, 55, 56, 57, 58, 59, 60, 61, 62, 63, 64, 65, 66, 67, 30, 31, 32, 33, 34, 169, 170, 171, 172, 173, 174, 175, 176, 177, 178, 179, 180, 181, 182, 183, 184, 185, 186, 187, 188, 189, 190, 191, 192, 193, 194, 195, 196, 197, 198, 199, 200, 201, 202, 203, 204, 205, 206, 207, 208, 209] (by decide +kernel) (by decide +kernel)
set_option maxRecDepth 20000 in
theorem gX7_processorCycle_X7_branchStep : GoodIn wsX7_processorCycle (wsV RX7 243 RX7 yX7_branchStep wsX7_branchStep) := goodIn_app (goodIn_of _ (by decide +kernel)) ggX7_processorCycle_X7_branchStep
set_option maxRecDepth 20000 in
theorem ggX7_processorCycle_X7_jump : GoodIn wsX7_processorCycle wsX7_jump := goodIn_r _ [81] (by decide +kernel) (by decide +kernel)
set_option maxRecDepth 20000 in
theorem gX7_processorCycle_X7_jump : GoodIn wsX7_processorCycle (va_wsS RX7 219 yX7_jump wsX7_jump) := goodIn_app (goodIn_of _ (by decide +kernel)) ggX7_processorCycle_X7_jump
set_option maxRecDepth 20000 in
theorem ggX7_processorCycle_X7_jumpStep : GoodIn wsX7_processorCycle wsX7_jumpStep := goodIn_r _ [147, 4, 3, 92, 21, 97, 68, 69, 70, 8, 71, 72, 35, 36, 37, 38, 39, 40, 41, 42, 43, 44, 45, 46, 47, 48, 49, 50, 26, 27, 51, 52, 53, 54, 28, 29, 55, 56, 57, 58, 59, 60, 61, 62, 63, 64, 65, 66, 67, 93, 94, 95, 96, 98, 99, 100, 101, 102, 103, 104, 105, 106, 107, 148, 149, 150, 151, 34, 152, 153, 154, 155, 169, 170, 171, 172, 173, 174, 175, 176, 177, 178, 179, 180, 181, 182, 183, 184, 185, 186, 187, 188, 189, 190, 191, 192, 193, 194, 195, 196, 197, 198, 199, 200, 201, 202, 203, 204, 205, 206, 207, 208, 209] (by decide +kernel) (by decide +kernel)
set_option maxRecDepth 20000 in
theorem gX7_processorCycle_X7_jumpStep : GoodIn wsX7_processorCycle (wsV RX7 246 RX7 yX7_jumpStep wsX7_jumpStep) := goodIn_app (goodIn_of _ (by decide +kernel)) ggX7_processorCycle_X7_jumpStep
set_option maxRecDepth 20000 in
theorem ggX7_processorCycle_X7_withByte : GoodIn wsX7_processorCycle wsX7_withByte := goodIn_r _ [84] (by decide +kernel) (by decide +kernel)
set_option maxRecDepth 20000 in
theorem gX7_processorCycle_X7_withByte : GoodIn wsX7_processorCycle (va_wsS RX7 222 yX7_withByte wsX7_withByte) := goodIn_app (goodIn_of _ (by decide +kernel)) ggX7_processorCycle_X7_withByte
set_option maxRecDepth 20000 in
theorem ggX7_processorCycle_X7_byteStep : GoodIn wsX7_processorCycle wsX7_byteStep := goodIn_r _ [159, 3, 92, 4, 117, 160, 118, 68, 69, 70, 8, 71, 21, 72, 35, 36, 37, 38, 39, 40, 41, 42, 43, 44, 45, 46, 47, 48, 49, 50, 26, 27, 51, 52, 53, 54, 28, 29, 55, 56, 57, 58, 59, 60, 61, 62, 63, 64, 65, 66, 67, 124, 125, 126, 127, 108, 109, 110, 111, 34, 132, 133, 134, 135, 98, 99, 100, 101, 102, 103, 104, 105, 106, 107, 169, 170, 171, 172, 173, 174, 175, 176, 177, 178, 179, 180, 181, 182, 183, 184, 185, 186, 187, 188, 189, 190, 191, 192, 193, 194, 195, 196, 197, 198, 199, 200, 201, 202, 203, 204, 205, 206, 207, 208, 209] (by decide +kernel) (by decide +kernel)
set_option maxRecDepth 20000 in
theorem gX7_processorCycle_X7_byteStep : GoodIn wsX7_processorCycle (wsV RX7 249 RX7 yX7_byteStep wsX7_byteStep) := goodIn_app (goodIn_of _ (by decide +kernel)) ggX7_processorCycle_X7_byteStep
set_option maxRecDepth 20000 in
theorem ggX7_processorCycle_X7_plain : GoodIn wsX7_processorCycle wsX7_plain := goodIn_r _ [87] (by decide +kernel) (by decide +kernel)
set_option maxRecDepth 20000 in
theorem gX7_processorCycle_X7_plain : GoodIn wsX7_processorCycle (va_wsS RX7 225 yX7_plain wsX7_plain) := goodIn_app (goodIn_of _ (by decide +kernel)) ggX7_processorCycle_X7_plain
set_option maxRecDepth 20000 in
theorem ggX7_processorCycle_X7_plainStep : GoodIn wsX7_processorCycle wsX7_plainStep := goodIn_r _ [164, 21, 3, 4, 123, 117, 160, 35, 36, 37, 8, 38, 39, 40, 41, 42, 43, 44, 45, 46, 47, 48, 49, 50, 26, 27, 51, 52, 53, 54, 28, 29, 55, 56, 57, 58, 59, 60, 61, 62, 63, 64, 65, 66, 67, 108, 109, 110, 111, 34, 124, 125, 126, 127, 169, 170, 171, 172, 173, 174, 175, 176, 177, 178, 179, 180, 181, 182, 183, 184, 185, 186, 187, 188, 189, 190, 191, 192, 193, 194, 195, 196, 197, 198, 199, 200, 201, 202, 203, 204, 205, 206, 207, 208, 209] (by decide +kernel) (by decide +kernel)
set_option maxRecDepth 20000 in
theorem gX7_processorCycle_X7_plainStep : GoodIn wsX7_processorCycle (wsV RX7 252 RX7 yX7_plainStep wsX7_plainStep) := goodIn_app (goodIn_of _ (by decide +kernel)) ggX7_processorCycle_X7_plainStep
set_option maxRecDepth 20000 in
theorem ggX7_processorCycle_X7_stackStep : GoodIn wsX7_processorCycle wsX7_stackStep := goodIn_r _ [168, 3, 21, 4, 123, 35, 36, 37, 8, 38, 39, 40, 41, 42, 43, 44, 45, 46, 47, 48, 49, 50, 26, 27, 51, 52, 53, 54, 28, 29, 55, 56, 57, 58, 59, 60, 61, 62, 63, 64, 65, 66, 67, 93, 94, 95, 96, 97, 98, 99, 100, 101, 102, 103, 104, 105, 106, 107, 152, 153, 154, 155, 124, 125, 126, 127, 108, 109, 110, 111, 34, 169, 170, 171, 172, 173, 174, 175, 176, 177, 178, 179, 180, 181, 182, 183, 184, 185, 186, 187, 188, 189, 190, 191, 192, 193, 194, 195, 196, 197, 198, 199, 200, 201, 202, 203, 204, 205, 206, 207, 208, 209] (by decide +kernel) (by decide +kernel)
set_option maxRecDepth 20000 in
theorem gX7_processorCycle_X7_stackStep : GoodIn wsX7_processorCycle (wsV RX7 255 RX7 yX7_stackStep wsX7_stackStep) := goodIn_app (goodIn_of _ (by decide +kernel)) ggX7_processorCycle_X7_stackStep
theorem dX7_processorCycle_0 : decode cX7_processorCycle 0 = .ok (.aload_n 0, 1) := by decide +kernel
theorem dX7_processorCycle_1 : decode cX7_processorCycle 1 = .ok (.getfield 63, 3) := by decide +kernel
theorem dX7_processorCycle_4 : decode cX7_processorCycle 4 = .ok (.ifCond .eq 4, 3) := by decide +kernel
theorem dX7_processorCycle_7 : decode cX7_processorCycle 7 = .ok (.return_, 1) := by decide +kernel
theorem dX7_processorCycle_8 : decode cX7_processorCycle 8 = .ok (.aload_n 0, 1) := by decide +kernel
theorem dX7_processorCycle_9 : decode cX7_processorCycle 9 = .ok (.invokevirtual 228, 3) := by decide +kernel
theorem dX7_processorCycle_12 : decode cX7_processorCycle 12 = .ok (.ifCond .eq 21, 3) := by decide +kernel
theorem dX7_processorCycle_15 : decode cX7_processorCycle 15 = .ok (.aload_n 0, 1) := by decide +kernel
theorem dX7_processorCycle_16 : decode cX7_processorCycle 16 = .ok (.invokevirtual 231, 3) := by decide +kernel
theorem dX7_processorCycle_19 : decode cX7_processorCycle 19 = .ok (.ifCond .ne 14, 3) := by decide +kernel
theorem dX7_processorCycle_22 : decode cX7_processorCycle 22 = .ok (.aload_n 0, 1) := by decide +kernel
theorem dX7_processorCycle_23 : decode cX7_processorCycle 23 = .ok (.dup, 1) := by decide +kernel
theorem dX7_processorCycle_24 : decode cX7_processorCycle 24 = .ok (.getfield 151, 3) := by decide +kernel
theorem dX7_processorCycle_27 : decode cX7_processorCycle 27 = .ok (.iconst 1, 1) := by decide +kernel
theorem dX7_processorCycle_28 : decode cX7_processorCycle 28 = .ok (.iadd, 1) := by decide +kernel
theorem dX7_processorCycle_29 : decode cX7_processorCycle 29 = .ok (.putfield 151, 3) := by decide +kernel
theorem dX7_processorCycle_32 : decode cX7_processorCycle 32 = .ok (.return_, 1) := by decide +kernel
theorem dX7_processorCycle_33 : decode cX7_processorCycle 33 = .ok (.aload_n 0, 1) := by decide +kernel
theorem dX7_processorCycle_34 : decode cX7_processorCycle 34 = .ok (.getfield 148, 3) := by decide +kernel
theorem dX7_processorCycle_37 : decode cX7_processorCycle 37 = .ok (.ifCond .ne 10, 3) := by decide +kernel
theorem dX7_processorCycle_40 : decode cX7_processorCycle 40 = .ok (.aload_n 0, 1) := by decide +kernel
theorem dX7_processorCycle_41 : decode cX7_processorCycle 41 = .ok (.invokevirtual 234, 3) := by decide +kernel
theorem dX7_processorCycle_44 : decode cX7_processorCycle 44 = .ok (.goto 109, 3) := by decide +kernel
theorem dX7_processorCycle_47 : decode cX7_processorCycle 47 = .ok (.aload_n 0, 1) := by decide +kernel
theorem dX7_processorCycle_48 : decode cX7_processorCycle 48 = .ok (.getfield 167, 3) := by decide +kernel
theorem dX7_processorCycle_51 : decode cX7_processorCycle 51 = .ok (.sipush 256, 3) := by decide +kernel
theorem dX7_processorCycle_54 : decode cX7_processorCycle 54 = .ok (.if_icmp .ne 10, 3) := by decide +kernel
theorem dX7_processorCycle_57 : decode cX7_processorCycle 57 = .ok (.aload_n 0, 1) := by decide +kernel
theorem dX7_processorCycle_58 : decode cX7_processorCycle 58 = .ok (.invokevirtual 237, 3) := by decide +kernel
theorem dX7_processorCycle_61 : decode cX7_processorCycle 61 = .ok (.goto 92, 3) := by decide +kernel
theorem dX7_processorCycle_64 : decode cX7_processorCycle 64 = .ok (.aload_n 0, 1) := by decide +kernel
theorem dX7_processorCycle_65 : decode cX7_processorCycle 65 = .ok (.getfield 167, 3) := by decide +kernel
theorem dX7_processorCycle_68 : decode cX7_processorCycle 68 = .ok (.invokestatic 213, 3) := by decide +kernel
theorem dX7_processorCycle_71 : decode cX7_processorCycle 71 = .ok (.ifCond .eq 10, 3) := by decide +kernel
theorem dX7_processorCycle_74 : decode cX7_processorCycle 74 = .ok (.aload_n 0, 1) := by decide +kernel
theorem dX7_processorCycle_75 : decode cX7_processorCycle 75 = .ok (.invokevirtual 240, 3) := by decide +kernel
theorem dX7_processorCycle_78 : decode cX7_processorCycle 78 = .ok (.goto 75, 3) := by decide +kernel
theorem dX7_processorCycle_81 : decode cX7_processorCycle 81 = .ok (.aload_n 0, 1) := by decide +kernel
theorem dX7_processorCycle_82 : decode cX7_processorCycle 82 = .ok (.getfield 167, 3) := by decide +kernel
theorem dX7_processorCycle_85 : decode cX7_processorCycle 85 = .ok (.invokestatic 216, 3) := by decide +kernel
theorem dX7_processorCycle_88 : decode cX7_processorCycle 88 = .ok (.ifCond .eq 10, 3) := by decide +kernel
theorem dX7_processorCycle_91 : decode cX7_processorCycle 91 = .ok (.aload_n 0, 1) := by decide +kernel
theorem dX7_processorCycle_92 : decode cX7_processorCycle 92 = .ok (.invokevirtual 243, 3) := by decide +kernel
theorem dX7_processorCycle_95 : decode cX7_processorCycle 95 = .ok (.goto 58, 3) := by decide +kernel
theorem dX7_processorCycle_98 : decode cX7_processorCycle 98 = .ok (.aload_n 0, 1) := by decide +kernel
theorem dX7_processorCycle_99 : decode cX7_processorCycle 99 = .ok (.getfield 167, 3) := by decide +kernel
theorem dX7_processorCycle_102 : decode cX7_processorCycle 102 = .ok (.invokestatic 219, 3) := by decide +kernel
theorem dX7_processorCycle_105 : decode cX7_processorCycle 105 = .ok (.ifCond .eq 10, 3) := by decide +kernel
theorem dX7_processorCycle_108 : decode cX7_processorCycle 108 = .ok (.aload_n 0, 1) := by decide +kernel
theorem dX7_processorCycle_109 : decode cX7_processorCycle 109 = .ok (.invokevirtual 246, 3) := by decide +kernel
theorem dX7_processorCycle_112 : decode cX7_processorCycle 112 = .ok (.goto 41, 3) := by decide +kernel
theorem dX7_processorCycle_115 : decode cX7_processorCycle 115 = .ok (.aload_n 0, 1) := by decide +kernel
theorem dX7_processorCycle_116 : decode cX7_processorCycle 116 = .ok (.getfield 167, 3) := by decide +kernel
theorem dX7_processorCycle_119 : decode cX7_processorCycle 119 = .ok (.invokestatic 222, 3) := by decide +kernel
theorem dX7_processorCycle_122 : decode cX7_processorCycle 122 = .ok (.ifCond .eq 10, 3) := by decide +kernel
theorem dX7_processorCycle_125 : decode cX7_processorCycle 125 = .ok (.aload_n 0, 1) := by decide +kernel
theorem dX7_processorCycle_126 : decode cX7_processorCycle 126 = .ok (.invokevirtual 249, 3) := by decide +kernel
theorem dX7_processorCycle_129 : decode cX7_processorCycle 129 = .ok (.goto 24, 3) := by decide +kernel
theorem dX7_processorCycle_132 : decode cX7_processorCycle 132 = .ok (.aload_n 0, 1) := by decide +kernel
theorem dX7_processorCycle_133 : decode cX7_processorCycle 133 = .ok (.getfield 167, 3) := by decide +kernel
theorem dX7_processorCycle_136 : decode cX7_processorCycle 136 = .ok (.invokestatic 225, 3) := by decide +kernel
theorem dX7_processorCycle_139 : decode cX7_processorCycle 139 = .ok (.ifCond .eq 10, 3) := by decide +kernel
theorem dX7_processorCycle_142 : decode cX7_processorCycle 142 = .ok (.aload_n 0, 1) := by decide +kernel
theorem dX7_processorCycle_143 : decode cX7_processorCycle 143 = .ok (.invokevirtual 252, 3) := by decide +kernel
theorem dX7_processorCycle_146 : decode cX7_processorCycle 146 = .ok (.goto 7, 3) := by decide +kernel
theorem dX7_processorCycle_149 : decode cX7_processorCycle 149 = .ok (.aload_n 0, 1) := by decide +kernel
theorem dX7_processorCycle_150 : decode cX7_processorCycle 150 = .ok (.invokevirtual 255, 3) := by decide +kernel
theorem dX7_processorCycle_153 : decode cX7_processorCycle 153 = .ok (.return_, 1) := by decide +kernel
set_option maxRecDepth 20000 in
theorem ggX7_run_X7_pictureCycle : GoodIn wsX7_run wsX7_pictureCycle := goodIn_r _ [9, 3, 10, 11, 4, 12, 13, 14, 15, 16, 17, 18, 19, 20, 21, 22, 8, 23, 24, 25, 26, 27, 28, 29, 200, 201, 202, 203, 204, 205, 206, 207, 208, 209, 210, 211, 212, 213, 214, 215, 216, 217, 218, 219, 220, 221, 222, 223, 224, 225, 226, 227, 228, 229, 230, 231, 232, 233, 234, 235, 236, 237, 238, 239, 240] (by decide +kernel) (by decide +kernel)
set_option maxRecDepth 20000 in
theorem gX7_run_X7_pictureCycle : GoodIn wsX7_run (wsV RX7 258 RX7 yX7_pictureCycle wsX7_pictureCycle) := goodIn_app (goodIn_of _ (by decide +kernel)) ggX7_run_X7_pictureCycle
set_option maxRecDepth 20000 in
theorem ggX7_run_X7_timers : GoodIn wsX7_run wsX7_timers := goodIn_r _ [33, 34, 35, 36, 37, 8, 38, 39, 40, 41, 200, 201, 202, 203, 204, 205, 206, 207, 208, 209, 210, 211, 212, 213, 214, 215, 216, 217, 218, 219, 220, 221, 222, 223, 224, 225, 226, 227, 228, 229, 230, 231, 232, 233, 234, 235, 236, 237, 238, 239, 240] (by decide +kernel) (by decide +kernel)
set_option maxRecDepth 20000 in
theorem gX7_run_X7_timers : GoodIn wsX7_run (wsV RX7 261 RX7 yX7_timers wsX7_timers) := goodIn_app (goodIn_of _ (by decide +kernel)) ggX7_run_X7_timers
set_option maxRecDepth 20000 in
theorem ggX7_run_X7_processorCycle : GoodIn wsX7_run wsX7_processorCycle := goodIn_r _ [45, 46, 47, 48, 49, 50, 51, 52, 8, 53, 10, 3, 54, 55, 56, 57, 58, 59, 60, 61, 62, 63, 64, 65, 66, 67, 11, 12, 40, 68, 69, 70, 71, 72, 73, 74, 75, 76, 77, 78, 1, 79, 80, 81, 82, 83, 84, 85, 86, 87, 4, 19, 88, 39, 34, 89, 90, 91, 92, 93, 94, 95, 96, 97, 98, 99, 28, 17, 100, 101, 102, 103, 104, 105, 106, 107, 108, 109, 110, 111, 112, 113, 114, 115, 116, 117, 118, 119, 120, 121, 122, 123, 124, 125, 126, 127, 128, 129, 130, 131, 132, 133, 134, 135, 136, 137, 41, 138, 139, 140, 141, 142, 143, 144, 145, 146, 147, 148, 149, 150, 151, 152, 153, 154, 155, 156, 157, 158, 159, 160, 161, 162, 163, 164, 165, 166, 167, 168, 169, 170, 171, 172, 173, 174, 175, 176, 177, 178, 179, 180, 181, 182, 183, 184, 185, 186, 187, 188, 189, 190, 191, 192, 193, 194, 195, 196, 197, 198, 199, 200, 201, 202, 203, 204, 205, 206, 207, 208, 209, 210, 211, 212, 213, 214, 215, 216, 217, 218, 219, 220, 221, 222, 223, 224, 225, 226, 227, 228, 229, 230, 231, 232, 233, 234, 235, 236, 237, 238, 239, 240] (by decide +kernel) (by decide +kernel)
set_option maxRecDepth 20000 in
theorem gX7_run_X7_processorCycle : GoodIn wsX7_run (wsV RX7 264 RX7 yX7_processorCycle wsX7_processorCycle) := goodIn_app (goodIn_of _ (by decide +kernel)) ggX7_run_X7_processorCycle
theorem dX7_run_0 : decode cX7_run 0 = .ok (.iload_n 1, 1) := by decide +kernel
theorem dX7_run_1 : decode cX7_run 1 = .ok (.iconst 1, 1) := by decide +kernel
theorem dX7_run_2 : decode cX7_run 2 = .ok (.if_icmp .lt 10, 3) := by decide +kernel
theorem dX7_run_5 : decode cX7_run 5 = .ok (.iload_n 1, 1) := by decide +kernel
theorem dX7_run_6 : decode cX7_run 6 = .ok (.sipush 1000, 3) := by decide +kernel
theorem dX7_run_9 : decode cX7_run 9 = .ok (.if_icmp .le 5, 3) := by decide +kernel
theorem dX7_run_12 : decode cX7_run 12 = .ok (.iconst (-1), 1) := by decide +kernel
theorem dX7_run_13 : decode cX7_run 13 = .ok (.ireturn, 1) := by decide +kernel
theorem dX7_run_14 : decode cX7_run 14 = .ok (.aload_n 0, 1) := by decide +kernel
theorem dX7_run_15 : decode cX7_run 15 = .ok (.iconst 0, 1) := by decide +kernel
theorem dX7_run_16 : decode cX7_run 16 = .ok (.putfield 102, 3) := by decide +kernel
theorem dX7_run_19 : decode cX7_run 19 = .ok (.iconst 0, 1) := by decide +kernel
theorem dX7_run_20 : decode cX7_run 20 = .ok (.istore_n 2, 1) := by decide +kernel
theorem dX7_run_21 : decode cX7_run 21 = .ok (.iload_n 2, 1) := by decide +kernel
theorem dX7_run_22 : decode cX7_run 22 = .ok (.iload_n 1, 1) := by decide +kernel
theorem dX7_run_23 : decode cX7_run 23 = .ok (.if_icmp .ge 81, 3) := by decide +kernel
theorem dX7_run_26 : decode cX7_run 26 = .ok (.aload_n 0, 1) := by decide +kernel
theorem dX7_run_27 : decode cX7_run 27 = .ok (.invokevirtual 258, 3) := by decide +kernel
theorem dX7_run_30 : decode cX7_run 30 = .ok (.aload_n 0, 1) := by decide +kernel
theorem dX7_run_31 : decode cX7_run 31 = .ok (.invokevirtual 261, 3) := by decide +kernel
theorem dX7_run_34 : decode cX7_run 34 = .ok (.aload_n 0, 1) := by decide +kernel
theorem dX7_run_35 : decode cX7_run 35 = .ok (.invokevirtual 264, 3) := by decide +kernel
theorem dX7_run_38 : decode cX7_run 38 = .ok (.aload_n 0, 1) := by decide +kernel
theorem dX7_run_39 : decode cX7_run 39 = .ok (.dup, 1) := by decide +kernel
theorem dX7_run_40 : decode cX7_run 40 = .ok (.getfield 267, 3) := by decide +kernel
theorem dX7_run_43 : decode cX7_run 43 = .ok (.iconst 1, 1) := by decide +kernel
theorem dX7_run_44 : decode cX7_run 44 = .ok (.iadd, 1) := by decide +kernel
theorem dX7_run_45 : decode cX7_run 45 = .ok (.putfield 267, 3) := by decide +kernel
theorem dX7_run_48 : decode cX7_run 48 = .ok (.aload_n 0, 1) := by decide +kernel
theorem dX7_run_49 : decode cX7_run 49 = .ok (.dup, 1) := by decide +kernel
theorem dX7_run_50 : decode cX7_run 50 = .ok (.getfield 120, 3) := by decide +kernel
theorem dX7_run_53 : decode cX7_run 53 = .ok (.iconst 1, 1) := by decide +kernel
theorem dX7_run_54 : decode cX7_run 54 = .ok (.iadd, 1) := by decide +kernel
theorem dX7_run_55 : decode cX7_run 55 = .ok (.putfield 120, 3) := by decide +kernel
theorem dX7_run_58 : decode cX7_run 58 = .ok (.aload_n 0, 1) := by decide +kernel
theorem dX7_run_59 : decode cX7_run 59 = .ok (.aload_n 0, 1) := by decide +kernel
theorem dX7_run_60 : decode cX7_run 60 = .ok (.getfield 120, 3) := by decide +kernel
theorem dX7_run_63 : decode cX7_run 63 = .ok (.bipush 24, 2) := by decide +kernel
theorem dX7_run_65 : decode cX7_run 65 = .ok (.if_icmp .ne 15, 3) := by decide +kernel
theorem dX7_run_68 : decode cX7_run 68 = .ok (.aload_n 0, 1) := by decide +kernel
theorem dX7_run_69 : decode cX7_run 69 = .ok (.getfield 85, 3) := by decide +kernel
theorem dX7_run_72 : decode cX7_run 72 = .ok (.iconst 1, 1) := by decide +kernel
theorem dX7_run_73 : decode cX7_run 73 = .ok (.iadd, 1) := by decide +kernel
theorem dX7_run_74 : decode cX7_run 74 = .ok (.bipush 40, 2) := by decide +kernel
theorem dX7_run_76 : decode cX7_run 76 = .ok (.irem, 1) := by decide +kernel
theorem dX7_run_77 : decode cX7_run 77 = .ok (.goto 7, 3) := by decide +kernel
theorem dX7_run_80 : decode cX7_run 80 = .ok (.aload_n 0, 1) := by decide +kernel
theorem dX7_run_81 : decode cX7_run 81 = .ok (.getfield 85, 3) := by decide +kernel
theorem dX7_run_84 : decode cX7_run 84 = .ok (.putfield 85, 3) := by decide +kernel
theorem dX7_run_87 : decode cX7_run 87 = .ok (.aload_n 0, 1) := by decide +kernel
theorem dX7_run_88 : decode cX7_run 88 = .ok (.aload_n 0, 1) := by decide +kernel
theorem dX7_run_89 : decode cX7_run 89 = .ok (.getfield 120, 3) := by decide +kernel
theorem dX7_run_92 : decode cX7_run 92 = .ok (.bipush 24, 2) := by decide +kernel
theorem dX7_run_94 : decode cX7_run 94 = .ok (.irem, 1) := by decide +kernel
theorem dX7_run_95 : decode cX7_run 95 = .ok (.putfield 120, 3) := by decide +kernel
theorem dX7_run_98 : decode cX7_run 98 = .ok (.iinc 2 1, 3) := by decide +kernel
theorem dX7_run_101 : decode cX7_run 101 = .ok (.goto (-80), 3) := by decide +kernel
theorem dX7_run_104 : decode cX7_run 104 = .ok (.aload_n 0, 1) := by decide +kernel
theorem dX7_run_105 : decode cX7_run 105 = .ok (.getfield 102, 3) := by decide +kernel
theorem dX7_run_108 : decode cX7_run 108 = .ok (.ireturn, 1) := by decide +kernel
set_option maxRecDepth 20000 in
theorem ggX7_ram_X7_below : GoodIn wsX7_ram wsX7_below := goodIn_r _ [5] (by decide +kernel) (by decide +kernel)
set_option maxRecDepth 20000 in
theorem gX7_ram_X7_below : GoodIn wsX7_ram (va_wsS RX7 70 yX7_below wsX7_below) := goodIn_app (goodIn_of _ (by decide +kernel)) ggX7_ram_X7_below
theorem dX7_ram_0 : decode cX7_ram 0 = .ok (.iload_n 1, 1) := by decide +kernel
theorem dX7_ram_1 : decode cX7_ram 1 = .ok (.sipush 8192, 3) := by decide +kernel
theorem dX7_ram_4 : decode cX7_ram 4 = .ok (.invokestatic 70, 3) := by decide +kernel
theorem dX7_ram_7 : decode cX7_ram 7 = .ok (.ifCond .eq 12, 3) := by decide +kernel
theorem dX7_ram_10 : decode cX7_ram 10 = .ok (.aload_n 0, 1) := by decide +kernel
theorem dX7_ram_11 : decode cX7_ram 11 = .ok (.getfield 7, 3) := by decide +kernel
theorem dX7_ram_14 : decode cX7_ram 14 = .ok (.iload_n 1, 1) := by decide +kernel
theorem dX7_ram_15 : decode cX7_ram 15 = .ok (.iaload, 1) := by decide +kernel
theorem dX7_ram_16 : decode cX7_ram 16 = .ok (.goto 4, 3) := by decide +kernel
theorem dX7_ram_19 : decode cX7_ram 19 = .ok (.iconst (-1), 1) := by decide +kernel
theorem dX7_ram_20 : decode cX7_ram 20 = .ok (.ireturn, 1) := by decide +kernel
set_option maxRecDepth 20000 in
theorem ggX7_look_X7_below : GoodIn wsX7_look wsX7_below := goodIn_r _ [4] (by decide +kernel) (by decide +kernel)
set_option maxRecDepth 20000 in
theorem gX7_look_X7_below : GoodIn wsX7_look (va_wsS RX7 70 yX7_below wsX7_below) := goodIn_app (goodIn_of _ (by decide +kernel)) ggX7_look_X7_below
set_option maxRecDepth 20000 in
theorem ggX7_look_X7_seen : GoodIn wsX7_look wsX7_seen := goodIn_r _ [8, 9, 10, 11, 12, 13, 14, 15, 16, 3, 17, 18, 19, 20, 21, 22, 23, 24, 25, 26, 27, 28, 29, 30, 31, 32, 33, 34, 35, 36, 37, 38, 39, 40, 41, 42, 43, 44, 45, 46, 47, 48, 49, 50, 51, 52, 53, 54, 55, 56, 57, 58, 59, 60, 61, 62, 63, 64, 65, 66, 67, 68, 69, 70, 71, 72, 73, 74, 75, 76] (by decide +kernel) (by decide +kernel)
set_option maxRecDepth 20000 in
theorem gX7_look_X7_seen : GoodIn wsX7_look (wsV RX7 105 RX7 yX7_seen wsX7_seen) := goodIn_app (goodIn_of _ (by decide +kernel)) ggX7_look_X7_seen
theorem dX7_look_0 : decode cX7_look 0 = .ok (.iload_n 1, 1) := by decide +kernel
theorem dX7_look_1 : decode cX7_look 1 = .ok (.sipush 8192, 3) := by decide +kernel
theorem dX7_look_4 : decode cX7_look 4 = .ok (.invokestatic 70, 3) := by decide +kernel
theorem dX7_look_7 : decode cX7_look 7 = .ok (.ifCond .eq 11, 3) := by decide +kernel
theorem dX7_look_10 : decode cX7_look 10 = .ok (.aload_n 0, 1) := by decide +kernel
theorem dX7_look_11 : decode cX7_look 11 = .ok (.iload_n 1, 1) := by decide +kernel
theorem dX7_look_12 : decode cX7_look 12 = .ok (.invokevirtual 105, 3) := by decide +kernel
theorem dX7_look_15 : decode cX7_look 15 = .ok (.goto 4, 3) := by decide +kernel
theorem dX7_look_18 : decode cX7_look 18 = .ok (.iconst (-1), 1) := by decide +kernel
theorem dX7_look_19 : decode cX7_look 19 = .ok (.ireturn, 1) := by decide +kernel
theorem dX7_register_0 : decode cX7_register 0 = .ok (.iload_n 1, 1) := by decide +kernel
theorem dX7_register_1 : decode cX7_register 1 = .ok (.ifCond .ne 8, 3) := by decide +kernel
theorem dX7_register_4 : decode cX7_register 4 = .ok (.aload_n 0, 1) := by decide +kernel
theorem dX7_register_5 : decode cX7_register 5 = .ok (.getfield 136, 3) := by decide +kernel
theorem dX7_register_8 : decode cX7_register 8 = .ok (.ireturn, 1) := by decide +kernel
theorem dX7_register_9 : decode cX7_register 9 = .ok (.iload_n 1, 1) := by decide +kernel
theorem dX7_register_10 : decode cX7_register 10 = .ok (.iconst 1, 1) := by decide +kernel
theorem dX7_register_11 : decode cX7_register 11 = .ok (.if_icmp .ne 8, 3) := by decide +kernel
theorem dX7_register_14 : decode cX7_register 14 = .ok (.aload_n 0, 1) := by decide +kernel
theorem dX7_register_15 : decode cX7_register 15 = .ok (.getfield 139, 3) := by decide +kernel
theorem dX7_register_18 : decode cX7_register 18 = .ok (.ireturn, 1) := by decide +kernel
theorem dX7_register_19 : decode cX7_register 19 = .ok (.iload_n 1, 1) := by decide +kernel
theorem dX7_register_20 : decode cX7_register 20 = .ok (.iconst 2, 1) := by decide +kernel
theorem dX7_register_21 : decode cX7_register 21 = .ok (.if_icmp .ne 8, 3) := by decide +kernel
theorem dX7_register_24 : decode cX7_register 24 = .ok (.aload_n 0, 1) := by decide +kernel
theorem dX7_register_25 : decode cX7_register 25 = .ok (.getfield 142, 3) := by decide +kernel
theorem dX7_register_28 : decode cX7_register 28 = .ok (.ireturn, 1) := by decide +kernel
theorem dX7_register_29 : decode cX7_register 29 = .ok (.iload_n 1, 1) := by decide +kernel
theorem dX7_register_30 : decode cX7_register 30 = .ok (.iconst 3, 1) := by decide +kernel
theorem dX7_register_31 : decode cX7_register 31 = .ok (.if_icmp .ne 8, 3) := by decide +kernel
theorem dX7_register_34 : decode cX7_register 34 = .ok (.aload_n 0, 1) := by decide +kernel
theorem dX7_register_35 : decode cX7_register 35 = .ok (.getfield 57, 3) := by decide +kernel
theorem dX7_register_38 : decode cX7_register 38 = .ok (.ireturn, 1) := by decide +kernel
theorem dX7_register_39 : decode cX7_register 39 = .ok (.iload_n 1, 1) := by decide +kernel
theorem dX7_register_40 : decode cX7_register 40 = .ok (.iconst 4, 1) := by decide +kernel
theorem dX7_register_41 : decode cX7_register 41 = .ok (.if_icmp .ne 8, 3) := by decide +kernel
theorem dX7_register_44 : decode cX7_register 44 = .ok (.aload_n 0, 1) := by decide +kernel
theorem dX7_register_45 : decode cX7_register 45 = .ok (.getfield 60, 3) := by decide +kernel
theorem dX7_register_48 : decode cX7_register 48 = .ok (.ireturn, 1) := by decide +kernel
theorem dX7_register_49 : decode cX7_register 49 = .ok (.iload_n 1, 1) := by decide +kernel
theorem dX7_register_50 : decode cX7_register 50 = .ok (.iconst 5, 1) := by decide +kernel
theorem dX7_register_51 : decode cX7_register 51 = .ok (.if_icmp .ne 10, 3) := by decide +kernel
theorem dX7_register_54 : decode cX7_register 54 = .ok (.aload_n 0, 1) := by decide +kernel
theorem dX7_register_55 : decode cX7_register 55 = .ok (.getfield 145, 3) := by decide +kernel
theorem dX7_register_58 : decode cX7_register 58 = .ok (.goto 17, 3) := by decide +kernel
theorem dX7_register_61 : decode cX7_register 61 = .ok (.iload_n 1, 1) := by decide +kernel
theorem dX7_register_62 : decode cX7_register 62 = .ok (.bipush 6, 2) := by decide +kernel
theorem dX7_register_64 : decode cX7_register 64 = .ok (.if_icmp .ne 10, 3) := by decide +kernel
theorem dX7_register_67 : decode cX7_register 67 = .ok (.aload_n 0, 1) := by decide +kernel
theorem dX7_register_68 : decode cX7_register 68 = .ok (.getfield 22, 3) := by decide +kernel
theorem dX7_register_71 : decode cX7_register 71 = .ok (.goto 4, 3) := by decide +kernel
theorem dX7_register_74 : decode cX7_register 74 = .ok (.iconst (-1), 1) := by decide +kernel
theorem dX7_register_75 : decode cX7_register 75 = .ok (.ireturn, 1) := by decide +kernel
theorem dX7_jammed_0 : decode cX7_jammed 0 = .ok (.aload_n 0, 1) := by decide +kernel
theorem dX7_jammed_1 : decode cX7_jammed 1 = .ok (.getfield 63, 3) := by decide +kernel
theorem dX7_jammed_4 : decode cX7_jammed 4 = .ok (.ireturn, 1) := by decide +kernel
theorem dX7_beam_0 : decode cX7_beam 0 = .ok (.bipush 24, 2) := by decide +kernel
