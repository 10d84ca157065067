theorem dX3_returnFromCall_68 : decode cX3_returnFromCall 68 = .ok (.invokevirtual 212, 3) := by decide +kernel
theorem dX3_returnFromCall_71 : decode cX3_returnFromCall 71 = .ok (.putfield 168, 3) := by decide +kernel
theorem dX3_returnFromCall_74 : decode cX3_returnFromCall 74 = .ok (.aload_n 0, 1) := by decide +kernel
theorem dX3_returnFromCall_75 : decode cX3_returnFromCall 75 = .ok (.invokevirtual 215, 3) := by decide +kernel
theorem dX3_returnFromCall_78 : decode cX3_returnFromCall 78 = .ok (.goto 33, 3) := by decide +kernel
theorem dX3_returnFromCall_81 : decode cX3_returnFromCall 81 = .ok (.aload_n 0, 1) := by decide +kernel
theorem dX3_returnFromCall_82 : decode cX3_returnFromCall 82 = .ok (.getfield 12, 3) := by decide +kernel
theorem dX3_returnFromCall_85 : decode cX3_returnFromCall 85 = .ok (.aload_n 0, 1) := by decide +kernel
theorem dX3_returnFromCall_86 : decode cX3_returnFromCall 86 = .ok (.getfield 168, 3) := by decide +kernel
theorem dX3_returnFromCall_89 : decode cX3_returnFromCall 89 = .ok (.aload_n 0, 1) := by decide +kernel
theorem dX3_returnFromCall_90 : decode cX3_returnFromCall 90 = .ok (.invokevirtual 212, 3) := by decide +kernel
theorem dX3_returnFromCall_93 : decode cX3_returnFromCall 93 = .ok (.invokestatic 44, 3) := by decide +kernel
theorem dX3_returnFromCall_96 : decode cX3_returnFromCall 96 = .ok (.putfield 122, 3) := by decide +kernel
theorem dX3_returnFromCall_99 : decode cX3_returnFromCall 99 = .ok (.goto 12, 3) := by decide +kernel
theorem dX3_returnFromCall_102 : decode cX3_returnFromCall 102 = .ok (.aload_n 0, 1) := by decide +kernel
theorem dX3_returnFromCall_103 : decode cX3_returnFromCall 103 = .ok (.invokevirtual 148, 3) := by decide +kernel
theorem dX3_returnFromCall_106 : decode cX3_returnFromCall 106 = .ok (.pop, 1) := by decide +kernel
theorem dX3_returnFromCall_107 : decode cX3_returnFromCall 107 = .ok (.aload_n 0, 1) := by decide +kernel
theorem dX3_returnFromCall_108 : decode cX3_returnFromCall 108 = .ok (.invokevirtual 61, 3) := by decide +kernel
theorem dX3_returnFromCall_111 : decode cX3_returnFromCall 111 = .ok (.return_, 1) := by decide +kernel
set_option maxRecDepth 20000 in
theorem ggX3_returnFromInterrupt_X0_read : GoodIn wsX3_returnFromInterrupt wsX0_read := goodIn_r _ [10, 11, 12, 13, 14, 15, 9, 16, 17, 18, 19, 20, 21, 22, 23, 24, 25, 26, 27, 28, 29, 30, 31, 32, 33, 34, 35, 36, 37, 38, 39, 40, 41, 42, 43, 44, 45, 46, 47, 48, 49, 50, 51, 52, 53, 54, 55, 56, 57, 58, 59, 60, 61, 62, 63, 64, 65, 66, 67, 106, 107, 108, 109, 110, 111, 112, 113, 114, 115, 116, 117, 118, 119, 120, 121, 122, 123, 124, 125, 126, 127, 128, 129, 130, 131, 132, 133, 134, 135, 136, 137, 138, 139, 140, 141, 142, 143] (by decide +kernel) (by decide +kernel)
set_option maxRecDepth 20000 in
theorem gX3_returnFromInterrupt_X0_read : GoodIn wsX3_returnFromInterrupt (wsV RX3 125 RX0 yX0_read wsX0_read) := goodIn_app (goodIn_of _ (by decide +kernel)) ggX3_returnFromInterrupt_X0_read
set_option maxRecDepth 20000 in
theorem ggX3_returnFromInterrupt_X3_readStack : GoodIn wsX3_returnFromInterrupt wsX3_readStack := goodIn_r _ [72, 2, 3, 73, 6, 7, 8, 9, 10, 11, 12, 13, 14, 15, 16, 17, 18, 19, 20, 21, 22, 23, 24, 25, 26, 27, 28, 29, 30, 31, 32, 33, 34, 35, 36, 37, 38, 39, 40, 41, 42, 43, 44, 45, 46, 47, 48, 49, 50, 51, 52, 53, 54, 55, 56, 57, 58, 59, 60, 61, 62, 63, 64, 65, 66, 67, 86, 87, 88, 89, 90, 91, 92, 93, 94, 95, 96, 97, 98, 99, 100, 101, 102, 103, 104, 105, 106, 107, 108, 109, 110, 111, 112, 113, 114, 115, 116, 117, 118, 119, 120, 121, 122, 123, 124, 125, 126, 127, 128, 129, 130, 131, 132, 133, 134, 135, 136, 137, 138, 139, 140, 141, 142, 143] (by decide +kernel) (by decide +kernel)
set_option maxRecDepth 20000 in
theorem gX3_returnFromInterrupt_X3_readStack : GoodIn wsX3_returnFromInterrupt (wsV RX3 212 RX3 yX3_readStack wsX3_readStack) := goodIn_app (goodIn_of _ (by decide +kernel)) ggX3_returnFromInterrupt_X3_readStack
set_option maxRecDepth 20000 in
theorem ggX3_returnFromInterrupt_X3_growStack : GoodIn wsX3_returnFromInterrupt wsX3_growStack := goodIn_r _ [77, 3, 73, 86, 87, 88, 89, 90, 91, 92, 93, 94, 95, 96, 97, 98, 99, 100, 101, 102, 103, 104, 105] (by decide +kernel) (by decide +kernel)
set_option maxRecDepth 20000 in
theorem gX3_returnFromInterrupt_X3_growStack : GoodIn wsX3_returnFromInterrupt (wsV RX3 215 RX3 yX3_growStack wsX3_growStack) := goodIn_app (goodIn_of _ (by decide +kernel)) ggX3_returnFromInterrupt_X3_growStack
set_option maxRecDepth 20000 in
theorem ggX3_returnFromInterrupt_X3_word : GoodIn wsX3_returnFromInterrupt wsX3_word := goodIn_r _ [80] (by decide +kernel) (by decide +kernel)
set_option maxRecDepth 20000 in
theorem gX3_returnFromInterrupt_X3_word : GoodIn wsX3_returnFromInterrupt (va_wsS RX3 44 yX3_word wsX3_word) := goodIn_app (goodIn_of _ (by decide +kernel)) ggX3_returnFromInterrupt_X3_word
set_option maxRecDepth 20000 in
theorem ggX3_returnFromInterrupt_X3_endInstruction : GoodIn wsX3_returnFromInterrupt wsX3_endInstruction := goodIn_r _ [84, 85, 1, 86, 87, 88, 89, 90, 91, 92, 93, 94, 95, 96, 97, 98, 99] (by decide +kernel) (by decide +kernel)
set_option maxRecDepth 20000 in
theorem gX3_returnFromInterrupt_X3_endInstruction : GoodIn wsX3_returnFromInterrupt (wsV RX3 61 RX3 yX3_endInstruction wsX3_endInstruction) := goodIn_app (goodIn_of _ (by decide +kernel)) ggX3_returnFromInterrupt_X3_endInstruction
theorem dX3_returnFromInterrupt_0 : decode cX3_returnFromInterrupt 0 = .ok (.aload_n 0, 1) := by decide +kernel
theorem dX3_returnFromInterrupt_1 : decode cX3_returnFromInterrupt 1 = .ok (.getfield 68, 3) := by decide +kernel
theorem dX3_returnFromInterrupt_4 : decode cX3_returnFromInterrupt 4 = .ok (.tableswitch 115 2 5 #[32, 50, 62, 84], 32) := by decide +kernel
theorem dX3_returnFromInterrupt_36 : decode cX3_returnFromInterrupt 36 = .ok (.aload_n 0, 1) := by decide +kernel
theorem dX3_returnFromInterrupt_37 : decode cX3_returnFromInterrupt 37 = .ok (.getfield 26, 3) := by decide +kernel
theorem dX3_returnFromInterrupt_40 : decode cX3_returnFromInterrupt 40 = .ok (.aload_n 0, 1) := by decide +kernel
theorem dX3_returnFromInterrupt_41 : decode cX3_returnFromInterrupt 41 = .ok (.getfield 12, 3) := by decide +kernel
theorem dX3_returnFromInterrupt_44 : decode cX3_returnFromInterrupt 44 = .ok (.getfield 122, 3) := by decide +kernel
theorem dX3_returnFromInterrupt_47 : decode cX3_returnFromInterrupt 47 = .ok (.invokevirtual 125, 3) := by decide +kernel
theorem dX3_returnFromInterrupt_50 : decode cX3_returnFromInterrupt 50 = .ok (.pop, 1) := by decide +kernel
theorem dX3_returnFromInterrupt_51 : decode cX3_returnFromInterrupt 51 = .ok (.goto 97, 3) := by decide +kernel
theorem dX3_returnFromInterrupt_54 : decode cX3_returnFromInterrupt 54 = .ok (.aload_n 0, 1) := by decide +kernel
theorem dX3_returnFromInterrupt_55 : decode cX3_returnFromInterrupt 55 = .ok (.invokevirtual 212, 3) := by decide +kernel
theorem dX3_returnFromInterrupt_58 : decode cX3_returnFromInterrupt 58 = .ok (.pop, 1) := by decide +kernel
theorem dX3_returnFromInterrupt_59 : decode cX3_returnFromInterrupt 59 = .ok (.aload_n 0, 1) := by decide +kernel
theorem dX3_returnFromInterrupt_60 : decode cX3_returnFromInterrupt 60 = .ok (.invokevirtual 215, 3) := by decide +kernel
theorem dX3_returnFromInterrupt_63 : decode cX3_returnFromInterrupt 63 = .ok (.goto 85, 3) := by decide +kernel
theorem dX3_returnFromInterrupt_66 : decode cX3_returnFromInterrupt 66 = .ok (.aload_n 0, 1) := by decide +kernel
theorem dX3_returnFromInterrupt_67 : decode cX3_returnFromInterrupt 67 = .ok (.getfield 12, 3) := by decide +kernel
theorem dX3_returnFromInterrupt_70 : decode cX3_returnFromInterrupt 70 = .ok (.aload_n 0, 1) := by decide +kernel
theorem dX3_returnFromInterrupt_71 : decode cX3_returnFromInterrupt 71 = .ok (.invokevirtual 212, 3) := by decide +kernel
theorem dX3_returnFromInterrupt_74 : decode cX3_returnFromInterrupt 74 = .ok (.sipush 207, 3) := by decide +kernel
theorem dX3_returnFromInterrupt_77 : decode cX3_returnFromInterrupt 77 = .ok (.iand, 1) := by decide +kernel
theorem dX3_returnFromInterrupt_78 : decode cX3_returnFromInterrupt 78 = .ok (.putfield 161, 3) := by decide +kernel
theorem dX3_returnFromInterrupt_81 : decode cX3_returnFromInterrupt 81 = .ok (.aload_n 0, 1) := by decide +kernel
theorem dX3_returnFromInterrupt_82 : decode cX3_returnFromInterrupt 82 = .ok (.invokevirtual 215, 3) := by decide +kernel
theorem dX3_returnFromInterrupt_85 : decode cX3_returnFromInterrupt 85 = .ok (.goto 63, 3) := by decide +kernel
theorem dX3_returnFromInterrupt_88 : decode cX3_returnFromInterrupt 88 = .ok (.aload_n 0, 1) := by decide +kernel
theorem dX3_returnFromInterrupt_89 : decode cX3_returnFromInterrupt 89 = .ok (.getfield 12, 3) := by decide +kernel
theorem dX3_returnFromInterrupt_92 : decode cX3_returnFromInterrupt 92 = .ok (.aload_n 0, 1) := by decide +kernel
theorem dX3_returnFromInterrupt_93 : decode cX3_returnFromInterrupt 93 = .ok (.invokevirtual 212, 3) := by decide +kernel
theorem dX3_returnFromInterrupt_96 : decode cX3_returnFromInterrupt 96 = .ok (.aload_n 0, 1) := by decide +kernel
theorem dX3_returnFromInterrupt_97 : decode cX3_returnFromInterrupt 97 = .ok (.getfield 12, 3) := by decide +kernel
theorem dX3_returnFromInterrupt_100 : decode cX3_returnFromInterrupt 100 = .ok (.getfield 122, 3) := by decide +kernel
theorem dX3_returnFromInterrupt_103 : decode cX3_returnFromInterrupt 103 = .ok (.bipush 8, 2) := by decide +kernel
theorem dX3_returnFromInterrupt_105 : decode cX3_returnFromInterrupt 105 = .ok (.ishr, 1) := by decide +kernel
theorem dX3_returnFromInterrupt_106 : decode cX3_returnFromInterrupt 106 = .ok (.invokestatic 44, 3) := by decide +kernel
theorem dX3_returnFromInterrupt_109 : decode cX3_returnFromInterrupt 109 = .ok (.putfield 122, 3) := by decide +kernel
theorem dX3_returnFromInterrupt_112 : decode cX3_returnFromInterrupt 112 = .ok (.aload_n 0, 1) := by decide +kernel
theorem dX3_returnFromInterrupt_113 : decode cX3_returnFromInterrupt 113 = .ok (.invokevirtual 215, 3) := by decide +kernel
theorem dX3_returnFromInterrupt_116 : decode cX3_returnFromInterrupt 116 = .ok (.goto 32, 3) := by decide +kernel
theorem dX3_returnFromInterrupt_119 : decode cX3_returnFromInterrupt 119 = .ok (.aload_n 0, 1) := by decide +kernel
theorem dX3_returnFromInterrupt_120 : decode cX3_returnFromInterrupt 120 = .ok (.getfield 12, 3) := by decide +kernel
theorem dX3_returnFromInterrupt_123 : decode cX3_returnFromInterrupt 123 = .ok (.aload_n 0, 1) := by decide +kernel
theorem dX3_returnFromInterrupt_124 : decode cX3_returnFromInterrupt 124 = .ok (.getfield 12, 3) := by decide +kernel
theorem dX3_returnFromInterrupt_127 : decode cX3_returnFromInterrupt 127 = .ok (.getfield 122, 3) := by decide +kernel
theorem dX3_returnFromInterrupt_130 : decode cX3_returnFromInterrupt 130 = .ok (.sipush 255, 3) := by decide +kernel
theorem dX3_returnFromInterrupt_133 : decode cX3_returnFromInterrupt 133 = .ok (.iand, 1) := by decide +kernel
theorem dX3_returnFromInterrupt_134 : decode cX3_returnFromInterrupt 134 = .ok (.aload_n 0, 1) := by decide +kernel
theorem dX3_returnFromInterrupt_135 : decode cX3_returnFromInterrupt 135 = .ok (.invokevirtual 212, 3) := by decide +kernel
theorem dX3_returnFromInterrupt_138 : decode cX3_returnFromInterrupt 138 = .ok (.invokestatic 44, 3) := by decide +kernel
theorem dX3_returnFromInterrupt_141 : decode cX3_returnFromInterrupt 141 = .ok (.putfield 122, 3) := by decide +kernel
theorem dX3_returnFromInterrupt_144 : decode cX3_returnFromInterrupt 144 = .ok (.aload_n 0, 1) := by decide +kernel
theorem dX3_returnFromInterrupt_145 : decode cX3_returnFromInterrupt 145 = .ok (.invokevirtual 61, 3) := by decide +kernel
theorem dX3_returnFromInterrupt_148 : decode cX3_returnFromInterrupt 148 = .ok (.return_, 1) := by decide +kernel
set_option maxRecDepth 20000 in
theorem ggX3_pushA_X0_read : GoodIn wsX3_pushA wsX0_read := goodIn_r _ [10, 11, 12, 13, 14, 15, 9, 16, 17, 18, 19, 20, 21, 22, 23, 24, 25, 26, 27, 28, 29, 30, 31, 32, 33, 34, 35, 36, 37, 38, 39, 40, 41, 42, 43, 44, 45, 46, 47, 48, 49, 50, 51, 52, 53, 54, 55, 56, 57, 58, 59, 60, 61, 62, 63, 64, 65, 66, 67, 143, 144, 145, 146, 147, 148, 149, 150, 151, 152, 153, 154, 155, 156, 157, 158, 159, 160, 161, 162, 163, 164, 165, 166, 167, 168, 169, 170, 171, 172, 173, 174, 175, 176, 177, 178, 179, 180] (by decide +kernel) (by decide +kernel)
set_option maxRecDepth 20000 in
theorem gX3_pushA_X0_read : GoodIn wsX3_pushA (wsV RX3 125 RX0 yX0_read wsX0_read) := goodIn_app (goodIn_of _ (by decide +kernel)) ggX3_pushA_X0_read
set_option maxRecDepth 20000 in
theorem ggX3_pushA_X3_push : GoodIn wsX3_pushA wsX3_push := goodIn_r _ [72, 2, 3, 73, 74, 75, 76, 9, 77, 11, 22, 29, 17, 12, 18, 19, 20, 21, 78, 79, 80, 34, 81, 36, 82, 38, 39, 40, 41, 42, 43, 44, 45, 83, 84, 85, 49, 86, 51, 53, 55, 87, 88, 89, 90, 52, 91, 92, 93, 94, 95, 96, 97, 98, 99, 100, 101, 102, 103, 104, 105, 106, 107, 108, 57, 109, 110, 111, 112, 113, 114, 115, 116, 117, 63, 123, 124, 125, 126, 127, 128, 129, 130, 131, 132, 133, 134, 135, 136, 137, 138, 139, 140, 141, 142, 143, 144, 145, 146, 147, 148, 149, 150, 151, 152, 153, 154, 155, 156, 157, 158, 159, 160, 161, 162, 163, 164, 165, 166, 167, 168, 169, 170, 171, 172, 173, 174, 175, 176, 177, 178, 179, 180] (by decide +kernel) (by decide +kernel)
set_option maxRecDepth 20000 in
theorem gX3_pushA_X3_push : GoodIn wsX3_pushA (wsV RX3 158 RX3 yX3_push wsX3_push) := goodIn_app (goodIn_of _ (by decide +kernel)) ggX3_pushA_X3_push
set_option maxRecDepth 20000 in
theorem ggX3_pushA_X3_endInstruction : GoodIn wsX3_pushA wsX3_endInstruction := goodIn_r _ [121, 122, 1, 123, 124, 125, 126, 127, 128, 129, 130, 131, 132, 133, 134, 135, 136] (by decide +kernel) (by decide +kernel)
set_option maxRecDepth 20000 in
theorem gX3_pushA_X3_endInstruction : GoodIn wsX3_pushA (wsV RX3 61 RX3 yX3_endInstruction wsX3_endInstruction) := goodIn_app (goodIn_of _ (by decide +kernel)) ggX3_pushA_X3_endInstruction
theorem dX3_pushA_0 : decode cX3_pushA 0 = .ok (.aload_n 0, 1) := by decide +kernel
theorem dX3_pushA_1 : decode cX3_pushA 1 = .ok (.getfield 68, 3) := by decide +kernel
theorem dX3_pushA_4 : decode cX3_pushA 4 = .ok (.iconst 2, 1) := by decide +kernel
theorem dX3_pushA_5 : decode cX3_pushA 5 = .ok (.if_icmp .ne 21, 3) := by decide +kernel
theorem dX3_pushA_8 : decode cX3_pushA 8 = .ok (.aload_n 0, 1) := by decide +kernel
theorem dX3_pushA_9 : decode cX3_pushA 9 = .ok (.getfield 26, 3) := by decide +kernel
theorem dX3_pushA_12 : decode cX3_pushA 12 = .ok (.aload_n 0, 1) := by decide +kernel
theorem dX3_pushA_13 : decode cX3_pushA 13 = .ok (.getfield 12, 3) := by decide +kernel
theorem dX3_pushA_16 : decode cX3_pushA 16 = .ok (.getfield 122, 3) := by decide +kernel
theorem dX3_pushA_19 : decode cX3_pushA 19 = .ok (.invokevirtual 125, 3) := by decide +kernel
theorem dX3_pushA_22 : decode cX3_pushA 22 = .ok (.pop, 1) := by decide +kernel
theorem dX3_pushA_23 : decode cX3_pushA 23 = .ok (.goto 18, 3) := by decide +kernel
theorem dX3_pushA_26 : decode cX3_pushA 26 = .ok (.aload_n 0, 1) := by decide +kernel
theorem dX3_pushA_27 : decode cX3_pushA 27 = .ok (.aload_n 0, 1) := by decide +kernel
theorem dX3_pushA_28 : decode cX3_pushA 28 = .ok (.getfield 12, 3) := by decide +kernel
theorem dX3_pushA_31 : decode cX3_pushA 31 = .ok (.getfield 197, 3) := by decide +kernel
theorem dX3_pushA_34 : decode cX3_pushA 34 = .ok (.invokevirtual 158, 3) := by decide +kernel
theorem dX3_pushA_37 : decode cX3_pushA 37 = .ok (.aload_n 0, 1) := by decide +kernel
theorem dX3_pushA_38 : decode cX3_pushA 38 = .ok (.invokevirtual 61, 3) := by decide +kernel
theorem dX3_pushA_41 : decode cX3_pushA 41 = .ok (.return_, 1) := by decide +kernel
set_option maxRecDepth 20000 in
theorem ggX3_pullA_X0_read : GoodIn wsX3_pullA wsX0_read := goodIn_r _ [10, 11, 12, 13, 14, 15, 9, 16, 17, 18, 19, 20, 21, 22, 23, 24, 25, 26, 27, 28, 29, 30, 31, 32, 33, 34, 35, 36, 37, 38, 39, 40, 41, 42, 43, 44, 45, 46, 47, 48, 49, 50, 51, 52, 53, 54, 55, 56, 57, 58, 59, 60, 61, 62, 63, 64, 65, 66, 67, 109, 110, 111, 112, 113, 114, 115, 116, 117, 118, 119, 120, 121, 122, 123, 124, 125, 126, 127, 128, 129, 130, 131, 132, 133, 134, 135, 136, 137, 138, 139, 140, 141, 142, 143, 144, 145, 146] (by decide +kernel) (by decide +kernel)
set_option maxRecDepth 20000 in
theorem gX3_pullA_X0_read : GoodIn wsX3_pullA (wsV RX3 125 RX0 yX0_read wsX0_read) := goodIn_app (goodIn_of _ (by decide +kernel)) ggX3_pullA_X0_read
set_option maxRecDepth 20000 in
theorem ggX3_pullA_X3_readStack : GoodIn wsX3_pullA wsX3_readStack := goodIn_r _ [72, 2, 3, 73, 6, 7, 8, 9, 10, 11, 12, 13, 14, 15, 16, 17, 18, 19, 20, 21, 22, 23, 24, 25, 26, 27, 28, 29, 30, 31, 32, 33, 34, 35, 36, 37, 38, 39, 40, 41, 42, 43, 44, 45, 46, 47, 48, 49, 50, 51, 52, 53, 54, 55, 56, 57, 58, 59, 60, 61, 62, 63, 64, 65, 66, 67, 89, 90, 91, 92, 93, 94, 95, 96, 97, 98, 99, 100, 101, 102, 103, 104, 105, 106, 107, 108, 109, 110, 111, 112, 113, 114, 115, 116, 117, 118, 119, 120, 121, 122, 123, 124, 125, 126, 127, 128, 129, 130, 131, 132, 133, 134, 135, 136, 137, 138, 139, 140, 141, 142, 143, 144, 145, 146] (by decide +kernel) (by decide +kernel)
set_option maxRecDepth 20000 in
theorem gX3_pullA_X3_readStack : GoodIn wsX3_pullA (wsV RX3 212 RX3 yX3_readStack wsX3_readStack) := goodIn_app (goodIn_of _ (by decide +kernel)) ggX3_pullA_X3_readStack
set_option maxRecDepth 20000 in
theorem ggX3_pullA_X3_growStack : GoodIn wsX3_pullA wsX3_growStack := goodIn_r _ [77, 3, 73, 89, 90, 91, 92, 93, 94, 95, 96, 97, 98, 99, 100, 101, 102, 103, 104, 105, 106, 107, 108] (by decide +kernel) (by decide +kernel)
set_option maxRecDepth 20000 in
theorem gX3_pullA_X3_growStack : GoodIn wsX3_pullA (wsV RX3 215 RX3 yX3_growStack wsX3_growStack) := goodIn_app (goodIn_of _ (by decide +kernel)) ggX3_pullA_X3_growStack
set_option maxRecDepth 20000 in
theorem ggX3_pullA_X4_judged : GoodIn wsX3_pullA wsX4_judged := goodIn_r _ [82, 83, 103, 104, 105, 106, 107, 108] (by decide +kernel) (by decide +kernel)
set_option maxRecDepth 20000 in
theorem gX3_pullA_X4_judged : GoodIn wsX3_pullA (wsV RX3 173 RX4 yX4_judged wsX4_judged) := goodIn_app (goodIn_of _ (by decide +kernel)) ggX3_pullA_X4_judged
set_option maxRecDepth 20000 in
theorem ggX3_pullA_X3_endInstruction : GoodIn wsX3_pullA wsX3_endInstruction := goodIn_r _ [87, 88, 1, 89, 90, 91, 92, 93, 94, 95, 96, 97, 98, 99, 100, 101, 102] (by decide +kernel) (by decide +kernel)
set_option maxRecDepth 20000 in
theorem gX3_pullA_X3_endInstruction : GoodIn wsX3_pullA (wsV RX3 61 RX3 yX3_endInstruction wsX3_endInstruction) := goodIn_app (goodIn_of _ (by decide +kernel)) ggX3_pullA_X3_endInstruction
theorem dX3_pullA_0 : decode cX3_pullA 0 = .ok (.aload_n 0, 1) := by decide +kernel
theorem dX3_pullA_1 : decode cX3_pullA 1 = .ok (.getfield 68, 3) := by decide +kernel
theorem dX3_pullA_4 : decode cX3_pullA 4 = .ok (.lookupswitch 58 #[(2, 28), (3, 46)], 28) := by decide +kernel
theorem dX3_pullA_32 : decode cX3_pullA 32 = .ok (.aload_n 0, 1) := by decide +kernel
theorem dX3_pullA_33 : decode cX3_pullA 33 = .ok (.getfield 26, 3) := by decide +kernel
theorem dX3_pullA_36 : decode cX3_pullA 36 = .ok (.aload_n 0, 1) := by decide +kernel
theorem dX3_pullA_37 : decode cX3_pullA 37 = .ok (.getfield 12, 3) := by decide +kernel
theorem dX3_pullA_40 : decode cX3_pullA 40 = .ok (.getfield 122, 3) := by decide +kernel
theorem dX3_pullA_43 : decode cX3_pullA 43 = .ok (.invokevirtual 125, 3) := by decide +kernel
theorem dX3_pullA_46 : decode cX3_pullA 46 = .ok (.pop, 1) := by decide +kernel
theorem dX3_pullA_47 : decode cX3_pullA 47 = .ok (.goto 37, 3) := by decide +kernel
theorem dX3_pullA_50 : decode cX3_pullA 50 = .ok (.aload_n 0, 1) := by decide +kernel
theorem dX3_pullA_51 : decode cX3_pullA 51 = .ok (.invokevirtual 212, 3) := by decide +kernel
theorem dX3_pullA_54 : decode cX3_pullA 54 = .ok (.pop, 1) := by decide +kernel
theorem dX3_pullA_55 : decode cX3_pullA 55 = .ok (.aload_n 0, 1) := by decide +kernel
theorem dX3_pullA_56 : decode cX3_pullA 56 = .ok (.invokevirtual 215, 3) := by decide +kernel
theorem dX3_pullA_59 : decode cX3_pullA 59 = .ok (.goto 25, 3) := by decide +kernel
theorem dX3_pullA_62 : decode cX3_pullA 62 = .ok (.aload_n 0, 1) := by decide +kernel
theorem dX3_pullA_63 : decode cX3_pullA 63 = .ok (.getfield 12, 3) := by decide +kernel
theorem dX3_pullA_66 : decode cX3_pullA 66 = .ok (.aload_n 0, 1) := by decide +kernel
theorem dX3_pullA_67 : decode cX3_pullA 67 = .ok (.getfield 12, 3) := by decide +kernel
theorem dX3_pullA_70 : decode cX3_pullA 70 = .ok (.aload_n 0, 1) := by decide +kernel
theorem dX3_pullA_71 : decode cX3_pullA 71 = .ok (.invokevirtual 212, 3) := by decide +kernel
theorem dX3_pullA_74 : decode cX3_pullA 74 = .ok (.invokevirtual 173, 3) := by decide +kernel
theorem dX3_pullA_77 : decode cX3_pullA 77 = .ok (.putfield 197, 3) := by decide +kernel
theorem dX3_pullA_80 : decode cX3_pullA 80 = .ok (.aload_n 0, 1) := by decide +kernel
theorem dX3_pullA_81 : decode cX3_pullA 81 = .ok (.invokevirtual 61, 3) := by decide +kernel
theorem dX3_pullA_84 : decode cX3_pullA 84 = .ok (.return_, 1) := by decide +kernel
theorem dX4_init_0 : decode cX4_init 0 = .ok (.aload_n 0, 1) := by decide +kernel
theorem dX4_init_1 : decode cX4_init 1 = .ok (.invokespecial 3, 3) := by decide +kernel
theorem dX4_init_4 : decode cX4_init 4 = .ok (.aload_n 0, 1) := by decide +kernel
theorem dX4_init_5 : decode cX4_init 5 = .ok (.sipush 255, 3) := by decide +kernel
theorem dX4_init_8 : decode cX4_init 8 = .ok (.putfield 9, 3) := by decide +kernel
theorem dX4_init_11 : decode cX4_init 11 = .ok (.aload_n 0, 1) := by decide +kernel
theorem dX4_init_12 : decode cX4_init 12 = .ok (.iconst 4, 1) := by decide +kernel
theorem dX4_init_13 : decode cX4_init 13 = .ok (.putfield 13, 3) := by decide +kernel
theorem dX4_init_16 : decode cX4_init 16 = .ok (.return_, 1) := by decide +kernel
theorem dX4_reset_0 : decode cX4_reset 0 = .ok (.aload_n 0, 1) := by decide +kernel
theorem dX4_reset_1 : decode cX4_reset 1 = .ok (.iconst 0, 1) := by decide +kernel
theorem dX4_reset_2 : decode cX4_reset 2 = .ok (.putfield 16, 3) := by decide +kernel
theorem dX4_reset_5 : decode cX4_reset 5 = .ok (.aload_n 0, 1) := by decide +kernel
theorem dX4_reset_6 : decode cX4_reset 6 = .ok (.iconst 0, 1) := by decide +kernel
theorem dX4_reset_7 : decode cX4_reset 7 = .ok (.putfield 19, 3) := by decide +kernel
theorem dX4_reset_10 : decode cX4_reset 10 = .ok (.aload_n 0, 1) := by decide +kernel
theorem dX4_reset_11 : decode cX4_reset 11 = .ok (.iconst 0, 1) := by decide +kernel
theorem dX4_reset_12 : decode cX4_reset 12 = .ok (.putfield 22, 3) := by decide +kernel
theorem dX4_reset_15 : decode cX4_reset 15 = .ok (.aload_n 0, 1) := by decide +kernel
theorem dX4_reset_16 : decode cX4_reset 16 = .ok (.sipush 255, 3) := by decide +kernel
theorem dX4_reset_19 : decode cX4_reset 19 = .ok (.putfield 9, 3) := by decide +kernel
theorem dX4_reset_22 : decode cX4_reset 22 = .ok (.aload_n 0, 1) := by decide +kernel
theorem dX4_reset_23 : decode cX4_reset 23 = .ok (.iconst 4, 1) := by decide +kernel
theorem dX4_reset_24 : decode cX4_reset 24 = .ok (.putfield 13, 3) := by decide +kernel
theorem dX4_reset_27 : decode cX4_reset 27 = .ok (.aload_n 0, 1) := by decide +kernel
theorem dX4_reset_28 : decode cX4_reset 28 = .ok (.iload_n 1, 1) := by decide +kernel
theorem dX4_reset_29 : decode cX4_reset 29 = .ok (.putfield 25, 3) := by decide +kernel
theorem dX4_reset_32 : decode cX4_reset 32 = .ok (.return_, 1) := by decide +kernel
theorem dX4_has_0 : decode cX4_has 0 = .ok (.aload_n 0, 1) := by decide +kernel
theorem dX4_has_1 : decode cX4_has 1 = .ok (.getfield 13, 3) := by decide +kernel
theorem dX4_has_4 : decode cX4_has 4 = .ok (.iload_n 1, 1) := by decide +kernel
theorem dX4_has_5 : decode cX4_has 5 = .ok (.iand, 1) := by decide +kernel
theorem dX4_has_6 : decode cX4_has 6 = .ok (.ifCond .eq 7, 3) := by decide +kernel
theorem dX4_has_9 : decode cX4_has 9 = .ok (.iconst 1, 1) := by decide +kernel
theorem dX4_has_10 : decode cX4_has 10 = .ok (.goto 4, 3) := by decide +kernel
theorem dX4_has_13 : decode cX4_has 13 = .ok (.iconst 0, 1) := by decide +kernel
theorem dX4_has_14 : decode cX4_has 14 = .ok (.ireturn, 1) := by decide +kernel
theorem dX4_put_0 : decode cX4_put 0 = .ok (.aload_n 0, 1) := by decide +kernel
theorem dX4_put_1 : decode cX4_put 1 = .ok (.iload_n 2, 1) := by decide +kernel
theorem dX4_put_2 : decode cX4_put 2 = .ok (.ifCond .eq 12, 3) := by decide +kernel
theorem dX4_put_5 : decode cX4_put 5 = .ok (.aload_n 0, 1) := by decide +kernel
theorem dX4_put_6 : decode cX4_put 6 = .ok (.getfield 13, 3) := by decide +kernel
theorem dX4_put_9 : decode cX4_put 9 = .ok (.iload_n 1, 1) := by decide +kernel
theorem dX4_put_10 : decode cX4_put 10 = .ok (.ior, 1) := by decide +kernel
theorem dX4_put_11 : decode cX4_put 11 = .ok (.goto 11, 3) := by decide +kernel
theorem dX4_put_14 : decode cX4_put 14 = .ok (.aload_n 0, 1) := by decide +kernel
theorem dX4_put_15 : decode cX4_put 15 = .ok (.getfield 13, 3) := by decide +kernel
theorem dX4_put_18 : decode cX4_put 18 = .ok (.iload_n 1, 1) := by decide +kernel
theorem dX4_put_19 : decode cX4_put 19 = .ok (.iconst (-1), 1) := by decide +kernel
theorem dX4_put_20 : decode cX4_put 20 = .ok (.ixor, 1) := by decide +kernel
theorem dX4_put_21 : decode cX4_put 21 = .ok (.iand, 1) := by decide +kernel
theorem dX4_put_22 : decode cX4_put 22 = .ok (.putfield 13, 3) := by decide +kernel
theorem dX4_put_25 : decode cX4_put 25 = .ok (.return_, 1) := by decide +kernel
theorem dX4_judged_0 : decode cX4_judged 0 = .ok (.iload_n 1, 1) := by decide +kernel
theorem dX4_judged_1 : decode cX4_judged 1 = .ok (.sipush 255, 3) := by decide +kernel
theorem dX4_judged_4 : decode cX4_judged 4 = .ok (.iand, 1) := by decide +kernel
theorem dX4_judged_5 : decode cX4_judged 5 = .ok (.istore_n 2, 1) := by decide +kernel
theorem dX4_judged_6 : decode cX4_judged 6 = .ok (.aload_n 0, 1) := by decide +kernel
theorem dX4_judged_7 : decode cX4_judged 7 = .ok (.aload_n 0, 1) := by decide +kernel
theorem dX4_judged_8 : decode cX4_judged 8 = .ok (.getfield 13, 3) := by decide +kernel
theorem dX4_judged_11 : decode cX4_judged 11 = .ok (.sipush (-131), 3) := by decide +kernel
theorem dX4_judged_14 : decode cX4_judged 14 = .ok (.iand, 1) := by decide +kernel
theorem dX4_judged_15 : decode cX4_judged 15 = .ok (.iload_n 2, 1) := by decide +kernel
theorem dX4_judged_16 : decode cX4_judged 16 = .ok (.ifCond .ne 7, 3) := by decide +kernel
theorem dX4_judged_19 : decode cX4_judged 19 = .ok (.iconst 2, 1) := by decide +kernel
theorem dX4_judged_20 : decode cX4_judged 20 = .ok (.goto 4, 3) := by decide +kernel
theorem dX4_judged_23 : decode cX4_judged 23 = .ok (.iconst 0, 1) := by decide +kernel
theorem dX4_judged_24 : decode cX4_judged 24 = .ok (.ior, 1) := by decide +kernel
theorem dX4_judged_25 : decode cX4_judged 25 = .ok (.iload_n 2, 1) := by decide +kernel
theorem dX4_judged_26 : decode cX4_judged 26 = .ok (.sipush 128, 3) := by decide +kernel
theorem dX4_judged_29 : decode cX4_judged 29 = .ok (.if_icmp .lt 9, 3) := by decide +kernel
theorem dX4_judged_32 : decode cX4_judged 32 = .ok (.sipush 128, 3) := by decide +kernel
theorem dX4_judged_35 : decode cX4_judged 35 = .ok (.goto 4, 3) := by decide +kernel
theorem dX4_judged_38 : decode cX4_judged 38 = .ok (.iconst 0, 1) := by decide +kernel
theorem dX4_judged_39 : decode cX4_judged 39 = .ok (.ior, 1) := by decide +kernel
theorem dX4_judged_40 : decode cX4_judged 40 = .ok (.putfield 13, 3) := by decide +kernel
theorem dX4_judged_43 : decode cX4_judged 43 = .ok (.iload_n 2, 1) := by decide +kernel
theorem dX4_judged_44 : decode cX4_judged 44 = .ok (.ireturn, 1) := by decide +kernel
set_option maxRecDepth 20000 in
theorem ggX4_calculate_X4_judged : GoodIn wsX4_calculate wsX4_judged := goodIn_r _ [6, 7, 27, 28, 29, 30, 31, 32] (by decide +kernel) (by decide +kernel)
set_option maxRecDepth 20000 in
theorem gX4_calculate_X4_judged : GoodIn wsX4_calculate (wsV RX4 28 RX4 yX4_judged wsX4_judged) := goodIn_app (goodIn_of _ (by decide +kernel)) ggX4_calculate_X4_judged
set_option maxRecDepth 20000 in
theorem ggX4_calculate_X4_has : GoodIn wsX4_calculate wsX4_has := goodIn_r _ [11, 7, 27, 28, 29, 30, 31, 32] (by decide +kernel) (by decide +kernel)
set_option maxRecDepth 20000 in
theorem gX4_calculate_X4_has : GoodIn wsX4_calculate (wsV RX4 32 RX4 yX4_has wsX4_has) := goodIn_app (goodIn_of _ (by decide +kernel)) ggX4_calculate_X4_has
set_option maxRecDepth 20000 in
theorem ggX4_calculate_X4_add : GoodIn wsX4_calculate wsX4_add := goodIn_r _ [15, 1, 7, 2, 3, 4, 5, 6, 16, 17, 18, 19, 20, 21, 22, 27, 28, 29, 30, 31, 32] (by decide +kernel) (by decide +kernel)
set_option maxRecDepth 20000 in
theorem gX4_calculate_X4_add : GoodIn wsX4_calculate (wsV RX4 36 RX4 yX4_add wsX4_add) := goodIn_app (goodIn_of _ (by decide +kernel)) ggX4_calculate_X4_add
set_option maxRecDepth 20000 in
theorem ggX4_calculate_X4_compare : GoodIn wsX4_calculate wsX4_compare := goodIn_r _ [26, 2, 3, 4, 5, 6, 7, 16, 17, 18, 19, 27, 28, 29, 30, 31, 32] (by decide +kernel) (by decide +kernel)
set_option maxRecDepth 20000 in
theorem gX4_calculate_X4_compare : GoodIn wsX4_calculate (wsV RX4 40 RX4 yX4_compare wsX4_compare) := goodIn_app (goodIn_of _ (by decide +kernel)) ggX4_calculate_X4_compare
theorem dX4_calculate_0 : decode cX4_calculate 0 = .ok (.iload_n 1, 1) := by decide +kernel
theorem dX4_calculate_1 : decode cX4_calculate 1 = .ok (.tableswitch 149 0 7 #[47, 64, 81, 98, 149, 112, 124, 136], 47) := by decide +kernel
theorem dX4_calculate_48 : decode cX4_calculate 48 = .ok (.aload_n 0, 1) := by decide +kernel
theorem dX4_calculate_49 : decode cX4_calculate 49 = .ok (.aload_n 0, 1) := by decide +kernel
theorem dX4_calculate_50 : decode cX4_calculate 50 = .ok (.aload_n 0, 1) := by decide +kernel
theorem dX4_calculate_51 : decode cX4_calculate 51 = .ok (.getfield 16, 3) := by decide +kernel
theorem dX4_calculate_54 : decode cX4_calculate 54 = .ok (.iload_n 2, 1) := by decide +kernel
theorem dX4_calculate_55 : decode cX4_calculate 55 = .ok (.ior, 1) := by decide +kernel
theorem dX4_calculate_56 : decode cX4_calculate 56 = .ok (.invokevirtual 28, 3) := by decide +kernel
theorem dX4_calculate_59 : decode cX4_calculate 59 = .ok (.putfield 16, 3) := by decide +kernel
theorem dX4_calculate_62 : decode cX4_calculate 62 = .ok (.goto 88, 3) := by decide +kernel
theorem dX4_calculate_65 : decode cX4_calculate 65 = .ok (.aload_n 0, 1) := by decide +kernel
theorem dX4_calculate_66 : decode cX4_calculate 66 = .ok (.aload_n 0, 1) := by decide +kernel
theorem dX4_calculate_67 : decode cX4_calculate 67 = .ok (.aload_n 0, 1) := by decide +kernel
theorem dX4_calculate_68 : decode cX4_calculate 68 = .ok (.getfield 16, 3) := by decide +kernel
theorem dX4_calculate_71 : decode cX4_calculate 71 = .ok (.iload_n 2, 1) := by decide +kernel
theorem dX4_calculate_72 : decode cX4_calculate 72 = .ok (.iand, 1) := by decide +kernel
theorem dX4_calculate_73 : decode cX4_calculate 73 = .ok (.invokevirtual 28, 3) := by decide +kernel
theorem dX4_calculate_76 : decode cX4_calculate 76 = .ok (.putfield 16, 3) := by decide +kernel
theorem dX4_calculate_79 : decode cX4_calculate 79 = .ok (.goto 71, 3) := by decide +kernel
theorem dX4_calculate_82 : decode cX4_calculate 82 = .ok (.aload_n 0, 1) := by decide +kernel
theorem dX4_calculate_83 : decode cX4_calculate 83 = .ok (.aload_n 0, 1) := by decide +kernel
theorem dX4_calculate_84 : decode cX4_calculate 84 = .ok (.aload_n 0, 1) := by decide +kernel
theorem dX4_calculate_85 : decode cX4_calculate 85 = .ok (.getfield 16, 3) := by decide +kernel
theorem dX4_calculate_88 : decode cX4_calculate 88 = .ok (.iload_n 2, 1) := by decide +kernel
theorem dX4_calculate_89 : decode cX4_calculate 89 = .ok (.ixor, 1) := by decide +kernel
theorem dX4_calculate_90 : decode cX4_calculate 90 = .ok (.invokevirtual 28, 3) := by decide +kernel
theorem dX4_calculate_93 : decode cX4_calculate 93 = .ok (.putfield 16, 3) := by decide +kernel
theorem dX4_calculate_96 : decode cX4_calculate 96 = .ok (.goto 54, 3) := by decide +kernel
theorem dX4_calculate_99 : decode cX4_calculate 99 = .ok (.aload_n 0, 1) := by decide +kernel
theorem dX4_calculate_100 : decode cX4_calculate 100 = .ok (.iload_n 2, 1) := by decide +kernel
theorem dX4_calculate_101 : decode cX4_calculate 101 = .ok (.aload_n 0, 1) := by decide +kernel
theorem dX4_calculate_102 : decode cX4_calculate 102 = .ok (.bipush 8, 2) := by decide +kernel
theorem dX4_calculate_104 : decode cX4_calculate 104 = .ok (.invokevirtual 32, 3) := by decide +kernel
theorem dX4_calculate_107 : decode cX4_calculate 107 = .ok (.invokevirtual 36, 3) := by decide +kernel
theorem dX4_calculate_110 : decode cX4_calculate 110 = .ok (.goto 40, 3) := by decide +kernel
theorem dX4_calculate_113 : decode cX4_calculate 113 = .ok (.aload_n 0, 1) := by decide +kernel
theorem dX4_calculate_114 : decode cX4_calculate 114 = .ok (.aload_n 0, 1) := by decide +kernel
theorem dX4_calculate_115 : decode cX4_calculate 115 = .ok (.iload_n 2, 1) := by decide +kernel
theorem dX4_calculate_116 : decode cX4_calculate 116 = .ok (.invokevirtual 28, 3) := by decide +kernel
theorem dX4_calculate_119 : decode cX4_calculate 119 = .ok (.putfield 16, 3) := by decide +kernel
theorem dX4_calculate_122 : decode cX4_calculate 122 = .ok (.goto 28, 3) := by decide +kernel
theorem dX4_calculate_125 : decode cX4_calculate 125 = .ok (.aload_n 0, 1) := by decide +kernel
theorem dX4_calculate_126 : decode cX4_calculate 126 = .ok (.aload_n 0, 1) := by decide +kernel
theorem dX4_calculate_127 : decode cX4_calculate 127 = .ok (.getfield 16, 3) := by decide +kernel
theorem dX4_calculate_130 : decode cX4_calculate 130 = .ok (.iload_n 2, 1) := by decide +kernel
theorem dX4_calculate_131 : decode cX4_calculate 131 = .ok (.invokevirtual 40, 3) := by decide +kernel
theorem dX4_calculate_134 : decode cX4_calculate 134 = .ok (.goto 16, 3) := by decide +kernel
theorem dX4_calculate_137 : decode cX4_calculate 137 = .ok (.aload_n 0, 1) := by decide +kernel
theorem dX4_calculate_138 : decode cX4_calculate 138 = .ok (.sipush 255, 3) := by decide +kernel
theorem dX4_calculate_141 : decode cX4_calculate 141 = .ok (.iload_n 2, 1) := by decide +kernel
theorem dX4_calculate_142 : decode cX4_calculate 142 = .ok (.isub, 1) := by decide +kernel
theorem dX4_calculate_143 : decode cX4_calculate 143 = .ok (.iconst 0, 1) := by decide +kernel
theorem dX4_calculate_144 : decode cX4_calculate 144 = .ok (.invokevirtual 36, 3) := by decide +kernel
theorem dX4_calculate_147 : decode cX4_calculate 147 = .ok (.goto 3, 3) := by decide +kernel
theorem dX4_calculate_150 : decode cX4_calculate 150 = .ok (.return_, 1) := by decide +kernel
set_option maxRecDepth 20000 in
theorem ggX4_compare_X4_judged : GoodIn wsX4_compare wsX4_judged := goodIn_r _ [5, 6, 11, 12, 13, 14, 15, 16] (by decide +kernel) (by decide +kernel)
set_option maxRecDepth 20000 in
theorem gX4_compare_X4_judged : GoodIn wsX4_compare (wsV RX4 28 RX4 yX4_judged wsX4_judged) := goodIn_app (goodIn_of _ (by decide +kernel)) ggX4_compare_X4_judged
set_option maxRecDepth 20000 in
theorem ggX4_compare_X4_put : GoodIn wsX4_compare wsX4_put := goodIn_r _ [10, 6, 11, 12, 13, 14, 15, 16] (by decide +kernel) (by decide +kernel)
set_option maxRecDepth 20000 in
theorem gX4_compare_X4_put : GoodIn wsX4_compare (wsV RX4 44 RX4 yX4_put wsX4_put) := goodIn_app (goodIn_of _ (by decide +kernel)) ggX4_compare_X4_put
theorem dX4_compare_0 : decode cX4_compare 0 = .ok (.aload_n 0, 1) := by decide +kernel
theorem dX4_compare_1 : decode cX4_compare 1 = .ok (.iload_n 1, 1) := by decide +kernel
theorem dX4_compare_2 : decode cX4_compare 2 = .ok (.iload_n 2, 1) := by decide +kernel
theorem dX4_compare_3 : decode cX4_compare 3 = .ok (.isub, 1) := by decide +kernel
theorem dX4_compare_4 : decode cX4_compare 4 = .ok (.invokevirtual 28, 3) := by decide +kernel
theorem dX4_compare_7 : decode cX4_compare 7 = .ok (.pop, 1) := by decide +kernel
theorem dX4_compare_8 : decode cX4_compare 8 = .ok (.aload_n 0, 1) := by decide +kernel
theorem dX4_compare_9 : decode cX4_compare 9 = .ok (.iconst 1, 1) := by decide +kernel
theorem dX4_compare_10 : decode cX4_compare 10 = .ok (.iload_n 1, 1) := by decide +kernel
theorem dX4_compare_11 : decode cX4_compare 11 = .ok (.iload_n 2, 1) := by decide +kernel
theorem dX4_compare_12 : decode cX4_compare 12 = .ok (.if_icmp .lt 7, 3) := by decide +kernel
theorem dX4_compare_15 : decode cX4_compare 15 = .ok (.iconst 1, 1) := by decide +kernel
theorem dX4_compare_16 : decode cX4_compare 16 = .ok (.goto 4, 3) := by decide +kernel
theorem dX4_compare_19 : decode cX4_compare 19 = .ok (.iconst 0, 1) := by decide +kernel
theorem dX4_compare_20 : decode cX4_compare 20 = .ok (.invokevirtual 44, 3) := by decide +kernel
theorem dX4_compare_23 : decode cX4_compare 23 = .ok (.return_, 1) := by decide +kernel
set_option maxRecDepth 20000 in
theorem ggX4_add_X4_judged : GoodIn wsX4_add wsX4_judged := goodIn_r _ [7, 2, 15, 16, 17, 18, 19, 20] (by decide +kernel) (by decide +kernel)
set_option maxRecDepth 20000 in
theorem gX4_add_X4_judged : GoodIn wsX4_add (wsV RX4 28 RX4 yX4_judged wsX4_judged) := goodIn_app (goodIn_of _ (by decide +kernel)) ggX4_add_X4_judged
set_option maxRecDepth 20000 in
theorem ggX4_add_X4_put : GoodIn wsX4_add wsX4_put := goodIn_r _ [11, 2, 15, 16, 17, 18, 19, 20] (by decide +kernel) (by decide +kernel)
set_option maxRecDepth 20000 in
theorem gX4_add_X4_put : GoodIn wsX4_add (wsV RX4 44 RX4 yX4_put wsX4_put) := goodIn_app (goodIn_of _ (by decide +kernel)) ggX4_add_X4_put
set_option maxRecDepth 20000 in
theorem ggX4_add_X4_decimalSum : GoodIn wsX4_add wsX4_decimalSum := goodIn_r _ [14] (by decide +kernel) (by decide +kernel)
set_option maxRecDepth 20000 in
theorem gX4_add_X4_decimalSum : GoodIn wsX4_add (va_wsS RX4 47 yX4_decimalSum wsX4_decimalSum) := goodIn_app (goodIn_of _ (by decide +kernel)) ggX4_add_X4_decimalSum
theorem dX4_add_0 : decode cX4_add 0 = .ok (.aload_n 0, 1) := by decide +kernel
theorem dX4_add_1 : decode cX4_add 1 = .ok (.getfield 16, 3) := by decide +kernel
theorem dX4_add_4 : decode cX4_add 4 = .ok (.istore_n 3, 1) := by decide +kernel
theorem dX4_add_5 : decode cX4_add 5 = .ok (.aload_n 0, 1) := by decide +kernel
theorem dX4_add_6 : decode cX4_add 6 = .ok (.getfield 13, 3) := by decide +kernel
theorem dX4_add_9 : decode cX4_add 9 = .ok (.iconst 1, 1) := by decide +kernel
theorem dX4_add_10 : decode cX4_add 10 = .ok (.iand, 1) := by decide +kernel
theorem dX4_add_11 : decode cX4_add 11 = .ok (.istore 4, 2) := by decide +kernel
theorem dX4_add_13 : decode cX4_add 13 = .ok (.iload_n 3, 1) := by decide +kernel
theorem dX4_add_14 : decode cX4_add 14 = .ok (.iload_n 1, 1) := by decide +kernel
theorem dX4_add_15 : decode cX4_add 15 = .ok (.iadd, 1) := by decide +kernel
theorem dX4_add_16 : decode cX4_add 16 = .ok (.iload 4, 2) := by decide +kernel
theorem dX4_add_18 : decode cX4_add 18 = .ok (.iadd, 1) := by decide +kernel
theorem dX4_add_19 : decode cX4_add 19 = .ok (.istore 5, 2) := by decide +kernel
theorem dX4_add_21 : decode cX4_add 21 = .ok (.aload_n 0, 1) := by decide +kernel
theorem dX4_add_22 : decode cX4_add 22 = .ok (.aload_n 0, 1) := by decide +kernel
theorem dX4_add_23 : decode cX4_add 23 = .ok (.iload 5, 2) := by decide +kernel
theorem dX4_add_25 : decode cX4_add 25 = .ok (.invokevirtual 28, 3) := by decide +kernel
theorem dX4_add_28 : decode cX4_add 28 = .ok (.putfield 16, 3) := by decide +kernel
theorem dX4_add_31 : decode cX4_add 31 = .ok (.aload_n 0, 1) := by decide +kernel
theorem dX4_add_32 : decode cX4_add 32 = .ok (.bipush 64, 2) := by decide +kernel
theorem dX4_add_34 : decode cX4_add 34 = .ok (.iload_n 3, 1) := by decide +kernel
theorem dX4_add_35 : decode cX4_add 35 = .ok (.iload_n 1, 1) := by decide +kernel
theorem dX4_add_36 : decode cX4_add 36 = .ok (.ixor, 1) := by decide +kernel
theorem dX4_add_37 : decode cX4_add 37 = .ok (.sipush 128, 3) := by decide +kernel
theorem dX4_add_40 : decode cX4_add 40 = .ok (.iand, 1) := by decide +kernel
theorem dX4_add_41 : decode cX4_add 41 = .ok (.ifCond .ne 20, 3) := by decide +kernel
theorem dX4_add_44 : decode cX4_add 44 = .ok (.iload_n 3, 1) := by decide +kernel
theorem dX4_add_45 : decode cX4_add 45 = .ok (.aload_n 0, 1) := by decide +kernel
theorem dX4_add_46 : decode cX4_add 46 = .ok (.getfield 16, 3) := by decide +kernel
theorem dX4_add_49 : decode cX4_add 49 = .ok (.ixor, 1) := by decide +kernel
theorem dX4_add_50 : decode cX4_add 50 = .ok (.sipush 128, 3) := by decide +kernel
theorem dX4_add_53 : decode cX4_add 53 = .ok (.iand, 1) := by decide +kernel
theorem dX4_add_54 : decode cX4_add 54 = .ok (.ifCond .eq 7, 3) := by decide +kernel
theorem dX4_add_57 : decode cX4_add 57 = .ok (.iconst 1, 1) := by decide +kernel
theorem dX4_add_58 : decode cX4_add 58 = .ok (.goto 4, 3) := by decide +kernel
theorem dX4_add_61 : decode cX4_add 61 = .ok (.iconst 0, 1) := by decide +kernel
theorem dX4_add_62 : decode cX4_add 62 = .ok (.invokevirtual 44, 3) := by decide +kernel
theorem dX4_add_65 : decode cX4_add 65 = .ok (.iload_n 2, 1) := by decide +kernel
theorem dX4_add_66 : decode cX4_add 66 = .ok (.ifCond .eq 22, 3) := by decide +kernel
theorem dX4_add_69 : decode cX4_add 69 = .ok (.iload_n 3, 1) := by decide +kernel
theorem dX4_add_70 : decode cX4_add 70 = .ok (.iload_n 1, 1) := by decide +kernel
theorem dX4_add_71 : decode cX4_add 71 = .ok (.iload 4, 2) := by decide +kernel
theorem dX4_add_73 : decode cX4_add 73 = .ok (.invokestatic 47, 3) := by decide +kernel
theorem dX4_add_76 : decode cX4_add 76 = .ok (.istore 5, 2) := by decide +kernel
theorem dX4_add_78 : decode cX4_add 78 = .ok (.aload_n 0, 1) := by decide +kernel
theorem dX4_add_79 : decode cX4_add 79 = .ok (.iload 5, 2) := by decide +kernel
theorem dX4_add_81 : decode cX4_add 81 = .ok (.sipush 255, 3) := by decide +kernel
theorem dX4_add_84 : decode cX4_add 84 = .ok (.iand, 1) := by decide +kernel
theorem dX4_add_85 : decode cX4_add 85 = .ok (.putfield 16, 3) := by decide +kernel
theorem dX4_add_88 : decode cX4_add 88 = .ok (.aload_n 0, 1) := by decide +kernel
theorem dX4_add_89 : decode cX4_add 89 = .ok (.iconst 1, 1) := by decide +kernel
theorem dX4_add_90 : decode cX4_add 90 = .ok (.iload 5, 2) := by decide +kernel
theorem dX4_add_92 : decode cX4_add 92 = .ok (.sipush 255, 3) := by decide +kernel
theorem dX4_add_95 : decode cX4_add 95 = .ok (.if_icmp .le 7, 3) := by decide +kernel
theorem dX4_add_98 : decode cX4_add 98 = .ok (.iconst 1, 1) := by decide +kernel
theorem dX4_add_99 : decode cX4_add 99 = .ok (.goto 4, 3) := by decide +kernel
theorem dX4_add_102 : decode cX4_add 102 = .ok (.iconst 0, 1) := by decide +kernel
theorem dX4_add_103 : decode cX4_add 103 = .ok (.invokevirtual 44, 3) := by decide +kernel
theorem dX4_add_106 : decode cX4_add 106 = .ok (.return_, 1) := by decide +kernel
theorem dX4_decimalSum_0 : decode cX4_decimalSum 0 = .ok (.iload_n 0, 1) := by decide +kernel
theorem dX4_decimalSum_1 : decode cX4_decimalSum 1 = .ok (.bipush 15, 2) := by decide +kernel
theorem dX4_decimalSum_3 : decode cX4_decimalSum 3 = .ok (.iand, 1) := by decide +kernel
theorem dX4_decimalSum_4 : decode cX4_decimalSum 4 = .ok (.iload_n 1, 1) := by decide +kernel
theorem dX4_decimalSum_5 : decode cX4_decimalSum 5 = .ok (.bipush 15, 2) := by decide +kernel
theorem dX4_decimalSum_7 : decode cX4_decimalSum 7 = .ok (.iand, 1) := by decide +kernel
theorem dX4_decimalSum_8 : decode cX4_decimalSum 8 = .ok (.iadd, 1) := by decide +kernel
theorem dX4_decimalSum_9 : decode cX4_decimalSum 9 = .ok (.iload_n 2, 1) := by decide +kernel
theorem dX4_decimalSum_10 : decode cX4_decimalSum 10 = .ok (.iadd, 1) := by decide +kernel
theorem dX4_decimalSum_11 : decode cX4_decimalSum 11 = .ok (.istore_n 3, 1) := by decide +kernel
theorem dX4_decimalSum_12 : decode cX4_decimalSum 12 = .ok (.iload_n 3, 1) := by decide +kernel
theorem dX4_decimalSum_13 : decode cX4_decimalSum 13 = .ok (.bipush 9, 2) := by decide +kernel
theorem dX4_decimalSum_15 : decode cX4_decimalSum 15 = .ok (.if_icmp .le 6, 3) := by decide +kernel
theorem dX4_decimalSum_18 : decode cX4_decimalSum 18 = .ok (.iinc 3 6, 3) := by decide +kernel
theorem dX4_decimalSum_21 : decode cX4_decimalSum 21 = .ok (.iload_n 0, 1) := by decide +kernel
theorem dX4_decimalSum_22 : decode cX4_decimalSum 22 = .ok (.iconst 4, 1) := by decide +kernel
theorem dX4_decimalSum_23 : decode cX4_decimalSum 23 = .ok (.ishr, 1) := by decide +kernel
theorem dX4_decimalSum_24 : decode cX4_decimalSum 24 = .ok (.iload_n 1, 1) := by decide +kernel
theorem dX4_decimalSum_25 : decode cX4_decimalSum 25 = .ok (.iconst 4, 1) := by decide +kernel
theorem dX4_decimalSum_26 : decode cX4_decimalSum 26 = .ok (.ishr, 1) := by decide +kernel
theorem dX4_decimalSum_27 : decode cX4_decimalSum 27 = .ok (.iadd, 1) := by decide +kernel
theorem dX4_decimalSum_28 : decode cX4_decimalSum 28 = .ok (.iload_n 3, 1) := by decide +kernel
theorem dX4_decimalSum_29 : decode cX4_decimalSum 29 = .ok (.bipush 15, 2) := by decide +kernel
theorem dX4_decimalSum_31 : decode cX4_decimalSum 31 = .ok (.if_icmp .le 7, 3) := by decide +kernel
theorem dX4_decimalSum_34 : decode cX4_decimalSum 34 = .ok (.iconst 1, 1) := by decide +kernel
theorem dX4_decimalSum_35 : decode cX4_decimalSum 35 = .ok (.goto 4, 3) := by decide +kernel
theorem dX4_decimalSum_38 : decode cX4_decimalSum 38 = .ok (.iconst 0, 1) := by decide +kernel
theorem dX4_decimalSum_39 : decode cX4_decimalSum 39 = .ok (.iadd, 1) := by decide +kernel
theorem dX4_decimalSum_40 : decode cX4_decimalSum 40 = .ok (.istore 4, 2) := by decide +kernel
theorem dX4_decimalSum_42 : decode cX4_decimalSum 42 = .ok (.iload 4, 2) := by decide +kernel
theorem dX4_decimalSum_44 : decode cX4_decimalSum 44 = .ok (.bipush 9, 2) := by decide +kernel
theorem dX4_decimalSum_46 : decode cX4_decimalSum 46 = .ok (.if_icmp .le 6, 3) := by decide +kernel
theorem dX4_decimalSum_49 : decode cX4_decimalSum 49 = .ok (.iinc 4 6, 3) := by decide +kernel
theorem dX4_decimalSum_52 : decode cX4_decimalSum 52 = .ok (.bipush 16, 2) := by decide +kernel
theorem dX4_decimalSum_54 : decode cX4_decimalSum 54 = .ok (.iload 4, 2) := by decide +kernel
theorem dX4_decimalSum_56 : decode cX4_decimalSum 56 = .ok (.imul, 1) := by decide +kernel
theorem dX4_decimalSum_57 : decode cX4_decimalSum 57 = .ok (.iload_n 3, 1) := by decide +kernel
theorem dX4_decimalSum_58 : decode cX4_decimalSum 58 = .ok (.bipush 15, 2) := by decide +kernel
theorem dX4_decimalSum_60 : decode cX4_decimalSum 60 = .ok (.iand, 1) := by decide +kernel
theorem dX4_decimalSum_61 : decode cX4_decimalSum 61 = .ok (.iadd, 1) := by decide +kernel
theorem dX4_decimalSum_62 : decode cX4_decimalSum 62 = .ok (.ireturn, 1) := by decide +kernel
set_option maxRecDepth 20000 in
theorem ggX4_single_X4_put : GoodIn wsX4_single wsX4_put := goodIn_r _ [8, 9, 14, 15, 16, 17, 18, 19] (by decide +kernel) (by decide +kernel)
set_option maxRecDepth 20000 in
theorem gX4_single_X4_put : GoodIn wsX4_single (wsV RX4 44 RX4 yX4_put wsX4_put) := goodIn_app (goodIn_of _ (by decide +kernel)) ggX4_single_X4_put
set_option maxRecDepth 20000 in
theorem ggX4_single_X4_judged : GoodIn wsX4_single wsX4_judged := goodIn_r _ [13, 9, 14, 15, 16, 17, 18, 19] (by decide +kernel) (by decide +kernel)
set_option maxRecDepth 20000 in
theorem gX4_single_X4_judged : GoodIn wsX4_single (wsV RX4 28 RX4 yX4_judged wsX4_judged) := goodIn_app (goodIn_of _ (by decide +kernel)) ggX4_single_X4_judged
theorem dX4_single_0 : decode cX4_single 0 = .ok (.iload_n 1, 1) := by decide +kernel
theorem dX4_single_1 : decode cX4_single 1 = .ok (.lookupswitch 396 #[(10, 323), (24, 139), (56, 148), (74, 360), (88, 157), (120, 166), (136, 306), (138, 210), (152, 240), (168, 225), (170, 195), (200, 272), (202, 289), (216, 175), (232, 255), (248, 185)], 139) := by decide +kernel
theorem dX4_single_140 : decode cX4_single 140 = .ok (.aload_n 0, 1) := by decide +kernel
theorem dX4_single_141 : decode cX4_single 141 = .ok (.iconst 1, 1) := by decide +kernel
theorem dX4_single_142 : decode cX4_single 142 = .ok (.iconst 0, 1) := by decide +kernel
theorem dX4_single_143 : decode cX4_single 143 = .ok (.invokevirtual 44, 3) := by decide +kernel
theorem dX4_single_146 : decode cX4_single 146 = .ok (.goto 251, 3) := by decide +kernel
theorem dX4_single_149 : decode cX4_single 149 = .ok (.aload_n 0, 1) := by decide +kernel
theorem dX4_single_150 : decode cX4_single 150 = .ok (.iconst 1, 1) := by decide +kernel
theorem dX4_single_151 : decode cX4_single 151 = .ok (.iconst 1, 1) := by decide +kernel
theorem dX4_single_152 : decode cX4_single 152 = .ok (.invokevirtual 44, 3) := by decide +kernel
theorem dX4_single_155 : decode cX4_single 155 = .ok (.goto 242, 3) := by decide +kernel
theorem dX4_single_158 : decode cX4_single 158 = .ok (.aload_n 0, 1) := by decide +kernel
theorem dX4_single_159 : decode cX4_single 159 = .ok (.iconst 4, 1) := by decide +kernel
theorem dX4_single_160 : decode cX4_single 160 = .ok (.iconst 0, 1) := by decide +kernel
theorem dX4_single_161 : decode cX4_single 161 = .ok (.invokevirtual 44, 3) := by decide +kernel
theorem dX4_single_164 : decode cX4_single 164 = .ok (.goto 233, 3) := by decide +kernel
theorem dX4_single_167 : decode cX4_single 167 = .ok (.aload_n 0, 1) := by decide +kernel
theorem dX4_single_168 : decode cX4_single 168 = .ok (.iconst 4, 1) := by decide +kernel
theorem dX4_single_169 : decode cX4_single 169 = .ok (.iconst 1, 1) := by decide +kernel
theorem dX4_single_170 : decode cX4_single 170 = .ok (.invokevirtual 44, 3) := by decide +kernel
theorem dX4_single_173 : decode cX4_single 173 = .ok (.goto 224, 3) := by decide +kernel
theorem dX4_single_176 : decode cX4_single 176 = .ok (.aload_n 0, 1) := by decide +kernel
theorem dX4_single_177 : decode cX4_single 177 = .ok (.bipush 8, 2) := by decide +kernel
theorem dX4_single_179 : decode cX4_single 179 = .ok (.iconst 0, 1) := by decide +kernel
theorem dX4_single_180 : decode cX4_single 180 = .ok (.invokevirtual 44, 3) := by decide +kernel
theorem dX4_single_183 : decode cX4_single 183 = .ok (.goto 214, 3) := by decide +kernel
theorem dX4_single_186 : decode cX4_single 186 = .ok (.aload_n 0, 1) := by decide +kernel
theorem dX4_single_187 : decode cX4_single 187 = .ok (.bipush 8, 2) := by decide +kernel
theorem dX4_single_189 : decode cX4_single 189 = .ok (.iconst 1, 1) := by decide +kernel
theorem dX4_single_190 : decode cX4_single 190 = .ok (.invokevirtual 44, 3) := by decide +kernel
theorem dX4_single_193 : decode cX4_single 193 = .ok (.goto 204, 3) := by decide +kernel
theorem dX4_single_196 : decode cX4_single 196 = .ok (.aload_n 0, 1) := by decide +kernel
theorem dX4_single_197 : decode cX4_single 197 = .ok (.aload_n 0, 1) := by decide +kernel
theorem dX4_single_198 : decode cX4_single 198 = .ok (.aload_n 0, 1) := by decide +kernel
theorem dX4_single_199 : decode cX4_single 199 = .ok (.getfield 16, 3) := by decide +kernel
theorem dX4_single_202 : decode cX4_single 202 = .ok (.invokevirtual 28, 3) := by decide +kernel
theorem dX4_single_205 : decode cX4_single 205 = .ok (.putfield 19, 3) := by decide +kernel
theorem dX4_single_208 : decode cX4_single 208 = .ok (.goto 189, 3) := by decide +kernel
theorem dX4_single_211 : decode cX4_single 211 = .ok (.aload_n 0, 1) := by decide +kernel
theorem dX4_single_212 : decode cX4_single 212 = .ok (.aload_n 0, 1) := by decide +kernel
theorem dX4_single_213 : decode cX4_single 213 = .ok (.aload_n 0, 1) := by decide +kernel
theorem dX4_single_214 : decode cX4_single 214 = .ok (.getfield 19, 3) := by decide +kernel
theorem dX4_single_217 : decode cX4_single 217 = .ok (.invokevirtual 28, 3) := by decide +kernel
theorem dX4_single_220 : decode cX4_single 220 = .ok (.putfield 16, 3) := by decide +kernel
theorem dX4_single_223 : decode cX4_single 223 = .ok (.goto 174, 3) := by decide +kernel
theorem dX4_single_226 : decode cX4_single 226 = .ok (.aload_n 0, 1) := by decide +kernel
theorem dX4_single_227 : decode cX4_single 227 = .ok (.aload_n 0, 1) := by decide +kernel
theorem dX4_single_228 : decode cX4_single 228 = .ok (.aload_n 0, 1) := by decide +kernel
theorem dX4_single_229 : decode cX4_single 229 = .ok (.getfield 16, 3) := by decide +kernel
theorem dX4_single_232 : decode cX4_single 232 = .ok (.invokevirtual 28, 3) := by decide +kernel
theorem dX4_single_235 : decode cX4_single 235 = .ok (.putfield 22, 3) := by decide +kernel
theorem dX4_single_238 : decode cX4_single 238 = .ok (.goto 159, 3) := by decide +kernel
theorem dX4_single_241 : decode cX4_single 241 = .ok (.aload_n 0, 1) := by decide +kernel
theorem dX4_single_242 : decode cX4_single 242 = .ok (.aload_n 0, 1) := by decide +kernel
theorem dX4_single_243 : decode cX4_single 243 = .ok (.aload_n 0, 1) := by decide +kernel
theorem dX4_single_244 : decode cX4_single 244 = .ok (.getfield 22, 3) := by decide +kernel
theorem dX4_single_247 : decode cX4_single 247 = .ok (.invokevirtual 28, 3) := by decide +kernel
theorem dX4_single_250 : decode cX4_single 250 = .ok (.putfield 16, 3) := by decide +kernel
theorem dX4_single_253 : decode cX4_single 253 = .ok (.goto 144, 3) := by decide +kernel
theorem dX4_single_256 : decode cX4_single 256 = .ok (.aload_n 0, 1) := by decide +kernel
theorem dX4_single_257 : decode cX4_single 257 = .ok (.aload_n 0, 1) := by decide +kernel
theorem dX4_single_258 : decode cX4_single 258 = .ok (.aload_n 0, 1) := by decide +kernel
theorem dX4_single_259 : decode cX4_single 259 = .ok (.getfield 19, 3) := by decide +kernel
theorem dX4_single_262 : decode cX4_single 262 = .ok (.iconst 1, 1) := by decide +kernel
theorem dX4_single_263 : decode cX4_single 263 = .ok (.iadd, 1) := by decide +kernel
theorem dX4_single_264 : decode cX4_single 264 = .ok (.invokevirtual 28, 3) := by decide +kernel
theorem dX4_single_267 : decode cX4_single 267 = .ok (.putfield 19, 3) := by decide +kernel
theorem dX4_single_270 : decode cX4_single 270 = .ok (.goto 127, 3) := by decide +kernel
theorem dX4_single_273 : decode cX4_single 273 = .ok (.aload_n 0, 1) := by decide +kernel
theorem dX4_single_274 : decode cX4_single 274 = .ok (.aload_n 0, 1) := by decide +kernel
theorem dX4_single_275 : decode cX4_single 275 = .ok (.aload_n 0, 1) := by decide +kernel
theorem dX4_single_276 : decode cX4_single 276 = .ok (.getfield 22, 3) := by decide +kernel
theorem dX4_single_279 : decode cX4_single 279 = .ok (.iconst 1, 1) := by decide +kernel
theorem dX4_single_280 : decode cX4_single 280 = .ok (.iadd, 1) := by decide +kernel
theorem dX4_single_281 : decode cX4_single 281 = .ok (.invokevirtual 28, 3) := by decide +kernel
theorem dX4_single_284 : decode cX4_single 284 = .ok (.putfield 22, 3) := by decide +kernel
theorem dX4_single_287 : decode cX4_single 287 = .ok (.goto 110, 3) := by decide +kernel
theorem dX4_single_290 : decode cX4_single 290 = .ok (.aload_n 0, 1) := by decide +kernel
theorem dX4_single_291 : decode cX4_single 291 = .ok (.aload_n 0, 1) := by decide +kernel
theorem dX4_single_292 : decode cX4_single 292 = .ok (.aload_n 0, 1) := by decide +kernel
theorem dX4_single_293 : decode cX4_single 293 = .ok (.getfield 19, 3) := by decide +kernel
theorem dX4_single_296 : decode cX4_single 296 = .ok (.iconst 1, 1) := by decide +kernel
theorem dX4_single_297 : decode cX4_single 297 = .ok (.isub, 1) := by decide +kernel
theorem dX4_single_298 : decode cX4_single 298 = .ok (.invokevirtual 28, 3) := by decide +kernel
theorem dX4_single_301 : decode cX4_single 301 = .ok (.putfield 19, 3) := by decide +kernel
theorem dX4_single_304 : decode cX4_single 304 = .ok (.goto 93, 3) := by decide +kernel
theorem dX4_single_307 : decode cX4_single 307 = .ok (.aload_n 0, 1) := by decide +kernel
theorem dX4_single_308 : decode cX4_single 308 = .ok (.aload_n 0, 1) := by decide +kernel
theorem dX4_single_309 : decode cX4_single 309 = .ok (.aload_n 0, 1) := by decide +kernel
theorem dX4_single_310 : decode cX4_single 310 = .ok (.getfield 22, 3) := by decide +kernel
theorem dX4_single_313 : decode cX4_single 313 = .ok (.iconst 1, 1) := by decide +kernel
theorem dX4_single_314 : decode cX4_single 314 = .ok (.isub, 1) := by decide +kernel
theorem dX4_single_315 : decode cX4_single 315 = .ok (.invokevirtual 28, 3) := by decide +kernel
theorem dX4_single_318 : decode cX4_single 318 = .ok (.putfield 22, 3) := by decide +kernel
theorem dX4_single_321 : decode cX4_single 321 = .ok (.goto 76, 3) := by decide +kernel
theorem dX4_single_324 : decode cX4_single 324 = .ok (.aload_n 0, 1) := by decide +kernel
theorem dX4_single_325 : decode cX4_single 325 = .ok (.iconst 1, 1) := by decide +kernel
theorem dX4_single_326 : decode cX4_single 326 = .ok (.aload_n 0, 1) := by decide +kernel
theorem dX4_single_327 : decode cX4_single 327 = .ok (.getfield 16, 3) := by decide +kernel
theorem dX4_single_330 : decode cX4_single 330 = .ok (.sipush 128, 3) := by decide +kernel
theorem dX4_single_333 : decode cX4_single 333 = .ok (.if_icmp .lt 7, 3) := by decide +kernel
theorem dX4_single_336 : decode cX4_single 336 = .ok (.iconst 1, 1) := by decide +kernel
theorem dX4_single_337 : decode cX4_single 337 = .ok (.goto 4, 3) := by decide +kernel
theorem dX4_single_340 : decode cX4_single 340 = .ok (.iconst 0, 1) := by decide +kernel
theorem dX4_single_341 : decode cX4_single 341 = .ok (.invokevirtual 44, 3) := by decide +kernel
theorem dX4_single_344 : decode cX4_single 344 = .ok (.aload_n 0, 1) := by decide +kernel
theorem dX4_single_345 : decode cX4_single 345 = .ok (.aload_n 0, 1) := by decide +kernel
theorem dX4_single_346 : decode cX4_single 346 = .ok (.aload_n 0, 1) := by decide +kernel
theorem dX4_single_347 : decode cX4_single 347 = .ok (.getfield 16, 3) := by decide +kernel
theorem dX4_single_350 : decode cX4_single 350 = .ok (.iconst 2, 1) := by decide +kernel
theorem dX4_single_351 : decode cX4_single 351 = .ok (.imul, 1) := by decide +kernel
theorem dX4_single_352 : decode cX4_single 352 = .ok (.invokevirtual 28, 3) := by decide +kernel
theorem dX4_single_355 : decode cX4_single 355 = .ok (.putfield 16, 3) := by decide +kernel
theorem dX4_single_358 : decode cX4_single 358 = .ok (.goto 39, 3) := by decide +kernel
theorem dX4_single_361 : decode cX4_single 361 = .ok (.aload_n 0, 1) := by decide +kernel
theorem dX4_single_362 : decode cX4_single 362 = .ok (.iconst 1, 1) := by decide +kernel
theorem dX4_single_363 : decode cX4_single 363 = .ok (.aload_n 0, 1) := by decide +kernel
theorem dX4_single_364 : decode cX4_single 364 = .ok (.getfield 16, 3) := by decide +kernel
theorem dX4_single_367 : decode cX4_single 367 = .ok (.iconst 1, 1) := by decide +kernel
theorem dX4_single_368 : decode cX4_single 368 = .ok (.iand, 1) := by decide +kernel
theorem dX4_single_369 : decode cX4_single 369 = .ok (.ifCond .eq 7, 3) := by decide +kernel
theorem dX4_single_372 : decode cX4_single 372 = .ok (.iconst 1, 1) := by decide +kernel
theorem dX4_single_373 : decode cX4_single 373 = .ok (.goto 4, 3) := by decide +kernel
theorem dX4_single_376 : decode cX4_single 376 = .ok (.iconst 0, 1) := by decide +kernel
theorem dX4_single_377 : decode cX4_single 377 = .ok (.invokevirtual 44, 3) := by decide +kernel
theorem dX4_single_380 : decode cX4_single 380 = .ok (.aload_n 0, 1) := by decide +kernel
theorem dX4_single_381 : decode cX4_single 381 = .ok (.aload_n 0, 1) := by decide +kernel
theorem dX4_single_382 : decode cX4_single 382 = .ok (.aload_n 0, 1) := by decide +kernel
theorem dX4_single_383 : decode cX4_single 383 = .ok (.getfield 16, 3) := by decide +kernel
theorem dX4_single_386 : decode cX4_single 386 = .ok (.iconst 2, 1) := by decide +kernel
theorem dX4_single_387 : decode cX4_single 387 = .ok (.idiv, 1) := by decide +kernel
theorem dX4_single_388 : decode cX4_single 388 = .ok (.invokevirtual 28, 3) := by decide +kernel
theorem dX4_single_391 : decode cX4_single 391 = .ok (.putfield 16, 3) := by decide +kernel
theorem dX4_single_394 : decode cX4_single 394 = .ok (.goto 3, 3) := by decide +kernel
theorem dX4_single_397 : decode cX4_single 397 = .ok (.return_, 1) := by decide +kernel
set_option maxRecDepth 20000 in
theorem ggX4_branches_X4_has : GoodIn wsX4_branches wsX4_has := goodIn_r _ [5, 6, 7, 8, 9, 10, 11, 12] (by decide +kernel) (by decide +kernel)
set_option maxRecDepth 20000 in
theorem gX4_branches_X4_has : GoodIn wsX4_branches (wsV RX4 32 RX4 yX4_has wsX4_has) := goodIn_app (goodIn_of _ (by decide +kernel)) ggX4_branches_X4_has
theorem dX4_branches_0 : decode cX4_branches 0 = .ok (.iload_n 1, 1) := by decide +kernel
theorem dX4_branches_1 : decode cX4_branches 1 = .ok (.bipush 64, 2) := by decide +kernel
theorem dX4_branches_3 : decode cX4_branches 3 = .ok (.if_icmp .ge 9, 3) := by decide +kernel
theorem dX4_branches_6 : decode cX4_branches 6 = .ok (.sipush 128, 3) := by decide +kernel
theorem dX4_branches_9 : decode cX4_branches 9 = .ok (.goto 27, 3) := by decide +kernel
theorem dX4_branches_12 : decode cX4_branches 12 = .ok (.iload_n 1, 1) := by decide +kernel
theorem dX4_branches_13 : decode cX4_branches 13 = .ok (.sipush 128, 3) := by decide +kernel
theorem dX4_branches_16 : decode cX4_branches 16 = .ok (.if_icmp .ge 8, 3) := by decide +kernel
theorem dX4_branches_19 : decode cX4_branches 19 = .ok (.bipush 64, 2) := by decide +kernel
theorem dX4_branches_21 : decode cX4_branches 21 = .ok (.goto 15, 3) := by decide +kernel
theorem dX4_branches_24 : decode cX4_branches 24 = .ok (.iload_n 1, 1) := by decide +kernel
theorem dX4_branches_25 : decode cX4_branches 25 = .ok (.sipush 192, 3) := by decide +kernel
theorem dX4_branches_28 : decode cX4_branches 28 = .ok (.if_icmp .ge 7, 3) := by decide +kernel
theorem dX4_branches_31 : decode cX4_branches 31 = .ok (.iconst 1, 1) := by decide +kernel
theorem dX4_branches_32 : decode cX4_branches 32 = .ok (.goto 4, 3) := by decide +kernel
theorem dX4_branches_35 : decode cX4_branches 35 = .ok (.iconst 2, 1) := by decide +kernel
theorem dX4_branches_36 : decode cX4_branches 36 = .ok (.istore_n 2, 1) := by decide +kernel
theorem dX4_branches_37 : decode cX4_branches 37 = .ok (.iload_n 1, 1) := by decide +kernel
theorem dX4_branches_38 : decode cX4_branches 38 = .ok (.bipush 32, 2) := by decide +kernel
theorem dX4_branches_40 : decode cX4_branches 40 = .ok (.iand, 1) := by decide +kernel
theorem dX4_branches_41 : decode cX4_branches 41 = .ok (.ifCond .eq 7, 3) := by decide +kernel
theorem dX4_branches_44 : decode cX4_branches 44 = .ok (.iconst 1, 1) := by decide +kernel
theorem dX4_branches_45 : decode cX4_branches 45 = .ok (.goto 4, 3) := by decide +kernel
theorem dX4_branches_48 : decode cX4_branches 48 = .ok (.iconst 0, 1) := by decide +kernel
theorem dX4_branches_49 : decode cX4_branches 49 = .ok (.istore_n 3, 1) := by decide +kernel
theorem dX4_branches_50 : decode cX4_branches 50 = .ok (.aload_n 0, 1) := by decide +kernel
theorem dX4_branches_51 : decode cX4_branches 51 = .ok (.iload_n 2, 1) := by decide +kernel
theorem dX4_branches_52 : decode cX4_branches 52 = .ok (.invokevirtual 32, 3) := by decide +kernel
theorem dX4_branches_55 : decode cX4_branches 55 = .ok (.iload_n 3, 1) := by decide +kernel
theorem dX4_branches_56 : decode cX4_branches 56 = .ok (.if_icmp .ne 7, 3) := by decide +kernel
theorem dX4_branches_59 : decode cX4_branches 59 = .ok (.iconst 1, 1) := by decide +kernel
theorem dX4_branches_60 : decode cX4_branches 60 = .ok (.goto 4, 3) := by decide +kernel
theorem dX4_branches_63 : decode cX4_branches 63 = .ok (.iconst 0, 1) := by decide +kernel
theorem dX4_branches_64 : decode cX4_branches 64 = .ok (.ireturn, 1) := by decide +kernel
theorem dX5_init_0 : decode cX5_init 0 = .ok (.aload_n 0, 1) := by decide +kernel
theorem dX5_init_1 : decode cX5_init 1 = .ok (.invokespecial 1, 3) := by decide +kernel
theorem dX5_init_4 : decode cX5_init 4 = .ok (.aload_n 0, 1) := by decide +kernel
theorem dX5_init_5 : decode cX5_init 5 = .ok (.ldc 7, 2) := by decide +kernel
theorem dX5_init_7 : decode cX5_init 7 = .ok (.putfield 8, 3) := by decide +kernel
theorem dX5_init_10 : decode cX5_init 10 = .ok (.aload_n 0, 1) := by decide +kernel
theorem dX5_init_11 : decode cX5_init 11 = .ok (.ldc 7, 2) := by decide +kernel
theorem dX5_init_13 : decode cX5_init 13 = .ok (.putfield 14, 3) := by decide +kernel
theorem dX5_init_16 : decode cX5_init 16 = .ok (.aload_n 0, 1) := by decide +kernel
theorem dX5_init_17 : decode cX5_init 17 = .ok (.iload_n 1, 1) := by decide +kernel
theorem dX5_init_18 : decode cX5_init 18 = .ok (.putfield 17, 3) := by decide +kernel
theorem dX5_init_21 : decode cX5_init 21 = .ok (.return_, 1) := by decide +kernel
theorem dX5_isRunning_0 : decode cX5_isRunning 0 = .ok (.aload_n 0, 1) := by decide +kernel
theorem dX5_isRunning_1 : decode cX5_isRunning 1 = .ok (.getfield 20, 3) := by decide +kernel
theorem dX5_isRunning_4 : decode cX5_isRunning 4 = .ok (.iconst 1, 1) := by decide +kernel
theorem dX5_isRunning_5 : decode cX5_isRunning 5 = .ok (.iand, 1) := by decide +kernel
theorem dX5_isRunning_6 : decode cX5_isRunning 6 = .ok (.ifCond .eq 7, 3) := by decide +kernel
theorem dX5_isRunning_9 : decode cX5_isRunning 9 = .ok (.iconst 1, 1) := by decide +kernel
theorem dX5_isRunning_10 : decode cX5_isRunning 10 = .ok (.goto 4, 3) := by decide +kernel
theorem dX5_isRunning_13 : decode cX5_isRunning 13 = .ok (.iconst 0, 1) := by decide +kernel
theorem dX5_isRunning_14 : decode cX5_isRunning 14 = .ok (.ireturn, 1) := by decide +kernel
theorem dX5_isCascaded_0 : decode cX5_isCascaded 0 = .ok (.aload_n 0, 1) := by decide +kernel
theorem dX5_isCascaded_1 : decode cX5_isCascaded 1 = .ok (.getfield 20, 3) := by decide +kernel
theorem dX5_isCascaded_4 : decode cX5_isCascaded 4 = .ok (.bipush 64, 2) := by decide +kernel
theorem dX5_isCascaded_6 : decode cX5_isCascaded 6 = .ok (.iand, 1) := by decide +kernel
theorem dX5_isCascaded_7 : decode cX5_isCascaded 7 = .ok (.ifCond .eq 7, 3) := by decide +kernel
theorem dX5_isCascaded_10 : decode cX5_isCascaded 10 = .ok (.iconst 1, 1) := by decide +kernel
theorem dX5_isCascaded_11 : decode cX5_isCascaded 11 = .ok (.goto 4, 3) := by decide +kernel
theorem dX5_isCascaded_14 : decode cX5_isCascaded 14 = .ok (.iconst 0, 1) := by decide +kernel
theorem dX5_isCascaded_15 : decode cX5_isCascaded 15 = .ok (.ireturn, 1) := by decide +kernel
theorem dX5_countDown_0 : decode cX5_countDown 0 = .ok (.aload_n 0, 1) := by decide +kernel
theorem dX5_countDown_1 : decode cX5_countDown 1 = .ok (.getfield 8, 3) := by decide +kernel
theorem dX5_countDown_4 : decode cX5_countDown 4 = .ok (.ifCond .eq 15, 3) := by decide +kernel
theorem dX5_countDown_7 : decode cX5_countDown 7 = .ok (.aload_n 0, 1) := by decide +kernel
theorem dX5_countDown_8 : decode cX5_countDown 8 = .ok (.dup, 1) := by decide +kernel
theorem dX5_countDown_9 : decode cX5_countDown 9 = .ok (.getfield 8, 3) := by decide +kernel
theorem dX5_countDown_12 : decode cX5_countDown 12 = .ok (.iconst 1, 1) := by decide +kernel
theorem dX5_countDown_13 : decode cX5_countDown 13 = .ok (.isub, 1) := by decide +kernel
theorem dX5_countDown_14 : decode cX5_countDown 14 = .ok (.putfield 8, 3) := by decide +kernel
theorem dX5_countDown_17 : decode cX5_countDown 17 = .ok (.iconst 0, 1) := by decide +kernel
theorem dX5_countDown_18 : decode cX5_countDown 18 = .ok (.ireturn, 1) := by decide +kernel
theorem dX5_countDown_19 : decode cX5_countDown 19 = .ok (.aload_n 0, 1) := by decide +kernel
theorem dX5_countDown_20 : decode cX5_countDown 20 = .ok (.aload_n 0, 1) := by decide +kernel
theorem dX5_countDown_21 : decode cX5_countDown 21 = .ok (.getfield 14, 3) := by decide +kernel
theorem dX5_countDown_24 : decode cX5_countDown 24 = .ok (.putfield 8, 3) := by decide +kernel
theorem dX5_countDown_27 : decode cX5_countDown 27 = .ok (.aload_n 0, 1) := by decide +kernel
theorem dX5_countDown_28 : decode cX5_countDown 28 = .ok (.getfield 20, 3) := by decide +kernel
theorem dX5_countDown_31 : decode cX5_countDown 31 = .ok (.bipush 8, 2) := by decide +kernel
theorem dX5_countDown_33 : decode cX5_countDown 33 = .ok (.iand, 1) := by decide +kernel
theorem dX5_countDown_34 : decode cX5_countDown 34 = .ok (.ifCond .eq 14, 3) := by decide +kernel
theorem dX5_countDown_37 : decode cX5_countDown 37 = .ok (.aload_n 0, 1) := by decide +kernel
theorem dX5_countDown_38 : decode cX5_countDown 38 = .ok (.dup, 1) := by decide +kernel
theorem dX5_countDown_39 : decode cX5_countDown 39 = .ok (.getfield 20, 3) := by decide +kernel
theorem dX5_countDown_42 : decode cX5_countDown 42 = .ok (.bipush (-2), 2) := by decide +kernel
theorem dX5_countDown_44 : decode cX5_countDown 44 = .ok (.iand, 1) := by decide +kernel
theorem dX5_countDown_45 : decode cX5_countDown 45 = .ok (.putfield 20, 3) := by decide +kernel
theorem dX5_countDown_48 : decode cX5_countDown 48 = .ok (.iconst 1, 1) := by decide +kernel
theorem dX5_countDown_49 : decode cX5_countDown 49 = .ok (.ireturn, 1) := by decide +kernel
theorem dX5_setLowLatch_0 : decode cX5_setLowLatch 0 = .ok (.aload_n 0, 1) := by decide +kernel
theorem dX5_setLowLatch_1 : decode cX5_setLowLatch 1 = .ok (.aload_n 0, 1) := by decide +kernel
theorem dX5_setLowLatch_2 : decode cX5_setLowLatch 2 = .ok (.getfield 14, 3) := by decide +kernel
theorem dX5_setLowLatch_5 : decode cX5_setLowLatch 5 = .ok (.ldc 23, 2) := by decide +kernel
theorem dX5_setLowLatch_7 : decode cX5_setLowLatch 7 = .ok (.iand, 1) := by decide +kernel
theorem dX5_setLowLatch_8 : decode cX5_setLowLatch 8 = .ok (.iload_n 1, 1) := by decide +kernel
theorem dX5_setLowLatch_9 : decode cX5_setLowLatch 9 = .ok (.ior, 1) := by decide +kernel
theorem dX5_setLowLatch_10 : decode cX5_setLowLatch 10 = .ok (.putfield 14, 3) := by decide +kernel
theorem dX5_setLowLatch_13 : decode cX5_setLowLatch 13 = .ok (.return_, 1) := by decide +kernel
theorem dX5_setHighLatch_0 : decode cX5_setHighLatch 0 = .ok (.aload_n 0, 1) := by decide +kernel
theorem dX5_setHighLatch_1 : decode cX5_setHighLatch 1 = .ok (.aload_n 0, 1) := by decide +kernel
theorem dX5_setHighLatch_2 : decode cX5_setHighLatch 2 = .ok (.getfield 14, 3) := by decide +kernel
theorem dX5_setHighLatch_5 : decode cX5_setHighLatch 5 = .ok (.sipush 255, 3) := by decide +kernel
theorem dX5_setHighLatch_8 : decode cX5_setHighLatch 8 = .ok (.iand, 1) := by decide +kernel
theorem dX5_setHighLatch_9 : decode cX5_setHighLatch 9 = .ok (.iload_n 1, 1) := by decide +kernel
theorem dX5_setHighLatch_10 : decode cX5_setHighLatch 10 = .ok (.bipush 8, 2) := by decide +kernel
theorem dX5_setHighLatch_12 : decode cX5_setHighLatch 12 = .ok (.ishl, 1) := by decide +kernel
theorem dX5_setHighLatch_13 : decode cX5_setHighLatch 13 = .ok (.ior, 1) := by decide +kernel
theorem dX5_setHighLatch_14 : decode cX5_setHighLatch 14 = .ok (.putfield 14, 3) := by decide +kernel
theorem dX5_setHighLatch_17 : decode cX5_setHighLatch 17 = .ok (.aload_n 0, 1) := by decide +kernel
theorem dX5_setHighLatch_18 : decode cX5_setHighLatch 18 = .ok (.getfield 20, 3) := by decide +kernel
theorem dX5_setHighLatch_21 : decode cX5_setHighLatch 21 = .ok (.iconst 1, 1) := by decide +kernel
theorem dX5_setHighLatch_22 : decode cX5_setHighLatch 22 = .ok (.iand, 1) := by decide +kernel
theorem dX5_setHighLatch_23 : decode cX5_setHighLatch 23 = .ok (.ifCond .ne 11, 3) := by decide +kernel
theorem dX5_setHighLatch_26 : decode cX5_setHighLatch 26 = .ok (.aload_n 0, 1) := by decide +kernel
theorem dX5_setHighLatch_27 : decode cX5_setHighLatch 27 = .ok (.aload_n 0, 1) := by decide +kernel
theorem dX5_setHighLatch_28 : decode cX5_setHighLatch 28 = .ok (.getfield 14, 3) := by decide +kernel
theorem dX5_setHighLatch_31 : decode cX5_setHighLatch 31 = .ok (.putfield 8, 3) := by decide +kernel
theorem dX5_setHighLatch_34 : decode cX5_setHighLatch 34 = .ok (.return_, 1) := by decide +kernel
theorem dX5_setControl_0 : decode cX5_setControl 0 = .ok (.aload_n 0, 1) := by decide +kernel
theorem dX5_setControl_1 : decode cX5_setControl 1 = .ok (.iload_n 1, 1) := by decide +kernel
theorem dX5_setControl_2 : decode cX5_setControl 2 = .ok (.aload_n 0, 1) := by decide +kernel
theorem dX5_setControl_3 : decode cX5_setControl 3 = .ok (.getfield 17, 3) := by decide +kernel
theorem dX5_setControl_6 : decode cX5_setControl 6 = .ok (.iand, 1) := by decide +kernel
theorem dX5_setControl_7 : decode cX5_setControl 7 = .ok (.putfield 20, 3) := by decide +kernel
theorem dX5_setControl_10 : decode cX5_setControl 10 = .ok (.iload_n 1, 1) := by decide +kernel
theorem dX5_setControl_11 : decode cX5_setControl 11 = .ok (.bipush 16, 2) := by decide +kernel
theorem dX5_setControl_13 : decode cX5_setControl 13 = .ok (.iand, 1) := by decide +kernel
theorem dX5_setControl_14 : decode cX5_setControl 14 = .ok (.ifCond .eq 11, 3) := by decide +kernel
theorem dX5_setControl_17 : decode cX5_setControl 17 = .ok (.aload_n 0, 1) := by decide +kernel
theorem dX5_setControl_18 : decode cX5_setControl 18 = .ok (.aload_n 0, 1) := by decide +kernel
theorem dX5_setControl_19 : decode cX5_setControl 19 = .ok (.getfield 14, 3) := by decide +kernel
theorem dX5_setControl_22 : decode cX5_setControl 22 = .ok (.putfield 8, 3) := by decide +kernel
theorem dX5_setControl_25 : decode cX5_setControl 25 = .ok (.return_, 1) := by decide +kernel
set_option maxRecDepth 20000 in
theorem ggX6_init_X2_init : GoodIn wsX6_init wsX2_init := goodIn_r _ [27, 28, 2, 3, 4, 29, 30, 31, 32, 33, 34, 35, 93, 94, 95, 96, 97, 98, 99, 100, 101, 102, 103, 104, 105, 106, 107, 108, 109, 110, 111] (by decide +kernel) (by decide +kernel)
set_option maxRecDepth 20000 in
theorem gX6_init_X2_init : GoodIn wsX6_init (wsX2_init) := ggX6_init_X2_init
set_option maxRecDepth 20000 in
theorem ggX6_init_X1_init : GoodIn wsX6_init wsX1_init := goodIn_r _ [37, 38, 2, 3, 4, 39, 40, 41, 42, 43, 44, 45, 46, 47, 48, 49, 50, 51, 52, 53, 112, 113, 114, 115, 116, 117, 118, 141, 142, 143, 144] (by decide +kernel) (by decide +kernel)
set_option maxRecDepth 20000 in
theorem gX6_init_X1_init_n33 : GoodIn wsX6_init (wsX1_init) := ggX6_init_X1_init
set_option maxRecDepth 20000 in
theorem ggX6_init_X0_init : GoodIn wsX6_init wsX0_init := goodIn_r _ [56, 57, 2, 3, 58, 59, 60, 61, 62, 63, 64, 65, 119, 120, 121, 122, 123, 124, 125, 126] (by decide +kernel) (by decide +kernel)
set_option maxRecDepth 20000 in
theorem gX6_init_X0_init : GoodIn wsX6_init (wsX0_init) := ggX6_init_X0_init
set_option maxRecDepth 20000 in
theorem ggX6_init_X3_init : GoodIn wsX6_init wsX3_init := goodIn_r _ [68, 69, 2, 3, 70, 71, 72, 73, 74, 75, 76, 77, 78, 79, 80, 81, 82, 83, 145, 146, 147, 148, 149, 150, 127, 128, 129, 130, 131, 132, 133, 134, 135, 136, 137, 138, 139, 140] (by decide +kernel) (by decide +kernel)
set_option maxRecDepth 20000 in
theorem gX6_init_X3_init : GoodIn wsX6_init (wsX3_init) := ggX6_init_X3_init
theorem dX6_init_0 : decode cX6_init 0 = .ok (.aload_n 0, 1) := by decide +kernel
theorem dX6_init_1 : decode cX6_init 1 = .ok (.invokespecial 1, 3) := by decide +kernel
theorem dX6_init_4 : decode cX6_init 4 = .ok (.aload_n 0, 1) := by decide +kernel
theorem dX6_init_5 : decode cX6_init 5 = .ok (.sipush 8192, 3) := by decide +kernel
theorem dX6_init_8 : decode cX6_init 8 = .ok (.newarray .int, 2) := by decide +kernel
theorem dX6_init_10 : decode cX6_init 10 = .ok (.putfield 9, 3) := by decide +kernel
theorem dX6_init_13 : decode cX6_init 13 = .ok (.aload_n 0, 1) := by decide +kernel
theorem dX6_init_14 : decode cX6_init 14 = .ok (.sipush 1024, 3) := by decide +kernel
theorem dX6_init_17 : decode cX6_init 17 = .ok (.newarray .int, 2) := by decide +kernel
theorem dX6_init_19 : decode cX6_init 19 = .ok (.putfield 13, 3) := by decide +kernel
theorem dX6_init_22 : decode cX6_init 22 = .ok (.aload_n 0, 1) := by decide +kernel
theorem dX6_init_23 : decode cX6_init 23 = .ok (.sipush 512, 3) := by decide +kernel
theorem dX6_init_26 : decode cX6_init 26 = .ok (.newarray .int, 2) := by decide +kernel
theorem dX6_init_28 : decode cX6_init 28 = .ok (.putfield 16, 3) := by decide +kernel
theorem dX6_init_31 : decode cX6_init 31 = .ok (.aload_n 0, 1) := by decide +kernel
theorem dX6_init_32 : decode cX6_init 32 = .ok (.sipush 1024, 3) := by decide +kernel
theorem dX6_init_35 : decode cX6_init 35 = .ok (.newarray .int, 2) := by decide +kernel
theorem dX6_init_37 : decode cX6_init 37 = .ok (.putfield 19, 3) := by decide +kernel
theorem dX6_init_40 : decode cX6_init 40 = .ok (.aload_n 0, 1) := by decide +kernel
theorem dX6_init_41 : decode cX6_init 41 = .ok (.new 22, 3) := by decide +kernel
theorem dX6_init_44 : decode cX6_init 44 = .ok (.dup, 1) := by decide +kernel
theorem dX6_init_45 : decode cX6_init 45 = .ok (.aload_n 0, 1) := by decide +kernel
theorem dX6_init_46 : decode cX6_init 46 = .ok (.getfield 9, 3) := by decide +kernel
theorem dX6_init_49 : decode cX6_init 49 = .ok (.aload_n 0, 1) := by decide +kernel
theorem dX6_init_50 : decode cX6_init 50 = .ok (.getfield 16, 3) := by decide +kernel
theorem dX6_init_53 : decode cX6_init 53 = .ok (.invokespecial 24, 3) := by decide +kernel
theorem dX6_init_56 : decode cX6_init 56 = .ok (.putfield 27, 3) := by decide +kernel
theorem dX6_init_59 : decode cX6_init 59 = .ok (.aload_n 0, 1) := by decide +kernel
theorem dX6_init_60 : decode cX6_init 60 = .ok (.new 31, 3) := by decide +kernel
theorem dX6_init_63 : decode cX6_init 63 = .ok (.dup, 1) := by decide +kernel
theorem dX6_init_64 : decode cX6_init 64 = .ok (.invokespecial 33, 3) := by decide +kernel
theorem dX6_init_67 : decode cX6_init 67 = .ok (.putfield 34, 3) := by decide +kernel
theorem dX6_init_70 : decode cX6_init 70 = .ok (.aload_n 0, 1) := by decide +kernel
theorem dX6_init_71 : decode cX6_init 71 = .ok (.new 38, 3) := by decide +kernel
theorem dX6_init_74 : decode cX6_init 74 = .ok (.dup, 1) := by decide +kernel
theorem dX6_init_75 : decode cX6_init 75 = .ok (.aload_n 0, 1) := by decide +kernel
theorem dX6_init_76 : decode cX6_init 76 = .ok (.getfield 9, 3) := by decide +kernel
theorem dX6_init_79 : decode cX6_init 79 = .ok (.aload_n 0, 1) := by decide +kernel
theorem dX6_init_80 : decode cX6_init 80 = .ok (.getfield 13, 3) := by decide +kernel
theorem dX6_init_83 : decode cX6_init 83 = .ok (.aload_n 0, 1) := by decide +kernel
theorem dX6_init_84 : decode cX6_init 84 = .ok (.getfield 16, 3) := by decide +kernel
theorem dX6_init_87 : decode cX6_init 87 = .ok (.aload_n 0, 1) := by decide +kernel
theorem dX6_init_88 : decode cX6_init 88 = .ok (.getfield 19, 3) := by decide +kernel
theorem dX6_init_91 : decode cX6_init 91 = .ok (.aload_n 0, 1) := by decide +kernel
theorem dX6_init_92 : decode cX6_init 92 = .ok (.getfield 27, 3) := by decide +kernel
theorem dX6_init_95 : decode cX6_init 95 = .ok (.aload_n 0, 1) := by decide +kernel
theorem dX6_init_96 : decode cX6_init 96 = .ok (.getfield 34, 3) := by decide +kernel
theorem dX6_init_99 : decode cX6_init 99 = .ok (.invokespecial 40, 3) := by decide +kernel
theorem dX6_init_102 : decode cX6_init 102 = .ok (.putfield 43, 3) := by decide +kernel
theorem dX6_init_105 : decode cX6_init 105 = .ok (.aload_n 0, 1) := by decide +kernel
theorem dX6_init_106 : decode cX6_init 106 = .ok (.new 47, 3) := by decide +kernel
theorem dX6_init_109 : decode cX6_init 109 = .ok (.dup, 1) := by decide +kernel
theorem dX6_init_110 : decode cX6_init 110 = .ok (.aload_n 0, 1) := by decide +kernel
theorem dX6_init_111 : decode cX6_init 111 = .ok (.getfield 43, 3) := by decide +kernel
theorem dX6_init_114 : decode cX6_init 114 = .ok (.aload_n 0, 1) := by decide +kernel
theorem dX6_init_115 : decode cX6_init 115 = .ok (.getfield 27, 3) := by decide +kernel
theorem dX6_init_118 : decode cX6_init 118 = .ok (.aload_n 0, 1) := by decide +kernel
theorem dX6_init_119 : decode cX6_init 119 = .ok (.getfield 34, 3) := by decide +kernel
theorem dX6_init_122 : decode cX6_init 122 = .ok (.invokespecial 49, 3) := by decide +kernel
theorem dX6_init_125 : decode cX6_init 125 = .ok (.putfield 52, 3) := by decide +kernel
theorem dX6_init_128 : decode cX6_init 128 = .ok (.return_, 1) := by decide +kernel
set_option maxRecDepth 20000 in
theorem ggX6_burn_X6_isByte : GoodIn wsX6_burn wsX6_isByte := goodIn_r _ [7] (by decide +kernel) (by decide +kernel)
set_option maxRecDepth 20000 in
theorem gX6_burn_X6_isByte : GoodIn wsX6_burn (va_wsS RX6 56 yX6_isByte wsX6_isByte) := goodIn_app (goodIn_of _ (by decide +kernel)) ggX6_burn_X6_isByte
theorem dX6_burn_0 : decode cX6_burn 0 = .ok (.iload_n 1, 1) := by decide +kernel
theorem dX6_burn_1 : decode cX6_burn 1 = .ok (.ifCond .lt 15, 3) := by decide +kernel
theorem dX6_burn_4 : decode cX6_burn 4 = .ok (.iload_n 1, 1) := by decide +kernel
theorem dX6_burn_5 : decode cX6_burn 5 = .ok (.iconst 2, 1) := by decide +kernel
theorem dX6_burn_6 : decode cX6_burn 6 = .ok (.if_icmp .gt 10, 3) := by decide +kernel
theorem dX6_burn_9 : decode cX6_burn 9 = .ok (.iload_n 3, 1) := by decide +kernel
theorem dX6_burn_10 : decode cX6_burn 10 = .ok (.invokestatic 56, 3) := by decide +kernel
theorem dX6_burn_13 : decode cX6_burn 13 = .ok (.ifCond .ne 5, 3) := by decide +kernel
theorem dX6_burn_16 : decode cX6_burn 16 = .ok (.iconst 0, 1) := by decide +kernel
theorem dX6_burn_17 : decode cX6_burn 17 = .ok (.ireturn, 1) := by decide +kernel
theorem dX6_burn_18 : decode cX6_burn 18 = .ok (.iload_n 1, 1) := by decide +kernel
theorem dX6_burn_19 : decode cX6_burn 19 = .ok (.ifCond .ne 10, 3) := by decide +kernel
theorem dX6_burn_22 : decode cX6_burn 22 = .ok (.aload_n 0, 1) := by decide +kernel
theorem dX6_burn_23 : decode cX6_burn 23 = .ok (.getfield 13, 3) := by decide +kernel
theorem dX6_burn_26 : decode cX6_burn 26 = .ok (.goto 19, 3) := by decide +kernel
theorem dX6_burn_29 : decode cX6_burn 29 = .ok (.iload_n 1, 1) := by decide +kernel
theorem dX6_burn_30 : decode cX6_burn 30 = .ok (.iconst 1, 1) := by decide +kernel
theorem dX6_burn_31 : decode cX6_burn 31 = .ok (.if_icmp .ne 10, 3) := by decide +kernel
theorem dX6_burn_34 : decode cX6_burn 34 = .ok (.aload_n 0, 1) := by decide +kernel
theorem dX6_burn_35 : decode cX6_burn 35 = .ok (.getfield 16, 3) := by decide +kernel
theorem dX6_burn_38 : decode cX6_burn 38 = .ok (.goto 7, 3) := by decide +kernel
theorem dX6_burn_41 : decode cX6_burn 41 = .ok (.aload_n 0, 1) := by decide +kernel
theorem dX6_burn_42 : decode cX6_burn 42 = .ok (.getfield 19, 3) := by decide +kernel
theorem dX6_burn_45 : decode cX6_burn 45 = .ok (.astore 4, 2) := by decide +kernel
theorem dX6_burn_47 : decode cX6_burn 47 = .ok (.iload_n 2, 1) := by decide +kernel
theorem dX6_burn_48 : decode cX6_burn 48 = .ok (.ifCond .lt 10, 3) := by decide +kernel
theorem dX6_burn_51 : decode cX6_burn 51 = .ok (.iload_n 2, 1) := by decide +kernel
theorem dX6_burn_52 : decode cX6_burn 52 = .ok (.aload 4, 2) := by decide +kernel
theorem dX6_burn_54 : decode cX6_burn 54 = .ok (.arraylength, 1) := by decide +kernel
theorem dX6_burn_55 : decode cX6_burn 55 = .ok (.if_icmp .lt 5, 3) := by decide +kernel
theorem dX6_burn_58 : decode cX6_burn 58 = .ok (.iconst 0, 1) := by decide +kernel
theorem dX6_burn_59 : decode cX6_burn 59 = .ok (.ireturn, 1) := by decide +kernel
theorem dX6_burn_60 : decode cX6_burn 60 = .ok (.aload 4, 2) := by decide +kernel
theorem dX6_burn_62 : decode cX6_burn 62 = .ok (.iload_n 2, 1) := by decide +kernel
theorem dX6_burn_63 : decode cX6_burn 63 = .ok (.iload_n 3, 1) := by decide +kernel
theorem dX6_burn_64 : decode cX6_burn 64 = .ok (.iastore, 1) := by decide +kernel
theorem dX6_burn_65 : decode cX6_burn 65 = .ok (.iconst 1, 1) := by decide +kernel
theorem dX6_burn_66 : decode cX6_burn 66 = .ok (.ireturn, 1) := by decide +kernel
set_option maxRecDepth 20000 in
theorem ggX6_poke_X6_isAddress : GoodIn wsX6_poke wsX6_isAddress := goodIn_r _ [5] (by decide +kernel) (by decide +kernel)
set_option maxRecDepth 20000 in
theorem gX6_poke_X6_isAddress : GoodIn wsX6_poke (va_wsS RX6 60 yX6_isAddress wsX6_isAddress) := goodIn_app (goodIn_of _ (by decide +kernel)) ggX6_poke_X6_isAddress
set_option maxRecDepth 20000 in
theorem ggX6_poke_X6_isByte : GoodIn wsX6_poke wsX6_isByte := goodIn_r _ [8] (by decide +kernel) (by decide +kernel)
set_option maxRecDepth 20000 in
theorem gX6_poke_X6_isByte : GoodIn wsX6_poke (va_wsS RX6 56 yX6_isByte wsX6_isByte) := goodIn_app (goodIn_of _ (by decide +kernel)) ggX6_poke_X6_isByte
theorem dX6_poke_0 : decode cX6_poke 0 = .ok (.iload_n 1, 1) := by decide +kernel
theorem dX6_poke_1 : decode cX6_poke 1 = .ok (.invokestatic 60, 3) := by decide +kernel
theorem dX6_poke_4 : decode cX6_poke 4 = .ok (.ifCond .eq 10, 3) := by decide +kernel
theorem dX6_poke_7 : decode cX6_poke 7 = .ok (.iload_n 2, 1) := by decide +kernel
theorem dX6_poke_8 : decode cX6_poke 8 = .ok (.invokestatic 56, 3) := by decide +kernel
theorem dX6_poke_11 : decode cX6_poke 11 = .ok (.ifCond .ne 5, 3) := by decide +kernel
theorem dX6_poke_14 : decode cX6_poke 14 = .ok (.iconst 0, 1) := by decide +kernel
theorem dX6_poke_15 : decode cX6_poke 15 = .ok (.ireturn, 1) := by decide +kernel
theorem dX6_poke_16 : decode cX6_poke 16 = .ok (.aload_n 0, 1) := by decide +kernel
theorem dX6_poke_17 : decode cX6_poke 17 = .ok (.getfield 9, 3) := by decide +kernel
theorem dX6_poke_20 : decode cX6_poke 20 = .ok (.iload_n 1, 1) := by decide +kernel
theorem dX6_poke_21 : decode cX6_poke 21 = .ok (.iload_n 2, 1) := by decide +kernel
theorem dX6_poke_22 : decode cX6_poke 22 = .ok (.iastore, 1) := by decide +kernel
theorem dX6_poke_23 : decode cX6_poke 23 = .ok (.iconst 1, 1) := by decide +kernel
theorem dX6_poke_24 : decode cX6_poke 24 = .ok (.ireturn, 1) := by decide +kernel
set_option maxRecDepth 20000 in
theorem ggX6_power_X3_restart : GoodIn wsX6_power wsX3_restart := goodIn_r _ [6, 7, 8, 9, 10, 11, 12, 13, 14, 15, 16, 17, 18, 19, 20, 21, 22, 23, 24, 25, 26, 27, 28, 29, 30, 31, 32, 33, 34, 35, 36, 37, 38, 39, 40, 41, 42, 43, 44, 45, 46, 47, 48, 49, 50, 51, 52, 53, 54, 55, 56, 57, 58, 59, 60, 61, 62, 63, 64, 65, 66, 67, 5, 68, 69, 70, 71, 72, 73, 74, 75, 76, 77, 78, 79, 80, 81, 82, 83, 84, 85, 95, 96, 97, 98, 99, 100, 101, 102, 103, 104, 105, 106, 107, 108, 109, 110, 111, 112, 113, 114, 115, 116, 117, 118, 119, 120, 121, 122, 123, 124, 125, 126, 127, 128, 129, 130, 131, 132, 133, 134, 135, 136, 137, 138, 139, 140, 141, 142, 143, 144, 145, 146, 147, 148, 149, 150, 151, 152] (by decide +kernel) (by decide +kernel)
set_option maxRecDepth 20000 in
theorem gX6_power_X3_restart : GoodIn wsX6_power (wsV RX6 63 RX3 yX3_restart wsX3_restart) := goodIn_app (goodIn_of _ (by decide +kernel)) ggX6_power_X3_restart
theorem dX6_power_0 : decode cX6_power 0 = .ok (.aload_n 0, 1) := by decide +kernel
theorem dX6_power_1 : decode cX6_power 1 = .ok (.getfield 52, 3) := by decide +kernel
theorem dX6_power_4 : decode cX6_power 4 = .ok (.invokevirtual 63, 3) := by decide +kernel
theorem dX6_power_7 : decode cX6_power 7 = .ok (.return_, 1) := by decide +kernel
set_option maxRecDepth 20000 in
theorem ggX6_press_X6_isByte : GoodIn wsX6_press wsX6_isByte := goodIn_r _ [5] (by decide +kernel) (by decide +kernel)
set_option maxRecDepth 20000 in
theorem gX6_press_X6_isByte : GoodIn wsX6_press (va_wsS RX6 56 yX6_isByte wsX6_isByte) := goodIn_app (goodIn_of _ (by decide +kernel)) ggX6_press_X6_isByte
set_option maxRecDepth 20000 in
theorem ggX6_press_X1_setKeys : GoodIn wsX6_press wsX1_setKeys := goodIn_r _ [10, 11, 12, 13, 14, 9, 15, 16, 17, 27, 28, 29, 30, 31, 32, 33] (by decide +kernel) (by decide +kernel)
set_option maxRecDepth 20000 in
theorem gX6_press_X1_setKeys : GoodIn wsX6_press (wsV RX6 66 RX1 yX1_setKeys wsX1_setKeys) := goodIn_app (goodIn_of _ (by decide +kernel)) ggX6_press_X1_setKeys
theorem dX6_press_0 : decode cX6_press 0 = .ok (.iload_n 1, 1) := by decide +kernel
theorem dX6_press_1 : decode cX6_press 1 = .ok (.ifCond .lt 16, 3) := by decide +kernel
theorem dX6_press_4 : decode cX6_press 4 = .ok (.iload_n 1, 1) := by decide +kernel
theorem dX6_press_5 : decode cX6_press 5 = .ok (.bipush 8, 2) := by decide +kernel
theorem dX6_press_7 : decode cX6_press 7 = .ok (.if_icmp .ge 10, 3) := by decide +kernel
theorem dX6_press_10 : decode cX6_press 10 = .ok (.iload_n 2, 1) := by decide +kernel
theorem dX6_press_11 : decode cX6_press 11 = .ok (.invokestatic 56, 3) := by decide +kernel
theorem dX6_press_14 : decode cX6_press 14 = .ok (.ifCond .ne 5, 3) := by decide +kernel
theorem dX6_press_17 : decode cX6_press 17 = .ok (.iconst 0, 1) := by decide +kernel
theorem dX6_press_18 : decode cX6_press 18 = .ok (.ireturn, 1) := by decide +kernel
theorem dX6_press_19 : decode cX6_press 19 = .ok (.aload_n 0, 1) := by decide +kernel
theorem dX6_press_20 : decode cX6_press 20 = .ok (.getfield 34, 3) := by decide +kernel
theorem dX6_press_23 : decode cX6_press 23 = .ok (.iload_n 1, 1) := by decide +kernel
theorem dX6_press_24 : decode cX6_press 24 = .ok (.iload_n 2, 1) := by decide +kernel
theorem dX6_press_25 : decode cX6_press 25 = .ok (.invokevirtual 66, 3) := by decide +kernel
theorem dX6_press_28 : decode cX6_press 28 = .ok (.iconst 1, 1) := by decide +kernel
theorem dX6_press_29 : decode cX6_press 29 = .ok (.ireturn, 1) := by decide +kernel
set_option maxRecDepth 20000 in
theorem ggX6_run_X2_beginCycle : GoodIn wsX6_run wsX2_beginCycle := goodIn_r _ [9, 10, 11, 12, 13, 14, 15, 16, 8, 17, 18, 19, 20, 21, 22, 23, 24, 25, 26, 27, 28, 29, 30, 31, 32, 33, 34, 35, 36, 37, 38, 39, 40, 41, 42, 43, 44, 45, 46, 47, 48, 49, 50, 51, 369, 370, 371, 372, 373, 374, 375, 376, 377, 378, 379, 380, 381, 382, 383, 384, 385, 386, 387] (by decide +kernel) (by decide +kernel)
set_option maxRecDepth 20000 in
theorem gX6_run_X2_beginCycle : GoodIn wsX6_run (wsV RX6 70 RX2 yX2_beginCycle wsX2_beginCycle) := goodIn_app (goodIn_of _ (by decide +kernel)) ggX6_run_X2_beginCycle
set_option maxRecDepth 20000 in
theorem ggX6_run_X1_countTimers : GoodIn wsX6_run wsX1_countTimers := goodIn_r _ [56, 57, 58, 59, 60, 61, 62, 63, 64, 65, 66, 67, 68, 69, 70, 71, 72, 73, 74, 75, 388, 389, 390, 391, 392, 393, 394, 395, 396, 397, 398] (by decide +kernel) (by decide +kernel)
set_option maxRecDepth 20000 in
theorem gX6_run_X1_countTimers : GoodIn wsX6_run (wsV RX6 73 RX1 yX1_countTimers wsX1_countTimers) := goodIn_app (goodIn_of _ (by decide +kernel)) ggX6_run_X1_countTimers
set_option maxRecDepth 20000 in
theorem ggX6_run_X2_wantsBus : GoodIn wsX6_run wsX2_wantsBus := goodIn_r _ [79, 11, 10, 369, 370, 371, 372, 373, 374, 375, 376, 377, 378, 379, 380, 381, 382, 383, 384, 385, 386, 387] (by decide +kernel) (by decide +kernel)
set_option maxRecDepth 20000 in
theorem gX6_run_X2_wantsBus : GoodIn wsX6_run (wsV RX6 76 RX2 yX2_wantsBus wsX2_wantsBus) := goodIn_app (goodIn_of _ (by decide +kernel)) ggX6_run_X2_wantsBus
set_option maxRecDepth 20000 in
theorem ggX6_run_X3_makeAccess : GoodIn wsX6_run wsX3_makeAccess := goodIn_r _ [84, 85, 86, 87, 88, 89, 90, 91, 83, 92, 93, 94, 95, 96, 97, 98, 99, 100, 101, 102, 103, 104, 105, 106, 107, 108, 109, 110, 8, 111, 20, 112, 113, 114, 115, 55, 116, 58, 117, 118, 119, 120, 121, 122, 123, 124, 125, 126, 127, 128, 129, 130, 131, 132, 133, 134, 135, 136, 137, 138, 139, 140, 141, 142, 143, 144, 145, 146, 147, 148, 149, 150, 151, 152, 25, 18, 44, 45, 37, 153, 154, 155, 156, 157, 158, 159, 160, 161, 57, 162, 59, 163, 164, 165, 166, 167, 39, 168, 169, 170, 171, 172, 173, 174, 175, 176, 177, 178, 179, 180, 181, 182, 183, 184, 185, 186, 187, 188, 189, 190, 191, 192, 193, 194, 195, 196, 197, 198, 199, 200, 201, 19, 202, 203, 204, 205, 206, 207, 208, 209, 210, 211, 212, 213, 63, 214, 71, 215, 216, 217, 218, 219, 65, 70, 220, 221, 222, 223, 224, 225, 226, 227, 228, 229, 230, 231, 232, 233, 234, 235, 236, 237, 238, 239, 240, 241, 242, 243, 244, 245, 246, 247, 248, 249, 250, 251, 252, 253, 254, 255, 256, 257, 258, 259, 260, 261, 262, 263, 264, 265, 266, 267, 268, 269, 270, 271, 272, 273, 274, 275, 276, 277, 278, 279, 280, 281, 282, 283, 284, 285, 286, 287, 288, 289, 290, 291, 292, 293, 294, 295, 296, 297, 298, 299, 300, 301, 302, 303, 304, 305, 306, 307, 308, 309, 310, 311, 312, 313, 314, 315, 316, 317, 318, 319, 320, 321, 322, 323, 324, 325, 326, 327, 328, 329, 330, 331, 332, 333, 334, 335, 336, 337, 338, 339, 340, 341, 342, 343, 344, 345, 346, 347, 348, 349, 350, 351, 352, 353, 354, 355, 399, 400, 401, 402, 403, 404, 405, 406, 407, 408, 409, 410, 411, 412, 413, 414, 415, 416, 417, 418, 369, 370, 371, 372, 373, 374, 375, 376, 377, 378, 379, 380, 381, 382, 383, 384, 385, 386, 387, 388, 389, 390, 391, 392, 393, 394, 419, 420, 421, 422, 423, 424, 425, 426, 395, 396, 397, 398] (by decide +kernel) (by decide +kernel)
set_option maxRecDepth 20000 in
theorem gX6_run_X3_makeAccess : GoodIn wsX6_run (wsV RX6 80 RX3 yX3_makeAccess wsX3_makeAccess) := goodIn_app (goodIn_of _ (by decide +kernel)) ggX6_run_X3_makeAccess
set_option maxRecDepth 20000 in
theorem ggX6_run_X2_endCycle : GoodIn wsX6_run wsX2_endCycle := goodIn_r _ [359, 10, 18, 369, 370, 371, 372, 373, 374, 375, 376, 377, 378, 379, 380, 381, 382, 383, 384, 385, 386, 387] (by decide +kernel) (by decide +kernel)
set_option maxRecDepth 20000 in
theorem gX6_run_X2_endCycle : GoodIn wsX6_run (wsV RX6 84 RX2 yX2_endCycle wsX2_endCycle) := goodIn_app (goodIn_of _ (by decide +kernel)) ggX6_run_X2_endCycle
theorem dX6_run_0 : decode cX6_run 0 = .ok (.iload_n 1, 1) := by decide +kernel
theorem dX6_run_1 : decode cX6_run 1 = .ok (.iconst 1, 1) := by decide +kernel
theorem dX6_run_2 : decode cX6_run 2 = .ok (.if_icmp .lt 10, 3) := by decide +kernel
theorem dX6_run_5 : decode cX6_run 5 = .ok (.iload_n 1, 1) := by decide +kernel
theorem dX6_run_6 : decode cX6_run 6 = .ok (.sipush 1000, 3) := by decide +kernel
theorem dX6_run_9 : decode cX6_run 9 = .ok (.if_icmp .le 5, 3) := by decide +kernel
theorem dX6_run_12 : decode cX6_run 12 = .ok (.iconst (-1), 1) := by decide +kernel
theorem dX6_run_13 : decode cX6_run 13 = .ok (.ireturn, 1) := by decide +kernel
theorem dX6_run_14 : decode cX6_run 14 = .ok (.iconst 0, 1) := by decide +kernel
theorem dX6_run_15 : decode cX6_run 15 = .ok (.istore_n 2, 1) := by decide +kernel
theorem dX6_run_16 : decode cX6_run 16 = .ok (.iconst 0, 1) := by decide +kernel
theorem dX6_run_17 : decode cX6_run 17 = .ok (.istore_n 3, 1) := by decide +kernel
theorem dX6_run_18 : decode cX6_run 18 = .ok (.iload_n 3, 1) := by decide +kernel
theorem dX6_run_19 : decode cX6_run 19 = .ok (.iload_n 1, 1) := by decide +kernel
theorem dX6_run_20 : decode cX6_run 20 = .ok (.if_icmp .ge 50, 3) := by decide +kernel
theorem dX6_run_23 : decode cX6_run 23 = .ok (.aload_n 0, 1) := by decide +kernel
theorem dX6_run_24 : decode cX6_run 24 = .ok (.getfield 27, 3) := by decide +kernel
theorem dX6_run_27 : decode cX6_run 27 = .ok (.invokevirtual 70, 3) := by decide +kernel
theorem dX6_run_30 : decode cX6_run 30 = .ok (.aload_n 0, 1) := by decide +kernel
theorem dX6_run_31 : decode cX6_run 31 = .ok (.getfield 34, 3) := by decide +kernel
theorem dX6_run_34 : decode cX6_run 34 = .ok (.invokevirtual 73, 3) := by decide +kernel
theorem dX6_run_37 : decode cX6_run 37 = .ok (.aload_n 0, 1) := by decide +kernel
theorem dX6_run_38 : decode cX6_run 38 = .ok (.getfield 52, 3) := by decide +kernel
theorem dX6_run_41 : decode cX6_run 41 = .ok (.aload_n 0, 1) := by decide +kernel
theorem dX6_run_42 : decode cX6_run 42 = .ok (.getfield 27, 3) := by decide +kernel
theorem dX6_run_45 : decode cX6_run 45 = .ok (.invokevirtual 76, 3) := by decide +kernel
theorem dX6_run_48 : decode cX6_run 48 = .ok (.invokevirtual 80, 3) := by decide +kernel
theorem dX6_run_51 : decode cX6_run 51 = .ok (.ifCond .eq 6, 3) := by decide +kernel
theorem dX6_run_54 : decode cX6_run 54 = .ok (.iinc 2 1, 3) := by decide +kernel
theorem dX6_run_57 : decode cX6_run 57 = .ok (.aload_n 0, 1) := by decide +kernel
theorem dX6_run_58 : decode cX6_run 58 = .ok (.getfield 27, 3) := by decide +kernel
theorem dX6_run_61 : decode cX6_run 61 = .ok (.invokevirtual 84, 3) := by decide +kernel
theorem dX6_run_64 : decode cX6_run 64 = .ok (.iinc 3 1, 3) := by decide +kernel
theorem dX6_run_67 : decode cX6_run 67 = .ok (.goto (-49), 3) := by decide +kernel
theorem dX6_run_70 : decode cX6_run 70 = .ok (.aload_n 0, 1) := by decide +kernel
theorem dX6_run_71 : decode cX6_run 71 = .ok (.dup, 1) := by decide +kernel
theorem dX6_run_72 : decode cX6_run 72 = .ok (.getfield 87, 3) := by decide +kernel
theorem dX6_run_75 : decode cX6_run 75 = .ok (.iload_n 1, 1) := by decide +kernel
theorem dX6_run_76 : decode cX6_run 76 = .ok (.iadd, 1) := by decide +kernel
theorem dX6_run_77 : decode cX6_run 77 = .ok (.putfield 87, 3) := by decide +kernel
theorem dX6_run_80 : decode cX6_run 80 = .ok (.iload_n 2, 1) := by decide +kernel
theorem dX6_run_81 : decode cX6_run 81 = .ok (.ireturn, 1) := by decide +kernel
set_option maxRecDepth 20000 in
theorem ggX6_ram_X6_isAddress : GoodIn wsX6_ram wsX6_isAddress := goodIn_r _ [5] (by decide +kernel) (by decide +kernel)
set_option maxRecDepth 20000 in
theorem gX6_ram_X6_isAddress : GoodIn wsX6_ram (va_wsS RX6 60 yX6_isAddress wsX6_isAddress) := goodIn_app (goodIn_of _ (by decide +kernel)) ggX6_ram_X6_isAddress
theorem dX6_ram_0 : decode cX6_ram 0 = .ok (.iload_n 1, 1) := by decide +kernel
theorem dX6_ram_1 : decode cX6_ram 1 = .ok (.invokestatic 60, 3) := by decide +kernel
theorem dX6_ram_4 : decode cX6_ram 4 = .ok (.ifCond .eq 12, 3) := by decide +kernel
theorem dX6_ram_7 : decode cX6_ram 7 = .ok (.aload_n 0, 1) := by decide +kernel
theorem dX6_ram_8 : decode cX6_ram 8 = .ok (.getfield 9, 3) := by decide +kernel
theorem dX6_ram_11 : decode cX6_ram 11 = .ok (.iload_n 1, 1) := by decide +kernel
theorem dX6_ram_12 : decode cX6_ram 12 = .ok (.iaload, 1) := by decide +kernel
theorem dX6_ram_13 : decode cX6_ram 13 = .ok (.goto 4, 3) := by decide +kernel
theorem dX6_ram_16 : decode cX6_ram 16 = .ok (.iconst (-1), 1) := by decide +kernel
theorem dX6_ram_17 : decode cX6_ram 17 = .ok (.ireturn, 1) := by decide +kernel
set_option maxRecDepth 20000 in
theorem ggX6_look_X6_isAddress : GoodIn wsX6_look wsX6_isAddress := goodIn_r _ [5] (by decide +kernel) (by decide +kernel)
set_option maxRecDepth 20000 in
theorem gX6_look_X6_isAddress : GoodIn wsX6_look (va_wsS RX6 60 yX6_isAddress wsX6_isAddress) := goodIn_app (goodIn_of _ (by decide +kernel)) ggX6_look_X6_isAddress
set_option maxRecDepth 20000 in
theorem ggX6_look_X0_peek : GoodIn wsX6_look wsX0_peek := goodIn_r _ [10, 11, 12, 13, 14, 15, 9, 16, 17, 18, 19, 20, 21, 22, 23, 24, 25, 26, 27, 28, 29, 30, 31, 32, 33, 34, 35, 36, 37, 38, 39, 40, 41, 42, 43, 44, 45, 46, 47, 48, 49, 50, 51, 52, 53, 54, 55, 56, 57, 58, 68, 69, 70, 71, 72, 73, 74, 75, 76, 77, 78, 79, 80, 81, 82, 83, 84, 85, 86, 87, 88, 89, 90, 91, 92, 93, 94, 95, 96, 97, 98, 99, 100, 101, 102, 103, 104, 105] (by decide +kernel) (by decide +kernel)
set_option maxRecDepth 20000 in
theorem gX6_look_X0_peek : GoodIn wsX6_look (wsV RX6 91 RX0 yX0_peek wsX0_peek) := goodIn_app (goodIn_of _ (by decide +kernel)) ggX6_look_X0_peek
theorem dX6_look_0 : decode cX6_look 0 = .ok (.iload_n 1, 1) := by decide +kernel
theorem dX6_look_1 : decode cX6_look 1 = .ok (.invokestatic 60, 3) := by decide +kernel
theorem dX6_look_4 : decode cX6_look 4 = .ok (.ifCond .eq 14, 3) := by decide +kernel
theorem dX6_look_7 : decode cX6_look 7 = .ok (.aload_n 0, 1) := by decide +kernel
theorem dX6_look_8 : decode cX6_look 8 = .ok (.getfield 43, 3) := by decide +kernel
theorem dX6_look_11 : decode cX6_look 11 = .ok (.iload_n 1, 1) := by decide +kernel
theorem dX6_look_12 : decode cX6_look 12 = .ok (.invokevirtual 91, 3) := by decide +kernel
theorem dX6_look_15 : decode cX6_look 15 = .ok (.goto 4, 3) := by decide +kernel
theorem dX6_look_18 : decode cX6_look 18 = .ok (.iconst (-1), 1) := by decide +kernel
theorem dX6_look_19 : decode cX6_look 19 = .ok (.ireturn, 1) := by decide +kernel
theorem dX6_register_0 : decode cX6_register 0 = .ok (.iload_n 1, 1) := by decide +kernel
theorem dX6_register_1 : decode cX6_register 1 = .ok (.tableswitch 117 0 6 #[43, 54, 65, 76, 87, 98, 109], 43) := by decide +kernel
theorem dX6_register_44 : decode cX6_register 44 = .ok (.aload_n 0, 1) := by decide +kernel
theorem dX6_register_45 : decode cX6_register 45 = .ok (.getfield 52, 3) := by decide +kernel
theorem dX6_register_48 : decode cX6_register 48 = .ok (.getfield 95, 3) := by decide +kernel
theorem dX6_register_51 : decode cX6_register 51 = .ok (.getfield 99, 3) := by decide +kernel
theorem dX6_register_54 : decode cX6_register 54 = .ok (.ireturn, 1) := by decide +kernel
theorem dX6_register_55 : decode cX6_register 55 = .ok (.aload_n 0, 1) := by decide +kernel
theorem dX6_register_56 : decode cX6_register 56 = .ok (.getfield 52, 3) := by decide +kernel
theorem dX6_register_59 : decode cX6_register 59 = .ok (.getfield 95, 3) := by decide +kernel
theorem dX6_register_62 : decode cX6_register 62 = .ok (.getfield 104, 3) := by decide +kernel
theorem dX6_register_65 : decode cX6_register 65 = .ok (.ireturn, 1) := by decide +kernel
theorem dX6_register_66 : decode cX6_register 66 = .ok (.aload_n 0, 1) := by decide +kernel
theorem dX6_register_67 : decode cX6_register 67 = .ok (.getfield 52, 3) := by decide +kernel
theorem dX6_register_70 : decode cX6_register 70 = .ok (.getfield 95, 3) := by decide +kernel
theorem dX6_register_73 : decode cX6_register 73 = .ok (.getfield 107, 3) := by decide +kernel
theorem dX6_register_76 : decode cX6_register 76 = .ok (.ireturn, 1) := by decide +kernel
theorem dX6_register_77 : decode cX6_register 77 = .ok (.aload_n 0, 1) := by decide +kernel
theorem dX6_register_78 : decode cX6_register 78 = .ok (.getfield 52, 3) := by decide +kernel
theorem dX6_register_81 : decode cX6_register 81 = .ok (.getfield 95, 3) := by decide +kernel
theorem dX6_register_84 : decode cX6_register 84 = .ok (.getfield 110, 3) := by decide +kernel
theorem dX6_register_87 : decode cX6_register 87 = .ok (.ireturn, 1) := by decide +kernel
theorem dX6_register_88 : decode cX6_register 88 = .ok (.aload_n 0, 1) := by decide +kernel
theorem dX6_register_89 : decode cX6_register 89 = .ok (.getfield 52, 3) := by decide +kernel
theorem dX6_register_92 : decode cX6_register 92 = .ok (.getfield 95, 3) := by decide +kernel
theorem dX6_register_95 : decode cX6_register 95 = .ok (.getfield 113, 3) := by decide +kernel
theorem dX6_register_98 : decode cX6_register 98 = .ok (.ireturn, 1) := by decide +kernel
theorem dX6_register_99 : decode cX6_register 99 = .ok (.aload_n 0, 1) := by decide +kernel
theorem dX6_register_100 : decode cX6_register 100 = .ok (.getfield 52, 3) := by decide +kernel
theorem dX6_register_103 : decode cX6_register 103 = .ok (.getfield 95, 3) := by decide +kernel
theorem dX6_register_106 : decode cX6_register 106 = .ok (.getfield 116, 3) := by decide +kernel
theorem dX6_register_109 : decode cX6_register 109 = .ok (.ireturn, 1) := by decide +kernel
theorem dX6_register_110 : decode cX6_register 110 = .ok (.aload_n 0, 1) := by decide +kernel
theorem dX6_register_111 : decode cX6_register 111 = .ok (.getfield 43, 3) := by decide +kernel
theorem dX6_register_114 : decode cX6_register 114 = .ok (.getfield 119, 3) := by decide +kernel
theorem dX6_register_117 : decode cX6_register 117 = .ok (.ireturn, 1) := by decide +kernel
theorem dX6_register_118 : decode cX6_register 118 = .ok (.iconst (-1), 1) := by decide +kernel
theorem dX6_register_119 : decode cX6_register 119 = .ok (.ireturn, 1) := by decide +kernel
theorem dX6_jammed_0 : decode cX6_jammed 0 = .ok (.aload_n 0, 1) := by decide +kernel
theorem dX6_jammed_1 : decode cX6_jammed 1 = .ok (.getfield 52, 3) := by decide +kernel
theorem dX6_jammed_4 : decode cX6_jammed 4 = .ok (.getfield 122, 3) := by decide +kernel
theorem dX6_jammed_7 : decode cX6_jammed 7 = .ok (.ireturn, 1) := by decide +kernel
theorem dX6_beam_0 : decode cX6_beam 0 = .ok (.aload_n 0, 1) := by decide +kernel
theorem dX6_beam_1 : decode cX6_beam 1 = .ok (.getfield 27, 3) := by decide +kernel
theorem dX6_beam_4 : decode cX6_beam 4 = .ok (.getfield 126, 3) := by decide +kernel
theorem dX6_beam_7 : decode cX6_beam 7 = .ok (.bipush 24, 2) := by decide +kernel
theorem dX6_beam_9 : decode cX6_beam 9 = .ok (.imul, 1) := by decide +kernel
theorem dX6_beam_10 : decode cX6_beam 10 = .ok (.aload_n 0, 1) := by decide +kernel
theorem dX6_beam_11 : decode cX6_beam 11 = .ok (.getfield 27, 3) := by decide +kernel
theorem dX6_beam_14 : decode cX6_beam 14 = .ok (.getfield 129, 3) := by decide +kernel
theorem dX6_beam_17 : decode cX6_beam 17 = .ok (.iadd, 1) := by decide +kernel
theorem dX6_beam_18 : decode cX6_beam 18 = .ok (.ireturn, 1) := by decide +kernel
theorem dX6_point_0 : decode cX6_point 0 = .ok (.iload_n 1, 1) := by decide +kernel
theorem dX6_point_1 : decode cX6_point 1 = .ok (.ifCond .lt 19, 3) := by decide +kernel
theorem dX6_point_4 : decode cX6_point 4 = .ok (.iload_n 1, 1) := by decide +kernel
theorem dX6_point_5 : decode cX6_point 5 = .ok (.bipush 40, 2) := by decide +kernel
theorem dX6_point_7 : decode cX6_point 7 = .ok (.if_icmp .ge 13, 3) := by decide +kernel
theorem dX6_point_10 : decode cX6_point 10 = .ok (.iload_n 2, 1) := by decide +kernel
theorem dX6_point_11 : decode cX6_point 11 = .ok (.ifCond .lt 9, 3) := by decide +kernel
theorem dX6_point_14 : decode cX6_point 14 = .ok (.iload_n 2, 1) := by decide +kernel
theorem dX6_point_15 : decode cX6_point 15 = .ok (.bipush 64, 2) := by decide +kernel
theorem dX6_point_17 : decode cX6_point 17 = .ok (.if_icmp .lt 5, 3) := by decide +kernel
theorem dX6_point_20 : decode cX6_point 20 = .ok (.iconst (-1), 1) := by decide +kernel
theorem dX6_point_21 : decode cX6_point 21 = .ok (.ireturn, 1) := by decide +kernel
theorem dX6_point_22 : decode cX6_point 22 = .ok (.aload_n 0, 1) := by decide +kernel
theorem dX6_point_23 : decode cX6_point 23 = .ok (.getfield 27, 3) := by decide +kernel
theorem dX6_point_26 : decode cX6_point 26 = .ok (.getfield 132, 3) := by decide +kernel
theorem dX6_point_29 : decode cX6_point 29 = .ok (.iload_n 1, 1) := by decide +kernel
theorem dX6_point_30 : decode cX6_point 30 = .ok (.bipush 64, 2) := by decide +kernel
theorem dX6_point_32 : decode cX6_point 32 = .ok (.imul, 1) := by decide +kernel
theorem dX6_point_33 : decode cX6_point 33 = .ok (.iload_n 2, 1) := by decide +kernel
theorem dX6_point_34 : decode cX6_point 34 = .ok (.iadd, 1) := by decide +kernel
theorem dX6_point_35 : decode cX6_point 35 = .ok (.iaload, 1) := by decide +kernel
theorem dX6_point_36 : decode cX6_point 36 = .ok (.ireturn, 1) := by decide +kernel
theorem dX6_access_0 : decode cX6_access 0 = .ok (.aload_n 0, 1) := by decide +kernel
theorem dX6_access_1 : decode cX6_access 1 = .ok (.getfield 43, 3) := by decide +kernel
theorem dX6_access_4 : decode cX6_access 4 = .ok (.getfield 135, 3) := by decide +kernel
theorem dX6_access_7 : decode cX6_access 7 = .ok (.ireturn, 1) := by decide +kernel
theorem dX6_cycles_0 : decode cX6_cycles 0 = .ok (.aload_n 0, 1) := by decide +kernel
theorem dX6_cycles_1 : decode cX6_cycles 1 = .ok (.getfield 87, 3) := by decide +kernel
theorem dX6_cycles_4 : decode cX6_cycles 4 = .ok (.ireturn, 1) := by decide +kernel
theorem dX6_stolen_0 : decode cX6_stolen 0 = .ok (.aload_n 0, 1) := by decide +kernel
theorem dX6_stolen_1 : decode cX6_stolen 1 = .ok (.getfield 52, 3) := by decide +kernel
theorem dX6_stolen_4 : decode cX6_stolen 4 = .ok (.getfield 138, 3) := by decide +kernel
theorem dX6_stolen_7 : decode cX6_stolen 7 = .ok (.ireturn, 1) := by decide +kernel
