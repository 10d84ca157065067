theorem dX0_write_0 : decode cX0_write 0 = .ok (.iload_n 1, 1) := by decide +kernel
theorem dX0_write_1 : decode cX0_write 1 = .ok (.sipush 8191, 3) := by decide +kernel
theorem dX0_write_4 : decode cX0_write 4 = .ok (.iand, 1) := by decide +kernel
theorem dX0_write_5 : decode cX0_write 5 = .ok (.istore_n 3, 1) := by decide +kernel
theorem dX0_write_6 : decode cX0_write 6 = .ok (.iload_n 3, 1) := by decide +kernel
theorem dX0_write_7 : decode cX0_write 7 = .ok (.sipush 6656, 3) := by decide +kernel
theorem dX0_write_10 : decode cX0_write 10 = .ok (.isub, 1) := by decide +kernel
theorem dX0_write_11 : decode cX0_write 11 = .ok (.istore 4, 2) := by decide +kernel
theorem dX0_write_13 : decode cX0_write 13 = .ok (.aload_n 0, 1) := by decide +kernel
theorem dX0_write_14 : decode cX0_write 14 = .ok (.iload_n 3, 1) := by decide +kernel
theorem dX0_write_15 : decode cX0_write 15 = .ok (.sipush 8192, 3) := by decide +kernel
theorem dX0_write_18 : decode cX0_write 18 = .ok (.iadd, 1) := by decide +kernel
theorem dX0_write_19 : decode cX0_write 19 = .ok (.putfield 15, 3) := by decide +kernel
theorem dX0_write_22 : decode cX0_write 22 = .ok (.iload_n 3, 1) := by decide +kernel
theorem dX0_write_23 : decode cX0_write 23 = .ok (.iconst 1, 1) := by decide +kernel
theorem dX0_write_24 : decode cX0_write 24 = .ok (.if_icmp .ne 14, 3) := by decide +kernel
theorem dX0_write_27 : decode cX0_write 27 = .ok (.aload_n 0, 1) := by decide +kernel
theorem dX0_write_28 : decode cX0_write 28 = .ok (.iload_n 2, 1) := by decide +kernel
theorem dX0_write_29 : decode cX0_write 29 = .ok (.bipush 7, 2) := by decide +kernel
theorem dX0_write_31 : decode cX0_write 31 = .ok (.iand, 1) := by decide +kernel
theorem dX0_write_32 : decode cX0_write 32 = .ok (.putfield 11, 3) := by decide +kernel
theorem dX0_write_35 : decode cX0_write 35 = .ok (.goto 82, 3) := by decide +kernel
theorem dX0_write_38 : decode cX0_write 38 = .ok (.aload_n 0, 1) := by decide +kernel
theorem dX0_write_39 : decode cX0_write 39 = .ok (.iload_n 3, 1) := by decide +kernel
theorem dX0_write_40 : decode cX0_write 40 = .ok (.invokevirtual 43, 3) := by decide +kernel
theorem dX0_write_43 : decode cX0_write 43 = .ok (.ifCond .ne 13, 3) := by decide +kernel
theorem dX0_write_46 : decode cX0_write 46 = .ok (.aload_n 0, 1) := by decide +kernel
theorem dX0_write_47 : decode cX0_write 47 = .ok (.getfield 18, 3) := by decide +kernel
theorem dX0_write_50 : decode cX0_write 50 = .ok (.iload_n 3, 1) := by decide +kernel
theorem dX0_write_51 : decode cX0_write 51 = .ok (.iload_n 2, 1) := by decide +kernel
theorem dX0_write_52 : decode cX0_write 52 = .ok (.iastore, 1) := by decide +kernel
theorem dX0_write_53 : decode cX0_write 53 = .ok (.goto 64, 3) := by decide +kernel
theorem dX0_write_56 : decode cX0_write 56 = .ok (.iload 4, 2) := by decide +kernel
theorem dX0_write_58 : decode cX0_write 58 = .ok (.bipush 64, 2) := by decide +kernel
theorem dX0_write_60 : decode cX0_write 60 = .ok (.if_icmp .ge 19, 3) := by decide +kernel
theorem dX0_write_63 : decode cX0_write 63 = .ok (.aload_n 0, 1) := by decide +kernel
theorem dX0_write_64 : decode cX0_write 64 = .ok (.getfield 31, 3) := by decide +kernel
theorem dX0_write_67 : decode cX0_write 67 = .ok (.iload 4, 2) := by decide +kernel
theorem dX0_write_69 : decode cX0_write 69 = .ok (.bipush 15, 2) := by decide +kernel
theorem dX0_write_71 : decode cX0_write 71 = .ok (.iand, 1) := by decide +kernel
theorem dX0_write_72 : decode cX0_write 72 = .ok (.iload_n 2, 1) := by decide +kernel
theorem dX0_write_73 : decode cX0_write 73 = .ok (.invokevirtual 56, 3) := by decide +kernel
theorem dX0_write_76 : decode cX0_write 76 = .ok (.goto 41, 3) := by decide +kernel
theorem dX0_write_79 : decode cX0_write 79 = .ok (.iload 4, 2) := by decide +kernel
theorem dX0_write_81 : decode cX0_write 81 = .ok (.invokestatic 47, 3) := by decide +kernel
theorem dX0_write_84 : decode cX0_write 84 = .ok (.ifCond .eq 19, 3) := by decide +kernel
theorem dX0_write_87 : decode cX0_write 87 = .ok (.aload_n 0, 1) := by decide +kernel
theorem dX0_write_88 : decode cX0_write 88 = .ok (.getfield 35, 3) := by decide +kernel
theorem dX0_write_91 : decode cX0_write 91 = .ok (.iload 4, 2) := by decide +kernel
theorem dX0_write_93 : decode cX0_write 93 = .ok (.bipush 15, 2) := by decide +kernel
theorem dX0_write_95 : decode cX0_write 95 = .ok (.iand, 1) := by decide +kernel
theorem dX0_write_96 : decode cX0_write 96 = .ok (.iload_n 2, 1) := by decide +kernel
theorem dX0_write_97 : decode cX0_write 97 = .ok (.invokevirtual 62, 3) := by decide +kernel
theorem dX0_write_100 : decode cX0_write 100 = .ok (.goto 17, 3) := by decide +kernel
theorem dX0_write_103 : decode cX0_write 103 = .ok (.aload_n 0, 1) := by decide +kernel
theorem dX0_write_104 : decode cX0_write 104 = .ok (.getfield 31, 3) := by decide +kernel
theorem dX0_write_107 : decode cX0_write 107 = .ok (.iload 4, 2) := by decide +kernel
theorem dX0_write_109 : decode cX0_write 109 = .ok (.sipush 128, 3) := by decide +kernel
theorem dX0_write_112 : decode cX0_write 112 = .ok (.isub, 1) := by decide +kernel
theorem dX0_write_113 : decode cX0_write 113 = .ok (.iload_n 2, 1) := by decide +kernel
theorem dX0_write_114 : decode cX0_write 114 = .ok (.invokevirtual 63, 3) := by decide +kernel
theorem dX0_write_117 : decode cX0_write 117 = .ok (.return_, 1) := by decide +kernel
set_option maxRecDepth 20000 in
theorem ggX0_peek_X0_showsRegisters : GoodIn wsX0_peek wsX0_showsRegisters := goodIn_r _ [7, 8, 50, 51, 52, 53, 54, 55, 56, 57] (by decide +kernel) (by decide +kernel)
set_option maxRecDepth 20000 in
theorem gX0_peek_X0_showsRegisters : GoodIn wsX0_peek (wsV RX0 43 RX0 yX0_showsRegisters wsX0_showsRegisters) := goodIn_app (goodIn_of _ (by decide +kernel)) ggX0_peek_X0_showsRegisters
set_option maxRecDepth 20000 in
theorem ggX0_peek_X0_peekMemory : GoodIn wsX0_peek wsX0_peekMemory := goodIn_r _ [12, 8, 13, 14, 15, 16, 50, 51, 52, 53, 54, 55, 56, 57] (by decide +kernel) (by decide +kernel)
set_option maxRecDepth 20000 in
theorem gX0_peek_X0_peekMemory : GoodIn wsX0_peek (wsV RX0 66 RX0 yX0_peekMemory wsX0_peekMemory) := goodIn_app (goodIn_of _ (by decide +kernel)) ggX0_peek_X0_peekMemory
set_option maxRecDepth 20000 in
theorem ggX0_peek_X2_peekRegister : GoodIn wsX0_peek wsX2_peekRegister := goodIn_r _ [21, 22, 23, 24, 25, 26, 27, 28, 58, 59, 60, 61, 62, 63, 64, 65, 66, 67, 68, 69, 70, 71, 72, 73, 74, 75, 76] (by decide +kernel) (by decide +kernel)
set_option maxRecDepth 20000 in
theorem gX0_peek_X2_peekRegister : GoodIn wsX0_peek (wsV RX0 69 RX2 yX2_peekRegister wsX2_peekRegister) := goodIn_app (goodIn_of _ (by decide +kernel)) ggX0_peek_X2_peekRegister
set_option maxRecDepth 20000 in
theorem ggX0_peek_X0_isInterfacePlace : GoodIn wsX0_peek wsX0_isInterfacePlace := goodIn_r _ [31] (by decide +kernel) (by decide +kernel)
set_option maxRecDepth 20000 in
theorem gX0_peek_X0_isInterfacePlace : GoodIn wsX0_peek (va_wsS RX0 47 yX0_isInterfacePlace wsX0_isInterfacePlace) := goodIn_app (goodIn_of _ (by decide +kernel)) ggX0_peek_X0_isInterfacePlace
set_option maxRecDepth 20000 in
theorem ggX0_peek_X1_peekRegister : GoodIn wsX0_peek wsX1_peekRegister := goodIn_r _ [36, 37, 38, 39, 40, 41, 42, 43, 44, 77, 78, 79, 80, 81, 82, 83, 84, 85, 86, 87] (by decide +kernel) (by decide +kernel)
set_option maxRecDepth 20000 in
theorem gX0_peek_X1_peekRegister : GoodIn wsX0_peek (wsV RX0 72 RX1 yX1_peekRegister wsX1_peekRegister) := goodIn_app (goodIn_of _ (by decide +kernel)) ggX0_peek_X1_peekRegister
set_option maxRecDepth 20000 in
theorem ggX0_peek_X2_cellColour : GoodIn wsX0_peek wsX2_cellColour := goodIn_r _ [48, 49, 58, 59, 60, 61, 62, 63, 64, 65, 66, 67, 68, 69, 70, 71, 72, 73, 74, 75, 76] (by decide +kernel) (by decide +kernel)
set_option maxRecDepth 20000 in
theorem gX0_peek_X2_cellColour : GoodIn wsX0_peek (wsV RX0 73 RX2 yX2_cellColour wsX2_cellColour) := goodIn_app (goodIn_of _ (by decide +kernel)) ggX0_peek_X2_cellColour
theorem dX0_peek_0 : decode cX0_peek 0 = .ok (.iload_n 1, 1) := by decide +kernel
theorem dX0_peek_1 : decode cX0_peek 1 = .ok (.sipush 8191, 3) := by decide +kernel
theorem dX0_peek_4 : decode cX0_peek 4 = .ok (.iand, 1) := by decide +kernel
theorem dX0_peek_5 : decode cX0_peek 5 = .ok (.istore_n 2, 1) := by decide +kernel
theorem dX0_peek_6 : decode cX0_peek 6 = .ok (.iload_n 2, 1) := by decide +kernel
theorem dX0_peek_7 : decode cX0_peek 7 = .ok (.sipush 6656, 3) := by decide +kernel
theorem dX0_peek_10 : decode cX0_peek 10 = .ok (.isub, 1) := by decide +kernel
theorem dX0_peek_11 : decode cX0_peek 11 = .ok (.istore_n 3, 1) := by decide +kernel
theorem dX0_peek_12 : decode cX0_peek 12 = .ok (.aload_n 0, 1) := by decide +kernel
theorem dX0_peek_13 : decode cX0_peek 13 = .ok (.iload_n 2, 1) := by decide +kernel
theorem dX0_peek_14 : decode cX0_peek 14 = .ok (.invokevirtual 43, 3) := by decide +kernel
theorem dX0_peek_17 : decode cX0_peek 17 = .ok (.ifCond .ne 9, 3) := by decide +kernel
theorem dX0_peek_20 : decode cX0_peek 20 = .ok (.aload_n 0, 1) := by decide +kernel
theorem dX0_peek_21 : decode cX0_peek 21 = .ok (.iload_n 2, 1) := by decide +kernel
theorem dX0_peek_22 : decode cX0_peek 22 = .ok (.invokevirtual 66, 3) := by decide +kernel
theorem dX0_peek_25 : decode cX0_peek 25 = .ok (.ireturn, 1) := by decide +kernel
theorem dX0_peek_26 : decode cX0_peek 26 = .ok (.iload_n 3, 1) := by decide +kernel
theorem dX0_peek_27 : decode cX0_peek 27 = .ok (.bipush 64, 2) := by decide +kernel
theorem dX0_peek_29 : decode cX0_peek 29 = .ok (.if_icmp .ge 15, 3) := by decide +kernel
theorem dX0_peek_32 : decode cX0_peek 32 = .ok (.aload_n 0, 1) := by decide +kernel
theorem dX0_peek_33 : decode cX0_peek 33 = .ok (.getfield 31, 3) := by decide +kernel
theorem dX0_peek_36 : decode cX0_peek 36 = .ok (.iload_n 3, 1) := by decide +kernel
theorem dX0_peek_37 : decode cX0_peek 37 = .ok (.bipush 15, 2) := by decide +kernel
theorem dX0_peek_39 : decode cX0_peek 39 = .ok (.iand, 1) := by decide +kernel
theorem dX0_peek_40 : decode cX0_peek 40 = .ok (.invokevirtual 69, 3) := by decide +kernel
theorem dX0_peek_43 : decode cX0_peek 43 = .ok (.ireturn, 1) := by decide +kernel
theorem dX0_peek_44 : decode cX0_peek 44 = .ok (.iload_n 3, 1) := by decide +kernel
theorem dX0_peek_45 : decode cX0_peek 45 = .ok (.invokestatic 47, 3) := by decide +kernel
theorem dX0_peek_48 : decode cX0_peek 48 = .ok (.ifCond .eq 15, 3) := by decide +kernel
theorem dX0_peek_51 : decode cX0_peek 51 = .ok (.aload_n 0, 1) := by decide +kernel
theorem dX0_peek_52 : decode cX0_peek 52 = .ok (.getfield 35, 3) := by decide +kernel
theorem dX0_peek_55 : decode cX0_peek 55 = .ok (.iload_n 3, 1) := by decide +kernel
theorem dX0_peek_56 : decode cX0_peek 56 = .ok (.bipush 15, 2) := by decide +kernel
theorem dX0_peek_58 : decode cX0_peek 58 = .ok (.iand, 1) := by decide +kernel
theorem dX0_peek_59 : decode cX0_peek 59 = .ok (.invokevirtual 72, 3) := by decide +kernel
theorem dX0_peek_62 : decode cX0_peek 62 = .ok (.ireturn, 1) := by decide +kernel
theorem dX0_peek_63 : decode cX0_peek 63 = .ok (.aload_n 0, 1) := by decide +kernel
theorem dX0_peek_64 : decode cX0_peek 64 = .ok (.getfield 31, 3) := by decide +kernel
theorem dX0_peek_67 : decode cX0_peek 67 = .ok (.iload_n 3, 1) := by decide +kernel
theorem dX0_peek_68 : decode cX0_peek 68 = .ok (.sipush 128, 3) := by decide +kernel
theorem dX0_peek_71 : decode cX0_peek 71 = .ok (.isub, 1) := by decide +kernel
theorem dX0_peek_72 : decode cX0_peek 72 = .ok (.invokevirtual 73, 3) := by decide +kernel
theorem dX0_peek_75 : decode cX0_peek 75 = .ok (.ireturn, 1) := by decide +kernel
theorem dX0_peekMemory_0 : decode cX0_peekMemory 0 = .ok (.iload_n 1, 1) := by decide +kernel
theorem dX0_peekMemory_1 : decode cX0_peekMemory 1 = .ok (.sipush 8191, 3) := by decide +kernel
theorem dX0_peekMemory_4 : decode cX0_peekMemory 4 = .ok (.iand, 1) := by decide +kernel
theorem dX0_peekMemory_5 : decode cX0_peekMemory 5 = .ok (.istore_n 2, 1) := by decide +kernel
theorem dX0_peekMemory_6 : decode cX0_peekMemory 6 = .ok (.iload_n 2, 1) := by decide +kernel
theorem dX0_peekMemory_7 : decode cX0_peekMemory 7 = .ok (.iconst 1, 1) := by decide +kernel
theorem dX0_peekMemory_8 : decode cX0_peekMemory 8 = .ok (.if_icmp .ne 8, 3) := by decide +kernel
theorem dX0_peekMemory_11 : decode cX0_peekMemory 11 = .ok (.aload_n 0, 1) := by decide +kernel
theorem dX0_peekMemory_12 : decode cX0_peekMemory 12 = .ok (.getfield 11, 3) := by decide +kernel
theorem dX0_peekMemory_15 : decode cX0_peekMemory 15 = .ok (.ireturn, 1) := by decide +kernel
theorem dX0_peekMemory_16 : decode cX0_peekMemory 16 = .ok (.iload_n 2, 1) := by decide +kernel
theorem dX0_peekMemory_17 : decode cX0_peekMemory 17 = .ok (.sipush 5120, 3) := by decide +kernel
theorem dX0_peekMemory_20 : decode cX0_peekMemory 20 = .ok (.isub, 1) := by decide +kernel
theorem dX0_peekMemory_21 : decode cX0_peekMemory 21 = .ok (.istore_n 3, 1) := by decide +kernel
theorem dX0_peekMemory_22 : decode cX0_peekMemory 22 = .ok (.iload_n 3, 1) := by decide +kernel
theorem dX0_peekMemory_23 : decode cX0_peekMemory 23 = .ok (.ifCond .lt 35, 3) := by decide +kernel
theorem dX0_peekMemory_26 : decode cX0_peekMemory 26 = .ok (.iload_n 3, 1) := by decide +kernel
theorem dX0_peekMemory_27 : decode cX0_peekMemory 27 = .ok (.sipush 1024, 3) := by decide +kernel
theorem dX0_peekMemory_30 : decode cX0_peekMemory 30 = .ok (.if_icmp .ge 28, 3) := by decide +kernel
theorem dX0_peekMemory_33 : decode cX0_peekMemory 33 = .ok (.aload_n 0, 1) := by decide +kernel
theorem dX0_peekMemory_34 : decode cX0_peekMemory 34 = .ok (.getfield 11, 3) := by decide +kernel
theorem dX0_peekMemory_37 : decode cX0_peekMemory 37 = .ok (.iconst 1, 1) := by decide +kernel
theorem dX0_peekMemory_38 : decode cX0_peekMemory 38 = .ok (.iand, 1) := by decide +kernel
theorem dX0_peekMemory_39 : decode cX0_peekMemory 39 = .ok (.ifCond .eq 19, 3) := by decide +kernel
theorem dX0_peekMemory_42 : decode cX0_peekMemory 42 = .ok (.aload_n 0, 1) := by decide +kernel
theorem dX0_peekMemory_43 : decode cX0_peekMemory 43 = .ok (.getfield 11, 3) := by decide +kernel
theorem dX0_peekMemory_46 : decode cX0_peekMemory 46 = .ok (.iconst 2, 1) := by decide +kernel
theorem dX0_peekMemory_47 : decode cX0_peekMemory 47 = .ok (.iand, 1) := by decide +kernel
theorem dX0_peekMemory_48 : decode cX0_peekMemory 48 = .ok (.ifCond .eq 10, 3) := by decide +kernel
theorem dX0_peekMemory_51 : decode cX0_peekMemory 51 = .ok (.aload_n 0, 1) := by decide +kernel
theorem dX0_peekMemory_52 : decode cX0_peekMemory 52 = .ok (.getfield 22, 3) := by decide +kernel
theorem dX0_peekMemory_55 : decode cX0_peekMemory 55 = .ok (.iload_n 3, 1) := by decide +kernel
theorem dX0_peekMemory_56 : decode cX0_peekMemory 56 = .ok (.iaload, 1) := by decide +kernel
theorem dX0_peekMemory_57 : decode cX0_peekMemory 57 = .ok (.ireturn, 1) := by decide +kernel
theorem dX0_peekMemory_58 : decode cX0_peekMemory 58 = .ok (.iload_n 2, 1) := by decide +kernel
theorem dX0_peekMemory_59 : decode cX0_peekMemory 59 = .ok (.sipush 7168, 3) := by decide +kernel
theorem dX0_peekMemory_62 : decode cX0_peekMemory 62 = .ok (.if_icmp .lt 32, 3) := by decide +kernel
theorem dX0_peekMemory_65 : decode cX0_peekMemory 65 = .ok (.aload_n 0, 1) := by decide +kernel
theorem dX0_peekMemory_66 : decode cX0_peekMemory 66 = .ok (.getfield 11, 3) := by decide +kernel
theorem dX0_peekMemory_69 : decode cX0_peekMemory 69 = .ok (.iconst 2, 1) := by decide +kernel
theorem dX0_peekMemory_70 : decode cX0_peekMemory 70 = .ok (.iand, 1) := by decide +kernel
theorem dX0_peekMemory_71 : decode cX0_peekMemory 71 = .ok (.ifCond .eq 16, 3) := by decide +kernel
theorem dX0_peekMemory_74 : decode cX0_peekMemory 74 = .ok (.aload_n 0, 1) := by decide +kernel
theorem dX0_peekMemory_75 : decode cX0_peekMemory 75 = .ok (.getfield 28, 3) := by decide +kernel
theorem dX0_peekMemory_78 : decode cX0_peekMemory 78 = .ok (.iload_n 2, 1) := by decide +kernel
theorem dX0_peekMemory_79 : decode cX0_peekMemory 79 = .ok (.sipush 7168, 3) := by decide +kernel
theorem dX0_peekMemory_82 : decode cX0_peekMemory 82 = .ok (.isub, 1) := by decide +kernel
theorem dX0_peekMemory_83 : decode cX0_peekMemory 83 = .ok (.iaload, 1) := by decide +kernel
theorem dX0_peekMemory_84 : decode cX0_peekMemory 84 = .ok (.goto 9, 3) := by decide +kernel
theorem dX0_peekMemory_87 : decode cX0_peekMemory 87 = .ok (.aload_n 0, 1) := by decide +kernel
theorem dX0_peekMemory_88 : decode cX0_peekMemory 88 = .ok (.getfield 18, 3) := by decide +kernel
theorem dX0_peekMemory_91 : decode cX0_peekMemory 91 = .ok (.iload_n 2, 1) := by decide +kernel
theorem dX0_peekMemory_92 : decode cX0_peekMemory 92 = .ok (.iaload, 1) := by decide +kernel
theorem dX0_peekMemory_93 : decode cX0_peekMemory 93 = .ok (.ireturn, 1) := by decide +kernel
theorem dX0_peekMemory_94 : decode cX0_peekMemory 94 = .ok (.iload_n 2, 1) := by decide +kernel
theorem dX0_peekMemory_95 : decode cX0_peekMemory 95 = .ok (.sipush 6656, 3) := by decide +kernel
theorem dX0_peekMemory_98 : decode cX0_peekMemory 98 = .ok (.if_icmp .lt 23, 3) := by decide +kernel
theorem dX0_peekMemory_101 : decode cX0_peekMemory 101 = .ok (.aload_n 0, 1) := by decide +kernel
theorem dX0_peekMemory_102 : decode cX0_peekMemory 102 = .ok (.getfield 11, 3) := by decide +kernel
theorem dX0_peekMemory_105 : decode cX0_peekMemory 105 = .ok (.iconst 3, 1) := by decide +kernel
theorem dX0_peekMemory_106 : decode cX0_peekMemory 106 = .ok (.iand, 1) := by decide +kernel
theorem dX0_peekMemory_107 : decode cX0_peekMemory 107 = .ok (.ifCond .eq 14, 3) := by decide +kernel
theorem dX0_peekMemory_110 : decode cX0_peekMemory 110 = .ok (.aload_n 0, 1) := by decide +kernel
theorem dX0_peekMemory_111 : decode cX0_peekMemory 111 = .ok (.getfield 25, 3) := by decide +kernel
theorem dX0_peekMemory_114 : decode cX0_peekMemory 114 = .ok (.iload_n 2, 1) := by decide +kernel
theorem dX0_peekMemory_115 : decode cX0_peekMemory 115 = .ok (.sipush 6656, 3) := by decide +kernel
theorem dX0_peekMemory_118 : decode cX0_peekMemory 118 = .ok (.isub, 1) := by decide +kernel
theorem dX0_peekMemory_119 : decode cX0_peekMemory 119 = .ok (.iaload, 1) := by decide +kernel
theorem dX0_peekMemory_120 : decode cX0_peekMemory 120 = .ok (.ireturn, 1) := by decide +kernel
theorem dX0_peekMemory_121 : decode cX0_peekMemory 121 = .ok (.aload_n 0, 1) := by decide +kernel
theorem dX0_peekMemory_122 : decode cX0_peekMemory 122 = .ok (.getfield 18, 3) := by decide +kernel
theorem dX0_peekMemory_125 : decode cX0_peekMemory 125 = .ok (.iload_n 2, 1) := by decide +kernel
theorem dX0_peekMemory_126 : decode cX0_peekMemory 126 = .ok (.iaload, 1) := by decide +kernel
theorem dX0_peekMemory_127 : decode cX0_peekMemory 127 = .ok (.ireturn, 1) := by decide +kernel
theorem dX0_showsRegisters_0 : decode cX0_showsRegisters 0 = .ok (.iload_n 1, 1) := by decide +kernel
theorem dX0_showsRegisters_1 : decode cX0_showsRegisters 1 = .ok (.sipush 6656, 3) := by decide +kernel
theorem dX0_showsRegisters_4 : decode cX0_showsRegisters 4 = .ok (.if_icmp .lt 32, 3) := by decide +kernel
theorem dX0_showsRegisters_7 : decode cX0_showsRegisters 7 = .ok (.iload_n 1, 1) := by decide +kernel
theorem dX0_showsRegisters_8 : decode cX0_showsRegisters 8 = .ok (.sipush 7168, 3) := by decide +kernel
theorem dX0_showsRegisters_11 : decode cX0_showsRegisters 11 = .ok (.if_icmp .ge 25, 3) := by decide +kernel
theorem dX0_showsRegisters_14 : decode cX0_showsRegisters 14 = .ok (.aload_n 0, 1) := by decide +kernel
theorem dX0_showsRegisters_15 : decode cX0_showsRegisters 15 = .ok (.getfield 11, 3) := by decide +kernel
theorem dX0_showsRegisters_18 : decode cX0_showsRegisters 18 = .ok (.iconst 3, 1) := by decide +kernel
theorem dX0_showsRegisters_19 : decode cX0_showsRegisters 19 = .ok (.iand, 1) := by decide +kernel
theorem dX0_showsRegisters_20 : decode cX0_showsRegisters 20 = .ok (.ifCond .eq 16, 3) := by decide +kernel
theorem dX0_showsRegisters_23 : decode cX0_showsRegisters 23 = .ok (.aload_n 0, 1) := by decide +kernel
theorem dX0_showsRegisters_24 : decode cX0_showsRegisters 24 = .ok (.getfield 11, 3) := by decide +kernel
theorem dX0_showsRegisters_27 : decode cX0_showsRegisters 27 = .ok (.iconst 4, 1) := by decide +kernel
theorem dX0_showsRegisters_28 : decode cX0_showsRegisters 28 = .ok (.iand, 1) := by decide +kernel
theorem dX0_showsRegisters_29 : decode cX0_showsRegisters 29 = .ok (.ifCond .eq 7, 3) := by decide +kernel
theorem dX0_showsRegisters_32 : decode cX0_showsRegisters 32 = .ok (.iconst 1, 1) := by decide +kernel
theorem dX0_showsRegisters_33 : decode cX0_showsRegisters 33 = .ok (.goto 4, 3) := by decide +kernel
theorem dX0_showsRegisters_36 : decode cX0_showsRegisters 36 = .ok (.iconst 0, 1) := by decide +kernel
theorem dX0_showsRegisters_37 : decode cX0_showsRegisters 37 = .ok (.ireturn, 1) := by decide +kernel
theorem dX0_isInterfacePlace_0 : decode cX0_isInterfacePlace 0 = .ok (.iload_n 0, 1) := by decide +kernel
theorem dX0_isInterfacePlace_1 : decode cX0_isInterfacePlace 1 = .ok (.bipush 64, 2) := by decide +kernel
theorem dX0_isInterfacePlace_3 : decode cX0_isInterfacePlace 3 = .ok (.if_icmp .lt 14, 3) := by decide +kernel
theorem dX0_isInterfacePlace_6 : decode cX0_isInterfacePlace 6 = .ok (.iload_n 0, 1) := by decide +kernel
theorem dX0_isInterfacePlace_7 : decode cX0_isInterfacePlace 7 = .ok (.sipush 128, 3) := by decide +kernel
theorem dX0_isInterfacePlace_10 : decode cX0_isInterfacePlace 10 = .ok (.if_icmp .ge 7, 3) := by decide +kernel
theorem dX0_isInterfacePlace_13 : decode cX0_isInterfacePlace 13 = .ok (.iconst 1, 1) := by decide +kernel
theorem dX0_isInterfacePlace_14 : decode cX0_isInterfacePlace 14 = .ok (.goto 4, 3) := by decide +kernel
theorem dX0_isInterfacePlace_17 : decode cX0_isInterfacePlace 17 = .ok (.iconst 0, 1) := by decide +kernel
theorem dX0_isInterfacePlace_18 : decode cX0_isInterfacePlace 18 = .ok (.ireturn, 1) := by decide +kernel
set_option maxRecDepth 20000 in
theorem ggX1_init_X5_init : GoodIn wsX1_init wsX5_init := goodIn_r _ [14, 15, 2, 3, 16, 17, 18, 19, 27, 28, 29, 30] (by decide +kernel) (by decide +kernel)
set_option maxRecDepth 20000 in
theorem gX1_init_X5_init : GoodIn wsX1_init (wsX5_init) := ggX1_init_X5_init
theorem dX1_init_0 : decode cX1_init 0 = .ok (.aload_n 0, 1) := by decide +kernel
theorem dX1_init_1 : decode cX1_init 1 = .ok (.invokespecial 3, 3) := by decide +kernel
theorem dX1_init_4 : decode cX1_init 4 = .ok (.aload_n 0, 1) := by decide +kernel
theorem dX1_init_5 : decode cX1_init 5 = .ok (.bipush 8, 2) := by decide +kernel
theorem dX1_init_7 : decode cX1_init 7 = .ok (.newarray .int, 2) := by decide +kernel
theorem dX1_init_9 : decode cX1_init 9 = .ok (.putfield 9, 3) := by decide +kernel
theorem dX1_init_12 : decode cX1_init 12 = .ok (.aload_n 0, 1) := by decide +kernel
theorem dX1_init_13 : decode cX1_init 13 = .ok (.new 13, 3) := by decide +kernel
theorem dX1_init_16 : decode cX1_init 16 = .ok (.dup, 1) := by decide +kernel
theorem dX1_init_17 : decode cX1_init 17 = .ok (.bipush 9, 2) := by decide +kernel
theorem dX1_init_19 : decode cX1_init 19 = .ok (.invokespecial 15, 3) := by decide +kernel
theorem dX1_init_22 : decode cX1_init 22 = .ok (.putfield 18, 3) := by decide +kernel
theorem dX1_init_25 : decode cX1_init 25 = .ok (.aload_n 0, 1) := by decide +kernel
theorem dX1_init_26 : decode cX1_init 26 = .ok (.new 13, 3) := by decide +kernel
theorem dX1_init_29 : decode cX1_init 29 = .ok (.dup, 1) := by decide +kernel
theorem dX1_init_30 : decode cX1_init 30 = .ok (.bipush 73, 2) := by decide +kernel
theorem dX1_init_32 : decode cX1_init 32 = .ok (.invokespecial 15, 3) := by decide +kernel
theorem dX1_init_35 : decode cX1_init 35 = .ok (.putfield 22, 3) := by decide +kernel
theorem dX1_init_38 : decode cX1_init 38 = .ok (.aload_n 0, 1) := by decide +kernel
theorem dX1_init_39 : decode cX1_init 39 = .ok (.sipush 255, 3) := by decide +kernel
theorem dX1_init_42 : decode cX1_init 42 = .ok (.putfield 25, 3) := by decide +kernel
theorem dX1_init_45 : decode cX1_init 45 = .ok (.return_, 1) := by decide +kernel
set_option maxRecDepth 20000 in
theorem ggX1_setKeys_X1_scanKeys : GoodIn wsX1_setKeys wsX1_scanKeys := goodIn_r _ [6, 7, 8, 1, 9, 10, 11, 12, 13, 14, 15] (by decide +kernel) (by decide +kernel)
set_option maxRecDepth 20000 in
theorem gX1_setKeys_X1_scanKeys : GoodIn wsX1_setKeys (wsV RX1 29 RX1 yX1_scanKeys wsX1_scanKeys) := goodIn_app (goodIn_of _ (by decide +kernel)) ggX1_setKeys_X1_scanKeys
theorem dX1_setKeys_0 : decode cX1_setKeys 0 = .ok (.iload_n 1, 1) := by decide +kernel
theorem dX1_setKeys_1 : decode cX1_setKeys 1 = .ok (.ifCond .lt 16, 3) := by decide +kernel
theorem dX1_setKeys_4 : decode cX1_setKeys 4 = .ok (.iload_n 1, 1) := by decide +kernel
theorem dX1_setKeys_5 : decode cX1_setKeys 5 = .ok (.bipush 8, 2) := by decide +kernel
theorem dX1_setKeys_7 : decode cX1_setKeys 7 = .ok (.if_icmp .ge 10, 3) := by decide +kernel
theorem dX1_setKeys_10 : decode cX1_setKeys 10 = .ok (.aload_n 0, 1) := by decide +kernel
theorem dX1_setKeys_11 : decode cX1_setKeys 11 = .ok (.getfield 9, 3) := by decide +kernel
theorem dX1_setKeys_14 : decode cX1_setKeys 14 = .ok (.iload_n 1, 1) := by decide +kernel
theorem dX1_setKeys_15 : decode cX1_setKeys 15 = .ok (.iload_n 2, 1) := by decide +kernel
theorem dX1_setKeys_16 : decode cX1_setKeys 16 = .ok (.iastore, 1) := by decide +kernel
theorem dX1_setKeys_17 : decode cX1_setKeys 17 = .ok (.aload_n 0, 1) := by decide +kernel
theorem dX1_setKeys_18 : decode cX1_setKeys 18 = .ok (.invokevirtual 29, 3) := by decide +kernel
theorem dX1_setKeys_21 : decode cX1_setKeys 21 = .ok (.return_, 1) := by decide +kernel
theorem dX1_scanKeys_0 : decode cX1_scanKeys 0 = .ok (.aload_n 0, 1) := by decide +kernel
theorem dX1_scanKeys_1 : decode cX1_scanKeys 1 = .ok (.sipush 255, 3) := by decide +kernel
theorem dX1_scanKeys_4 : decode cX1_scanKeys 4 = .ok (.putfield 25, 3) := by decide +kernel
theorem dX1_scanKeys_7 : decode cX1_scanKeys 7 = .ok (.iconst 0, 1) := by decide +kernel
theorem dX1_scanKeys_8 : decode cX1_scanKeys 8 = .ok (.istore_n 1, 1) := by decide +kernel
theorem dX1_scanKeys_9 : decode cX1_scanKeys 9 = .ok (.iload_n 1, 1) := by decide +kernel
theorem dX1_scanKeys_10 : decode cX1_scanKeys 10 = .ok (.bipush 8, 2) := by decide +kernel
theorem dX1_scanKeys_12 : decode cX1_scanKeys 12 = .ok (.if_icmp .ge 37, 3) := by decide +kernel
theorem dX1_scanKeys_15 : decode cX1_scanKeys 15 = .ok (.aload_n 0, 1) := by decide +kernel
theorem dX1_scanKeys_16 : decode cX1_scanKeys 16 = .ok (.getfield 32, 3) := by decide +kernel
theorem dX1_scanKeys_19 : decode cX1_scanKeys 19 = .ok (.iload_n 1, 1) := by decide +kernel
theorem dX1_scanKeys_20 : decode cX1_scanKeys 20 = .ok (.ishr, 1) := by decide +kernel
theorem dX1_scanKeys_21 : decode cX1_scanKeys 21 = .ok (.iconst 1, 1) := by decide +kernel
theorem dX1_scanKeys_22 : decode cX1_scanKeys 22 = .ok (.iand, 1) := by decide +kernel
theorem dX1_scanKeys_23 : decode cX1_scanKeys 23 = .ok (.ifCond .ne 20, 3) := by decide +kernel
theorem dX1_scanKeys_26 : decode cX1_scanKeys 26 = .ok (.aload_n 0, 1) := by decide +kernel
theorem dX1_scanKeys_27 : decode cX1_scanKeys 27 = .ok (.dup, 1) := by decide +kernel
theorem dX1_scanKeys_28 : decode cX1_scanKeys 28 = .ok (.getfield 25, 3) := by decide +kernel
theorem dX1_scanKeys_31 : decode cX1_scanKeys 31 = .ok (.aload_n 0, 1) := by decide +kernel
theorem dX1_scanKeys_32 : decode cX1_scanKeys 32 = .ok (.getfield 9, 3) := by decide +kernel
theorem dX1_scanKeys_35 : decode cX1_scanKeys 35 = .ok (.iload_n 1, 1) := by decide +kernel
theorem dX1_scanKeys_36 : decode cX1_scanKeys 36 = .ok (.iaload, 1) := by decide +kernel
theorem dX1_scanKeys_37 : decode cX1_scanKeys 37 = .ok (.iconst (-1), 1) := by decide +kernel
theorem dX1_scanKeys_38 : decode cX1_scanKeys 38 = .ok (.ixor, 1) := by decide +kernel
theorem dX1_scanKeys_39 : decode cX1_scanKeys 39 = .ok (.iand, 1) := by decide +kernel
theorem dX1_scanKeys_40 : decode cX1_scanKeys 40 = .ok (.putfield 25, 3) := by decide +kernel
theorem dX1_scanKeys_43 : decode cX1_scanKeys 43 = .ok (.iinc 1 1, 3) := by decide +kernel
theorem dX1_scanKeys_46 : decode cX1_scanKeys 46 = .ok (.goto (-37), 3) := by decide +kernel
theorem dX1_scanKeys_49 : decode cX1_scanKeys 49 = .ok (.return_, 1) := by decide +kernel
set_option maxRecDepth 20000 in
theorem ggX1_countTimers_X5_isRunning : GoodIn wsX1_countTimers wsX5_isRunning := goodIn_r _ [8, 9, 27, 28, 29, 30] (by decide +kernel) (by decide +kernel)
set_option maxRecDepth 20000 in
theorem gX1_countTimers_X5_isRunning : GoodIn wsX1_countTimers (wsV RX1 35 RX5 yX5_isRunning wsX5_isRunning) := goodIn_app (goodIn_of _ (by decide +kernel)) ggX1_countTimers_X5_isRunning
set_option maxRecDepth 20000 in
theorem ggX1_countTimers_X5_countDown : GoodIn wsX1_countTimers wsX5_countDown := goodIn_r _ [13, 14, 15, 9, 27, 28, 29, 30] (by decide +kernel) (by decide +kernel)
set_option maxRecDepth 20000 in
theorem gX1_countTimers_X5_countDown : GoodIn wsX1_countTimers (wsV RX1 39 RX5 yX5_countDown wsX5_countDown) := goodIn_app (goodIn_of _ (by decide +kernel)) ggX1_countTimers_X5_countDown
set_option maxRecDepth 20000 in
theorem ggX1_countTimers_X5_isCascaded : GoodIn wsX1_countTimers wsX5_isCascaded := goodIn_r _ [19, 9, 27, 28, 29, 30] (by decide +kernel) (by decide +kernel)
set_option maxRecDepth 20000 in
theorem gX1_countTimers_X5_isCascaded : GoodIn wsX1_countTimers (wsV RX1 45 RX5 yX5_isCascaded wsX5_isCascaded) := goodIn_app (goodIn_of _ (by decide +kernel)) ggX1_countTimers_X5_isCascaded
theorem dX1_countTimers_0 : decode cX1_countTimers 0 = .ok (.aload_n 0, 1) := by decide +kernel
theorem dX1_countTimers_1 : decode cX1_countTimers 1 = .ok (.getfield 18, 3) := by decide +kernel
theorem dX1_countTimers_4 : decode cX1_countTimers 4 = .ok (.invokevirtual 35, 3) := by decide +kernel
theorem dX1_countTimers_7 : decode cX1_countTimers 7 = .ok (.ifCond .eq 17, 3) := by decide +kernel
theorem dX1_countTimers_10 : decode cX1_countTimers 10 = .ok (.aload_n 0, 1) := by decide +kernel
theorem dX1_countTimers_11 : decode cX1_countTimers 11 = .ok (.getfield 18, 3) := by decide +kernel
theorem dX1_countTimers_14 : decode cX1_countTimers 14 = .ok (.invokevirtual 39, 3) := by decide +kernel
theorem dX1_countTimers_17 : decode cX1_countTimers 17 = .ok (.ifCond .eq 7, 3) := by decide +kernel
theorem dX1_countTimers_20 : decode cX1_countTimers 20 = .ok (.iconst 1, 1) := by decide +kernel
theorem dX1_countTimers_21 : decode cX1_countTimers 21 = .ok (.goto 4, 3) := by decide +kernel
theorem dX1_countTimers_24 : decode cX1_countTimers 24 = .ok (.iconst 0, 1) := by decide +kernel
theorem dX1_countTimers_25 : decode cX1_countTimers 25 = .ok (.istore_n 1, 1) := by decide +kernel
theorem dX1_countTimers_26 : decode cX1_countTimers 26 = .ok (.iload_n 1, 1) := by decide +kernel
theorem dX1_countTimers_27 : decode cX1_countTimers 27 = .ok (.ifCond .eq 13, 3) := by decide +kernel
theorem dX1_countTimers_30 : decode cX1_countTimers 30 = .ok (.aload_n 0, 1) := by decide +kernel
theorem dX1_countTimers_31 : decode cX1_countTimers 31 = .ok (.dup, 1) := by decide +kernel
theorem dX1_countTimers_32 : decode cX1_countTimers 32 = .ok (.getfield 42, 3) := by decide +kernel
theorem dX1_countTimers_35 : decode cX1_countTimers 35 = .ok (.iconst 1, 1) := by decide +kernel
theorem dX1_countTimers_36 : decode cX1_countTimers 36 = .ok (.ior, 1) := by decide +kernel
theorem dX1_countTimers_37 : decode cX1_countTimers 37 = .ok (.putfield 42, 3) := by decide +kernel
theorem dX1_countTimers_40 : decode cX1_countTimers 40 = .ok (.aload_n 0, 1) := by decide +kernel
theorem dX1_countTimers_41 : decode cX1_countTimers 41 = .ok (.getfield 22, 3) := by decide +kernel
theorem dX1_countTimers_44 : decode cX1_countTimers 44 = .ok (.invokevirtual 35, 3) := by decide +kernel
theorem dX1_countTimers_47 : decode cX1_countTimers 47 = .ok (.ifCond .eq 21, 3) := by decide +kernel
theorem dX1_countTimers_50 : decode cX1_countTimers 50 = .ok (.iload_n 1, 1) := by decide +kernel
theorem dX1_countTimers_51 : decode cX1_countTimers 51 = .ok (.ifCond .ne 13, 3) := by decide +kernel
theorem dX1_countTimers_54 : decode cX1_countTimers 54 = .ok (.aload_n 0, 1) := by decide +kernel
theorem dX1_countTimers_55 : decode cX1_countTimers 55 = .ok (.getfield 22, 3) := by decide +kernel
theorem dX1_countTimers_58 : decode cX1_countTimers 58 = .ok (.invokevirtual 45, 3) := by decide +kernel
theorem dX1_countTimers_61 : decode cX1_countTimers 61 = .ok (.ifCond .ne 7, 3) := by decide +kernel
theorem dX1_countTimers_64 : decode cX1_countTimers 64 = .ok (.iconst 1, 1) := by decide +kernel
theorem dX1_countTimers_65 : decode cX1_countTimers 65 = .ok (.goto 4, 3) := by decide +kernel
theorem dX1_countTimers_68 : decode cX1_countTimers 68 = .ok (.iconst 0, 1) := by decide +kernel
theorem dX1_countTimers_69 : decode cX1_countTimers 69 = .ok (.istore_n 2, 1) := by decide +kernel
theorem dX1_countTimers_70 : decode cX1_countTimers 70 = .ok (.iload_n 2, 1) := by decide +kernel
theorem dX1_countTimers_71 : decode cX1_countTimers 71 = .ok (.ifCond .eq 23, 3) := by decide +kernel
theorem dX1_countTimers_74 : decode cX1_countTimers 74 = .ok (.aload_n 0, 1) := by decide +kernel
theorem dX1_countTimers_75 : decode cX1_countTimers 75 = .ok (.getfield 22, 3) := by decide +kernel
theorem dX1_countTimers_78 : decode cX1_countTimers 78 = .ok (.invokevirtual 39, 3) := by decide +kernel
theorem dX1_countTimers_81 : decode cX1_countTimers 81 = .ok (.ifCond .eq 13, 3) := by decide +kernel
theorem dX1_countTimers_84 : decode cX1_countTimers 84 = .ok (.aload_n 0, 1) := by decide +kernel
theorem dX1_countTimers_85 : decode cX1_countTimers 85 = .ok (.dup, 1) := by decide +kernel
theorem dX1_countTimers_86 : decode cX1_countTimers 86 = .ok (.getfield 42, 3) := by decide +kernel
theorem dX1_countTimers_89 : decode cX1_countTimers 89 = .ok (.iconst 2, 1) := by decide +kernel
theorem dX1_countTimers_90 : decode cX1_countTimers 90 = .ok (.ior, 1) := by decide +kernel
theorem dX1_countTimers_91 : decode cX1_countTimers 91 = .ok (.putfield 42, 3) := by decide +kernel
theorem dX1_countTimers_94 : decode cX1_countTimers 94 = .ok (.return_, 1) := by decide +kernel
theorem dX1_asksInterrupt_0 : decode cX1_asksInterrupt 0 = .ok (.aload_n 0, 1) := by decide +kernel
theorem dX1_asksInterrupt_1 : decode cX1_asksInterrupt 1 = .ok (.getfield 42, 3) := by decide +kernel
theorem dX1_asksInterrupt_4 : decode cX1_asksInterrupt 4 = .ok (.aload_n 0, 1) := by decide +kernel
theorem dX1_asksInterrupt_5 : decode cX1_asksInterrupt 5 = .ok (.getfield 48, 3) := by decide +kernel
theorem dX1_asksInterrupt_8 : decode cX1_asksInterrupt 8 = .ok (.iand, 1) := by decide +kernel
theorem dX1_asksInterrupt_9 : decode cX1_asksInterrupt 9 = .ok (.ifCond .eq 7, 3) := by decide +kernel
theorem dX1_asksInterrupt_12 : decode cX1_asksInterrupt 12 = .ok (.iconst 1, 1) := by decide +kernel
theorem dX1_asksInterrupt_13 : decode cX1_asksInterrupt 13 = .ok (.goto 4, 3) := by decide +kernel
theorem dX1_asksInterrupt_16 : decode cX1_asksInterrupt 16 = .ok (.iconst 0, 1) := by decide +kernel
theorem dX1_asksInterrupt_17 : decode cX1_asksInterrupt 17 = .ok (.ireturn, 1) := by decide +kernel
theorem dX1_clearBehindRead_0 : decode cX1_clearBehindRead 0 = .ok (.iload_n 1, 1) := by decide +kernel
theorem dX1_clearBehindRead_1 : decode cX1_clearBehindRead 1 = .ok (.bipush 13, 2) := by decide +kernel
theorem dX1_clearBehindRead_3 : decode cX1_clearBehindRead 3 = .ok (.if_icmp .ne 8, 3) := by decide +kernel
theorem dX1_clearBehindRead_6 : decode cX1_clearBehindRead 6 = .ok (.aload_n 0, 1) := by decide +kernel
theorem dX1_clearBehindRead_7 : decode cX1_clearBehindRead 7 = .ok (.iconst 0, 1) := by decide +kernel
theorem dX1_clearBehindRead_8 : decode cX1_clearBehindRead 8 = .ok (.putfield 42, 3) := by decide +kernel
theorem dX1_clearBehindRead_11 : decode cX1_clearBehindRead 11 = .ok (.return_, 1) := by decide +kernel
theorem dX1_peekRegister_0 : decode cX1_peekRegister 0 = .ok (.iload_n 1, 1) := by decide +kernel
theorem dX1_peekRegister_1 : decode cX1_peekRegister 1 = .ok (.tableswitch 176 0 15 #[79, 84, 176, 176, 89, 101, 112, 124, 176, 176, 176, 176, 176, 135, 160, 168], 79) := by decide +kernel
theorem dX1_peekRegister_80 : decode cX1_peekRegister 80 = .ok (.aload_n 0, 1) := by decide +kernel
theorem dX1_peekRegister_81 : decode cX1_peekRegister 81 = .ok (.getfield 32, 3) := by decide +kernel
theorem dX1_peekRegister_84 : decode cX1_peekRegister 84 = .ok (.ireturn, 1) := by decide +kernel
theorem dX1_peekRegister_85 : decode cX1_peekRegister 85 = .ok (.aload_n 0, 1) := by decide +kernel
theorem dX1_peekRegister_86 : decode cX1_peekRegister 86 = .ok (.getfield 25, 3) := by decide +kernel
theorem dX1_peekRegister_89 : decode cX1_peekRegister 89 = .ok (.ireturn, 1) := by decide +kernel
theorem dX1_peekRegister_90 : decode cX1_peekRegister 90 = .ok (.aload_n 0, 1) := by decide +kernel
theorem dX1_peekRegister_91 : decode cX1_peekRegister 91 = .ok (.getfield 18, 3) := by decide +kernel
theorem dX1_peekRegister_94 : decode cX1_peekRegister 94 = .ok (.getfield 51, 3) := by decide +kernel
theorem dX1_peekRegister_97 : decode cX1_peekRegister 97 = .ok (.sipush 255, 3) := by decide +kernel
theorem dX1_peekRegister_100 : decode cX1_peekRegister 100 = .ok (.iand, 1) := by decide +kernel
theorem dX1_peekRegister_101 : decode cX1_peekRegister 101 = .ok (.ireturn, 1) := by decide +kernel
theorem dX1_peekRegister_102 : decode cX1_peekRegister 102 = .ok (.aload_n 0, 1) := by decide +kernel
theorem dX1_peekRegister_103 : decode cX1_peekRegister 103 = .ok (.getfield 18, 3) := by decide +kernel
theorem dX1_peekRegister_106 : decode cX1_peekRegister 106 = .ok (.getfield 51, 3) := by decide +kernel
theorem dX1_peekRegister_109 : decode cX1_peekRegister 109 = .ok (.bipush 8, 2) := by decide +kernel
theorem dX1_peekRegister_111 : decode cX1_peekRegister 111 = .ok (.ishr, 1) := by decide +kernel
theorem dX1_peekRegister_112 : decode cX1_peekRegister 112 = .ok (.ireturn, 1) := by decide +kernel
theorem dX1_peekRegister_113 : decode cX1_peekRegister 113 = .ok (.aload_n 0, 1) := by decide +kernel
theorem dX1_peekRegister_114 : decode cX1_peekRegister 114 = .ok (.getfield 22, 3) := by decide +kernel
theorem dX1_peekRegister_117 : decode cX1_peekRegister 117 = .ok (.getfield 51, 3) := by decide +kernel
theorem dX1_peekRegister_120 : decode cX1_peekRegister 120 = .ok (.sipush 255, 3) := by decide +kernel
theorem dX1_peekRegister_123 : decode cX1_peekRegister 123 = .ok (.iand, 1) := by decide +kernel
theorem dX1_peekRegister_124 : decode cX1_peekRegister 124 = .ok (.ireturn, 1) := by decide +kernel
theorem dX1_peekRegister_125 : decode cX1_peekRegister 125 = .ok (.aload_n 0, 1) := by decide +kernel
theorem dX1_peekRegister_126 : decode cX1_peekRegister 126 = .ok (.getfield 22, 3) := by decide +kernel
theorem dX1_peekRegister_129 : decode cX1_peekRegister 129 = .ok (.getfield 51, 3) := by decide +kernel
theorem dX1_peekRegister_132 : decode cX1_peekRegister 132 = .ok (.bipush 8, 2) := by decide +kernel
theorem dX1_peekRegister_134 : decode cX1_peekRegister 134 = .ok (.ishr, 1) := by decide +kernel
theorem dX1_peekRegister_135 : decode cX1_peekRegister 135 = .ok (.ireturn, 1) := by decide +kernel
theorem dX1_peekRegister_136 : decode cX1_peekRegister 136 = .ok (.aload_n 0, 1) := by decide +kernel
theorem dX1_peekRegister_137 : decode cX1_peekRegister 137 = .ok (.getfield 42, 3) := by decide +kernel
theorem dX1_peekRegister_140 : decode cX1_peekRegister 140 = .ok (.aload_n 0, 1) := by decide +kernel
theorem dX1_peekRegister_141 : decode cX1_peekRegister 141 = .ok (.getfield 42, 3) := by decide +kernel
theorem dX1_peekRegister_144 : decode cX1_peekRegister 144 = .ok (.aload_n 0, 1) := by decide +kernel
theorem dX1_peekRegister_145 : decode cX1_peekRegister 145 = .ok (.getfield 48, 3) := by decide +kernel
theorem dX1_peekRegister_148 : decode cX1_peekRegister 148 = .ok (.iand, 1) := by decide +kernel
theorem dX1_peekRegister_149 : decode cX1_peekRegister 149 = .ok (.ifCond .eq 9, 3) := by decide +kernel
theorem dX1_peekRegister_152 : decode cX1_peekRegister 152 = .ok (.sipush 128, 3) := by decide +kernel
theorem dX1_peekRegister_155 : decode cX1_peekRegister 155 = .ok (.goto 4, 3) := by decide +kernel
theorem dX1_peekRegister_158 : decode cX1_peekRegister 158 = .ok (.iconst 0, 1) := by decide +kernel
theorem dX1_peekRegister_159 : decode cX1_peekRegister 159 = .ok (.iadd, 1) := by decide +kernel
theorem dX1_peekRegister_160 : decode cX1_peekRegister 160 = .ok (.ireturn, 1) := by decide +kernel
theorem dX1_peekRegister_161 : decode cX1_peekRegister 161 = .ok (.aload_n 0, 1) := by decide +kernel
theorem dX1_peekRegister_162 : decode cX1_peekRegister 162 = .ok (.getfield 18, 3) := by decide +kernel
theorem dX1_peekRegister_165 : decode cX1_peekRegister 165 = .ok (.getfield 54, 3) := by decide +kernel
theorem dX1_peekRegister_168 : decode cX1_peekRegister 168 = .ok (.ireturn, 1) := by decide +kernel
theorem dX1_peekRegister_169 : decode cX1_peekRegister 169 = .ok (.aload_n 0, 1) := by decide +kernel
theorem dX1_peekRegister_170 : decode cX1_peekRegister 170 = .ok (.getfield 22, 3) := by decide +kernel
theorem dX1_peekRegister_173 : decode cX1_peekRegister 173 = .ok (.getfield 54, 3) := by decide +kernel
theorem dX1_peekRegister_176 : decode cX1_peekRegister 176 = .ok (.ireturn, 1) := by decide +kernel
theorem dX1_peekRegister_177 : decode cX1_peekRegister 177 = .ok (.iconst 0, 1) := by decide +kernel
theorem dX1_peekRegister_178 : decode cX1_peekRegister 178 = .ok (.ireturn, 1) := by decide +kernel
set_option maxRecDepth 20000 in
theorem ggX1_writeRegister_X1_scanKeys : GoodIn wsX1_writeRegister wsX1_scanKeys := goodIn_r _ [8, 9, 1, 10, 34, 35, 36, 37, 38, 39, 40] (by decide +kernel) (by decide +kernel)
set_option maxRecDepth 20000 in
theorem gX1_writeRegister_X1_scanKeys : GoodIn wsX1_writeRegister (wsV RX1 29 RX1 yX1_scanKeys wsX1_scanKeys) := goodIn_app (goodIn_of _ (by decide +kernel)) ggX1_writeRegister_X1_scanKeys
set_option maxRecDepth 20000 in
theorem ggX1_writeRegister_X5_setLowLatch : GoodIn wsX1_writeRegister wsX5_setLowLatch := goodIn_r _ [15, 16, 17, 41, 42, 43, 44] (by decide +kernel) (by decide +kernel)
set_option maxRecDepth 20000 in
theorem gX1_writeRegister_X5_setLowLatch : GoodIn wsX1_writeRegister (wsV RX1 57 RX5 yX5_setLowLatch wsX5_setLowLatch) := goodIn_app (goodIn_of _ (by decide +kernel)) ggX1_writeRegister_X5_setLowLatch
set_option maxRecDepth 20000 in
theorem ggX1_writeRegister_X5_setHighLatch : GoodIn wsX1_writeRegister wsX5_setHighLatch := goodIn_r _ [21, 16, 22, 23, 41, 42, 43, 44] (by decide +kernel) (by decide +kernel)
set_option maxRecDepth 20000 in
theorem gX1_writeRegister_X5_setHighLatch : GoodIn wsX1_writeRegister (wsV RX1 60 RX5 yX5_setHighLatch wsX5_setHighLatch) := goodIn_app (goodIn_of _ (by decide +kernel)) ggX1_writeRegister_X5_setHighLatch
set_option maxRecDepth 20000 in
theorem ggX1_writeRegister_X1_setEnabled : GoodIn wsX1_writeRegister wsX1_setEnabled := goodIn_r _ [27, 28, 34, 35, 36, 37, 38, 39, 40] (by decide +kernel) (by decide +kernel)
set_option maxRecDepth 20000 in
theorem gX1_writeRegister_X1_setEnabled : GoodIn wsX1_writeRegister (wsV RX1 63 RX1 yX1_setEnabled wsX1_setEnabled) := goodIn_app (goodIn_of _ (by decide +kernel)) ggX1_writeRegister_X1_setEnabled
set_option maxRecDepth 20000 in
theorem ggX1_writeRegister_X5_setControl : GoodIn wsX1_writeRegister wsX5_setControl := goodIn_r _ [32, 33, 22, 16, 23, 41, 42, 43, 44] (by decide +kernel) (by decide +kernel)
set_option maxRecDepth 20000 in
theorem gX1_writeRegister_X5_setControl : GoodIn wsX1_writeRegister (wsV RX1 66 RX5 yX5_setControl wsX5_setControl) := goodIn_app (goodIn_of _ (by decide +kernel)) ggX1_writeRegister_X5_setControl
theorem dX1_writeRegister_0 : decode cX1_writeRegister 0 = .ok (.iload_n 1, 1) := by decide +kernel
theorem dX1_writeRegister_1 : decode cX1_writeRegister 1 = .ok (.tableswitch 165 0 15 #[79, 165, 165, 165, 91, 102, 113, 124, 165, 165, 165, 165, 165, 135, 143, 154], 79) := by decide +kernel
theorem dX1_writeRegister_80 : decode cX1_writeRegister 80 = .ok (.aload_n 0, 1) := by decide +kernel
theorem dX1_writeRegister_81 : decode cX1_writeRegister 81 = .ok (.iload_n 2, 1) := by decide +kernel
theorem dX1_writeRegister_82 : decode cX1_writeRegister 82 = .ok (.putfield 32, 3) := by decide +kernel
theorem dX1_writeRegister_85 : decode cX1_writeRegister 85 = .ok (.aload_n 0, 1) := by decide +kernel
theorem dX1_writeRegister_86 : decode cX1_writeRegister 86 = .ok (.invokevirtual 29, 3) := by decide +kernel
theorem dX1_writeRegister_89 : decode cX1_writeRegister 89 = .ok (.goto 77, 3) := by decide +kernel
theorem dX1_writeRegister_92 : decode cX1_writeRegister 92 = .ok (.aload_n 0, 1) := by decide +kernel
theorem dX1_writeRegister_93 : decode cX1_writeRegister 93 = .ok (.getfield 18, 3) := by decide +kernel
theorem dX1_writeRegister_96 : decode cX1_writeRegister 96 = .ok (.iload_n 2, 1) := by decide +kernel
theorem dX1_writeRegister_97 : decode cX1_writeRegister 97 = .ok (.invokevirtual 57, 3) := by decide +kernel
theorem dX1_writeRegister_100 : decode cX1_writeRegister 100 = .ok (.goto 66, 3) := by decide +kernel
theorem dX1_writeRegister_103 : decode cX1_writeRegister 103 = .ok (.aload_n 0, 1) := by decide +kernel
theorem dX1_writeRegister_104 : decode cX1_writeRegister 104 = .ok (.getfield 18, 3) := by decide +kernel
theorem dX1_writeRegister_107 : decode cX1_writeRegister 107 = .ok (.iload_n 2, 1) := by decide +kernel
theorem dX1_writeRegister_108 : decode cX1_writeRegister 108 = .ok (.invokevirtual 60, 3) := by decide +kernel
theorem dX1_writeRegister_111 : decode cX1_writeRegister 111 = .ok (.goto 55, 3) := by decide +kernel
theorem dX1_writeRegister_114 : decode cX1_writeRegister 114 = .ok (.aload_n 0, 1) := by decide +kernel
theorem dX1_writeRegister_115 : decode cX1_writeRegister 115 = .ok (.getfield 22, 3) := by decide +kernel
theorem dX1_writeRegister_118 : decode cX1_writeRegister 118 = .ok (.iload_n 2, 1) := by decide +kernel
theorem dX1_writeRegister_119 : decode cX1_writeRegister 119 = .ok (.invokevirtual 57, 3) := by decide +kernel
theorem dX1_writeRegister_122 : decode cX1_writeRegister 122 = .ok (.goto 44, 3) := by decide +kernel
theorem dX1_writeRegister_125 : decode cX1_writeRegister 125 = .ok (.aload_n 0, 1) := by decide +kernel
theorem dX1_writeRegister_126 : decode cX1_writeRegister 126 = .ok (.getfield 22, 3) := by decide +kernel
theorem dX1_writeRegister_129 : decode cX1_writeRegister 129 = .ok (.iload_n 2, 1) := by decide +kernel
theorem dX1_writeRegister_130 : decode cX1_writeRegister 130 = .ok (.invokevirtual 60, 3) := by decide +kernel
theorem dX1_writeRegister_133 : decode cX1_writeRegister 133 = .ok (.goto 33, 3) := by decide +kernel
theorem dX1_writeRegister_136 : decode cX1_writeRegister 136 = .ok (.aload_n 0, 1) := by decide +kernel
theorem dX1_writeRegister_137 : decode cX1_writeRegister 137 = .ok (.iload_n 2, 1) := by decide +kernel
theorem dX1_writeRegister_138 : decode cX1_writeRegister 138 = .ok (.invokevirtual 63, 3) := by decide +kernel
theorem dX1_writeRegister_141 : decode cX1_writeRegister 141 = .ok (.goto 25, 3) := by decide +kernel
theorem dX1_writeRegister_144 : decode cX1_writeRegister 144 = .ok (.aload_n 0, 1) := by decide +kernel
theorem dX1_writeRegister_145 : decode cX1_writeRegister 145 = .ok (.getfield 18, 3) := by decide +kernel
theorem dX1_writeRegister_148 : decode cX1_writeRegister 148 = .ok (.iload_n 2, 1) := by decide +kernel
theorem dX1_writeRegister_149 : decode cX1_writeRegister 149 = .ok (.invokevirtual 66, 3) := by decide +kernel
theorem dX1_writeRegister_152 : decode cX1_writeRegister 152 = .ok (.goto 14, 3) := by decide +kernel
theorem dX1_writeRegister_155 : decode cX1_writeRegister 155 = .ok (.aload_n 0, 1) := by decide +kernel
theorem dX1_writeRegister_156 : decode cX1_writeRegister 156 = .ok (.getfield 22, 3) := by decide +kernel
theorem dX1_writeRegister_159 : decode cX1_writeRegister 159 = .ok (.iload_n 2, 1) := by decide +kernel
theorem dX1_writeRegister_160 : decode cX1_writeRegister 160 = .ok (.invokevirtual 66, 3) := by decide +kernel
theorem dX1_writeRegister_163 : decode cX1_writeRegister 163 = .ok (.goto 3, 3) := by decide +kernel
theorem dX1_writeRegister_166 : decode cX1_writeRegister 166 = .ok (.return_, 1) := by decide +kernel
theorem dX1_setEnabled_0 : decode cX1_setEnabled 0 = .ok (.iload_n 1, 1) := by decide +kernel
theorem dX1_setEnabled_1 : decode cX1_setEnabled 1 = .ok (.iconst 3, 1) := by decide +kernel
theorem dX1_setEnabled_2 : decode cX1_setEnabled 2 = .ok (.iand, 1) := by decide +kernel
theorem dX1_setEnabled_3 : decode cX1_setEnabled 3 = .ok (.istore_n 2, 1) := by decide +kernel
theorem dX1_setEnabled_4 : decode cX1_setEnabled 4 = .ok (.aload_n 0, 1) := by decide +kernel
theorem dX1_setEnabled_5 : decode cX1_setEnabled 5 = .ok (.iload_n 1, 1) := by decide +kernel
theorem dX1_setEnabled_6 : decode cX1_setEnabled 6 = .ok (.sipush 128, 3) := by decide +kernel
theorem dX1_setEnabled_9 : decode cX1_setEnabled 9 = .ok (.iand, 1) := by decide +kernel
theorem dX1_setEnabled_10 : decode cX1_setEnabled 10 = .ok (.ifCond .eq 12, 3) := by decide +kernel
theorem dX1_setEnabled_13 : decode cX1_setEnabled 13 = .ok (.aload_n 0, 1) := by decide +kernel
theorem dX1_setEnabled_14 : decode cX1_setEnabled 14 = .ok (.getfield 48, 3) := by decide +kernel
theorem dX1_setEnabled_17 : decode cX1_setEnabled 17 = .ok (.iload_n 2, 1) := by decide +kernel
theorem dX1_setEnabled_18 : decode cX1_setEnabled 18 = .ok (.ior, 1) := by decide +kernel
theorem dX1_setEnabled_19 : decode cX1_setEnabled 19 = .ok (.goto 11, 3) := by decide +kernel
theorem dX1_setEnabled_22 : decode cX1_setEnabled 22 = .ok (.aload_n 0, 1) := by decide +kernel
theorem dX1_setEnabled_23 : decode cX1_setEnabled 23 = .ok (.getfield 48, 3) := by decide +kernel
theorem dX1_setEnabled_26 : decode cX1_setEnabled 26 = .ok (.iload_n 2, 1) := by decide +kernel
theorem dX1_setEnabled_27 : decode cX1_setEnabled 27 = .ok (.iconst (-1), 1) := by decide +kernel
theorem dX1_setEnabled_28 : decode cX1_setEnabled 28 = .ok (.ixor, 1) := by decide +kernel
theorem dX1_setEnabled_29 : decode cX1_setEnabled 29 = .ok (.iand, 1) := by decide +kernel
theorem dX1_setEnabled_30 : decode cX1_setEnabled 30 = .ok (.putfield 48, 3) := by decide +kernel
theorem dX1_setEnabled_33 : decode cX1_setEnabled 33 = .ok (.return_, 1) := by decide +kernel
theorem dX2_init_0 : decode cX2_init 0 = .ok (.aload_n 0, 1) := by decide +kernel
theorem dX2_init_1 : decode cX2_init 1 = .ok (.invokespecial 3, 3) := by decide +kernel
theorem dX2_init_4 : decode cX2_init 4 = .ok (.aload_n 0, 1) := by decide +kernel
theorem dX2_init_5 : decode cX2_init 5 = .ok (.sipush 2560, 3) := by decide +kernel
theorem dX2_init_8 : decode cX2_init 8 = .ok (.newarray .int, 2) := by decide +kernel
theorem dX2_init_10 : decode cX2_init 10 = .ok (.putfield 9, 3) := by decide +kernel
theorem dX2_init_13 : decode cX2_init 13 = .ok (.aload_n 0, 1) := by decide +kernel
theorem dX2_init_14 : decode cX2_init 14 = .ok (.bipush 24, 2) := by decide +kernel
theorem dX2_init_16 : decode cX2_init 16 = .ok (.newarray .int, 2) := by decide +kernel
theorem dX2_init_18 : decode cX2_init 18 = .ok (.putfield 13, 3) := by decide +kernel
theorem dX2_init_21 : decode cX2_init 21 = .ok (.aload_n 0, 1) := by decide +kernel
theorem dX2_init_22 : decode cX2_init 22 = .ok (.bipush 8, 2) := by decide +kernel
theorem dX2_init_24 : decode cX2_init 24 = .ok (.newarray .int, 2) := by decide +kernel
theorem dX2_init_26 : decode cX2_init 26 = .ok (.putfield 16, 3) := by decide +kernel
theorem dX2_init_29 : decode cX2_init 29 = .ok (.aload_n 0, 1) := by decide +kernel
theorem dX2_init_30 : decode cX2_init 30 = .ok (.bipush 8, 2) := by decide +kernel
theorem dX2_init_32 : decode cX2_init 32 = .ok (.newarray .int, 2) := by decide +kernel
theorem dX2_init_34 : decode cX2_init 34 = .ok (.putfield 19, 3) := by decide +kernel
theorem dX2_init_37 : decode cX2_init 37 = .ok (.aload_n 0, 1) := by decide +kernel
theorem dX2_init_38 : decode cX2_init 38 = .ok (.iconst 1, 1) := by decide +kernel
theorem dX2_init_39 : decode cX2_init 39 = .ok (.putfield 22, 3) := by decide +kernel
theorem dX2_init_42 : decode cX2_init 42 = .ok (.aload_n 0, 1) := by decide +kernel
theorem dX2_init_43 : decode cX2_init 43 = .ok (.aload_n 1, 1) := by decide +kernel
theorem dX2_init_44 : decode cX2_init 44 = .ok (.putfield 26, 3) := by decide +kernel
theorem dX2_init_47 : decode cX2_init 47 = .ok (.aload_n 0, 1) := by decide +kernel
theorem dX2_init_48 : decode cX2_init 48 = .ok (.aload_n 2, 1) := by decide +kernel
theorem dX2_init_49 : decode cX2_init 49 = .ok (.putfield 29, 3) := by decide +kernel
theorem dX2_init_52 : decode cX2_init 52 = .ok (.return_, 1) := by decide +kernel
set_option maxRecDepth 20000 in
theorem ggX2_beginCycle_X2_beginLine : GoodIn wsX2_beginCycle wsX2_beginLine := goodIn_r _ [9, 10, 11, 12, 4, 3, 44, 45, 46, 47, 48, 49, 50, 51, 52, 53, 54, 55, 56, 57, 58, 59, 60, 61, 62] (by decide +kernel) (by decide +kernel)
set_option maxRecDepth 20000 in
theorem gX2_beginCycle_X2_beginLine : GoodIn wsX2_beginCycle (wsV RX2 36 RX2 yX2_beginLine wsX2_beginLine) := goodIn_app (goodIn_of _ (by decide +kernel)) ggX2_beginCycle_X2_beginLine
set_option maxRecDepth 20000 in
theorem ggX2_beginCycle_X2_judgeLine : GoodIn wsX2_beginCycle wsX2_judgeLine := goodIn_r _ [16, 10, 17, 2, 4, 18, 19, 20, 21, 8, 22, 44, 45, 46, 47, 48, 49, 50, 51, 52, 53, 54, 55, 56, 57, 58, 59, 60, 61, 62] (by decide +kernel) (by decide +kernel)
set_option maxRecDepth 20000 in
theorem gX2_beginCycle_X2_judgeLine : GoodIn wsX2_beginCycle (wsV RX2 39 RX2 yX2_judgeLine wsX2_judgeLine) := goodIn_app (goodIn_of _ (by decide +kernel)) ggX2_beginCycle_X2_judgeLine
set_option maxRecDepth 20000 in
theorem ggX2_beginCycle_X2_fetchCell : GoodIn wsX2_beginCycle wsX2_fetchCell := goodIn_r _ [26, 3, 27, 28, 29, 30, 31, 44, 45, 46, 47, 48, 49, 50, 51, 52, 53, 54, 55, 56, 57, 58, 59, 60, 61, 62] (by decide +kernel) (by decide +kernel)
set_option maxRecDepth 20000 in
theorem gX2_beginCycle_X2_fetchCell : GoodIn wsX2_beginCycle (wsV RX2 45 RX2 yX2_fetchCell wsX2_fetchCell) := goodIn_app (goodIn_of _ (by decide +kernel)) ggX2_beginCycle_X2_fetchCell
set_option maxRecDepth 20000 in
theorem ggX2_beginCycle_X2_paintCell : GoodIn wsX2_beginCycle wsX2_paintCell := goodIn_r _ [35, 36, 37, 4, 38, 27, 18, 10, 39, 30, 19, 20, 21, 8, 22, 17, 44, 45, 46, 47, 48, 49, 50, 51, 52, 53, 54, 55, 56, 57, 58, 59, 60, 61, 62] (by decide +kernel) (by decide +kernel)
set_option maxRecDepth 20000 in
theorem gX2_beginCycle_X2_paintCell : GoodIn wsX2_beginCycle (wsV RX2 49 RX2 yX2_paintCell wsX2_paintCell) := goodIn_app (goodIn_of _ (by decide +kernel)) ggX2_beginCycle_X2_paintCell
set_option maxRecDepth 20000 in
theorem ggX2_beginCycle_X2_endGlyphLine : GoodIn wsX2_beginCycle wsX2_endGlyphLine := goodIn_r _ [43, 18, 4, 44, 45, 46, 47, 48, 49, 50, 51, 52, 53, 54, 55, 56, 57, 58, 59, 60, 61, 62] (by decide +kernel) (by decide +kernel)
set_option maxRecDepth 20000 in
theorem gX2_beginCycle_X2_endGlyphLine : GoodIn wsX2_beginCycle (wsV RX2 55 RX2 yX2_endGlyphLine wsX2_endGlyphLine) := goodIn_app (goodIn_of _ (by decide +kernel)) ggX2_beginCycle_X2_endGlyphLine
theorem dX2_beginCycle_0 : decode cX2_beginCycle 0 = .ok (.aload_n 0, 1) := by decide +kernel
theorem dX2_beginCycle_1 : decode cX2_beginCycle 1 = .ok (.getfield 32, 3) := by decide +kernel
theorem dX2_beginCycle_4 : decode cX2_beginCycle 4 = .ok (.ifCond .ne 10, 3) := by decide +kernel
theorem dX2_beginCycle_7 : decode cX2_beginCycle 7 = .ok (.aload_n 0, 1) := by decide +kernel
theorem dX2_beginCycle_8 : decode cX2_beginCycle 8 = .ok (.invokevirtual 36, 3) := by decide +kernel
theorem dX2_beginCycle_11 : decode cX2_beginCycle 11 = .ok (.goto 115, 3) := by decide +kernel
theorem dX2_beginCycle_14 : decode cX2_beginCycle 14 = .ok (.aload_n 0, 1) := by decide +kernel
theorem dX2_beginCycle_15 : decode cX2_beginCycle 15 = .ok (.getfield 32, 3) := by decide +kernel
theorem dX2_beginCycle_18 : decode cX2_beginCycle 18 = .ok (.iconst 3, 1) := by decide +kernel
theorem dX2_beginCycle_19 : decode cX2_beginCycle 19 = .ok (.if_icmp .ne 10, 3) := by decide +kernel
theorem dX2_beginCycle_22 : decode cX2_beginCycle 22 = .ok (.aload_n 0, 1) := by decide +kernel
theorem dX2_beginCycle_23 : decode cX2_beginCycle 23 = .ok (.invokevirtual 39, 3) := by decide +kernel
theorem dX2_beginCycle_26 : decode cX2_beginCycle 26 = .ok (.goto 100, 3) := by decide +kernel
theorem dX2_beginCycle_29 : decode cX2_beginCycle 29 = .ok (.aload_n 0, 1) := by decide +kernel
theorem dX2_beginCycle_30 : decode cX2_beginCycle 30 = .ok (.getfield 32, 3) := by decide +kernel
theorem dX2_beginCycle_33 : decode cX2_beginCycle 33 = .ok (.bipush 6, 2) := by decide +kernel
theorem dX2_beginCycle_35 : decode cX2_beginCycle 35 = .ok (.if_icmp .lt 40, 3) := by decide +kernel
theorem dX2_beginCycle_38 : decode cX2_beginCycle 38 = .ok (.aload_n 0, 1) := by decide +kernel
theorem dX2_beginCycle_39 : decode cX2_beginCycle 39 = .ok (.getfield 32, 3) := by decide +kernel
theorem dX2_beginCycle_42 : decode cX2_beginCycle 42 = .ok (.bipush 13, 2) := by decide +kernel
theorem dX2_beginCycle_44 : decode cX2_beginCycle 44 = .ok (.if_icmp .gt 31, 3) := by decide +kernel
theorem dX2_beginCycle_47 : decode cX2_beginCycle 47 = .ok (.aload_n 0, 1) := by decide +kernel
theorem dX2_beginCycle_48 : decode cX2_beginCycle 48 = .ok (.getfield 32, 3) := by decide +kernel
theorem dX2_beginCycle_51 : decode cX2_beginCycle 51 = .ok (.bipush 6, 2) := by decide +kernel
theorem dX2_beginCycle_53 : decode cX2_beginCycle 53 = .ok (.isub, 1) := by decide +kernel
theorem dX2_beginCycle_54 : decode cX2_beginCycle 54 = .ok (.istore_n 1, 1) := by decide +kernel
theorem dX2_beginCycle_55 : decode cX2_beginCycle 55 = .ok (.aload_n 0, 1) := by decide +kernel
theorem dX2_beginCycle_56 : decode cX2_beginCycle 56 = .ok (.getfield 42, 3) := by decide +kernel
theorem dX2_beginCycle_59 : decode cX2_beginCycle 59 = .ok (.ifCond .eq 8, 3) := by decide +kernel
theorem dX2_beginCycle_62 : decode cX2_beginCycle 62 = .ok (.aload_n 0, 1) := by decide +kernel
theorem dX2_beginCycle_63 : decode cX2_beginCycle 63 = .ok (.iload_n 1, 1) := by decide +kernel
theorem dX2_beginCycle_64 : decode cX2_beginCycle 64 = .ok (.invokevirtual 45, 3) := by decide +kernel
theorem dX2_beginCycle_67 : decode cX2_beginCycle 67 = .ok (.aload_n 0, 1) := by decide +kernel
theorem dX2_beginCycle_68 : decode cX2_beginCycle 68 = .ok (.iload_n 1, 1) := by decide +kernel
theorem dX2_beginCycle_69 : decode cX2_beginCycle 69 = .ok (.invokevirtual 49, 3) := by decide +kernel
theorem dX2_beginCycle_72 : decode cX2_beginCycle 72 = .ok (.goto 54, 3) := by decide +kernel
theorem dX2_beginCycle_75 : decode cX2_beginCycle 75 = .ok (.aload_n 0, 1) := by decide +kernel
theorem dX2_beginCycle_76 : decode cX2_beginCycle 76 = .ok (.getfield 32, 3) := by decide +kernel
theorem dX2_beginCycle_79 : decode cX2_beginCycle 79 = .ok (.bipush 14, 2) := by decide +kernel
theorem dX2_beginCycle_81 : decode cX2_beginCycle 81 = .ok (.if_icmp .ne 25, 3) := by decide +kernel
theorem dX2_beginCycle_84 : decode cX2_beginCycle 84 = .ok (.aload_n 0, 1) := by decide +kernel
theorem dX2_beginCycle_85 : decode cX2_beginCycle 85 = .ok (.getfield 42, 3) := by decide +kernel
theorem dX2_beginCycle_88 : decode cX2_beginCycle 88 = .ok (.ifCond .eq 18, 3) := by decide +kernel
theorem dX2_beginCycle_91 : decode cX2_beginCycle 91 = .ok (.aload_n 0, 1) := by decide +kernel
theorem dX2_beginCycle_92 : decode cX2_beginCycle 92 = .ok (.aload_n 0, 1) := by decide +kernel
theorem dX2_beginCycle_93 : decode cX2_beginCycle 93 = .ok (.getfield 52, 3) := by decide +kernel
theorem dX2_beginCycle_96 : decode cX2_beginCycle 96 = .ok (.iconst 1, 1) := by decide +kernel
theorem dX2_beginCycle_97 : decode cX2_beginCycle 97 = .ok (.iadd, 1) := by decide +kernel
theorem dX2_beginCycle_98 : decode cX2_beginCycle 98 = .ok (.iconst 3, 1) := by decide +kernel
theorem dX2_beginCycle_99 : decode cX2_beginCycle 99 = .ok (.irem, 1) := by decide +kernel
theorem dX2_beginCycle_100 : decode cX2_beginCycle 100 = .ok (.putfield 52, 3) := by decide +kernel
theorem dX2_beginCycle_103 : decode cX2_beginCycle 103 = .ok (.goto 23, 3) := by decide +kernel
theorem dX2_beginCycle_106 : decode cX2_beginCycle 106 = .ok (.aload_n 0, 1) := by decide +kernel
theorem dX2_beginCycle_107 : decode cX2_beginCycle 107 = .ok (.getfield 32, 3) := by decide +kernel
theorem dX2_beginCycle_110 : decode cX2_beginCycle 110 = .ok (.bipush 23, 2) := by decide +kernel
theorem dX2_beginCycle_112 : decode cX2_beginCycle 112 = .ok (.if_icmp .ne 14, 3) := by decide +kernel
theorem dX2_beginCycle_115 : decode cX2_beginCycle 115 = .ok (.aload_n 0, 1) := by decide +kernel
theorem dX2_beginCycle_116 : decode cX2_beginCycle 116 = .ok (.getfield 22, 3) := by decide +kernel
theorem dX2_beginCycle_119 : decode cX2_beginCycle 119 = .ok (.ifCond .ne 7, 3) := by decide +kernel
theorem dX2_beginCycle_122 : decode cX2_beginCycle 122 = .ok (.aload_n 0, 1) := by decide +kernel
theorem dX2_beginCycle_123 : decode cX2_beginCycle 123 = .ok (.invokevirtual 55, 3) := by decide +kernel
theorem dX2_beginCycle_126 : decode cX2_beginCycle 126 = .ok (.return_, 1) := by decide +kernel
theorem dX2_endCycle_0 : decode cX2_endCycle 0 = .ok (.aload_n 0, 1) := by decide +kernel
theorem dX2_endCycle_1 : decode cX2_endCycle 1 = .ok (.dup, 1) := by decide +kernel
theorem dX2_endCycle_2 : decode cX2_endCycle 2 = .ok (.getfield 32, 3) := by decide +kernel
theorem dX2_endCycle_5 : decode cX2_endCycle 5 = .ok (.iconst 1, 1) := by decide +kernel
theorem dX2_endCycle_6 : decode cX2_endCycle 6 = .ok (.iadd, 1) := by decide +kernel
theorem dX2_endCycle_7 : decode cX2_endCycle 7 = .ok (.putfield 32, 3) := by decide +kernel
theorem dX2_endCycle_10 : decode cX2_endCycle 10 = .ok (.aload_n 0, 1) := by decide +kernel
theorem dX2_endCycle_11 : decode cX2_endCycle 11 = .ok (.getfield 32, 3) := by decide +kernel
theorem dX2_endCycle_14 : decode cX2_endCycle 14 = .ok (.bipush 24, 2) := by decide +kernel
theorem dX2_endCycle_16 : decode cX2_endCycle 16 = .ok (.if_icmp .ge 4, 3) := by decide +kernel
theorem dX2_endCycle_19 : decode cX2_endCycle 19 = .ok (.return_, 1) := by decide +kernel
theorem dX2_endCycle_20 : decode cX2_endCycle 20 = .ok (.aload_n 0, 1) := by decide +kernel
theorem dX2_endCycle_21 : decode cX2_endCycle 21 = .ok (.iconst 0, 1) := by decide +kernel
theorem dX2_endCycle_22 : decode cX2_endCycle 22 = .ok (.putfield 32, 3) := by decide +kernel
theorem dX2_endCycle_25 : decode cX2_endCycle 25 = .ok (.aload_n 0, 1) := by decide +kernel
theorem dX2_endCycle_26 : decode cX2_endCycle 26 = .ok (.dup, 1) := by decide +kernel
theorem dX2_endCycle_27 : decode cX2_endCycle 27 = .ok (.getfield 58, 3) := by decide +kernel
theorem dX2_endCycle_30 : decode cX2_endCycle 30 = .ok (.iconst 1, 1) := by decide +kernel
theorem dX2_endCycle_31 : decode cX2_endCycle 31 = .ok (.iadd, 1) := by decide +kernel
theorem dX2_endCycle_32 : decode cX2_endCycle 32 = .ok (.putfield 58, 3) := by decide +kernel
theorem dX2_endCycle_35 : decode cX2_endCycle 35 = .ok (.aload_n 0, 1) := by decide +kernel
theorem dX2_endCycle_36 : decode cX2_endCycle 36 = .ok (.getfield 58, 3) := by decide +kernel
theorem dX2_endCycle_39 : decode cX2_endCycle 39 = .ok (.bipush 40, 2) := by decide +kernel
theorem dX2_endCycle_41 : decode cX2_endCycle 41 = .ok (.if_icmp .lt 8, 3) := by decide +kernel
theorem dX2_endCycle_44 : decode cX2_endCycle 44 = .ok (.aload_n 0, 1) := by decide +kernel
theorem dX2_endCycle_45 : decode cX2_endCycle 45 = .ok (.iconst 0, 1) := by decide +kernel
theorem dX2_endCycle_46 : decode cX2_endCycle 46 = .ok (.putfield 58, 3) := by decide +kernel
theorem dX2_endCycle_49 : decode cX2_endCycle 49 = .ok (.return_, 1) := by decide +kernel
theorem dX2_wantsBus_0 : decode cX2_wantsBus 0 = .ok (.aload_n 0, 1) := by decide +kernel
theorem dX2_wantsBus_1 : decode cX2_wantsBus 1 = .ok (.getfield 42, 3) := by decide +kernel
theorem dX2_wantsBus_4 : decode cX2_wantsBus 4 = .ok (.ifCond .eq 24, 3) := by decide +kernel
theorem dX2_wantsBus_7 : decode cX2_wantsBus 7 = .ok (.aload_n 0, 1) := by decide +kernel
theorem dX2_wantsBus_8 : decode cX2_wantsBus 8 = .ok (.getfield 32, 3) := by decide +kernel
theorem dX2_wantsBus_11 : decode cX2_wantsBus 11 = .ok (.iconst 3, 1) := by decide +kernel
theorem dX2_wantsBus_12 : decode cX2_wantsBus 12 = .ok (.if_icmp .lt 16, 3) := by decide +kernel
theorem dX2_wantsBus_15 : decode cX2_wantsBus 15 = .ok (.aload_n 0, 1) := by decide +kernel
theorem dX2_wantsBus_16 : decode cX2_wantsBus 16 = .ok (.getfield 32, 3) := by decide +kernel
theorem dX2_wantsBus_19 : decode cX2_wantsBus 19 = .ok (.bipush 13, 2) := by decide +kernel
theorem dX2_wantsBus_21 : decode cX2_wantsBus 21 = .ok (.if_icmp .gt 7, 3) := by decide +kernel
theorem dX2_wantsBus_24 : decode cX2_wantsBus 24 = .ok (.iconst 1, 1) := by decide +kernel
theorem dX2_wantsBus_25 : decode cX2_wantsBus 25 = .ok (.goto 4, 3) := by decide +kernel
theorem dX2_wantsBus_28 : decode cX2_wantsBus 28 = .ok (.iconst 0, 1) := by decide +kernel
theorem dX2_wantsBus_29 : decode cX2_wantsBus 29 = .ok (.ireturn, 1) := by decide +kernel
theorem dX2_asksInterrupt_0 : decode cX2_asksInterrupt 0 = .ok (.aload_n 0, 1) := by decide +kernel
theorem dX2_asksInterrupt_1 : decode cX2_asksInterrupt 1 = .ok (.getfield 61, 3) := by decide +kernel
theorem dX2_asksInterrupt_4 : decode cX2_asksInterrupt 4 = .ok (.ifCond .eq 14, 3) := by decide +kernel
theorem dX2_asksInterrupt_7 : decode cX2_asksInterrupt 7 = .ok (.aload_n 0, 1) := by decide +kernel
theorem dX2_asksInterrupt_8 : decode cX2_asksInterrupt 8 = .ok (.getfield 64, 3) := by decide +kernel
theorem dX2_asksInterrupt_11 : decode cX2_asksInterrupt 11 = .ok (.ifCond .eq 7, 3) := by decide +kernel
theorem dX2_asksInterrupt_14 : decode cX2_asksInterrupt 14 = .ok (.iconst 1, 1) := by decide +kernel
theorem dX2_asksInterrupt_15 : decode cX2_asksInterrupt 15 = .ok (.goto 4, 3) := by decide +kernel
theorem dX2_asksInterrupt_18 : decode cX2_asksInterrupt 18 = .ok (.iconst 0, 1) := by decide +kernel
theorem dX2_asksInterrupt_19 : decode cX2_asksInterrupt 19 = .ok (.ireturn, 1) := by decide +kernel
theorem dX2_beginLine_0 : decode cX2_beginLine 0 = .ok (.aload_n 0, 1) := by decide +kernel
theorem dX2_beginLine_1 : decode cX2_beginLine 1 = .ok (.getfield 58, 3) := by decide +kernel
theorem dX2_beginLine_4 : decode cX2_beginLine 4 = .ok (.aload_n 0, 1) := by decide +kernel
theorem dX2_beginLine_5 : decode cX2_beginLine 5 = .ok (.getfield 67, 3) := by decide +kernel
theorem dX2_beginLine_8 : decode cX2_beginLine 8 = .ok (.if_icmp .ne 8, 3) := by decide +kernel
theorem dX2_beginLine_11 : decode cX2_beginLine 11 = .ok (.aload_n 0, 1) := by decide +kernel
theorem dX2_beginLine_12 : decode cX2_beginLine 12 = .ok (.iconst 1, 1) := by decide +kernel
theorem dX2_beginLine_13 : decode cX2_beginLine 13 = .ok (.putfield 61, 3) := by decide +kernel
theorem dX2_beginLine_16 : decode cX2_beginLine 16 = .ok (.aload_n 0, 1) := by decide +kernel
theorem dX2_beginLine_17 : decode cX2_beginLine 17 = .ok (.getfield 58, 3) := by decide +kernel
theorem dX2_beginLine_20 : decode cX2_beginLine 20 = .ok (.ifCond .ne 13, 3) := by decide +kernel
theorem dX2_beginLine_23 : decode cX2_beginLine 23 = .ok (.aload_n 0, 1) := by decide +kernel
theorem dX2_beginLine_24 : decode cX2_beginLine 24 = .ok (.iconst 1, 1) := by decide +kernel
theorem dX2_beginLine_25 : decode cX2_beginLine 25 = .ok (.putfield 22, 3) := by decide +kernel
theorem dX2_beginLine_28 : decode cX2_beginLine 28 = .ok (.aload_n 0, 1) := by decide +kernel
theorem dX2_beginLine_29 : decode cX2_beginLine 29 = .ok (.iconst 0, 1) := by decide +kernel
theorem dX2_beginLine_30 : decode cX2_beginLine 30 = .ok (.putfield 52, 3) := by decide +kernel
theorem dX2_beginLine_33 : decode cX2_beginLine 33 = .ok (.return_, 1) := by decide +kernel
set_option maxRecDepth 20000 in
theorem ggX2_judgeLine_X2_isShowing : GoodIn wsX2_judgeLine wsX2_isShowing := goodIn_r _ [10, 1, 2, 11, 12, 13, 14, 15, 16, 17, 18, 19, 20, 21, 22, 23, 24, 25, 26, 27, 28, 29] (by decide +kernel) (by decide +kernel)
set_option maxRecDepth 20000 in
theorem gX2_judgeLine_X2_isShowing : GoodIn wsX2_judgeLine (wsV RX2 70 RX2 yX2_isShowing wsX2_isShowing) := goodIn_app (goodIn_of _ (by decide +kernel)) ggX2_judgeLine_X2_isShowing
theorem dX2_judgeLine_0 : decode cX2_judgeLine 0 = .ok (.aload_n 0, 1) := by decide +kernel
theorem dX2_judgeLine_1 : decode cX2_judgeLine 1 = .ok (.aload_n 0, 1) := by decide +kernel
theorem dX2_judgeLine_2 : decode cX2_judgeLine 2 = .ok (.invokevirtual 70, 3) := by decide +kernel
theorem dX2_judgeLine_5 : decode cX2_judgeLine 5 = .ok (.ifCond .eq 24, 3) := by decide +kernel
theorem dX2_judgeLine_8 : decode cX2_judgeLine 8 = .ok (.aload_n 0, 1) := by decide +kernel
theorem dX2_judgeLine_9 : decode cX2_judgeLine 9 = .ok (.getfield 58, 3) := by decide +kernel
theorem dX2_judgeLine_12 : decode cX2_judgeLine 12 = .ok (.bipush 8, 2) := by decide +kernel
theorem dX2_judgeLine_14 : decode cX2_judgeLine 14 = .ok (.irem, 1) := by decide +kernel
theorem dX2_judgeLine_15 : decode cX2_judgeLine 15 = .ok (.aload_n 0, 1) := by decide +kernel
theorem dX2_judgeLine_16 : decode cX2_judgeLine 16 = .ok (.getfield 74, 3) := by decide +kernel
theorem dX2_judgeLine_19 : decode cX2_judgeLine 19 = .ok (.bipush 7, 2) := by decide +kernel
theorem dX2_judgeLine_21 : decode cX2_judgeLine 21 = .ok (.iand, 1) := by decide +kernel
theorem dX2_judgeLine_22 : decode cX2_judgeLine 22 = .ok (.if_icmp .ne 7, 3) := by decide +kernel
theorem dX2_judgeLine_25 : decode cX2_judgeLine 25 = .ok (.iconst 1, 1) := by decide +kernel
theorem dX2_judgeLine_26 : decode cX2_judgeLine 26 = .ok (.goto 4, 3) := by decide +kernel
theorem dX2_judgeLine_29 : decode cX2_judgeLine 29 = .ok (.iconst 0, 1) := by decide +kernel
theorem dX2_judgeLine_30 : decode cX2_judgeLine 30 = .ok (.putfield 42, 3) := by decide +kernel
theorem dX2_judgeLine_33 : decode cX2_judgeLine 33 = .ok (.aload_n 0, 1) := by decide +kernel
theorem dX2_judgeLine_34 : decode cX2_judgeLine 34 = .ok (.getfield 42, 3) := by decide +kernel
theorem dX2_judgeLine_37 : decode cX2_judgeLine 37 = .ok (.ifCond .eq 13, 3) := by decide +kernel
theorem dX2_judgeLine_40 : decode cX2_judgeLine 40 = .ok (.aload_n 0, 1) := by decide +kernel
theorem dX2_judgeLine_41 : decode cX2_judgeLine 41 = .ok (.iconst 0, 1) := by decide +kernel
theorem dX2_judgeLine_42 : decode cX2_judgeLine 42 = .ok (.putfield 22, 3) := by decide +kernel
theorem dX2_judgeLine_45 : decode cX2_judgeLine 45 = .ok (.aload_n 0, 1) := by decide +kernel
theorem dX2_judgeLine_46 : decode cX2_judgeLine 46 = .ok (.iconst 0, 1) := by decide +kernel
theorem dX2_judgeLine_47 : decode cX2_judgeLine 47 = .ok (.putfield 77, 3) := by decide +kernel
theorem dX2_judgeLine_50 : decode cX2_judgeLine 50 = .ok (.return_, 1) := by decide +kernel
theorem dX2_isShowing_0 : decode cX2_isShowing 0 = .ok (.aload_n 0, 1) := by decide +kernel
theorem dX2_isShowing_1 : decode cX2_isShowing 1 = .ok (.getfield 58, 3) := by decide +kernel
theorem dX2_isShowing_4 : decode cX2_isShowing 4 = .ok (.bipush 8, 2) := by decide +kernel
theorem dX2_isShowing_6 : decode cX2_isShowing 6 = .ok (.if_icmp .lt 26, 3) := by decide +kernel
theorem dX2_isShowing_9 : decode cX2_isShowing 9 = .ok (.aload_n 0, 1) := by decide +kernel
theorem dX2_isShowing_10 : decode cX2_isShowing 10 = .ok (.getfield 58, 3) := by decide +kernel
theorem dX2_isShowing_13 : decode cX2_isShowing 13 = .ok (.bipush 31, 2) := by decide +kernel
theorem dX2_isShowing_15 : decode cX2_isShowing 15 = .ok (.if_icmp .gt 17, 3) := by decide +kernel
theorem dX2_isShowing_18 : decode cX2_isShowing 18 = .ok (.aload_n 0, 1) := by decide +kernel
theorem dX2_isShowing_19 : decode cX2_isShowing 19 = .ok (.getfield 74, 3) := by decide +kernel
theorem dX2_isShowing_22 : decode cX2_isShowing 22 = .ok (.bipush 16, 2) := by decide +kernel
theorem dX2_isShowing_24 : decode cX2_isShowing 24 = .ok (.iand, 1) := by decide +kernel
theorem dX2_isShowing_25 : decode cX2_isShowing 25 = .ok (.ifCond .eq 7, 3) := by decide +kernel
theorem dX2_isShowing_28 : decode cX2_isShowing 28 = .ok (.iconst 1, 1) := by decide +kernel
theorem dX2_isShowing_29 : decode cX2_isShowing 29 = .ok (.goto 4, 3) := by decide +kernel
theorem dX2_isShowing_32 : decode cX2_isShowing 32 = .ok (.iconst 0, 1) := by decide +kernel
theorem dX2_isShowing_33 : decode cX2_isShowing 33 = .ok (.ireturn, 1) := by decide +kernel
theorem dX2_fetchCell_0 : decode cX2_fetchCell 0 = .ok (.bipush 8, 2) := by decide +kernel
theorem dX2_fetchCell_2 : decode cX2_fetchCell 2 = .ok (.aload_n 0, 1) := by decide +kernel
theorem dX2_fetchCell_3 : decode cX2_fetchCell 3 = .ok (.getfield 52, 3) := by decide +kernel
theorem dX2_fetchCell_6 : decode cX2_fetchCell 6 = .ok (.imul, 1) := by decide +kernel
theorem dX2_fetchCell_7 : decode cX2_fetchCell 7 = .ok (.iload_n 1, 1) := by decide +kernel
theorem dX2_fetchCell_8 : decode cX2_fetchCell 8 = .ok (.iadd, 1) := by decide +kernel
theorem dX2_fetchCell_9 : decode cX2_fetchCell 9 = .ok (.istore_n 2, 1) := by decide +kernel
theorem dX2_fetchCell_10 : decode cX2_fetchCell 10 = .ok (.aload_n 0, 1) := by decide +kernel
theorem dX2_fetchCell_11 : decode cX2_fetchCell 11 = .ok (.getfield 16, 3) := by decide +kernel
theorem dX2_fetchCell_14 : decode cX2_fetchCell 14 = .ok (.iload_n 1, 1) := by decide +kernel
theorem dX2_fetchCell_15 : decode cX2_fetchCell 15 = .ok (.aload_n 0, 1) := by decide +kernel
theorem dX2_fetchCell_16 : decode cX2_fetchCell 16 = .ok (.getfield 26, 3) := by decide +kernel
theorem dX2_fetchCell_19 : decode cX2_fetchCell 19 = .ok (.bipush 64, 2) := by decide +kernel
theorem dX2_fetchCell_21 : decode cX2_fetchCell 21 = .ok (.aload_n 0, 1) := by decide +kernel
theorem dX2_fetchCell_22 : decode cX2_fetchCell 22 = .ok (.getfield 80, 3) := by decide +kernel
theorem dX2_fetchCell_25 : decode cX2_fetchCell 25 = .ok (.imul, 1) := by decide +kernel
theorem dX2_fetchCell_26 : decode cX2_fetchCell 26 = .ok (.iload_n 2, 1) := by decide +kernel
theorem dX2_fetchCell_27 : decode cX2_fetchCell 27 = .ok (.iadd, 1) := by decide +kernel
theorem dX2_fetchCell_28 : decode cX2_fetchCell 28 = .ok (.iaload, 1) := by decide +kernel
theorem dX2_fetchCell_29 : decode cX2_fetchCell 29 = .ok (.iastore, 1) := by decide +kernel
theorem dX2_fetchCell_30 : decode cX2_fetchCell 30 = .ok (.aload_n 0, 1) := by decide +kernel
theorem dX2_fetchCell_31 : decode cX2_fetchCell 31 = .ok (.getfield 19, 3) := by decide +kernel
theorem dX2_fetchCell_34 : decode cX2_fetchCell 34 = .ok (.iload_n 1, 1) := by decide +kernel
theorem dX2_fetchCell_35 : decode cX2_fetchCell 35 = .ok (.aload_n 0, 1) := by decide +kernel
theorem dX2_fetchCell_36 : decode cX2_fetchCell 36 = .ok (.getfield 13, 3) := by decide +kernel
theorem dX2_fetchCell_39 : decode cX2_fetchCell 39 = .ok (.iload_n 2, 1) := by decide +kernel
theorem dX2_fetchCell_40 : decode cX2_fetchCell 40 = .ok (.iaload, 1) := by decide +kernel
theorem dX2_fetchCell_41 : decode cX2_fetchCell 41 = .ok (.iastore, 1) := by decide +kernel
theorem dX2_fetchCell_42 : decode cX2_fetchCell 42 = .ok (.return_, 1) := by decide +kernel
set_option maxRecDepth 20000 in
theorem ggX2_paintCell_X2_isShowing : GoodIn wsX2_paintCell wsX2_isShowing := goodIn_r _ [14, 7, 15, 16, 17, 18, 19, 20, 21, 22, 23, 24, 25, 26, 27, 28, 29, 30, 31, 32, 33, 34] (by decide +kernel) (by decide +kernel)
set_option maxRecDepth 20000 in
theorem gX2_paintCell_X2_isShowing : GoodIn wsX2_paintCell (wsV RX2 70 RX2 yX2_isShowing wsX2_isShowing) := goodIn_app (goodIn_of _ (by decide +kernel)) ggX2_paintCell_X2_isShowing
theorem dX2_paintCell_0 : decode cX2_paintCell 0 = .ok (.aload_n 0, 1) := by decide +kernel
theorem dX2_paintCell_1 : decode cX2_paintCell 1 = .ok (.invokevirtual 70, 3) := by decide +kernel
theorem dX2_paintCell_4 : decode cX2_paintCell 4 = .ok (.istore_n 2, 1) := by decide +kernel
theorem dX2_paintCell_5 : decode cX2_paintCell 5 = .ok (.iload_n 2, 1) := by decide +kernel
theorem dX2_paintCell_6 : decode cX2_paintCell 6 = .ok (.ifCond .eq 10, 3) := by decide +kernel
theorem dX2_paintCell_9 : decode cX2_paintCell 9 = .ok (.aload_n 0, 1) := by decide +kernel
theorem dX2_paintCell_10 : decode cX2_paintCell 10 = .ok (.getfield 83, 3) := by decide +kernel
theorem dX2_paintCell_13 : decode cX2_paintCell 13 = .ok (.goto 7, 3) := by decide +kernel
theorem dX2_paintCell_16 : decode cX2_paintCell 16 = .ok (.aload_n 0, 1) := by decide +kernel
theorem dX2_paintCell_17 : decode cX2_paintCell 17 = .ok (.getfield 86, 3) := by decide +kernel
theorem dX2_paintCell_20 : decode cX2_paintCell 20 = .ok (.istore_n 3, 1) := by decide +kernel
theorem dX2_paintCell_21 : decode cX2_paintCell 21 = .ok (.iload_n 2, 1) := by decide +kernel
theorem dX2_paintCell_22 : decode cX2_paintCell 22 = .ok (.ifCond .eq 35, 3) := by decide +kernel
theorem dX2_paintCell_25 : decode cX2_paintCell 25 = .ok (.aload_n 0, 1) := by decide +kernel
theorem dX2_paintCell_26 : decode cX2_paintCell 26 = .ok (.getfield 22, 3) := by decide +kernel
theorem dX2_paintCell_29 : decode cX2_paintCell 29 = .ok (.ifCond .ne 28, 3) := by decide +kernel
theorem dX2_paintCell_32 : decode cX2_paintCell 32 = .ok (.aload_n 0, 1) := by decide +kernel
theorem dX2_paintCell_33 : decode cX2_paintCell 33 = .ok (.getfield 29, 3) := by decide +kernel
theorem dX2_paintCell_36 : decode cX2_paintCell 36 = .ok (.bipush 8, 2) := by decide +kernel
theorem dX2_paintCell_38 : decode cX2_paintCell 38 = .ok (.aload_n 0, 1) := by decide +kernel
theorem dX2_paintCell_39 : decode cX2_paintCell 39 = .ok (.getfield 16, 3) := by decide +kernel
theorem dX2_paintCell_42 : decode cX2_paintCell 42 = .ok (.iload_n 1, 1) := by decide +kernel
theorem dX2_paintCell_43 : decode cX2_paintCell 43 = .ok (.iaload, 1) := by decide +kernel
theorem dX2_paintCell_44 : decode cX2_paintCell 44 = .ok (.bipush 63, 2) := by decide +kernel
theorem dX2_paintCell_46 : decode cX2_paintCell 46 = .ok (.iand, 1) := by decide +kernel
theorem dX2_paintCell_47 : decode cX2_paintCell 47 = .ok (.imul, 1) := by decide +kernel
theorem dX2_paintCell_48 : decode cX2_paintCell 48 = .ok (.aload_n 0, 1) := by decide +kernel
theorem dX2_paintCell_49 : decode cX2_paintCell 49 = .ok (.getfield 77, 3) := by decide +kernel
theorem dX2_paintCell_52 : decode cX2_paintCell 52 = .ok (.iadd, 1) := by decide +kernel
theorem dX2_paintCell_53 : decode cX2_paintCell 53 = .ok (.iaload, 1) := by decide +kernel
theorem dX2_paintCell_54 : decode cX2_paintCell 54 = .ok (.goto 4, 3) := by decide +kernel
theorem dX2_paintCell_57 : decode cX2_paintCell 57 = .ok (.iconst 0, 1) := by decide +kernel
theorem dX2_paintCell_58 : decode cX2_paintCell 58 = .ok (.istore 4, 2) := by decide +kernel
theorem dX2_paintCell_60 : decode cX2_paintCell 60 = .ok (.aload_n 0, 1) := by decide +kernel
theorem dX2_paintCell_61 : decode cX2_paintCell 61 = .ok (.getfield 58, 3) := by decide +kernel
theorem dX2_paintCell_64 : decode cX2_paintCell 64 = .ok (.bipush 64, 2) := by decide +kernel
theorem dX2_paintCell_66 : decode cX2_paintCell 66 = .ok (.imul, 1) := by decide +kernel
theorem dX2_paintCell_67 : decode cX2_paintCell 67 = .ok (.bipush 8, 2) := by decide +kernel
theorem dX2_paintCell_69 : decode cX2_paintCell 69 = .ok (.iload_n 1, 1) := by decide +kernel
theorem dX2_paintCell_70 : decode cX2_paintCell 70 = .ok (.imul, 1) := by decide +kernel
theorem dX2_paintCell_71 : decode cX2_paintCell 71 = .ok (.iadd, 1) := by decide +kernel
theorem dX2_paintCell_72 : decode cX2_paintCell 72 = .ok (.istore 5, 2) := by decide +kernel
theorem dX2_paintCell_74 : decode cX2_paintCell 74 = .ok (.iconst 0, 1) := by decide +kernel
theorem dX2_paintCell_75 : decode cX2_paintCell 75 = .ok (.istore 6, 2) := by decide +kernel
theorem dX2_paintCell_77 : decode cX2_paintCell 77 = .ok (.iload 6, 2) := by decide +kernel
theorem dX2_paintCell_79 : decode cX2_paintCell 79 = .ok (.bipush 8, 2) := by decide +kernel
theorem dX2_paintCell_81 : decode cX2_paintCell 81 = .ok (.if_icmp .ge 54, 3) := by decide +kernel
theorem dX2_paintCell_84 : decode cX2_paintCell 84 = .ok (.iload 4, 2) := by decide +kernel
theorem dX2_paintCell_86 : decode cX2_paintCell 86 = .ok (.bipush 7, 2) := by decide +kernel
theorem dX2_paintCell_88 : decode cX2_paintCell 88 = .ok (.iload 6, 2) := by decide +kernel
theorem dX2_paintCell_90 : decode cX2_paintCell 90 = .ok (.isub, 1) := by decide +kernel
theorem dX2_paintCell_91 : decode cX2_paintCell 91 = .ok (.ishr, 1) := by decide +kernel
theorem dX2_paintCell_92 : decode cX2_paintCell 92 = .ok (.iconst 1, 1) := by decide +kernel
theorem dX2_paintCell_93 : decode cX2_paintCell 93 = .ok (.iand, 1) := by decide +kernel
theorem dX2_paintCell_94 : decode cX2_paintCell 94 = .ok (.ifCond .eq 7, 3) := by decide +kernel
theorem dX2_paintCell_97 : decode cX2_paintCell 97 = .ok (.iconst 1, 1) := by decide +kernel
theorem dX2_paintCell_98 : decode cX2_paintCell 98 = .ok (.goto 4, 3) := by decide +kernel
theorem dX2_paintCell_101 : decode cX2_paintCell 101 = .ok (.iconst 0, 1) := by decide +kernel
theorem dX2_paintCell_102 : decode cX2_paintCell 102 = .ok (.istore 7, 2) := by decide +kernel
theorem dX2_paintCell_104 : decode cX2_paintCell 104 = .ok (.aload_n 0, 1) := by decide +kernel
theorem dX2_paintCell_105 : decode cX2_paintCell 105 = .ok (.getfield 9, 3) := by decide +kernel
theorem dX2_paintCell_108 : decode cX2_paintCell 108 = .ok (.iload 5, 2) := by decide +kernel
theorem dX2_paintCell_110 : decode cX2_paintCell 110 = .ok (.iload 6, 2) := by decide +kernel
theorem dX2_paintCell_112 : decode cX2_paintCell 112 = .ok (.iadd, 1) := by decide +kernel
theorem dX2_paintCell_113 : decode cX2_paintCell 113 = .ok (.iload 7, 2) := by decide +kernel
theorem dX2_paintCell_115 : decode cX2_paintCell 115 = .ok (.ifCond .eq 12, 3) := by decide +kernel
theorem dX2_paintCell_118 : decode cX2_paintCell 118 = .ok (.aload_n 0, 1) := by decide +kernel
theorem dX2_paintCell_119 : decode cX2_paintCell 119 = .ok (.getfield 19, 3) := by decide +kernel
theorem dX2_paintCell_122 : decode cX2_paintCell 122 = .ok (.iload_n 1, 1) := by decide +kernel
theorem dX2_paintCell_123 : decode cX2_paintCell 123 = .ok (.iaload, 1) := by decide +kernel
theorem dX2_paintCell_124 : decode cX2_paintCell 124 = .ok (.goto 4, 3) := by decide +kernel
theorem dX2_paintCell_127 : decode cX2_paintCell 127 = .ok (.iload_n 3, 1) := by decide +kernel
theorem dX2_paintCell_128 : decode cX2_paintCell 128 = .ok (.iastore, 1) := by decide +kernel
theorem dX2_paintCell_129 : decode cX2_paintCell 129 = .ok (.iinc 6 1, 3) := by decide +kernel
theorem dX2_paintCell_132 : decode cX2_paintCell 132 = .ok (.goto (-55), 3) := by decide +kernel
theorem dX2_paintCell_135 : decode cX2_paintCell 135 = .ok (.return_, 1) := by decide +kernel
theorem dX2_endGlyphLine_0 : decode cX2_endGlyphLine 0 = .ok (.aload_n 0, 1) := by decide +kernel
theorem dX2_endGlyphLine_1 : decode cX2_endGlyphLine 1 = .ok (.getfield 77, 3) := by decide +kernel
theorem dX2_endGlyphLine_4 : decode cX2_endGlyphLine 4 = .ok (.bipush 7, 2) := by decide +kernel
theorem dX2_endGlyphLine_6 : decode cX2_endGlyphLine 6 = .ok (.if_icmp .ne 11, 3) := by decide +kernel
theorem dX2_endGlyphLine_9 : decode cX2_endGlyphLine 9 = .ok (.aload_n 0, 1) := by decide +kernel
theorem dX2_endGlyphLine_10 : decode cX2_endGlyphLine 10 = .ok (.iconst 1, 1) := by decide +kernel
theorem dX2_endGlyphLine_11 : decode cX2_endGlyphLine 11 = .ok (.putfield 22, 3) := by decide +kernel
theorem dX2_endGlyphLine_14 : decode cX2_endGlyphLine 14 = .ok (.goto 13, 3) := by decide +kernel
theorem dX2_endGlyphLine_17 : decode cX2_endGlyphLine 17 = .ok (.aload_n 0, 1) := by decide +kernel
theorem dX2_endGlyphLine_18 : decode cX2_endGlyphLine 18 = .ok (.dup, 1) := by decide +kernel
theorem dX2_endGlyphLine_19 : decode cX2_endGlyphLine 19 = .ok (.getfield 77, 3) := by decide +kernel
theorem dX2_endGlyphLine_22 : decode cX2_endGlyphLine 22 = .ok (.iconst 1, 1) := by decide +kernel
theorem dX2_endGlyphLine_23 : decode cX2_endGlyphLine 23 = .ok (.iadd, 1) := by decide +kernel
theorem dX2_endGlyphLine_24 : decode cX2_endGlyphLine 24 = .ok (.putfield 77, 3) := by decide +kernel
theorem dX2_endGlyphLine_27 : decode cX2_endGlyphLine 27 = .ok (.return_, 1) := by decide +kernel
theorem dX2_peekRegister_0 : decode cX2_peekRegister 0 = .ok (.iload_n 1, 1) := by decide +kernel
theorem dX2_peekRegister_1 : decode cX2_peekRegister 1 = .ok (.tableswitch 107 0 6 #[43, 48, 53, 58, 63, 89, 102], 43) := by decide +kernel
theorem dX2_peekRegister_44 : decode cX2_peekRegister 44 = .ok (.aload_n 0, 1) := by decide +kernel
theorem dX2_peekRegister_45 : decode cX2_peekRegister 45 = .ok (.getfield 74, 3) := by decide +kernel
theorem dX2_peekRegister_48 : decode cX2_peekRegister 48 = .ok (.ireturn, 1) := by decide +kernel
theorem dX2_peekRegister_49 : decode cX2_peekRegister 49 = .ok (.aload_n 0, 1) := by decide +kernel
theorem dX2_peekRegister_50 : decode cX2_peekRegister 50 = .ok (.getfield 58, 3) := by decide +kernel
theorem dX2_peekRegister_53 : decode cX2_peekRegister 53 = .ok (.ireturn, 1) := by decide +kernel
theorem dX2_peekRegister_54 : decode cX2_peekRegister 54 = .ok (.aload_n 0, 1) := by decide +kernel
theorem dX2_peekRegister_55 : decode cX2_peekRegister 55 = .ok (.getfield 83, 3) := by decide +kernel
theorem dX2_peekRegister_58 : decode cX2_peekRegister 58 = .ok (.ireturn, 1) := by decide +kernel
theorem dX2_peekRegister_59 : decode cX2_peekRegister 59 = .ok (.aload_n 0, 1) := by decide +kernel
theorem dX2_peekRegister_60 : decode cX2_peekRegister 60 = .ok (.getfield 86, 3) := by decide +kernel
theorem dX2_peekRegister_63 : decode cX2_peekRegister 63 = .ok (.ireturn, 1) := by decide +kernel
theorem dX2_peekRegister_64 : decode cX2_peekRegister 64 = .ok (.aload_n 0, 1) := by decide +kernel
theorem dX2_peekRegister_65 : decode cX2_peekRegister 65 = .ok (.getfield 61, 3) := by decide +kernel
theorem dX2_peekRegister_68 : decode cX2_peekRegister 68 = .ok (.ifCond .eq 20, 3) := by decide +kernel
theorem dX2_peekRegister_71 : decode cX2_peekRegister 71 = .ok (.aload_n 0, 1) := by decide +kernel
theorem dX2_peekRegister_72 : decode cX2_peekRegister 72 = .ok (.getfield 64, 3) := by decide +kernel
theorem dX2_peekRegister_75 : decode cX2_peekRegister 75 = .ok (.ifCond .eq 9, 3) := by decide +kernel
theorem dX2_peekRegister_78 : decode cX2_peekRegister 78 = .ok (.sipush 129, 3) := by decide +kernel
theorem dX2_peekRegister_81 : decode cX2_peekRegister 81 = .ok (.goto 8, 3) := by decide +kernel
theorem dX2_peekRegister_84 : decode cX2_peekRegister 84 = .ok (.iconst 1, 1) := by decide +kernel
theorem dX2_peekRegister_85 : decode cX2_peekRegister 85 = .ok (.goto 4, 3) := by decide +kernel
theorem dX2_peekRegister_88 : decode cX2_peekRegister 88 = .ok (.iconst 0, 1) := by decide +kernel
theorem dX2_peekRegister_89 : decode cX2_peekRegister 89 = .ok (.ireturn, 1) := by decide +kernel
theorem dX2_peekRegister_90 : decode cX2_peekRegister 90 = .ok (.aload_n 0, 1) := by decide +kernel
theorem dX2_peekRegister_91 : decode cX2_peekRegister 91 = .ok (.getfield 64, 3) := by decide +kernel
theorem dX2_peekRegister_94 : decode cX2_peekRegister 94 = .ok (.ifCond .eq 7, 3) := by decide +kernel
theorem dX2_peekRegister_97 : decode cX2_peekRegister 97 = .ok (.iconst 1, 1) := by decide +kernel
theorem dX2_peekRegister_98 : decode cX2_peekRegister 98 = .ok (.goto 4, 3) := by decide +kernel
theorem dX2_peekRegister_101 : decode cX2_peekRegister 101 = .ok (.iconst 0, 1) := by decide +kernel
theorem dX2_peekRegister_102 : decode cX2_peekRegister 102 = .ok (.ireturn, 1) := by decide +kernel
theorem dX2_peekRegister_103 : decode cX2_peekRegister 103 = .ok (.aload_n 0, 1) := by decide +kernel
theorem dX2_peekRegister_104 : decode cX2_peekRegister 104 = .ok (.getfield 80, 3) := by decide +kernel
theorem dX2_peekRegister_107 : decode cX2_peekRegister 107 = .ok (.ireturn, 1) := by decide +kernel
theorem dX2_peekRegister_108 : decode cX2_peekRegister 108 = .ok (.iconst 0, 1) := by decide +kernel
theorem dX2_peekRegister_109 : decode cX2_peekRegister 109 = .ok (.ireturn, 1) := by decide +kernel
theorem dX2_writeRegister_0 : decode cX2_writeRegister 0 = .ok (.iload_n 1, 1) := by decide +kernel
theorem dX2_writeRegister_1 : decode cX2_writeRegister 1 = .ok (.tableswitch 138 0 6 #[43, 54, 62, 73, 84, 109, 127], 43) := by decide +kernel
theorem dX2_writeRegister_44 : decode cX2_writeRegister 44 = .ok (.aload_n 0, 1) := by decide +kernel
theorem dX2_writeRegister_45 : decode cX2_writeRegister 45 = .ok (.iload_n 2, 1) := by decide +kernel
theorem dX2_writeRegister_46 : decode cX2_writeRegister 46 = .ok (.bipush 23, 2) := by decide +kernel
theorem dX2_writeRegister_48 : decode cX2_writeRegister 48 = .ok (.iand, 1) := by decide +kernel
theorem dX2_writeRegister_49 : decode cX2_writeRegister 49 = .ok (.putfield 74, 3) := by decide +kernel
theorem dX2_writeRegister_52 : decode cX2_writeRegister 52 = .ok (.goto 87, 3) := by decide +kernel
theorem dX2_writeRegister_55 : decode cX2_writeRegister 55 = .ok (.aload_n 0, 1) := by decide +kernel
theorem dX2_writeRegister_56 : decode cX2_writeRegister 56 = .ok (.iload_n 2, 1) := by decide +kernel
theorem dX2_writeRegister_57 : decode cX2_writeRegister 57 = .ok (.putfield 67, 3) := by decide +kernel
theorem dX2_writeRegister_60 : decode cX2_writeRegister 60 = .ok (.goto 79, 3) := by decide +kernel
theorem dX2_writeRegister_63 : decode cX2_writeRegister 63 = .ok (.aload_n 0, 1) := by decide +kernel
theorem dX2_writeRegister_64 : decode cX2_writeRegister 64 = .ok (.iload_n 2, 1) := by decide +kernel
theorem dX2_writeRegister_65 : decode cX2_writeRegister 65 = .ok (.bipush 15, 2) := by decide +kernel
theorem dX2_writeRegister_67 : decode cX2_writeRegister 67 = .ok (.iand, 1) := by decide +kernel
theorem dX2_writeRegister_68 : decode cX2_writeRegister 68 = .ok (.putfield 83, 3) := by decide +kernel
theorem dX2_writeRegister_71 : decode cX2_writeRegister 71 = .ok (.goto 68, 3) := by decide +kernel
theorem dX2_writeRegister_74 : decode cX2_writeRegister 74 = .ok (.aload_n 0, 1) := by decide +kernel
theorem dX2_writeRegister_75 : decode cX2_writeRegister 75 = .ok (.iload_n 2, 1) := by decide +kernel
theorem dX2_writeRegister_76 : decode cX2_writeRegister 76 = .ok (.bipush 15, 2) := by decide +kernel
theorem dX2_writeRegister_78 : decode cX2_writeRegister 78 = .ok (.iand, 1) := by decide +kernel
theorem dX2_writeRegister_79 : decode cX2_writeRegister 79 = .ok (.putfield 86, 3) := by decide +kernel
theorem dX2_writeRegister_82 : decode cX2_writeRegister 82 = .ok (.goto 57, 3) := by decide +kernel
theorem dX2_writeRegister_85 : decode cX2_writeRegister 85 = .ok (.aload_n 0, 1) := by decide +kernel
theorem dX2_writeRegister_86 : decode cX2_writeRegister 86 = .ok (.aload_n 0, 1) := by decide +kernel
theorem dX2_writeRegister_87 : decode cX2_writeRegister 87 = .ok (.getfield 61, 3) := by decide +kernel
theorem dX2_writeRegister_90 : decode cX2_writeRegister 90 = .ok (.ifCond .eq 13, 3) := by decide +kernel
theorem dX2_writeRegister_93 : decode cX2_writeRegister 93 = .ok (.iload_n 2, 1) := by decide +kernel
theorem dX2_writeRegister_94 : decode cX2_writeRegister 94 = .ok (.iconst 1, 1) := by decide +kernel
theorem dX2_writeRegister_95 : decode cX2_writeRegister 95 = .ok (.iand, 1) := by decide +kernel
theorem dX2_writeRegister_96 : decode cX2_writeRegister 96 = .ok (.ifCond .ne 7, 3) := by decide +kernel
theorem dX2_writeRegister_99 : decode cX2_writeRegister 99 = .ok (.iconst 1, 1) := by decide +kernel
theorem dX2_writeRegister_100 : decode cX2_writeRegister 100 = .ok (.goto 4, 3) := by decide +kernel
theorem dX2_writeRegister_103 : decode cX2_writeRegister 103 = .ok (.iconst 0, 1) := by decide +kernel
theorem dX2_writeRegister_104 : decode cX2_writeRegister 104 = .ok (.putfield 61, 3) := by decide +kernel
theorem dX2_writeRegister_107 : decode cX2_writeRegister 107 = .ok (.goto 32, 3) := by decide +kernel
theorem dX2_writeRegister_110 : decode cX2_writeRegister 110 = .ok (.aload_n 0, 1) := by decide +kernel
theorem dX2_writeRegister_111 : decode cX2_writeRegister 111 = .ok (.iload_n 2, 1) := by decide +kernel
theorem dX2_writeRegister_112 : decode cX2_writeRegister 112 = .ok (.iconst 1, 1) := by decide +kernel
theorem dX2_writeRegister_113 : decode cX2_writeRegister 113 = .ok (.iand, 1) := by decide +kernel
theorem dX2_writeRegister_114 : decode cX2_writeRegister 114 = .ok (.ifCond .eq 7, 3) := by decide +kernel
theorem dX2_writeRegister_117 : decode cX2_writeRegister 117 = .ok (.iconst 1, 1) := by decide +kernel
theorem dX2_writeRegister_118 : decode cX2_writeRegister 118 = .ok (.goto 4, 3) := by decide +kernel
theorem dX2_writeRegister_121 : decode cX2_writeRegister 121 = .ok (.iconst 0, 1) := by decide +kernel
theorem dX2_writeRegister_122 : decode cX2_writeRegister 122 = .ok (.putfield 64, 3) := by decide +kernel
theorem dX2_writeRegister_125 : decode cX2_writeRegister 125 = .ok (.goto 14, 3) := by decide +kernel
theorem dX2_writeRegister_128 : decode cX2_writeRegister 128 = .ok (.aload_n 0, 1) := by decide +kernel
theorem dX2_writeRegister_129 : decode cX2_writeRegister 129 = .ok (.iload_n 2, 1) := by decide +kernel
theorem dX2_writeRegister_130 : decode cX2_writeRegister 130 = .ok (.bipush 15, 2) := by decide +kernel
theorem dX2_writeRegister_132 : decode cX2_writeRegister 132 = .ok (.iand, 1) := by decide +kernel
theorem dX2_writeRegister_133 : decode cX2_writeRegister 133 = .ok (.putfield 80, 3) := by decide +kernel
theorem dX2_writeRegister_136 : decode cX2_writeRegister 136 = .ok (.goto 3, 3) := by decide +kernel
theorem dX2_writeRegister_139 : decode cX2_writeRegister 139 = .ok (.return_, 1) := by decide +kernel
theorem dX2_cellColour_0 : decode cX2_cellColour 0 = .ok (.iload_n 1, 1) := by decide +kernel
theorem dX2_cellColour_1 : decode cX2_cellColour 1 = .ok (.ifCond .lt 18, 3) := by decide +kernel
theorem dX2_cellColour_4 : decode cX2_cellColour 4 = .ok (.iload_n 1, 1) := by decide +kernel
theorem dX2_cellColour_5 : decode cX2_cellColour 5 = .ok (.bipush 24, 2) := by decide +kernel
theorem dX2_cellColour_7 : decode cX2_cellColour 7 = .ok (.if_icmp .ge 12, 3) := by decide +kernel
theorem dX2_cellColour_10 : decode cX2_cellColour 10 = .ok (.aload_n 0, 1) := by decide +kernel
theorem dX2_cellColour_11 : decode cX2_cellColour 11 = .ok (.getfield 13, 3) := by decide +kernel
theorem dX2_cellColour_14 : decode cX2_cellColour 14 = .ok (.iload_n 1, 1) := by decide +kernel
theorem dX2_cellColour_15 : decode cX2_cellColour 15 = .ok (.iaload, 1) := by decide +kernel
theorem dX2_cellColour_16 : decode cX2_cellColour 16 = .ok (.goto 4, 3) := by decide +kernel
theorem dX2_cellColour_19 : decode cX2_cellColour 19 = .ok (.iconst 0, 1) := by decide +kernel
theorem dX2_cellColour_20 : decode cX2_cellColour 20 = .ok (.ireturn, 1) := by decide +kernel
theorem dX2_setCellColour_0 : decode cX2_setCellColour 0 = .ok (.iload_n 1, 1) := by decide +kernel
theorem dX2_setCellColour_1 : decode cX2_setCellColour 1 = .ok (.ifCond .lt 19, 3) := by decide +kernel
theorem dX2_setCellColour_4 : decode cX2_setCellColour 4 = .ok (.iload_n 1, 1) := by decide +kernel
theorem dX2_setCellColour_5 : decode cX2_setCellColour 5 = .ok (.bipush 24, 2) := by decide +kernel
theorem dX2_setCellColour_7 : decode cX2_setCellColour 7 = .ok (.if_icmp .ge 13, 3) := by decide +kernel
theorem dX2_setCellColour_10 : decode cX2_setCellColour 10 = .ok (.aload_n 0, 1) := by decide +kernel
theorem dX2_setCellColour_11 : decode cX2_setCellColour 11 = .ok (.getfield 13, 3) := by decide +kernel
theorem dX2_setCellColour_14 : decode cX2_setCellColour 14 = .ok (.iload_n 1, 1) := by decide +kernel
theorem dX2_setCellColour_15 : decode cX2_setCellColour 15 = .ok (.iload_n 2, 1) := by decide +kernel
theorem dX2_setCellColour_16 : decode cX2_setCellColour 16 = .ok (.bipush 15, 2) := by decide +kernel
theorem dX2_setCellColour_18 : decode cX2_setCellColour 18 = .ok (.iand, 1) := by decide +kernel
theorem dX2_setCellColour_19 : decode cX2_setCellColour 19 = .ok (.iastore, 1) := by decide +kernel
theorem dX2_setCellColour_20 : decode cX2_setCellColour 20 = .ok (.return_, 1) := by decide +kernel
set_option maxRecDepth 20000 in
theorem ggX3_init_X4_init : GoodIn wsX3_init wsX4_init := goodIn_r _ [14, 15, 2, 3, 16, 17, 18, 19, 20, 21, 22, 23] (by decide +kernel) (by decide +kernel)
set_option maxRecDepth 20000 in
theorem gX3_init_X4_init_n11 : GoodIn wsX3_init (wsX4_init) := ggX3_init_X4_init
theorem dX3_init_0 : decode cX3_init 0 = .ok (.aload_n 0, 1) := by decide +kernel
theorem dX3_init_1 : decode cX3_init 1 = .ok (.invokespecial 3, 3) := by decide +kernel
theorem dX3_init_4 : decode cX3_init 4 = .ok (.aload_n 0, 1) := by decide +kernel
theorem dX3_init_5 : decode cX3_init 5 = .ok (.new 9, 3) := by decide +kernel
theorem dX3_init_8 : decode cX3_init 8 = .ok (.dup, 1) := by decide +kernel
theorem dX3_init_9 : decode cX3_init 9 = .ok (.invokespecial 11, 3) := by decide +kernel
theorem dX3_init_12 : decode cX3_init 12 = .ok (.putfield 12, 3) := by decide +kernel
theorem dX3_init_15 : decode cX3_init 15 = .ok (.aload_n 0, 1) := by decide +kernel
theorem dX3_init_16 : decode cX3_init 16 = .ok (.iconst 1, 1) := by decide +kernel
theorem dX3_init_17 : decode cX3_init 17 = .ok (.putfield 18, 3) := by decide +kernel
theorem dX3_init_20 : decode cX3_init 20 = .ok (.aload_n 0, 1) := by decide +kernel
theorem dX3_init_21 : decode cX3_init 21 = .ok (.iconst 0, 1) := by decide +kernel
theorem dX3_init_22 : decode cX3_init 22 = .ok (.putfield 22, 3) := by decide +kernel
theorem dX3_init_25 : decode cX3_init 25 = .ok (.aload_n 0, 1) := by decide +kernel
theorem dX3_init_26 : decode cX3_init 26 = .ok (.aload_n 1, 1) := by decide +kernel
theorem dX3_init_27 : decode cX3_init 27 = .ok (.putfield 26, 3) := by decide +kernel
theorem dX3_init_30 : decode cX3_init 30 = .ok (.aload_n 0, 1) := by decide +kernel
theorem dX3_init_31 : decode cX3_init 31 = .ok (.aload_n 2, 1) := by decide +kernel
theorem dX3_init_32 : decode cX3_init 32 = .ok (.putfield 30, 3) := by decide +kernel
theorem dX3_init_35 : decode cX3_init 35 = .ok (.aload_n 0, 1) := by decide +kernel
theorem dX3_init_36 : decode cX3_init 36 = .ok (.aload_n 3, 1) := by decide +kernel
theorem dX3_init_37 : decode cX3_init 37 = .ok (.putfield 34, 3) := by decide +kernel
theorem dX3_init_40 : decode cX3_init 40 = .ok (.return_, 1) := by decide +kernel
set_option maxRecDepth 20000 in
theorem ggX3_restart_X0_peek : GoodIn wsX3_restart wsX0_peek := goodIn_r _ [11, 12, 13, 14, 15, 16, 10, 17, 18, 19, 20, 21, 22, 23, 24, 25, 26, 27, 28, 29, 30, 31, 32, 33, 34, 35, 36, 37, 38, 39, 40, 41, 42, 43, 44, 45, 46, 47, 48, 49, 50, 51, 52, 53, 54, 55, 56, 57, 58, 59, 95, 96, 97, 98, 99, 100, 101, 102, 103, 104, 105, 106, 107, 108, 109, 110, 111, 112, 113, 114, 115, 116, 117, 118, 119, 120, 121, 122, 123, 124, 125, 126, 127, 128, 129, 130, 131, 132] (by decide +kernel) (by decide +kernel)
set_option maxRecDepth 20000 in
theorem gX3_restart_X0_peek : GoodIn wsX3_restart (wsV RX3 38 RX0 yX0_peek wsX0_peek) := goodIn_app (goodIn_of _ (by decide +kernel)) ggX3_restart_X0_peek
set_option maxRecDepth 20000 in
theorem ggX3_restart_X3_word : GoodIn wsX3_restart wsX3_word := goodIn_r _ [63] (by decide +kernel) (by decide +kernel)
set_option maxRecDepth 20000 in
theorem gX3_restart_X3_word : GoodIn wsX3_restart (va_wsS RX3 44 yX3_word wsX3_word) := goodIn_app (goodIn_of _ (by decide +kernel)) ggX3_restart_X3_word
set_option maxRecDepth 20000 in
theorem ggX3_restart_X4_reset : GoodIn wsX3_restart wsX4_reset := goodIn_r _ [68, 69, 70, 71, 72, 73, 74, 133, 134, 135, 136, 137, 138] (by decide +kernel) (by decide +kernel)
set_option maxRecDepth 20000 in
theorem gX3_restart_X4_reset : GoodIn wsX3_restart (wsV RX3 48 RX4 yX4_reset wsX4_reset) := goodIn_app (goodIn_of _ (by decide +kernel)) ggX3_restart_X4_reset
set_option maxRecDepth 20000 in
theorem ggX3_restart_X3_endInstruction : GoodIn wsX3_restart wsX3_endInstruction := goodIn_r _ [78, 79, 80, 81, 82, 83, 84, 85, 86, 87, 88, 89, 90, 91, 92, 93, 94] (by decide +kernel) (by decide +kernel)
set_option maxRecDepth 20000 in
theorem gX3_restart_X3_endInstruction : GoodIn wsX3_restart (wsV RX3 61 RX3 yX3_endInstruction wsX3_endInstruction) := goodIn_app (goodIn_of _ (by decide +kernel)) ggX3_restart_X3_endInstruction
theorem dX3_restart_0 : decode cX3_restart 0 = .ok (.aload_n 0, 1) := by decide +kernel
theorem dX3_restart_1 : decode cX3_restart 1 = .ok (.getfield 12, 3) := by decide +kernel
theorem dX3_restart_4 : decode cX3_restart 4 = .ok (.aload_n 0, 1) := by decide +kernel
theorem dX3_restart_5 : decode cX3_restart 5 = .ok (.getfield 26, 3) := by decide +kernel
theorem dX3_restart_8 : decode cX3_restart 8 = .ok (.sipush 8188, 3) := by decide +kernel
theorem dX3_restart_11 : decode cX3_restart 11 = .ok (.invokevirtual 38, 3) := by decide +kernel
theorem dX3_restart_14 : decode cX3_restart 14 = .ok (.aload_n 0, 1) := by decide +kernel
theorem dX3_restart_15 : decode cX3_restart 15 = .ok (.getfield 26, 3) := by decide +kernel
theorem dX3_restart_18 : decode cX3_restart 18 = .ok (.sipush 8189, 3) := by decide +kernel
theorem dX3_restart_21 : decode cX3_restart 21 = .ok (.invokevirtual 38, 3) := by decide +kernel
theorem dX3_restart_24 : decode cX3_restart 24 = .ok (.invokestatic 44, 3) := by decide +kernel
theorem dX3_restart_27 : decode cX3_restart 27 = .ok (.invokevirtual 48, 3) := by decide +kernel
theorem dX3_restart_30 : decode cX3_restart 30 = .ok (.aload_n 0, 1) := by decide +kernel
theorem dX3_restart_31 : decode cX3_restart 31 = .ok (.iconst 0, 1) := by decide +kernel
theorem dX3_restart_32 : decode cX3_restart 32 = .ok (.putfield 18, 3) := by decide +kernel
theorem dX3_restart_35 : decode cX3_restart 35 = .ok (.aload_n 0, 1) := by decide +kernel
theorem dX3_restart_36 : decode cX3_restart 36 = .ok (.iconst 0, 1) := by decide +kernel
theorem dX3_restart_37 : decode cX3_restart 37 = .ok (.putfield 52, 3) := by decide +kernel
theorem dX3_restart_40 : decode cX3_restart 40 = .ok (.aload_n 0, 1) := by decide +kernel
theorem dX3_restart_41 : decode cX3_restart 41 = .ok (.iconst 0, 1) := by decide +kernel
theorem dX3_restart_42 : decode cX3_restart 42 = .ok (.putfield 55, 3) := by decide +kernel
theorem dX3_restart_45 : decode cX3_restart 45 = .ok (.aload_n 0, 1) := by decide +kernel
theorem dX3_restart_46 : decode cX3_restart 46 = .ok (.getfield 26, 3) := by decide +kernel
theorem dX3_restart_49 : decode cX3_restart 49 = .ok (.iconst (-1), 1) := by decide +kernel
theorem dX3_restart_50 : decode cX3_restart 50 = .ok (.putfield 58, 3) := by decide +kernel
theorem dX3_restart_53 : decode cX3_restart 53 = .ok (.aload_n 0, 1) := by decide +kernel
theorem dX3_restart_54 : decode cX3_restart 54 = .ok (.invokevirtual 61, 3) := by decide +kernel
theorem dX3_restart_57 : decode cX3_restart 57 = .ok (.return_, 1) := by decide +kernel
set_option maxRecDepth 20000 in
theorem ggX3_makeAccess_X3_writesNext : GoodIn wsX3_makeAccess wsX3_writesNext := goodIn_r _ [9, 3, 4, 10, 11, 12, 8, 13, 14, 290, 291, 292, 293, 294, 295, 296, 297, 298, 299, 300, 301, 302, 303] (by decide +kernel) (by decide +kernel)
set_option maxRecDepth 20000 in
theorem gX3_makeAccess_X3_writesNext : GoodIn wsX3_makeAccess (wsV RX3 64 RX3 yX3_writesNext wsX3_writesNext) := goodIn_app (goodIn_of _ (by decide +kernel)) ggX3_makeAccess_X3_writesNext
set_option maxRecDepth 20000 in
theorem ggX3_makeAccess_X3_begin : GoodIn wsX3_makeAccess wsX3_begin := goodIn_r _ [18, 19, 20, 21, 22, 4, 23, 24, 14, 1, 25, 26, 27, 28, 29, 30, 31, 32, 33, 34, 35, 36, 37, 38, 39, 40, 41, 42, 43, 44, 45, 46, 47, 48, 49, 50, 51, 52, 53, 54, 55, 56, 57, 58, 59, 60, 61, 62, 63, 64, 65, 66, 67, 68, 69, 70, 71, 72, 73, 74, 75, 76, 77, 78, 79, 80, 81, 82, 83, 84, 85, 86, 87, 88, 89, 90, 91, 92, 93, 94, 95, 96, 97, 98, 99, 100, 101, 102, 103, 8, 104, 105, 106, 107, 108, 109, 110, 111, 290, 291, 292, 293, 294, 295, 296, 297, 298, 299, 300, 301, 302, 303, 304, 305, 306, 307, 308, 309, 310, 311, 312, 313, 314, 315, 316, 317, 318, 319, 320, 321, 322, 323, 324, 325, 326, 327, 328, 329, 330, 331, 332, 333, 334, 335, 336, 337, 338, 339, 340, 341, 342, 343, 344, 345, 346, 347] (by decide +kernel) (by decide +kernel)
set_option maxRecDepth 20000 in
theorem gX3_makeAccess_X3_begin : GoodIn wsX3_makeAccess (wsV RX3 71 RX3 yX3_begin wsX3_begin) := goodIn_app (goodIn_of _ (by decide +kernel)) ggX3_makeAccess_X3_begin
set_option maxRecDepth 20000 in
theorem ggX3_makeAccess_X3_interrupt : GoodIn wsX3_makeAccess wsX3_interrupt := goodIn_r _ [115, 3, 23, 21, 24, 116, 117, 45, 46, 47, 48, 49, 50, 51, 52, 53, 54, 55, 56, 57, 58, 59, 60, 61, 62, 63, 64, 65, 66, 67, 68, 69, 70, 71, 72, 28, 73, 74, 75, 76, 77, 30, 31, 78, 79, 80, 81, 82, 83, 84, 35, 85, 86, 87, 88, 89, 90, 37, 38, 91, 92, 93, 94, 95, 96, 97, 98, 99, 100, 118, 119, 120, 8, 121, 122, 123, 124, 125, 126, 127, 128, 129, 130, 131, 132, 133, 134, 135, 136, 137, 138, 139, 140, 141, 142, 143, 144, 145, 146, 147, 148, 149, 150, 151, 152, 153, 154, 155, 156, 157, 158, 159, 160, 161, 162, 163, 164, 165, 166, 167, 168, 169, 42, 170, 44, 171, 172, 173, 174, 175, 176, 177, 4, 290, 291, 292, 293, 294, 295, 296, 297, 298, 299, 300, 301, 302, 303, 304, 305, 306, 307, 308, 309, 336, 337, 338, 339, 340, 341, 342, 343, 310, 311, 312, 313, 314, 315, 316, 317, 318, 319, 320, 321, 322, 323, 324, 325, 326, 327, 328, 329, 330, 331, 332, 333, 334, 335, 344, 345, 346, 347] (by decide +kernel) (by decide +kernel)
set_option maxRecDepth 20000 in
theorem gX3_makeAccess_X3_interrupt : GoodIn wsX3_makeAccess (wsV RX3 74 RX3 yX3_interrupt wsX3_interrupt) := goodIn_app (goodIn_of _ (by decide +kernel)) ggX3_makeAccess_X3_interrupt
set_option maxRecDepth 20000 in
theorem ggX3_makeAccess_X3_single : GoodIn wsX3_makeAccess wsX3_single := goodIn_r _ [181, 23, 21, 24, 14, 45, 46, 47, 48, 49, 50, 51, 52, 53, 54, 55, 56, 57, 58, 59, 60, 61, 62, 63, 64, 65, 66, 67, 68, 69, 70, 71, 72, 28, 73, 74, 75, 76, 77, 30, 31, 78, 79, 80, 81, 82, 83, 84, 35, 85, 86, 87, 88, 89, 90, 37, 38, 91, 92, 93, 94, 95, 96, 97, 98, 99, 100, 182, 183, 184, 42, 185, 186, 187, 188, 189, 168, 169, 170, 44, 190, 191, 192, 193, 174, 175, 176, 8, 177, 4, 3, 290, 291, 292, 293, 294, 295, 296, 297, 298, 299, 300, 301, 302, 303, 304, 305, 306, 307, 308, 309, 336, 337, 338, 339, 340, 341, 342, 343, 310, 311, 312, 313, 314, 315, 316, 317, 318, 319, 320, 321, 322, 323, 324, 325, 326, 327, 328, 329, 330, 331, 332, 333, 334, 335, 344, 345, 346, 347] (by decide +kernel) (by decide +kernel)
set_option maxRecDepth 20000 in
theorem gX3_makeAccess_X3_single : GoodIn wsX3_makeAccess (wsV RX3 77 RX3 yX3_single wsX3_single) := goodIn_app (goodIn_of _ (by decide +kernel)) ggX3_makeAccess_X3_single
set_option maxRecDepth 20000 in
theorem ggX3_makeAccess_X3_own : GoodIn wsX3_makeAccess wsX3_own := goodIn_r _ [197, 14, 21, 198, 199, 101, 102, 103, 8, 104, 23, 24, 105, 45, 46, 47, 48, 49, 50, 51, 52, 53, 54, 55, 56, 57, 58, 59, 60, 61, 62, 63, 64, 65, 66, 67, 68, 69, 70, 71, 72, 28, 73, 74, 75, 76, 77, 30, 31, 78, 79, 80, 81, 82, 83, 84, 35, 85, 86, 87, 88, 89, 90, 37, 38, 91, 92, 93, 94, 95, 96, 97, 98, 99, 100, 200, 191, 192, 42, 193, 44, 201, 202, 203, 204, 190, 189, 168, 169, 170, 205, 206, 207, 208, 186, 209, 40, 41, 43, 210, 211, 212, 213, 214, 215, 216, 217, 174, 175, 176, 177, 4, 3, 290, 291, 292, 293, 294, 295, 296, 297, 298, 299, 300, 301, 302, 303, 304, 305, 306, 307, 308, 309, 336, 337, 338, 339, 340, 341, 342, 343, 310, 311, 312, 313, 314, 315, 316, 317, 318, 319, 320, 321, 322, 323, 324, 325, 326, 327, 328, 329, 330, 331, 332, 333, 334, 335, 344, 345, 346, 347] (by decide +kernel) (by decide +kernel)
set_option maxRecDepth 20000 in
theorem gX3_makeAccess_X3_own : GoodIn wsX3_makeAccess (wsV RX3 80 RX3 yX3_own wsX3_own) := goodIn_app (goodIn_of _ (by decide +kernel)) ggX3_makeAccess_X3_own
set_option maxRecDepth 20000 in
theorem ggX3_makeAccess_X3_shortAddress : GoodIn wsX3_makeAccess wsX3_shortAddress := goodIn_r _ [221, 3, 117, 101, 102, 103, 8, 104, 23, 21, 24, 105, 45, 46, 47, 48, 49, 50, 51, 52, 53, 54, 55, 56, 57, 58, 59, 60, 61, 62, 63, 64, 65, 66, 67, 68, 69, 70, 71, 72, 28, 73, 74, 75, 76, 77, 30, 31, 78, 79, 80, 81, 82, 83, 84, 35, 85, 86, 87, 88, 89, 90, 37, 38, 91, 92, 93, 94, 95, 96, 97, 98, 99, 100, 222, 223, 224, 225, 14, 198, 199, 226, 10, 11, 12, 13, 123, 124, 125, 126, 127, 128, 129, 130, 131, 132, 133, 134, 135, 136, 137, 138, 139, 140, 141, 142, 143, 144, 145, 146, 147, 148, 149, 150, 151, 152, 153, 154, 155, 156, 157, 158, 159, 160, 161, 162, 163, 164, 165, 166, 205, 206, 207, 42, 208, 186, 190, 191, 192, 193, 44, 209, 40, 41, 43, 210, 211, 212, 213, 189, 168, 169, 170, 214, 215, 216, 217, 202, 203, 204, 174, 175, 176, 177, 4, 290, 291, 292, 293, 294, 295, 296, 297, 298, 299, 300, 301, 302, 303, 304, 305, 306, 307, 308, 309, 336, 337, 338, 339, 340, 341, 342, 343, 310, 311, 312, 313, 314, 315, 316, 317, 318, 319, 320, 321, 322, 323, 324, 325, 326, 327, 328, 329, 330, 331, 332, 333, 334, 335, 344, 345, 346, 347] (by decide +kernel) (by decide +kernel)
set_option maxRecDepth 20000 in
theorem gX3_makeAccess_X3_shortAddress : GoodIn wsX3_makeAccess (wsV RX3 83 RX3 yX3_shortAddress wsX3_shortAddress) := goodIn_app (goodIn_of _ (by decide +kernel)) ggX3_makeAccess_X3_shortAddress
set_option maxRecDepth 20000 in
theorem ggX3_makeAccess_X3_longAddress : GoodIn wsX3_makeAccess wsX3_longAddress := goodIn_r _ [230, 3, 117, 231, 101, 102, 103, 8, 104, 23, 21, 24, 105, 45, 46, 47, 48, 49, 50, 51, 52, 53, 54, 55, 56, 57, 58, 59, 60, 61, 62, 63, 64, 65, 66, 67, 68, 69, 70, 71, 72, 28, 73, 74, 75, 76, 77, 30, 31, 78, 79, 80, 81, 82, 83, 84, 35, 85, 86, 87, 88, 89, 90, 37, 38, 91, 92, 93, 94, 95, 96, 97, 98, 99, 100, 171, 172, 173, 222, 223, 224, 225, 14, 198, 199, 226, 10, 11, 12, 13, 123, 124, 125, 126, 127, 128, 129, 130, 131, 132, 133, 134, 135, 136, 137, 138, 139, 140, 141, 142, 143, 144, 145, 146, 147, 148, 149, 150, 151, 152, 153, 154, 155, 156, 157, 158, 159, 160, 161, 162, 163, 164, 165, 166, 205, 206, 207, 42, 208, 186, 190, 191, 192, 193, 44, 209, 40, 41, 43, 210, 211, 212, 213, 189, 168, 169, 170, 214, 215, 216, 217, 202, 203, 204, 174, 175, 176, 177, 4, 290, 291, 292, 293, 294, 295, 296, 297, 298, 299, 300, 301, 302, 303, 304, 305, 306, 307, 308, 309, 336, 337, 338, 339, 340, 341, 342, 343, 310, 311, 312, 313, 314, 315, 316, 317, 318, 319, 320, 321, 322, 323, 324, 325, 326, 327, 328, 329, 330, 331, 332, 333, 334, 335, 344, 345, 346, 347] (by decide +kernel) (by decide +kernel)
set_option maxRecDepth 20000 in
theorem gX3_makeAccess_X3_longAddress : GoodIn wsX3_makeAccess (wsV RX3 86 RX3 yX3_longAddress wsX3_longAddress) := goodIn_app (goodIn_of _ (by decide +kernel)) ggX3_makeAccess_X3_longAddress
set_option maxRecDepth 20000 in
theorem ggX3_makeAccess_X3_longAddressX : GoodIn wsX3_makeAccess wsX3_longAddressX := goodIn_r _ [235, 3, 117, 231, 21, 198, 101, 102, 103, 8, 104, 23, 24, 105, 45, 46, 47, 48, 49, 50, 51, 52, 53, 54, 55, 56, 57, 58, 59, 60, 61, 62, 63, 64, 65, 66, 67, 68, 69, 70, 71, 72, 28, 73, 74, 75, 76, 77, 30, 31, 78, 79, 80, 81, 82, 83, 84, 35, 85, 86, 87, 88, 89, 90, 37, 38, 91, 92, 93, 94, 95, 96, 97, 98, 99, 100, 236, 237, 238, 239, 14, 171, 172, 173, 10, 11, 12, 13, 205, 206, 207, 42, 208, 186, 190, 191, 192, 193, 44, 209, 40, 41, 43, 210, 211, 212, 213, 189, 168, 169, 170, 214, 215, 216, 217, 202, 203, 204, 174, 175, 176, 177, 4, 222, 223, 224, 225, 199, 226, 123, 124, 125, 126, 127, 128, 129, 130, 131, 132, 133, 134, 135, 136, 137, 138, 139, 140, 141, 142, 143, 144, 145, 146, 147, 148, 149, 150, 151, 152, 153, 154, 155, 156, 157, 158, 159, 160, 161, 162, 163, 164, 165, 166, 290, 291, 292, 293, 294, 295, 296, 297, 298, 299, 300, 301, 302, 303, 304, 305, 306, 307, 308, 309, 336, 337, 338, 339, 340, 341, 342, 343, 310, 311, 312, 313, 314, 315, 316, 317, 318, 319, 320, 321, 322, 323, 324, 325, 326, 327, 328, 329, 330, 331, 332, 333, 334, 335, 344, 345, 346, 347] (by decide +kernel) (by decide +kernel)
set_option maxRecDepth 20000 in
theorem gX3_makeAccess_X3_longAddressX : GoodIn wsX3_makeAccess (wsV RX3 89 RX3 yX3_longAddressX wsX3_longAddressX) := goodIn_app (goodIn_of _ (by decide +kernel)) ggX3_makeAccess_X3_longAddressX
set_option maxRecDepth 20000 in
theorem ggX3_makeAccess_X3_change : GoodIn wsX3_makeAccess wsX3_change := goodIn_r _ [243, 3, 117, 23, 244, 21, 14, 101, 102, 103, 8, 104, 24, 105, 45, 46, 47, 48, 49, 50, 51, 52, 53, 54, 55, 56, 57, 58, 59, 60, 61, 62, 63, 64, 65, 66, 67, 68, 69, 70, 71, 72, 28, 73, 74, 75, 76, 77, 30, 31, 78, 79, 80, 81, 82, 83, 84, 35, 85, 86, 87, 88, 89, 90, 37, 38, 91, 92, 93, 94, 95, 96, 97, 98, 99, 100, 123, 124, 125, 126, 127, 128, 129, 130, 131, 132, 133, 134, 135, 136, 137, 138, 139, 140, 141, 142, 143, 144, 145, 146, 147, 148, 149, 150, 151, 152, 153, 154, 155, 156, 157, 158, 159, 160, 161, 162, 163, 164, 165, 166, 200, 191, 192, 42, 193, 44, 174, 175, 176, 177, 4, 290, 291, 292, 293, 294, 295, 296, 297, 298, 299, 300, 301, 302, 303, 304, 305, 306, 307, 308, 309, 336, 337, 338, 339, 340, 341, 342, 343, 310, 311, 312, 313, 314, 315, 316, 317, 318, 319, 320, 321, 322, 323, 324, 325, 326, 327, 328, 329, 330, 331, 332, 333, 334, 335, 344, 345, 346, 347] (by decide +kernel) (by decide +kernel)
set_option maxRecDepth 20000 in
theorem gX3_makeAccess_X3_change : GoodIn wsX3_makeAccess (wsV RX3 92 RX3 yX3_change wsX3_change) := goodIn_app (goodIn_of _ (by decide +kernel)) ggX3_makeAccess_X3_change
set_option maxRecDepth 20000 in
theorem ggX3_makeAccess_X3_branch : GoodIn wsX3_makeAccess wsX3_branch := goodIn_r _ [248, 3, 117, 21, 14, 23, 24, 249, 105, 101, 102, 103, 8, 104, 45, 46, 47, 48, 49, 50, 51, 52, 53, 54, 55, 56, 57, 58, 59, 60, 61, 62, 63, 64, 65, 66, 67, 68, 69, 70, 71, 72, 28, 73, 74, 75, 76, 77, 30, 31, 78, 79, 80, 81, 82, 83, 84, 35, 85, 86, 87, 88, 89, 90, 37, 38, 91, 92, 93, 94, 95, 96, 97, 98, 99, 100, 250, 251, 252, 42, 253, 209, 40, 41, 43, 44, 174, 175, 176, 177, 4, 254, 255, 256, 257, 171, 172, 173, 290, 291, 292, 293, 294, 295, 296, 297, 298, 299, 300, 301, 302, 303, 304, 305, 306, 307, 308, 309, 336, 337, 338, 339, 340, 341, 342, 343, 310, 311, 312, 313, 314, 315, 316, 317, 318, 319, 320, 321, 322, 323, 324, 325, 326, 327, 328, 329, 330, 331, 332, 333, 334, 335, 344, 345, 346, 347] (by decide +kernel) (by decide +kernel)
set_option maxRecDepth 20000 in
theorem gX3_makeAccess_X3_branch : GoodIn wsX3_makeAccess (wsV RX3 95 RX3 yX3_branch wsX3_branch) := goodIn_app (goodIn_of _ (by decide +kernel)) ggX3_makeAccess_X3_branch
set_option maxRecDepth 20000 in
theorem ggX3_makeAccess_X3_jump : GoodIn wsX3_makeAccess wsX3_jump := goodIn_r _ [261, 3, 117, 21, 24, 101, 102, 103, 8, 104, 23, 105, 45, 46, 47, 48, 49, 50, 51, 52, 53, 54, 55, 56, 57, 58, 59, 60, 61, 62, 63, 64, 65, 66, 67, 68, 69, 70, 71, 72, 28, 73, 74, 75, 76, 77, 30, 31, 78, 79, 80, 81, 82, 83, 84, 35, 85, 86, 87, 88, 89, 90, 37, 38, 91, 92, 93, 94, 95, 96, 97, 98, 99, 100, 171, 172, 173, 174, 175, 176, 177, 4, 290, 291, 292, 293, 294, 295, 296, 297, 298, 299, 300, 301, 302, 303, 304, 305, 306, 307, 308, 309, 336, 337, 338, 339, 340, 341, 342, 343, 310, 311, 312, 313, 314, 315, 316, 317, 318, 319, 320, 321, 322, 323, 324, 325, 326, 327, 328, 329, 330, 331, 332, 333, 334, 335, 344, 345, 346, 347] (by decide +kernel) (by decide +kernel)
set_option maxRecDepth 20000 in
theorem gX3_makeAccess_X3_jump : GoodIn wsX3_makeAccess (wsV RX3 98 RX3 yX3_jump wsX3_jump) := goodIn_app (goodIn_of _ (by decide +kernel)) ggX3_makeAccess_X3_jump
set_option maxRecDepth 20000 in
theorem ggX3_makeAccess_X3_call : GoodIn wsX3_makeAccess wsX3_call := goodIn_r _ [265, 3, 117, 21, 24, 101, 102, 103, 8, 104, 23, 105, 45, 46, 47, 48, 49, 50, 51, 52, 53, 54, 55, 56, 57, 58, 59, 60, 61, 62, 63, 64, 65, 66, 67, 68, 69, 70, 71, 72, 28, 73, 74, 75, 76, 77, 30, 31, 78, 79, 80, 81, 82, 83, 84, 35, 85, 86, 87, 88, 89, 90, 37, 38, 91, 92, 93, 94, 95, 96, 97, 98, 99, 100, 266, 267, 268, 269, 122, 118, 119, 120, 121, 123, 124, 125, 126, 127, 128, 129, 130, 131, 132, 133, 134, 135, 136, 137, 138, 139, 140, 141, 142, 143, 144, 145, 146, 147, 148, 149, 150, 151, 152, 153, 154, 155, 156, 157, 158, 159, 160, 161, 162, 163, 164, 165, 166, 171, 172, 173, 174, 175, 176, 177, 4, 290, 291, 292, 293, 294, 295, 296, 297, 298, 299, 300, 301, 302, 303, 304, 305, 306, 307, 308, 309, 336, 337, 338, 339, 340, 341, 342, 343, 310, 311, 312, 313, 314, 315, 316, 317, 318, 319, 320, 321, 322, 323, 324, 325, 326, 327, 328, 329, 330, 331, 332, 333, 334, 335, 344, 345, 346, 347] (by decide +kernel) (by decide +kernel)
set_option maxRecDepth 20000 in
theorem gX3_makeAccess_X3_call : GoodIn wsX3_makeAccess (wsV RX3 101 RX3 yX3_call wsX3_call) := goodIn_app (goodIn_of _ (by decide +kernel)) ggX3_makeAccess_X3_call
set_option maxRecDepth 20000 in
theorem ggX3_makeAccess_X3_returnFromCall : GoodIn wsX3_makeAccess wsX3_returnFromCall := goodIn_r _ [273, 3, 23, 21, 24, 117, 45, 46, 47, 48, 49, 50, 51, 52, 53, 54, 55, 56, 57, 58, 59, 60, 61, 62, 63, 64, 65, 66, 67, 68, 69, 70, 71, 72, 28, 73, 74, 75, 76, 77, 30, 31, 78, 79, 80, 81, 82, 83, 84, 35, 85, 86, 87, 88, 89, 90, 37, 38, 91, 92, 93, 94, 95, 96, 97, 98, 99, 100, 266, 267, 268, 8, 269, 122, 274, 275, 276, 277, 171, 172, 173, 101, 102, 103, 104, 105, 174, 175, 176, 177, 4, 290, 291, 292, 293, 294, 295, 296, 297, 298, 299, 300, 301, 302, 303, 304, 305, 306, 307, 308, 309, 336, 337, 338, 339, 340, 341, 342, 343, 310, 311, 312, 313, 314, 315, 316, 317, 318, 319, 320, 321, 322, 323, 324, 325, 326, 327, 328, 329, 330, 331, 332, 333, 334, 335, 344, 345, 346, 347] (by decide +kernel) (by decide +kernel)
set_option maxRecDepth 20000 in
theorem gX3_makeAccess_X3_returnFromCall : GoodIn wsX3_makeAccess (wsV RX3 104 RX3 yX3_returnFromCall wsX3_returnFromCall) := goodIn_app (goodIn_of _ (by decide +kernel)) ggX3_makeAccess_X3_returnFromCall
set_option maxRecDepth 20000 in
theorem ggX3_makeAccess_X3_returnFromInterrupt : GoodIn wsX3_makeAccess wsX3_returnFromInterrupt := goodIn_r _ [281, 3, 23, 21, 24, 116, 45, 46, 47, 48, 49, 50, 51, 52, 53, 54, 55, 56, 57, 58, 59, 60, 61, 62, 63, 64, 65, 66, 67, 68, 69, 70, 71, 72, 28, 73, 74, 75, 76, 77, 30, 31, 78, 79, 80, 81, 82, 83, 84, 35, 85, 86, 87, 88, 89, 90, 37, 38, 91, 92, 93, 94, 95, 96, 97, 98, 99, 100, 266, 267, 268, 8, 269, 122, 274, 275, 276, 277, 171, 172, 173, 174, 175, 176, 177, 4, 290, 291, 292, 293, 294, 295, 296, 297, 298, 299, 300, 301, 302, 303, 304, 305, 306, 307, 308, 309, 336, 337, 338, 339, 340, 341, 342, 343, 310, 311, 312, 313, 314, 315, 316, 317, 318, 319, 320, 321, 322, 323, 324, 325, 326, 327, 328, 329, 330, 331, 332, 333, 334, 335, 344, 345, 346, 347] (by decide +kernel) (by decide +kernel)
set_option maxRecDepth 20000 in
theorem gX3_makeAccess_X3_returnFromInterrupt : GoodIn wsX3_makeAccess (wsV RX3 107 RX3 yX3_returnFromInterrupt wsX3_returnFromInterrupt) := goodIn_app (goodIn_of _ (by decide +kernel)) ggX3_makeAccess_X3_returnFromInterrupt
set_option maxRecDepth 20000 in
theorem ggX3_makeAccess_X3_pushA : GoodIn wsX3_makeAccess wsX3_pushA := goodIn_r _ [285, 3, 23, 21, 24, 226, 45, 46, 47, 48, 49, 50, 51, 52, 53, 54, 55, 56, 57, 58, 59, 60, 61, 62, 63, 64, 65, 66, 67, 68, 69, 70, 71, 72, 28, 73, 74, 75, 76, 77, 30, 31, 78, 79, 80, 81, 82, 83, 84, 35, 85, 86, 87, 88, 89, 90, 37, 38, 91, 92, 93, 94, 95, 96, 97, 98, 99, 100, 118, 119, 120, 8, 121, 122, 123, 124, 125, 126, 127, 128, 129, 130, 131, 132, 133, 134, 135, 136, 137, 138, 139, 140, 141, 142, 143, 144, 145, 146, 147, 148, 149, 150, 151, 152, 153, 154, 155, 156, 157, 158, 159, 160, 161, 162, 163, 164, 165, 166, 174, 175, 176, 177, 4, 290, 291, 292, 293, 294, 295, 296, 297, 298, 299, 300, 301, 302, 303, 304, 305, 306, 307, 308, 309, 336, 337, 338, 339, 340, 341, 342, 343, 310, 311, 312, 313, 314, 315, 316, 317, 318, 319, 320, 321, 322, 323, 324, 325, 326, 327, 328, 329, 330, 331, 332, 333, 334, 335, 344, 345, 346, 347] (by decide +kernel) (by decide +kernel)
set_option maxRecDepth 20000 in
theorem gX3_makeAccess_X3_pushA : GoodIn wsX3_makeAccess (wsV RX3 110 RX3 yX3_pushA wsX3_pushA) := goodIn_app (goodIn_of _ (by decide +kernel)) ggX3_makeAccess_X3_pushA
set_option maxRecDepth 20000 in
theorem ggX3_makeAccess_X3_pullA : GoodIn wsX3_makeAccess wsX3_pullA := goodIn_r _ [289, 3, 23, 21, 24, 226, 45, 46, 47, 48, 49, 50, 51, 52, 53, 54, 55, 56, 57, 58, 59, 60, 61, 62, 63, 64, 65, 66, 67, 68, 69, 70, 71, 72, 28, 73, 74, 75, 76, 77, 30, 31, 78, 79, 80, 81, 82, 83, 84, 35, 85, 86, 87, 88, 89, 90, 37, 38, 91, 92, 93, 94, 95, 96, 97, 98, 99, 100, 266, 267, 268, 8, 269, 122, 274, 275, 276, 277, 200, 191, 192, 42, 193, 44, 174, 175, 176, 177, 4, 290, 291, 292, 293, 294, 295, 296, 297, 298, 299, 300, 301, 302, 303, 304, 305, 306, 307, 308, 309, 336, 337, 338, 339, 340, 341, 342, 343, 310, 311, 312, 313, 314, 315, 316, 317, 318, 319, 320, 321, 322, 323, 324, 325, 326, 327, 328, 329, 330, 331, 332, 333, 334, 335, 344, 345, 346, 347] (by decide +kernel) (by decide +kernel)
set_option maxRecDepth 20000 in
theorem gX3_makeAccess_X3_pullA : GoodIn wsX3_makeAccess (wsV RX3 113 RX3 yX3_pullA wsX3_pullA) := goodIn_app (goodIn_of _ (by decide +kernel)) ggX3_makeAccess_X3_pullA
