theorem dX6_interrupts_0 : decode cX6_interrupts 0 = .ok (.aload_n 0, 1) := by decide +kernel
theorem dX6_interrupts_1 : decode cX6_interrupts 1 = .ok (.getfield 52, 3) := by decide +kernel
theorem dX6_interrupts_4 : decode cX6_interrupts 4 = .ok (.getfield 141, 3) := by decide +kernel
theorem dX6_interrupts_7 : decode cX6_interrupts 7 = .ok (.ireturn, 1) := by decide +kernel
theorem dX6_isByte_0 : decode cX6_isByte 0 = .ok (.iload_n 0, 1) := by decide +kernel
theorem dX6_isByte_1 : decode cX6_isByte 1 = .ok (.ifCond .lt 14, 3) := by decide +kernel
theorem dX6_isByte_4 : decode cX6_isByte 4 = .ok (.iload_n 0, 1) := by decide +kernel
theorem dX6_isByte_5 : decode cX6_isByte 5 = .ok (.sipush 255, 3) := by decide +kernel
theorem dX6_isByte_8 : decode cX6_isByte 8 = .ok (.if_icmp .gt 7, 3) := by decide +kernel
theorem dX6_isByte_11 : decode cX6_isByte 11 = .ok (.iconst 1, 1) := by decide +kernel
theorem dX6_isByte_12 : decode cX6_isByte 12 = .ok (.goto 4, 3) := by decide +kernel
theorem dX6_isByte_15 : decode cX6_isByte 15 = .ok (.iconst 0, 1) := by decide +kernel
theorem dX6_isByte_16 : decode cX6_isByte 16 = .ok (.ireturn, 1) := by decide +kernel
theorem dX6_isAddress_0 : decode cX6_isAddress 0 = .ok (.iload_n 0, 1) := by decide +kernel
theorem dX6_isAddress_1 : decode cX6_isAddress 1 = .ok (.ifCond .lt 14, 3) := by decide +kernel
theorem dX6_isAddress_4 : decode cX6_isAddress 4 = .ok (.iload_n 0, 1) := by decide +kernel
theorem dX6_isAddress_5 : decode cX6_isAddress 5 = .ok (.sipush 8192, 3) := by decide +kernel
theorem dX6_isAddress_8 : decode cX6_isAddress 8 = .ok (.if_icmp .ge 7, 3) := by decide +kernel
theorem dX6_isAddress_11 : decode cX6_isAddress 11 = .ok (.iconst 1, 1) := by decide +kernel
theorem dX6_isAddress_12 : decode cX6_isAddress 12 = .ok (.goto 4, 3) := by decide +kernel
theorem dX6_isAddress_15 : decode cX6_isAddress 15 = .ok (.iconst 0, 1) := by decide +kernel
theorem dX6_isAddress_16 : decode cX6_isAddress 16 = .ok (.ireturn, 1) := by decide +kernel
theorem dX7_init_0 : decode cX7_init 0 = .ok (.aload_n 0, 1) := by decide +kernel
theorem dX7_init_1 : decode cX7_init 1 = .ok (.invokespecial 1, 3) := by decide +kernel
theorem dX7_init_4 : decode cX7_init 4 = .ok (.aload_n 0, 1) := by decide +kernel
theorem dX7_init_5 : decode cX7_init 5 = .ok (.sipush 8192, 3) := by decide +kernel
theorem dX7_init_8 : decode cX7_init 8 = .ok (.newarray .int, 2) := by decide +kernel
theorem dX7_init_10 : decode cX7_init 10 = .ok (.putfield 7, 3) := by decide +kernel
theorem dX7_init_13 : decode cX7_init 13 = .ok (.aload_n 0, 1) := by decide +kernel
theorem dX7_init_14 : decode cX7_init 14 = .ok (.sipush 1024, 3) := by decide +kernel
theorem dX7_init_17 : decode cX7_init 17 = .ok (.newarray .int, 2) := by decide +kernel
theorem dX7_init_19 : decode cX7_init 19 = .ok (.putfield 13, 3) := by decide +kernel
theorem dX7_init_22 : decode cX7_init 22 = .ok (.aload_n 0, 1) := by decide +kernel
theorem dX7_init_23 : decode cX7_init 23 = .ok (.sipush 512, 3) := by decide +kernel
theorem dX7_init_26 : decode cX7_init 26 = .ok (.newarray .int, 2) := by decide +kernel
theorem dX7_init_28 : decode cX7_init 28 = .ok (.putfield 16, 3) := by decide +kernel
theorem dX7_init_31 : decode cX7_init 31 = .ok (.aload_n 0, 1) := by decide +kernel
theorem dX7_init_32 : decode cX7_init 32 = .ok (.sipush 1024, 3) := by decide +kernel
theorem dX7_init_35 : decode cX7_init 35 = .ok (.newarray .int, 2) := by decide +kernel
theorem dX7_init_37 : decode cX7_init 37 = .ok (.putfield 19, 3) := by decide +kernel
theorem dX7_init_40 : decode cX7_init 40 = .ok (.aload_n 0, 1) := by decide +kernel
theorem dX7_init_41 : decode cX7_init 41 = .ok (.bipush 7, 2) := by decide +kernel
theorem dX7_init_43 : decode cX7_init 43 = .ok (.putfield 22, 3) := by decide +kernel
theorem dX7_init_46 : decode cX7_init 46 = .ok (.aload_n 0, 1) := by decide +kernel
theorem dX7_init_47 : decode cX7_init 47 = .ok (.bipush 7, 2) := by decide +kernel
theorem dX7_init_49 : decode cX7_init 49 = .ok (.newarray .int, 2) := by decide +kernel
theorem dX7_init_51 : decode cX7_init 51 = .ok (.putfield 26, 3) := by decide +kernel
theorem dX7_init_54 : decode cX7_init 54 = .ok (.aload_n 0, 1) := by decide +kernel
theorem dX7_init_55 : decode cX7_init 55 = .ok (.iconst 1, 1) := by decide +kernel
theorem dX7_init_56 : decode cX7_init 56 = .ok (.putfield 29, 3) := by decide +kernel
theorem dX7_init_59 : decode cX7_init 59 = .ok (.aload_n 0, 1) := by decide +kernel
theorem dX7_init_60 : decode cX7_init 60 = .ok (.bipush 8, 2) := by decide +kernel
theorem dX7_init_62 : decode cX7_init 62 = .ok (.newarray .int, 2) := by decide +kernel
theorem dX7_init_64 : decode cX7_init 64 = .ok (.putfield 33, 3) := by decide +kernel
theorem dX7_init_67 : decode cX7_init 67 = .ok (.aload_n 0, 1) := by decide +kernel
theorem dX7_init_68 : decode cX7_init 68 = .ok (.bipush 8, 2) := by decide +kernel
theorem dX7_init_70 : decode cX7_init 70 = .ok (.newarray .int, 2) := by decide +kernel
theorem dX7_init_72 : decode cX7_init 72 = .ok (.putfield 36, 3) := by decide +kernel
theorem dX7_init_75 : decode cX7_init 75 = .ok (.aload_n 0, 1) := by decide +kernel
theorem dX7_init_76 : decode cX7_init 76 = .ok (.bipush 24, 2) := by decide +kernel
theorem dX7_init_78 : decode cX7_init 78 = .ok (.newarray .int, 2) := by decide +kernel
theorem dX7_init_80 : decode cX7_init 80 = .ok (.putfield 39, 3) := by decide +kernel
theorem dX7_init_83 : decode cX7_init 83 = .ok (.aload_n 0, 1) := by decide +kernel
theorem dX7_init_84 : decode cX7_init 84 = .ok (.sipush 2560, 3) := by decide +kernel
theorem dX7_init_87 : decode cX7_init 87 = .ok (.newarray .int, 2) := by decide +kernel
theorem dX7_init_89 : decode cX7_init 89 = .ok (.putfield 42, 3) := by decide +kernel
theorem dX7_init_92 : decode cX7_init 92 = .ok (.aload_n 0, 1) := by decide +kernel
theorem dX7_init_93 : decode cX7_init 93 = .ok (.bipush 8, 2) := by decide +kernel
theorem dX7_init_95 : decode cX7_init 95 = .ok (.newarray .int, 2) := by decide +kernel
theorem dX7_init_97 : decode cX7_init 97 = .ok (.putfield 45, 3) := by decide +kernel
theorem dX7_init_100 : decode cX7_init 100 = .ok (.aload_n 0, 1) := by decide +kernel
theorem dX7_init_101 : decode cX7_init 101 = .ok (.iconst 2, 1) := by decide +kernel
theorem dX7_init_102 : decode cX7_init 102 = .ok (.newarray .int, 2) := by decide +kernel
theorem dX7_init_104 : decode cX7_init 104 = .ok (.putfield 48, 3) := by decide +kernel
theorem dX7_init_107 : decode cX7_init 107 = .ok (.aload_n 0, 1) := by decide +kernel
theorem dX7_init_108 : decode cX7_init 108 = .ok (.iconst 2, 1) := by decide +kernel
theorem dX7_init_109 : decode cX7_init 109 = .ok (.newarray .int, 2) := by decide +kernel
theorem dX7_init_111 : decode cX7_init 111 = .ok (.putfield 51, 3) := by decide +kernel
theorem dX7_init_114 : decode cX7_init 114 = .ok (.aload_n 0, 1) := by decide +kernel
theorem dX7_init_115 : decode cX7_init 115 = .ok (.iconst 2, 1) := by decide +kernel
theorem dX7_init_116 : decode cX7_init 116 = .ok (.newarray .int, 2) := by decide +kernel
theorem dX7_init_118 : decode cX7_init 118 = .ok (.putfield 54, 3) := by decide +kernel
theorem dX7_init_121 : decode cX7_init 121 = .ok (.aload_n 0, 1) := by decide +kernel
theorem dX7_init_122 : decode cX7_init 122 = .ok (.sipush 255, 3) := by decide +kernel
theorem dX7_init_125 : decode cX7_init 125 = .ok (.putfield 57, 3) := by decide +kernel
theorem dX7_init_128 : decode cX7_init 128 = .ok (.aload_n 0, 1) := by decide +kernel
theorem dX7_init_129 : decode cX7_init 129 = .ok (.iconst 4, 1) := by decide +kernel
theorem dX7_init_130 : decode cX7_init 130 = .ok (.putfield 60, 3) := by decide +kernel
theorem dX7_init_133 : decode cX7_init 133 = .ok (.aload_n 0, 1) := by decide +kernel
theorem dX7_init_134 : decode cX7_init 134 = .ok (.iconst 1, 1) := by decide +kernel
theorem dX7_init_135 : decode cX7_init 135 = .ok (.putfield 63, 3) := by decide +kernel
theorem dX7_init_138 : decode cX7_init 138 = .ok (.aload_n 0, 1) := by decide +kernel
theorem dX7_init_139 : decode cX7_init 139 = .ok (.iconst (-1), 1) := by decide +kernel
theorem dX7_init_140 : decode cX7_init 140 = .ok (.putfield 66, 3) := by decide +kernel
theorem dX7_init_143 : decode cX7_init 143 = .ok (.iconst 0, 1) := by decide +kernel
theorem dX7_init_144 : decode cX7_init 144 = .ok (.istore_n 1, 1) := by decide +kernel
theorem dX7_init_145 : decode cX7_init 145 = .ok (.iload_n 1, 1) := by decide +kernel
theorem dX7_init_146 : decode cX7_init 146 = .ok (.iconst 2, 1) := by decide +kernel
theorem dX7_init_147 : decode cX7_init 147 = .ok (.if_icmp .ge 25, 3) := by decide +kernel
theorem dX7_init_150 : decode cX7_init 150 = .ok (.aload_n 0, 1) := by decide +kernel
theorem dX7_init_151 : decode cX7_init 151 = .ok (.getfield 48, 3) := by decide +kernel
theorem dX7_init_154 : decode cX7_init 154 = .ok (.iload_n 1, 1) := by decide +kernel
theorem dX7_init_155 : decode cX7_init 155 = .ok (.ldc 69, 2) := by decide +kernel
theorem dX7_init_157 : decode cX7_init 157 = .ok (.iastore, 1) := by decide +kernel
theorem dX7_init_158 : decode cX7_init 158 = .ok (.aload_n 0, 1) := by decide +kernel
theorem dX7_init_159 : decode cX7_init 159 = .ok (.getfield 51, 3) := by decide +kernel
theorem dX7_init_162 : decode cX7_init 162 = .ok (.iload_n 1, 1) := by decide +kernel
theorem dX7_init_163 : decode cX7_init 163 = .ok (.ldc 69, 2) := by decide +kernel
theorem dX7_init_165 : decode cX7_init 165 = .ok (.iastore, 1) := by decide +kernel
theorem dX7_init_166 : decode cX7_init 166 = .ok (.iinc 1 1, 3) := by decide +kernel
theorem dX7_init_169 : decode cX7_init 169 = .ok (.goto (-24), 3) := by decide +kernel
theorem dX7_init_172 : decode cX7_init 172 = .ok (.return_, 1) := by decide +kernel
theorem dX7_below_0 : decode cX7_below 0 = .ok (.iload_n 0, 1) := by decide +kernel
theorem dX7_below_1 : decode cX7_below 1 = .ok (.ifCond .lt 12, 3) := by decide +kernel
theorem dX7_below_4 : decode cX7_below 4 = .ok (.iload_n 0, 1) := by decide +kernel
theorem dX7_below_5 : decode cX7_below 5 = .ok (.iload_n 1, 1) := by decide +kernel
theorem dX7_below_6 : decode cX7_below 6 = .ok (.if_icmp .ge 7, 3) := by decide +kernel
theorem dX7_below_9 : decode cX7_below 9 = .ok (.iconst 1, 1) := by decide +kernel
theorem dX7_below_10 : decode cX7_below 10 = .ok (.goto 4, 3) := by decide +kernel
theorem dX7_below_13 : decode cX7_below 13 = .ok (.iconst 0, 1) := by decide +kernel
theorem dX7_below_14 : decode cX7_below 14 = .ok (.ireturn, 1) := by decide +kernel
set_option maxRecDepth 20000 in
theorem ggX7_burn_X7_below : GoodIn wsX7_burn wsX7_below := goodIn_r _ [7] (by decide +kernel) (by decide +kernel)
set_option maxRecDepth 20000 in
theorem gX7_burn_X7_below : GoodIn wsX7_burn (va_wsS RX7 70 yX7_below wsX7_below) := goodIn_app (goodIn_of _ (by decide +kernel)) ggX7_burn_X7_below
theorem dX7_burn_0 : decode cX7_burn 0 = .ok (.iload_n 1, 1) := by decide +kernel
theorem dX7_burn_1 : decode cX7_burn 1 = .ok (.iconst 3, 1) := by decide +kernel
theorem dX7_burn_2 : decode cX7_burn 2 = .ok (.invokestatic 70, 3) := by decide +kernel
theorem dX7_burn_5 : decode cX7_burn 5 = .ok (.ifCond .eq 34, 3) := by decide +kernel
theorem dX7_burn_8 : decode cX7_burn 8 = .ok (.iload_n 2, 1) := by decide +kernel
theorem dX7_burn_9 : decode cX7_burn 9 = .ok (.iload_n 1, 1) := by decide +kernel
theorem dX7_burn_10 : decode cX7_burn 10 = .ok (.iconst 1, 1) := by decide +kernel
theorem dX7_burn_11 : decode cX7_burn 11 = .ok (.if_icmp .ne 9, 3) := by decide +kernel
theorem dX7_burn_14 : decode cX7_burn 14 = .ok (.sipush 512, 3) := by decide +kernel
theorem dX7_burn_17 : decode cX7_burn 17 = .ok (.goto 6, 3) := by decide +kernel
theorem dX7_burn_20 : decode cX7_burn 20 = .ok (.sipush 1024, 3) := by decide +kernel
theorem dX7_burn_23 : decode cX7_burn 23 = .ok (.invokestatic 70, 3) := by decide +kernel
theorem dX7_burn_26 : decode cX7_burn 26 = .ok (.ifCond .eq 13, 3) := by decide +kernel
theorem dX7_burn_29 : decode cX7_burn 29 = .ok (.iload_n 3, 1) := by decide +kernel
theorem dX7_burn_30 : decode cX7_burn 30 = .ok (.sipush 256, 3) := by decide +kernel
theorem dX7_burn_33 : decode cX7_burn 33 = .ok (.invokestatic 70, 3) := by decide +kernel
theorem dX7_burn_36 : decode cX7_burn 36 = .ok (.ifCond .ne 5, 3) := by decide +kernel
theorem dX7_burn_39 : decode cX7_burn 39 = .ok (.iconst 0, 1) := by decide +kernel
theorem dX7_burn_40 : decode cX7_burn 40 = .ok (.ireturn, 1) := by decide +kernel
theorem dX7_burn_41 : decode cX7_burn 41 = .ok (.iload_n 1, 1) := by decide +kernel
theorem dX7_burn_42 : decode cX7_burn 42 = .ok (.ifCond .ne 10, 3) := by decide +kernel
theorem dX7_burn_45 : decode cX7_burn 45 = .ok (.aload_n 0, 1) := by decide +kernel
theorem dX7_burn_46 : decode cX7_burn 46 = .ok (.getfield 13, 3) := by decide +kernel
theorem dX7_burn_49 : decode cX7_burn 49 = .ok (.iload_n 2, 1) := by decide +kernel
theorem dX7_burn_50 : decode cX7_burn 50 = .ok (.iload_n 3, 1) := by decide +kernel
theorem dX7_burn_51 : decode cX7_burn 51 = .ok (.iastore, 1) := by decide +kernel
theorem dX7_burn_52 : decode cX7_burn 52 = .ok (.iload_n 1, 1) := by decide +kernel
theorem dX7_burn_53 : decode cX7_burn 53 = .ok (.iconst 1, 1) := by decide +kernel
theorem dX7_burn_54 : decode cX7_burn 54 = .ok (.if_icmp .ne 10, 3) := by decide +kernel
theorem dX7_burn_57 : decode cX7_burn 57 = .ok (.aload_n 0, 1) := by decide +kernel
theorem dX7_burn_58 : decode cX7_burn 58 = .ok (.getfield 16, 3) := by decide +kernel
theorem dX7_burn_61 : decode cX7_burn 61 = .ok (.iload_n 2, 1) := by decide +kernel
theorem dX7_burn_62 : decode cX7_burn 62 = .ok (.iload_n 3, 1) := by decide +kernel
theorem dX7_burn_63 : decode cX7_burn 63 = .ok (.iastore, 1) := by decide +kernel
theorem dX7_burn_64 : decode cX7_burn 64 = .ok (.iload_n 1, 1) := by decide +kernel
theorem dX7_burn_65 : decode cX7_burn 65 = .ok (.iconst 2, 1) := by decide +kernel
theorem dX7_burn_66 : decode cX7_burn 66 = .ok (.if_icmp .ne 10, 3) := by decide +kernel
theorem dX7_burn_69 : decode cX7_burn 69 = .ok (.aload_n 0, 1) := by decide +kernel
theorem dX7_burn_70 : decode cX7_burn 70 = .ok (.getfield 19, 3) := by decide +kernel
theorem dX7_burn_73 : decode cX7_burn 73 = .ok (.iload_n 2, 1) := by decide +kernel
theorem dX7_burn_74 : decode cX7_burn 74 = .ok (.iload_n 3, 1) := by decide +kernel
theorem dX7_burn_75 : decode cX7_burn 75 = .ok (.iastore, 1) := by decide +kernel
theorem dX7_burn_76 : decode cX7_burn 76 = .ok (.iconst 1, 1) := by decide +kernel
theorem dX7_burn_77 : decode cX7_burn 77 = .ok (.ireturn, 1) := by decide +kernel
set_option maxRecDepth 20000 in
theorem ggX7_poke_X7_below : GoodIn wsX7_poke wsX7_below := goodIn_r _ [5] (by decide +kernel) (by decide +kernel)
set_option maxRecDepth 20000 in
theorem gX7_poke_X7_below : GoodIn wsX7_poke (va_wsS RX7 70 yX7_below wsX7_below) := goodIn_app (goodIn_of _ (by decide +kernel)) ggX7_poke_X7_below
theorem dX7_poke_0 : decode cX7_poke 0 = .ok (.iload_n 1, 1) := by decide +kernel
theorem dX7_poke_1 : decode cX7_poke 1 = .ok (.sipush 8192, 3) := by decide +kernel
theorem dX7_poke_4 : decode cX7_poke 4 = .ok (.invokestatic 70, 3) := by decide +kernel
theorem dX7_poke_7 : decode cX7_poke 7 = .ok (.ifCond .eq 13, 3) := by decide +kernel
theorem dX7_poke_10 : decode cX7_poke 10 = .ok (.iload_n 2, 1) := by decide +kernel
theorem dX7_poke_11 : decode cX7_poke 11 = .ok (.sipush 256, 3) := by decide +kernel
theorem dX7_poke_14 : decode cX7_poke 14 = .ok (.invokestatic 70, 3) := by decide +kernel
theorem dX7_poke_17 : decode cX7_poke 17 = .ok (.ifCond .ne 5, 3) := by decide +kernel
theorem dX7_poke_20 : decode cX7_poke 20 = .ok (.iconst 0, 1) := by decide +kernel
theorem dX7_poke_21 : decode cX7_poke 21 = .ok (.ireturn, 1) := by decide +kernel
theorem dX7_poke_22 : decode cX7_poke 22 = .ok (.aload_n 0, 1) := by decide +kernel
theorem dX7_poke_23 : decode cX7_poke 23 = .ok (.getfield 7, 3) := by decide +kernel
theorem dX7_poke_26 : decode cX7_poke 26 = .ok (.iload_n 1, 1) := by decide +kernel
theorem dX7_poke_27 : decode cX7_poke 27 = .ok (.iload_n 2, 1) := by decide +kernel
theorem dX7_poke_28 : decode cX7_poke 28 = .ok (.iastore, 1) := by decide +kernel
theorem dX7_poke_29 : decode cX7_poke 29 = .ok (.iconst 1, 1) := by decide +kernel
theorem dX7_poke_30 : decode cX7_poke 30 = .ok (.ireturn, 1) := by decide +kernel
set_option maxRecDepth 20000 in
theorem ggX7_press_X7_below : GoodIn wsX7_press wsX7_below := goodIn_r _ [5] (by decide +kernel) (by decide +kernel)
set_option maxRecDepth 20000 in
theorem gX7_press_X7_below : GoodIn wsX7_press (va_wsS RX7 70 yX7_below wsX7_below) := goodIn_app (goodIn_of _ (by decide +kernel)) ggX7_press_X7_below
theorem dX7_press_0 : decode cX7_press 0 = .ok (.iload_n 1, 1) := by decide +kernel
theorem dX7_press_1 : decode cX7_press 1 = .ok (.bipush 8, 2) := by decide +kernel
theorem dX7_press_3 : decode cX7_press 3 = .ok (.invokestatic 70, 3) := by decide +kernel
theorem dX7_press_6 : decode cX7_press 6 = .ok (.ifCond .eq 13, 3) := by decide +kernel
theorem dX7_press_9 : decode cX7_press 9 = .ok (.iload_n 2, 1) := by decide +kernel
theorem dX7_press_10 : decode cX7_press 10 = .ok (.sipush 256, 3) := by decide +kernel
theorem dX7_press_13 : decode cX7_press 13 = .ok (.invokestatic 70, 3) := by decide +kernel
theorem dX7_press_16 : decode cX7_press 16 = .ok (.ifCond .ne 5, 3) := by decide +kernel
theorem dX7_press_19 : decode cX7_press 19 = .ok (.iconst 0, 1) := by decide +kernel
theorem dX7_press_20 : decode cX7_press 20 = .ok (.ireturn, 1) := by decide +kernel
theorem dX7_press_21 : decode cX7_press 21 = .ok (.aload_n 0, 1) := by decide +kernel
theorem dX7_press_22 : decode cX7_press 22 = .ok (.getfield 45, 3) := by decide +kernel
theorem dX7_press_25 : decode cX7_press 25 = .ok (.iload_n 1, 1) := by decide +kernel
theorem dX7_press_26 : decode cX7_press 26 = .ok (.iload_n 2, 1) := by decide +kernel
theorem dX7_press_27 : decode cX7_press 27 = .ok (.iastore, 1) := by decide +kernel
theorem dX7_press_28 : decode cX7_press 28 = .ok (.iconst 1, 1) := by decide +kernel
theorem dX7_press_29 : decode cX7_press 29 = .ok (.ireturn, 1) := by decide +kernel
theorem dX7_registersAt_0 : decode cX7_registersAt 0 = .ok (.iload_n 1, 1) := by decide +kernel
theorem dX7_registersAt_1 : decode cX7_registersAt 1 = .ok (.sipush 6656, 3) := by decide +kernel
theorem dX7_registersAt_4 : decode cX7_registersAt 4 = .ok (.if_icmp .lt 32, 3) := by decide +kernel
theorem dX7_registersAt_7 : decode cX7_registersAt 7 = .ok (.iload_n 1, 1) := by decide +kernel
theorem dX7_registersAt_8 : decode cX7_registersAt 8 = .ok (.sipush 7168, 3) := by decide +kernel
theorem dX7_registersAt_11 : decode cX7_registersAt 11 = .ok (.if_icmp .ge 25, 3) := by decide +kernel
theorem dX7_registersAt_14 : decode cX7_registersAt 14 = .ok (.aload_n 0, 1) := by decide +kernel
theorem dX7_registersAt_15 : decode cX7_registersAt 15 = .ok (.getfield 22, 3) := by decide +kernel
theorem dX7_registersAt_18 : decode cX7_registersAt 18 = .ok (.iconst 3, 1) := by decide +kernel
theorem dX7_registersAt_19 : decode cX7_registersAt 19 = .ok (.iand, 1) := by decide +kernel
theorem dX7_registersAt_20 : decode cX7_registersAt 20 = .ok (.ifCond .eq 16, 3) := by decide +kernel
theorem dX7_registersAt_23 : decode cX7_registersAt 23 = .ok (.aload_n 0, 1) := by decide +kernel
theorem dX7_registersAt_24 : decode cX7_registersAt 24 = .ok (.getfield 22, 3) := by decide +kernel
theorem dX7_registersAt_27 : decode cX7_registersAt 27 = .ok (.iconst 4, 1) := by decide +kernel
theorem dX7_registersAt_28 : decode cX7_registersAt 28 = .ok (.iand, 1) := by decide +kernel
theorem dX7_registersAt_29 : decode cX7_registersAt 29 = .ok (.ifCond .eq 7, 3) := by decide +kernel
theorem dX7_registersAt_32 : decode cX7_registersAt 32 = .ok (.iconst 1, 1) := by decide +kernel
theorem dX7_registersAt_33 : decode cX7_registersAt 33 = .ok (.goto 4, 3) := by decide +kernel
theorem dX7_registersAt_36 : decode cX7_registersAt 36 = .ok (.iconst 0, 1) := by decide +kernel
theorem dX7_registersAt_37 : decode cX7_registersAt 37 = .ok (.ireturn, 1) := by decide +kernel
set_option maxRecDepth 20000 in
theorem ggX7_seen_X7_registersAt : GoodIn wsX7_seen wsX7_registersAt := goodIn_r _ [10, 1, 29, 30, 31, 32, 33, 34, 35, 36, 37, 38, 39, 40, 41, 42, 43, 44, 45, 46, 47, 48, 49, 50, 51, 52, 53, 54, 55, 56, 57, 58, 59, 60, 61, 62, 63, 64, 65, 66, 67, 68, 69] (by decide +kernel) (by decide +kernel)
set_option maxRecDepth 20000 in
theorem gX7_seen_X7_registersAt : GoodIn wsX7_seen (wsV RX7 74 RX7 yX7_registersAt wsX7_registersAt) := goodIn_app (goodIn_of _ (by decide +kernel)) ggX7_seen_X7_registersAt
set_option maxRecDepth 20000 in
theorem ggX7_seen_X7_chip : GoodIn wsX7_seen wsX7_chip := goodIn_r _ [14, 15, 16, 17, 18, 19, 20, 21, 22, 23, 24, 25, 26, 9, 27, 28, 29, 30, 31, 32, 33, 34, 35, 36, 37, 38, 39, 40, 41, 42, 43, 44, 45, 46, 47, 48, 49, 50, 51, 52, 53, 54, 55, 56, 57, 58, 59, 60, 61, 62, 63, 64, 65, 66, 67, 68, 69] (by decide +kernel) (by decide +kernel)
set_option maxRecDepth 20000 in
theorem gX7_seen_X7_chip : GoodIn wsX7_seen (wsV RX7 78 RX7 yX7_chip wsX7_chip) := goodIn_app (goodIn_of _ (by decide +kernel)) ggX7_seen_X7_chip
theorem dX7_seen_0 : decode cX7_seen 0 = .ok (.iload_n 1, 1) := by decide +kernel
theorem dX7_seen_1 : decode cX7_seen 1 = .ok (.iconst 1, 1) := by decide +kernel
theorem dX7_seen_2 : decode cX7_seen 2 = .ok (.if_icmp .ne 8, 3) := by decide +kernel
theorem dX7_seen_5 : decode cX7_seen 5 = .ok (.aload_n 0, 1) := by decide +kernel
theorem dX7_seen_6 : decode cX7_seen 6 = .ok (.getfield 22, 3) := by decide +kernel
theorem dX7_seen_9 : decode cX7_seen 9 = .ok (.ireturn, 1) := by decide +kernel
theorem dX7_seen_10 : decode cX7_seen 10 = .ok (.iload_n 1, 1) := by decide +kernel
theorem dX7_seen_11 : decode cX7_seen 11 = .ok (.sipush 5120, 3) := by decide +kernel
theorem dX7_seen_14 : decode cX7_seen 14 = .ok (.if_icmp .lt 31, 3) := by decide +kernel
theorem dX7_seen_17 : decode cX7_seen 17 = .ok (.iload_n 1, 1) := by decide +kernel
theorem dX7_seen_18 : decode cX7_seen 18 = .ok (.sipush 6144, 3) := by decide +kernel
theorem dX7_seen_21 : decode cX7_seen 21 = .ok (.if_icmp .ge 24, 3) := by decide +kernel
theorem dX7_seen_24 : decode cX7_seen 24 = .ok (.aload_n 0, 1) := by decide +kernel
theorem dX7_seen_25 : decode cX7_seen 25 = .ok (.getfield 22, 3) := by decide +kernel
theorem dX7_seen_28 : decode cX7_seen 28 = .ok (.iconst 3, 1) := by decide +kernel
theorem dX7_seen_29 : decode cX7_seen 29 = .ok (.iand, 1) := by decide +kernel
theorem dX7_seen_30 : decode cX7_seen 30 = .ok (.iconst 3, 1) := by decide +kernel
theorem dX7_seen_31 : decode cX7_seen 31 = .ok (.if_icmp .ne 14, 3) := by decide +kernel
theorem dX7_seen_34 : decode cX7_seen 34 = .ok (.aload_n 0, 1) := by decide +kernel
theorem dX7_seen_35 : decode cX7_seen 35 = .ok (.getfield 13, 3) := by decide +kernel
theorem dX7_seen_38 : decode cX7_seen 38 = .ok (.iload_n 1, 1) := by decide +kernel
theorem dX7_seen_39 : decode cX7_seen 39 = .ok (.sipush 5120, 3) := by decide +kernel
theorem dX7_seen_42 : decode cX7_seen 42 = .ok (.isub, 1) := by decide +kernel
theorem dX7_seen_43 : decode cX7_seen 43 = .ok (.iaload, 1) := by decide +kernel
theorem dX7_seen_44 : decode cX7_seen 44 = .ok (.ireturn, 1) := by decide +kernel
theorem dX7_seen_45 : decode cX7_seen 45 = .ok (.iload_n 1, 1) := by decide +kernel
theorem dX7_seen_46 : decode cX7_seen 46 = .ok (.sipush 7168, 3) := by decide +kernel
theorem dX7_seen_49 : decode cX7_seen 49 = .ok (.if_icmp .lt 23, 3) := by decide +kernel
theorem dX7_seen_52 : decode cX7_seen 52 = .ok (.aload_n 0, 1) := by decide +kernel
theorem dX7_seen_53 : decode cX7_seen 53 = .ok (.getfield 22, 3) := by decide +kernel
theorem dX7_seen_56 : decode cX7_seen 56 = .ok (.iconst 2, 1) := by decide +kernel
theorem dX7_seen_57 : decode cX7_seen 57 = .ok (.iand, 1) := by decide +kernel
theorem dX7_seen_58 : decode cX7_seen 58 = .ok (.ifCond .eq 14, 3) := by decide +kernel
theorem dX7_seen_61 : decode cX7_seen 61 = .ok (.aload_n 0, 1) := by decide +kernel
theorem dX7_seen_62 : decode cX7_seen 62 = .ok (.getfield 19, 3) := by decide +kernel
theorem dX7_seen_65 : decode cX7_seen 65 = .ok (.iload_n 1, 1) := by decide +kernel
theorem dX7_seen_66 : decode cX7_seen 66 = .ok (.sipush 7168, 3) := by decide +kernel
theorem dX7_seen_69 : decode cX7_seen 69 = .ok (.isub, 1) := by decide +kernel
theorem dX7_seen_70 : decode cX7_seen 70 = .ok (.iaload, 1) := by decide +kernel
theorem dX7_seen_71 : decode cX7_seen 71 = .ok (.ireturn, 1) := by decide +kernel
theorem dX7_seen_72 : decode cX7_seen 72 = .ok (.aload_n 0, 1) := by decide +kernel
theorem dX7_seen_73 : decode cX7_seen 73 = .ok (.iload_n 1, 1) := by decide +kernel
theorem dX7_seen_74 : decode cX7_seen 74 = .ok (.invokevirtual 74, 3) := by decide +kernel
theorem dX7_seen_77 : decode cX7_seen 77 = .ok (.ifCond .eq 14, 3) := by decide +kernel
theorem dX7_seen_80 : decode cX7_seen 80 = .ok (.aload_n 0, 1) := by decide +kernel
theorem dX7_seen_81 : decode cX7_seen 81 = .ok (.iload_n 1, 1) := by decide +kernel
theorem dX7_seen_82 : decode cX7_seen 82 = .ok (.sipush 6656, 3) := by decide +kernel
theorem dX7_seen_85 : decode cX7_seen 85 = .ok (.isub, 1) := by decide +kernel
theorem dX7_seen_86 : decode cX7_seen 86 = .ok (.iconst 0, 1) := by decide +kernel
theorem dX7_seen_87 : decode cX7_seen 87 = .ok (.invokevirtual 78, 3) := by decide +kernel
theorem dX7_seen_90 : decode cX7_seen 90 = .ok (.ireturn, 1) := by decide +kernel
theorem dX7_seen_91 : decode cX7_seen 91 = .ok (.iload_n 1, 1) := by decide +kernel
theorem dX7_seen_92 : decode cX7_seen 92 = .ok (.sipush 6656, 3) := by decide +kernel
theorem dX7_seen_95 : decode cX7_seen 95 = .ok (.if_icmp .lt 32, 3) := by decide +kernel
theorem dX7_seen_98 : decode cX7_seen 98 = .ok (.iload_n 1, 1) := by decide +kernel
theorem dX7_seen_99 : decode cX7_seen 99 = .ok (.sipush 7168, 3) := by decide +kernel
theorem dX7_seen_102 : decode cX7_seen 102 = .ok (.if_icmp .ge 25, 3) := by decide +kernel
theorem dX7_seen_105 : decode cX7_seen 105 = .ok (.aload_n 0, 1) := by decide +kernel
theorem dX7_seen_106 : decode cX7_seen 106 = .ok (.getfield 22, 3) := by decide +kernel
theorem dX7_seen_109 : decode cX7_seen 109 = .ok (.iconst 3, 1) := by decide +kernel
theorem dX7_seen_110 : decode cX7_seen 110 = .ok (.iand, 1) := by decide +kernel
theorem dX7_seen_111 : decode cX7_seen 111 = .ok (.ifCond .eq 16, 3) := by decide +kernel
theorem dX7_seen_114 : decode cX7_seen 114 = .ok (.aload_n 0, 1) := by decide +kernel
theorem dX7_seen_115 : decode cX7_seen 115 = .ok (.getfield 16, 3) := by decide +kernel
theorem dX7_seen_118 : decode cX7_seen 118 = .ok (.iload_n 1, 1) := by decide +kernel
theorem dX7_seen_119 : decode cX7_seen 119 = .ok (.sipush 6656, 3) := by decide +kernel
theorem dX7_seen_122 : decode cX7_seen 122 = .ok (.isub, 1) := by decide +kernel
theorem dX7_seen_123 : decode cX7_seen 123 = .ok (.iaload, 1) := by decide +kernel
theorem dX7_seen_124 : decode cX7_seen 124 = .ok (.goto 9, 3) := by decide +kernel
theorem dX7_seen_127 : decode cX7_seen 127 = .ok (.aload_n 0, 1) := by decide +kernel
theorem dX7_seen_128 : decode cX7_seen 128 = .ok (.getfield 7, 3) := by decide +kernel
theorem dX7_seen_131 : decode cX7_seen 131 = .ok (.iload_n 1, 1) := by decide +kernel
theorem dX7_seen_132 : decode cX7_seen 132 = .ok (.iaload, 1) := by decide +kernel
theorem dX7_seen_133 : decode cX7_seen 133 = .ok (.ireturn, 1) := by decide +kernel
theorem dX7_keyboard_0 : decode cX7_keyboard 0 = .ok (.sipush 255, 3) := by decide +kernel
theorem dX7_keyboard_3 : decode cX7_keyboard 3 = .ok (.istore_n 1, 1) := by decide +kernel
theorem dX7_keyboard_4 : decode cX7_keyboard 4 = .ok (.iconst 0, 1) := by decide +kernel
theorem dX7_keyboard_5 : decode cX7_keyboard 5 = .ok (.istore_n 2, 1) := by decide +kernel
theorem dX7_keyboard_6 : decode cX7_keyboard 6 = .ok (.iload_n 2, 1) := by decide +kernel
theorem dX7_keyboard_7 : decode cX7_keyboard 7 = .ok (.bipush 8, 2) := by decide +kernel
theorem dX7_keyboard_9 : decode cX7_keyboard 9 = .ok (.if_icmp .ge 35, 3) := by decide +kernel
theorem dX7_keyboard_12 : decode cX7_keyboard 12 = .ok (.aload_n 0, 1) := by decide +kernel
theorem dX7_keyboard_13 : decode cX7_keyboard 13 = .ok (.getfield 82, 3) := by decide +kernel
theorem dX7_keyboard_16 : decode cX7_keyboard 16 = .ok (.iload_n 2, 1) := by decide +kernel
theorem dX7_keyboard_17 : decode cX7_keyboard 17 = .ok (.ishr, 1) := by decide +kernel
theorem dX7_keyboard_18 : decode cX7_keyboard 18 = .ok (.iconst 1, 1) := by decide +kernel
theorem dX7_keyboard_19 : decode cX7_keyboard 19 = .ok (.iand, 1) := by decide +kernel
theorem dX7_keyboard_20 : decode cX7_keyboard 20 = .ok (.ifCond .ne 16, 3) := by decide +kernel
theorem dX7_keyboard_23 : decode cX7_keyboard 23 = .ok (.iload_n 1, 1) := by decide +kernel
theorem dX7_keyboard_24 : decode cX7_keyboard 24 = .ok (.aload_n 0, 1) := by decide +kernel
theorem dX7_keyboard_25 : decode cX7_keyboard 25 = .ok (.getfield 45, 3) := by decide +kernel
theorem dX7_keyboard_28 : decode cX7_keyboard 28 = .ok (.iload_n 2, 1) := by decide +kernel
theorem dX7_keyboard_29 : decode cX7_keyboard 29 = .ok (.iaload, 1) := by decide +kernel
theorem dX7_keyboard_30 : decode cX7_keyboard 30 = .ok (.iconst (-1), 1) := by decide +kernel
theorem dX7_keyboard_31 : decode cX7_keyboard 31 = .ok (.ixor, 1) := by decide +kernel
theorem dX7_keyboard_32 : decode cX7_keyboard 32 = .ok (.iand, 1) := by decide +kernel
theorem dX7_keyboard_33 : decode cX7_keyboard 33 = .ok (.goto 4, 3) := by decide +kernel
theorem dX7_keyboard_36 : decode cX7_keyboard 36 = .ok (.iload_n 1, 1) := by decide +kernel
theorem dX7_keyboard_37 : decode cX7_keyboard 37 = .ok (.istore_n 1, 1) := by decide +kernel
theorem dX7_keyboard_38 : decode cX7_keyboard 38 = .ok (.iinc 2 1, 3) := by decide +kernel
theorem dX7_keyboard_41 : decode cX7_keyboard 41 = .ok (.goto (-35), 3) := by decide +kernel
theorem dX7_keyboard_44 : decode cX7_keyboard 44 = .ok (.iload_n 1, 1) := by decide +kernel
theorem dX7_keyboard_45 : decode cX7_keyboard 45 = .ok (.ireturn, 1) := by decide +kernel
set_option maxRecDepth 20000 in
theorem ggX7_chip_X7_keyboard : GoodIn wsX7_chip wsX7_keyboard := goodIn_r _ [14, 5, 15, 16, 17, 18, 19, 20, 21, 22, 23, 24, 25, 26, 27, 28, 29, 30, 31, 32, 33, 34, 35, 36, 37, 38, 39, 40, 41, 42, 43, 44, 45, 46, 47, 48, 49, 50, 51, 52, 53, 54, 55, 56] (by decide +kernel) (by decide +kernel)
set_option maxRecDepth 20000 in
theorem gX7_chip_X7_keyboard : GoodIn wsX7_chip (wsV RX7 91 RX7 yX7_keyboard wsX7_keyboard) := goodIn_app (goodIn_of _ (by decide +kernel)) ggX7_chip_X7_keyboard
theorem dX7_chip_0 : decode cX7_chip 0 = .ok (.iload_n 1, 1) := by decide +kernel
theorem dX7_chip_1 : decode cX7_chip 1 = .ok (.bipush 64, 2) := by decide +kernel
theorem dX7_chip_3 : decode cX7_chip 3 = .ok (.if_icmp .ge 78, 3) := by decide +kernel
theorem dX7_chip_6 : decode cX7_chip 6 = .ok (.iload_n 1, 1) := by decide +kernel
theorem dX7_chip_7 : decode cX7_chip 7 = .ok (.bipush 16, 2) := by decide +kernel
theorem dX7_chip_9 : decode cX7_chip 9 = .ok (.irem, 1) := by decide +kernel
theorem dX7_chip_10 : decode cX7_chip 10 = .ok (.istore_n 3, 1) := by decide +kernel
theorem dX7_chip_11 : decode cX7_chip 11 = .ok (.iload_n 3, 1) := by decide +kernel
theorem dX7_chip_12 : decode cX7_chip 12 = .ok (.iconst 1, 1) := by decide +kernel
theorem dX7_chip_13 : decode cX7_chip 13 = .ok (.if_icmp .ne 8, 3) := by decide +kernel
theorem dX7_chip_16 : decode cX7_chip 16 = .ok (.aload_n 0, 1) := by decide +kernel
theorem dX7_chip_17 : decode cX7_chip 17 = .ok (.getfield 85, 3) := by decide +kernel
theorem dX7_chip_20 : decode cX7_chip 20 = .ok (.ireturn, 1) := by decide +kernel
theorem dX7_chip_21 : decode cX7_chip 21 = .ok (.iload_n 3, 1) := by decide +kernel
theorem dX7_chip_22 : decode cX7_chip 22 = .ok (.iconst 4, 1) := by decide +kernel
theorem dX7_chip_23 : decode cX7_chip 23 = .ok (.if_icmp .ne 41, 3) := by decide +kernel
theorem dX7_chip_26 : decode cX7_chip 26 = .ok (.aload_n 0, 1) := by decide +kernel
theorem dX7_chip_27 : decode cX7_chip 27 = .ok (.getfield 88, 3) := by decide +kernel
theorem dX7_chip_30 : decode cX7_chip 30 = .ok (.ifCond .eq 7, 3) := by decide +kernel
theorem dX7_chip_33 : decode cX7_chip 33 = .ok (.iconst 1, 1) := by decide +kernel
theorem dX7_chip_34 : decode cX7_chip 34 = .ok (.goto 4, 3) := by decide +kernel
theorem dX7_chip_37 : decode cX7_chip 37 = .ok (.iconst 0, 1) := by decide +kernel
theorem dX7_chip_38 : decode cX7_chip 38 = .ok (.aload_n 0, 1) := by decide +kernel
theorem dX7_chip_39 : decode cX7_chip 39 = .ok (.getfield 88, 3) := by decide +kernel
theorem dX7_chip_42 : decode cX7_chip 42 = .ok (.ifCond .eq 19, 3) := by decide +kernel
theorem dX7_chip_45 : decode cX7_chip 45 = .ok (.aload_n 0, 1) := by decide +kernel
theorem dX7_chip_46 : decode cX7_chip 46 = .ok (.getfield 26, 3) := by decide +kernel
theorem dX7_chip_49 : decode cX7_chip 49 = .ok (.iconst 5, 1) := by decide +kernel
theorem dX7_chip_50 : decode cX7_chip 50 = .ok (.iaload, 1) := by decide +kernel
theorem dX7_chip_51 : decode cX7_chip 51 = .ok (.iconst 1, 1) := by decide +kernel
theorem dX7_chip_52 : decode cX7_chip 52 = .ok (.if_icmp .ne 9, 3) := by decide +kernel
theorem dX7_chip_55 : decode cX7_chip 55 = .ok (.sipush 128, 3) := by decide +kernel
theorem dX7_chip_58 : decode cX7_chip 58 = .ok (.goto 4, 3) := by decide +kernel
theorem dX7_chip_61 : decode cX7_chip 61 = .ok (.iconst 0, 1) := by decide +kernel
theorem dX7_chip_62 : decode cX7_chip 62 = .ok (.iadd, 1) := by decide +kernel
theorem dX7_chip_63 : decode cX7_chip 63 = .ok (.ireturn, 1) := by decide +kernel
theorem dX7_chip_64 : decode cX7_chip 64 = .ok (.iload_n 3, 1) := by decide +kernel
theorem dX7_chip_65 : decode cX7_chip 65 = .ok (.bipush 7, 2) := by decide +kernel
theorem dX7_chip_67 : decode cX7_chip 67 = .ok (.if_icmp .ge 12, 3) := by decide +kernel
theorem dX7_chip_70 : decode cX7_chip 70 = .ok (.aload_n 0, 1) := by decide +kernel
theorem dX7_chip_71 : decode cX7_chip 71 = .ok (.getfield 26, 3) := by decide +kernel
theorem dX7_chip_74 : decode cX7_chip 74 = .ok (.iload_n 3, 1) := by decide +kernel
theorem dX7_chip_75 : decode cX7_chip 75 = .ok (.iaload, 1) := by decide +kernel
theorem dX7_chip_76 : decode cX7_chip 76 = .ok (.goto 4, 3) := by decide +kernel
theorem dX7_chip_79 : decode cX7_chip 79 = .ok (.iconst 0, 1) := by decide +kernel
theorem dX7_chip_80 : decode cX7_chip 80 = .ok (.ireturn, 1) := by decide +kernel
theorem dX7_chip_81 : decode cX7_chip 81 = .ok (.iload_n 1, 1) := by decide +kernel
theorem dX7_chip_82 : decode cX7_chip 82 = .ok (.sipush 128, 3) := by decide +kernel
theorem dX7_chip_85 : decode cX7_chip 85 = .ok (.if_icmp .lt 25, 3) := by decide +kernel
theorem dX7_chip_88 : decode cX7_chip 88 = .ok (.iload_n 1, 1) := by decide +kernel
theorem dX7_chip_89 : decode cX7_chip 89 = .ok (.sipush 152, 3) := by decide +kernel
theorem dX7_chip_92 : decode cX7_chip 92 = .ok (.if_icmp .ge 16, 3) := by decide +kernel
theorem dX7_chip_95 : decode cX7_chip 95 = .ok (.aload_n 0, 1) := by decide +kernel
theorem dX7_chip_96 : decode cX7_chip 96 = .ok (.getfield 39, 3) := by decide +kernel
theorem dX7_chip_99 : decode cX7_chip 99 = .ok (.iload_n 1, 1) := by decide +kernel
theorem dX7_chip_100 : decode cX7_chip 100 = .ok (.sipush 128, 3) := by decide +kernel
theorem dX7_chip_103 : decode cX7_chip 103 = .ok (.isub, 1) := by decide +kernel
theorem dX7_chip_104 : decode cX7_chip 104 = .ok (.iaload, 1) := by decide +kernel
theorem dX7_chip_105 : decode cX7_chip 105 = .ok (.goto 4, 3) := by decide +kernel
theorem dX7_chip_108 : decode cX7_chip 108 = .ok (.iconst 0, 1) := by decide +kernel
theorem dX7_chip_109 : decode cX7_chip 109 = .ok (.ireturn, 1) := by decide +kernel
theorem dX7_chip_110 : decode cX7_chip 110 = .ok (.iload_n 1, 1) := by decide +kernel
theorem dX7_chip_111 : decode cX7_chip 111 = .ok (.bipush 16, 2) := by decide +kernel
theorem dX7_chip_113 : decode cX7_chip 113 = .ok (.irem, 1) := by decide +kernel
theorem dX7_chip_114 : decode cX7_chip 114 = .ok (.istore_n 3, 1) := by decide +kernel
theorem dX7_chip_115 : decode cX7_chip 115 = .ok (.iload_n 3, 1) := by decide +kernel
theorem dX7_chip_116 : decode cX7_chip 116 = .ok (.ifCond .ne 8, 3) := by decide +kernel
theorem dX7_chip_119 : decode cX7_chip 119 = .ok (.aload_n 0, 1) := by decide +kernel
theorem dX7_chip_120 : decode cX7_chip 120 = .ok (.getfield 82, 3) := by decide +kernel
theorem dX7_chip_123 : decode cX7_chip 123 = .ok (.ireturn, 1) := by decide +kernel
theorem dX7_chip_124 : decode cX7_chip 124 = .ok (.iload_n 3, 1) := by decide +kernel
theorem dX7_chip_125 : decode cX7_chip 125 = .ok (.iconst 1, 1) := by decide +kernel
theorem dX7_chip_126 : decode cX7_chip 126 = .ok (.if_icmp .ne 8, 3) := by decide +kernel
theorem dX7_chip_129 : decode cX7_chip 129 = .ok (.aload_n 0, 1) := by decide +kernel
theorem dX7_chip_130 : decode cX7_chip 130 = .ok (.invokevirtual 91, 3) := by decide +kernel
theorem dX7_chip_133 : decode cX7_chip 133 = .ok (.ireturn, 1) := by decide +kernel
theorem dX7_chip_134 : decode cX7_chip 134 = .ok (.iload_n 3, 1) := by decide +kernel
theorem dX7_chip_135 : decode cX7_chip 135 = .ok (.iconst 4, 1) := by decide +kernel
theorem dX7_chip_136 : decode cX7_chip 136 = .ok (.if_icmp .lt 31, 3) := by decide +kernel
theorem dX7_chip_139 : decode cX7_chip 139 = .ok (.iload_n 3, 1) := by decide +kernel
theorem dX7_chip_140 : decode cX7_chip 140 = .ok (.bipush 8, 2) := by decide +kernel
theorem dX7_chip_142 : decode cX7_chip 142 = .ok (.if_icmp .ge 25, 3) := by decide +kernel
theorem dX7_chip_145 : decode cX7_chip 145 = .ok (.aload_n 0, 1) := by decide +kernel
theorem dX7_chip_146 : decode cX7_chip 146 = .ok (.getfield 51, 3) := by decide +kernel
theorem dX7_chip_149 : decode cX7_chip 149 = .ok (.iload_n 3, 1) := by decide +kernel
theorem dX7_chip_150 : decode cX7_chip 150 = .ok (.iconst 4, 1) := by decide +kernel
theorem dX7_chip_151 : decode cX7_chip 151 = .ok (.isub, 1) := by decide +kernel
theorem dX7_chip_152 : decode cX7_chip 152 = .ok (.iconst 2, 1) := by decide +kernel
theorem dX7_chip_153 : decode cX7_chip 153 = .ok (.idiv, 1) := by decide +kernel
theorem dX7_chip_154 : decode cX7_chip 154 = .ok (.iaload, 1) := by decide +kernel
theorem dX7_chip_155 : decode cX7_chip 155 = .ok (.bipush 8, 2) := by decide +kernel
theorem dX7_chip_157 : decode cX7_chip 157 = .ok (.iload_n 3, 1) := by decide +kernel
theorem dX7_chip_158 : decode cX7_chip 158 = .ok (.iconst 2, 1) := by decide +kernel
theorem dX7_chip_159 : decode cX7_chip 159 = .ok (.irem, 1) := by decide +kernel
theorem dX7_chip_160 : decode cX7_chip 160 = .ok (.imul, 1) := by decide +kernel
theorem dX7_chip_161 : decode cX7_chip 161 = .ok (.ishr, 1) := by decide +kernel
theorem dX7_chip_162 : decode cX7_chip 162 = .ok (.sipush 255, 3) := by decide +kernel
theorem dX7_chip_165 : decode cX7_chip 165 = .ok (.iand, 1) := by decide +kernel
theorem dX7_chip_166 : decode cX7_chip 166 = .ok (.ireturn, 1) := by decide +kernel
theorem dX7_chip_167 : decode cX7_chip 167 = .ok (.iload_n 3, 1) := by decide +kernel
theorem dX7_chip_168 : decode cX7_chip 168 = .ok (.bipush 14, 2) := by decide +kernel
theorem dX7_chip_170 : decode cX7_chip 170 = .ok (.if_icmp .lt 13, 3) := by decide +kernel
theorem dX7_chip_173 : decode cX7_chip 173 = .ok (.aload_n 0, 1) := by decide +kernel
theorem dX7_chip_174 : decode cX7_chip 174 = .ok (.getfield 54, 3) := by decide +kernel
theorem dX7_chip_177 : decode cX7_chip 177 = .ok (.iload_n 3, 1) := by decide +kernel
theorem dX7_chip_178 : decode cX7_chip 178 = .ok (.bipush 14, 2) := by decide +kernel
theorem dX7_chip_180 : decode cX7_chip 180 = .ok (.isub, 1) := by decide +kernel
theorem dX7_chip_181 : decode cX7_chip 181 = .ok (.iaload, 1) := by decide +kernel
theorem dX7_chip_182 : decode cX7_chip 182 = .ok (.ireturn, 1) := by decide +kernel
theorem dX7_chip_183 : decode cX7_chip 183 = .ok (.iload_n 3, 1) := by decide +kernel
theorem dX7_chip_184 : decode cX7_chip 184 = .ok (.bipush 13, 2) := by decide +kernel
theorem dX7_chip_186 : decode cX7_chip 186 = .ok (.if_icmp .eq 5, 3) := by decide +kernel
theorem dX7_chip_189 : decode cX7_chip 189 = .ok (.iconst 0, 1) := by decide +kernel
theorem dX7_chip_190 : decode cX7_chip 190 = .ok (.ireturn, 1) := by decide +kernel
theorem dX7_chip_191 : decode cX7_chip 191 = .ok (.aload_n 0, 1) := by decide +kernel
theorem dX7_chip_192 : decode cX7_chip 192 = .ok (.getfield 95, 3) := by decide +kernel
theorem dX7_chip_195 : decode cX7_chip 195 = .ok (.aload_n 0, 1) := by decide +kernel
theorem dX7_chip_196 : decode cX7_chip 196 = .ok (.getfield 95, 3) := by decide +kernel
theorem dX7_chip_199 : decode cX7_chip 199 = .ok (.aload_n 0, 1) := by decide +kernel
theorem dX7_chip_200 : decode cX7_chip 200 = .ok (.getfield 98, 3) := by decide +kernel
theorem dX7_chip_203 : decode cX7_chip 203 = .ok (.iand, 1) := by decide +kernel
theorem dX7_chip_204 : decode cX7_chip 204 = .ok (.ifCond .eq 9, 3) := by decide +kernel
theorem dX7_chip_207 : decode cX7_chip 207 = .ok (.sipush 128, 3) := by decide +kernel
theorem dX7_chip_210 : decode cX7_chip 210 = .ok (.goto 4, 3) := by decide +kernel
theorem dX7_chip_213 : decode cX7_chip 213 = .ok (.iconst 0, 1) := by decide +kernel
theorem dX7_chip_214 : decode cX7_chip 214 = .ok (.iadd, 1) := by decide +kernel
theorem dX7_chip_215 : decode cX7_chip 215 = .ok (.istore 4, 2) := by decide +kernel
theorem dX7_chip_217 : decode cX7_chip 217 = .ok (.aload_n 0, 1) := by decide +kernel
theorem dX7_chip_218 : decode cX7_chip 218 = .ok (.iload_n 2, 1) := by decide +kernel
theorem dX7_chip_219 : decode cX7_chip 219 = .ok (.ifCond .eq 7, 3) := by decide +kernel
theorem dX7_chip_222 : decode cX7_chip 222 = .ok (.iconst 0, 1) := by decide +kernel
theorem dX7_chip_223 : decode cX7_chip 223 = .ok (.goto 7, 3) := by decide +kernel
theorem dX7_chip_226 : decode cX7_chip 226 = .ok (.aload_n 0, 1) := by decide +kernel
theorem dX7_chip_227 : decode cX7_chip 227 = .ok (.getfield 95, 3) := by decide +kernel
theorem dX7_chip_230 : decode cX7_chip 230 = .ok (.putfield 95, 3) := by decide +kernel
theorem dX7_chip_233 : decode cX7_chip 233 = .ok (.iload 4, 2) := by decide +kernel
theorem dX7_chip_235 : decode cX7_chip 235 = .ok (.ireturn, 1) := by decide +kernel
theorem dX7_set_0 : decode cX7_set 0 = .ok (.iload_n 1, 1) := by decide +kernel
theorem dX7_set_1 : decode cX7_set 1 = .ok (.bipush 16, 2) := by decide +kernel
theorem dX7_set_3 : decode cX7_set 3 = .ok (.irem, 1) := by decide +kernel
theorem dX7_set_4 : decode cX7_set 4 = .ok (.istore_n 3, 1) := by decide +kernel
theorem dX7_set_5 : decode cX7_set 5 = .ok (.iload_n 1, 1) := by decide +kernel
theorem dX7_set_6 : decode cX7_set 6 = .ok (.bipush 64, 2) := by decide +kernel
theorem dX7_set_8 : decode cX7_set 8 = .ok (.if_icmp .ge 89, 3) := by decide +kernel
theorem dX7_set_11 : decode cX7_set 11 = .ok (.iload_n 3, 1) := by decide +kernel
theorem dX7_set_12 : decode cX7_set 12 = .ok (.ifCond .ne 13, 3) := by decide +kernel
theorem dX7_set_15 : decode cX7_set 15 = .ok (.aload_n 0, 1) := by decide +kernel
theorem dX7_set_16 : decode cX7_set 16 = .ok (.getfield 26, 3) := by decide +kernel
theorem dX7_set_19 : decode cX7_set 19 = .ok (.iconst 0, 1) := by decide +kernel
theorem dX7_set_20 : decode cX7_set 20 = .ok (.iload_n 2, 1) := by decide +kernel
theorem dX7_set_21 : decode cX7_set 21 = .ok (.bipush 23, 2) := by decide +kernel
theorem dX7_set_23 : decode cX7_set 23 = .ok (.iand, 1) := by decide +kernel
theorem dX7_set_24 : decode cX7_set 24 = .ok (.iastore, 1) := by decide +kernel
theorem dX7_set_25 : decode cX7_set 25 = .ok (.iload_n 3, 1) := by decide +kernel
theorem dX7_set_26 : decode cX7_set 26 = .ok (.iconst 1, 1) := by decide +kernel
theorem dX7_set_27 : decode cX7_set 27 = .ok (.if_icmp .ne 10, 3) := by decide +kernel
theorem dX7_set_30 : decode cX7_set 30 = .ok (.aload_n 0, 1) := by decide +kernel
theorem dX7_set_31 : decode cX7_set 31 = .ok (.getfield 26, 3) := by decide +kernel
theorem dX7_set_34 : decode cX7_set 34 = .ok (.iconst 1, 1) := by decide +kernel
theorem dX7_set_35 : decode cX7_set 35 = .ok (.iload_n 2, 1) := by decide +kernel
theorem dX7_set_36 : decode cX7_set 36 = .ok (.iastore, 1) := by decide +kernel
theorem dX7_set_37 : decode cX7_set 37 = .ok (.iload_n 3, 1) := by decide +kernel
theorem dX7_set_38 : decode cX7_set 38 = .ok (.iconst 2, 1) := by decide +kernel
theorem dX7_set_39 : decode cX7_set 39 = .ok (.if_icmp .eq 14, 3) := by decide +kernel
theorem dX7_set_42 : decode cX7_set 42 = .ok (.iload_n 3, 1) := by decide +kernel
theorem dX7_set_43 : decode cX7_set 43 = .ok (.iconst 3, 1) := by decide +kernel
theorem dX7_set_44 : decode cX7_set 44 = .ok (.if_icmp .eq 9, 3) := by decide +kernel
theorem dX7_set_47 : decode cX7_set 47 = .ok (.iload_n 3, 1) := by decide +kernel
theorem dX7_set_48 : decode cX7_set 48 = .ok (.bipush 6, 2) := by decide +kernel
theorem dX7_set_50 : decode cX7_set 50 = .ok (.if_icmp .ne 13, 3) := by decide +kernel
theorem dX7_set_53 : decode cX7_set 53 = .ok (.aload_n 0, 1) := by decide +kernel
theorem dX7_set_54 : decode cX7_set 54 = .ok (.getfield 26, 3) := by decide +kernel
theorem dX7_set_57 : decode cX7_set 57 = .ok (.iload_n 3, 1) := by decide +kernel
theorem dX7_set_58 : decode cX7_set 58 = .ok (.iload_n 2, 1) := by decide +kernel
theorem dX7_set_59 : decode cX7_set 59 = .ok (.bipush 15, 2) := by decide +kernel
theorem dX7_set_61 : decode cX7_set 61 = .ok (.iand, 1) := by decide +kernel
theorem dX7_set_62 : decode cX7_set 62 = .ok (.iastore, 1) := by decide +kernel
theorem dX7_set_63 : decode cX7_set 63 = .ok (.iload_n 3, 1) := by decide +kernel
theorem dX7_set_64 : decode cX7_set 64 = .ok (.iconst 4, 1) := by decide +kernel
theorem dX7_set_65 : decode cX7_set 65 = .ok (.if_icmp .ne 15, 3) := by decide +kernel
theorem dX7_set_68 : decode cX7_set 68 = .ok (.iload_n 2, 1) := by decide +kernel
theorem dX7_set_69 : decode cX7_set 69 = .ok (.iconst 1, 1) := by decide +kernel
theorem dX7_set_70 : decode cX7_set 70 = .ok (.iand, 1) := by decide +kernel
theorem dX7_set_71 : decode cX7_set 71 = .ok (.iconst 1, 1) := by decide +kernel
theorem dX7_set_72 : decode cX7_set 72 = .ok (.if_icmp .ne 8, 3) := by decide +kernel
theorem dX7_set_75 : decode cX7_set 75 = .ok (.aload_n 0, 1) := by decide +kernel
theorem dX7_set_76 : decode cX7_set 76 = .ok (.iconst 0, 1) := by decide +kernel
theorem dX7_set_77 : decode cX7_set 77 = .ok (.putfield 88, 3) := by decide +kernel
theorem dX7_set_80 : decode cX7_set 80 = .ok (.iload_n 3, 1) := by decide +kernel
theorem dX7_set_81 : decode cX7_set 81 = .ok (.iconst 5, 1) := by decide +kernel
theorem dX7_set_82 : decode cX7_set 82 = .ok (.if_icmp .ne 271, 3) := by decide +kernel
theorem dX7_set_85 : decode cX7_set 85 = .ok (.aload_n 0, 1) := by decide +kernel
theorem dX7_set_86 : decode cX7_set 86 = .ok (.getfield 26, 3) := by decide +kernel
theorem dX7_set_89 : decode cX7_set 89 = .ok (.iconst 5, 1) := by decide +kernel
theorem dX7_set_90 : decode cX7_set 90 = .ok (.iload_n 2, 1) := by decide +kernel
theorem dX7_set_91 : decode cX7_set 91 = .ok (.iconst 1, 1) := by decide +kernel
theorem dX7_set_92 : decode cX7_set 92 = .ok (.iand, 1) := by decide +kernel
theorem dX7_set_93 : decode cX7_set 93 = .ok (.iastore, 1) := by decide +kernel
theorem dX7_set_94 : decode cX7_set 94 = .ok (.goto 259, 3) := by decide +kernel
theorem dX7_set_97 : decode cX7_set 97 = .ok (.iload_n 1, 1) := by decide +kernel
theorem dX7_set_98 : decode cX7_set 98 = .ok (.sipush 128, 3) := by decide +kernel
theorem dX7_set_101 : decode cX7_set 101 = .ok (.if_icmp .ge 231, 3) := by decide +kernel
theorem dX7_set_104 : decode cX7_set 104 = .ok (.iload_n 3, 1) := by decide +kernel
theorem dX7_set_105 : decode cX7_set 105 = .ok (.bipush 14, 2) := by decide +kernel
theorem dX7_set_107 : decode cX7_set 107 = .ok (.if_icmp .lt 10, 3) := by decide +kernel
theorem dX7_set_110 : decode cX7_set 110 = .ok (.iload_n 3, 1) := by decide +kernel
theorem dX7_set_111 : decode cX7_set 111 = .ok (.bipush 14, 2) := by decide +kernel
theorem dX7_set_113 : decode cX7_set 113 = .ok (.isub, 1) := by decide +kernel
theorem dX7_set_114 : decode cX7_set 114 = .ok (.goto 8, 3) := by decide +kernel
theorem dX7_set_117 : decode cX7_set 117 = .ok (.iload_n 3, 1) := by decide +kernel
theorem dX7_set_118 : decode cX7_set 118 = .ok (.iconst 4, 1) := by decide +kernel
theorem dX7_set_119 : decode cX7_set 119 = .ok (.isub, 1) := by decide +kernel
theorem dX7_set_120 : decode cX7_set 120 = .ok (.iconst 2, 1) := by decide +kernel
theorem dX7_set_121 : decode cX7_set 121 = .ok (.idiv, 1) := by decide +kernel
theorem dX7_set_122 : decode cX7_set 122 = .ok (.istore 4, 2) := by decide +kernel
theorem dX7_set_124 : decode cX7_set 124 = .ok (.iload_n 3, 1) := by decide +kernel
theorem dX7_set_125 : decode cX7_set 125 = .ok (.ifCond .ne 8, 3) := by decide +kernel
theorem dX7_set_128 : decode cX7_set 128 = .ok (.aload_n 0, 1) := by decide +kernel
theorem dX7_set_129 : decode cX7_set 129 = .ok (.iload_n 2, 1) := by decide +kernel
theorem dX7_set_130 : decode cX7_set 130 = .ok (.putfield 82, 3) := by decide +kernel
theorem dX7_set_133 : decode cX7_set 133 = .ok (.iload_n 3, 1) := by decide +kernel
theorem dX7_set_134 : decode cX7_set 134 = .ok (.iconst 4, 1) := by decide +kernel
theorem dX7_set_135 : decode cX7_set 135 = .ok (.if_icmp .eq 9, 3) := by decide +kernel
theorem dX7_set_138 : decode cX7_set 138 = .ok (.iload_n 3, 1) := by decide +kernel
theorem dX7_set_139 : decode cX7_set 139 = .ok (.bipush 6, 2) := by decide +kernel
theorem dX7_set_141 : decode cX7_set 141 = .ok (.if_icmp .ne 22, 3) := by decide +kernel
theorem dX7_set_144 : decode cX7_set 144 = .ok (.aload_n 0, 1) := by decide +kernel
theorem dX7_set_145 : decode cX7_set 145 = .ok (.getfield 48, 3) := by decide +kernel
theorem dX7_set_148 : decode cX7_set 148 = .ok (.iload 4, 2) := by decide +kernel
theorem dX7_set_150 : decode cX7_set 150 = .ok (.aload_n 0, 1) := by decide +kernel
theorem dX7_set_151 : decode cX7_set 151 = .ok (.getfield 48, 3) := by decide +kernel
theorem dX7_set_154 : decode cX7_set 154 = .ok (.iload 4, 2) := by decide +kernel
theorem dX7_set_156 : decode cX7_set 156 = .ok (.iaload, 1) := by decide +kernel
theorem dX7_set_157 : decode cX7_set 157 = .ok (.ldc 101, 2) := by decide +kernel
theorem dX7_set_159 : decode cX7_set 159 = .ok (.iand, 1) := by decide +kernel
theorem dX7_set_160 : decode cX7_set 160 = .ok (.iload_n 2, 1) := by decide +kernel
theorem dX7_set_161 : decode cX7_set 161 = .ok (.iadd, 1) := by decide +kernel
theorem dX7_set_162 : decode cX7_set 162 = .ok (.iastore, 1) := by decide +kernel
theorem dX7_set_163 : decode cX7_set 163 = .ok (.iload_n 3, 1) := by decide +kernel
theorem dX7_set_164 : decode cX7_set 164 = .ok (.iconst 5, 1) := by decide +kernel
theorem dX7_set_165 : decode cX7_set 165 = .ok (.if_icmp .eq 9, 3) := by decide +kernel
theorem dX7_set_168 : decode cX7_set 168 = .ok (.iload_n 3, 1) := by decide +kernel
theorem dX7_set_169 : decode cX7_set 169 = .ok (.bipush 7, 2) := by decide +kernel
theorem dX7_set_171 : decode cX7_set 171 = .ok (.if_icmp .ne 63, 3) := by decide +kernel
theorem dX7_set_174 : decode cX7_set 174 = .ok (.aload_n 0, 1) := by decide +kernel
theorem dX7_set_175 : decode cX7_set 175 = .ok (.getfield 48, 3) := by decide +kernel
theorem dX7_set_178 : decode cX7_set 178 = .ok (.iload 4, 2) := by decide +kernel
theorem dX7_set_180 : decode cX7_set 180 = .ok (.aload_n 0, 1) := by decide +kernel
theorem dX7_set_181 : decode cX7_set 181 = .ok (.getfield 48, 3) := by decide +kernel
theorem dX7_set_184 : decode cX7_set 184 = .ok (.iload 4, 2) := by decide +kernel
theorem dX7_set_186 : decode cX7_set 186 = .ok (.iaload, 1) := by decide +kernel
theorem dX7_set_187 : decode cX7_set 187 = .ok (.sipush 255, 3) := by decide +kernel
theorem dX7_set_190 : decode cX7_set 190 = .ok (.iand, 1) := by decide +kernel
theorem dX7_set_191 : decode cX7_set 191 = .ok (.sipush 256, 3) := by decide +kernel
theorem dX7_set_194 : decode cX7_set 194 = .ok (.iload_n 2, 1) := by decide +kernel
theorem dX7_set_195 : decode cX7_set 195 = .ok (.imul, 1) := by decide +kernel
theorem dX7_set_196 : decode cX7_set 196 = .ok (.iadd, 1) := by decide +kernel
theorem dX7_set_197 : decode cX7_set 197 = .ok (.iastore, 1) := by decide +kernel
theorem dX7_set_198 : decode cX7_set 198 = .ok (.aload_n 0, 1) := by decide +kernel
theorem dX7_set_199 : decode cX7_set 199 = .ok (.getfield 51, 3) := by decide +kernel
theorem dX7_set_202 : decode cX7_set 202 = .ok (.iload 4, 2) := by decide +kernel
theorem dX7_set_204 : decode cX7_set 204 = .ok (.aload_n 0, 1) := by decide +kernel
theorem dX7_set_205 : decode cX7_set 205 = .ok (.getfield 54, 3) := by decide +kernel
theorem dX7_set_208 : decode cX7_set 208 = .ok (.iload 4, 2) := by decide +kernel
theorem dX7_set_210 : decode cX7_set 210 = .ok (.iaload, 1) := by decide +kernel
theorem dX7_set_211 : decode cX7_set 211 = .ok (.iconst 1, 1) := by decide +kernel
theorem dX7_set_212 : decode cX7_set 212 = .ok (.iand, 1) := by decide +kernel
theorem dX7_set_213 : decode cX7_set 213 = .ok (.ifCond .ne 13, 3) := by decide +kernel
theorem dX7_set_216 : decode cX7_set 216 = .ok (.aload_n 0, 1) := by decide +kernel
theorem dX7_set_217 : decode cX7_set 217 = .ok (.getfield 48, 3) := by decide +kernel
theorem dX7_set_220 : decode cX7_set 220 = .ok (.iload 4, 2) := by decide +kernel
theorem dX7_set_222 : decode cX7_set 222 = .ok (.iaload, 1) := by decide +kernel
theorem dX7_set_223 : decode cX7_set 223 = .ok (.goto 10, 3) := by decide +kernel
theorem dX7_set_226 : decode cX7_set 226 = .ok (.aload_n 0, 1) := by decide +kernel
theorem dX7_set_227 : decode cX7_set 227 = .ok (.getfield 51, 3) := by decide +kernel
theorem dX7_set_230 : decode cX7_set 230 = .ok (.iload 4, 2) := by decide +kernel
theorem dX7_set_232 : decode cX7_set 232 = .ok (.iaload, 1) := by decide +kernel
theorem dX7_set_233 : decode cX7_set 233 = .ok (.iastore, 1) := by decide +kernel
theorem dX7_set_234 : decode cX7_set 234 = .ok (.iload_n 3, 1) := by decide +kernel
theorem dX7_set_235 : decode cX7_set 235 = .ok (.bipush 13, 2) := by decide +kernel
theorem dX7_set_237 : decode cX7_set 237 = .ok (.if_icmp .ne 34, 3) := by decide +kernel
theorem dX7_set_240 : decode cX7_set 240 = .ok (.aload_n 0, 1) := by decide +kernel
theorem dX7_set_241 : decode cX7_set 241 = .ok (.iload_n 2, 1) := by decide +kernel
theorem dX7_set_242 : decode cX7_set 242 = .ok (.bipush 127, 2) := by decide +kernel
theorem dX7_set_244 : decode cX7_set 244 = .ok (.if_icmp .le 14, 3) := by decide +kernel
theorem dX7_set_247 : decode cX7_set 247 = .ok (.aload_n 0, 1) := by decide +kernel
theorem dX7_set_248 : decode cX7_set 248 = .ok (.getfield 98, 3) := by decide +kernel
theorem dX7_set_251 : decode cX7_set 251 = .ok (.iload_n 2, 1) := by decide +kernel
theorem dX7_set_252 : decode cX7_set 252 = .ok (.iconst 3, 1) := by decide +kernel
theorem dX7_set_253 : decode cX7_set 253 = .ok (.iand, 1) := by decide +kernel
theorem dX7_set_254 : decode cX7_set 254 = .ok (.ior, 1) := by decide +kernel
theorem dX7_set_255 : decode cX7_set 255 = .ok (.goto 13, 3) := by decide +kernel
theorem dX7_set_258 : decode cX7_set 258 = .ok (.aload_n 0, 1) := by decide +kernel
theorem dX7_set_259 : decode cX7_set 259 = .ok (.getfield 98, 3) := by decide +kernel
theorem dX7_set_262 : decode cX7_set 262 = .ok (.iload_n 2, 1) := by decide +kernel
theorem dX7_set_263 : decode cX7_set 263 = .ok (.iconst 3, 1) := by decide +kernel
theorem dX7_set_264 : decode cX7_set 264 = .ok (.iand, 1) := by decide +kernel
theorem dX7_set_265 : decode cX7_set 265 = .ok (.iconst (-1), 1) := by decide +kernel
theorem dX7_set_266 : decode cX7_set 266 = .ok (.ixor, 1) := by decide +kernel
theorem dX7_set_267 : decode cX7_set 267 = .ok (.iand, 1) := by decide +kernel
theorem dX7_set_268 : decode cX7_set 268 = .ok (.putfield 98, 3) := by decide +kernel
theorem dX7_set_271 : decode cX7_set 271 = .ok (.iload_n 3, 1) := by decide +kernel
theorem dX7_set_272 : decode cX7_set 272 = .ok (.bipush 14, 2) := by decide +kernel
theorem dX7_set_274 : decode cX7_set 274 = .ok (.if_icmp .lt 55, 3) := by decide +kernel
theorem dX7_set_277 : decode cX7_set 277 = .ok (.aload_n 0, 1) := by decide +kernel
theorem dX7_set_278 : decode cX7_set 278 = .ok (.getfield 54, 3) := by decide +kernel
theorem dX7_set_281 : decode cX7_set 281 = .ok (.iload 4, 2) := by decide +kernel
theorem dX7_set_283 : decode cX7_set 283 = .ok (.iload_n 2, 1) := by decide +kernel
theorem dX7_set_284 : decode cX7_set 284 = .ok (.iload 4, 2) := by decide +kernel
theorem dX7_set_286 : decode cX7_set 286 = .ok (.ifCond .ne 8, 3) := by decide +kernel
theorem dX7_set_289 : decode cX7_set 289 = .ok (.bipush 9, 2) := by decide +kernel
theorem dX7_set_291 : decode cX7_set 291 = .ok (.goto 5, 3) := by decide +kernel
theorem dX7_set_294 : decode cX7_set 294 = .ok (.bipush 73, 2) := by decide +kernel
theorem dX7_set_296 : decode cX7_set 296 = .ok (.iand, 1) := by decide +kernel
theorem dX7_set_297 : decode cX7_set 297 = .ok (.iastore, 1) := by decide +kernel
theorem dX7_set_298 : decode cX7_set 298 = .ok (.aload_n 0, 1) := by decide +kernel
theorem dX7_set_299 : decode cX7_set 299 = .ok (.getfield 51, 3) := by decide +kernel
theorem dX7_set_302 : decode cX7_set 302 = .ok (.iload 4, 2) := by decide +kernel
theorem dX7_set_304 : decode cX7_set 304 = .ok (.iload_n 2, 1) := by decide +kernel
theorem dX7_set_305 : decode cX7_set 305 = .ok (.bipush 16, 2) := by decide +kernel
theorem dX7_set_307 : decode cX7_set 307 = .ok (.iand, 1) := by decide +kernel
theorem dX7_set_308 : decode cX7_set 308 = .ok (.ifCond .eq 13, 3) := by decide +kernel
theorem dX7_set_311 : decode cX7_set 311 = .ok (.aload_n 0, 1) := by decide +kernel
theorem dX7_set_312 : decode cX7_set 312 = .ok (.getfield 48, 3) := by decide +kernel
theorem dX7_set_315 : decode cX7_set 315 = .ok (.iload 4, 2) := by decide +kernel
theorem dX7_set_317 : decode cX7_set 317 = .ok (.iaload, 1) := by decide +kernel
theorem dX7_set_318 : decode cX7_set 318 = .ok (.goto 10, 3) := by decide +kernel
theorem dX7_set_321 : decode cX7_set 321 = .ok (.aload_n 0, 1) := by decide +kernel
theorem dX7_set_322 : decode cX7_set 322 = .ok (.getfield 51, 3) := by decide +kernel
theorem dX7_set_325 : decode cX7_set 325 = .ok (.iload 4, 2) := by decide +kernel
theorem dX7_set_327 : decode cX7_set 327 = .ok (.iaload, 1) := by decide +kernel
theorem dX7_set_328 : decode cX7_set 328 = .ok (.iastore, 1) := by decide +kernel
theorem dX7_set_329 : decode cX7_set 329 = .ok (.goto 24, 3) := by decide +kernel
theorem dX7_set_332 : decode cX7_set 332 = .ok (.iload_n 1, 1) := by decide +kernel
theorem dX7_set_333 : decode cX7_set 333 = .ok (.sipush 152, 3) := by decide +kernel
theorem dX7_set_336 : decode cX7_set 336 = .ok (.if_icmp .ge 17, 3) := by decide +kernel
theorem dX7_set_339 : decode cX7_set 339 = .ok (.aload_n 0, 1) := by decide +kernel
theorem dX7_set_340 : decode cX7_set 340 = .ok (.getfield 39, 3) := by decide +kernel
theorem dX7_set_343 : decode cX7_set 343 = .ok (.iload_n 1, 1) := by decide +kernel
theorem dX7_set_344 : decode cX7_set 344 = .ok (.sipush 128, 3) := by decide +kernel
theorem dX7_set_347 : decode cX7_set 347 = .ok (.isub, 1) := by decide +kernel
theorem dX7_set_348 : decode cX7_set 348 = .ok (.iload_n 2, 1) := by decide +kernel
theorem dX7_set_349 : decode cX7_set 349 = .ok (.bipush 15, 2) := by decide +kernel
theorem dX7_set_351 : decode cX7_set 351 = .ok (.iand, 1) := by decide +kernel
theorem dX7_set_352 : decode cX7_set 352 = .ok (.iastore, 1) := by decide +kernel
theorem dX7_set_353 : decode cX7_set 353 = .ok (.return_, 1) := by decide +kernel
set_option maxRecDepth 20000 in
theorem ggX7_read_X7_registersAt : GoodIn wsX7_read wsX7_registersAt := goodIn_r _ [7, 8, 35, 36, 37, 38, 39, 40, 41, 42, 43, 44, 45, 46, 47, 48, 49, 50, 51, 52, 53, 54, 55, 56, 57, 58, 59, 60, 61, 62, 63, 64, 65, 66, 67, 68, 69, 70, 71, 72, 73, 74, 75] (by decide +kernel) (by decide +kernel)
set_option maxRecDepth 20000 in
theorem gX7_read_X7_registersAt : GoodIn wsX7_read (wsV RX7 74 RX7 yX7_registersAt wsX7_registersAt) := goodIn_app (goodIn_of _ (by decide +kernel)) ggX7_read_X7_registersAt
set_option maxRecDepth 20000 in
theorem ggX7_read_X7_chip : GoodIn wsX7_read wsX7_chip := goodIn_r _ [12, 13, 14, 15, 16, 17, 18, 19, 20, 21, 22, 23, 24, 6, 25, 26, 35, 36, 37, 38, 39, 40, 41, 42, 43, 44, 45, 46, 47, 48, 49, 50, 51, 52, 53, 54, 55, 56, 57, 58, 59, 60, 61, 62, 63, 64, 65, 66, 67, 68, 69, 70, 71, 72, 73, 74, 75] (by decide +kernel) (by decide +kernel)
set_option maxRecDepth 20000 in
theorem gX7_read_X7_chip : GoodIn wsX7_read (wsV RX7 78 RX7 yX7_chip wsX7_chip) := goodIn_app (goodIn_of _ (by decide +kernel)) ggX7_read_X7_chip
set_option maxRecDepth 20000 in
theorem ggX7_read_X7_seen : GoodIn wsX7_read wsX7_seen := goodIn_r _ [30, 8, 31, 32, 33, 34, 3, 4, 5, 6, 7, 9, 10, 11, 12, 13, 14, 15, 16, 17, 18, 19, 20, 21, 22, 23, 24, 25, 26, 35, 36, 37, 38, 39, 40, 41, 42, 43, 44, 45, 46, 47, 48, 49, 50, 51, 52, 53, 54, 55, 56, 57, 58, 59, 60, 61, 62, 63, 64, 65, 66, 67, 68, 69, 70, 71, 72, 73, 74, 75] (by decide +kernel) (by decide +kernel)
set_option maxRecDepth 20000 in
theorem gX7_read_X7_seen : GoodIn wsX7_read (wsV RX7 105 RX7 yX7_seen wsX7_seen) := goodIn_app (goodIn_of _ (by decide +kernel)) ggX7_read_X7_seen
theorem dX7_read_0 : decode cX7_read 0 = .ok (.iload_n 1, 1) := by decide +kernel
theorem dX7_read_1 : decode cX7_read 1 = .ok (.sipush 8192, 3) := by decide +kernel
theorem dX7_read_4 : decode cX7_read 4 = .ok (.irem, 1) := by decide +kernel
theorem dX7_read_5 : decode cX7_read 5 = .ok (.istore_n 2, 1) := by decide +kernel
theorem dX7_read_6 : decode cX7_read 6 = .ok (.aload_n 0, 1) := by decide +kernel
theorem dX7_read_7 : decode cX7_read 7 = .ok (.iload_n 2, 1) := by decide +kernel
theorem dX7_read_8 : decode cX7_read 8 = .ok (.putfield 66, 3) := by decide +kernel
theorem dX7_read_11 : decode cX7_read 11 = .ok (.aload_n 0, 1) := by decide +kernel
theorem dX7_read_12 : decode cX7_read 12 = .ok (.dup, 1) := by decide +kernel
theorem dX7_read_13 : decode cX7_read 13 = .ok (.getfield 102, 3) := by decide +kernel
theorem dX7_read_16 : decode cX7_read 16 = .ok (.iconst 1, 1) := by decide +kernel
theorem dX7_read_17 : decode cX7_read 17 = .ok (.iadd, 1) := by decide +kernel
theorem dX7_read_18 : decode cX7_read 18 = .ok (.putfield 102, 3) := by decide +kernel
theorem dX7_read_21 : decode cX7_read 21 = .ok (.aload_n 0, 1) := by decide +kernel
theorem dX7_read_22 : decode cX7_read 22 = .ok (.iload_n 2, 1) := by decide +kernel
theorem dX7_read_23 : decode cX7_read 23 = .ok (.invokevirtual 74, 3) := by decide +kernel
theorem dX7_read_26 : decode cX7_read 26 = .ok (.ifCond .eq 16, 3) := by decide +kernel
theorem dX7_read_29 : decode cX7_read 29 = .ok (.aload_n 0, 1) := by decide +kernel
theorem dX7_read_30 : decode cX7_read 30 = .ok (.iload_n 2, 1) := by decide +kernel
theorem dX7_read_31 : decode cX7_read 31 = .ok (.sipush 6656, 3) := by decide +kernel
theorem dX7_read_34 : decode cX7_read 34 = .ok (.isub, 1) := by decide +kernel
theorem dX7_read_35 : decode cX7_read 35 = .ok (.iconst 1, 1) := by decide +kernel
theorem dX7_read_36 : decode cX7_read 36 = .ok (.invokevirtual 78, 3) := by decide +kernel
theorem dX7_read_39 : decode cX7_read 39 = .ok (.goto 8, 3) := by decide +kernel
theorem dX7_read_42 : decode cX7_read 42 = .ok (.aload_n 0, 1) := by decide +kernel
theorem dX7_read_43 : decode cX7_read 43 = .ok (.iload_n 2, 1) := by decide +kernel
theorem dX7_read_44 : decode cX7_read 44 = .ok (.invokevirtual 105, 3) := by decide +kernel
theorem dX7_read_47 : decode cX7_read 47 = .ok (.ireturn, 1) := by decide +kernel
set_option maxRecDepth 20000 in
theorem ggX7_write_X7_registersAt : GoodIn wsX7_write wsX7_registersAt := goodIn_r _ [9, 3, 23, 24, 25, 26, 27, 28, 29, 30, 31, 32, 33, 34, 35, 36, 37, 38, 39, 40, 41, 42, 43, 44, 45, 46, 47, 48, 49, 50, 51, 52, 53, 54, 55, 56, 57, 58, 59, 60, 61, 62, 63] (by decide +kernel) (by decide +kernel)
set_option maxRecDepth 20000 in
theorem gX7_write_X7_registersAt : GoodIn wsX7_write (wsV RX7 74 RX7 yX7_registersAt wsX7_registersAt) := goodIn_app (goodIn_of _ (by decide +kernel)) ggX7_write_X7_registersAt
set_option maxRecDepth 20000 in
theorem ggX7_write_X7_set : GoodIn wsX7_write wsX7_set := goodIn_r _ [13, 14, 15, 16, 17, 18, 19, 20, 21, 22, 23, 24, 25, 26, 27, 28, 29, 30, 31, 32, 33, 34, 35, 36, 37, 38, 39, 40, 41, 42, 43, 44, 45, 46, 47, 48, 49, 50, 51, 52, 53, 54, 55, 56, 57, 58, 59, 60, 61, 62, 63] (by decide +kernel) (by decide +kernel)
set_option maxRecDepth 20000 in
theorem gX7_write_X7_set : GoodIn wsX7_write (wsV RX7 109 RX7 yX7_set wsX7_set) := goodIn_app (goodIn_of _ (by decide +kernel)) ggX7_write_X7_set
theorem dX7_write_0 : decode cX7_write 0 = .ok (.iload_n 1, 1) := by decide +kernel
theorem dX7_write_1 : decode cX7_write 1 = .ok (.sipush 8192, 3) := by decide +kernel
theorem dX7_write_4 : decode cX7_write 4 = .ok (.irem, 1) := by decide +kernel
theorem dX7_write_5 : decode cX7_write 5 = .ok (.istore_n 3, 1) := by decide +kernel
theorem dX7_write_6 : decode cX7_write 6 = .ok (.aload_n 0, 1) := by decide +kernel
theorem dX7_write_7 : decode cX7_write 7 = .ok (.sipush 8192, 3) := by decide +kernel
theorem dX7_write_10 : decode cX7_write 10 = .ok (.iload_n 3, 1) := by decide +kernel
theorem dX7_write_11 : decode cX7_write 11 = .ok (.iadd, 1) := by decide +kernel
theorem dX7_write_12 : decode cX7_write 12 = .ok (.putfield 66, 3) := by decide +kernel
theorem dX7_write_15 : decode cX7_write 15 = .ok (.aload_n 0, 1) := by decide +kernel
theorem dX7_write_16 : decode cX7_write 16 = .ok (.dup, 1) := by decide +kernel
theorem dX7_write_17 : decode cX7_write 17 = .ok (.getfield 102, 3) := by decide +kernel
theorem dX7_write_20 : decode cX7_write 20 = .ok (.iconst 1, 1) := by decide +kernel
theorem dX7_write_21 : decode cX7_write 21 = .ok (.iadd, 1) := by decide +kernel
theorem dX7_write_22 : decode cX7_write 22 = .ok (.putfield 102, 3) := by decide +kernel
theorem dX7_write_25 : decode cX7_write 25 = .ok (.iload_n 3, 1) := by decide +kernel
theorem dX7_write_26 : decode cX7_write 26 = .ok (.iconst 1, 1) := by decide +kernel
theorem dX7_write_27 : decode cX7_write 27 = .ok (.if_icmp .ne 14, 3) := by decide +kernel
theorem dX7_write_30 : decode cX7_write 30 = .ok (.aload_n 0, 1) := by decide +kernel
theorem dX7_write_31 : decode cX7_write 31 = .ok (.iload_n 2, 1) := by decide +kernel
theorem dX7_write_32 : decode cX7_write 32 = .ok (.bipush 7, 2) := by decide +kernel
theorem dX7_write_34 : decode cX7_write 34 = .ok (.iand, 1) := by decide +kernel
theorem dX7_write_35 : decode cX7_write 35 = .ok (.putfield 22, 3) := by decide +kernel
theorem dX7_write_38 : decode cX7_write 38 = .ok (.goto 31, 3) := by decide +kernel
theorem dX7_write_41 : decode cX7_write 41 = .ok (.aload_n 0, 1) := by decide +kernel
theorem dX7_write_42 : decode cX7_write 42 = .ok (.iload_n 3, 1) := by decide +kernel
theorem dX7_write_43 : decode cX7_write 43 = .ok (.invokevirtual 74, 3) := by decide +kernel
theorem dX7_write_46 : decode cX7_write 46 = .ok (.ifCond .eq 16, 3) := by decide +kernel
theorem dX7_write_49 : decode cX7_write 49 = .ok (.aload_n 0, 1) := by decide +kernel
theorem dX7_write_50 : decode cX7_write 50 = .ok (.iload_n 3, 1) := by decide +kernel
theorem dX7_write_51 : decode cX7_write 51 = .ok (.sipush 6656, 3) := by decide +kernel
theorem dX7_write_54 : decode cX7_write 54 = .ok (.isub, 1) := by decide +kernel
theorem dX7_write_55 : decode cX7_write 55 = .ok (.iload_n 2, 1) := by decide +kernel
theorem dX7_write_56 : decode cX7_write 56 = .ok (.invokevirtual 109, 3) := by decide +kernel
theorem dX7_write_59 : decode cX7_write 59 = .ok (.goto 10, 3) := by decide +kernel
theorem dX7_write_62 : decode cX7_write 62 = .ok (.aload_n 0, 1) := by decide +kernel
theorem dX7_write_63 : decode cX7_write 63 = .ok (.getfield 7, 3) := by decide +kernel
theorem dX7_write_66 : decode cX7_write 66 = .ok (.iload_n 3, 1) := by decide +kernel
theorem dX7_write_67 : decode cX7_write 67 = .ok (.iload_n 2, 1) := by decide +kernel
theorem dX7_write_68 : decode cX7_write 68 = .ok (.iastore, 1) := by decide +kernel
theorem dX7_write_69 : decode cX7_write 69 = .ok (.return_, 1) := by decide +kernel
theorem dX7_shows_0 : decode cX7_shows 0 = .ok (.aload_n 0, 1) := by decide +kernel
theorem dX7_shows_1 : decode cX7_shows 1 = .ok (.getfield 85, 3) := by decide +kernel
theorem dX7_shows_4 : decode cX7_shows 4 = .ok (.bipush 8, 2) := by decide +kernel
theorem dX7_shows_6 : decode cX7_shows 6 = .ok (.if_icmp .lt 28, 3) := by decide +kernel
theorem dX7_shows_9 : decode cX7_shows 9 = .ok (.aload_n 0, 1) := by decide +kernel
theorem dX7_shows_10 : decode cX7_shows 10 = .ok (.getfield 85, 3) := by decide +kernel
theorem dX7_shows_13 : decode cX7_shows 13 = .ok (.bipush 31, 2) := by decide +kernel
theorem dX7_shows_15 : decode cX7_shows 15 = .ok (.if_icmp .gt 19, 3) := by decide +kernel
theorem dX7_shows_18 : decode cX7_shows 18 = .ok (.aload_n 0, 1) := by decide +kernel
theorem dX7_shows_19 : decode cX7_shows 19 = .ok (.getfield 26, 3) := by decide +kernel
theorem dX7_shows_22 : decode cX7_shows 22 = .ok (.iconst 0, 1) := by decide +kernel
theorem dX7_shows_23 : decode cX7_shows 23 = .ok (.iaload, 1) := by decide +kernel
theorem dX7_shows_24 : decode cX7_shows 24 = .ok (.bipush 16, 2) := by decide +kernel
theorem dX7_shows_26 : decode cX7_shows 26 = .ok (.iand, 1) := by decide +kernel
theorem dX7_shows_27 : decode cX7_shows 27 = .ok (.ifCond .eq 7, 3) := by decide +kernel
theorem dX7_shows_30 : decode cX7_shows 30 = .ok (.iconst 1, 1) := by decide +kernel
theorem dX7_shows_31 : decode cX7_shows 31 = .ok (.goto 4, 3) := by decide +kernel
theorem dX7_shows_34 : decode cX7_shows 34 = .ok (.iconst 0, 1) := by decide +kernel
theorem dX7_shows_35 : decode cX7_shows 35 = .ok (.ireturn, 1) := by decide +kernel
set_option maxRecDepth 20000 in
theorem ggX7_paint_X7_shows : GoodIn wsX7_paint wsX7_shows := goodIn_r _ [13, 8, 4, 14, 15, 16, 17, 18, 19, 20, 21, 22, 23, 24, 25, 26, 27, 28, 29, 30, 31, 32, 33, 34, 35, 36, 37, 38, 39, 40, 41, 42, 43, 44, 45, 46, 47, 48, 49, 50, 51, 52, 53, 54] (by decide +kernel) (by decide +kernel)
set_option maxRecDepth 20000 in
theorem gX7_paint_X7_shows : GoodIn wsX7_paint (wsV RX7 116 RX7 yX7_shows wsX7_shows) := goodIn_app (goodIn_of _ (by decide +kernel)) ggX7_paint_X7_shows
theorem dX7_paint_0 : decode cX7_paint 0 = .ok (.iconst 0, 1) := by decide +kernel
theorem dX7_paint_1 : decode cX7_paint 1 = .ok (.istore_n 2, 1) := by decide +kernel
theorem dX7_paint_2 : decode cX7_paint 2 = .ok (.iload_n 2, 1) := by decide +kernel
theorem dX7_paint_3 : decode cX7_paint 3 = .ok (.bipush 8, 2) := by decide +kernel
theorem dX7_paint_5 : decode cX7_paint 5 = .ok (.if_icmp .ge 107, 3) := by decide +kernel
theorem dX7_paint_8 : decode cX7_paint 8 = .ok (.aload_n 0, 1) := by decide +kernel
theorem dX7_paint_9 : decode cX7_paint 9 = .ok (.getfield 16, 3) := by decide +kernel
theorem dX7_paint_12 : decode cX7_paint 12 = .ok (.bipush 8, 2) := by decide +kernel
theorem dX7_paint_14 : decode cX7_paint 14 = .ok (.aload_n 0, 1) := by decide +kernel
theorem dX7_paint_15 : decode cX7_paint 15 = .ok (.getfield 33, 3) := by decide +kernel
theorem dX7_paint_18 : decode cX7_paint 18 = .ok (.iload_n 1, 1) := by decide +kernel
theorem dX7_paint_19 : decode cX7_paint 19 = .ok (.iaload, 1) := by decide +kernel
theorem dX7_paint_20 : decode cX7_paint 20 = .ok (.bipush 64, 2) := by decide +kernel
theorem dX7_paint_22 : decode cX7_paint 22 = .ok (.irem, 1) := by decide +kernel
theorem dX7_paint_23 : decode cX7_paint 23 = .ok (.imul, 1) := by decide +kernel
theorem dX7_paint_24 : decode cX7_paint 24 = .ok (.aload_n 0, 1) := by decide +kernel
theorem dX7_paint_25 : decode cX7_paint 25 = .ok (.getfield 113, 3) := by decide +kernel
theorem dX7_paint_28 : decode cX7_paint 28 = .ok (.bipush 8, 2) := by decide +kernel
theorem dX7_paint_30 : decode cX7_paint 30 = .ok (.irem, 1) := by decide +kernel
theorem dX7_paint_31 : decode cX7_paint 31 = .ok (.iadd, 1) := by decide +kernel
theorem dX7_paint_32 : decode cX7_paint 32 = .ok (.iaload, 1) := by decide +kernel
theorem dX7_paint_33 : decode cX7_paint 33 = .ok (.bipush 7, 2) := by decide +kernel
theorem dX7_paint_35 : decode cX7_paint 35 = .ok (.iload_n 2, 1) := by decide +kernel
theorem dX7_paint_36 : decode cX7_paint 36 = .ok (.isub, 1) := by decide +kernel
theorem dX7_paint_37 : decode cX7_paint 37 = .ok (.ishr, 1) := by decide +kernel
theorem dX7_paint_38 : decode cX7_paint 38 = .ok (.iconst 1, 1) := by decide +kernel
theorem dX7_paint_39 : decode cX7_paint 39 = .ok (.iand, 1) := by decide +kernel
theorem dX7_paint_40 : decode cX7_paint 40 = .ok (.istore_n 3, 1) := by decide +kernel
theorem dX7_paint_41 : decode cX7_paint 41 = .ok (.aload_n 0, 1) := by decide +kernel
theorem dX7_paint_42 : decode cX7_paint 42 = .ok (.invokevirtual 116, 3) := by decide +kernel
theorem dX7_paint_45 : decode cX7_paint 45 = .ok (.ifCond .ne 12, 3) := by decide +kernel
theorem dX7_paint_48 : decode cX7_paint 48 = .ok (.aload_n 0, 1) := by decide +kernel
theorem dX7_paint_49 : decode cX7_paint 49 = .ok (.getfield 26, 3) := by decide +kernel
theorem dX7_paint_52 : decode cX7_paint 52 = .ok (.iconst 3, 1) := by decide +kernel
theorem dX7_paint_53 : decode cX7_paint 53 = .ok (.iaload, 1) := by decide +kernel
theorem dX7_paint_54 : decode cX7_paint 54 = .ok (.goto 29, 3) := by decide +kernel
theorem dX7_paint_57 : decode cX7_paint 57 = .ok (.aload_n 0, 1) := by decide +kernel
theorem dX7_paint_58 : decode cX7_paint 58 = .ok (.getfield 29, 3) := by decide +kernel
theorem dX7_paint_61 : decode cX7_paint 61 = .ok (.ifCond .ne 7, 3) := by decide +kernel
theorem dX7_paint_64 : decode cX7_paint 64 = .ok (.iload_n 3, 1) := by decide +kernel
theorem dX7_paint_65 : decode cX7_paint 65 = .ok (.ifCond .ne 12, 3) := by decide +kernel
theorem dX7_paint_68 : decode cX7_paint 68 = .ok (.aload_n 0, 1) := by decide +kernel
theorem dX7_paint_69 : decode cX7_paint 69 = .ok (.getfield 26, 3) := by decide +kernel
theorem dX7_paint_72 : decode cX7_paint 72 = .ok (.iconst 2, 1) := by decide +kernel
theorem dX7_paint_73 : decode cX7_paint 73 = .ok (.iaload, 1) := by decide +kernel
theorem dX7_paint_74 : decode cX7_paint 74 = .ok (.goto 9, 3) := by decide +kernel
theorem dX7_paint_77 : decode cX7_paint 77 = .ok (.aload_n 0, 1) := by decide +kernel
theorem dX7_paint_78 : decode cX7_paint 78 = .ok (.getfield 36, 3) := by decide +kernel
theorem dX7_paint_81 : decode cX7_paint 81 = .ok (.iload_n 1, 1) := by decide +kernel
theorem dX7_paint_82 : decode cX7_paint 82 = .ok (.iaload, 1) := by decide +kernel
theorem dX7_paint_83 : decode cX7_paint 83 = .ok (.istore 4, 2) := by decide +kernel
theorem dX7_paint_85 : decode cX7_paint 85 = .ok (.aload_n 0, 1) := by decide +kernel
theorem dX7_paint_86 : decode cX7_paint 86 = .ok (.getfield 42, 3) := by decide +kernel
theorem dX7_paint_89 : decode cX7_paint 89 = .ok (.bipush 64, 2) := by decide +kernel
theorem dX7_paint_91 : decode cX7_paint 91 = .ok (.aload_n 0, 1) := by decide +kernel
theorem dX7_paint_92 : decode cX7_paint 92 = .ok (.getfield 85, 3) := by decide +kernel
theorem dX7_paint_95 : decode cX7_paint 95 = .ok (.imul, 1) := by decide +kernel
theorem dX7_paint_96 : decode cX7_paint 96 = .ok (.bipush 8, 2) := by decide +kernel
theorem dX7_paint_98 : decode cX7_paint 98 = .ok (.iload_n 1, 1) := by decide +kernel
theorem dX7_paint_99 : decode cX7_paint 99 = .ok (.imul, 1) := by decide +kernel
theorem dX7_paint_100 : decode cX7_paint 100 = .ok (.iadd, 1) := by decide +kernel
theorem dX7_paint_101 : decode cX7_paint 101 = .ok (.iload_n 2, 1) := by decide +kernel
theorem dX7_paint_102 : decode cX7_paint 102 = .ok (.iadd, 1) := by decide +kernel
theorem dX7_paint_103 : decode cX7_paint 103 = .ok (.iload 4, 2) := by decide +kernel
theorem dX7_paint_105 : decode cX7_paint 105 = .ok (.iastore, 1) := by decide +kernel
theorem dX7_paint_106 : decode cX7_paint 106 = .ok (.iinc 2 1, 3) := by decide +kernel
theorem dX7_paint_109 : decode cX7_paint 109 = .ok (.goto (-107), 3) := by decide +kernel
theorem dX7_paint_112 : decode cX7_paint 112 = .ok (.return_, 1) := by decide +kernel
set_option maxRecDepth 20000 in
theorem ggX7_pictureCycle_X7_shows : GoodIn wsX7_pictureCycle wsX7_shows := goodIn_r _ [17, 4, 5, 24, 25, 26, 27, 28, 29, 30, 31, 32, 33, 34, 35, 36, 37, 38, 39, 40, 41, 42, 43, 44, 45, 46, 47, 48, 49, 50, 51, 52, 53, 54, 55, 56, 57, 58, 59, 60, 61, 62, 63, 64] (by decide +kernel) (by decide +kernel)
set_option maxRecDepth 20000 in
theorem gX7_pictureCycle_X7_shows : GoodIn wsX7_pictureCycle (wsV RX7 116 RX7 yX7_shows wsX7_shows) := goodIn_app (goodIn_of _ (by decide +kernel)) ggX7_pictureCycle_X7_shows
set_option maxRecDepth 20000 in
theorem ggX7_pictureCycle_X7_paint : GoodIn wsX7_pictureCycle wsX7_paint := goodIn_r _ [21, 22, 9, 8, 5, 6, 11, 23, 4, 13, 14, 15, 16, 17, 24, 25, 26, 27, 28, 29, 30, 31, 32, 33, 34, 35, 36, 37, 38, 39, 40, 41, 42, 43, 44, 45, 46, 47, 48, 49, 50, 51, 52, 53, 54, 55, 56, 57, 58, 59, 60, 61, 62, 63, 64] (by decide +kernel) (by decide +kernel)
set_option maxRecDepth 20000 in
theorem gX7_pictureCycle_X7_paint : GoodIn wsX7_pictureCycle (wsV RX7 129 RX7 yX7_paint wsX7_paint) := goodIn_app (goodIn_of _ (by decide +kernel)) ggX7_pictureCycle_X7_paint
theorem dX7_pictureCycle_0 : decode cX7_pictureCycle 0 = .ok (.aload_n 0, 1) := by decide +kernel
theorem dX7_pictureCycle_1 : decode cX7_pictureCycle 1 = .ok (.getfield 120, 3) := by decide +kernel
theorem dX7_pictureCycle_4 : decode cX7_pictureCycle 4 = .ok (.ifCond .ne 54, 3) := by decide +kernel
theorem dX7_pictureCycle_7 : decode cX7_pictureCycle 7 = .ok (.aload_n 0, 1) := by decide +kernel
theorem dX7_pictureCycle_8 : decode cX7_pictureCycle 8 = .ok (.iconst 0, 1) := by decide +kernel
theorem dX7_pictureCycle_9 : decode cX7_pictureCycle 9 = .ok (.putfield 123, 3) := by decide +kernel
theorem dX7_pictureCycle_12 : decode cX7_pictureCycle 12 = .ok (.aload_n 0, 1) := by decide +kernel
theorem dX7_pictureCycle_13 : decode cX7_pictureCycle 13 = .ok (.aload_n 0, 1) := by decide +kernel
theorem dX7_pictureCycle_14 : decode cX7_pictureCycle 14 = .ok (.getfield 88, 3) := by decide +kernel
theorem dX7_pictureCycle_17 : decode cX7_pictureCycle 17 = .ok (.ifCond .ne 16, 3) := by decide +kernel
theorem dX7_pictureCycle_20 : decode cX7_pictureCycle 20 = .ok (.aload_n 0, 1) := by decide +kernel
theorem dX7_pictureCycle_21 : decode cX7_pictureCycle 21 = .ok (.getfield 85, 3) := by decide +kernel
theorem dX7_pictureCycle_24 : decode cX7_pictureCycle 24 = .ok (.aload_n 0, 1) := by decide +kernel
theorem dX7_pictureCycle_25 : decode cX7_pictureCycle 25 = .ok (.getfield 26, 3) := by decide +kernel
theorem dX7_pictureCycle_28 : decode cX7_pictureCycle 28 = .ok (.iconst 1, 1) := by decide +kernel
theorem dX7_pictureCycle_29 : decode cX7_pictureCycle 29 = .ok (.iaload, 1) := by decide +kernel
theorem dX7_pictureCycle_30 : decode cX7_pictureCycle 30 = .ok (.if_icmp .ne 7, 3) := by decide +kernel
theorem dX7_pictureCycle_33 : decode cX7_pictureCycle 33 = .ok (.iconst 1, 1) := by decide +kernel
theorem dX7_pictureCycle_34 : decode cX7_pictureCycle 34 = .ok (.goto 4, 3) := by decide +kernel
theorem dX7_pictureCycle_37 : decode cX7_pictureCycle 37 = .ok (.iconst 0, 1) := by decide +kernel
theorem dX7_pictureCycle_38 : decode cX7_pictureCycle 38 = .ok (.putfield 88, 3) := by decide +kernel
theorem dX7_pictureCycle_41 : decode cX7_pictureCycle 41 = .ok (.aload_n 0, 1) := by decide +kernel
theorem dX7_pictureCycle_42 : decode cX7_pictureCycle 42 = .ok (.getfield 85, 3) := by decide +kernel
theorem dX7_pictureCycle_45 : decode cX7_pictureCycle 45 = .ok (.ifCond .ne 13, 3) := by decide +kernel
theorem dX7_pictureCycle_48 : decode cX7_pictureCycle 48 = .ok (.aload_n 0, 1) := by decide +kernel
theorem dX7_pictureCycle_49 : decode cX7_pictureCycle 49 = .ok (.iconst 1, 1) := by decide +kernel
theorem dX7_pictureCycle_50 : decode cX7_pictureCycle 50 = .ok (.putfield 29, 3) := by decide +kernel
theorem dX7_pictureCycle_53 : decode cX7_pictureCycle 53 = .ok (.aload_n 0, 1) := by decide +kernel
theorem dX7_pictureCycle_54 : decode cX7_pictureCycle 54 = .ok (.iconst 0, 1) := by decide +kernel
theorem dX7_pictureCycle_55 : decode cX7_pictureCycle 55 = .ok (.putfield 126, 3) := by decide +kernel
theorem dX7_pictureCycle_58 : decode cX7_pictureCycle 58 = .ok (.aload_n 0, 1) := by decide +kernel
theorem dX7_pictureCycle_59 : decode cX7_pictureCycle 59 = .ok (.getfield 120, 3) := by decide +kernel
theorem dX7_pictureCycle_62 : decode cX7_pictureCycle 62 = .ok (.iconst 3, 1) := by decide +kernel
theorem dX7_pictureCycle_63 : decode cX7_pictureCycle 63 = .ok (.if_icmp .ne 44, 3) := by decide +kernel
theorem dX7_pictureCycle_66 : decode cX7_pictureCycle 66 = .ok (.aload_n 0, 1) := by decide +kernel
theorem dX7_pictureCycle_67 : decode cX7_pictureCycle 67 = .ok (.invokevirtual 116, 3) := by decide +kernel
theorem dX7_pictureCycle_70 : decode cX7_pictureCycle 70 = .ok (.ifCond .eq 37, 3) := by decide +kernel
theorem dX7_pictureCycle_73 : decode cX7_pictureCycle 73 = .ok (.aload_n 0, 1) := by decide +kernel
theorem dX7_pictureCycle_74 : decode cX7_pictureCycle 74 = .ok (.getfield 85, 3) := by decide +kernel
theorem dX7_pictureCycle_77 : decode cX7_pictureCycle 77 = .ok (.bipush 8, 2) := by decide +kernel
theorem dX7_pictureCycle_79 : decode cX7_pictureCycle 79 = .ok (.irem, 1) := by decide +kernel
theorem dX7_pictureCycle_80 : decode cX7_pictureCycle 80 = .ok (.aload_n 0, 1) := by decide +kernel
theorem dX7_pictureCycle_81 : decode cX7_pictureCycle 81 = .ok (.getfield 26, 3) := by decide +kernel
theorem dX7_pictureCycle_84 : decode cX7_pictureCycle 84 = .ok (.iconst 0, 1) := by decide +kernel
theorem dX7_pictureCycle_85 : decode cX7_pictureCycle 85 = .ok (.iaload, 1) := by decide +kernel
theorem dX7_pictureCycle_86 : decode cX7_pictureCycle 86 = .ok (.bipush 7, 2) := by decide +kernel
theorem dX7_pictureCycle_88 : decode cX7_pictureCycle 88 = .ok (.iand, 1) := by decide +kernel
theorem dX7_pictureCycle_89 : decode cX7_pictureCycle 89 = .ok (.if_icmp .ne 18, 3) := by decide +kernel
theorem dX7_pictureCycle_92 : decode cX7_pictureCycle 92 = .ok (.aload_n 0, 1) := by decide +kernel
theorem dX7_pictureCycle_93 : decode cX7_pictureCycle 93 = .ok (.iconst 1, 1) := by decide +kernel
theorem dX7_pictureCycle_94 : decode cX7_pictureCycle 94 = .ok (.putfield 123, 3) := by decide +kernel
theorem dX7_pictureCycle_97 : decode cX7_pictureCycle 97 = .ok (.aload_n 0, 1) := by decide +kernel
theorem dX7_pictureCycle_98 : decode cX7_pictureCycle 98 = .ok (.iconst 0, 1) := by decide +kernel
theorem dX7_pictureCycle_99 : decode cX7_pictureCycle 99 = .ok (.putfield 29, 3) := by decide +kernel
theorem dX7_pictureCycle_102 : decode cX7_pictureCycle 102 = .ok (.aload_n 0, 1) := by decide +kernel
theorem dX7_pictureCycle_103 : decode cX7_pictureCycle 103 = .ok (.iconst 0, 1) := by decide +kernel
theorem dX7_pictureCycle_104 : decode cX7_pictureCycle 104 = .ok (.putfield 113, 3) := by decide +kernel
theorem dX7_pictureCycle_107 : decode cX7_pictureCycle 107 = .ok (.aload_n 0, 1) := by decide +kernel
theorem dX7_pictureCycle_108 : decode cX7_pictureCycle 108 = .ok (.getfield 120, 3) := by decide +kernel
theorem dX7_pictureCycle_111 : decode cX7_pictureCycle 111 = .ok (.bipush 6, 2) := by decide +kernel
theorem dX7_pictureCycle_113 : decode cX7_pictureCycle 113 = .ok (.if_icmp .lt 79, 3) := by decide +kernel
theorem dX7_pictureCycle_116 : decode cX7_pictureCycle 116 = .ok (.aload_n 0, 1) := by decide +kernel
theorem dX7_pictureCycle_117 : decode cX7_pictureCycle 117 = .ok (.getfield 120, 3) := by decide +kernel
theorem dX7_pictureCycle_120 : decode cX7_pictureCycle 120 = .ok (.bipush 14, 2) := by decide +kernel
theorem dX7_pictureCycle_122 : decode cX7_pictureCycle 122 = .ok (.if_icmp .ge 70, 3) := by decide +kernel
theorem dX7_pictureCycle_125 : decode cX7_pictureCycle 125 = .ok (.aload_n 0, 1) := by decide +kernel
theorem dX7_pictureCycle_126 : decode cX7_pictureCycle 126 = .ok (.getfield 120, 3) := by decide +kernel
theorem dX7_pictureCycle_129 : decode cX7_pictureCycle 129 = .ok (.bipush 6, 2) := by decide +kernel
theorem dX7_pictureCycle_131 : decode cX7_pictureCycle 131 = .ok (.isub, 1) := by decide +kernel
theorem dX7_pictureCycle_132 : decode cX7_pictureCycle 132 = .ok (.istore_n 1, 1) := by decide +kernel
theorem dX7_pictureCycle_133 : decode cX7_pictureCycle 133 = .ok (.bipush 8, 2) := by decide +kernel
theorem dX7_pictureCycle_135 : decode cX7_pictureCycle 135 = .ok (.aload_n 0, 1) := by decide +kernel
theorem dX7_pictureCycle_136 : decode cX7_pictureCycle 136 = .ok (.getfield 126, 3) := by decide +kernel
theorem dX7_pictureCycle_139 : decode cX7_pictureCycle 139 = .ok (.iconst 3, 1) := by decide +kernel
theorem dX7_pictureCycle_140 : decode cX7_pictureCycle 140 = .ok (.irem, 1) := by decide +kernel
theorem dX7_pictureCycle_141 : decode cX7_pictureCycle 141 = .ok (.imul, 1) := by decide +kernel
theorem dX7_pictureCycle_142 : decode cX7_pictureCycle 142 = .ok (.iload_n 1, 1) := by decide +kernel
theorem dX7_pictureCycle_143 : decode cX7_pictureCycle 143 = .ok (.iadd, 1) := by decide +kernel
theorem dX7_pictureCycle_144 : decode cX7_pictureCycle 144 = .ok (.istore_n 2, 1) := by decide +kernel
theorem dX7_pictureCycle_145 : decode cX7_pictureCycle 145 = .ok (.aload_n 0, 1) := by decide +kernel
theorem dX7_pictureCycle_146 : decode cX7_pictureCycle 146 = .ok (.getfield 123, 3) := by decide +kernel
theorem dX7_pictureCycle_149 : decode cX7_pictureCycle 149 = .ok (.ifCond .eq 38, 3) := by decide +kernel
theorem dX7_pictureCycle_152 : decode cX7_pictureCycle 152 = .ok (.aload_n 0, 1) := by decide +kernel
theorem dX7_pictureCycle_153 : decode cX7_pictureCycle 153 = .ok (.getfield 33, 3) := by decide +kernel
theorem dX7_pictureCycle_156 : decode cX7_pictureCycle 156 = .ok (.iload_n 1, 1) := by decide +kernel
theorem dX7_pictureCycle_157 : decode cX7_pictureCycle 157 = .ok (.aload_n 0, 1) := by decide +kernel
theorem dX7_pictureCycle_158 : decode cX7_pictureCycle 158 = .ok (.getfield 7, 3) := by decide +kernel
theorem dX7_pictureCycle_161 : decode cX7_pictureCycle 161 = .ok (.bipush 64, 2) := by decide +kernel
theorem dX7_pictureCycle_163 : decode cX7_pictureCycle 163 = .ok (.aload_n 0, 1) := by decide +kernel
theorem dX7_pictureCycle_164 : decode cX7_pictureCycle 164 = .ok (.getfield 26, 3) := by decide +kernel
theorem dX7_pictureCycle_167 : decode cX7_pictureCycle 167 = .ok (.bipush 6, 2) := by decide +kernel
theorem dX7_pictureCycle_169 : decode cX7_pictureCycle 169 = .ok (.iaload, 1) := by decide +kernel
theorem dX7_pictureCycle_170 : decode cX7_pictureCycle 170 = .ok (.imul, 1) := by decide +kernel
theorem dX7_pictureCycle_171 : decode cX7_pictureCycle 171 = .ok (.iload_n 2, 1) := by decide +kernel
theorem dX7_pictureCycle_172 : decode cX7_pictureCycle 172 = .ok (.iadd, 1) := by decide +kernel
theorem dX7_pictureCycle_173 : decode cX7_pictureCycle 173 = .ok (.iaload, 1) := by decide +kernel
theorem dX7_pictureCycle_174 : decode cX7_pictureCycle 174 = .ok (.iastore, 1) := by decide +kernel
theorem dX7_pictureCycle_175 : decode cX7_pictureCycle 175 = .ok (.aload_n 0, 1) := by decide +kernel
theorem dX7_pictureCycle_176 : decode cX7_pictureCycle 176 = .ok (.getfield 36, 3) := by decide +kernel
theorem dX7_pictureCycle_179 : decode cX7_pictureCycle 179 = .ok (.iload_n 1, 1) := by decide +kernel
theorem dX7_pictureCycle_180 : decode cX7_pictureCycle 180 = .ok (.aload_n 0, 1) := by decide +kernel
theorem dX7_pictureCycle_181 : decode cX7_pictureCycle 181 = .ok (.getfield 39, 3) := by decide +kernel
theorem dX7_pictureCycle_184 : decode cX7_pictureCycle 184 = .ok (.iload_n 2, 1) := by decide +kernel
theorem dX7_pictureCycle_185 : decode cX7_pictureCycle 185 = .ok (.iaload, 1) := by decide +kernel
theorem dX7_pictureCycle_186 : decode cX7_pictureCycle 186 = .ok (.iastore, 1) := by decide +kernel
theorem dX7_pictureCycle_187 : decode cX7_pictureCycle 187 = .ok (.aload_n 0, 1) := by decide +kernel
theorem dX7_pictureCycle_188 : decode cX7_pictureCycle 188 = .ok (.iload_n 1, 1) := by decide +kernel
theorem dX7_pictureCycle_189 : decode cX7_pictureCycle 189 = .ok (.invokevirtual 129, 3) := by decide +kernel
theorem dX7_pictureCycle_192 : decode cX7_pictureCycle 192 = .ok (.aload_n 0, 1) := by decide +kernel
theorem dX7_pictureCycle_193 : decode cX7_pictureCycle 193 = .ok (.getfield 120, 3) := by decide +kernel
theorem dX7_pictureCycle_196 : decode cX7_pictureCycle 196 = .ok (.bipush 14, 2) := by decide +kernel
theorem dX7_pictureCycle_198 : decode cX7_pictureCycle 198 = .ok (.if_icmp .ne 20, 3) := by decide +kernel
theorem dX7_pictureCycle_201 : decode cX7_pictureCycle 201 = .ok (.aload_n 0, 1) := by decide +kernel
theorem dX7_pictureCycle_202 : decode cX7_pictureCycle 202 = .ok (.getfield 123, 3) := by decide +kernel
theorem dX7_pictureCycle_205 : decode cX7_pictureCycle 205 = .ok (.ifCond .eq 13, 3) := by decide +kernel
theorem dX7_pictureCycle_208 : decode cX7_pictureCycle 208 = .ok (.aload_n 0, 1) := by decide +kernel
theorem dX7_pictureCycle_209 : decode cX7_pictureCycle 209 = .ok (.dup, 1) := by decide +kernel
theorem dX7_pictureCycle_210 : decode cX7_pictureCycle 210 = .ok (.getfield 126, 3) := by decide +kernel
theorem dX7_pictureCycle_213 : decode cX7_pictureCycle 213 = .ok (.iconst 1, 1) := by decide +kernel
theorem dX7_pictureCycle_214 : decode cX7_pictureCycle 214 = .ok (.iadd, 1) := by decide +kernel
theorem dX7_pictureCycle_215 : decode cX7_pictureCycle 215 = .ok (.putfield 126, 3) := by decide +kernel
theorem dX7_pictureCycle_218 : decode cX7_pictureCycle 218 = .ok (.aload_n 0, 1) := by decide +kernel
theorem dX7_pictureCycle_219 : decode cX7_pictureCycle 219 = .ok (.getfield 120, 3) := by decide +kernel
theorem dX7_pictureCycle_222 : decode cX7_pictureCycle 222 = .ok (.bipush 23, 2) := by decide +kernel
theorem dX7_pictureCycle_224 : decode cX7_pictureCycle 224 = .ok (.if_icmp .ne 38, 3) := by decide +kernel
theorem dX7_pictureCycle_227 : decode cX7_pictureCycle 227 = .ok (.aload_n 0, 1) := by decide +kernel
theorem dX7_pictureCycle_228 : decode cX7_pictureCycle 228 = .ok (.getfield 29, 3) := by decide +kernel
theorem dX7_pictureCycle_231 : decode cX7_pictureCycle 231 = .ok (.ifCond .ne 31, 3) := by decide +kernel
theorem dX7_pictureCycle_234 : decode cX7_pictureCycle 234 = .ok (.aload_n 0, 1) := by decide +kernel
theorem dX7_pictureCycle_235 : decode cX7_pictureCycle 235 = .ok (.aload_n 0, 1) := by decide +kernel
theorem dX7_pictureCycle_236 : decode cX7_pictureCycle 236 = .ok (.getfield 113, 3) := by decide +kernel
theorem dX7_pictureCycle_239 : decode cX7_pictureCycle 239 = .ok (.bipush 7, 2) := by decide +kernel
theorem dX7_pictureCycle_241 : decode cX7_pictureCycle 241 = .ok (.if_icmp .ne 7, 3) := by decide +kernel
theorem dX7_pictureCycle_244 : decode cX7_pictureCycle 244 = .ok (.iconst 1, 1) := by decide +kernel
theorem dX7_pictureCycle_245 : decode cX7_pictureCycle 245 = .ok (.goto 4, 3) := by decide +kernel
theorem dX7_pictureCycle_248 : decode cX7_pictureCycle 248 = .ok (.iconst 0, 1) := by decide +kernel
theorem dX7_pictureCycle_249 : decode cX7_pictureCycle 249 = .ok (.putfield 29, 3) := by decide +kernel
theorem dX7_pictureCycle_252 : decode cX7_pictureCycle 252 = .ok (.aload_n 0, 1) := by decide +kernel
theorem dX7_pictureCycle_253 : decode cX7_pictureCycle 253 = .ok (.dup, 1) := by decide +kernel
theorem dX7_pictureCycle_254 : decode cX7_pictureCycle 254 = .ok (.getfield 113, 3) := by decide +kernel
theorem dX7_pictureCycle_257 : decode cX7_pictureCycle 257 = .ok (.iconst 1, 1) := by decide +kernel
theorem dX7_pictureCycle_258 : decode cX7_pictureCycle 258 = .ok (.iadd, 1) := by decide +kernel
theorem dX7_pictureCycle_259 : decode cX7_pictureCycle 259 = .ok (.putfield 113, 3) := by decide +kernel
theorem dX7_pictureCycle_262 : decode cX7_pictureCycle 262 = .ok (.return_, 1) := by decide +kernel
theorem dX7_wanted_0 : decode cX7_wanted 0 = .ok (.aload_n 0, 1) := by decide +kernel
theorem dX7_wanted_1 : decode cX7_wanted 1 = .ok (.getfield 123, 3) := by decide +kernel
theorem dX7_wanted_4 : decode cX7_wanted 4 = .ok (.ifCond .eq 24, 3) := by decide +kernel
theorem dX7_wanted_7 : decode cX7_wanted 7 = .ok (.aload_n 0, 1) := by decide +kernel
theorem dX7_wanted_8 : decode cX7_wanted 8 = .ok (.getfield 120, 3) := by decide +kernel
theorem dX7_wanted_11 : decode cX7_wanted 11 = .ok (.iconst 3, 1) := by decide +kernel
theorem dX7_wanted_12 : decode cX7_wanted 12 = .ok (.if_icmp .lt 16, 3) := by decide +kernel
theorem dX7_wanted_15 : decode cX7_wanted 15 = .ok (.aload_n 0, 1) := by decide +kernel
theorem dX7_wanted_16 : decode cX7_wanted 16 = .ok (.getfield 120, 3) := by decide +kernel
theorem dX7_wanted_19 : decode cX7_wanted 19 = .ok (.bipush 13, 2) := by decide +kernel
theorem dX7_wanted_21 : decode cX7_wanted 21 = .ok (.if_icmp .gt 7, 3) := by decide +kernel
theorem dX7_wanted_24 : decode cX7_wanted 24 = .ok (.iconst 1, 1) := by decide +kernel
theorem dX7_wanted_25 : decode cX7_wanted 25 = .ok (.goto 4, 3) := by decide +kernel
theorem dX7_wanted_28 : decode cX7_wanted 28 = .ok (.iconst 0, 1) := by decide +kernel
theorem dX7_wanted_29 : decode cX7_wanted 29 = .ok (.ireturn, 1) := by decide +kernel
theorem dX7_timer_0 : decode cX7_timer 0 = .ok (.aload_n 0, 1) := by decide +kernel
theorem dX7_timer_1 : decode cX7_timer 1 = .ok (.getfield 51, 3) := by decide +kernel
theorem dX7_timer_4 : decode cX7_timer 4 = .ok (.iload_n 1, 1) := by decide +kernel
theorem dX7_timer_5 : decode cX7_timer 5 = .ok (.iaload, 1) := by decide +kernel
theorem dX7_timer_6 : decode cX7_timer 6 = .ok (.ifCond .le 15, 3) := by decide +kernel
theorem dX7_timer_9 : decode cX7_timer 9 = .ok (.aload_n 0, 1) := by decide +kernel
theorem dX7_timer_10 : decode cX7_timer 10 = .ok (.getfield 51, 3) := by decide +kernel
theorem dX7_timer_13 : decode cX7_timer 13 = .ok (.iload_n 1, 1) := by decide +kernel
theorem dX7_timer_14 : decode cX7_timer 14 = .ok (.dup2, 1) := by decide +kernel
theorem dX7_timer_15 : decode cX7_timer 15 = .ok (.iaload, 1) := by decide +kernel
theorem dX7_timer_16 : decode cX7_timer 16 = .ok (.iconst 1, 1) := by decide +kernel
theorem dX7_timer_17 : decode cX7_timer 17 = .ok (.isub, 1) := by decide +kernel
theorem dX7_timer_18 : decode cX7_timer 18 = .ok (.iastore, 1) := by decide +kernel
theorem dX7_timer_19 : decode cX7_timer 19 = .ok (.iconst 0, 1) := by decide +kernel
theorem dX7_timer_20 : decode cX7_timer 20 = .ok (.ireturn, 1) := by decide +kernel
theorem dX7_timer_21 : decode cX7_timer 21 = .ok (.aload_n 0, 1) := by decide +kernel
theorem dX7_timer_22 : decode cX7_timer 22 = .ok (.aload_n 0, 1) := by decide +kernel
theorem dX7_timer_23 : decode cX7_timer 23 = .ok (.getfield 95, 3) := by decide +kernel
theorem dX7_timer_26 : decode cX7_timer 26 = .ok (.iconst 1, 1) := by decide +kernel
theorem dX7_timer_27 : decode cX7_timer 27 = .ok (.iload_n 1, 1) := by decide +kernel
theorem dX7_timer_28 : decode cX7_timer 28 = .ok (.ishl, 1) := by decide +kernel
theorem dX7_timer_29 : decode cX7_timer 29 = .ok (.ior, 1) := by decide +kernel
theorem dX7_timer_30 : decode cX7_timer 30 = .ok (.putfield 95, 3) := by decide +kernel
theorem dX7_timer_33 : decode cX7_timer 33 = .ok (.aload_n 0, 1) := by decide +kernel
theorem dX7_timer_34 : decode cX7_timer 34 = .ok (.getfield 51, 3) := by decide +kernel
theorem dX7_timer_37 : decode cX7_timer 37 = .ok (.iload_n 1, 1) := by decide +kernel
theorem dX7_timer_38 : decode cX7_timer 38 = .ok (.aload_n 0, 1) := by decide +kernel
theorem dX7_timer_39 : decode cX7_timer 39 = .ok (.getfield 48, 3) := by decide +kernel
theorem dX7_timer_42 : decode cX7_timer 42 = .ok (.iload_n 1, 1) := by decide +kernel
theorem dX7_timer_43 : decode cX7_timer 43 = .ok (.iaload, 1) := by decide +kernel
theorem dX7_timer_44 : decode cX7_timer 44 = .ok (.iastore, 1) := by decide +kernel
theorem dX7_timer_45 : decode cX7_timer 45 = .ok (.aload_n 0, 1) := by decide +kernel
theorem dX7_timer_46 : decode cX7_timer 46 = .ok (.getfield 54, 3) := by decide +kernel
theorem dX7_timer_49 : decode cX7_timer 49 = .ok (.iload_n 1, 1) := by decide +kernel
theorem dX7_timer_50 : decode cX7_timer 50 = .ok (.aload_n 0, 1) := by decide +kernel
theorem dX7_timer_51 : decode cX7_timer 51 = .ok (.getfield 54, 3) := by decide +kernel
theorem dX7_timer_54 : decode cX7_timer 54 = .ok (.iload_n 1, 1) := by decide +kernel
theorem dX7_timer_55 : decode cX7_timer 55 = .ok (.iaload, 1) := by decide +kernel
theorem dX7_timer_56 : decode cX7_timer 56 = .ok (.bipush 8, 2) := by decide +kernel
theorem dX7_timer_58 : decode cX7_timer 58 = .ok (.iand, 1) := by decide +kernel
theorem dX7_timer_59 : decode cX7_timer 59 = .ok (.ifCond .eq 14, 3) := by decide +kernel
theorem dX7_timer_62 : decode cX7_timer 62 = .ok (.aload_n 0, 1) := by decide +kernel
theorem dX7_timer_63 : decode cX7_timer 63 = .ok (.getfield 54, 3) := by decide +kernel
theorem dX7_timer_66 : decode cX7_timer 66 = .ok (.iload_n 1, 1) := by decide +kernel
theorem dX7_timer_67 : decode cX7_timer 67 = .ok (.iaload, 1) := by decide +kernel
theorem dX7_timer_68 : decode cX7_timer 68 = .ok (.iconst 1, 1) := by decide +kernel
theorem dX7_timer_69 : decode cX7_timer 69 = .ok (.isub, 1) := by decide +kernel
theorem dX7_timer_70 : decode cX7_timer 70 = .ok (.goto 9, 3) := by decide +kernel
theorem dX7_timer_73 : decode cX7_timer 73 = .ok (.aload_n 0, 1) := by decide +kernel
theorem dX7_timer_74 : decode cX7_timer 74 = .ok (.getfield 54, 3) := by decide +kernel
theorem dX7_timer_77 : decode cX7_timer 77 = .ok (.iload_n 1, 1) := by decide +kernel
theorem dX7_timer_78 : decode cX7_timer 78 = .ok (.iaload, 1) := by decide +kernel
theorem dX7_timer_79 : decode cX7_timer 79 = .ok (.iastore, 1) := by decide +kernel
theorem dX7_timer_80 : decode cX7_timer 80 = .ok (.iconst 1, 1) := by decide +kernel
theorem dX7_timer_81 : decode cX7_timer 81 = .ok (.ireturn, 1) := by decide +kernel
set_option maxRecDepth 20000 in
theorem ggX7_timers_X7_timer : GoodIn wsX7_timers wsX7_timer := goodIn_r _ [6, 7, 8, 9, 1, 10, 11, 12, 13, 14, 15, 16, 17, 18, 19, 20, 21, 22, 23, 24, 25, 26, 27, 28, 29, 30, 31, 32, 33, 34, 35, 36, 37, 38, 39, 40, 41, 42, 43, 44, 45, 46, 47, 48, 49, 50] (by decide +kernel) (by decide +kernel)
set_option maxRecDepth 20000 in
theorem gX7_timers_X7_timer : GoodIn wsX7_timers (wsV RX7 133 RX7 yX7_timer wsX7_timer) := goodIn_app (goodIn_of _ (by decide +kernel)) ggX7_timers_X7_timer
theorem dX7_timers_0 : decode cX7_timers 0 = .ok (.aload_n 0, 1) := by decide +kernel
theorem dX7_timers_1 : decode cX7_timers 1 = .ok (.getfield 54, 3) := by decide +kernel
