theorem dX0_init_0 : decode cX0_init 0 = .ok (.aload_n 0, 1) := by decide +kernel
theorem dX0_init_1 : decode cX0_init 1 = .ok (.invokespecial 5, 3) := by decide +kernel
theorem dX0_init_4 : decode cX0_init 4 = .ok (.aload_n 0, 1) := by decide +kernel
theorem dX0_init_5 : decode cX0_init 5 = .ok (.bipush 7, 2) := by decide +kernel
theorem dX0_init_7 : decode cX0_init 7 = .ok (.putfield 11, 3) := by decide +kernel
theorem dX0_init_10 : decode cX0_init 10 = .ok (.aload_n 0, 1) := by decide +kernel
theorem dX0_init_11 : decode cX0_init 11 = .ok (.iconst (-1), 1) := by decide +kernel
theorem dX0_init_12 : decode cX0_init 12 = .ok (.putfield 15, 3) := by decide +kernel
theorem dX0_init_15 : decode cX0_init 15 = .ok (.aload_n 0, 1) := by decide +kernel
theorem dX0_init_16 : decode cX0_init 16 = .ok (.aload_n 1, 1) := by decide +kernel
theorem dX0_init_17 : decode cX0_init 17 = .ok (.putfield 18, 3) := by decide +kernel
theorem dX0_init_20 : decode cX0_init 20 = .ok (.aload_n 0, 1) := by decide +kernel
theorem dX0_init_21 : decode cX0_init 21 = .ok (.aload_n 2, 1) := by decide +kernel
theorem dX0_init_22 : decode cX0_init 22 = .ok (.putfield 22, 3) := by decide +kernel
theorem dX0_init_25 : decode cX0_init 25 = .ok (.aload_n 0, 1) := by decide +kernel
theorem dX0_init_26 : decode cX0_init 26 = .ok (.aload_n 3, 1) := by decide +kernel
theorem dX0_init_27 : decode cX0_init 27 = .ok (.putfield 25, 3) := by decide +kernel
theorem dX0_init_30 : decode cX0_init 30 = .ok (.aload_n 0, 1) := by decide +kernel
theorem dX0_init_31 : decode cX0_init 31 = .ok (.aload 4, 2) := by decide +kernel
theorem dX0_init_33 : decode cX0_init 33 = .ok (.putfield 28, 3) := by decide +kernel
theorem dX0_init_36 : decode cX0_init 36 = .ok (.aload_n 0, 1) := by decide +kernel
theorem dX0_init_37 : decode cX0_init 37 = .ok (.aload 5, 2) := by decide +kernel
theorem dX0_init_39 : decode cX0_init 39 = .ok (.putfield 31, 3) := by decide +kernel
theorem dX0_init_42 : decode cX0_init 42 = .ok (.aload_n 0, 1) := by decide +kernel
theorem dX0_init_43 : decode cX0_init 43 = .ok (.aload 6, 2) := by decide +kernel
theorem dX0_init_45 : decode cX0_init 45 = .ok (.putfield 35, 3) := by decide +kernel
theorem dX0_init_48 : decode cX0_init 48 = .ok (.return_, 1) := by decide +kernel
theorem dX0_read_0 : decode cX0_read 0 = .ok (.iload_n 1, 1) := by decide +kernel
theorem dX0_read_1 : decode cX0_read 1 = .ok (.sipush 8191, 3) := by decide +kernel
theorem dX0_read_4 : decode cX0_read 4 = .ok (.iand, 1) := by decide +kernel
theorem dX0_read_5 : decode cX0_read 5 = .ok (.istore_n 2, 1) := by decide +kernel
theorem dX0_read_6 : decode cX0_read 6 = .ok (.aload_n 0, 1) := by decide +kernel
theorem dX0_read_7 : decode cX0_read 7 = .ok (.iload_n 2, 1) := by decide +kernel
theorem dX0_read_8 : decode cX0_read 8 = .ok (.putfield 15, 3) := by decide +kernel
theorem dX0_read_11 : decode cX0_read 11 = .ok (.aload_n 0, 1) := by decide +kernel
theorem dX0_read_12 : decode cX0_read 12 = .ok (.iload_n 2, 1) := by decide +kernel
theorem dX0_read_13 : decode cX0_read 13 = .ok (.invokevirtual 39, 3) := by decide +kernel
theorem dX0_read_16 : decode cX0_read 16 = .ok (.istore_n 3, 1) := by decide +kernel
theorem dX0_read_17 : decode cX0_read 17 = .ok (.iload_n 2, 1) := by decide +kernel
theorem dX0_read_18 : decode cX0_read 18 = .ok (.sipush 6656, 3) := by decide +kernel
theorem dX0_read_21 : decode cX0_read 21 = .ok (.isub, 1) := by decide +kernel
theorem dX0_read_22 : decode cX0_read 22 = .ok (.istore 4, 2) := by decide +kernel
theorem dX0_read_24 : decode cX0_read 24 = .ok (.aload_n 0, 1) := by decide +kernel
theorem dX0_read_25 : decode cX0_read 25 = .ok (.iload_n 2, 1) := by decide +kernel
theorem dX0_read_26 : decode cX0_read 26 = .ok (.invokevirtual 43, 3) := by decide +kernel
theorem dX0_read_29 : decode cX0_read 29 = .ok (.ifCond .eq 23, 3) := by decide +kernel
theorem dX0_read_32 : decode cX0_read 32 = .ok (.iload 4, 2) := by decide +kernel
theorem dX0_read_34 : decode cX0_read 34 = .ok (.invokestatic 47, 3) := by decide +kernel
theorem dX0_read_37 : decode cX0_read 37 = .ok (.ifCond .eq 15, 3) := by decide +kernel
theorem dX0_read_40 : decode cX0_read 40 = .ok (.aload_n 0, 1) := by decide +kernel
theorem dX0_read_41 : decode cX0_read 41 = .ok (.getfield 35, 3) := by decide +kernel
theorem dX0_read_44 : decode cX0_read 44 = .ok (.iload 4, 2) := by decide +kernel
theorem dX0_read_46 : decode cX0_read 46 = .ok (.bipush 15, 2) := by decide +kernel
theorem dX0_read_48 : decode cX0_read 48 = .ok (.iand, 1) := by decide +kernel
theorem dX0_read_49 : decode cX0_read 49 = .ok (.invokevirtual 50, 3) := by decide +kernel
theorem dX0_read_52 : decode cX0_read 52 = .ok (.iload_n 3, 1) := by decide +kernel
theorem dX0_read_53 : decode cX0_read 53 = .ok (.ireturn, 1) := by decide +kernel
theorem dX0_write_0 : decode cX0_write 0 = .ok (.iload_n 1, 1) := by decide +kernel
theorem dX0_write_1 : decode cX0_write 1 = .ok (.sipush 8191, 3) := by decide +kernel
theorem dX0_write_4 : decode cX0_write 4 = .ok (.iand, 1) := by decide +kernel
theorem dX0_write_5 : decode cX0_write 5 = .ok (.istore_n 3, 1) := by decide +kernel
theorem dX0_write_6 : decode cX0_write 6 = .ok (.iload_n 3, 1) := by decide +kernel
theorem dX0_write_7 : decode cX0_write 7 = .ok (.sipush 6656, 3) := by decide +kernel
theorem dX0_write_10 : decode cX0_write 10 = .ok (.isub, 1) := by decide +kernel
theorem dX0_write_11 : decode cX0_write 11 = .ok (.istore 4, 2) := by decide +kernel
theorem dX0_write_13 : decode cX0_write 13 = .ok (.aload_n 0, 1) := by decide +kernel
theorem dX0_write_14 : decode cX0_write 14 = .ok (.iload_n 3, 1) := by decide +kernel
theorem dX0_write_15 : decode cX0_write 15 = .ok (.sipush 8192, 3) := by decide +kernel
theorem dX0_write_18 : decode cX0_write 18 = .ok (.iadd, 1) := by decide +kernel
theorem dX0_write_19 : decode cX0_write 19 = .ok (.putfield 15, 3) := by decide +kernel
theorem dX0_write_22 : decode cX0_write 22 = .ok (.iload_n 3, 1) := by decide +kernel
theorem dX0_write_23 : decode cX0_write 23 = .ok (.iconst 1, 1) := by decide +kernel
theorem dX0_write_24 : decode cX0_write 24 = .ok (.if_icmp .ne 14, 3) := by decide +kernel
theorem dX0_write_27 : decode cX0_write 27 = .ok (.aload_n 0, 1) := by decide +kernel
theorem dX0_write_28 : decode cX0_write 28 = .ok (.iload_n 2, 1) := by decide +kernel
theorem dX0_write_29 : decode cX0_write 29 = .ok (.bipush 7, 2) := by decide +kernel
theorem dX0_write_31 : decode cX0_write 31 = .ok (.iand, 1) := by decide +kernel
theorem dX0_write_32 : decode cX0_write 32 = .ok (.putfield 11, 3) := by decide +kernel
theorem dX0_write_35 : decode cX0_write 35 = .ok (.goto 82, 3) := by decide +kernel
theorem dX0_write_38 : decode cX0_write 38 = .ok (.aload_n 0, 1) := by decide +kernel
theorem dX0_write_39 : decode cX0_write 39 = .ok (.iload_n 3, 1) := by decide +kernel
theorem dX0_write_40 : decode cX0_write 40 = .ok (.invokevirtual 43, 3) := by decide +kernel
theorem dX0_write_43 : decode cX0_write 43 = .ok (.ifCond .ne 13, 3) := by decide +kernel
theorem dX0_write_46 : decode cX0_write 46 = .ok (.aload_n 0, 1) := by decide +kernel
theorem dX0_write_47 : decode cX0_write 47 = .ok (.getfield 18, 3) := by decide +kernel
theorem dX0_write_50 : decode cX0_write 50 = .ok (.iload_n 3, 1) := by decide +kernel
theorem dX0_write_51 : decode cX0_write 51 = .ok (.iload_n 2, 1) := by decide +kernel
theorem dX0_write_52 : decode cX0_write 52 = .ok (.iastore, 1) := by decide +kernel
theorem dX0_write_53 : decode cX0_write 53 = .ok (.goto 64, 3) := by decide +kernel
theorem dX0_write_56 : decode cX0_write 56 = .ok (.iload 4, 2) := by decide +kernel
theorem dX0_write_58 : decode cX0_write 58 = .ok (.bipush 64, 2) := by decide +kernel
theorem dX0_write_60 : decode cX0_write 60 = .ok (.if_icmp .ge 19, 3) := by decide +kernel
theorem dX0_write_63 : decode cX0_write 63 = .ok (.aload_n 0, 1) := by decide +kernel
theorem dX0_write_64 : decode cX0_write 64 = .ok (.getfield 31, 3) := by decide +kernel
theorem dX0_write_67 : decode cX0_write 67 = .ok (.iload 4, 2) := by decide +kernel
theorem dX0_write_69 : decode cX0_write 69 = .ok (.bipush 15, 2) := by decide +kernel
theorem dX0_write_71 : decode cX0_write 71 = .ok (.iand, 1) := by decide +kernel
theorem dX0_write_72 : decode cX0_write 72 = .ok (.iload_n 2, 1) := by decide +kernel
theorem dX0_write_73 : decode cX0_write 73 = .ok (.invokevirtual 56, 3) := by decide +kernel
theorem dX0_write_76 : decode cX0_write 76 = .ok (.goto 41, 3) := by decide +kernel
theorem dX0_write_79 : decode cX0_write 79 = .ok (.iload 4, 2) := by decide +kernel
theorem dX0_write_81 : decode cX0_write 81 = .ok (.invokestatic 47, 3) := by decide +kernel
theorem dX0_write_84 : decode cX0_write 84 = .ok (.ifCond .eq 19, 3) := by decide +kernel
theorem dX0_write_87 : decode cX0_write 87 = .ok (.aload_n 0, 1) := by decide +kernel
theorem dX0_write_88 : decode cX0_write 88 = .ok (.getfield 35, 3) := by decide +kernel
theorem dX0_write_91 : decode cX0_write 91 = .ok (.iload 4, 2) := by decide +kernel
theorem dX0_write_93 : decode cX0_write 93 = .ok (.bipush 15, 2) := by decide +kernel
theorem dX0_write_95 : decode cX0_write 95 = .ok (.iand, 1) := by decide +kernel
theorem dX0_write_96 : decode cX0_write 96 = .ok (.iload_n 2, 1) := by decide +kernel
theorem dX0_write_97 : decode cX0_write 97 = .ok (.invokevirtual 62, 3) := by decide +kernel
theorem dX0_write_100 : decode cX0_write 100 = .ok (.goto 17, 3) := by decide +kernel
theorem dX0_write_103 : decode cX0_write 103 = .ok (.aload_n 0, 1) := by decide +kernel
theorem dX0_write_104 : decode cX0_write 104 = .ok (.getfield 31, 3) := by decide +kernel
theorem dX0_write_107 : decode cX0_write 107 = .ok (.iload 4, 2) := by decide +kernel
theorem dX0_write_109 : decode cX0_write 109 = .ok (.sipush 128, 3) := by decide +kernel
theorem dX0_write_112 : decode cX0_write 112 = .ok (.isub, 1) := by decide +kernel
theorem dX0_write_113 : decode cX0_write 113 = .ok (.iload_n 2, 1) := by decide +kernel
theorem dX0_write_114 : decode cX0_write 114 = .ok (.invokevirtual 63, 3) := by decide +kernel
theorem dX0_write_117 : decode cX0_write 117 = .ok (.return_, 1) := by decide +kernel
theorem dX0_peek_0 : decode cX0_peek 0 = .ok (.iload_n 1, 1) := by decide +kernel
theorem dX0_peek_1 : decode cX0_peek 1 = .ok (.sipush 8191, 3) := by decide +kernel
theorem dX0_peek_4 : decode cX0_peek 4 = .ok (.iand, 1) := by decide +kernel
theorem dX0_peek_5 : decode cX0_peek 5 = .ok (.istore_n 2, 1) := by decide +kernel
theorem dX0_peek_6 : decode cX0_peek 6 = .ok (.iload_n 2, 1) := by decide +kernel
theorem dX0_peek_7 : decode cX0_peek 7 = .ok (.sipush 6656, 3) := by decide +kernel
theorem dX0_peek_10 : decode cX0_peek 10 = .ok (.isub, 1) := by decide +kernel
theorem dX0_peek_11 : decode cX0_peek 11 = .ok (.istore_n 3, 1) := by decide +kernel
theorem dX0_peek_12 : decode cX0_peek 12 = .ok (.aload_n 0, 1) := by decide +kernel
theorem dX0_peek_13 : decode cX0_peek 13 = .ok (.iload_n 2, 1) := by decide +kernel
theorem dX0_peek_14 : decode cX0_peek 14 = .ok (.invokevirtual 43, 3) := by decide +kernel
theorem dX0_peek_17 : decode cX0_peek 17 = .ok (.ifCond .ne 9, 3) := by decide +kernel
theorem dX0_peek_20 : decode cX0_peek 20 = .ok (.aload_n 0, 1) := by decide +kernel
theorem dX0_peek_21 : decode cX0_peek 21 = .ok (.iload_n 2, 1) := by decide +kernel
theorem dX0_peek_22 : decode cX0_peek 22 = .ok (.invokevirtual 66, 3) := by decide +kernel
theorem dX0_peek_25 : decode cX0_peek 25 = .ok (.ireturn, 1) := by decide +kernel
theorem dX0_peek_26 : decode cX0_peek 26 = .ok (.iload_n 3, 1) := by decide +kernel
theorem dX0_peek_27 : decode cX0_peek 27 = .ok (.bipush 64, 2) := by decide +kernel
theorem dX0_peek_29 : decode cX0_peek 29 = .ok (.if_icmp .ge 15, 3) := by decide +kernel
theorem dX0_peek_32 : decode cX0_peek 32 = .ok (.aload_n 0, 1) := by decide +kernel
theorem dX0_peek_33 : decode cX0_peek 33 = .ok (.getfield 31, 3) := by decide +kernel
theorem dX0_peek_36 : decode cX0_peek 36 = .ok (.iload_n 3, 1) := by decide +kernel
theorem dX0_peek_37 : decode cX0_peek 37 = .ok (.bipush 15, 2) := by decide +kernel
theorem dX0_peek_39 : decode cX0_peek 39 = .ok (.iand, 1) := by decide +kernel
theorem dX0_peek_40 : decode cX0_peek 40 = .ok (.invokevirtual 69, 3) := by decide +kernel
theorem dX0_peek_43 : decode cX0_peek 43 = .ok (.ireturn, 1) := by decide +kernel
theorem dX0_peek_44 : decode cX0_peek 44 = .ok (.iload_n 3, 1) := by decide +kernel
theorem dX0_peek_45 : decode cX0_peek 45 = .ok (.invokestatic 47, 3) := by decide +kernel
theorem dX0_peek_48 : decode cX0_peek 48 = .ok (.ifCond .eq 15, 3) := by decide +kernel
theorem dX0_peek_51 : decode cX0_peek 51 = .ok (.aload_n 0, 1) := by decide +kernel
theorem dX0_peek_52 : decode cX0_peek 52 = .ok (.getfield 35, 3) := by decide +kernel
theorem dX0_peek_55 : decode cX0_peek 55 = .ok (.iload_n 3, 1) := by decide +kernel
theorem dX0_peek_56 : decode cX0_peek 56 = .ok (.bipush 15, 2) := by decide +kernel
theorem dX0_peek_58 : decode cX0_peek 58 = .ok (.iand, 1) := by decide +kernel
theorem dX0_peek_59 : decode cX0_peek 59 = .ok (.invokevirtual 72, 3) := by decide +kernel
theorem dX0_peek_62 : decode cX0_peek 62 = .ok (.ireturn, 1) := by decide +kernel
theorem dX0_peek_63 : decode cX0_peek 63 = .ok (.aload_n 0, 1) := by decide +kernel
theorem dX0_peek_64 : decode cX0_peek 64 = .ok (.getfield 31, 3) := by decide +kernel
theorem dX0_peek_67 : decode cX0_peek 67 = .ok (.iload_n 3, 1) := by decide +kernel
theorem dX0_peek_68 : decode cX0_peek 68 = .ok (.sipush 128, 3) := by decide +kernel
theorem dX0_peek_71 : decode cX0_peek 71 = .ok (.isub, 1) := by decide +kernel
theorem dX0_peek_72 : decode cX0_peek 72 = .ok (.invokevirtual 73, 3) := by decide +kernel
theorem dX0_peek_75 : decode cX0_peek 75 = .ok (.ireturn, 1) := by decide +kernel
theorem dX0_peekMemory_0 : decode cX0_peekMemory 0 = .ok (.iload_n 1, 1) := by decide +kernel
theorem dX0_peekMemory_1 : decode cX0_peekMemory 1 = .ok (.sipush 8191, 3) := by decide +kernel
theorem dX0_peekMemory_4 : decode cX0_peekMemory 4 = .ok (.iand, 1) := by decide +kernel
theorem dX0_peekMemory_5 : decode cX0_peekMemory 5 = .ok (.istore_n 2, 1) := by decide +kernel
theorem dX0_peekMemory_6 : decode cX0_peekMemory 6 = .ok (.iload_n 2, 1) := by decide +kernel
theorem dX0_peekMemory_7 : decode cX0_peekMemory 7 = .ok (.iconst 1, 1) := by decide +kernel
theorem dX0_peekMemory_8 : decode cX0_peekMemory 8 = .ok (.if_icmp .ne 8, 3) := by decide +kernel
theorem dX0_peekMemory_11 : decode cX0_peekMemory 11 = .ok (.aload_n 0, 1) := by decide +kernel
theorem dX0_peekMemory_12 : decode cX0_peekMemory 12 = .ok (.getfield 11, 3) := by decide +kernel
theorem dX0_peekMemory_15 : decode cX0_peekMemory 15 = .ok (.ireturn, 1) := by decide +kernel
theorem dX0_peekMemory_16 : decode cX0_peekMemory 16 = .ok (.iload_n 2, 1) := by decide +kernel
theorem dX0_peekMemory_17 : decode cX0_peekMemory 17 = .ok (.sipush 5120, 3) := by decide +kernel
theorem dX0_peekMemory_20 : decode cX0_peekMemory 20 = .ok (.isub, 1) := by decide +kernel
theorem dX0_peekMemory_21 : decode cX0_peekMemory 21 = .ok (.istore_n 3, 1) := by decide +kernel
theorem dX0_peekMemory_22 : decode cX0_peekMemory 22 = .ok (.iload_n 3, 1) := by decide +kernel
theorem dX0_peekMemory_23 : decode cX0_peekMemory 23 = .ok (.ifCond .lt 35, 3) := by decide +kernel
theorem dX0_peekMemory_26 : decode cX0_peekMemory 26 = .ok (.iload_n 3, 1) := by decide +kernel
theorem dX0_peekMemory_27 : decode cX0_peekMemory 27 = .ok (.sipush 1024, 3) := by decide +kernel
theorem dX0_peekMemory_30 : decode cX0_peekMemory 30 = .ok (.if_icmp .ge 28, 3) := by decide +kernel
theorem dX0_peekMemory_33 : decode cX0_peekMemory 33 = .ok (.aload_n 0, 1) := by decide +kernel
theorem dX0_peekMemory_34 : decode cX0_peekMemory 34 = .ok (.getfield 11, 3) := by decide +kernel
theorem dX0_peekMemory_37 : decode cX0_peekMemory 37 = .ok (.iconst 1, 1) := by decide +kernel
theorem dX0_peekMemory_38 : decode cX0_peekMemory 38 = .ok (.iand, 1) := by decide +kernel
theorem dX0_peekMemory_39 : decode cX0_peekMemory 39 = .ok (.ifCond .eq 19, 3) := by decide +kernel
theorem dX0_peekMemory_42 : decode cX0_peekMemory 42 = .ok (.aload_n 0, 1) := by decide +kernel
theorem dX0_peekMemory_43 : decode cX0_peekMemory 43 = .ok (.getfield 11, 3) := by decide +kernel
theorem dX0_peekMemory_46 : decode cX0_peekMemory 46 = .ok (.iconst 2, 1) := by decide +kernel
theorem dX0_peekMemory_47 : decode cX0_peekMemory 47 = .ok (.iand, 1) := by decide +kernel
theorem dX0_peekMemory_48 : decode cX0_peekMemory 48 = .ok (.ifCond .eq 10, 3) := by decide +kernel
theorem dX0_peekMemory_51 : decode cX0_peekMemory 51 = .ok (.aload_n 0, 1) := by decide +kernel
theorem dX0_peekMemory_52 : decode cX0_peekMemory 52 = .ok (.getfield 22, 3) := by decide +kernel
theorem dX0_peekMemory_55 : decode cX0_peekMemory 55 = .ok (.iload_n 3, 1) := by decide +kernel
theorem dX0_peekMemory_56 : decode cX0_peekMemory 56 = .ok (.iaload, 1) := by decide +kernel
theorem dX0_peekMemory_57 : decode cX0_peekMemory 57 = .ok (.ireturn, 1) := by decide +kernel
theorem dX0_peekMemory_58 : decode cX0_peekMemory 58 = .ok (.iload_n 2, 1) := by decide +kernel
theorem dX0_peekMemory_59 : decode cX0_peekMemory 59 = .ok (.sipush 7168, 3) := by decide +kernel
theorem dX0_peekMemory_62 : decode cX0_peekMemory 62 = .ok (.if_icmp .lt 32, 3) := by decide +kernel
theorem dX0_peekMemory_65 : decode cX0_peekMemory 65 = .ok (.aload_n 0, 1) := by decide +kernel
theorem dX0_peekMemory_66 : decode cX0_peekMemory 66 = .ok (.getfield 11, 3) := by decide +kernel
theorem dX0_peekMemory_69 : decode cX0_peekMemory 69 = .ok (.iconst 2, 1) := by decide +kernel
theorem dX0_peekMemory_70 : decode cX0_peekMemory 70 = .ok (.iand, 1) := by decide +kernel
theorem dX0_peekMemory_71 : decode cX0_peekMemory 71 = .ok (.ifCond .eq 16, 3) := by decide +kernel
theorem dX0_peekMemory_74 : decode cX0_peekMemory 74 = .ok (.aload_n 0, 1) := by decide +kernel
theorem dX0_peekMemory_75 : decode cX0_peekMemory 75 = .ok (.getfield 28, 3) := by decide +kernel
theorem dX0_peekMemory_78 : decode cX0_peekMemory 78 = .ok (.iload_n 2, 1) := by decide +kernel
theorem dX0_peekMemory_79 : decode cX0_peekMemory 79 = .ok (.sipush 7168, 3) := by decide +kernel
theorem dX0_peekMemory_82 : decode cX0_peekMemory 82 = .ok (.isub, 1) := by decide +kernel
theorem dX0_peekMemory_83 : decode cX0_peekMemory 83 = .ok (.iaload, 1) := by decide +kernel
theorem dX0_peekMemory_84 : decode cX0_peekMemory 84 = .ok (.goto 9, 3) := by decide +kernel
theorem dX0_peekMemory_87 : decode cX0_peekMemory 87 = .ok (.aload_n 0, 1) := by decide +kernel
theorem dX0_peekMemory_88 : decode cX0_peekMemory 88 = .ok (.getfield 18, 3) := by decide +kernel
theorem dX0_peekMemory_91 : decode cX0_peekMemory 91 = .ok (.iload_n 2, 1) := by decide +kernel
theorem dX0_peekMemory_92 : decode cX0_peekMemory 92 = .ok (.iaload, 1) := by decide +kernel
theorem dX0_peekMemory_93 : decode cX0_peekMemory 93 = .ok (.ireturn, 1) := by decide +kernel
theorem dX0_peekMemory_94 : decode cX0_peekMemory 94 = .ok (.iload_n 2, 1) := by decide +kernel
theorem dX0_peekMemory_95 : decode cX0_peekMemory 95 = .ok (.sipush 6656, 3) := by decide +kernel
theorem dX0_peekMemory_98 : decode cX0_peekMemory 98 = .ok (.if_icmp .lt 23, 3) := by decide +kernel
theorem dX0_peekMemory_101 : decode cX0_peekMemory 101 = .ok (.aload_n 0, 1) := by decide +kernel
theorem dX0_peekMemory_102 : decode cX0_peekMemory 102 = .ok (.getfield 11, 3) := by decide +kernel
theorem dX0_peekMemory_105 : decode cX0_peekMemory 105 = .ok (.iconst 3, 1) := by decide +kernel
theorem dX0_peekMemory_106 : decode cX0_peekMemory 106 = .ok (.iand, 1) := by decide +kernel
theorem dX0_peekMemory_107 : decode cX0_peekMemory 107 = .ok (.ifCond .eq 14, 3) := by decide +kernel
theorem dX0_peekMemory_110 : decode cX0_peekMemory 110 = .ok (.aload_n 0, 1) := by decide +kernel
theorem dX0_peekMemory_111 : decode cX0_peekMemory 111 = .ok (.getfield 25, 3) := by decide +kernel
theorem dX0_peekMemory_114 : decode cX0_peekMemory 114 = .ok (.iload_n 2, 1) := by decide +kernel
theorem dX0_peekMemory_115 : decode cX0_peekMemory 115 = .ok (.sipush 6656, 3) := by decide +kernel
theorem dX0_peekMemory_118 : decode cX0_peekMemory 118 = .ok (.isub, 1) := by decide +kernel
theorem dX0_peekMemory_119 : decode cX0_peekMemory 119 = .ok (.iaload, 1) := by decide +kernel
theorem dX0_peekMemory_120 : decode cX0_peekMemory 120 = .ok (.ireturn, 1) := by decide +kernel
theorem dX0_peekMemory_121 : decode cX0_peekMemory 121 = .ok (.aload_n 0, 1) := by decide +kernel
theorem dX0_peekMemory_122 : decode cX0_peekMemory 122 = .ok (.getfield 18, 3) := by decide +kernel
theorem dX0_peekMemory_125 : decode cX0_peekMemory 125 = .ok (.iload_n 2, 1) := by decide +kernel
theorem dX0_peekMemory_126 : decode cX0_peekMemory 126 = .ok (.iaload, 1) := by decide +kernel
theorem dX0_peekMemory_127 : decode cX0_peekMemory 127 = .ok (.ireturn, 1) := by decide +kernel
theorem dX0_showsRegisters_0 : decode cX0_showsRegisters 0 = .ok (.iload_n 1, 1) := by decide +kernel
theorem dX0_showsRegisters_1 : decode cX0_showsRegisters 1 = .ok (.sipush 6656, 3) := by decide +kernel
theorem dX0_showsRegisters_4 : decode cX0_showsRegisters 4 = .ok (.if_icmp .lt 32, 3) := by decide +kernel
theorem dX0_showsRegisters_7 : decode cX0_showsRegisters 7 = .ok (.iload_n 1, 1) := by decide +kernel
theorem dX0_showsRegisters_8 : decode cX0_showsRegisters 8 = .ok (.sipush 7168, 3) := by decide +kernel
theorem dX0_showsRegisters_11 : decode cX0_showsRegisters 11 = .ok (.if_icmp .ge 25, 3) := by decide +kernel
theorem dX0_showsRegisters_14 : decode cX0_showsRegisters 14 = .ok (.aload_n 0, 1) := by decide +kernel
theorem dX0_showsRegisters_15 : decode cX0_showsRegisters 15 = .ok (.getfield 11, 3) := by decide +kernel
theorem dX0_showsRegisters_18 : decode cX0_showsRegisters 18 = .ok (.iconst 3, 1) := by decide +kernel
theorem dX0_showsRegisters_19 : decode cX0_showsRegisters 19 = .ok (.iand, 1) := by decide +kernel
theorem dX0_showsRegisters_20 : decode cX0_showsRegisters 20 = .ok (.ifCond .eq 16, 3) := by decide +kernel
theorem dX0_showsRegisters_23 : decode cX0_showsRegisters 23 = .ok (.aload_n 0, 1) := by decide +kernel
theorem dX0_showsRegisters_24 : decode cX0_showsRegisters 24 = .ok (.getfield 11, 3) := by decide +kernel
theorem dX0_showsRegisters_27 : decode cX0_showsRegisters 27 = .ok (.iconst 4, 1) := by decide +kernel
theorem dX0_showsRegisters_28 : decode cX0_showsRegisters 28 = .ok (.iand, 1) := by decide +kernel
theorem dX0_showsRegisters_29 : decode cX0_showsRegisters 29 = .ok (.ifCond .eq 7, 3) := by decide +kernel
theorem dX0_showsRegisters_32 : decode cX0_showsRegisters 32 = .ok (.iconst 1, 1) := by decide +kernel
theorem dX0_showsRegisters_33 : decode cX0_showsRegisters 33 = .ok (.goto 4, 3) := by decide +kernel
theorem dX0_showsRegisters_36 : decode cX0_showsRegisters 36 = .ok (.iconst 0, 1) := by decide +kernel
theorem dX0_showsRegisters_37 : decode cX0_showsRegisters 37 = .ok (.ireturn, 1) := by decide +kernel
theorem dX0_isInterfacePlace_0 : decode cX0_isInterfacePlace 0 = .ok (.iload_n 0, 1) := by decide +kernel
theorem dX0_isInterfacePlace_1 : decode cX0_isInterfacePlace 1 = .ok (.bipush 64, 2) := by decide +kernel
theorem dX0_isInterfacePlace_3 : decode cX0_isInterfacePlace 3 = .ok (.if_icmp .lt 14, 3) := by decide +kernel
theorem dX0_isInterfacePlace_6 : decode cX0_isInterfacePlace 6 = .ok (.iload_n 0, 1) := by decide +kernel
theorem dX0_isInterfacePlace_7 : decode cX0_isInterfacePlace 7 = .ok (.sipush 128, 3) := by decide +kernel
theorem dX0_isInterfacePlace_10 : decode cX0_isInterfacePlace 10 = .ok (.if_icmp .ge 7, 3) := by decide +kernel
theorem dX0_isInterfacePlace_13 : decode cX0_isInterfacePlace 13 = .ok (.iconst 1, 1) := by decide +kernel
theorem dX0_isInterfacePlace_14 : decode cX0_isInterfacePlace 14 = .ok (.goto 4, 3) := by decide +kernel
theorem dX0_isInterfacePlace_17 : decode cX0_isInterfacePlace 17 = .ok (.iconst 0, 1) := by decide +kernel
theorem dX0_isInterfacePlace_18 : decode cX0_isInterfacePlace 18 = .ok (.ireturn, 1) := by decide +kernel
theorem dX1_init_0 : decode cX1_init 0 = .ok (.aload_n 0, 1) := by decide +kernel
theorem dX1_init_1 : decode cX1_init 1 = .ok (.invokespecial 3, 3) := by decide +kernel
theorem dX1_init_4 : decode cX1_init 4 = .ok (.aload_n 0, 1) := by decide +kernel
theorem dX1_init_5 : decode cX1_init 5 = .ok (.bipush 8, 2) := by decide +kernel
theorem dX1_init_7 : decode cX1_init 7 = .ok (.newarray .int, 2) := by decide +kernel
theorem dX1_init_9 : decode cX1_init 9 = .ok (.putfield 9, 3) := by decide +kernel
theorem dX1_init_12 : decode cX1_init 12 = .ok (.aload_n 0, 1) := by decide +kernel
theorem dX1_init_13 : decode cX1_init 13 = .ok (.new 13, 3) := by decide +kernel
theorem dX1_init_16 : decode cX1_init 16 = .ok (.dup, 1) := by decide +kernel
theorem dX1_init_17 : decode cX1_init 17 = .ok (.bipush 9, 2) := by decide +kernel
theorem dX1_init_19 : decode cX1_init 19 = .ok (.invokespecial 15, 3) := by decide +kernel
theorem dX1_init_22 : decode cX1_init 22 = .ok (.putfield 18, 3) := by decide +kernel
theorem dX1_init_25 : decode cX1_init 25 = .ok (.aload_n 0, 1) := by decide +kernel
theorem dX1_init_26 : decode cX1_init 26 = .ok (.new 13, 3) := by decide +kernel
theorem dX1_init_29 : decode cX1_init 29 = .ok (.dup, 1) := by decide +kernel
theorem dX1_init_30 : decode cX1_init 30 = .ok (.bipush 73, 2) := by decide +kernel
theorem dX1_init_32 : decode cX1_init 32 = .ok (.invokespecial 15, 3) := by decide +kernel
theorem dX1_init_35 : decode cX1_init 35 = .ok (.putfield 22, 3) := by decide +kernel
theorem dX1_init_38 : decode cX1_init 38 = .ok (.aload_n 0, 1) := by decide +kernel
theorem dX1_init_39 : decode cX1_init 39 = .ok (.sipush 255, 3) := by decide +kernel
theorem dX1_init_42 : decode cX1_init 42 = .ok (.putfield 25, 3) := by decide +kernel
theorem dX1_init_45 : decode cX1_init 45 = .ok (.return_, 1) := by decide +kernel
theorem dX1_setKeys_0 : decode cX1_setKeys 0 = .ok (.iload_n 1, 1) := by decide +kernel
theorem dX1_setKeys_1 : decode cX1_setKeys 1 = .ok (.ifCond .lt 16, 3) := by decide +kernel
theorem dX1_setKeys_4 : decode cX1_setKeys 4 = .ok (.iload_n 1, 1) := by decide +kernel
theorem dX1_setKeys_5 : decode cX1_setKeys 5 = .ok (.bipush 8, 2) := by decide +kernel
theorem dX1_setKeys_7 : decode cX1_setKeys 7 = .ok (.if_icmp .ge 10, 3) := by decide +kernel
theorem dX1_setKeys_10 : decode cX1_setKeys 10 = .ok (.aload_n 0, 1) := by decide +kernel
theorem dX1_setKeys_11 : decode cX1_setKeys 11 = .ok (.getfield 9, 3) := by decide +kernel
theorem dX1_setKeys_14 : decode cX1_setKeys 14 = .ok (.iload_n 1, 1) := by decide +kernel
theorem dX1_setKeys_15 : decode cX1_setKeys 15 = .ok (.iload_n 2, 1) := by decide +kernel
theorem dX1_setKeys_16 : decode cX1_setKeys 16 = .ok (.iastore, 1) := by decide +kernel
theorem dX1_setKeys_17 : decode cX1_setKeys 17 = .ok (.aload_n 0, 1) := by decide +kernel
theorem dX1_setKeys_18 : decode cX1_setKeys 18 = .ok (.invokevirtual 29, 3) := by decide +kernel
theorem dX1_setKeys_21 : decode cX1_setKeys 21 = .ok (.return_, 1) := by decide +kernel
theorem dX1_scanKeys_0 : decode cX1_scanKeys 0 = .ok (.aload_n 0, 1) := by decide +kernel
theorem dX1_scanKeys_1 : decode cX1_scanKeys 1 = .ok (.sipush 255, 3) := by decide +kernel
theorem dX1_scanKeys_4 : decode cX1_scanKeys 4 = .ok (.putfield 25, 3) := by decide +kernel
theorem dX1_scanKeys_7 : decode cX1_scanKeys 7 = .ok (.iconst 0, 1) := by decide +kernel
theorem dX1_scanKeys_8 : decode cX1_scanKeys 8 = .ok (.istore_n 1, 1) := by decide +kernel
theorem dX1_scanKeys_9 : decode cX1_scanKeys 9 = .ok (.iload_n 1, 1) := by decide +kernel
theorem dX1_scanKeys_10 : decode cX1_scanKeys 10 = .ok (.bipush 8, 2) := by decide +kernel
theorem dX1_scanKeys_12 : decode cX1_scanKeys 12 = .ok (.if_icmp .ge 37, 3) := by decide +kernel
theorem dX1_scanKeys_15 : decode cX1_scanKeys 15 = .ok (.aload_n 0, 1) := by decide +kernel
theorem dX1_scanKeys_16 : decode cX1_scanKeys 16 = .ok (.getfield 32, 3) := by decide +kernel
theorem dX1_scanKeys_19 : decode cX1_scanKeys 19 = .ok (.iload_n 1, 1) := by decide +kernel
theorem dX1_scanKeys_20 : decode cX1_scanKeys 20 = .ok (.ishr, 1) := by decide +kernel
theorem dX1_scanKeys_21 : decode cX1_scanKeys 21 = .ok (.iconst 1, 1) := by decide +kernel
theorem dX1_scanKeys_22 : decode cX1_scanKeys 22 = .ok (.iand, 1) := by decide +kernel
theorem dX1_scanKeys_23 : decode cX1_scanKeys 23 = .ok (.ifCond .ne 20, 3) := by decide +kernel
theorem dX1_scanKeys_26 : decode cX1_scanKeys 26 = .ok (.aload_n 0, 1) := by decide +kernel
theorem dX1_scanKeys_27 : decode cX1_scanKeys 27 = .ok (.dup, 1) := by decide +kernel
theorem dX1_scanKeys_28 : decode cX1_scanKeys 28 = .ok (.getfield 25, 3) := by decide +kernel
theorem dX1_scanKeys_31 : decode cX1_scanKeys 31 = .ok (.aload_n 0, 1) := by decide +kernel
theorem dX1_scanKeys_32 : decode cX1_scanKeys 32 = .ok (.getfield 9, 3) := by decide +kernel
theorem dX1_scanKeys_35 : decode cX1_scanKeys 35 = .ok (.iload_n 1, 1) := by decide +kernel
theorem dX1_scanKeys_36 : decode cX1_scanKeys 36 = .ok (.iaload, 1) := by decide +kernel
theorem dX1_scanKeys_37 : decode cX1_scanKeys 37 = .ok (.iconst (-1), 1) := by decide +kernel
theorem dX1_scanKeys_38 : decode cX1_scanKeys 38 = .ok (.ixor, 1) := by decide +kernel
theorem dX1_scanKeys_39 : decode cX1_scanKeys 39 = .ok (.iand, 1) := by decide +kernel
theorem dX1_scanKeys_40 : decode cX1_scanKeys 40 = .ok (.putfield 25, 3) := by decide +kernel
theorem dX1_scanKeys_43 : decode cX1_scanKeys 43 = .ok (.iinc 1 1, 3) := by decide +kernel
theorem dX1_scanKeys_46 : decode cX1_scanKeys 46 = .ok (.goto (-37), 3) := by decide +kernel
theorem dX1_scanKeys_49 : decode cX1_scanKeys 49 = .ok (.return_, 1) := by decide +kernel
theorem dX1_countTimers_0 : decode cX1_countTimers 0 = .ok (.aload_n 0, 1) := by decide +kernel
theorem dX1_countTimers_1 : decode cX1_countTimers 1 = .ok (.getfield 18, 3) := by decide +kernel
theorem dX1_countTimers_4 : decode cX1_countTimers 4 = .ok (.invokevirtual 35, 3) := by decide +kernel
theorem dX1_countTimers_7 : decode cX1_countTimers 7 = .ok (.ifCond .eq 17, 3) := by decide +kernel
theorem dX1_countTimers_10 : decode cX1_countTimers 10 = .ok (.aload_n 0, 1) := by decide +kernel
theorem dX1_countTimers_11 : decode cX1_countTimers 11 = .ok (.getfield 18, 3) := by decide +kernel
theorem dX1_countTimers_14 : decode cX1_countTimers 14 = .ok (.invokevirtual 39, 3) := by decide +kernel
theorem dX1_countTimers_17 : decode cX1_countTimers 17 = .ok (.ifCond .eq 7, 3) := by decide +kernel
theorem dX1_countTimers_20 : decode cX1_countTimers 20 = .ok (.iconst 1, 1) := by decide +kernel
theorem dX1_countTimers_21 : decode cX1_countTimers 21 = .ok (.goto 4, 3) := by decide +kernel
theorem dX1_countTimers_24 : decode cX1_countTimers 24 = .ok (.iconst 0, 1) := by decide +kernel
theorem dX1_countTimers_25 : decode cX1_countTimers 25 = .ok (.istore_n 1, 1) := by decide +kernel
theorem dX1_countTimers_26 : decode cX1_countTimers 26 = .ok (.iload_n 1, 1) := by decide +kernel
theorem dX1_countTimers_27 : decode cX1_countTimers 27 = .ok (.ifCond .eq 13, 3) := by decide +kernel
theorem dX1_countTimers_30 : decode cX1_countTimers 30 = .ok (.aload_n 0, 1) := by decide +kernel
theorem dX1_countTimers_31 : decode cX1_countTimers 31 = .ok (.dup, 1) := by decide +kernel
theorem dX1_countTimers_32 : decode cX1_countTimers 32 = .ok (.getfield 42, 3) := by decide +kernel
theorem dX1_countTimers_35 : decode cX1_countTimers 35 = .ok (.iconst 1, 1) := by decide +kernel
theorem dX1_countTimers_36 : decode cX1_countTimers 36 = .ok (.ior, 1) := by decide +kernel
theorem dX1_countTimers_37 : decode cX1_countTimers 37 = .ok (.putfield 42, 3) := by decide +kernel
theorem dX1_countTimers_40 : decode cX1_countTimers 40 = .ok (.aload_n 0, 1) := by decide +kernel
theorem dX1_countTimers_41 : decode cX1_countTimers 41 = .ok (.getfield 22, 3) := by decide +kernel
theorem dX1_countTimers_44 : decode cX1_countTimers 44 = .ok (.invokevirtual 35, 3) := by decide +kernel
theorem dX1_countTimers_47 : decode cX1_countTimers 47 = .ok (.ifCond .eq 21, 3) := by decide +kernel
theorem dX1_countTimers_50 : decode cX1_countTimers 50 = .ok (.iload_n 1, 1) := by decide +kernel
theorem dX1_countTimers_51 : decode cX1_countTimers 51 = .ok (.ifCond .ne 13, 3) := by decide +kernel
theorem dX1_countTimers_54 : decode cX1_countTimers 54 = .ok (.aload_n 0, 1) := by decide +kernel
theorem dX1_countTimers_55 : decode cX1_countTimers 55 = .ok (.getfield 22, 3) := by decide +kernel
theorem dX1_countTimers_58 : decode cX1_countTimers 58 = .ok (.invokevirtual 45, 3) := by decide +kernel
theorem dX1_countTimers_61 : decode cX1_countTimers 61 = .ok (.ifCond .ne 7, 3) := by decide +kernel
theorem dX1_countTimers_64 : decode cX1_countTimers 64 = .ok (.iconst 1, 1) := by decide +kernel
theorem dX1_countTimers_65 : decode cX1_countTimers 65 = .ok (.goto 4, 3) := by decide +kernel
theorem dX1_countTimers_68 : decode cX1_countTimers 68 = .ok (.iconst 0, 1) := by decide +kernel
theorem dX1_countTimers_69 : decode cX1_countTimers 69 = .ok (.istore_n 2, 1) := by decide +kernel
theorem dX1_countTimers_70 : decode cX1_countTimers 70 = .ok (.iload_n 2, 1) := by decide +kernel
theorem dX1_countTimers_71 : decode cX1_countTimers 71 = .ok (.ifCond .eq 23, 3) := by decide +kernel
theorem dX1_countTimers_74 : decode cX1_countTimers 74 = .ok (.aload_n 0, 1) := by decide +kernel
theorem dX1_countTimers_75 : decode cX1_countTimers 75 = .ok (.getfield 22, 3) := by decide +kernel
theorem dX1_countTimers_78 : decode cX1_countTimers 78 = .ok (.invokevirtual 39, 3) := by decide +kernel
theorem dX1_countTimers_81 : decode cX1_countTimers 81 = .ok (.ifCond .eq 13, 3) := by decide +kernel
theorem dX1_countTimers_84 : decode cX1_countTimers 84 = .ok (.aload_n 0, 1) := by decide +kernel
theorem dX1_countTimers_85 : decode cX1_countTimers 85 = .ok (.dup, 1) := by decide +kernel
theorem dX1_countTimers_86 : decode cX1_countTimers 86 = .ok (.getfield 42, 3) := by decide +kernel
theorem dX1_countTimers_89 : decode cX1_countTimers 89 = .ok (.iconst 2, 1) := by decide +kernel
theorem dX1_countTimers_90 : decode cX1_countTimers 90 = .ok (.ior, 1) := by decide +kernel
theorem dX1_countTimers_91 : decode cX1_countTimers 91 = .ok (.putfield 42, 3) := by decide +kernel
theorem dX1_countTimers_94 : decode cX1_countTimers 94 = .ok (.return_, 1) := by decide +kernel
theorem dX1_asksInterrupt_0 : decode cX1_asksInterrupt 0 = .ok (.aload_n 0, 1) := by decide +kernel
theorem dX1_asksInterrupt_1 : decode cX1_asksInterrupt 1 = .ok (.getfield 42, 3) := by decide +kernel
theorem dX1_asksInterrupt_4 : decode cX1_asksInterrupt 4 = .ok (.aload_n 0, 1) := by decide +kernel
theorem dX1_asksInterrupt_5 : decode cX1_asksInterrupt 5 = .ok (.getfield 48, 3) := by decide +kernel
theorem dX1_asksInterrupt_8 : decode cX1_asksInterrupt 8 = .ok (.iand, 1) := by decide +kernel
theorem dX1_asksInterrupt_9 : decode cX1_asksInterrupt 9 = .ok (.ifCond .eq 7, 3) := by decide +kernel
theorem dX1_asksInterrupt_12 : decode cX1_asksInterrupt 12 = .ok (.iconst 1, 1) := by decide +kernel
theorem dX1_asksInterrupt_13 : decode cX1_asksInterrupt 13 = .ok (.goto 4, 3) := by decide +kernel
theorem dX1_asksInterrupt_16 : decode cX1_asksInterrupt 16 = .ok (.iconst 0, 1) := by decide +kernel
theorem dX1_asksInterrupt_17 : decode cX1_asksInterrupt 17 = .ok (.ireturn, 1) := by decide +kernel
theorem dX1_clearBehindRead_0 : decode cX1_clearBehindRead 0 = .ok (.iload_n 1, 1) := by decide +kernel
theorem dX1_clearBehindRead_1 : decode cX1_clearBehindRead 1 = .ok (.bipush 13, 2) := by decide +kernel
theorem dX1_clearBehindRead_3 : decode cX1_clearBehindRead 3 = .ok (.if_icmp .ne 8, 3) := by decide +kernel
theorem dX1_clearBehindRead_6 : decode cX1_clearBehindRead 6 = .ok (.aload_n 0, 1) := by decide +kernel
theorem dX1_clearBehindRead_7 : decode cX1_clearBehindRead 7 = .ok (.iconst 0, 1) := by decide +kernel
theorem dX1_clearBehindRead_8 : decode cX1_clearBehindRead 8 = .ok (.putfield 42, 3) := by decide +kernel
theorem dX1_clearBehindRead_11 : decode cX1_clearBehindRead 11 = .ok (.return_, 1) := by decide +kernel
theorem dX1_peekRegister_0 : decode cX1_peekRegister 0 = .ok (.iload_n 1, 1) := by decide +kernel
theorem dX1_peekRegister_1 : decode cX1_peekRegister 1 = .ok (.tableswitch 176 0 15 #[79, 84, 176, 176, 89, 101, 112, 124, 176, 176, 176, 176, 176, 135, 160, 168], 79) := by decide +kernel
theorem dX1_peekRegister_80 : decode cX1_peekRegister 80 = .ok (.aload_n 0, 1) := by decide +kernel
theorem dX1_peekRegister_81 : decode cX1_peekRegister 81 = .ok (.getfield 32, 3) := by decide +kernel
theorem dX1_peekRegister_84 : decode cX1_peekRegister 84 = .ok (.ireturn, 1) := by decide +kernel
theorem dX1_peekRegister_85 : decode cX1_peekRegister 85 = .ok (.aload_n 0, 1) := by decide +kernel
theorem dX1_peekRegister_86 : decode cX1_peekRegister 86 = .ok (.getfield 25, 3) := by decide +kernel
theorem dX1_peekRegister_89 : decode cX1_peekRegister 89 = .ok (.ireturn, 1) := by decide +kernel
theorem dX1_peekRegister_90 : decode cX1_peekRegister 90 = .ok (.aload_n 0, 1) := by decide +kernel
theorem dX1_peekRegister_91 : decode cX1_peekRegister 91 = .ok (.getfield 18, 3) := by decide +kernel
theorem dX1_peekRegister_94 : decode cX1_peekRegister 94 = .ok (.getfield 51, 3) := by decide +kernel
theorem dX1_peekRegister_97 : decode cX1_peekRegister 97 = .ok (.sipush 255, 3) := by decide +kernel
theorem dX1_peekRegister_100 : decode cX1_peekRegister 100 = .ok (.iand, 1) := by decide +kernel
theorem dX1_peekRegister_101 : decode cX1_peekRegister 101 = .ok (.ireturn, 1) := by decide +kernel
theorem dX1_peekRegister_102 : decode cX1_peekRegister 102 = .ok (.aload_n 0, 1) := by decide +kernel
theorem dX1_peekRegister_103 : decode cX1_peekRegister 103 = .ok (.getfield 18, 3) := by decide +kernel
theorem dX1_peekRegister_106 : decode cX1_peekRegister 106 = .ok (.getfield 51, 3) := by decide +kernel
theorem dX1_peekRegister_109 : decode cX1_peekRegister 109 = .ok (.bipush 8, 2) := by decide +kernel
theorem dX1_peekRegister_111 : decode cX1_peekRegister 111 = .ok (.ishr, 1) := by decide +kernel
theorem dX1_peekRegister_112 : decode cX1_peekRegister 112 = .ok (.ireturn, 1) := by decide +kernel
theorem dX1_peekRegister_113 : decode cX1_peekRegister 113 = .ok (.aload_n 0, 1) := by decide +kernel
theorem dX1_peekRegister_114 : decode cX1_peekRegister 114 = .ok (.getfield 22, 3) := by decide +kernel
theorem dX1_peekRegister_117 : decode cX1_peekRegister 117 = .ok (.getfield 51, 3) := by decide +kernel
theorem dX1_peekRegister_120 : decode cX1_peekRegister 120 = .ok (.sipush 255, 3) := by decide +kernel
theorem dX1_peekRegister_123 : decode cX1_peekRegister 123 = .ok (.iand, 1) := by decide +kernel
theorem dX1_peekRegister_124 : decode cX1_peekRegister 124 = .ok (.ireturn, 1) := by decide +kernel
theorem dX1_peekRegister_125 : decode cX1_peekRegister 125 = .ok (.aload_n 0, 1) := by decide +kernel
theorem dX1_peekRegister_126 : decode cX1_peekRegister 126 = .ok (.getfield 22, 3) := by decide +kernel
theorem dX1_peekRegister_129 : decode cX1_peekRegister 129 = .ok (.getfield 51, 3) := by decide +kernel
theorem dX1_peekRegister_132 : decode cX1_peekRegister 132 = .ok (.bipush 8, 2) := by decide +kernel
theorem dX1_peekRegister_134 : decode cX1_peekRegister 134 = .ok (.ishr, 1) := by decide +kernel
theorem dX1_peekRegister_135 : decode cX1_peekRegister 135 = .ok (.ireturn, 1) := by decide +kernel
theorem dX1_peekRegister_136 : decode cX1_peekRegister 136 = .ok (.aload_n 0, 1) := by decide +kernel
theorem dX1_peekRegister_137 : decode cX1_peekRegister 137 = .ok (.getfield 42, 3) := by decide +kernel
theorem dX1_peekRegister_140 : decode cX1_peekRegister 140 = .ok (.aload_n 0, 1) := by decide +kernel
theorem dX1_peekRegister_141 : decode cX1_peekRegister 141 = .ok (.getfield 42, 3) := by decide +kernel
theorem dX1_peekRegister_144 : decode cX1_peekRegister 144 = .ok (.aload_n 0, 1) := by decide +kernel
theorem dX1_peekRegister_145 : decode cX1_peekRegister 145 = .ok (.getfield 48, 3) := by decide +kernel
theorem dX1_peekRegister_148 : decode cX1_peekRegister 148 = .ok (.iand, 1) := by decide +kernel
theorem dX1_peekRegister_149 : decode cX1_peekRegister 149 = .ok (.ifCond .eq 9, 3) := by decide +kernel
theorem dX1_peekRegister_152 : decode cX1_peekRegister 152 = .ok (.sipush 128, 3) := by decide +kernel
theorem dX1_peekRegister_155 : decode cX1_peekRegister 155 = .ok (.goto 4, 3) := by decide +kernel
theorem dX1_peekRegister_158 : decode cX1_peekRegister 158 = .ok (.iconst 0, 1) := by decide +kernel
theorem dX1_peekRegister_159 : decode cX1_peekRegister 159 = .ok (.iadd, 1) := by decide +kernel
theorem dX1_peekRegister_160 : decode cX1_peekRegister 160 = .ok (.ireturn, 1) := by decide +kernel
theorem dX1_peekRegister_161 : decode cX1_peekRegister 161 = .ok (.aload_n 0, 1) := by decide +kernel
theorem dX1_peekRegister_162 : decode cX1_peekRegister 162 = .ok (.getfield 18, 3) := by decide +kernel
theorem dX1_peekRegister_165 : decode cX1_peekRegister 165 = .ok (.getfield 54, 3) := by decide +kernel
theorem dX1_peekRegister_168 : decode cX1_peekRegister 168 = .ok (.ireturn, 1) := by decide +kernel
theorem dX1_peekRegister_169 : decode cX1_peekRegister 169 = .ok (.aload_n 0, 1) := by decide +kernel
theorem dX1_peekRegister_170 : decode cX1_peekRegister 170 = .ok (.getfield 22, 3) := by decide +kernel
theorem dX1_peekRegister_173 : decode cX1_peekRegister 173 = .ok (.getfield 54, 3) := by decide +kernel
theorem dX1_peekRegister_176 : decode cX1_peekRegister 176 = .ok (.ireturn, 1) := by decide +kernel
theorem dX1_peekRegister_177 : decode cX1_peekRegister 177 = .ok (.iconst 0, 1) := by decide +kernel
theorem dX1_peekRegister_178 : decode cX1_peekRegister 178 = .ok (.ireturn, 1) := by decide +kernel
theorem dX1_writeRegister_0 : decode cX1_writeRegister 0 = .ok (.iload_n 1, 1) := by decide +kernel
theorem dX1_writeRegister_1 : decode cX1_writeRegister 1 = .ok (.tableswitch 165 0 15 #[79, 165, 165, 165, 91, 102, 113, 124, 165, 165, 165, 165, 165, 135, 143, 154], 79) := by decide +kernel
theorem dX1_writeRegister_80 : decode cX1_writeRegister 80 = .ok (.aload_n 0, 1) := by decide +kernel
theorem dX1_writeRegister_81 : decode cX1_writeRegister 81 = .ok (.iload_n 2, 1) := by decide +kernel
theorem dX1_writeRegister_82 : decode cX1_writeRegister 82 = .ok (.putfield 32, 3) := by decide +kernel
theorem dX1_writeRegister_85 : decode cX1_writeRegister 85 = .ok (.aload_n 0, 1) := by decide +kernel
theorem dX1_writeRegister_86 : decode cX1_writeRegister 86 = .ok (.invokevirtual 29, 3) := by decide +kernel
theorem dX1_writeRegister_89 : decode cX1_writeRegister 89 = .ok (.goto 77, 3) := by decide +kernel
theorem dX1_writeRegister_92 : decode cX1_writeRegister 92 = .ok (.aload_n 0, 1) := by decide +kernel
theorem dX1_writeRegister_93 : decode cX1_writeRegister 93 = .ok (.getfield 18, 3) := by decide +kernel
theorem dX1_writeRegister_96 : decode cX1_writeRegister 96 = .ok (.iload_n 2, 1) := by decide +kernel
theorem dX1_writeRegister_97 : decode cX1_writeRegister 97 = .ok (.invokevirtual 57, 3) := by decide +kernel
theorem dX1_writeRegister_100 : decode cX1_writeRegister 100 = .ok (.goto 66, 3) := by decide +kernel
theorem dX1_writeRegister_103 : decode cX1_writeRegister 103 = .ok (.aload_n 0, 1) := by decide +kernel
theorem dX1_writeRegister_104 : decode cX1_writeRegister 104 = .ok (.getfield 18, 3) := by decide +kernel
theorem dX1_writeRegister_107 : decode cX1_writeRegister 107 = .ok (.iload_n 2, 1) := by decide +kernel
theorem dX1_writeRegister_108 : decode cX1_writeRegister 108 = .ok (.invokevirtual 60, 3) := by decide +kernel
theorem dX1_writeRegister_111 : decode cX1_writeRegister 111 = .ok (.goto 55, 3) := by decide +kernel
theorem dX1_writeRegister_114 : decode cX1_writeRegister 114 = .ok (.aload_n 0, 1) := by decide +kernel
theorem dX1_writeRegister_115 : decode cX1_writeRegister 115 = .ok (.getfield 22, 3) := by decide +kernel
theorem dX1_writeRegister_118 : decode cX1_writeRegister 118 = .ok (.iload_n 2, 1) := by decide +kernel
theorem dX1_writeRegister_119 : decode cX1_writeRegister 119 = .ok (.invokevirtual 57, 3) := by decide +kernel
theorem dX1_writeRegister_122 : decode cX1_writeRegister 122 = .ok (.goto 44, 3) := by decide +kernel
theorem dX1_writeRegister_125 : decode cX1_writeRegister 125 = .ok (.aload_n 0, 1) := by decide +kernel
theorem dX1_writeRegister_126 : decode cX1_writeRegister 126 = .ok (.getfield 22, 3) := by decide +kernel
theorem dX1_writeRegister_129 : decode cX1_writeRegister 129 = .ok (.iload_n 2, 1) := by decide +kernel
theorem dX1_writeRegister_130 : decode cX1_writeRegister 130 = .ok (.invokevirtual 60, 3) := by decide +kernel
theorem dX1_writeRegister_133 : decode cX1_writeRegister 133 = .ok (.goto 33, 3) := by decide +kernel
theorem dX1_writeRegister_136 : decode cX1_writeRegister 136 = .ok (.aload_n 0, 1) := by decide +kernel
theorem dX1_writeRegister_137 : decode cX1_writeRegister 137 = .ok (.iload_n 2, 1) := by decide +kernel
theorem dX1_writeRegister_138 : decode cX1_writeRegister 138 = .ok (.invokevirtual 63, 3) := by decide +kernel
theorem dX1_writeRegister_141 : decode cX1_writeRegister 141 = .ok (.goto 25, 3) := by decide +kernel
theorem dX1_writeRegister_144 : decode cX1_writeRegister 144 = .ok (.aload_n 0, 1) := by decide +kernel
theorem dX1_writeRegister_145 : decode cX1_writeRegister 145 = .ok (.getfield 18, 3) := by decide +kernel
theorem dX1_writeRegister_148 : decode cX1_writeRegister 148 = .ok (.iload_n 2, 1) := by decide +kernel
theorem dX1_writeRegister_149 : decode cX1_writeRegister 149 = .ok (.invokevirtual 66, 3) := by decide +kernel
theorem dX1_writeRegister_152 : decode cX1_writeRegister 152 = .ok (.goto 14, 3) := by decide +kernel
theorem dX1_writeRegister_155 : decode cX1_writeRegister 155 = .ok (.aload_n 0, 1) := by decide +kernel
theorem dX1_writeRegister_156 : decode cX1_writeRegister 156 = .ok (.getfield 22, 3) := by decide +kernel
theorem dX1_writeRegister_159 : decode cX1_writeRegister 159 = .ok (.iload_n 2, 1) := by decide +kernel
theorem dX1_writeRegister_160 : decode cX1_writeRegister 160 = .ok (.invokevirtual 66, 3) := by decide +kernel
theorem dX1_writeRegister_163 : decode cX1_writeRegister 163 = .ok (.goto 3, 3) := by decide +kernel
theorem dX1_writeRegister_166 : decode cX1_writeRegister 166 = .ok (.return_, 1) := by decide +kernel
theorem dX1_setEnabled_0 : decode cX1_setEnabled 0 = .ok (.iload_n 1, 1) := by decide +kernel
theorem dX1_setEnabled_1 : decode cX1_setEnabled 1 = .ok (.iconst 3, 1) := by decide +kernel
theorem dX1_setEnabled_2 : decode cX1_setEnabled 2 = .ok (.iand, 1) := by decide +kernel
theorem dX1_setEnabled_3 : decode cX1_setEnabled 3 = .ok (.istore_n 2, 1) := by decide +kernel
theorem dX1_setEnabled_4 : decode cX1_setEnabled 4 = .ok (.aload_n 0, 1) := by decide +kernel
theorem dX1_setEnabled_5 : decode cX1_setEnabled 5 = .ok (.iload_n 1, 1) := by decide +kernel
theorem dX1_setEnabled_6 : decode cX1_setEnabled 6 = .ok (.sipush 128, 3) := by decide +kernel
theorem dX1_setEnabled_9 : decode cX1_setEnabled 9 = .ok (.iand, 1) := by decide +kernel
theorem dX1_setEnabled_10 : decode cX1_setEnabled 10 = .ok (.ifCond .eq 12, 3) := by decide +kernel
theorem dX1_setEnabled_13 : decode cX1_setEnabled 13 = .ok (.aload_n 0, 1) := by decide +kernel
theorem dX1_setEnabled_14 : decode cX1_setEnabled 14 = .ok (.getfield 48, 3) := by decide +kernel
theorem dX1_setEnabled_17 : decode cX1_setEnabled 17 = .ok (.iload_n 2, 1) := by decide +kernel
theorem dX1_setEnabled_18 : decode cX1_setEnabled 18 = .ok (.ior, 1) := by decide +kernel
theorem dX1_setEnabled_19 : decode cX1_setEnabled 19 = .ok (.goto 11, 3) := by decide +kernel
theorem dX1_setEnabled_22 : decode cX1_setEnabled 22 = .ok (.aload_n 0, 1) := by decide +kernel
theorem dX1_setEnabled_23 : decode cX1_setEnabled 23 = .ok (.getfield 48, 3) := by decide +kernel
theorem dX1_setEnabled_26 : decode cX1_setEnabled 26 = .ok (.iload_n 2, 1) := by decide +kernel
theorem dX1_setEnabled_27 : decode cX1_setEnabled 27 = .ok (.iconst (-1), 1) := by decide +kernel
theorem dX1_setEnabled_28 : decode cX1_setEnabled 28 = .ok (.ixor, 1) := by decide +kernel
theorem dX1_setEnabled_29 : decode cX1_setEnabled 29 = .ok (.iand, 1) := by decide +kernel
theorem dX1_setEnabled_30 : decode cX1_setEnabled 30 = .ok (.putfield 48, 3) := by decide +kernel
theorem dX1_setEnabled_33 : decode cX1_setEnabled 33 = .ok (.return_, 1) := by decide +kernel
theorem dX2_init_0 : decode cX2_init 0 = .ok (.aload_n 0, 1) := by decide +kernel
theorem dX2_init_1 : decode cX2_init 1 = .ok (.invokespecial 3, 3) := by decide +kernel
theorem dX2_init_4 : decode cX2_init 4 = .ok (.aload_n 0, 1) := by decide +kernel
theorem dX2_init_5 : decode cX2_init 5 = .ok (.sipush 2560, 3) := by decide +kernel
theorem dX2_init_8 : decode cX2_init 8 = .ok (.newarray .int, 2) := by decide +kernel
theorem dX2_init_10 : decode cX2_init 10 = .ok (.putfield 9, 3) := by decide +kernel
theorem dX2_init_13 : decode cX2_init 13 = .ok (.aload_n 0, 1) := by decide +kernel
theorem dX2_init_14 : decode cX2_init 14 = .ok (.bipush 24, 2) := by decide +kernel
theorem dX2_init_16 : decode cX2_init 16 = .ok (.newarray .int, 2) := by decide +kernel
theorem dX2_init_18 : decode cX2_init 18 = .ok (.putfield 13, 3) := by decide +kernel
theorem dX2_init_21 : decode cX2_init 21 = .ok (.aload_n 0, 1) := by decide +kernel
theorem dX2_init_22 : decode cX2_init 22 = .ok (.bipush 8, 2) := by decide +kernel
theorem dX2_init_24 : decode cX2_init 24 = .ok (.newarray .int, 2) := by decide +kernel
theorem dX2_init_26 : decode cX2_init 26 = .ok (.putfield 16, 3) := by decide +kernel
theorem dX2_init_29 : decode cX2_init 29 = .ok (.aload_n 0, 1) := by decide +kernel
theorem dX2_init_30 : decode cX2_init 30 = .ok (.bipush 8, 2) := by decide +kernel
theorem dX2_init_32 : decode cX2_init 32 = .ok (.newarray .int, 2) := by decide +kernel
theorem dX2_init_34 : decode cX2_init 34 = .ok (.putfield 19, 3) := by decide +kernel
theorem dX2_init_37 : decode cX2_init 37 = .ok (.aload_n 0, 1) := by decide +kernel
theorem dX2_init_38 : decode cX2_init 38 = .ok (.iconst 1, 1) := by decide +kernel
theorem dX2_init_39 : decode cX2_init 39 = .ok (.putfield 22, 3) := by decide +kernel
theorem dX2_init_42 : decode cX2_init 42 = .ok (.aload_n 0, 1) := by decide +kernel
theorem dX2_init_43 : decode cX2_init 43 = .ok (.aload_n 1, 1) := by decide +kernel
theorem dX2_init_44 : decode cX2_init 44 = .ok (.putfield 26, 3) := by decide +kernel
theorem dX2_init_47 : decode cX2_init 47 = .ok (.aload_n 0, 1) := by decide +kernel
theorem dX2_init_48 : decode cX2_init 48 = .ok (.aload_n 2, 1) := by decide +kernel
theorem dX2_init_49 : decode cX2_init 49 = .ok (.putfield 29, 3) := by decide +kernel
theorem dX2_init_52 : decode cX2_init 52 = .ok (.return_, 1) := by decide +kernel
theorem dX2_beginCycle_0 : decode cX2_beginCycle 0 = .ok (.aload_n 0, 1) := by decide +kernel
theorem dX2_beginCycle_1 : decode cX2_beginCycle 1 = .ok (.getfield 32, 3) := by decide +kernel
theorem dX2_beginCycle_4 : decode cX2_beginCycle 4 = .ok (.ifCond .ne 10, 3) := by decide +kernel
theorem dX2_beginCycle_7 : decode cX2_beginCycle 7 = .ok (.aload_n 0, 1) := by decide +kernel
theorem dX2_beginCycle_8 : decode cX2_beginCycle 8 = .ok (.invokevirtual 36, 3) := by decide +kernel
theorem dX2_beginCycle_11 : decode cX2_beginCycle 11 = .ok (.goto 115, 3) := by decide +kernel
theorem dX2_beginCycle_14 : decode cX2_beginCycle 14 = .ok (.aload_n 0, 1) := by decide +kernel
theorem dX2_beginCycle_15 : decode cX2_beginCycle 15 = .ok (.getfield 32, 3) := by decide +kernel
theorem dX2_beginCycle_18 : decode cX2_beginCycle 18 = .ok (.iconst 3, 1) := by decide +kernel
theorem dX2_beginCycle_19 : decode cX2_beginCycle 19 = .ok (.if_icmp .ne 10, 3) := by decide +kernel
theorem dX2_beginCycle_22 : decode cX2_beginCycle 22 = .ok (.aload_n 0, 1) := by decide +kernel
theorem dX2_beginCycle_23 : decode cX2_beginCycle 23 = .ok (.invokevirtual 39, 3) := by decide +kernel
theorem dX2_beginCycle_26 : decode cX2_beginCycle 26 = .ok (.goto 100, 3) := by decide +kernel
theorem dX2_beginCycle_29 : decode cX2_beginCycle 29 = .ok (.aload_n 0, 1) := by decide +kernel
theorem dX2_beginCycle_30 : decode cX2_beginCycle 30 = .ok (.getfield 32, 3) := by decide +kernel
theorem dX2_beginCycle_33 : decode cX2_beginCycle 33 = .ok (.bipush 6, 2) := by decide +kernel
theorem dX2_beginCycle_35 : decode cX2_beginCycle 35 = .ok (.if_icmp .lt 40, 3) := by decide +kernel
theorem dX2_beginCycle_38 : decode cX2_beginCycle 38 = .ok (.aload_n 0, 1) := by decide +kernel
theorem dX2_beginCycle_39 : decode cX2_beginCycle 39 = .ok (.getfield 32, 3) := by decide +kernel
theorem dX2_beginCycle_42 : decode cX2_beginCycle 42 = .ok (.bipush 13, 2) := by decide +kernel
theorem dX2_beginCycle_44 : decode cX2_beginCycle 44 = .ok (.if_icmp .gt 31, 3) := by decide +kernel
theorem dX2_beginCycle_47 : decode cX2_beginCycle 47 = .ok (.aload_n 0, 1) := by decide +kernel
theorem dX2_beginCycle_48 : decode cX2_beginCycle 48 = .ok (.getfield 32, 3) := by decide +kernel
theorem dX2_beginCycle_51 : decode cX2_beginCycle 51 = .ok (.bipush 6, 2) := by decide +kernel
theorem dX2_beginCycle_53 : decode cX2_beginCycle 53 = .ok (.isub, 1) := by decide +kernel
theorem dX2_beginCycle_54 : decode cX2_beginCycle 54 = .ok (.istore_n 1, 1) := by decide +kernel
theorem dX2_beginCycle_55 : decode cX2_beginCycle 55 = .ok (.aload_n 0, 1) := by decide +kernel
theorem dX2_beginCycle_56 : decode cX2_beginCycle 56 = .ok (.getfield 42, 3) := by decide +kernel
theorem dX2_beginCycle_59 : decode cX2_beginCycle 59 = .ok (.ifCond .eq 8, 3) := by decide +kernel
theorem dX2_beginCycle_62 : decode cX2_beginCycle 62 = .ok (.aload_n 0, 1) := by decide +kernel
theorem dX2_beginCycle_63 : decode cX2_beginCycle 63 = .ok (.iload_n 1, 1) := by decide +kernel
theorem dX2_beginCycle_64 : decode cX2_beginCycle 64 = .ok (.invokevirtual 45, 3) := by decide +kernel
theorem dX2_beginCycle_67 : decode cX2_beginCycle 67 = .ok (.aload_n 0, 1) := by decide +kernel
theorem dX2_beginCycle_68 : decode cX2_beginCycle 68 = .ok (.iload_n 1, 1) := by decide +kernel
theorem dX2_beginCycle_69 : decode cX2_beginCycle 69 = .ok (.invokevirtual 49, 3) := by decide +kernel
theorem dX2_beginCycle_72 : decode cX2_beginCycle 72 = .ok (.goto 54, 3) := by decide +kernel
theorem dX2_beginCycle_75 : decode cX2_beginCycle 75 = .ok (.aload_n 0, 1) := by decide +kernel
theorem dX2_beginCycle_76 : decode cX2_beginCycle 76 = .ok (.getfield 32, 3) := by decide +kernel
theorem dX2_beginCycle_79 : decode cX2_beginCycle 79 = .ok (.bipush 14, 2) := by decide +kernel
theorem dX2_beginCycle_81 : decode cX2_beginCycle 81 = .ok (.if_icmp .ne 25, 3) := by decide +kernel
theorem dX2_beginCycle_84 : decode cX2_beginCycle 84 = .ok (.aload_n 0, 1) := by decide +kernel
theorem dX2_beginCycle_85 : decode cX2_beginCycle 85 = .ok (.getfield 42, 3) := by decide +kernel
theorem dX2_beginCycle_88 : decode cX2_beginCycle 88 = .ok (.ifCond .eq 18, 3) := by decide +kernel
theorem dX2_beginCycle_91 : decode cX2_beginCycle 91 = .ok (.aload_n 0, 1) := by decide +kernel
theorem dX2_beginCycle_92 : decode cX2_beginCycle 92 = .ok (.aload_n 0, 1) := by decide +kernel
theorem dX2_beginCycle_93 : decode cX2_beginCycle 93 = .ok (.getfield 52, 3) := by decide +kernel
theorem dX2_beginCycle_96 : decode cX2_beginCycle 96 = .ok (.iconst 1, 1) := by decide +kernel
theorem dX2_beginCycle_97 : decode cX2_beginCycle 97 = .ok (.iadd, 1) := by decide +kernel
theorem dX2_beginCycle_98 : decode cX2_beginCycle 98 = .ok (.iconst 3, 1) := by decide +kernel
theorem dX2_beginCycle_99 : decode cX2_beginCycle 99 = .ok (.irem, 1) := by decide +kernel
theorem dX2_beginCycle_100 : decode cX2_beginCycle 100 = .ok (.putfield 52, 3) := by decide +kernel
theorem dX2_beginCycle_103 : decode cX2_beginCycle 103 = .ok (.goto 23, 3) := by decide +kernel
theorem dX2_beginCycle_106 : decode cX2_beginCycle 106 = .ok (.aload_n 0, 1) := by decide +kernel
theorem dX2_beginCycle_107 : decode cX2_beginCycle 107 = .ok (.getfield 32, 3) := by decide +kernel
theorem dX2_beginCycle_110 : decode cX2_beginCycle 110 = .ok (.bipush 23, 2) := by decide +kernel
theorem dX2_beginCycle_112 : decode cX2_beginCycle 112 = .ok (.if_icmp .ne 14, 3) := by decide +kernel
theorem dX2_beginCycle_115 : decode cX2_beginCycle 115 = .ok (.aload_n 0, 1) := by decide +kernel
theorem dX2_beginCycle_116 : decode cX2_beginCycle 116 = .ok (.getfield 22, 3) := by decide +kernel
theorem dX2_beginCycle_119 : decode cX2_beginCycle 119 = .ok (.ifCond .ne 7, 3) := by decide +kernel
theorem dX2_beginCycle_122 : decode cX2_beginCycle 122 = .ok (.aload_n 0, 1) := by decide +kernel
theorem dX2_beginCycle_123 : decode cX2_beginCycle 123 = .ok (.invokevirtual 55, 3) := by decide +kernel
theorem dX2_beginCycle_126 : decode cX2_beginCycle 126 = .ok (.return_, 1) := by decide +kernel
theorem dX2_endCycle_0 : decode cX2_endCycle 0 = .ok (.aload_n 0, 1) := by decide +kernel
theorem dX2_endCycle_1 : decode cX2_endCycle 1 = .ok (.dup, 1) := by decide +kernel
theorem dX2_endCycle_2 : decode cX2_endCycle 2 = .ok (.getfield 32, 3) := by decide +kernel
theorem dX2_endCycle_5 : decode cX2_endCycle 5 = .ok (.iconst 1, 1) := by decide +kernel
theorem dX2_endCycle_6 : decode cX2_endCycle 6 = .ok (.iadd, 1) := by decide +kernel
theorem dX2_endCycle_7 : decode cX2_endCycle 7 = .ok (.putfield 32, 3) := by decide +kernel
theorem dX2_endCycle_10 : decode cX2_endCycle 10 = .ok (.aload_n 0, 1) := by decide +kernel
theorem dX2_endCycle_11 : decode cX2_endCycle 11 = .ok (.getfield 32, 3) := by decide +kernel
theorem dX2_endCycle_14 : decode cX2_endCycle 14 = .ok (.bipush 24, 2) := by decide +kernel
theorem dX2_endCycle_16 : decode cX2_endCycle 16 = .ok (.if_icmp .ge 4, 3) := by decide +kernel
theorem dX2_endCycle_19 : decode cX2_endCycle 19 = .ok (.return_, 1) := by decide +kernel
theorem dX2_endCycle_20 : decode cX2_endCycle 20 = .ok (.aload_n 0, 1) := by decide +kernel
theorem dX2_endCycle_21 : decode cX2_endCycle 21 = .ok (.iconst 0, 1) := by decide +kernel
theorem dX2_endCycle_22 : decode cX2_endCycle 22 = .ok (.putfield 32, 3) := by decide +kernel
theorem dX2_endCycle_25 : decode cX2_endCycle 25 = .ok (.aload_n 0, 1) := by decide +kernel
theorem dX2_endCycle_26 : decode cX2_endCycle 26 = .ok (.dup, 1) := by decide +kernel
theorem dX2_endCycle_27 : decode cX2_endCycle 27 = .ok (.getfield 58, 3) := by decide +kernel
theorem dX2_endCycle_30 : decode cX2_endCycle 30 = .ok (.iconst 1, 1) := by decide +kernel
theorem dX2_endCycle_31 : decode cX2_endCycle 31 = .ok (.iadd, 1) := by decide +kernel
theorem dX2_endCycle_32 : decode cX2_endCycle 32 = .ok (.putfield 58, 3) := by decide +kernel
theorem dX2_endCycle_35 : decode cX2_endCycle 35 = .ok (.aload_n 0, 1) := by decide +kernel
theorem dX2_endCycle_36 : decode cX2_endCycle 36 = .ok (.getfield 58, 3) := by decide +kernel
theorem dX2_endCycle_39 : decode cX2_endCycle 39 = .ok (.bipush 40, 2) := by decide +kernel
theorem dX2_endCycle_41 : decode cX2_endCycle 41 = .ok (.if_icmp .lt 8, 3) := by decide +kernel
theorem dX2_endCycle_44 : decode cX2_endCycle 44 = .ok (.aload_n 0, 1) := by decide +kernel
theorem dX2_endCycle_45 : decode cX2_endCycle 45 = .ok (.iconst 0, 1) := by decide +kernel
theorem dX2_endCycle_46 : decode cX2_endCycle 46 = .ok (.putfield 58, 3) := by decide +kernel
theorem dX2_endCycle_49 : decode cX2_endCycle 49 = .ok (.return_, 1) := by decide +kernel
theorem dX2_wantsBus_0 : decode cX2_wantsBus 0 = .ok (.aload_n 0, 1) := by decide +kernel
theorem dX2_wantsBus_1 : decode cX2_wantsBus 1 = .ok (.getfield 42, 3) := by decide +kernel
theorem dX2_wantsBus_4 : decode cX2_wantsBus 4 = .ok (.ifCond .eq 24, 3) := by decide +kernel
theorem dX2_wantsBus_7 : decode cX2_wantsBus 7 = .ok (.aload_n 0, 1) := by decide +kernel
theorem dX2_wantsBus_8 : decode cX2_wantsBus 8 = .ok (.getfield 32, 3) := by decide +kernel
theorem dX2_wantsBus_11 : decode cX2_wantsBus 11 = .ok (.iconst 3, 1) := by decide +kernel
theorem dX2_wantsBus_12 : decode cX2_wantsBus 12 = .ok (.if_icmp .lt 16, 3) := by decide +kernel
theorem dX2_wantsBus_15 : decode cX2_wantsBus 15 = .ok (.aload_n 0, 1) := by decide +kernel
theorem dX2_wantsBus_16 : decode cX2_wantsBus 16 = .ok (.getfield 32, 3) := by decide +kernel
theorem dX2_wantsBus_19 : decode cX2_wantsBus 19 = .ok (.bipush 13, 2) := by decide +kernel
theorem dX2_wantsBus_21 : decode cX2_wantsBus 21 = .ok (.if_icmp .gt 7, 3) := by decide +kernel
theorem dX2_wantsBus_24 : decode cX2_wantsBus 24 = .ok (.iconst 1, 1) := by decide +kernel
theorem dX2_wantsBus_25 : decode cX2_wantsBus 25 = .ok (.goto 4, 3) := by decide +kernel
theorem dX2_wantsBus_28 : decode cX2_wantsBus 28 = .ok (.iconst 0, 1) := by decide +kernel
theorem dX2_wantsBus_29 : decode cX2_wantsBus 29 = .ok (.ireturn, 1) := by decide +kernel
theorem dX2_asksInterrupt_0 : decode cX2_asksInterrupt 0 = .ok (.aload_n 0, 1) := by decide +kernel
theorem dX2_asksInterrupt_1 : decode cX2_asksInterrupt 1 = .ok (.getfield 61, 3) := by decide +kernel
theorem dX2_asksInterrupt_4 : decode cX2_asksInterrupt 4 = .ok (.ifCond .eq 14, 3) := by decide +kernel
theorem dX2_asksInterrupt_7 : decode cX2_asksInterrupt 7 = .ok (.aload_n 0, 1) := by decide +kernel
theorem dX2_asksInterrupt_8 : decode cX2_asksInterrupt 8 = .ok (.getfield 64, 3) := by decide +kernel
theorem dX2_asksInterrupt_11 : decode cX2_asksInterrupt 11 = .ok (.ifCond .eq 7, 3) := by decide +kernel
theorem dX2_asksInterrupt_14 : decode cX2_asksInterrupt 14 = .ok (.iconst 1, 1) := by decide +kernel
theorem dX2_asksInterrupt_15 : decode cX2_asksInterrupt 15 = .ok (.goto 4, 3) := by decide +kernel
theorem dX2_asksInterrupt_18 : decode cX2_asksInterrupt 18 = .ok (.iconst 0, 1) := by decide +kernel
theorem dX2_asksInterrupt_19 : decode cX2_asksInterrupt 19 = .ok (.ireturn, 1) := by decide +kernel
theorem dX2_beginLine_0 : decode cX2_beginLine 0 = .ok (.aload_n 0, 1) := by decide +kernel
theorem dX2_beginLine_1 : decode cX2_beginLine 1 = .ok (.getfield 58, 3) := by decide +kernel
theorem dX2_beginLine_4 : decode cX2_beginLine 4 = .ok (.aload_n 0, 1) := by decide +kernel
theorem dX2_beginLine_5 : decode cX2_beginLine 5 = .ok (.getfield 67, 3) := by decide +kernel
theorem dX2_beginLine_8 : decode cX2_beginLine 8 = .ok (.if_icmp .ne 8, 3) := by decide +kernel
theorem dX2_beginLine_11 : decode cX2_beginLine 11 = .ok (.aload_n 0, 1) := by decide +kernel
theorem dX2_beginLine_12 : decode cX2_beginLine 12 = .ok (.iconst 1, 1) := by decide +kernel
theorem dX2_beginLine_13 : decode cX2_beginLine 13 = .ok (.putfield 61, 3) := by decide +kernel
theorem dX2_beginLine_16 : decode cX2_beginLine 16 = .ok (.aload_n 0, 1) := by decide +kernel
theorem dX2_beginLine_17 : decode cX2_beginLine 17 = .ok (.getfield 58, 3) := by decide +kernel
theorem dX2_beginLine_20 : decode cX2_beginLine 20 = .ok (.ifCond .ne 13, 3) := by decide +kernel
theorem dX2_beginLine_23 : decode cX2_beginLine 23 = .ok (.aload_n 0, 1) := by decide +kernel
theorem dX2_beginLine_24 : decode cX2_beginLine 24 = .ok (.iconst 1, 1) := by decide +kernel
theorem dX2_beginLine_25 : decode cX2_beginLine 25 = .ok (.putfield 22, 3) := by decide +kernel
theorem dX2_beginLine_28 : decode cX2_beginLine 28 = .ok (.aload_n 0, 1) := by decide +kernel
theorem dX2_beginLine_29 : decode cX2_beginLine 29 = .ok (.iconst 0, 1) := by decide +kernel
theorem dX2_beginLine_30 : decode cX2_beginLine 30 = .ok (.putfield 52, 3) := by decide +kernel
theorem dX2_beginLine_33 : decode cX2_beginLine 33 = .ok (.return_, 1) := by decide +kernel
theorem dX2_judgeLine_0 : decode cX2_judgeLine 0 = .ok (.aload_n 0, 1) := by decide +kernel
theorem dX2_judgeLine_1 : decode cX2_judgeLine 1 = .ok (.aload_n 0, 1) := by decide +kernel
theorem dX2_judgeLine_2 : decode cX2_judgeLine 2 = .ok (.invokevirtual 70, 3) := by decide +kernel
theorem dX2_judgeLine_5 : decode cX2_judgeLine 5 = .ok (.ifCond .eq 24, 3) := by decide +kernel
theorem dX2_judgeLine_8 : decode cX2_judgeLine 8 = .ok (.aload_n 0, 1) := by decide +kernel
theorem dX2_judgeLine_9 : decode cX2_judgeLine 9 = .ok (.getfield 58, 3) := by decide +kernel
theorem dX2_judgeLine_12 : decode cX2_judgeLine 12 = .ok (.bipush 8, 2) := by decide +kernel
theorem dX2_judgeLine_14 : decode cX2_judgeLine 14 = .ok (.irem, 1) := by decide +kernel
theorem dX2_judgeLine_15 : decode cX2_judgeLine 15 = .ok (.aload_n 0, 1) := by decide +kernel
theorem dX2_judgeLine_16 : decode cX2_judgeLine 16 = .ok (.getfield 74, 3) := by decide +kernel
theorem dX2_judgeLine_19 : decode cX2_judgeLine 19 = .ok (.bipush 7, 2) := by decide +kernel
theorem dX2_judgeLine_21 : decode cX2_judgeLine 21 = .ok (.iand, 1) := by decide +kernel
theorem dX2_judgeLine_22 : decode cX2_judgeLine 22 = .ok (.if_icmp .ne 7, 3) := by decide +kernel
theorem dX2_judgeLine_25 : decode cX2_judgeLine 25 = .ok (.iconst 1, 1) := by decide +kernel
theorem dX2_judgeLine_26 : decode cX2_judgeLine 26 = .ok (.goto 4, 3) := by decide +kernel
theorem dX2_judgeLine_29 : decode cX2_judgeLine 29 = .ok (.iconst 0, 1) := by decide +kernel
theorem dX2_judgeLine_30 : decode cX2_judgeLine 30 = .ok (.putfield 42, 3) := by decide +kernel
theorem dX2_judgeLine_33 : decode cX2_judgeLine 33 = .ok (.aload_n 0, 1) := by decide +kernel
theorem dX2_judgeLine_34 : decode cX2_judgeLine 34 = .ok (.getfield 42, 3) := by decide +kernel
theorem dX2_judgeLine_37 : decode cX2_judgeLine 37 = .ok (.ifCond .eq 13, 3) := by decide +kernel
theorem dX2_judgeLine_40 : decode cX2_judgeLine 40 = .ok (.aload_n 0, 1) := by decide +kernel
theorem dX2_judgeLine_41 : decode cX2_judgeLine 41 = .ok (.iconst 0, 1) := by decide +kernel
theorem dX2_judgeLine_42 : decode cX2_judgeLine 42 = .ok (.putfield 22, 3) := by decide +kernel
theorem dX2_judgeLine_45 : decode cX2_judgeLine 45 = .ok (.aload_n 0, 1) := by decide +kernel
theorem dX2_judgeLine_46 : decode cX2_judgeLine 46 = .ok (.iconst 0, 1) := by decide +kernel
theorem dX2_judgeLine_47 : decode cX2_judgeLine 47 = .ok (.putfield 77, 3) := by decide +kernel
theorem dX2_judgeLine_50 : decode cX2_judgeLine 50 = .ok (.return_, 1) := by decide +kernel
theorem dX2_isShowing_0 : decode cX2_isShowing 0 = .ok (.aload_n 0, 1) := by decide +kernel
theorem dX2_isShowing_1 : decode cX2_isShowing 1 = .ok (.getfield 58, 3) := by decide +kernel
theorem dX2_isShowing_4 : decode cX2_isShowing 4 = .ok (.bipush 8, 2) := by decide +kernel
theorem dX2_isShowing_6 : decode cX2_isShowing 6 = .ok (.if_icmp .lt 26, 3) := by decide +kernel
theorem dX2_isShowing_9 : decode cX2_isShowing 9 = .ok (.aload_n 0, 1) := by decide +kernel
theorem dX2_isShowing_10 : decode cX2_isShowing 10 = .ok (.getfield 58, 3) := by decide +kernel
theorem dX2_isShowing_13 : decode cX2_isShowing 13 = .ok (.bipush 31, 2) := by decide +kernel
theorem dX2_isShowing_15 : decode cX2_isShowing 15 = .ok (.if_icmp .gt 17, 3) := by decide +kernel
theorem dX2_isShowing_18 : decode cX2_isShowing 18 = .ok (.aload_n 0, 1) := by decide +kernel
theorem dX2_isShowing_19 : decode cX2_isShowing 19 = .ok (.getfield 74, 3) := by decide +kernel
theorem dX2_isShowing_22 : decode cX2_isShowing 22 = .ok (.bipush 16, 2) := by decide +kernel
theorem dX2_isShowing_24 : decode cX2_isShowing 24 = .ok (.iand, 1) := by decide +kernel
theorem dX2_isShowing_25 : decode cX2_isShowing 25 = .ok (.ifCond .eq 7, 3) := by decide +kernel
theorem dX2_isShowing_28 : decode cX2_isShowing 28 = .ok (.iconst 1, 1) := by decide +kernel
theorem dX2_isShowing_29 : decode cX2_isShowing 29 = .ok (.goto 4, 3) := by decide +kernel
theorem dX2_isShowing_32 : decode cX2_isShowing 32 = .ok (.iconst 0, 1) := by decide +kernel
theorem dX2_isShowing_33 : decode cX2_isShowing 33 = .ok (.ireturn, 1) := by decide +kernel
theorem dX2_fetchCell_0 : decode cX2_fetchCell 0 = .ok (.bipush 8, 2) := by decide +kernel
theorem dX2_fetchCell_2 : decode cX2_fetchCell 2 = .ok (.aload_n 0, 1) := by decide +kernel
theorem dX2_fetchCell_3 : decode cX2_fetchCell 3 = .ok (.getfield 52, 3) := by decide +kernel
theorem dX2_fetchCell_6 : decode cX2_fetchCell 6 = .ok (.imul, 1) := by decide +kernel
theorem dX2_fetchCell_7 : decode cX2_fetchCell 7 = .ok (.iload_n 1, 1) := by decide +kernel
theorem dX2_fetchCell_8 : decode cX2_fetchCell 8 = .ok (.iadd, 1) := by decide +kernel
theorem dX2_fetchCell_9 : decode cX2_fetchCell 9 = .ok (.istore_n 2, 1) := by decide +kernel
theorem dX2_fetchCell_10 : decode cX2_fetchCell 10 = .ok (.aload_n 0, 1) := by decide +kernel
theorem dX2_fetchCell_11 : decode cX2_fetchCell 11 = .ok (.getfield 16, 3) := by decide +kernel
theorem dX2_fetchCell_14 : decode cX2_fetchCell 14 = .ok (.iload_n 1, 1) := by decide +kernel
theorem dX2_fetchCell_15 : decode cX2_fetchCell 15 = .ok (.aload_n 0, 1) := by decide +kernel
theorem dX2_fetchCell_16 : decode cX2_fetchCell 16 = .ok (.getfield 26, 3) := by decide +kernel
theorem dX2_fetchCell_19 : decode cX2_fetchCell 19 = .ok (.bipush 64, 2) := by decide +kernel
theorem dX2_fetchCell_21 : decode cX2_fetchCell 21 = .ok (.aload_n 0, 1) := by decide +kernel
theorem dX2_fetchCell_22 : decode cX2_fetchCell 22 = .ok (.getfield 80, 3) := by decide +kernel
theorem dX2_fetchCell_25 : decode cX2_fetchCell 25 = .ok (.imul, 1) := by decide +kernel
theorem dX2_fetchCell_26 : decode cX2_fetchCell 26 = .ok (.iload_n 2, 1) := by decide +kernel
theorem dX2_fetchCell_27 : decode cX2_fetchCell 27 = .ok (.iadd, 1) := by decide +kernel
theorem dX2_fetchCell_28 : decode cX2_fetchCell 28 = .ok (.iaload, 1) := by decide +kernel
theorem dX2_fetchCell_29 : decode cX2_fetchCell 29 = .ok (.iastore, 1) := by decide +kernel
theorem dX2_fetchCell_30 : decode cX2_fetchCell 30 = .ok (.aload_n 0, 1) := by decide +kernel
theorem dX2_fetchCell_31 : decode cX2_fetchCell 31 = .ok (.getfield 19, 3) := by decide +kernel
theorem dX2_fetchCell_34 : decode cX2_fetchCell 34 = .ok (.iload_n 1, 1) := by decide +kernel
theorem dX2_fetchCell_35 : decode cX2_fetchCell 35 = .ok (.aload_n 0, 1) := by decide +kernel
theorem dX2_fetchCell_36 : decode cX2_fetchCell 36 = .ok (.getfield 13, 3) := by decide +kernel
theorem dX2_fetchCell_39 : decode cX2_fetchCell 39 = .ok (.iload_n 2, 1) := by decide +kernel
theorem dX2_fetchCell_40 : decode cX2_fetchCell 40 = .ok (.iaload, 1) := by decide +kernel
theorem dX2_fetchCell_41 : decode cX2_fetchCell 41 = .ok (.iastore, 1) := by decide +kernel
theorem dX2_fetchCell_42 : decode cX2_fetchCell 42 = .ok (.return_, 1) := by decide +kernel
theorem dX2_paintCell_0 : decode cX2_paintCell 0 = .ok (.aload_n 0, 1) := by decide +kernel
theorem dX2_paintCell_1 : decode cX2_paintCell 1 = .ok (.invokevirtual 70, 3) := by decide +kernel
theorem dX2_paintCell_4 : decode cX2_paintCell 4 = .ok (.istore_n 2, 1) := by decide +kernel
theorem dX2_paintCell_5 : decode cX2_paintCell 5 = .ok (.iload_n 2, 1) := by decide +kernel
theorem dX2_paintCell_6 : decode cX2_paintCell 6 = .ok (.ifCond .eq 10, 3) := by decide +kernel
theorem dX2_paintCell_9 : decode cX2_paintCell 9 = .ok (.aload_n 0, 1) := by decide +kernel
theorem dX2_paintCell_10 : decode cX2_paintCell 10 = .ok (.getfield 83, 3) := by decide +kernel
theorem dX2_paintCell_13 : decode cX2_paintCell 13 = .ok (.goto 7, 3) := by decide +kernel
theorem dX2_paintCell_16 : decode cX2_paintCell 16 = .ok (.aload_n 0, 1) := by decide +kernel
theorem dX2_paintCell_17 : decode cX2_paintCell 17 = .ok (.getfield 86, 3) := by decide +kernel
theorem dX2_paintCell_20 : decode cX2_paintCell 20 = .ok (.istore_n 3, 1) := by decide +kernel
theorem dX2_paintCell_21 : decode cX2_paintCell 21 = .ok (.iload_n 2, 1) := by decide +kernel
theorem dX2_paintCell_22 : decode cX2_paintCell 22 = .ok (.ifCond .eq 35, 3) := by decide +kernel
theorem dX2_paintCell_25 : decode cX2_paintCell 25 = .ok (.aload_n 0, 1) := by decide +kernel
theorem dX2_paintCell_26 : decode cX2_paintCell 26 = .ok (.getfield 22, 3) := by decide +kernel
theorem dX2_paintCell_29 : decode cX2_paintCell 29 = .ok (.ifCond .ne 28, 3) := by decide +kernel
theorem dX2_paintCell_32 : decode cX2_paintCell 32 = .ok (.aload_n 0, 1) := by decide +kernel
theorem dX2_paintCell_33 : decode cX2_paintCell 33 = .ok (.getfield 29, 3) := by decide +kernel
theorem dX2_paintCell_36 : decode cX2_paintCell 36 = .ok (.bipush 8, 2) := by decide +kernel
theorem dX2_paintCell_38 : decode cX2_paintCell 38 = .ok (.aload_n 0, 1) := by decide +kernel
theorem dX2_paintCell_39 : decode cX2_paintCell 39 = .ok (.getfield 16, 3) := by decide +kernel
theorem dX2_paintCell_42 : decode cX2_paintCell 42 = .ok (.iload_n 1, 1) := by decide +kernel
theorem dX2_paintCell_43 : decode cX2_paintCell 43 = .ok (.iaload, 1) := by decide +kernel
theorem dX2_paintCell_44 : decode cX2_paintCell 44 = .ok (.bipush 63, 2) := by decide +kernel
theorem dX2_paintCell_46 : decode cX2_paintCell 46 = .ok (.iand, 1) := by decide +kernel
theorem dX2_paintCell_47 : decode cX2_paintCell 47 = .ok (.imul, 1) := by decide +kernel
theorem dX2_paintCell_48 : decode cX2_paintCell 48 = .ok (.aload_n 0, 1) := by decide +kernel
theorem dX2_paintCell_49 : decode cX2_paintCell 49 = .ok (.getfield 77, 3) := by decide +kernel
theorem dX2_paintCell_52 : decode cX2_paintCell 52 = .ok (.iadd, 1) := by decide +kernel
theorem dX2_paintCell_53 : decode cX2_paintCell 53 = .ok (.iaload, 1) := by decide +kernel
theorem dX2_paintCell_54 : decode cX2_paintCell 54 = .ok (.goto 4, 3) := by decide +kernel
theorem dX2_paintCell_57 : decode cX2_paintCell 57 = .ok (.iconst 0, 1) := by decide +kernel
theorem dX2_paintCell_58 : decode cX2_paintCell 58 = .ok (.istore 4, 2) := by decide +kernel
theorem dX2_paintCell_60 : decode cX2_paintCell 60 = .ok (.aload_n 0, 1) := by decide +kernel
theorem dX2_paintCell_61 : decode cX2_paintCell 61 = .ok (.getfield 58, 3) := by decide +kernel
theorem dX2_paintCell_64 : decode cX2_paintCell 64 = .ok (.bipush 64, 2) := by decide +kernel
theorem dX2_paintCell_66 : decode cX2_paintCell 66 = .ok (.imul, 1) := by decide +kernel
theorem dX2_paintCell_67 : decode cX2_paintCell 67 = .ok (.bipush 8, 2) := by decide +kernel
theorem dX2_paintCell_69 : decode cX2_paintCell 69 = .ok (.iload_n 1, 1) := by decide +kernel
theorem dX2_paintCell_70 : decode cX2_paintCell 70 = .ok (.imul, 1) := by decide +kernel
theorem dX2_paintCell_71 : decode cX2_paintCell 71 = .ok (.iadd, 1) := by decide +kernel
theorem dX2_paintCell_72 : decode cX2_paintCell 72 = .ok (.istore 5, 2) := by decide +kernel
theorem dX2_paintCell_74 : decode cX2_paintCell 74 = .ok (.iconst 0, 1) := by decide +kernel
theorem dX2_paintCell_75 : decode cX2_paintCell 75 = .ok (.istore 6, 2) := by decide +kernel
theorem dX2_paintCell_77 : decode cX2_paintCell 77 = .ok (.iload 6, 2) := by decide +kernel
theorem dX2_paintCell_79 : decode cX2_paintCell 79 = .ok (.bipush 8, 2) := by decide +kernel
theorem dX2_paintCell_81 : decode cX2_paintCell 81 = .ok (.if_icmp .ge 54, 3) := by decide +kernel
theorem dX2_paintCell_84 : decode cX2_paintCell 84 = .ok (.iload 4, 2) := by decide +kernel
theorem dX2_paintCell_86 : decode cX2_paintCell 86 = .ok (.bipush 7, 2) := by decide +kernel
theorem dX2_paintCell_88 : decode cX2_paintCell 88 = .ok (.iload 6, 2) := by decide +kernel
theorem dX2_paintCell_90 : decode cX2_paintCell 90 = .ok (.isub, 1) := by decide +kernel
theorem dX2_paintCell_91 : decode cX2_paintCell 91 = .ok (.ishr, 1) := by decide +kernel
theorem dX2_paintCell_92 : decode cX2_paintCell 92 = .ok (.iconst 1, 1) := by decide +kernel
theorem dX2_paintCell_93 : decode cX2_paintCell 93 = .ok (.iand, 1) := by decide +kernel
theorem dX2_paintCell_94 : decode cX2_paintCell 94 = .ok (.ifCond .eq 7, 3) := by decide +kernel
theorem dX2_paintCell_97 : decode cX2_paintCell 97 = .ok (.iconst 1, 1) := by decide +kernel
theorem dX2_paintCell_98 : decode cX2_paintCell 98 = .ok (.goto 4, 3) := by decide +kernel
theorem dX2_paintCell_101 : decode cX2_paintCell 101 = .ok (.iconst 0, 1) := by decide +kernel
theorem dX2_paintCell_102 : decode cX2_paintCell 102 = .ok (.istore 7, 2) := by decide +kernel
theorem dX2_paintCell_104 : decode cX2_paintCell 104 = .ok (.aload_n 0, 1) := by decide +kernel
theorem dX2_paintCell_105 : decode cX2_paintCell 105 = .ok (.getfield 9, 3) := by decide +kernel
theorem dX2_paintCell_108 : decode cX2_paintCell 108 = .ok (.iload 5, 2) := by decide +kernel
theorem dX2_paintCell_110 : decode cX2_paintCell 110 = .ok (.iload 6, 2) := by decide +kernel
theorem dX2_paintCell_112 : decode cX2_paintCell 112 = .ok (.iadd, 1) := by decide +kernel
theorem dX2_paintCell_113 : decode cX2_paintCell 113 = .ok (.iload 7, 2) := by decide +kernel
theorem dX2_paintCell_115 : decode cX2_paintCell 115 = .ok (.ifCond .eq 12, 3) := by decide +kernel
theorem dX2_paintCell_118 : decode cX2_paintCell 118 = .ok (.aload_n 0, 1) := by decide +kernel
theorem dX2_paintCell_119 : decode cX2_paintCell 119 = .ok (.getfield 19, 3) := by decide +kernel
theorem dX2_paintCell_122 : decode cX2_paintCell 122 = .ok (.iload_n 1, 1) := by decide +kernel
theorem dX2_paintCell_123 : decode cX2_paintCell 123 = .ok (.iaload, 1) := by decide +kernel
theorem dX2_paintCell_124 : decode cX2_paintCell 124 = .ok (.goto 4, 3) := by decide +kernel
theorem dX2_paintCell_127 : decode cX2_paintCell 127 = .ok (.iload_n 3, 1) := by decide +kernel
theorem dX2_paintCell_128 : decode cX2_paintCell 128 = .ok (.iastore, 1) := by decide +kernel
theorem dX2_paintCell_129 : decode cX2_paintCell 129 = .ok (.iinc 6 1, 3) := by decide +kernel
theorem dX2_paintCell_132 : decode cX2_paintCell 132 = .ok (.goto (-55), 3) := by decide +kernel
theorem dX2_paintCell_135 : decode cX2_paintCell 135 = .ok (.return_, 1) := by decide +kernel
theorem dX2_endGlyphLine_0 : decode cX2_endGlyphLine 0 = .ok (.aload_n 0, 1) := by decide +kernel
theorem dX2_endGlyphLine_1 : decode cX2_endGlyphLine 1 = .ok (.getfield 77, 3) := by decide +kernel
theorem dX2_endGlyphLine_4 : decode cX2_endGlyphLine 4 = .ok (.bipush 7, 2) := by decide +kernel
theorem dX2_endGlyphLine_6 : decode cX2_endGlyphLine 6 = .ok (.if_icmp .ne 11, 3) := by decide +kernel
theorem dX2_endGlyphLine_9 : decode cX2_endGlyphLine 9 = .ok (.aload_n 0, 1) := by decide +kernel
theorem dX2_endGlyphLine_10 : decode cX2_endGlyphLine 10 = .ok (.iconst 1, 1) := by decide +kernel
theorem dX2_endGlyphLine_11 : decode cX2_endGlyphLine 11 = .ok (.putfield 22, 3) := by decide +kernel
theorem dX2_endGlyphLine_14 : decode cX2_endGlyphLine 14 = .ok (.goto 13, 3) := by decide +kernel
theorem dX2_endGlyphLine_17 : decode cX2_endGlyphLine 17 = .ok (.aload_n 0, 1) := by decide +kernel
theorem dX2_endGlyphLine_18 : decode cX2_endGlyphLine 18 = .ok (.dup, 1) := by decide +kernel
theorem dX2_endGlyphLine_19 : decode cX2_endGlyphLine 19 = .ok (.getfield 77, 3) := by decide +kernel
theorem dX2_endGlyphLine_22 : decode cX2_endGlyphLine 22 = .ok (.iconst 1, 1) := by decide +kernel
theorem dX2_endGlyphLine_23 : decode cX2_endGlyphLine 23 = .ok (.iadd, 1) := by decide +kernel
theorem dX2_endGlyphLine_24 : decode cX2_endGlyphLine 24 = .ok (.putfield 77, 3) := by decide +kernel
theorem dX2_endGlyphLine_27 : decode cX2_endGlyphLine 27 = .ok (.return_, 1) := by decide +kernel
theorem dX2_peekRegister_0 : decode cX2_peekRegister 0 = .ok (.iload_n 1, 1) := by decide +kernel
theorem dX2_peekRegister_1 : decode cX2_peekRegister 1 = .ok (.tableswitch 107 0 6 #[43, 48, 53, 58, 63, 89, 102], 43) := by decide +kernel
theorem dX2_peekRegister_44 : decode cX2_peekRegister 44 = .ok (.aload_n 0, 1) := by decide +kernel
theorem dX2_peekRegister_45 : decode cX2_peekRegister 45 = .ok (.getfield 74, 3) := by decide +kernel
theorem dX2_peekRegister_48 : decode cX2_peekRegister 48 = .ok (.ireturn, 1) := by decide +kernel
theorem dX2_peekRegister_49 : decode cX2_peekRegister 49 = .ok (.aload_n 0, 1) := by decide +kernel
theorem dX2_peekRegister_50 : decode cX2_peekRegister 50 = .ok (.getfield 58, 3) := by decide +kernel
theorem dX2_peekRegister_53 : decode cX2_peekRegister 53 = .ok (.ireturn, 1) := by decide +kernel
theorem dX2_peekRegister_54 : decode cX2_peekRegister 54 = .ok (.aload_n 0, 1) := by decide +kernel
theorem dX2_peekRegister_55 : decode cX2_peekRegister 55 = .ok (.getfield 83, 3) := by decide +kernel
theorem dX2_peekRegister_58 : decode cX2_peekRegister 58 = .ok (.ireturn, 1) := by decide +kernel
theorem dX2_peekRegister_59 : decode cX2_peekRegister 59 = .ok (.aload_n 0, 1) := by decide +kernel
theorem dX2_peekRegister_60 : decode cX2_peekRegister 60 = .ok (.getfield 86, 3) := by decide +kernel
theorem dX2_peekRegister_63 : decode cX2_peekRegister 63 = .ok (.ireturn, 1) := by decide +kernel
theorem dX2_peekRegister_64 : decode cX2_peekRegister 64 = .ok (.aload_n 0, 1) := by decide +kernel
theorem dX2_peekRegister_65 : decode cX2_peekRegister 65 = .ok (.getfield 61, 3) := by decide +kernel
theorem dX2_peekRegister_68 : decode cX2_peekRegister 68 = .ok (.ifCond .eq 20, 3) := by decide +kernel
theorem dX2_peekRegister_71 : decode cX2_peekRegister 71 = .ok (.aload_n 0, 1) := by decide +kernel
theorem dX2_peekRegister_72 : decode cX2_peekRegister 72 = .ok (.getfield 64, 3) := by decide +kernel
theorem dX2_peekRegister_75 : decode cX2_peekRegister 75 = .ok (.ifCond .eq 9, 3) := by decide +kernel
theorem dX2_peekRegister_78 : decode cX2_peekRegister 78 = .ok (.sipush 129, 3) := by decide +kernel
theorem dX2_peekRegister_81 : decode cX2_peekRegister 81 = .ok (.goto 8, 3) := by decide +kernel
theorem dX2_peekRegister_84 : decode cX2_peekRegister 84 = .ok (.iconst 1, 1) := by decide +kernel
theorem dX2_peekRegister_85 : decode cX2_peekRegister 85 = .ok (.goto 4, 3) := by decide +kernel
theorem dX2_peekRegister_88 : decode cX2_peekRegister 88 = .ok (.iconst 0, 1) := by decide +kernel
theorem dX2_peekRegister_89 : decode cX2_peekRegister 89 = .ok (.ireturn, 1) := by decide +kernel
theorem dX2_peekRegister_90 : decode cX2_peekRegister 90 = .ok (.aload_n 0, 1) := by decide +kernel
theorem dX2_peekRegister_91 : decode cX2_peekRegister 91 = .ok (.getfield 64, 3) := by decide +kernel
theorem dX2_peekRegister_94 : decode cX2_peekRegister 94 = .ok (.ifCond .eq 7, 3) := by decide +kernel
theorem dX2_peekRegister_97 : decode cX2_peekRegister 97 = .ok (.iconst 1, 1) := by decide +kernel
theorem dX2_peekRegister_98 : decode cX2_peekRegister 98 = .ok (.goto 4, 3) := by decide +kernel
theorem dX2_peekRegister_101 : decode cX2_peekRegister 101 = .ok (.iconst 0, 1) := by decide +kernel
theorem dX2_peekRegister_102 : decode cX2_peekRegister 102 = .ok (.ireturn, 1) := by decide +kernel
theorem dX2_peekRegister_103 : decode cX2_peekRegister 103 = .ok (.aload_n 0, 1) := by decide +kernel
theorem dX2_peekRegister_104 : decode cX2_peekRegister 104 = .ok (.getfield 80, 3) := by decide +kernel
theorem dX2_peekRegister_107 : decode cX2_peekRegister 107 = .ok (.ireturn, 1) := by decide +kernel
theorem dX2_peekRegister_108 : decode cX2_peekRegister 108 = .ok (.iconst 0, 1) := by decide +kernel
theorem dX2_peekRegister_109 : decode cX2_peekRegister 109 = .ok (.ireturn, 1) := by decide +kernel
theorem dX2_writeRegister_0 : decode cX2_writeRegister 0 = .ok (.iload_n 1, 1) := by decide +kernel
theorem dX2_writeRegister_1 : decode cX2_writeRegister 1 = .ok (.tableswitch 138 0 6 #[43, 54, 62, 73, 84, 109, 127], 43) := by decide +kernel
theorem dX2_writeRegister_44 : decode cX2_writeRegister 44 = .ok (.aload_n 0, 1) := by decide +kernel
theorem dX2_writeRegister_45 : decode cX2_writeRegister 45 = .ok (.iload_n 2, 1) := by decide +kernel
theorem dX2_writeRegister_46 : decode cX2_writeRegister 46 = .ok (.bipush 23, 2) := by decide +kernel
theorem dX2_writeRegister_48 : decode cX2_writeRegister 48 = .ok (.iand, 1) := by decide +kernel
theorem dX2_writeRegister_49 : decode cX2_writeRegister 49 = .ok (.putfield 74, 3) := by decide +kernel
theorem dX2_writeRegister_52 : decode cX2_writeRegister 52 = .ok (.goto 87, 3) := by decide +kernel
theorem dX2_writeRegister_55 : decode cX2_writeRegister 55 = .ok (.aload_n 0, 1) := by decide +kernel
theorem dX2_writeRegister_56 : decode cX2_writeRegister 56 = .ok (.iload_n 2, 1) := by decide +kernel
theorem dX2_writeRegister_57 : decode cX2_writeRegister 57 = .ok (.putfield 67, 3) := by decide +kernel
theorem dX2_writeRegister_60 : decode cX2_writeRegister 60 = .ok (.goto 79, 3) := by decide +kernel
theorem dX2_writeRegister_63 : decode cX2_writeRegister 63 = .ok (.aload_n 0, 1) := by decide +kernel
theorem dX2_writeRegister_64 : decode cX2_writeRegister 64 = .ok (.iload_n 2, 1) := by decide +kernel
theorem dX2_writeRegister_65 : decode cX2_writeRegister 65 = .ok (.bipush 15, 2) := by decide +kernel
theorem dX2_writeRegister_67 : decode cX2_writeRegister 67 = .ok (.iand, 1) := by decide +kernel
theorem dX2_writeRegister_68 : decode cX2_writeRegister 68 = .ok (.putfield 83, 3) := by decide +kernel
theorem dX2_writeRegister_71 : decode cX2_writeRegister 71 = .ok (.goto 68, 3) := by decide +kernel
theorem dX2_writeRegister_74 : decode cX2_writeRegister 74 = .ok (.aload_n 0, 1) := by decide +kernel
theorem dX2_writeRegister_75 : decode cX2_writeRegister 75 = .ok (.iload_n 2, 1) := by decide +kernel
theorem dX2_writeRegister_76 : decode cX2_writeRegister 76 = .ok (.bipush 15, 2) := by decide +kernel
theorem dX2_writeRegister_78 : decode cX2_writeRegister 78 = .ok (.iand, 1) := by decide +kernel
theorem dX2_writeRegister_79 : decode cX2_writeRegister 79 = .ok (.putfield 86, 3) := by decide +kernel
theorem dX2_writeRegister_82 : decode cX2_writeRegister 82 = .ok (.goto 57, 3) := by decide +kernel
theorem dX2_writeRegister_85 : decode cX2_writeRegister 85 = .ok (.aload_n 0, 1) := by decide +kernel
theorem dX2_writeRegister_86 : decode cX2_writeRegister 86 = .ok (.aload_n 0, 1) := by decide +kernel
theorem dX2_writeRegister_87 : decode cX2_writeRegister 87 = .ok (.getfield 61, 3) := by decide +kernel
theorem dX2_writeRegister_90 : decode cX2_writeRegister 90 = .ok (.ifCond .eq 13, 3) := by decide +kernel
theorem dX2_writeRegister_93 : decode cX2_writeRegister 93 = .ok (.iload_n 2, 1) := by decide +kernel
theorem dX2_writeRegister_94 : decode cX2_writeRegister 94 = .ok (.iconst 1, 1) := by decide +kernel
theorem dX2_writeRegister_95 : decode cX2_writeRegister 95 = .ok (.iand, 1) := by decide +kernel
theorem dX2_writeRegister_96 : decode cX2_writeRegister 96 = .ok (.ifCond .ne 7, 3) := by decide +kernel
theorem dX2_writeRegister_99 : decode cX2_writeRegister 99 = .ok (.iconst 1, 1) := by decide +kernel
theorem dX2_writeRegister_100 : decode cX2_writeRegister 100 = .ok (.goto 4, 3) := by decide +kernel
theorem dX2_writeRegister_103 : decode cX2_writeRegister 103 = .ok (.iconst 0, 1) := by decide +kernel
theorem dX2_writeRegister_104 : decode cX2_writeRegister 104 = .ok (.putfield 61, 3) := by decide +kernel
theorem dX2_writeRegister_107 : decode cX2_writeRegister 107 = .ok (.goto 32, 3) := by decide +kernel
theorem dX2_writeRegister_110 : decode cX2_writeRegister 110 = .ok (.aload_n 0, 1) := by decide +kernel
theorem dX2_writeRegister_111 : decode cX2_writeRegister 111 = .ok (.iload_n 2, 1) := by decide +kernel
theorem dX2_writeRegister_112 : decode cX2_writeRegister 112 = .ok (.iconst 1, 1) := by decide +kernel
theorem dX2_writeRegister_113 : decode cX2_writeRegister 113 = .ok (.iand, 1) := by decide +kernel
theorem dX2_writeRegister_114 : decode cX2_writeRegister 114 = .ok (.ifCond .eq 7, 3) := by decide +kernel
theorem dX2_writeRegister_117 : decode cX2_writeRegister 117 = .ok (.iconst 1, 1) := by decide +kernel
theorem dX2_writeRegister_118 : decode cX2_writeRegister 118 = .ok (.goto 4, 3) := by decide +kernel
theorem dX2_writeRegister_121 : decode cX2_writeRegister 121 = .ok (.iconst 0, 1) := by decide +kernel
theorem dX2_writeRegister_122 : decode cX2_writeRegister 122 = .ok (.putfield 64, 3) := by decide +kernel
theorem dX2_writeRegister_125 : decode cX2_writeRegister 125 = .ok (.goto 14, 3) := by decide +kernel
theorem dX2_writeRegister_128 : decode cX2_writeRegister 128 = .ok (.aload_n 0, 1) := by decide +kernel
theorem dX2_writeRegister_129 : decode cX2_writeRegister 129 = .ok (.iload_n 2, 1) := by decide +kernel
theorem dX2_writeRegister_130 : decode cX2_writeRegister 130 = .ok (.bipush 15, 2) := by decide +kernel
theorem dX2_writeRegister_132 : decode cX2_writeRegister 132 = .ok (.iand, 1) := by decide +kernel
theorem dX2_writeRegister_133 : decode cX2_writeRegister 133 = .ok (.putfield 80, 3) := by decide +kernel
theorem dX2_writeRegister_136 : decode cX2_writeRegister 136 = .ok (.goto 3, 3) := by decide +kernel
theorem dX2_writeRegister_139 : decode cX2_writeRegister 139 = .ok (.return_, 1) := by decide +kernel
theorem dX2_cellColour_0 : decode cX2_cellColour 0 = .ok (.iload_n 1, 1) := by decide +kernel
theorem dX2_cellColour_1 : decode cX2_cellColour 1 = .ok (.ifCond .lt 18, 3) := by decide +kernel
theorem dX2_cellColour_4 : decode cX2_cellColour 4 = .ok (.iload_n 1, 1) := by decide +kernel
theorem dX2_cellColour_5 : decode cX2_cellColour 5 = .ok (.bipush 24, 2) := by decide +kernel
theorem dX2_cellColour_7 : decode cX2_cellColour 7 = .ok (.if_icmp .ge 12, 3) := by decide +kernel
theorem dX2_cellColour_10 : decode cX2_cellColour 10 = .ok (.aload_n 0, 1) := by decide +kernel
theorem dX2_cellColour_11 : decode cX2_cellColour 11 = .ok (.getfield 13, 3) := by decide +kernel
theorem dX2_cellColour_14 : decode cX2_cellColour 14 = .ok (.iload_n 1, 1) := by decide +kernel
theorem dX2_cellColour_15 : decode cX2_cellColour 15 = .ok (.iaload, 1) := by decide +kernel
theorem dX2_cellColour_16 : decode cX2_cellColour 16 = .ok (.goto 4, 3) := by decide +kernel
theorem dX2_cellColour_19 : decode cX2_cellColour 19 = .ok (.iconst 0, 1) := by decide +kernel
theorem dX2_cellColour_20 : decode cX2_cellColour 20 = .ok (.ireturn, 1) := by decide +kernel
theorem dX2_setCellColour_0 : decode cX2_setCellColour 0 = .ok (.iload_n 1, 1) := by decide +kernel
theorem dX2_setCellColour_1 : decode cX2_setCellColour 1 = .ok (.ifCond .lt 19, 3) := by decide +kernel
theorem dX2_setCellColour_4 : decode cX2_setCellColour 4 = .ok (.iload_n 1, 1) := by decide +kernel
theorem dX2_setCellColour_5 : decode cX2_setCellColour 5 = .ok (.bipush 24, 2) := by decide +kernel
theorem dX2_setCellColour_7 : decode cX2_setCellColour 7 = .ok (.if_icmp .ge 13, 3) := by decide +kernel
theorem dX2_setCellColour_10 : decode cX2_setCellColour 10 = .ok (.aload_n 0, 1) := by decide +kernel
theorem dX2_setCellColour_11 : decode cX2_setCellColour 11 = .ok (.getfield 13, 3) := by decide +kernel
theorem dX2_setCellColour_14 : decode cX2_setCellColour 14 = .ok (.iload_n 1, 1) := by decide +kernel
theorem dX2_setCellColour_15 : decode cX2_setCellColour 15 = .ok (.iload_n 2, 1) := by decide +kernel
theorem dX2_setCellColour_16 : decode cX2_setCellColour 16 = .ok (.bipush 15, 2) := by decide +kernel
theorem dX2_setCellColour_18 : decode cX2_setCellColour 18 = .ok (.iand, 1) := by decide +kernel
theorem dX2_setCellColour_19 : decode cX2_setCellColour 19 = .ok (.iastore, 1) := by decide +kernel
theorem dX2_setCellColour_20 : decode cX2_setCellColour 20 = .ok (.return_, 1) := by decide +kernel
theorem dX3_init_0 : decode cX3_init 0 = .ok (.aload_n 0, 1) := by decide +kernel
theorem dX3_init_1 : decode cX3_init 1 = .ok (.invokespecial 3, 3) := by decide +kernel
theorem dX3_init_4 : decode cX3_init 4 = .ok (.aload_n 0, 1) := by decide +kernel
theorem dX3_init_5 : decode cX3_init 5 = .ok (.new 9, 3) := by decide +kernel
theorem dX3_init_8 : decode cX3_init 8 = .ok (.dup, 1) := by decide +kernel
theorem dX3_init_9 : decode cX3_init 9 = .ok (.invokespecial 11, 3) := by decide +kernel
theorem dX3_init_12 : decode cX3_init 12 = .ok (.putfield 12, 3) := by decide +kernel
theorem dX3_init_15 : decode cX3_init 15 = .ok (.aload_n 0, 1) := by decide +kernel
theorem dX3_init_16 : decode cX3_init 16 = .ok (.iconst 1, 1) := by decide +kernel
theorem dX3_init_17 : decode cX3_init 17 = .ok (.putfield 18, 3) := by decide +kernel
theorem dX3_init_20 : decode cX3_init 20 = .ok (.aload_n 0, 1) := by decide +kernel
theorem dX3_init_21 : decode cX3_init 21 = .ok (.iconst 0, 1) := by decide +kernel
theorem dX3_init_22 : decode cX3_init 22 = .ok (.putfield 22, 3) := by decide +kernel
theorem dX3_init_25 : decode cX3_init 25 = .ok (.aload_n 0, 1) := by decide +kernel
theorem dX3_init_26 : decode cX3_init 26 = .ok (.aload_n 1, 1) := by decide +kernel
theorem dX3_init_27 : decode cX3_init 27 = .ok (.putfield 26, 3) := by decide +kernel
theorem dX3_init_30 : decode cX3_init 30 = .ok (.aload_n 0, 1) := by decide +kernel
theorem dX3_init_31 : decode cX3_init 31 = .ok (.aload_n 2, 1) := by decide +kernel
theorem dX3_init_32 : decode cX3_init 32 = .ok (.putfield 30, 3) := by decide +kernel
theorem dX3_init_35 : decode cX3_init 35 = .ok (.aload_n 0, 1) := by decide +kernel
theorem dX3_init_36 : decode cX3_init 36 = .ok (.aload_n 3, 1) := by decide +kernel
theorem dX3_init_37 : decode cX3_init 37 = .ok (.putfield 34, 3) := by decide +kernel
theorem dX3_init_40 : decode cX3_init 40 = .ok (.return_, 1) := by decide +kernel
theorem dX3_restart_0 : decode cX3_restart 0 = .ok (.aload_n 0, 1) := by decide +kernel
theorem dX3_restart_1 : decode cX3_restart 1 = .ok (.getfield 12, 3) := by decide +kernel
theorem dX3_restart_4 : decode cX3_restart 4 = .ok (.aload_n 0, 1) := by decide +kernel
theorem dX3_restart_5 : decode cX3_restart 5 = .ok (.getfield 26, 3) := by decide +kernel
theorem dX3_restart_8 : decode cX3_restart 8 = .ok (.sipush 8188, 3) := by decide +kernel
theorem dX3_restart_11 : decode cX3_restart 11 = .ok (.invokevirtual 38, 3) := by decide +kernel
theorem dX3_restart_14 : decode cX3_restart 14 = .ok (.aload_n 0, 1) := by decide +kernel
theorem dX3_restart_15 : decode cX3_restart 15 = .ok (.getfield 26, 3) := by decide +kernel
theorem dX3_restart_18 : decode cX3_restart 18 = .ok (.sipush 8189, 3) := by decide +kernel
theorem dX3_restart_21 : decode cX3_restart 21 = .ok (.invokevirtual 38, 3) := by decide +kernel
theorem dX3_restart_24 : decode cX3_restart 24 = .ok (.invokestatic 44, 3) := by decide +kernel
theorem dX3_restart_27 : decode cX3_restart 27 = .ok (.invokevirtual 48, 3) := by decide +kernel
theorem dX3_restart_30 : decode cX3_restart 30 = .ok (.aload_n 0, 1) := by decide +kernel
theorem dX3_restart_31 : decode cX3_restart 31 = .ok (.iconst 0, 1) := by decide +kernel
theorem dX3_restart_32 : decode cX3_restart 32 = .ok (.putfield 18, 3) := by decide +kernel
theorem dX3_restart_35 : decode cX3_restart 35 = .ok (.aload_n 0, 1) := by decide +kernel
theorem dX3_restart_36 : decode cX3_restart 36 = .ok (.iconst 0, 1) := by decide +kernel
theorem dX3_restart_37 : decode cX3_restart 37 = .ok (.putfield 52, 3) := by decide +kernel
theorem dX3_restart_40 : decode cX3_restart 40 = .ok (.aload_n 0, 1) := by decide +kernel
theorem dX3_restart_41 : decode cX3_restart 41 = .ok (.iconst 0, 1) := by decide +kernel
theorem dX3_restart_42 : decode cX3_restart 42 = .ok (.putfield 55, 3) := by decide +kernel
theorem dX3_restart_45 : decode cX3_restart 45 = .ok (.aload_n 0, 1) := by decide +kernel
theorem dX3_restart_46 : decode cX3_restart 46 = .ok (.getfield 26, 3) := by decide +kernel
theorem dX3_restart_49 : decode cX3_restart 49 = .ok (.iconst (-1), 1) := by decide +kernel
theorem dX3_restart_50 : decode cX3_restart 50 = .ok (.putfield 58, 3) := by decide +kernel
theorem dX3_restart_53 : decode cX3_restart 53 = .ok (.aload_n 0, 1) := by decide +kernel
theorem dX3_restart_54 : decode cX3_restart 54 = .ok (.invokevirtual 61, 3) := by decide +kernel
theorem dX3_restart_57 : decode cX3_restart 57 = .ok (.return_, 1) := by decide +kernel
theorem dX3_makeAccess_0 : decode cX3_makeAccess 0 = .ok (.aload_n 0, 1) := by decide +kernel
theorem dX3_makeAccess_1 : decode cX3_makeAccess 1 = .ok (.getfield 18, 3) := by decide +kernel
theorem dX3_makeAccess_4 : decode cX3_makeAccess 4 = .ok (.ifCond .eq 5, 3) := by decide +kernel
theorem dX3_makeAccess_7 : decode cX3_makeAccess 7 = .ok (.iconst 0, 1) := by decide +kernel
theorem dX3_makeAccess_8 : decode cX3_makeAccess 8 = .ok (.ireturn, 1) := by decide +kernel
theorem dX3_makeAccess_9 : decode cX3_makeAccess 9 = .ok (.iload_n 1, 1) := by decide +kernel
theorem dX3_makeAccess_10 : decode cX3_makeAccess 10 = .ok (.ifCond .eq 22, 3) := by decide +kernel
theorem dX3_makeAccess_13 : decode cX3_makeAccess 13 = .ok (.aload_n 0, 1) := by decide +kernel
theorem dX3_makeAccess_14 : decode cX3_makeAccess 14 = .ok (.invokevirtual 64, 3) := by decide +kernel
theorem dX3_makeAccess_17 : decode cX3_makeAccess 17 = .ok (.ifCond .ne 15, 3) := by decide +kernel
theorem dX3_makeAccess_20 : decode cX3_makeAccess 20 = .ok (.aload_n 0, 1) := by decide +kernel
theorem dX3_makeAccess_21 : decode cX3_makeAccess 21 = .ok (.dup, 1) := by decide +kernel
theorem dX3_makeAccess_22 : decode cX3_makeAccess 22 = .ok (.getfield 52, 3) := by decide +kernel
theorem dX3_makeAccess_25 : decode cX3_makeAccess 25 = .ok (.iconst 1, 1) := by decide +kernel
theorem dX3_makeAccess_26 : decode cX3_makeAccess 26 = .ok (.iadd, 1) := by decide +kernel
theorem dX3_makeAccess_27 : decode cX3_makeAccess 27 = .ok (.putfield 52, 3) := by decide +kernel
theorem dX3_makeAccess_30 : decode cX3_makeAccess 30 = .ok (.iconst 0, 1) := by decide +kernel
theorem dX3_makeAccess_31 : decode cX3_makeAccess 31 = .ok (.ireturn, 1) := by decide +kernel
theorem dX3_makeAccess_32 : decode cX3_makeAccess 32 = .ok (.aload_n 0, 1) := by decide +kernel
theorem dX3_makeAccess_33 : decode cX3_makeAccess 33 = .ok (.dup, 1) := by decide +kernel
theorem dX3_makeAccess_34 : decode cX3_makeAccess 34 = .ok (.getfield 68, 3) := by decide +kernel
theorem dX3_makeAccess_37 : decode cX3_makeAccess 37 = .ok (.iconst 1, 1) := by decide +kernel
theorem dX3_makeAccess_38 : decode cX3_makeAccess 38 = .ok (.iadd, 1) := by decide +kernel
theorem dX3_makeAccess_39 : decode cX3_makeAccess 39 = .ok (.putfield 68, 3) := by decide +kernel
theorem dX3_makeAccess_42 : decode cX3_makeAccess 42 = .ok (.aload_n 0, 1) := by decide +kernel
theorem dX3_makeAccess_43 : decode cX3_makeAccess 43 = .ok (.getfield 22, 3) := by decide +kernel
theorem dX3_makeAccess_46 : decode cX3_makeAccess 46 = .ok (.tableswitch 183 0 15 #[78, 183, 85, 92, 99, 106, 113, 120, 127, 134, 141, 148, 155, 162, 169, 176], 78) := by decide +kernel
theorem dX3_makeAccess_124 : decode cX3_makeAccess 124 = .ok (.aload_n 0, 1) := by decide +kernel
theorem dX3_makeAccess_125 : decode cX3_makeAccess 125 = .ok (.invokevirtual 71, 3) := by decide +kernel
theorem dX3_makeAccess_128 : decode cX3_makeAccess 128 = .ok (.goto 101, 3) := by decide +kernel
theorem dX3_makeAccess_131 : decode cX3_makeAccess 131 = .ok (.aload_n 0, 1) := by decide +kernel
theorem dX3_makeAccess_132 : decode cX3_makeAccess 132 = .ok (.invokevirtual 74, 3) := by decide +kernel
theorem dX3_makeAccess_135 : decode cX3_makeAccess 135 = .ok (.goto 94, 3) := by decide +kernel
theorem dX3_makeAccess_138 : decode cX3_makeAccess 138 = .ok (.aload_n 0, 1) := by decide +kernel
theorem dX3_makeAccess_139 : decode cX3_makeAccess 139 = .ok (.invokevirtual 77, 3) := by decide +kernel
theorem dX3_makeAccess_142 : decode cX3_makeAccess 142 = .ok (.goto 87, 3) := by decide +kernel
theorem dX3_makeAccess_145 : decode cX3_makeAccess 145 = .ok (.aload_n 0, 1) := by decide +kernel
theorem dX3_makeAccess_146 : decode cX3_makeAccess 146 = .ok (.invokevirtual 80, 3) := by decide +kernel
theorem dX3_makeAccess_149 : decode cX3_makeAccess 149 = .ok (.goto 80, 3) := by decide +kernel
theorem dX3_makeAccess_152 : decode cX3_makeAccess 152 = .ok (.aload_n 0, 1) := by decide +kernel
theorem dX3_makeAccess_153 : decode cX3_makeAccess 153 = .ok (.invokevirtual 83, 3) := by decide +kernel
theorem dX3_makeAccess_156 : decode cX3_makeAccess 156 = .ok (.goto 73, 3) := by decide +kernel
theorem dX3_makeAccess_159 : decode cX3_makeAccess 159 = .ok (.aload_n 0, 1) := by decide +kernel
theorem dX3_makeAccess_160 : decode cX3_makeAccess 160 = .ok (.invokevirtual 86, 3) := by decide +kernel
theorem dX3_makeAccess_163 : decode cX3_makeAccess 163 = .ok (.goto 66, 3) := by decide +kernel
theorem dX3_makeAccess_166 : decode cX3_makeAccess 166 = .ok (.aload_n 0, 1) := by decide +kernel
theorem dX3_makeAccess_167 : decode cX3_makeAccess 167 = .ok (.invokevirtual 89, 3) := by decide +kernel
theorem dX3_makeAccess_170 : decode cX3_makeAccess 170 = .ok (.goto 59, 3) := by decide +kernel
theorem dX3_makeAccess_173 : decode cX3_makeAccess 173 = .ok (.aload_n 0, 1) := by decide +kernel
theorem dX3_makeAccess_174 : decode cX3_makeAccess 174 = .ok (.invokevirtual 92, 3) := by decide +kernel
theorem dX3_makeAccess_177 : decode cX3_makeAccess 177 = .ok (.goto 52, 3) := by decide +kernel
theorem dX3_makeAccess_180 : decode cX3_makeAccess 180 = .ok (.aload_n 0, 1) := by decide +kernel
theorem dX3_makeAccess_181 : decode cX3_makeAccess 181 = .ok (.invokevirtual 95, 3) := by decide +kernel
theorem dX3_makeAccess_184 : decode cX3_makeAccess 184 = .ok (.goto 45, 3) := by decide +kernel
theorem dX3_makeAccess_187 : decode cX3_makeAccess 187 = .ok (.aload_n 0, 1) := by decide +kernel
theorem dX3_makeAccess_188 : decode cX3_makeAccess 188 = .ok (.invokevirtual 98, 3) := by decide +kernel
theorem dX3_makeAccess_191 : decode cX3_makeAccess 191 = .ok (.goto 38, 3) := by decide +kernel
theorem dX3_makeAccess_194 : decode cX3_makeAccess 194 = .ok (.aload_n 0, 1) := by decide +kernel
theorem dX3_makeAccess_195 : decode cX3_makeAccess 195 = .ok (.invokevirtual 101, 3) := by decide +kernel
theorem dX3_makeAccess_198 : decode cX3_makeAccess 198 = .ok (.goto 31, 3) := by decide +kernel
theorem dX3_makeAccess_201 : decode cX3_makeAccess 201 = .ok (.aload_n 0, 1) := by decide +kernel
theorem dX3_makeAccess_202 : decode cX3_makeAccess 202 = .ok (.invokevirtual 104, 3) := by decide +kernel
theorem dX3_makeAccess_205 : decode cX3_makeAccess 205 = .ok (.goto 24, 3) := by decide +kernel
theorem dX3_makeAccess_208 : decode cX3_makeAccess 208 = .ok (.aload_n 0, 1) := by decide +kernel
theorem dX3_makeAccess_209 : decode cX3_makeAccess 209 = .ok (.invokevirtual 107, 3) := by decide +kernel
theorem dX3_makeAccess_212 : decode cX3_makeAccess 212 = .ok (.goto 17, 3) := by decide +kernel
theorem dX3_makeAccess_215 : decode cX3_makeAccess 215 = .ok (.aload_n 0, 1) := by decide +kernel
theorem dX3_makeAccess_216 : decode cX3_makeAccess 216 = .ok (.invokevirtual 110, 3) := by decide +kernel
theorem dX3_makeAccess_219 : decode cX3_makeAccess 219 = .ok (.goto 10, 3) := by decide +kernel
theorem dX3_makeAccess_222 : decode cX3_makeAccess 222 = .ok (.aload_n 0, 1) := by decide +kernel
theorem dX3_makeAccess_223 : decode cX3_makeAccess 223 = .ok (.invokevirtual 113, 3) := by decide +kernel
theorem dX3_makeAccess_226 : decode cX3_makeAccess 226 = .ok (.goto 3, 3) := by decide +kernel
theorem dX3_makeAccess_229 : decode cX3_makeAccess 229 = .ok (.iconst 1, 1) := by decide +kernel
theorem dX3_makeAccess_230 : decode cX3_makeAccess 230 = .ok (.ireturn, 1) := by decide +kernel
theorem dX3_writesNext_0 : decode cX3_writesNext 0 = .ok (.aload_n 0, 1) := by decide +kernel
theorem dX3_writesNext_1 : decode cX3_writesNext 1 = .ok (.getfield 68, 3) := by decide +kernel
theorem dX3_writesNext_4 : decode cX3_writesNext 4 = .ok (.iconst 1, 1) := by decide +kernel
theorem dX3_writesNext_5 : decode cX3_writesNext 5 = .ok (.iadd, 1) := by decide +kernel
theorem dX3_writesNext_6 : decode cX3_writesNext 6 = .ok (.istore_n 1, 1) := by decide +kernel
theorem dX3_writesNext_7 : decode cX3_writesNext 7 = .ok (.aload_n 0, 1) := by decide +kernel
theorem dX3_writesNext_8 : decode cX3_writesNext 8 = .ok (.getfield 22, 3) := by decide +kernel
theorem dX3_writesNext_11 : decode cX3_writesNext 11 = .ok (.tableswitch 173 2 14 #[65, 173, 173, 81, 99, 117, 135, 173, 173, 146, 173, 173, 162], 65) := by decide +kernel
theorem dX3_writesNext_76 : decode cX3_writesNext 76 = .ok (.iload_n 1, 1) := by decide +kernel
theorem dX3_writesNext_77 : decode cX3_writesNext 77 = .ok (.iconst 3, 1) := by decide +kernel
theorem dX3_writesNext_78 : decode cX3_writesNext 78 = .ok (.if_icmp .lt 12, 3) := by decide +kernel
theorem dX3_writesNext_81 : decode cX3_writesNext 81 = .ok (.iload_n 1, 1) := by decide +kernel
theorem dX3_writesNext_82 : decode cX3_writesNext 82 = .ok (.iconst 5, 1) := by decide +kernel
theorem dX3_writesNext_83 : decode cX3_writesNext 83 = .ok (.if_icmp .gt 7, 3) := by decide +kernel
theorem dX3_writesNext_86 : decode cX3_writesNext 86 = .ok (.iconst 1, 1) := by decide +kernel
theorem dX3_writesNext_87 : decode cX3_writesNext 87 = .ok (.goto 4, 3) := by decide +kernel
theorem dX3_writesNext_90 : decode cX3_writesNext 90 = .ok (.iconst 0, 1) := by decide +kernel
theorem dX3_writesNext_91 : decode cX3_writesNext 91 = .ok (.ireturn, 1) := by decide +kernel
theorem dX3_writesNext_92 : decode cX3_writesNext 92 = .ok (.aload_n 0, 1) := by decide +kernel
theorem dX3_writesNext_93 : decode cX3_writesNext 93 = .ok (.invokevirtual 116, 3) := by decide +kernel
theorem dX3_writesNext_96 : decode cX3_writesNext 96 = .ok (.ifCond .eq 12, 3) := by decide +kernel
theorem dX3_writesNext_99 : decode cX3_writesNext 99 = .ok (.iload_n 1, 1) := by decide +kernel
theorem dX3_writesNext_100 : decode cX3_writesNext 100 = .ok (.iconst 3, 1) := by decide +kernel
theorem dX3_writesNext_101 : decode cX3_writesNext 101 = .ok (.if_icmp .ne 7, 3) := by decide +kernel
theorem dX3_writesNext_104 : decode cX3_writesNext 104 = .ok (.iconst 1, 1) := by decide +kernel
theorem dX3_writesNext_105 : decode cX3_writesNext 105 = .ok (.goto 4, 3) := by decide +kernel
theorem dX3_writesNext_108 : decode cX3_writesNext 108 = .ok (.iconst 0, 1) := by decide +kernel
theorem dX3_writesNext_109 : decode cX3_writesNext 109 = .ok (.ireturn, 1) := by decide +kernel
theorem dX3_writesNext_110 : decode cX3_writesNext 110 = .ok (.aload_n 0, 1) := by decide +kernel
theorem dX3_writesNext_111 : decode cX3_writesNext 111 = .ok (.invokevirtual 116, 3) := by decide +kernel
theorem dX3_writesNext_114 : decode cX3_writesNext 114 = .ok (.ifCond .eq 12, 3) := by decide +kernel
theorem dX3_writesNext_117 : decode cX3_writesNext 117 = .ok (.iload_n 1, 1) := by decide +kernel
theorem dX3_writesNext_118 : decode cX3_writesNext 118 = .ok (.iconst 4, 1) := by decide +kernel
theorem dX3_writesNext_119 : decode cX3_writesNext 119 = .ok (.if_icmp .ne 7, 3) := by decide +kernel
theorem dX3_writesNext_122 : decode cX3_writesNext 122 = .ok (.iconst 1, 1) := by decide +kernel
theorem dX3_writesNext_123 : decode cX3_writesNext 123 = .ok (.goto 4, 3) := by decide +kernel
theorem dX3_writesNext_126 : decode cX3_writesNext 126 = .ok (.iconst 0, 1) := by decide +kernel
theorem dX3_writesNext_127 : decode cX3_writesNext 127 = .ok (.ireturn, 1) := by decide +kernel
theorem dX3_writesNext_128 : decode cX3_writesNext 128 = .ok (.aload_n 0, 1) := by decide +kernel
theorem dX3_writesNext_129 : decode cX3_writesNext 129 = .ok (.invokevirtual 116, 3) := by decide +kernel
theorem dX3_writesNext_132 : decode cX3_writesNext 132 = .ok (.ifCond .eq 12, 3) := by decide +kernel
theorem dX3_writesNext_135 : decode cX3_writesNext 135 = .ok (.iload_n 1, 1) := by decide +kernel
theorem dX3_writesNext_136 : decode cX3_writesNext 136 = .ok (.iconst 5, 1) := by decide +kernel
theorem dX3_writesNext_137 : decode cX3_writesNext 137 = .ok (.if_icmp .ne 7, 3) := by decide +kernel
theorem dX3_writesNext_140 : decode cX3_writesNext 140 = .ok (.iconst 1, 1) := by decide +kernel
theorem dX3_writesNext_141 : decode cX3_writesNext 141 = .ok (.goto 4, 3) := by decide +kernel
theorem dX3_writesNext_144 : decode cX3_writesNext 144 = .ok (.iconst 0, 1) := by decide +kernel
theorem dX3_writesNext_145 : decode cX3_writesNext 145 = .ok (.ireturn, 1) := by decide +kernel
theorem dX3_writesNext_146 : decode cX3_writesNext 146 = .ok (.iload_n 1, 1) := by decide +kernel
theorem dX3_writesNext_147 : decode cX3_writesNext 147 = .ok (.iconst 4, 1) := by decide +kernel
theorem dX3_writesNext_148 : decode cX3_writesNext 148 = .ok (.if_icmp .lt 7, 3) := by decide +kernel
theorem dX3_writesNext_151 : decode cX3_writesNext 151 = .ok (.iconst 1, 1) := by decide +kernel
theorem dX3_writesNext_152 : decode cX3_writesNext 152 = .ok (.goto 4, 3) := by decide +kernel
theorem dX3_writesNext_155 : decode cX3_writesNext 155 = .ok (.iconst 0, 1) := by decide +kernel
theorem dX3_writesNext_156 : decode cX3_writesNext 156 = .ok (.ireturn, 1) := by decide +kernel
theorem dX3_writesNext_157 : decode cX3_writesNext 157 = .ok (.iload_n 1, 1) := by decide +kernel
theorem dX3_writesNext_158 : decode cX3_writesNext 158 = .ok (.iconst 4, 1) := by decide +kernel
theorem dX3_writesNext_159 : decode cX3_writesNext 159 = .ok (.if_icmp .eq 8, 3) := by decide +kernel
theorem dX3_writesNext_162 : decode cX3_writesNext 162 = .ok (.iload_n 1, 1) := by decide +kernel
theorem dX3_writesNext_163 : decode cX3_writesNext 163 = .ok (.iconst 5, 1) := by decide +kernel
theorem dX3_writesNext_164 : decode cX3_writesNext 164 = .ok (.if_icmp .ne 7, 3) := by decide +kernel
theorem dX3_writesNext_167 : decode cX3_writesNext 167 = .ok (.iconst 1, 1) := by decide +kernel
theorem dX3_writesNext_168 : decode cX3_writesNext 168 = .ok (.goto 4, 3) := by decide +kernel
theorem dX3_writesNext_171 : decode cX3_writesNext 171 = .ok (.iconst 0, 1) := by decide +kernel
theorem dX3_writesNext_172 : decode cX3_writesNext 172 = .ok (.ireturn, 1) := by decide +kernel
theorem dX3_writesNext_173 : decode cX3_writesNext 173 = .ok (.iload_n 1, 1) := by decide +kernel
theorem dX3_writesNext_174 : decode cX3_writesNext 174 = .ok (.iconst 3, 1) := by decide +kernel
theorem dX3_writesNext_175 : decode cX3_writesNext 175 = .ok (.if_icmp .ne 7, 3) := by decide +kernel
theorem dX3_writesNext_178 : decode cX3_writesNext 178 = .ok (.iconst 1, 1) := by decide +kernel
theorem dX3_writesNext_179 : decode cX3_writesNext 179 = .ok (.goto 4, 3) := by decide +kernel
theorem dX3_writesNext_182 : decode cX3_writesNext 182 = .ok (.iconst 0, 1) := by decide +kernel
theorem dX3_writesNext_183 : decode cX3_writesNext 183 = .ok (.ireturn, 1) := by decide +kernel
theorem dX3_writesNext_184 : decode cX3_writesNext 184 = .ok (.iconst 0, 1) := by decide +kernel
theorem dX3_writesNext_185 : decode cX3_writesNext 185 = .ok (.ireturn, 1) := by decide +kernel
theorem dX3_word_0 : decode cX3_word 0 = .ok (.iload_n 1, 1) := by decide +kernel
theorem dX3_word_1 : decode cX3_word 1 = .ok (.bipush 8, 2) := by decide +kernel
theorem dX3_word_3 : decode cX3_word 3 = .ok (.ishl, 1) := by decide +kernel
theorem dX3_word_4 : decode cX3_word 4 = .ok (.iload_n 0, 1) := by decide +kernel
theorem dX3_word_5 : decode cX3_word 5 = .ok (.ior, 1) := by decide +kernel
theorem dX3_word_6 : decode cX3_word 6 = .ok (.ireturn, 1) := by decide +kernel
theorem dX3_stores_0 : decode cX3_stores 0 = .ok (.aload_n 0, 1) := by decide +kernel
theorem dX3_stores_1 : decode cX3_stores 1 = .ok (.getfield 119, 3) := by decide +kernel
theorem dX3_stores_4 : decode cX3_stores 4 = .ok (.iconst 5, 1) := by decide +kernel
theorem dX3_stores_5 : decode cX3_stores 5 = .ok (.ishr, 1) := by decide +kernel
theorem dX3_stores_6 : decode cX3_stores 6 = .ok (.iconst 4, 1) := by decide +kernel
theorem dX3_stores_7 : decode cX3_stores 7 = .ok (.if_icmp .ne 7, 3) := by decide +kernel
theorem dX3_stores_10 : decode cX3_stores 10 = .ok (.iconst 1, 1) := by decide +kernel
theorem dX3_stores_11 : decode cX3_stores 11 = .ok (.goto 4, 3) := by decide +kernel
theorem dX3_stores_14 : decode cX3_stores 14 = .ok (.iconst 0, 1) := by decide +kernel
theorem dX3_stores_15 : decode cX3_stores 15 = .ok (.ireturn, 1) := by decide +kernel
theorem dX3_endInstruction_0 : decode cX3_endInstruction 0 = .ok (.aload_n 0, 1) := by decide +kernel
theorem dX3_endInstruction_1 : decode cX3_endInstruction 1 = .ok (.iconst 0, 1) := by decide +kernel
theorem dX3_endInstruction_2 : decode cX3_endInstruction 2 = .ok (.putfield 22, 3) := by decide +kernel
theorem dX3_endInstruction_5 : decode cX3_endInstruction 5 = .ok (.aload_n 0, 1) := by decide +kernel
theorem dX3_endInstruction_6 : decode cX3_endInstruction 6 = .ok (.iconst 0, 1) := by decide +kernel
theorem dX3_endInstruction_7 : decode cX3_endInstruction 7 = .ok (.putfield 68, 3) := by decide +kernel
theorem dX3_endInstruction_10 : decode cX3_endInstruction 10 = .ok (.return_, 1) := by decide +kernel
theorem dX3_nextByte_0 : decode cX3_nextByte 0 = .ok (.aload_n 0, 1) := by decide +kernel
theorem dX3_nextByte_1 : decode cX3_nextByte 1 = .ok (.getfield 26, 3) := by decide +kernel
theorem dX3_nextByte_4 : decode cX3_nextByte 4 = .ok (.aload_n 0, 1) := by decide +kernel
theorem dX3_nextByte_5 : decode cX3_nextByte 5 = .ok (.getfield 12, 3) := by decide +kernel
theorem dX3_nextByte_8 : decode cX3_nextByte 8 = .ok (.getfield 122, 3) := by decide +kernel
theorem dX3_nextByte_11 : decode cX3_nextByte 11 = .ok (.invokevirtual 125, 3) := by decide +kernel
theorem dX3_nextByte_14 : decode cX3_nextByte 14 = .ok (.istore_n 1, 1) := by decide +kernel
theorem dX3_nextByte_15 : decode cX3_nextByte 15 = .ok (.aload_n 0, 1) := by decide +kernel
theorem dX3_nextByte_16 : decode cX3_nextByte 16 = .ok (.getfield 12, 3) := by decide +kernel
theorem dX3_nextByte_19 : decode cX3_nextByte 19 = .ok (.aload_n 0, 1) := by decide +kernel
theorem dX3_nextByte_20 : decode cX3_nextByte 20 = .ok (.getfield 12, 3) := by decide +kernel
theorem dX3_nextByte_23 : decode cX3_nextByte 23 = .ok (.getfield 122, 3) := by decide +kernel
theorem dX3_nextByte_26 : decode cX3_nextByte 26 = .ok (.iconst 1, 1) := by decide +kernel
theorem dX3_nextByte_27 : decode cX3_nextByte 27 = .ok (.iadd, 1) := by decide +kernel
theorem dX3_nextByte_28 : decode cX3_nextByte 28 = .ok (.ldc 128, 2) := by decide +kernel
theorem dX3_nextByte_30 : decode cX3_nextByte 30 = .ok (.iand, 1) := by decide +kernel
theorem dX3_nextByte_31 : decode cX3_nextByte 31 = .ok (.putfield 122, 3) := by decide +kernel
theorem dX3_nextByte_34 : decode cX3_nextByte 34 = .ok (.iload_n 1, 1) := by decide +kernel
theorem dX3_nextByte_35 : decode cX3_nextByte 35 = .ok (.ireturn, 1) := by decide +kernel
theorem dX3_push_0 : decode cX3_push 0 = .ok (.aload_n 0, 1) := by decide +kernel
theorem dX3_push_1 : decode cX3_push 1 = .ok (.getfield 26, 3) := by decide +kernel
theorem dX3_push_4 : decode cX3_push 4 = .ok (.sipush 256, 3) := by decide +kernel
theorem dX3_push_7 : decode cX3_push 7 = .ok (.aload_n 0, 1) := by decide +kernel
theorem dX3_push_8 : decode cX3_push 8 = .ok (.getfield 12, 3) := by decide +kernel
theorem dX3_push_11 : decode cX3_push 11 = .ok (.getfield 129, 3) := by decide +kernel
theorem dX3_push_14 : decode cX3_push 14 = .ok (.iadd, 1) := by decide +kernel
theorem dX3_push_15 : decode cX3_push 15 = .ok (.iload_n 1, 1) := by decide +kernel
theorem dX3_push_16 : decode cX3_push 16 = .ok (.invokevirtual 132, 3) := by decide +kernel
theorem dX3_push_19 : decode cX3_push 19 = .ok (.aload_n 0, 1) := by decide +kernel
theorem dX3_push_20 : decode cX3_push 20 = .ok (.getfield 12, 3) := by decide +kernel
theorem dX3_push_23 : decode cX3_push 23 = .ok (.aload_n 0, 1) := by decide +kernel
theorem dX3_push_24 : decode cX3_push 24 = .ok (.getfield 12, 3) := by decide +kernel
theorem dX3_push_27 : decode cX3_push 27 = .ok (.getfield 129, 3) := by decide +kernel
theorem dX3_push_30 : decode cX3_push 30 = .ok (.iconst 1, 1) := by decide +kernel
theorem dX3_push_31 : decode cX3_push 31 = .ok (.isub, 1) := by decide +kernel
theorem dX3_push_32 : decode cX3_push 32 = .ok (.sipush 255, 3) := by decide +kernel
theorem dX3_push_35 : decode cX3_push 35 = .ok (.iand, 1) := by decide +kernel
theorem dX3_push_36 : decode cX3_push 36 = .ok (.putfield 129, 3) := by decide +kernel
theorem dX3_push_39 : decode cX3_push 39 = .ok (.return_, 1) := by decide +kernel
theorem dX3_readStack_0 : decode cX3_readStack 0 = .ok (.aload_n 0, 1) := by decide +kernel
theorem dX3_readStack_1 : decode cX3_readStack 1 = .ok (.getfield 26, 3) := by decide +kernel
theorem dX3_readStack_4 : decode cX3_readStack 4 = .ok (.sipush 256, 3) := by decide +kernel
theorem dX3_readStack_7 : decode cX3_readStack 7 = .ok (.aload_n 0, 1) := by decide +kernel
theorem dX3_readStack_8 : decode cX3_readStack 8 = .ok (.getfield 12, 3) := by decide +kernel
theorem dX3_readStack_11 : decode cX3_readStack 11 = .ok (.getfield 129, 3) := by decide +kernel
theorem dX3_readStack_14 : decode cX3_readStack 14 = .ok (.iadd, 1) := by decide +kernel
theorem dX3_readStack_15 : decode cX3_readStack 15 = .ok (.invokevirtual 125, 3) := by decide +kernel
theorem dX3_readStack_18 : decode cX3_readStack 18 = .ok (.ireturn, 1) := by decide +kernel
theorem dX3_growStack_0 : decode cX3_growStack 0 = .ok (.aload_n 0, 1) := by decide +kernel
theorem dX3_growStack_1 : decode cX3_growStack 1 = .ok (.getfield 12, 3) := by decide +kernel
theorem dX3_growStack_4 : decode cX3_growStack 4 = .ok (.aload_n 0, 1) := by decide +kernel
theorem dX3_growStack_5 : decode cX3_growStack 5 = .ok (.getfield 12, 3) := by decide +kernel
theorem dX3_growStack_8 : decode cX3_growStack 8 = .ok (.getfield 129, 3) := by decide +kernel
theorem dX3_growStack_11 : decode cX3_growStack 11 = .ok (.iconst 1, 1) := by decide +kernel
theorem dX3_growStack_12 : decode cX3_growStack 12 = .ok (.iadd, 1) := by decide +kernel
theorem dX3_growStack_13 : decode cX3_growStack 13 = .ok (.sipush 255, 3) := by decide +kernel
theorem dX3_growStack_16 : decode cX3_growStack 16 = .ok (.iand, 1) := by decide +kernel
theorem dX3_growStack_17 : decode cX3_growStack 17 = .ok (.putfield 129, 3) := by decide +kernel
theorem dX3_growStack_20 : decode cX3_growStack 20 = .ok (.return_, 1) := by decide +kernel
theorem dX3_begin_0 : decode cX3_begin 0 = .ok (.aload_n 0, 1) := by decide +kernel
theorem dX3_begin_1 : decode cX3_begin 1 = .ok (.getfield 30, 3) := by decide +kernel
theorem dX3_begin_4 : decode cX3_begin 4 = .ok (.invokevirtual 136, 3) := by decide +kernel
theorem dX3_begin_7 : decode cX3_begin 7 = .ok (.ifCond .ne 13, 3) := by decide +kernel
theorem dX3_begin_10 : decode cX3_begin 10 = .ok (.aload_n 0, 1) := by decide +kernel
theorem dX3_begin_11 : decode cX3_begin 11 = .ok (.getfield 34, 3) := by decide +kernel
theorem dX3_begin_14 : decode cX3_begin 14 = .ok (.invokevirtual 141, 3) := by decide +kernel
theorem dX3_begin_17 : decode cX3_begin 17 = .ok (.ifCond .eq 7, 3) := by decide +kernel
theorem dX3_begin_20 : decode cX3_begin 20 = .ok (.iconst 1, 1) := by decide +kernel
theorem dX3_begin_21 : decode cX3_begin 21 = .ok (.goto 4, 3) := by decide +kernel
theorem dX3_begin_24 : decode cX3_begin 24 = .ok (.iconst 0, 1) := by decide +kernel
theorem dX3_begin_25 : decode cX3_begin 25 = .ok (.istore_n 1, 1) := by decide +kernel
theorem dX3_begin_26 : decode cX3_begin 26 = .ok (.iload_n 1, 1) := by decide +kernel
theorem dX3_begin_27 : decode cX3_begin 27 = .ok (.ifCond .eq 45, 3) := by decide +kernel
theorem dX3_begin_30 : decode cX3_begin 30 = .ok (.aload_n 0, 1) := by decide +kernel
theorem dX3_begin_31 : decode cX3_begin 31 = .ok (.getfield 12, 3) := by decide +kernel
theorem dX3_begin_34 : decode cX3_begin 34 = .ok (.iconst 4, 1) := by decide +kernel
theorem dX3_begin_35 : decode cX3_begin 35 = .ok (.invokevirtual 144, 3) := by decide +kernel
theorem dX3_begin_38 : decode cX3_begin 38 = .ok (.ifCond .ne 34, 3) := by decide +kernel
theorem dX3_begin_41 : decode cX3_begin 41 = .ok (.aload_n 0, 1) := by decide +kernel
theorem dX3_begin_42 : decode cX3_begin 42 = .ok (.dup, 1) := by decide +kernel
theorem dX3_begin_43 : decode cX3_begin 43 = .ok (.getfield 55, 3) := by decide +kernel
theorem dX3_begin_46 : decode cX3_begin 46 = .ok (.iconst 1, 1) := by decide +kernel
theorem dX3_begin_47 : decode cX3_begin 47 = .ok (.iadd, 1) := by decide +kernel
theorem dX3_begin_48 : decode cX3_begin 48 = .ok (.putfield 55, 3) := by decide +kernel
theorem dX3_begin_51 : decode cX3_begin 51 = .ok (.aload_n 0, 1) := by decide +kernel
theorem dX3_begin_52 : decode cX3_begin 52 = .ok (.iconst 2, 1) := by decide +kernel
theorem dX3_begin_53 : decode cX3_begin 53 = .ok (.putfield 22, 3) := by decide +kernel
theorem dX3_begin_56 : decode cX3_begin 56 = .ok (.aload_n 0, 1) := by decide +kernel
theorem dX3_begin_57 : decode cX3_begin 57 = .ok (.getfield 26, 3) := by decide +kernel
theorem dX3_begin_60 : decode cX3_begin 60 = .ok (.aload_n 0, 1) := by decide +kernel
theorem dX3_begin_61 : decode cX3_begin 61 = .ok (.getfield 12, 3) := by decide +kernel
theorem dX3_begin_64 : decode cX3_begin 64 = .ok (.getfield 122, 3) := by decide +kernel
theorem dX3_begin_67 : decode cX3_begin 67 = .ok (.invokevirtual 125, 3) := by decide +kernel
theorem dX3_begin_70 : decode cX3_begin 70 = .ok (.pop, 1) := by decide +kernel
theorem dX3_begin_71 : decode cX3_begin 71 = .ok (.return_, 1) := by decide +kernel
theorem dX3_begin_72 : decode cX3_begin 72 = .ok (.aload_n 0, 1) := by decide +kernel
theorem dX3_begin_73 : decode cX3_begin 73 = .ok (.aload_n 0, 1) := by decide +kernel
theorem dX3_begin_74 : decode cX3_begin 74 = .ok (.invokevirtual 148, 3) := by decide +kernel
theorem dX3_begin_77 : decode cX3_begin 77 = .ok (.putfield 119, 3) := by decide +kernel
theorem dX3_begin_80 : decode cX3_begin 80 = .ok (.aload_n 0, 1) := by decide +kernel
theorem dX3_begin_81 : decode cX3_begin 81 = .ok (.aload_n 0, 1) := by decide +kernel
theorem dX3_begin_82 : decode cX3_begin 82 = .ok (.getfield 119, 3) := by decide +kernel
theorem dX3_begin_85 : decode cX3_begin 85 = .ok (.invokestatic 152, 3) := by decide +kernel
theorem dX3_begin_88 : decode cX3_begin 88 = .ok (.putfield 22, 3) := by decide +kernel
theorem dX3_begin_91 : decode cX3_begin 91 = .ok (.aload_n 0, 1) := by decide +kernel
theorem dX3_begin_92 : decode cX3_begin 92 = .ok (.aload_n 0, 1) := by decide +kernel
theorem dX3_begin_93 : decode cX3_begin 93 = .ok (.getfield 22, 3) := by decide +kernel
theorem dX3_begin_96 : decode cX3_begin 96 = .ok (.iconst 1, 1) := by decide +kernel
theorem dX3_begin_97 : decode cX3_begin 97 = .ok (.if_icmp .ne 7, 3) := by decide +kernel
theorem dX3_begin_100 : decode cX3_begin 100 = .ok (.iconst 1, 1) := by decide +kernel
theorem dX3_begin_101 : decode cX3_begin 101 = .ok (.goto 4, 3) := by decide +kernel
theorem dX3_begin_104 : decode cX3_begin 104 = .ok (.iconst 0, 1) := by decide +kernel
theorem dX3_begin_105 : decode cX3_begin 105 = .ok (.putfield 18, 3) := by decide +kernel
theorem dX3_begin_108 : decode cX3_begin 108 = .ok (.return_, 1) := by decide +kernel
theorem dX3_kindOf_0 : decode cX3_kindOf 0 = .ok (.iload_n 0, 1) := by decide +kernel
theorem dX3_kindOf_1 : decode cX3_kindOf 1 = .ok (.lookupswitch 353 #[(10, 351), (16, 330), (24, 351), (32, 336), (48, 330), (56, 351), (64, 342), (72, 345), (74, 351), (76, 333), (80, 330), (88, 351), (96, 339), (104, 348), (112, 330), (120, 351), (132, 325), (134, 325), (136, 351), (138, 351), (144, 330), (152, 351), (160, 323), (162, 323), (168, 351), (170, 351), (176, 330), (192, 323), (198, 327), (200, 351), (202, 351), (208, 330), (216, 351), (224, 323), (230, 327), (232, 351), (234, 351), (240, 330), (248, 351)], 323) := by decide +kernel
theorem dX3_kindOf_324 : decode cX3_kindOf 324 = .ok (.iconst 4, 1) := by decide +kernel
theorem dX3_kindOf_325 : decode cX3_kindOf 325 = .ok (.ireturn, 1) := by decide +kernel
theorem dX3_kindOf_326 : decode cX3_kindOf 326 = .ok (.iconst 5, 1) := by decide +kernel
theorem dX3_kindOf_327 : decode cX3_kindOf 327 = .ok (.ireturn, 1) := by decide +kernel
theorem dX3_kindOf_328 : decode cX3_kindOf 328 = .ok (.bipush 8, 2) := by decide +kernel
theorem dX3_kindOf_330 : decode cX3_kindOf 330 = .ok (.ireturn, 1) := by decide +kernel
theorem dX3_kindOf_331 : decode cX3_kindOf 331 = .ok (.bipush 9, 2) := by decide +kernel
theorem dX3_kindOf_333 : decode cX3_kindOf 333 = .ok (.ireturn, 1) := by decide +kernel
theorem dX3_kindOf_334 : decode cX3_kindOf 334 = .ok (.bipush 10, 2) := by decide +kernel
theorem dX3_kindOf_336 : decode cX3_kindOf 336 = .ok (.ireturn, 1) := by decide +kernel
theorem dX3_kindOf_337 : decode cX3_kindOf 337 = .ok (.bipush 11, 2) := by decide +kernel
theorem dX3_kindOf_339 : decode cX3_kindOf 339 = .ok (.ireturn, 1) := by decide +kernel
theorem dX3_kindOf_340 : decode cX3_kindOf 340 = .ok (.bipush 12, 2) := by decide +kernel
theorem dX3_kindOf_342 : decode cX3_kindOf 342 = .ok (.ireturn, 1) := by decide +kernel
theorem dX3_kindOf_343 : decode cX3_kindOf 343 = .ok (.bipush 13, 2) := by decide +kernel
theorem dX3_kindOf_345 : decode cX3_kindOf 345 = .ok (.ireturn, 1) := by decide +kernel
theorem dX3_kindOf_346 : decode cX3_kindOf 346 = .ok (.bipush 14, 2) := by decide +kernel
theorem dX3_kindOf_348 : decode cX3_kindOf 348 = .ok (.ireturn, 1) := by decide +kernel
theorem dX3_kindOf_349 : decode cX3_kindOf 349 = .ok (.bipush 15, 2) := by decide +kernel
theorem dX3_kindOf_351 : decode cX3_kindOf 351 = .ok (.ireturn, 1) := by decide +kernel
theorem dX3_kindOf_352 : decode cX3_kindOf 352 = .ok (.iconst 3, 1) := by decide +kernel
theorem dX3_kindOf_353 : decode cX3_kindOf 353 = .ok (.ireturn, 1) := by decide +kernel
theorem dX3_kindOf_354 : decode cX3_kindOf 354 = .ok (.iload_n 0, 1) := by decide +kernel
theorem dX3_kindOf_355 : decode cX3_kindOf 355 = .ok (.invokestatic 155, 3) := by decide +kernel
theorem dX3_kindOf_358 : decode cX3_kindOf 358 = .ok (.ireturn, 1) := by decide +kernel
theorem dX3_arithmeticKindOf_0 : decode cX3_arithmeticKindOf 0 = .ok (.iload_n 0, 1) := by decide +kernel
theorem dX3_arithmeticKindOf_1 : decode cX3_arithmeticKindOf 1 = .ok (.iconst 3, 1) := by decide +kernel
theorem dX3_arithmeticKindOf_2 : decode cX3_arithmeticKindOf 2 = .ok (.iand, 1) := by decide +kernel
theorem dX3_arithmeticKindOf_3 : decode cX3_arithmeticKindOf 3 = .ok (.iconst 1, 1) := by decide +kernel
theorem dX3_arithmeticKindOf_4 : decode cX3_arithmeticKindOf 4 = .ok (.if_icmp .eq 5, 3) := by decide +kernel
theorem dX3_arithmeticKindOf_7 : decode cX3_arithmeticKindOf 7 = .ok (.iconst 1, 1) := by decide +kernel
theorem dX3_arithmeticKindOf_8 : decode cX3_arithmeticKindOf 8 = .ok (.ireturn, 1) := by decide +kernel
theorem dX3_arithmeticKindOf_9 : decode cX3_arithmeticKindOf 9 = .ok (.iload_n 0, 1) := by decide +kernel
theorem dX3_arithmeticKindOf_10 : decode cX3_arithmeticKindOf 10 = .ok (.iconst 2, 1) := by decide +kernel
theorem dX3_arithmeticKindOf_11 : decode cX3_arithmeticKindOf 11 = .ok (.ishr, 1) := by decide +kernel
theorem dX3_arithmeticKindOf_12 : decode cX3_arithmeticKindOf 12 = .ok (.bipush 7, 2) := by decide +kernel
theorem dX3_arithmeticKindOf_14 : decode cX3_arithmeticKindOf 14 = .ok (.iand, 1) := by decide +kernel
theorem dX3_arithmeticKindOf_15 : decode cX3_arithmeticKindOf 15 = .ok (.tableswitch 62 1 7 #[41, 43, 56, 62, 62, 62, 59], 41) := by decide +kernel
theorem dX3_arithmeticKindOf_56 : decode cX3_arithmeticKindOf 56 = .ok (.iconst 5, 1) := by decide +kernel
theorem dX3_arithmeticKindOf_57 : decode cX3_arithmeticKindOf 57 = .ok (.ireturn, 1) := by decide +kernel
theorem dX3_arithmeticKindOf_58 : decode cX3_arithmeticKindOf 58 = .ok (.iload_n 0, 1) := by decide +kernel
theorem dX3_arithmeticKindOf_59 : decode cX3_arithmeticKindOf 59 = .ok (.iconst 5, 1) := by decide +kernel
theorem dX3_arithmeticKindOf_60 : decode cX3_arithmeticKindOf 60 = .ok (.ishr, 1) := by decide +kernel
theorem dX3_arithmeticKindOf_61 : decode cX3_arithmeticKindOf 61 = .ok (.iconst 4, 1) := by decide +kernel
theorem dX3_arithmeticKindOf_62 : decode cX3_arithmeticKindOf 62 = .ok (.if_icmp .ne 7, 3) := by decide +kernel
theorem dX3_arithmeticKindOf_65 : decode cX3_arithmeticKindOf 65 = .ok (.iconst 1, 1) := by decide +kernel
theorem dX3_arithmeticKindOf_66 : decode cX3_arithmeticKindOf 66 = .ok (.goto 4, 3) := by decide +kernel
theorem dX3_arithmeticKindOf_69 : decode cX3_arithmeticKindOf 69 = .ok (.iconst 4, 1) := by decide +kernel
theorem dX3_arithmeticKindOf_70 : decode cX3_arithmeticKindOf 70 = .ok (.ireturn, 1) := by decide +kernel
theorem dX3_arithmeticKindOf_71 : decode cX3_arithmeticKindOf 71 = .ok (.bipush 6, 2) := by decide +kernel
theorem dX3_arithmeticKindOf_73 : decode cX3_arithmeticKindOf 73 = .ok (.ireturn, 1) := by decide +kernel
theorem dX3_arithmeticKindOf_74 : decode cX3_arithmeticKindOf 74 = .ok (.bipush 7, 2) := by decide +kernel
theorem dX3_arithmeticKindOf_76 : decode cX3_arithmeticKindOf 76 = .ok (.ireturn, 1) := by decide +kernel
theorem dX3_arithmeticKindOf_77 : decode cX3_arithmeticKindOf 77 = .ok (.iconst 1, 1) := by decide +kernel
theorem dX3_arithmeticKindOf_78 : decode cX3_arithmeticKindOf 78 = .ok (.ireturn, 1) := by decide +kernel
theorem dX3_interrupt_0 : decode cX3_interrupt 0 = .ok (.aload_n 0, 1) := by decide +kernel
theorem dX3_interrupt_1 : decode cX3_interrupt 1 = .ok (.getfield 68, 3) := by decide +kernel
theorem dX3_interrupt_4 : decode cX3_interrupt 4 = .ok (.tableswitch 132 2 6 #[36, 54, 71, 89, 115], 36) := by decide +kernel
theorem dX3_interrupt_40 : decode cX3_interrupt 40 = .ok (.aload_n 0, 1) := by decide +kernel
theorem dX3_interrupt_41 : decode cX3_interrupt 41 = .ok (.getfield 26, 3) := by decide +kernel
theorem dX3_interrupt_44 : decode cX3_interrupt 44 = .ok (.aload_n 0, 1) := by decide +kernel
theorem dX3_interrupt_45 : decode cX3_interrupt 45 = .ok (.getfield 12, 3) := by decide +kernel
theorem dX3_interrupt_48 : decode cX3_interrupt 48 = .ok (.getfield 122, 3) := by decide +kernel
theorem dX3_interrupt_51 : decode cX3_interrupt 51 = .ok (.invokevirtual 125, 3) := by decide +kernel
theorem dX3_interrupt_54 : decode cX3_interrupt 54 = .ok (.pop, 1) := by decide +kernel
theorem dX3_interrupt_55 : decode cX3_interrupt 55 = .ok (.goto 109, 3) := by decide +kernel
theorem dX3_interrupt_58 : decode cX3_interrupt 58 = .ok (.aload_n 0, 1) := by decide +kernel
theorem dX3_interrupt_59 : decode cX3_interrupt 59 = .ok (.aload_n 0, 1) := by decide +kernel
theorem dX3_interrupt_60 : decode cX3_interrupt 60 = .ok (.getfield 12, 3) := by decide +kernel
theorem dX3_interrupt_63 : decode cX3_interrupt 63 = .ok (.getfield 122, 3) := by decide +kernel
theorem dX3_interrupt_66 : decode cX3_interrupt 66 = .ok (.bipush 8, 2) := by decide +kernel
theorem dX3_interrupt_68 : decode cX3_interrupt 68 = .ok (.ishr, 1) := by decide +kernel
theorem dX3_interrupt_69 : decode cX3_interrupt 69 = .ok (.invokevirtual 158, 3) := by decide +kernel
theorem dX3_interrupt_72 : decode cX3_interrupt 72 = .ok (.goto 92, 3) := by decide +kernel
theorem dX3_interrupt_75 : decode cX3_interrupt 75 = .ok (.aload_n 0, 1) := by decide +kernel
theorem dX3_interrupt_76 : decode cX3_interrupt 76 = .ok (.aload_n 0, 1) := by decide +kernel
theorem dX3_interrupt_77 : decode cX3_interrupt 77 = .ok (.getfield 12, 3) := by decide +kernel
theorem dX3_interrupt_80 : decode cX3_interrupt 80 = .ok (.getfield 122, 3) := by decide +kernel
theorem dX3_interrupt_83 : decode cX3_interrupt 83 = .ok (.sipush 255, 3) := by decide +kernel
theorem dX3_interrupt_86 : decode cX3_interrupt 86 = .ok (.iand, 1) := by decide +kernel
theorem dX3_interrupt_87 : decode cX3_interrupt 87 = .ok (.invokevirtual 158, 3) := by decide +kernel
theorem dX3_interrupt_90 : decode cX3_interrupt 90 = .ok (.goto 74, 3) := by decide +kernel
theorem dX3_interrupt_93 : decode cX3_interrupt 93 = .ok (.aload_n 0, 1) := by decide +kernel
theorem dX3_interrupt_94 : decode cX3_interrupt 94 = .ok (.aload_n 0, 1) := by decide +kernel
theorem dX3_interrupt_95 : decode cX3_interrupt 95 = .ok (.getfield 12, 3) := by decide +kernel
theorem dX3_interrupt_98 : decode cX3_interrupt 98 = .ok (.getfield 161, 3) := by decide +kernel
theorem dX3_interrupt_101 : decode cX3_interrupt 101 = .ok (.bipush 32, 2) := by decide +kernel
theorem dX3_interrupt_103 : decode cX3_interrupt 103 = .ok (.ior, 1) := by decide +kernel
theorem dX3_interrupt_104 : decode cX3_interrupt 104 = .ok (.invokevirtual 158, 3) := by decide +kernel
theorem dX3_interrupt_107 : decode cX3_interrupt 107 = .ok (.aload_n 0, 1) := by decide +kernel
theorem dX3_interrupt_108 : decode cX3_interrupt 108 = .ok (.getfield 12, 3) := by decide +kernel
theorem dX3_interrupt_111 : decode cX3_interrupt 111 = .ok (.iconst 4, 1) := by decide +kernel
theorem dX3_interrupt_112 : decode cX3_interrupt 112 = .ok (.iconst 1, 1) := by decide +kernel
theorem dX3_interrupt_113 : decode cX3_interrupt 113 = .ok (.invokevirtual 164, 3) := by decide +kernel
theorem dX3_interrupt_116 : decode cX3_interrupt 116 = .ok (.goto 48, 3) := by decide +kernel
theorem dX3_interrupt_119 : decode cX3_interrupt 119 = .ok (.aload_n 0, 1) := by decide +kernel
theorem dX3_interrupt_120 : decode cX3_interrupt 120 = .ok (.aload_n 0, 1) := by decide +kernel
theorem dX3_interrupt_121 : decode cX3_interrupt 121 = .ok (.getfield 26, 3) := by decide +kernel
theorem dX3_interrupt_124 : decode cX3_interrupt 124 = .ok (.sipush 8190, 3) := by decide +kernel
theorem dX3_interrupt_127 : decode cX3_interrupt 127 = .ok (.invokevirtual 125, 3) := by decide +kernel
theorem dX3_interrupt_130 : decode cX3_interrupt 130 = .ok (.putfield 168, 3) := by decide +kernel
theorem dX3_interrupt_133 : decode cX3_interrupt 133 = .ok (.goto 31, 3) := by decide +kernel
theorem dX3_interrupt_136 : decode cX3_interrupt 136 = .ok (.aload_n 0, 1) := by decide +kernel
theorem dX3_interrupt_137 : decode cX3_interrupt 137 = .ok (.getfield 12, 3) := by decide +kernel
theorem dX3_interrupt_140 : decode cX3_interrupt 140 = .ok (.aload_n 0, 1) := by decide +kernel
theorem dX3_interrupt_141 : decode cX3_interrupt 141 = .ok (.getfield 168, 3) := by decide +kernel
theorem dX3_interrupt_144 : decode cX3_interrupt 144 = .ok (.aload_n 0, 1) := by decide +kernel
theorem dX3_interrupt_145 : decode cX3_interrupt 145 = .ok (.getfield 26, 3) := by decide +kernel
theorem dX3_interrupt_148 : decode cX3_interrupt 148 = .ok (.sipush 8191, 3) := by decide +kernel
theorem dX3_interrupt_151 : decode cX3_interrupt 151 = .ok (.invokevirtual 125, 3) := by decide +kernel
theorem dX3_interrupt_154 : decode cX3_interrupt 154 = .ok (.invokestatic 44, 3) := by decide +kernel
theorem dX3_interrupt_157 : decode cX3_interrupt 157 = .ok (.putfield 122, 3) := by decide +kernel
theorem dX3_interrupt_160 : decode cX3_interrupt 160 = .ok (.aload_n 0, 1) := by decide +kernel
theorem dX3_interrupt_161 : decode cX3_interrupt 161 = .ok (.invokevirtual 61, 3) := by decide +kernel
theorem dX3_interrupt_164 : decode cX3_interrupt 164 = .ok (.return_, 1) := by decide +kernel
theorem dX3_single_0 : decode cX3_single 0 = .ok (.aload_n 0, 1) := by decide +kernel
theorem dX3_single_1 : decode cX3_single 1 = .ok (.getfield 26, 3) := by decide +kernel
theorem dX3_single_4 : decode cX3_single 4 = .ok (.aload_n 0, 1) := by decide +kernel
theorem dX3_single_5 : decode cX3_single 5 = .ok (.getfield 12, 3) := by decide +kernel
theorem dX3_single_8 : decode cX3_single 8 = .ok (.getfield 122, 3) := by decide +kernel
theorem dX3_single_11 : decode cX3_single 11 = .ok (.invokevirtual 125, 3) := by decide +kernel
theorem dX3_single_14 : decode cX3_single 14 = .ok (.pop, 1) := by decide +kernel
theorem dX3_single_15 : decode cX3_single 15 = .ok (.aload_n 0, 1) := by decide +kernel
theorem dX3_single_16 : decode cX3_single 16 = .ok (.getfield 12, 3) := by decide +kernel
theorem dX3_single_19 : decode cX3_single 19 = .ok (.aload_n 0, 1) := by decide +kernel
theorem dX3_single_20 : decode cX3_single 20 = .ok (.getfield 119, 3) := by decide +kernel
theorem dX3_single_23 : decode cX3_single 23 = .ok (.invokevirtual 171, 3) := by decide +kernel
theorem dX3_single_26 : decode cX3_single 26 = .ok (.aload_n 0, 1) := by decide +kernel
theorem dX3_single_27 : decode cX3_single 27 = .ok (.invokevirtual 61, 3) := by decide +kernel
theorem dX3_single_30 : decode cX3_single 30 = .ok (.return_, 1) := by decide +kernel
theorem dX3_own_0 : decode cX3_own 0 = .ok (.aload_n 0, 1) := by decide +kernel
theorem dX3_own_1 : decode cX3_own 1 = .ok (.invokevirtual 148, 3) := by decide +kernel
theorem dX3_own_4 : decode cX3_own 4 = .ok (.istore_n 1, 1) := by decide +kernel
theorem dX3_own_5 : decode cX3_own 5 = .ok (.aload_n 0, 1) := by decide +kernel
theorem dX3_own_6 : decode cX3_own 6 = .ok (.getfield 119, 3) := by decide +kernel
theorem dX3_own_9 : decode cX3_own 9 = .ok (.lookupswitch 115 #[(160, 61), (162, 43), (192, 97), (224, 79)], 43) := by decide +kernel
theorem dX3_own_52 : decode cX3_own 52 = .ok (.aload_n 0, 1) := by decide +kernel
theorem dX3_own_53 : decode cX3_own 53 = .ok (.getfield 12, 3) := by decide +kernel
theorem dX3_own_56 : decode cX3_own 56 = .ok (.aload_n 0, 1) := by decide +kernel
theorem dX3_own_57 : decode cX3_own 57 = .ok (.getfield 12, 3) := by decide +kernel
theorem dX3_own_60 : decode cX3_own 60 = .ok (.iload_n 1, 1) := by decide +kernel
theorem dX3_own_61 : decode cX3_own 61 = .ok (.invokevirtual 173, 3) := by decide +kernel
theorem dX3_own_64 : decode cX3_own 64 = .ok (.putfield 176, 3) := by decide +kernel
theorem dX3_own_67 : decode cX3_own 67 = .ok (.goto 71, 3) := by decide +kernel
theorem dX3_own_70 : decode cX3_own 70 = .ok (.aload_n 0, 1) := by decide +kernel
theorem dX3_own_71 : decode cX3_own 71 = .ok (.getfield 12, 3) := by decide +kernel
theorem dX3_own_74 : decode cX3_own 74 = .ok (.aload_n 0, 1) := by decide +kernel
theorem dX3_own_75 : decode cX3_own 75 = .ok (.getfield 12, 3) := by decide +kernel
theorem dX3_own_78 : decode cX3_own 78 = .ok (.iload_n 1, 1) := by decide +kernel
theorem dX3_own_79 : decode cX3_own 79 = .ok (.invokevirtual 173, 3) := by decide +kernel
theorem dX3_own_82 : decode cX3_own 82 = .ok (.putfield 179, 3) := by decide +kernel
theorem dX3_own_85 : decode cX3_own 85 = .ok (.goto 53, 3) := by decide +kernel
theorem dX3_own_88 : decode cX3_own 88 = .ok (.aload_n 0, 1) := by decide +kernel
theorem dX3_own_89 : decode cX3_own 89 = .ok (.getfield 12, 3) := by decide +kernel
theorem dX3_own_92 : decode cX3_own 92 = .ok (.aload_n 0, 1) := by decide +kernel
theorem dX3_own_93 : decode cX3_own 93 = .ok (.getfield 12, 3) := by decide +kernel
theorem dX3_own_96 : decode cX3_own 96 = .ok (.getfield 176, 3) := by decide +kernel
theorem dX3_own_99 : decode cX3_own 99 = .ok (.iload_n 1, 1) := by decide +kernel
theorem dX3_own_100 : decode cX3_own 100 = .ok (.invokevirtual 182, 3) := by decide +kernel
theorem dX3_own_103 : decode cX3_own 103 = .ok (.goto 35, 3) := by decide +kernel
theorem dX3_own_106 : decode cX3_own 106 = .ok (.aload_n 0, 1) := by decide +kernel
theorem dX3_own_107 : decode cX3_own 107 = .ok (.getfield 12, 3) := by decide +kernel
theorem dX3_own_110 : decode cX3_own 110 = .ok (.aload_n 0, 1) := by decide +kernel
theorem dX3_own_111 : decode cX3_own 111 = .ok (.getfield 12, 3) := by decide +kernel
theorem dX3_own_114 : decode cX3_own 114 = .ok (.getfield 179, 3) := by decide +kernel
theorem dX3_own_117 : decode cX3_own 117 = .ok (.iload_n 1, 1) := by decide +kernel
theorem dX3_own_118 : decode cX3_own 118 = .ok (.invokevirtual 182, 3) := by decide +kernel
theorem dX3_own_121 : decode cX3_own 121 = .ok (.goto 17, 3) := by decide +kernel
theorem dX3_own_124 : decode cX3_own 124 = .ok (.aload_n 0, 1) := by decide +kernel
theorem dX3_own_125 : decode cX3_own 125 = .ok (.getfield 12, 3) := by decide +kernel
theorem dX3_own_128 : decode cX3_own 128 = .ok (.aload_n 0, 1) := by decide +kernel
theorem dX3_own_129 : decode cX3_own 129 = .ok (.getfield 119, 3) := by decide +kernel
theorem dX3_own_132 : decode cX3_own 132 = .ok (.iconst 5, 1) := by decide +kernel
theorem dX3_own_133 : decode cX3_own 133 = .ok (.ishr, 1) := by decide +kernel
theorem dX3_own_134 : decode cX3_own 134 = .ok (.iload_n 1, 1) := by decide +kernel
theorem dX3_own_135 : decode cX3_own 135 = .ok (.invokevirtual 185, 3) := by decide +kernel
theorem dX3_own_138 : decode cX3_own 138 = .ok (.aload_n 0, 1) := by decide +kernel
theorem dX3_own_139 : decode cX3_own 139 = .ok (.invokevirtual 61, 3) := by decide +kernel
theorem dX3_own_142 : decode cX3_own 142 = .ok (.return_, 1) := by decide +kernel
theorem dX3_shortAddress_0 : decode cX3_shortAddress 0 = .ok (.aload_n 0, 1) := by decide +kernel
theorem dX3_shortAddress_1 : decode cX3_shortAddress 1 = .ok (.getfield 68, 3) := by decide +kernel
theorem dX3_shortAddress_4 : decode cX3_shortAddress 4 = .ok (.iconst 2, 1) := by decide +kernel
theorem dX3_shortAddress_5 : decode cX3_shortAddress 5 = .ok (.if_icmp .ne 14, 3) := by decide +kernel
theorem dX3_shortAddress_8 : decode cX3_shortAddress 8 = .ok (.aload_n 0, 1) := by decide +kernel
theorem dX3_shortAddress_9 : decode cX3_shortAddress 9 = .ok (.aload_n 0, 1) := by decide +kernel
theorem dX3_shortAddress_10 : decode cX3_shortAddress 10 = .ok (.invokevirtual 148, 3) := by decide +kernel
theorem dX3_shortAddress_13 : decode cX3_shortAddress 13 = .ok (.putfield 168, 3) := by decide +kernel
theorem dX3_shortAddress_16 : decode cX3_shortAddress 16 = .ok (.goto 11, 3) := by decide +kernel
theorem dX3_shortAddress_19 : decode cX3_shortAddress 19 = .ok (.aload_n 0, 1) := by decide +kernel
theorem dX3_shortAddress_20 : decode cX3_shortAddress 20 = .ok (.aload_n 0, 1) := by decide +kernel
theorem dX3_shortAddress_21 : decode cX3_shortAddress 21 = .ok (.getfield 168, 3) := by decide +kernel
theorem dX3_shortAddress_24 : decode cX3_shortAddress 24 = .ok (.invokevirtual 188, 3) := by decide +kernel
theorem dX3_shortAddress_27 : decode cX3_shortAddress 27 = .ok (.return_, 1) := by decide +kernel
theorem dX3_longAddress_0 : decode cX3_longAddress 0 = .ok (.aload_n 0, 1) := by decide +kernel
theorem dX3_longAddress_1 : decode cX3_longAddress 1 = .ok (.getfield 68, 3) := by decide +kernel
theorem dX3_longAddress_4 : decode cX3_longAddress 4 = .ok (.lookupswitch 50 #[(2, 28), (3, 39)], 28) := by decide +kernel
theorem dX3_longAddress_32 : decode cX3_longAddress 32 = .ok (.aload_n 0, 1) := by decide +kernel
theorem dX3_longAddress_33 : decode cX3_longAddress 33 = .ok (.aload_n 0, 1) := by decide +kernel
theorem dX3_longAddress_34 : decode cX3_longAddress 34 = .ok (.invokevirtual 148, 3) := by decide +kernel
theorem dX3_longAddress_37 : decode cX3_longAddress 37 = .ok (.putfield 168, 3) := by decide +kernel
theorem dX3_longAddress_40 : decode cX3_longAddress 40 = .ok (.goto 29, 3) := by decide +kernel
theorem dX3_longAddress_43 : decode cX3_longAddress 43 = .ok (.aload_n 0, 1) := by decide +kernel
theorem dX3_longAddress_44 : decode cX3_longAddress 44 = .ok (.aload_n 0, 1) := by decide +kernel
theorem dX3_longAddress_45 : decode cX3_longAddress 45 = .ok (.invokevirtual 148, 3) := by decide +kernel
theorem dX3_longAddress_48 : decode cX3_longAddress 48 = .ok (.putfield 191, 3) := by decide +kernel
theorem dX3_longAddress_51 : decode cX3_longAddress 51 = .ok (.goto 18, 3) := by decide +kernel
theorem dX3_longAddress_54 : decode cX3_longAddress 54 = .ok (.aload_n 0, 1) := by decide +kernel
theorem dX3_longAddress_55 : decode cX3_longAddress 55 = .ok (.aload_n 0, 1) := by decide +kernel
theorem dX3_longAddress_56 : decode cX3_longAddress 56 = .ok (.getfield 168, 3) := by decide +kernel
theorem dX3_longAddress_59 : decode cX3_longAddress 59 = .ok (.aload_n 0, 1) := by decide +kernel
theorem dX3_longAddress_60 : decode cX3_longAddress 60 = .ok (.getfield 191, 3) := by decide +kernel
theorem dX3_longAddress_63 : decode cX3_longAddress 63 = .ok (.invokestatic 44, 3) := by decide +kernel
theorem dX3_longAddress_66 : decode cX3_longAddress 66 = .ok (.invokevirtual 188, 3) := by decide +kernel
theorem dX3_longAddress_69 : decode cX3_longAddress 69 = .ok (.return_, 1) := by decide +kernel
theorem dX3_longAddressX_0 : decode cX3_longAddressX 0 = .ok (.aload_n 0, 1) := by decide +kernel
theorem dX3_longAddressX_1 : decode cX3_longAddressX 1 = .ok (.getfield 68, 3) := by decide +kernel
theorem dX3_longAddressX_4 : decode cX3_longAddressX 4 = .ok (.tableswitch 57 2 4 #[28, 39, 50], 28) := by decide +kernel
theorem dX3_longAddressX_32 : decode cX3_longAddressX 32 = .ok (.aload_n 0, 1) := by decide +kernel
theorem dX3_longAddressX_33 : decode cX3_longAddressX 33 = .ok (.aload_n 0, 1) := by decide +kernel
theorem dX3_longAddressX_34 : decode cX3_longAddressX 34 = .ok (.invokevirtual 148, 3) := by decide +kernel
theorem dX3_longAddressX_37 : decode cX3_longAddressX 37 = .ok (.putfield 168, 3) := by decide +kernel
theorem dX3_longAddressX_40 : decode cX3_longAddressX 40 = .ok (.goto 44, 3) := by decide +kernel
theorem dX3_longAddressX_43 : decode cX3_longAddressX 43 = .ok (.aload_n 0, 1) := by decide +kernel
theorem dX3_longAddressX_44 : decode cX3_longAddressX 44 = .ok (.aload_n 0, 1) := by decide +kernel
theorem dX3_longAddressX_45 : decode cX3_longAddressX 45 = .ok (.invokevirtual 148, 3) := by decide +kernel
theorem dX3_longAddressX_48 : decode cX3_longAddressX 48 = .ok (.putfield 191, 3) := by decide +kernel
theorem dX3_longAddressX_51 : decode cX3_longAddressX 51 = .ok (.goto 33, 3) := by decide +kernel
theorem dX3_longAddressX_54 : decode cX3_longAddressX 54 = .ok (.aload_n 0, 1) := by decide +kernel
theorem dX3_longAddressX_55 : decode cX3_longAddressX 55 = .ok (.invokevirtual 194, 3) := by decide +kernel
theorem dX3_longAddressX_58 : decode cX3_longAddressX 58 = .ok (.goto 26, 3) := by decide +kernel
theorem dX3_longAddressX_61 : decode cX3_longAddressX 61 = .ok (.aload_n 0, 1) := by decide +kernel
theorem dX3_longAddressX_62 : decode cX3_longAddressX 62 = .ok (.aload_n 0, 1) := by decide +kernel
theorem dX3_longAddressX_63 : decode cX3_longAddressX 63 = .ok (.getfield 168, 3) := by decide +kernel
theorem dX3_longAddressX_66 : decode cX3_longAddressX 66 = .ok (.aload_n 0, 1) := by decide +kernel
theorem dX3_longAddressX_67 : decode cX3_longAddressX 67 = .ok (.getfield 191, 3) := by decide +kernel
theorem dX3_longAddressX_70 : decode cX3_longAddressX 70 = .ok (.invokestatic 44, 3) := by decide +kernel
theorem dX3_longAddressX_73 : decode cX3_longAddressX 73 = .ok (.aload_n 0, 1) := by decide +kernel
theorem dX3_longAddressX_74 : decode cX3_longAddressX 74 = .ok (.getfield 12, 3) := by decide +kernel
theorem dX3_longAddressX_77 : decode cX3_longAddressX 77 = .ok (.getfield 176, 3) := by decide +kernel
theorem dX3_longAddressX_80 : decode cX3_longAddressX 80 = .ok (.iadd, 1) := by decide +kernel
theorem dX3_longAddressX_81 : decode cX3_longAddressX 81 = .ok (.invokevirtual 188, 3) := by decide +kernel
theorem dX3_longAddressX_84 : decode cX3_longAddressX 84 = .ok (.return_, 1) := by decide +kernel
theorem dX3_readBeforeCarry_0 : decode cX3_readBeforeCarry 0 = .ok (.aload_n 0, 1) := by decide +kernel
theorem dX3_readBeforeCarry_1 : decode cX3_readBeforeCarry 1 = .ok (.getfield 168, 3) := by decide +kernel
theorem dX3_readBeforeCarry_4 : decode cX3_readBeforeCarry 4 = .ok (.aload_n 0, 1) := by decide +kernel
theorem dX3_readBeforeCarry_5 : decode cX3_readBeforeCarry 5 = .ok (.getfield 12, 3) := by decide +kernel
theorem dX3_readBeforeCarry_8 : decode cX3_readBeforeCarry 8 = .ok (.getfield 176, 3) := by decide +kernel
theorem dX3_readBeforeCarry_11 : decode cX3_readBeforeCarry 11 = .ok (.iadd, 1) := by decide +kernel
theorem dX3_readBeforeCarry_12 : decode cX3_readBeforeCarry 12 = .ok (.istore_n 1, 1) := by decide +kernel
theorem dX3_readBeforeCarry_13 : decode cX3_readBeforeCarry 13 = .ok (.aload_n 0, 1) := by decide +kernel
theorem dX3_readBeforeCarry_14 : decode cX3_readBeforeCarry 14 = .ok (.getfield 26, 3) := by decide +kernel
theorem dX3_readBeforeCarry_17 : decode cX3_readBeforeCarry 17 = .ok (.iload_n 1, 1) := by decide +kernel
theorem dX3_readBeforeCarry_18 : decode cX3_readBeforeCarry 18 = .ok (.sipush 255, 3) := by decide +kernel
theorem dX3_readBeforeCarry_21 : decode cX3_readBeforeCarry 21 = .ok (.iand, 1) := by decide +kernel
theorem dX3_readBeforeCarry_22 : decode cX3_readBeforeCarry 22 = .ok (.aload_n 0, 1) := by decide +kernel
theorem dX3_readBeforeCarry_23 : decode cX3_readBeforeCarry 23 = .ok (.getfield 191, 3) := by decide +kernel
theorem dX3_readBeforeCarry_26 : decode cX3_readBeforeCarry 26 = .ok (.invokestatic 44, 3) := by decide +kernel
theorem dX3_readBeforeCarry_29 : decode cX3_readBeforeCarry 29 = .ok (.invokevirtual 125, 3) := by decide +kernel
theorem dX3_readBeforeCarry_32 : decode cX3_readBeforeCarry 32 = .ok (.istore_n 2, 1) := by decide +kernel
theorem dX3_readBeforeCarry_33 : decode cX3_readBeforeCarry 33 = .ok (.iload_n 1, 1) := by decide +kernel
theorem dX3_readBeforeCarry_34 : decode cX3_readBeforeCarry 34 = .ok (.sipush 255, 3) := by decide +kernel
theorem dX3_readBeforeCarry_37 : decode cX3_readBeforeCarry 37 = .ok (.if_icmp .gt 28, 3) := by decide +kernel
theorem dX3_readBeforeCarry_40 : decode cX3_readBeforeCarry 40 = .ok (.aload_n 0, 1) := by decide +kernel
theorem dX3_readBeforeCarry_41 : decode cX3_readBeforeCarry 41 = .ok (.invokevirtual 116, 3) := by decide +kernel
theorem dX3_readBeforeCarry_44 : decode cX3_readBeforeCarry 44 = .ok (.ifCond .ne 21, 3) := by decide +kernel
theorem dX3_readBeforeCarry_47 : decode cX3_readBeforeCarry 47 = .ok (.aload_n 0, 1) := by decide +kernel
theorem dX3_readBeforeCarry_48 : decode cX3_readBeforeCarry 48 = .ok (.getfield 12, 3) := by decide +kernel
theorem dX3_readBeforeCarry_51 : decode cX3_readBeforeCarry 51 = .ok (.aload_n 0, 1) := by decide +kernel
theorem dX3_readBeforeCarry_52 : decode cX3_readBeforeCarry 52 = .ok (.getfield 119, 3) := by decide +kernel
theorem dX3_readBeforeCarry_55 : decode cX3_readBeforeCarry 55 = .ok (.iconst 5, 1) := by decide +kernel
theorem dX3_readBeforeCarry_56 : decode cX3_readBeforeCarry 56 = .ok (.ishr, 1) := by decide +kernel
theorem dX3_readBeforeCarry_57 : decode cX3_readBeforeCarry 57 = .ok (.iload_n 2, 1) := by decide +kernel
theorem dX3_readBeforeCarry_58 : decode cX3_readBeforeCarry 58 = .ok (.invokevirtual 185, 3) := by decide +kernel
theorem dX3_readBeforeCarry_61 : decode cX3_readBeforeCarry 61 = .ok (.aload_n 0, 1) := by decide +kernel
theorem dX3_readBeforeCarry_62 : decode cX3_readBeforeCarry 62 = .ok (.invokevirtual 61, 3) := by decide +kernel
theorem dX3_readBeforeCarry_65 : decode cX3_readBeforeCarry 65 = .ok (.return_, 1) := by decide +kernel
theorem dX3_useOperandAt_0 : decode cX3_useOperandAt 0 = .ok (.aload_n 0, 1) := by decide +kernel
theorem dX3_useOperandAt_1 : decode cX3_useOperandAt 1 = .ok (.invokevirtual 116, 3) := by decide +kernel
theorem dX3_useOperandAt_4 : decode cX3_useOperandAt 4 = .ok (.ifCond .eq 61, 3) := by decide +kernel
theorem dX3_useOperandAt_7 : decode cX3_useOperandAt 7 = .ok (.aload_n 0, 1) := by decide +kernel
theorem dX3_useOperandAt_8 : decode cX3_useOperandAt 8 = .ok (.getfield 26, 3) := by decide +kernel
theorem dX3_useOperandAt_11 : decode cX3_useOperandAt 11 = .ok (.iload_n 1, 1) := by decide +kernel
theorem dX3_useOperandAt_12 : decode cX3_useOperandAt 12 = .ok (.aload_n 0, 1) := by decide +kernel
theorem dX3_useOperandAt_13 : decode cX3_useOperandAt 13 = .ok (.getfield 119, 3) := by decide +kernel
theorem dX3_useOperandAt_16 : decode cX3_useOperandAt 16 = .ok (.sipush 134, 3) := by decide +kernel
theorem dX3_useOperandAt_19 : decode cX3_useOperandAt 19 = .ok (.if_icmp .ne 13, 3) := by decide +kernel
theorem dX3_useOperandAt_22 : decode cX3_useOperandAt 22 = .ok (.aload_n 0, 1) := by decide +kernel
theorem dX3_useOperandAt_23 : decode cX3_useOperandAt 23 = .ok (.getfield 12, 3) := by decide +kernel
theorem dX3_useOperandAt_26 : decode cX3_useOperandAt 26 = .ok (.getfield 176, 3) := by decide +kernel
theorem dX3_useOperandAt_29 : decode cX3_useOperandAt 29 = .ok (.goto 30, 3) := by decide +kernel
theorem dX3_useOperandAt_32 : decode cX3_useOperandAt 32 = .ok (.aload_n 0, 1) := by decide +kernel
theorem dX3_useOperandAt_33 : decode cX3_useOperandAt 33 = .ok (.getfield 119, 3) := by decide +kernel
theorem dX3_useOperandAt_36 : decode cX3_useOperandAt 36 = .ok (.sipush 132, 3) := by decide +kernel
theorem dX3_useOperandAt_39 : decode cX3_useOperandAt 39 = .ok (.if_icmp .ne 13, 3) := by decide +kernel
theorem dX3_useOperandAt_42 : decode cX3_useOperandAt 42 = .ok (.aload_n 0, 1) := by decide +kernel
theorem dX3_useOperandAt_43 : decode cX3_useOperandAt 43 = .ok (.getfield 12, 3) := by decide +kernel
theorem dX3_useOperandAt_46 : decode cX3_useOperandAt 46 = .ok (.getfield 179, 3) := by decide +kernel
theorem dX3_useOperandAt_49 : decode cX3_useOperandAt 49 = .ok (.goto 10, 3) := by decide +kernel
theorem dX3_useOperandAt_52 : decode cX3_useOperandAt 52 = .ok (.aload_n 0, 1) := by decide +kernel
theorem dX3_useOperandAt_53 : decode cX3_useOperandAt 53 = .ok (.getfield 12, 3) := by decide +kernel
theorem dX3_useOperandAt_56 : decode cX3_useOperandAt 56 = .ok (.getfield 197, 3) := by decide +kernel
theorem dX3_useOperandAt_59 : decode cX3_useOperandAt 59 = .ok (.invokevirtual 132, 3) := by decide +kernel
theorem dX3_useOperandAt_62 : decode cX3_useOperandAt 62 = .ok (.goto 24, 3) := by decide +kernel
theorem dX3_useOperandAt_65 : decode cX3_useOperandAt 65 = .ok (.aload_n 0, 1) := by decide +kernel
theorem dX3_useOperandAt_66 : decode cX3_useOperandAt 66 = .ok (.getfield 12, 3) := by decide +kernel
theorem dX3_useOperandAt_69 : decode cX3_useOperandAt 69 = .ok (.aload_n 0, 1) := by decide +kernel
theorem dX3_useOperandAt_70 : decode cX3_useOperandAt 70 = .ok (.getfield 119, 3) := by decide +kernel
theorem dX3_useOperandAt_73 : decode cX3_useOperandAt 73 = .ok (.iconst 5, 1) := by decide +kernel
theorem dX3_useOperandAt_74 : decode cX3_useOperandAt 74 = .ok (.ishr, 1) := by decide +kernel
theorem dX3_useOperandAt_75 : decode cX3_useOperandAt 75 = .ok (.aload_n 0, 1) := by decide +kernel
theorem dX3_useOperandAt_76 : decode cX3_useOperandAt 76 = .ok (.getfield 26, 3) := by decide +kernel
theorem dX3_useOperandAt_79 : decode cX3_useOperandAt 79 = .ok (.iload_n 1, 1) := by decide +kernel
theorem dX3_useOperandAt_80 : decode cX3_useOperandAt 80 = .ok (.invokevirtual 125, 3) := by decide +kernel
theorem dX3_useOperandAt_83 : decode cX3_useOperandAt 83 = .ok (.invokevirtual 185, 3) := by decide +kernel
theorem dX3_useOperandAt_86 : decode cX3_useOperandAt 86 = .ok (.aload_n 0, 1) := by decide +kernel
theorem dX3_useOperandAt_87 : decode cX3_useOperandAt 87 = .ok (.invokevirtual 61, 3) := by decide +kernel
theorem dX3_useOperandAt_90 : decode cX3_useOperandAt 90 = .ok (.return_, 1) := by decide +kernel
theorem dX3_change_0 : decode cX3_change 0 = .ok (.aload_n 0, 1) := by decide +kernel
theorem dX3_change_1 : decode cX3_change 1 = .ok (.getfield 68, 3) := by decide +kernel
theorem dX3_change_4 : decode cX3_change 4 = .ok (.tableswitch 75 2 4 #[28, 39, 57], 28) := by decide +kernel
theorem dX3_change_32 : decode cX3_change 32 = .ok (.aload_n 0, 1) := by decide +kernel
theorem dX3_change_33 : decode cX3_change 33 = .ok (.aload_n 0, 1) := by decide +kernel
theorem dX3_change_34 : decode cX3_change 34 = .ok (.invokevirtual 148, 3) := by decide +kernel
theorem dX3_change_37 : decode cX3_change 37 = .ok (.putfield 168, 3) := by decide +kernel
theorem dX3_change_40 : decode cX3_change 40 = .ok (.goto 86, 3) := by decide +kernel
theorem dX3_change_43 : decode cX3_change 43 = .ok (.aload_n 0, 1) := by decide +kernel
theorem dX3_change_44 : decode cX3_change 44 = .ok (.aload_n 0, 1) := by decide +kernel
theorem dX3_change_45 : decode cX3_change 45 = .ok (.getfield 26, 3) := by decide +kernel
theorem dX3_change_48 : decode cX3_change 48 = .ok (.aload_n 0, 1) := by decide +kernel
theorem dX3_change_49 : decode cX3_change 49 = .ok (.getfield 168, 3) := by decide +kernel
theorem dX3_change_52 : decode cX3_change 52 = .ok (.invokevirtual 125, 3) := by decide +kernel
theorem dX3_change_55 : decode cX3_change 55 = .ok (.putfield 200, 3) := by decide +kernel
theorem dX3_change_58 : decode cX3_change 58 = .ok (.goto 68, 3) := by decide +kernel
theorem dX3_change_61 : decode cX3_change 61 = .ok (.aload_n 0, 1) := by decide +kernel
theorem dX3_change_62 : decode cX3_change 62 = .ok (.getfield 26, 3) := by decide +kernel
theorem dX3_change_65 : decode cX3_change 65 = .ok (.aload_n 0, 1) := by decide +kernel
theorem dX3_change_66 : decode cX3_change 66 = .ok (.getfield 168, 3) := by decide +kernel
theorem dX3_change_69 : decode cX3_change 69 = .ok (.aload_n 0, 1) := by decide +kernel
theorem dX3_change_70 : decode cX3_change 70 = .ok (.getfield 200, 3) := by decide +kernel
theorem dX3_change_73 : decode cX3_change 73 = .ok (.invokevirtual 132, 3) := by decide +kernel
theorem dX3_change_76 : decode cX3_change 76 = .ok (.goto 50, 3) := by decide +kernel
theorem dX3_change_79 : decode cX3_change 79 = .ok (.aload_n 0, 1) := by decide +kernel
theorem dX3_change_80 : decode cX3_change 80 = .ok (.getfield 26, 3) := by decide +kernel
theorem dX3_change_83 : decode cX3_change 83 = .ok (.aload_n 0, 1) := by decide +kernel
theorem dX3_change_84 : decode cX3_change 84 = .ok (.getfield 168, 3) := by decide +kernel
theorem dX3_change_87 : decode cX3_change 87 = .ok (.aload_n 0, 1) := by decide +kernel
theorem dX3_change_88 : decode cX3_change 88 = .ok (.getfield 12, 3) := by decide +kernel
theorem dX3_change_91 : decode cX3_change 91 = .ok (.aload_n 0, 1) := by decide +kernel
theorem dX3_change_92 : decode cX3_change 92 = .ok (.getfield 119, 3) := by decide +kernel
theorem dX3_change_95 : decode cX3_change 95 = .ok (.sipush 230, 3) := by decide +kernel
theorem dX3_change_98 : decode cX3_change 98 = .ok (.if_icmp .ne 12, 3) := by decide +kernel
theorem dX3_change_101 : decode cX3_change 101 = .ok (.aload_n 0, 1) := by decide +kernel
theorem dX3_change_102 : decode cX3_change 102 = .ok (.getfield 200, 3) := by decide +kernel
theorem dX3_change_105 : decode cX3_change 105 = .ok (.iconst 1, 1) := by decide +kernel
theorem dX3_change_106 : decode cX3_change 106 = .ok (.iadd, 1) := by decide +kernel
theorem dX3_change_107 : decode cX3_change 107 = .ok (.goto 9, 3) := by decide +kernel
theorem dX3_change_110 : decode cX3_change 110 = .ok (.aload_n 0, 1) := by decide +kernel
theorem dX3_change_111 : decode cX3_change 111 = .ok (.getfield 200, 3) := by decide +kernel
theorem dX3_change_114 : decode cX3_change 114 = .ok (.iconst 1, 1) := by decide +kernel
theorem dX3_change_115 : decode cX3_change 115 = .ok (.isub, 1) := by decide +kernel
theorem dX3_change_116 : decode cX3_change 116 = .ok (.invokevirtual 173, 3) := by decide +kernel
theorem dX3_change_119 : decode cX3_change 119 = .ok (.invokevirtual 132, 3) := by decide +kernel
theorem dX3_change_122 : decode cX3_change 122 = .ok (.aload_n 0, 1) := by decide +kernel
theorem dX3_change_123 : decode cX3_change 123 = .ok (.invokevirtual 61, 3) := by decide +kernel
theorem dX3_change_126 : decode cX3_change 126 = .ok (.return_, 1) := by decide +kernel
theorem dX3_branch_0 : decode cX3_branch 0 = .ok (.aload_n 0, 1) := by decide +kernel
theorem dX3_branch_1 : decode cX3_branch 1 = .ok (.getfield 68, 3) := by decide +kernel
theorem dX3_branch_4 : decode cX3_branch 4 = .ok (.lookupswitch 64 #[(2, 28), (3, 57)], 28) := by decide +kernel
theorem dX3_branch_32 : decode cX3_branch 32 = .ok (.aload_n 0, 1) := by decide +kernel
theorem dX3_branch_33 : decode cX3_branch 33 = .ok (.aload_n 0, 1) := by decide +kernel
theorem dX3_branch_34 : decode cX3_branch 34 = .ok (.invokevirtual 148, 3) := by decide +kernel
theorem dX3_branch_37 : decode cX3_branch 37 = .ok (.putfield 168, 3) := by decide +kernel
theorem dX3_branch_40 : decode cX3_branch 40 = .ok (.aload_n 0, 1) := by decide +kernel
theorem dX3_branch_41 : decode cX3_branch 41 = .ok (.getfield 12, 3) := by decide +kernel
theorem dX3_branch_44 : decode cX3_branch 44 = .ok (.aload_n 0, 1) := by decide +kernel
theorem dX3_branch_45 : decode cX3_branch 45 = .ok (.getfield 119, 3) := by decide +kernel
theorem dX3_branch_48 : decode cX3_branch 48 = .ok (.invokevirtual 203, 3) := by decide +kernel
theorem dX3_branch_51 : decode cX3_branch 51 = .ok (.ifCond .ne 58, 3) := by decide +kernel
theorem dX3_branch_54 : decode cX3_branch 54 = .ok (.aload_n 0, 1) := by decide +kernel
theorem dX3_branch_55 : decode cX3_branch 55 = .ok (.invokevirtual 61, 3) := by decide +kernel
theorem dX3_branch_58 : decode cX3_branch 58 = .ok (.goto 51, 3) := by decide +kernel
theorem dX3_branch_61 : decode cX3_branch 61 = .ok (.aload_n 0, 1) := by decide +kernel
theorem dX3_branch_62 : decode cX3_branch 62 = .ok (.invokevirtual 206, 3) := by decide +kernel
theorem dX3_branch_65 : decode cX3_branch 65 = .ok (.goto 44, 3) := by decide +kernel
theorem dX3_branch_68 : decode cX3_branch 68 = .ok (.aload_n 0, 1) := by decide +kernel
theorem dX3_branch_69 : decode cX3_branch 69 = .ok (.getfield 26, 3) := by decide +kernel
theorem dX3_branch_72 : decode cX3_branch 72 = .ok (.aload_n 0, 1) := by decide +kernel
theorem dX3_branch_73 : decode cX3_branch 73 = .ok (.getfield 12, 3) := by decide +kernel
theorem dX3_branch_76 : decode cX3_branch 76 = .ok (.getfield 122, 3) := by decide +kernel
theorem dX3_branch_79 : decode cX3_branch 79 = .ok (.invokevirtual 125, 3) := by decide +kernel
theorem dX3_branch_82 : decode cX3_branch 82 = .ok (.pop, 1) := by decide +kernel
theorem dX3_branch_83 : decode cX3_branch 83 = .ok (.aload_n 0, 1) := by decide +kernel
theorem dX3_branch_84 : decode cX3_branch 84 = .ok (.getfield 12, 3) := by decide +kernel
theorem dX3_branch_87 : decode cX3_branch 87 = .ok (.aload_n 0, 1) := by decide +kernel
theorem dX3_branch_88 : decode cX3_branch 88 = .ok (.getfield 12, 3) := by decide +kernel
theorem dX3_branch_91 : decode cX3_branch 91 = .ok (.getfield 122, 3) := by decide +kernel
theorem dX3_branch_94 : decode cX3_branch 94 = .ok (.aload_n 0, 1) := by decide +kernel
theorem dX3_branch_95 : decode cX3_branch 95 = .ok (.getfield 209, 3) := by decide +kernel
theorem dX3_branch_98 : decode cX3_branch 98 = .ok (.iadd, 1) := by decide +kernel
theorem dX3_branch_99 : decode cX3_branch 99 = .ok (.ldc 128, 2) := by decide +kernel
theorem dX3_branch_101 : decode cX3_branch 101 = .ok (.iand, 1) := by decide +kernel
theorem dX3_branch_102 : decode cX3_branch 102 = .ok (.putfield 122, 3) := by decide +kernel
theorem dX3_branch_105 : decode cX3_branch 105 = .ok (.aload_n 0, 1) := by decide +kernel
theorem dX3_branch_106 : decode cX3_branch 106 = .ok (.invokevirtual 61, 3) := by decide +kernel
theorem dX3_branch_109 : decode cX3_branch 109 = .ok (.return_, 1) := by decide +kernel
theorem dX3_branchLow_0 : decode cX3_branchLow 0 = .ok (.aload_n 0, 1) := by decide +kernel
theorem dX3_branchLow_1 : decode cX3_branchLow 1 = .ok (.getfield 26, 3) := by decide +kernel
theorem dX3_branchLow_4 : decode cX3_branchLow 4 = .ok (.aload_n 0, 1) := by decide +kernel
theorem dX3_branchLow_5 : decode cX3_branchLow 5 = .ok (.getfield 12, 3) := by decide +kernel
theorem dX3_branchLow_8 : decode cX3_branchLow 8 = .ok (.getfield 122, 3) := by decide +kernel
theorem dX3_branchLow_11 : decode cX3_branchLow 11 = .ok (.invokevirtual 125, 3) := by decide +kernel
theorem dX3_branchLow_14 : decode cX3_branchLow 14 = .ok (.pop, 1) := by decide +kernel
theorem dX3_branchLow_15 : decode cX3_branchLow 15 = .ok (.aload_n 0, 1) := by decide +kernel
theorem dX3_branchLow_16 : decode cX3_branchLow 16 = .ok (.getfield 12, 3) := by decide +kernel
theorem dX3_branchLow_19 : decode cX3_branchLow 19 = .ok (.getfield 122, 3) := by decide +kernel
theorem dX3_branchLow_22 : decode cX3_branchLow 22 = .ok (.sipush 255, 3) := by decide +kernel
theorem dX3_branchLow_25 : decode cX3_branchLow 25 = .ok (.iand, 1) := by decide +kernel
theorem dX3_branchLow_26 : decode cX3_branchLow 26 = .ok (.aload_n 0, 1) := by decide +kernel
theorem dX3_branchLow_27 : decode cX3_branchLow 27 = .ok (.getfield 168, 3) := by decide +kernel
theorem dX3_branchLow_30 : decode cX3_branchLow 30 = .ok (.sipush 128, 3) := by decide +kernel
theorem dX3_branchLow_33 : decode cX3_branchLow 33 = .ok (.if_icmp .ge 10, 3) := by decide +kernel
theorem dX3_branchLow_36 : decode cX3_branchLow 36 = .ok (.aload_n 0, 1) := by decide +kernel
theorem dX3_branchLow_37 : decode cX3_branchLow 37 = .ok (.getfield 168, 3) := by decide +kernel
theorem dX3_branchLow_40 : decode cX3_branchLow 40 = .ok (.goto 11, 3) := by decide +kernel
theorem dX3_branchLow_43 : decode cX3_branchLow 43 = .ok (.aload_n 0, 1) := by decide +kernel
theorem dX3_branchLow_44 : decode cX3_branchLow 44 = .ok (.getfield 168, 3) := by decide +kernel
theorem dX3_branchLow_47 : decode cX3_branchLow 47 = .ok (.sipush 256, 3) := by decide +kernel
theorem dX3_branchLow_50 : decode cX3_branchLow 50 = .ok (.isub, 1) := by decide +kernel
theorem dX3_branchLow_51 : decode cX3_branchLow 51 = .ok (.iadd, 1) := by decide +kernel
theorem dX3_branchLow_52 : decode cX3_branchLow 52 = .ok (.istore_n 1, 1) := by decide +kernel
theorem dX3_branchLow_53 : decode cX3_branchLow 53 = .ok (.aload_n 0, 1) := by decide +kernel
theorem dX3_branchLow_54 : decode cX3_branchLow 54 = .ok (.getfield 12, 3) := by decide +kernel
theorem dX3_branchLow_57 : decode cX3_branchLow 57 = .ok (.iload_n 1, 1) := by decide +kernel
theorem dX3_branchLow_58 : decode cX3_branchLow 58 = .ok (.sipush 255, 3) := by decide +kernel
theorem dX3_branchLow_61 : decode cX3_branchLow 61 = .ok (.iand, 1) := by decide +kernel
theorem dX3_branchLow_62 : decode cX3_branchLow 62 = .ok (.aload_n 0, 1) := by decide +kernel
theorem dX3_branchLow_63 : decode cX3_branchLow 63 = .ok (.getfield 12, 3) := by decide +kernel
theorem dX3_branchLow_66 : decode cX3_branchLow 66 = .ok (.getfield 122, 3) := by decide +kernel
theorem dX3_branchLow_69 : decode cX3_branchLow 69 = .ok (.bipush 8, 2) := by decide +kernel
theorem dX3_branchLow_71 : decode cX3_branchLow 71 = .ok (.ishr, 1) := by decide +kernel
theorem dX3_branchLow_72 : decode cX3_branchLow 72 = .ok (.invokestatic 44, 3) := by decide +kernel
theorem dX3_branchLow_75 : decode cX3_branchLow 75 = .ok (.putfield 122, 3) := by decide +kernel
theorem dX3_branchLow_78 : decode cX3_branchLow 78 = .ok (.aload_n 0, 1) := by decide +kernel
theorem dX3_branchLow_79 : decode cX3_branchLow 79 = .ok (.iload_n 1, 1) := by decide +kernel
theorem dX3_branchLow_80 : decode cX3_branchLow 80 = .ok (.iload_n 1, 1) := by decide +kernel
theorem dX3_branchLow_81 : decode cX3_branchLow 81 = .ok (.sipush 255, 3) := by decide +kernel
theorem dX3_branchLow_84 : decode cX3_branchLow 84 = .ok (.iand, 1) := by decide +kernel
theorem dX3_branchLow_85 : decode cX3_branchLow 85 = .ok (.isub, 1) := by decide +kernel
theorem dX3_branchLow_86 : decode cX3_branchLow 86 = .ok (.putfield 209, 3) := by decide +kernel
theorem dX3_branchLow_89 : decode cX3_branchLow 89 = .ok (.aload_n 0, 1) := by decide +kernel
theorem dX3_branchLow_90 : decode cX3_branchLow 90 = .ok (.getfield 209, 3) := by decide +kernel
theorem dX3_branchLow_93 : decode cX3_branchLow 93 = .ok (.ifCond .ne 7, 3) := by decide +kernel
theorem dX3_branchLow_96 : decode cX3_branchLow 96 = .ok (.aload_n 0, 1) := by decide +kernel
theorem dX3_branchLow_97 : decode cX3_branchLow 97 = .ok (.invokevirtual 61, 3) := by decide +kernel
theorem dX3_branchLow_100 : decode cX3_branchLow 100 = .ok (.return_, 1) := by decide +kernel
theorem dX3_jump_0 : decode cX3_jump 0 = .ok (.aload_n 0, 1) := by decide +kernel
theorem dX3_jump_1 : decode cX3_jump 1 = .ok (.getfield 68, 3) := by decide +kernel
theorem dX3_jump_4 : decode cX3_jump 4 = .ok (.iconst 2, 1) := by decide +kernel
theorem dX3_jump_5 : decode cX3_jump 5 = .ok (.if_icmp .ne 14, 3) := by decide +kernel
theorem dX3_jump_8 : decode cX3_jump 8 = .ok (.aload_n 0, 1) := by decide +kernel
theorem dX3_jump_9 : decode cX3_jump 9 = .ok (.aload_n 0, 1) := by decide +kernel
theorem dX3_jump_10 : decode cX3_jump 10 = .ok (.invokevirtual 148, 3) := by decide +kernel
theorem dX3_jump_13 : decode cX3_jump 13 = .ok (.putfield 168, 3) := by decide +kernel
theorem dX3_jump_16 : decode cX3_jump 16 = .ok (.goto 25, 3) := by decide +kernel
theorem dX3_jump_19 : decode cX3_jump 19 = .ok (.aload_n 0, 1) := by decide +kernel
theorem dX3_jump_20 : decode cX3_jump 20 = .ok (.getfield 12, 3) := by decide +kernel
theorem dX3_jump_23 : decode cX3_jump 23 = .ok (.aload_n 0, 1) := by decide +kernel
theorem dX3_jump_24 : decode cX3_jump 24 = .ok (.getfield 168, 3) := by decide +kernel
theorem dX3_jump_27 : decode cX3_jump 27 = .ok (.aload_n 0, 1) := by decide +kernel
theorem dX3_jump_28 : decode cX3_jump 28 = .ok (.invokevirtual 148, 3) := by decide +kernel
theorem dX3_jump_31 : decode cX3_jump 31 = .ok (.invokestatic 44, 3) := by decide +kernel
theorem dX3_jump_34 : decode cX3_jump 34 = .ok (.putfield 122, 3) := by decide +kernel
theorem dX3_jump_37 : decode cX3_jump 37 = .ok (.aload_n 0, 1) := by decide +kernel
theorem dX3_jump_38 : decode cX3_jump 38 = .ok (.invokevirtual 61, 3) := by decide +kernel
theorem dX3_jump_41 : decode cX3_jump 41 = .ok (.return_, 1) := by decide +kernel
theorem dX3_call_0 : decode cX3_call 0 = .ok (.aload_n 0, 1) := by decide +kernel
theorem dX3_call_1 : decode cX3_call 1 = .ok (.getfield 68, 3) := by decide +kernel
theorem dX3_call_4 : decode cX3_call 4 = .ok (.tableswitch 86 2 5 #[32, 43, 51, 68], 32) := by decide +kernel
theorem dX3_call_36 : decode cX3_call 36 = .ok (.aload_n 0, 1) := by decide +kernel
theorem dX3_call_37 : decode cX3_call 37 = .ok (.aload_n 0, 1) := by decide +kernel
theorem dX3_call_38 : decode cX3_call 38 = .ok (.invokevirtual 148, 3) := by decide +kernel
theorem dX3_call_41 : decode cX3_call 41 = .ok (.putfield 168, 3) := by decide +kernel
theorem dX3_call_44 : decode cX3_call 44 = .ok (.goto 68, 3) := by decide +kernel
theorem dX3_call_47 : decode cX3_call 47 = .ok (.aload_n 0, 1) := by decide +kernel
theorem dX3_call_48 : decode cX3_call 48 = .ok (.invokevirtual 212, 3) := by decide +kernel
theorem dX3_call_51 : decode cX3_call 51 = .ok (.pop, 1) := by decide +kernel
theorem dX3_call_52 : decode cX3_call 52 = .ok (.goto 60, 3) := by decide +kernel
theorem dX3_call_55 : decode cX3_call 55 = .ok (.aload_n 0, 1) := by decide +kernel
theorem dX3_call_56 : decode cX3_call 56 = .ok (.aload_n 0, 1) := by decide +kernel
theorem dX3_call_57 : decode cX3_call 57 = .ok (.getfield 12, 3) := by decide +kernel
theorem dX3_call_60 : decode cX3_call 60 = .ok (.getfield 122, 3) := by decide +kernel
theorem dX3_call_63 : decode cX3_call 63 = .ok (.bipush 8, 2) := by decide +kernel
theorem dX3_call_65 : decode cX3_call 65 = .ok (.ishr, 1) := by decide +kernel
theorem dX3_call_66 : decode cX3_call 66 = .ok (.invokevirtual 158, 3) := by decide +kernel
theorem dX3_call_69 : decode cX3_call 69 = .ok (.goto 43, 3) := by decide +kernel
theorem dX3_call_72 : decode cX3_call 72 = .ok (.aload_n 0, 1) := by decide +kernel
theorem dX3_call_73 : decode cX3_call 73 = .ok (.aload_n 0, 1) := by decide +kernel
theorem dX3_call_74 : decode cX3_call 74 = .ok (.getfield 12, 3) := by decide +kernel
theorem dX3_call_77 : decode cX3_call 77 = .ok (.getfield 122, 3) := by decide +kernel
theorem dX3_call_80 : decode cX3_call 80 = .ok (.sipush 255, 3) := by decide +kernel
theorem dX3_call_83 : decode cX3_call 83 = .ok (.iand, 1) := by decide +kernel
theorem dX3_call_84 : decode cX3_call 84 = .ok (.invokevirtual 158, 3) := by decide +kernel
theorem dX3_call_87 : decode cX3_call 87 = .ok (.goto 25, 3) := by decide +kernel
theorem dX3_call_90 : decode cX3_call 90 = .ok (.aload_n 0, 1) := by decide +kernel
theorem dX3_call_91 : decode cX3_call 91 = .ok (.getfield 12, 3) := by decide +kernel
theorem dX3_call_94 : decode cX3_call 94 = .ok (.aload_n 0, 1) := by decide +kernel
theorem dX3_call_95 : decode cX3_call 95 = .ok (.getfield 168, 3) := by decide +kernel
theorem dX3_call_98 : decode cX3_call 98 = .ok (.aload_n 0, 1) := by decide +kernel
theorem dX3_call_99 : decode cX3_call 99 = .ok (.invokevirtual 148, 3) := by decide +kernel
theorem dX3_call_102 : decode cX3_call 102 = .ok (.invokestatic 44, 3) := by decide +kernel
theorem dX3_call_105 : decode cX3_call 105 = .ok (.putfield 122, 3) := by decide +kernel
theorem dX3_call_108 : decode cX3_call 108 = .ok (.aload_n 0, 1) := by decide +kernel
theorem dX3_call_109 : decode cX3_call 109 = .ok (.invokevirtual 61, 3) := by decide +kernel
theorem dX3_call_112 : decode cX3_call 112 = .ok (.return_, 1) := by decide +kernel
theorem dX3_returnFromCall_0 : decode cX3_returnFromCall 0 = .ok (.aload_n 0, 1) := by decide +kernel
theorem dX3_returnFromCall_1 : decode cX3_returnFromCall 1 = .ok (.getfield 68, 3) := by decide +kernel
theorem dX3_returnFromCall_4 : decode cX3_returnFromCall 4 = .ok (.tableswitch 98 2 5 #[32, 50, 62, 77], 32) := by decide +kernel
theorem dX3_returnFromCall_36 : decode cX3_returnFromCall 36 = .ok (.aload_n 0, 1) := by decide +kernel
theorem dX3_returnFromCall_37 : decode cX3_returnFromCall 37 = .ok (.getfield 26, 3) := by decide +kernel
theorem dX3_returnFromCall_40 : decode cX3_returnFromCall 40 = .ok (.aload_n 0, 1) := by decide +kernel
theorem dX3_returnFromCall_41 : decode cX3_returnFromCall 41 = .ok (.getfield 12, 3) := by decide +kernel
theorem dX3_returnFromCall_44 : decode cX3_returnFromCall 44 = .ok (.getfield 122, 3) := by decide +kernel
theorem dX3_returnFromCall_47 : decode cX3_returnFromCall 47 = .ok (.invokevirtual 125, 3) := by decide +kernel
theorem dX3_returnFromCall_50 : decode cX3_returnFromCall 50 = .ok (.pop, 1) := by decide +kernel
theorem dX3_returnFromCall_51 : decode cX3_returnFromCall 51 = .ok (.goto 60, 3) := by decide +kernel
theorem dX3_returnFromCall_54 : decode cX3_returnFromCall 54 = .ok (.aload_n 0, 1) := by decide +kernel
theorem dX3_returnFromCall_55 : decode cX3_returnFromCall 55 = .ok (.invokevirtual 212, 3) := by decide +kernel
theorem dX3_returnFromCall_58 : decode cX3_returnFromCall 58 = .ok (.pop, 1) := by decide +kernel
theorem dX3_returnFromCall_59 : decode cX3_returnFromCall 59 = .ok (.aload_n 0, 1) := by decide +kernel
theorem dX3_returnFromCall_60 : decode cX3_returnFromCall 60 = .ok (.invokevirtual 215, 3) := by decide +kernel
theorem dX3_returnFromCall_63 : decode cX3_returnFromCall 63 = .ok (.goto 48, 3) := by decide +kernel
theorem dX3_returnFromCall_66 : decode cX3_returnFromCall 66 = .ok (.aload_n 0, 1) := by decide +kernel
theorem dX3_returnFromCall_67 : decode cX3_returnFromCall 67 = .ok (.aload_n 0, 1) := by decide +kernel
theorem dX3_returnFromCall_68 : decode cX3_returnFromCall 68 = .ok (.invokevirtual 212, 3) := by decide +kernel
theorem dX3_returnFromCall_71 : decode cX3_returnFromCall 71 = .ok (.putfield 168, 3) := by decide +kernel
theorem dX3_returnFromCall_74 : decode cX3_returnFromCall 74 = .ok (.aload_n 0, 1) := by decide +kernel
theorem dX3_returnFromCall_75 : decode cX3_returnFromCall 75 = .ok (.invokevirtual 215, 3) := by decide +kernel
theorem dX3_returnFromCall_78 : decode cX3_returnFromCall 78 = .ok (.goto 33, 3) := by decide +kernel
theorem dX3_returnFromCall_81 : decode cX3_returnFromCall 81 = .ok (.aload_n 0, 1) := by decide +kernel
theorem dX3_returnFromCall_82 : decode cX3_returnFromCall 82 = .ok (.getfield 12, 3) := by decide +kernel
theorem dX3_returnFromCall_85 : decode cX3_returnFromCall 85 = .ok (.aload_n 0, 1) := by decide +kernel
theorem dX3_returnFromCall_86 : decode cX3_returnFromCall 86 = .ok (.getfield 168, 3) := by decide +kernel
theorem dX3_returnFromCall_89 : decode cX3_returnFromCall 89 = .ok (.aload_n 0, 1) := by decide +kernel
theorem dX3_returnFromCall_90 : decode cX3_returnFromCall 90 = .ok (.invokevirtual 212, 3) := by decide +kernel
theorem dX3_returnFromCall_93 : decode cX3_returnFromCall 93 = .ok (.invokestatic 44, 3) := by decide +kernel
theorem dX3_returnFromCall_96 : decode cX3_returnFromCall 96 = .ok (.putfield 122, 3) := by decide +kernel
theorem dX3_returnFromCall_99 : decode cX3_returnFromCall 99 = .ok (.goto 12, 3) := by decide +kernel
theorem dX3_returnFromCall_102 : decode cX3_returnFromCall 102 = .ok (.aload_n 0, 1) := by decide +kernel
theorem dX3_returnFromCall_103 : decode cX3_returnFromCall 103 = .ok (.invokevirtual 148, 3) := by decide +kernel
theorem dX3_returnFromCall_106 : decode cX3_returnFromCall 106 = .ok (.pop, 1) := by decide +kernel
theorem dX3_returnFromCall_107 : decode cX3_returnFromCall 107 = .ok (.aload_n 0, 1) := by decide +kernel
theorem dX3_returnFromCall_108 : decode cX3_returnFromCall 108 = .ok (.invokevirtual 61, 3) := by decide +kernel
theorem dX3_returnFromCall_111 : decode cX3_returnFromCall 111 = .ok (.return_, 1) := by decide +kernel
theorem dX3_returnFromInterrupt_0 : decode cX3_returnFromInterrupt 0 = .ok (.aload_n 0, 1) := by decide +kernel
theorem dX3_returnFromInterrupt_1 : decode cX3_returnFromInterrupt 1 = .ok (.getfield 68, 3) := by decide +kernel
theorem dX3_returnFromInterrupt_4 : decode cX3_returnFromInterrupt 4 = .ok (.tableswitch 115 2 5 #[32, 50, 62, 84], 32) := by decide +kernel
theorem dX3_returnFromInterrupt_36 : decode cX3_returnFromInterrupt 36 = .ok (.aload_n 0, 1) := by decide +kernel
theorem dX3_returnFromInterrupt_37 : decode cX3_returnFromInterrupt 37 = .ok (.getfield 26, 3) := by decide +kernel
theorem dX3_returnFromInterrupt_40 : decode cX3_returnFromInterrupt 40 = .ok (.aload_n 0, 1) := by decide +kernel
theorem dX3_returnFromInterrupt_41 : decode cX3_returnFromInterrupt 41 = .ok (.getfield 12, 3) := by decide +kernel
theorem dX3_returnFromInterrupt_44 : decode cX3_returnFromInterrupt 44 = .ok (.getfield 122, 3) := by decide +kernel
theorem dX3_returnFromInterrupt_47 : decode cX3_returnFromInterrupt 47 = .ok (.invokevirtual 125, 3) := by decide +kernel
theorem dX3_returnFromInterrupt_50 : decode cX3_returnFromInterrupt 50 = .ok (.pop, 1) := by decide +kernel
theorem dX3_returnFromInterrupt_51 : decode cX3_returnFromInterrupt 51 = .ok (.goto 97, 3) := by decide +kernel
theorem dX3_returnFromInterrupt_54 : decode cX3_returnFromInterrupt 54 = .ok (.aload_n 0, 1) := by decide +kernel
theorem dX3_returnFromInterrupt_55 : decode cX3_returnFromInterrupt 55 = .ok (.invokevirtual 212, 3) := by decide +kernel
theorem dX3_returnFromInterrupt_58 : decode cX3_returnFromInterrupt 58 = .ok (.pop, 1) := by decide +kernel
theorem dX3_returnFromInterrupt_59 : decode cX3_returnFromInterrupt 59 = .ok (.aload_n 0, 1) := by decide +kernel
theorem dX3_returnFromInterrupt_60 : decode cX3_returnFromInterrupt 60 = .ok (.invokevirtual 215, 3) := by decide +kernel
theorem dX3_returnFromInterrupt_63 : decode cX3_returnFromInterrupt 63 = .ok (.goto 85, 3) := by decide +kernel
theorem dX3_returnFromInterrupt_66 : decode cX3_returnFromInterrupt 66 = .ok (.aload_n 0, 1) := by decide +kernel
theorem dX3_returnFromInterrupt_67 : decode cX3_returnFromInterrupt 67 = .ok (.getfield 12, 3) := by decide +kernel
theorem dX3_returnFromInterrupt_70 : decode cX3_returnFromInterrupt 70 = .ok (.aload_n 0, 1) := by decide +kernel
theorem dX3_returnFromInterrupt_71 : decode cX3_returnFromInterrupt 71 = .ok (.invokevirtual 212, 3) := by decide +kernel
theorem dX3_returnFromInterrupt_74 : decode cX3_returnFromInterrupt 74 = .ok (.sipush 207, 3) := by decide +kernel
theorem dX3_returnFromInterrupt_77 : decode cX3_returnFromInterrupt 77 = .ok (.iand, 1) := by decide +kernel
theorem dX3_returnFromInterrupt_78 : decode cX3_returnFromInterrupt 78 = .ok (.putfield 161, 3) := by decide +kernel
theorem dX3_returnFromInterrupt_81 : decode cX3_returnFromInterrupt 81 = .ok (.aload_n 0, 1) := by decide +kernel
theorem dX3_returnFromInterrupt_82 : decode cX3_returnFromInterrupt 82 = .ok (.invokevirtual 215, 3) := by decide +kernel
theorem dX3_returnFromInterrupt_85 : decode cX3_returnFromInterrupt 85 = .ok (.goto 63, 3) := by decide +kernel
theorem dX3_returnFromInterrupt_88 : decode cX3_returnFromInterrupt 88 = .ok (.aload_n 0, 1) := by decide +kernel
theorem dX3_returnFromInterrupt_89 : decode cX3_returnFromInterrupt 89 = .ok (.getfield 12, 3) := by decide +kernel
theorem dX3_returnFromInterrupt_92 : decode cX3_returnFromInterrupt 92 = .ok (.aload_n 0, 1) := by decide +kernel
theorem dX3_returnFromInterrupt_93 : decode cX3_returnFromInterrupt 93 = .ok (.invokevirtual 212, 3) := by decide +kernel
theorem dX3_returnFromInterrupt_96 : decode cX3_returnFromInterrupt 96 = .ok (.aload_n 0, 1) := by decide +kernel
theorem dX3_returnFromInterrupt_97 : decode cX3_returnFromInterrupt 97 = .ok (.getfield 12, 3) := by decide +kernel
theorem dX3_returnFromInterrupt_100 : decode cX3_returnFromInterrupt 100 = .ok (.getfield 122, 3) := by decide +kernel
theorem dX3_returnFromInterrupt_103 : decode cX3_returnFromInterrupt 103 = .ok (.bipush 8, 2) := by decide +kernel
theorem dX3_returnFromInterrupt_105 : decode cX3_returnFromInterrupt 105 = .ok (.ishr, 1) := by decide +kernel
theorem dX3_returnFromInterrupt_106 : decode cX3_returnFromInterrupt 106 = .ok (.invokestatic 44, 3) := by decide +kernel
theorem dX3_returnFromInterrupt_109 : decode cX3_returnFromInterrupt 109 = .ok (.putfield 122, 3) := by decide +kernel
theorem dX3_returnFromInterrupt_112 : decode cX3_returnFromInterrupt 112 = .ok (.aload_n 0, 1) := by decide +kernel
theorem dX3_returnFromInterrupt_113 : decode cX3_returnFromInterrupt 113 = .ok (.invokevirtual 215, 3) := by decide +kernel
theorem dX3_returnFromInterrupt_116 : decode cX3_returnFromInterrupt 116 = .ok (.goto 32, 3) := by decide +kernel
theorem dX3_returnFromInterrupt_119 : decode cX3_returnFromInterrupt 119 = .ok (.aload_n 0, 1) := by decide +kernel
theorem dX3_returnFromInterrupt_120 : decode cX3_returnFromInterrupt 120 = .ok (.getfield 12, 3) := by decide +kernel
theorem dX3_returnFromInterrupt_123 : decode cX3_returnFromInterrupt 123 = .ok (.aload_n 0, 1) := by decide +kernel
theorem dX3_returnFromInterrupt_124 : decode cX3_returnFromInterrupt 124 = .ok (.getfield 12, 3) := by decide +kernel
theorem dX3_returnFromInterrupt_127 : decode cX3_returnFromInterrupt 127 = .ok (.getfield 122, 3) := by decide +kernel
theorem dX3_returnFromInterrupt_130 : decode cX3_returnFromInterrupt 130 = .ok (.sipush 255, 3) := by decide +kernel
theorem dX3_returnFromInterrupt_133 : decode cX3_returnFromInterrupt 133 = .ok (.iand, 1) := by decide +kernel
theorem dX3_returnFromInterrupt_134 : decode cX3_returnFromInterrupt 134 = .ok (.aload_n 0, 1) := by decide +kernel
theorem dX3_returnFromInterrupt_135 : decode cX3_returnFromInterrupt 135 = .ok (.invokevirtual 212, 3) := by decide +kernel
theorem dX3_returnFromInterrupt_138 : decode cX3_returnFromInterrupt 138 = .ok (.invokestatic 44, 3) := by decide +kernel
theorem dX3_returnFromInterrupt_141 : decode cX3_returnFromInterrupt 141 = .ok (.putfield 122, 3) := by decide +kernel
theorem dX3_returnFromInterrupt_144 : decode cX3_returnFromInterrupt 144 = .ok (.aload_n 0, 1) := by decide +kernel
theorem dX3_returnFromInterrupt_145 : decode cX3_returnFromInterrupt 145 = .ok (.invokevirtual 61, 3) := by decide +kernel
theorem dX3_returnFromInterrupt_148 : decode cX3_returnFromInterrupt 148 = .ok (.return_, 1) := by decide +kernel
theorem dX3_pushA_0 : decode cX3_pushA 0 = .ok (.aload_n 0, 1) := by decide +kernel
theorem dX3_pushA_1 : decode cX3_pushA 1 = .ok (.getfield 68, 3) := by decide +kernel
theorem dX3_pushA_4 : decode cX3_pushA 4 = .ok (.iconst 2, 1) := by decide +kernel
theorem dX3_pushA_5 : decode cX3_pushA 5 = .ok (.if_icmp .ne 21, 3) := by decide +kernel
theorem dX3_pushA_8 : decode cX3_pushA 8 = .ok (.aload_n 0, 1) := by decide +kernel
theorem dX3_pushA_9 : decode cX3_pushA 9 = .ok (.getfield 26, 3) := by decide +kernel
theorem dX3_pushA_12 : decode cX3_pushA 12 = .ok (.aload_n 0, 1) := by decide +kernel
theorem dX3_pushA_13 : decode cX3_pushA 13 = .ok (.getfield 12, 3) := by decide +kernel
theorem dX3_pushA_16 : decode cX3_pushA 16 = .ok (.getfield 122, 3) := by decide +kernel
theorem dX3_pushA_19 : decode cX3_pushA 19 = .ok (.invokevirtual 125, 3) := by decide +kernel
theorem dX3_pushA_22 : decode cX3_pushA 22 = .ok (.pop, 1) := by decide +kernel
theorem dX3_pushA_23 : decode cX3_pushA 23 = .ok (.goto 18, 3) := by decide +kernel
theorem dX3_pushA_26 : decode cX3_pushA 26 = .ok (.aload_n 0, 1) := by decide +kernel
theorem dX3_pushA_27 : decode cX3_pushA 27 = .ok (.aload_n 0, 1) := by decide +kernel
theorem dX3_pushA_28 : decode cX3_pushA 28 = .ok (.getfield 12, 3) := by decide +kernel
theorem dX3_pushA_31 : decode cX3_pushA 31 = .ok (.getfield 197, 3) := by decide +kernel
theorem dX3_pushA_34 : decode cX3_pushA 34 = .ok (.invokevirtual 158, 3) := by decide +kernel
theorem dX3_pushA_37 : decode cX3_pushA 37 = .ok (.aload_n 0, 1) := by decide +kernel
theorem dX3_pushA_38 : decode cX3_pushA 38 = .ok (.invokevirtual 61, 3) := by decide +kernel
theorem dX3_pushA_41 : decode cX3_pushA 41 = .ok (.return_, 1) := by decide +kernel
theorem dX3_pullA_0 : decode cX3_pullA 0 = .ok (.aload_n 0, 1) := by decide +kernel
theorem dX3_pullA_1 : decode cX3_pullA 1 = .ok (.getfield 68, 3) := by decide +kernel
theorem dX3_pullA_4 : decode cX3_pullA 4 = .ok (.lookupswitch 58 #[(2, 28), (3, 46)], 28) := by decide +kernel
theorem dX3_pullA_32 : decode cX3_pullA 32 = .ok (.aload_n 0, 1) := by decide +kernel
theorem dX3_pullA_33 : decode cX3_pullA 33 = .ok (.getfield 26, 3) := by decide +kernel
theorem dX3_pullA_36 : decode cX3_pullA 36 = .ok (.aload_n 0, 1) := by decide +kernel
theorem dX3_pullA_37 : decode cX3_pullA 37 = .ok (.getfield 12, 3) := by decide +kernel
theorem dX3_pullA_40 : decode cX3_pullA 40 = .ok (.getfield 122, 3) := by decide +kernel
theorem dX3_pullA_43 : decode cX3_pullA 43 = .ok (.invokevirtual 125, 3) := by decide +kernel
theorem dX3_pullA_46 : decode cX3_pullA 46 = .ok (.pop, 1) := by decide +kernel
theorem dX3_pullA_47 : decode cX3_pullA 47 = .ok (.goto 37, 3) := by decide +kernel
theorem dX3_pullA_50 : decode cX3_pullA 50 = .ok (.aload_n 0, 1) := by decide +kernel
theorem dX3_pullA_51 : decode cX3_pullA 51 = .ok (.invokevirtual 212, 3) := by decide +kernel
theorem dX3_pullA_54 : decode cX3_pullA 54 = .ok (.pop, 1) := by decide +kernel
theorem dX3_pullA_55 : decode cX3_pullA 55 = .ok (.aload_n 0, 1) := by decide +kernel
theorem dX3_pullA_56 : decode cX3_pullA 56 = .ok (.invokevirtual 215, 3) := by decide +kernel
theorem dX3_pullA_59 : decode cX3_pullA 59 = .ok (.goto 25, 3) := by decide +kernel
theorem dX3_pullA_62 : decode cX3_pullA 62 = .ok (.aload_n 0, 1) := by decide +kernel
theorem dX3_pullA_63 : decode cX3_pullA 63 = .ok (.getfield 12, 3) := by decide +kernel
theorem dX3_pullA_66 : decode cX3_pullA 66 = .ok (.aload_n 0, 1) := by decide +kernel
theorem dX3_pullA_67 : decode cX3_pullA 67 = .ok (.getfield 12, 3) := by decide +kernel
theorem dX3_pullA_70 : decode cX3_pullA 70 = .ok (.aload_n 0, 1) := by decide +kernel
theorem dX3_pullA_71 : decode cX3_pullA 71 = .ok (.invokevirtual 212, 3) := by decide +kernel
theorem dX3_pullA_74 : decode cX3_pullA 74 = .ok (.invokevirtual 173, 3) := by decide +kernel
theorem dX3_pullA_77 : decode cX3_pullA 77 = .ok (.putfield 197, 3) := by decide +kernel
theorem dX3_pullA_80 : decode cX3_pullA 80 = .ok (.aload_n 0, 1) := by decide +kernel
theorem dX3_pullA_81 : decode cX3_pullA 81 = .ok (.invokevirtual 61, 3) := by decide +kernel
theorem dX3_pullA_84 : decode cX3_pullA 84 = .ok (.return_, 1) := by decide +kernel
theorem dX4_init_0 : decode cX4_init 0 = .ok (.aload_n 0, 1) := by decide +kernel
theorem dX4_init_1 : decode cX4_init 1 = .ok (.invokespecial 3, 3) := by decide +kernel
theorem dX4_init_4 : decode cX4_init 4 = .ok (.aload_n 0, 1) := by decide +kernel
theorem dX4_init_5 : decode cX4_init 5 = .ok (.sipush 255, 3) := by decide +kernel
theorem dX4_init_8 : decode cX4_init 8 = .ok (.putfield 9, 3) := by decide +kernel
theorem dX4_init_11 : decode cX4_init 11 = .ok (.aload_n 0, 1) := by decide +kernel
theorem dX4_init_12 : decode cX4_init 12 = .ok (.iconst 4, 1) := by decide +kernel
theorem dX4_init_13 : decode cX4_init 13 = .ok (.putfield 13, 3) := by decide +kernel
theorem dX4_init_16 : decode cX4_init 16 = .ok (.return_, 1) := by decide +kernel
theorem dX4_reset_0 : decode cX4_reset 0 = .ok (.aload_n 0, 1) := by decide +kernel
theorem dX4_reset_1 : decode cX4_reset 1 = .ok (.iconst 0, 1) := by decide +kernel
theorem dX4_reset_2 : decode cX4_reset 2 = .ok (.putfield 16, 3) := by decide +kernel
theorem dX4_reset_5 : decode cX4_reset 5 = .ok (.aload_n 0, 1) := by decide +kernel
theorem dX4_reset_6 : decode cX4_reset 6 = .ok (.iconst 0, 1) := by decide +kernel
theorem dX4_reset_7 : decode cX4_reset 7 = .ok (.putfield 19, 3) := by decide +kernel
theorem dX4_reset_10 : decode cX4_reset 10 = .ok (.aload_n 0, 1) := by decide +kernel
theorem dX4_reset_11 : decode cX4_reset 11 = .ok (.iconst 0, 1) := by decide +kernel
theorem dX4_reset_12 : decode cX4_reset 12 = .ok (.putfield 22, 3) := by decide +kernel
theorem dX4_reset_15 : decode cX4_reset 15 = .ok (.aload_n 0, 1) := by decide +kernel
theorem dX4_reset_16 : decode cX4_reset 16 = .ok (.sipush 255, 3) := by decide +kernel
theorem dX4_reset_19 : decode cX4_reset 19 = .ok (.putfield 9, 3) := by decide +kernel
theorem dX4_reset_22 : decode cX4_reset 22 = .ok (.aload_n 0, 1) := by decide +kernel
theorem dX4_reset_23 : decode cX4_reset 23 = .ok (.iconst 4, 1) := by decide +kernel
theorem dX4_reset_24 : decode cX4_reset 24 = .ok (.putfield 13, 3) := by decide +kernel
theorem dX4_reset_27 : decode cX4_reset 27 = .ok (.aload_n 0, 1) := by decide +kernel
theorem dX4_reset_28 : decode cX4_reset 28 = .ok (.iload_n 1, 1) := by decide +kernel
theorem dX4_reset_29 : decode cX4_reset 29 = .ok (.putfield 25, 3) := by decide +kernel
theorem dX4_reset_32 : decode cX4_reset 32 = .ok (.return_, 1) := by decide +kernel
theorem dX4_has_0 : decode cX4_has 0 = .ok (.aload_n 0, 1) := by decide +kernel
theorem dX4_has_1 : decode cX4_has 1 = .ok (.getfield 13, 3) := by decide +kernel
theorem dX4_has_4 : decode cX4_has 4 = .ok (.iload_n 1, 1) := by decide +kernel
theorem dX4_has_5 : decode cX4_has 5 = .ok (.iand, 1) := by decide +kernel
theorem dX4_has_6 : decode cX4_has 6 = .ok (.ifCond .eq 7, 3) := by decide +kernel
theorem dX4_has_9 : decode cX4_has 9 = .ok (.iconst 1, 1) := by decide +kernel
theorem dX4_has_10 : decode cX4_has 10 = .ok (.goto 4, 3) := by decide +kernel
theorem dX4_has_13 : decode cX4_has 13 = .ok (.iconst 0, 1) := by decide +kernel
theorem dX4_has_14 : decode cX4_has 14 = .ok (.ireturn, 1) := by decide +kernel
theorem dX4_put_0 : decode cX4_put 0 = .ok (.aload_n 0, 1) := by decide +kernel
theorem dX4_put_1 : decode cX4_put 1 = .ok (.iload_n 2, 1) := by decide +kernel
theorem dX4_put_2 : decode cX4_put 2 = .ok (.ifCond .eq 12, 3) := by decide +kernel
theorem dX4_put_5 : decode cX4_put 5 = .ok (.aload_n 0, 1) := by decide +kernel
theorem dX4_put_6 : decode cX4_put 6 = .ok (.getfield 13, 3) := by decide +kernel
theorem dX4_put_9 : decode cX4_put 9 = .ok (.iload_n 1, 1) := by decide +kernel
theorem dX4_put_10 : decode cX4_put 10 = .ok (.ior, 1) := by decide +kernel
theorem dX4_put_11 : decode cX4_put 11 = .ok (.goto 11, 3) := by decide +kernel
theorem dX4_put_14 : decode cX4_put 14 = .ok (.aload_n 0, 1) := by decide +kernel
theorem dX4_put_15 : decode cX4_put 15 = .ok (.getfield 13, 3) := by decide +kernel
theorem dX4_put_18 : decode cX4_put 18 = .ok (.iload_n 1, 1) := by decide +kernel
theorem dX4_put_19 : decode cX4_put 19 = .ok (.iconst (-1), 1) := by decide +kernel
theorem dX4_put_20 : decode cX4_put 20 = .ok (.ixor, 1) := by decide +kernel
theorem dX4_put_21 : decode cX4_put 21 = .ok (.iand, 1) := by decide +kernel
theorem dX4_put_22 : decode cX4_put 22 = .ok (.putfield 13, 3) := by decide +kernel
theorem dX4_put_25 : decode cX4_put 25 = .ok (.return_, 1) := by decide +kernel
theorem dX4_judged_0 : decode cX4_judged 0 = .ok (.iload_n 1, 1) := by decide +kernel
theorem dX4_judged_1 : decode cX4_judged 1 = .ok (.sipush 255, 3) := by decide +kernel
theorem dX4_judged_4 : decode cX4_judged 4 = .ok (.iand, 1) := by decide +kernel
theorem dX4_judged_5 : decode cX4_judged 5 = .ok (.istore_n 2, 1) := by decide +kernel
theorem dX4_judged_6 : decode cX4_judged 6 = .ok (.aload_n 0, 1) := by decide +kernel
theorem dX4_judged_7 : decode cX4_judged 7 = .ok (.aload_n 0, 1) := by decide +kernel
theorem dX4_judged_8 : decode cX4_judged 8 = .ok (.getfield 13, 3) := by decide +kernel
theorem dX4_judged_11 : decode cX4_judged 11 = .ok (.sipush (-131), 3) := by decide +kernel
theorem dX4_judged_14 : decode cX4_judged 14 = .ok (.iand, 1) := by decide +kernel
theorem dX4_judged_15 : decode cX4_judged 15 = .ok (.iload_n 2, 1) := by decide +kernel
theorem dX4_judged_16 : decode cX4_judged 16 = .ok (.ifCond .ne 7, 3) := by decide +kernel
theorem dX4_judged_19 : decode cX4_judged 19 = .ok (.iconst 2, 1) := by decide +kernel
theorem dX4_judged_20 : decode cX4_judged 20 = .ok (.goto 4, 3) := by decide +kernel
theorem dX4_judged_23 : decode cX4_judged 23 = .ok (.iconst 0, 1) := by decide +kernel
theorem dX4_judged_24 : decode cX4_judged 24 = .ok (.ior, 1) := by decide +kernel
theorem dX4_judged_25 : decode cX4_judged 25 = .ok (.iload_n 2, 1) := by decide +kernel
theorem dX4_judged_26 : decode cX4_judged 26 = .ok (.sipush 128, 3) := by decide +kernel
theorem dX4_judged_29 : decode cX4_judged 29 = .ok (.if_icmp .lt 9, 3) := by decide +kernel
theorem dX4_judged_32 : decode cX4_judged 32 = .ok (.sipush 128, 3) := by decide +kernel
theorem dX4_judged_35 : decode cX4_judged 35 = .ok (.goto 4, 3) := by decide +kernel
theorem dX4_judged_38 : decode cX4_judged 38 = .ok (.iconst 0, 1) := by decide +kernel
theorem dX4_judged_39 : decode cX4_judged 39 = .ok (.ior, 1) := by decide +kernel
theorem dX4_judged_40 : decode cX4_judged 40 = .ok (.putfield 13, 3) := by decide +kernel
theorem dX4_judged_43 : decode cX4_judged 43 = .ok (.iload_n 2, 1) := by decide +kernel
theorem dX4_judged_44 : decode cX4_judged 44 = .ok (.ireturn, 1) := by decide +kernel
theorem dX4_calculate_0 : decode cX4_calculate 0 = .ok (.iload_n 1, 1) := by decide +kernel
theorem dX4_calculate_1 : decode cX4_calculate 1 = .ok (.tableswitch 149 0 7 #[47, 64, 81, 98, 149, 112, 124, 136], 47) := by decide +kernel
theorem dX4_calculate_48 : decode cX4_calculate 48 = .ok (.aload_n 0, 1) := by decide +kernel
theorem dX4_calculate_49 : decode cX4_calculate 49 = .ok (.aload_n 0, 1) := by decide +kernel
theorem dX4_calculate_50 : decode cX4_calculate 50 = .ok (.aload_n 0, 1) := by decide +kernel
theorem dX4_calculate_51 : decode cX4_calculate 51 = .ok (.getfield 16, 3) := by decide +kernel
theorem dX4_calculate_54 : decode cX4_calculate 54 = .ok (.iload_n 2, 1) := by decide +kernel
theorem dX4_calculate_55 : decode cX4_calculate 55 = .ok (.ior, 1) := by decide +kernel
theorem dX4_calculate_56 : decode cX4_calculate 56 = .ok (.invokevirtual 28, 3) := by decide +kernel
theorem dX4_calculate_59 : decode cX4_calculate 59 = .ok (.putfield 16, 3) := by decide +kernel
theorem dX4_calculate_62 : decode cX4_calculate 62 = .ok (.goto 88, 3) := by decide +kernel
theorem dX4_calculate_65 : decode cX4_calculate 65 = .ok (.aload_n 0, 1) := by decide +kernel
theorem dX4_calculate_66 : decode cX4_calculate 66 = .ok (.aload_n 0, 1) := by decide +kernel
theorem dX4_calculate_67 : decode cX4_calculate 67 = .ok (.aload_n 0, 1) := by decide +kernel
theorem dX4_calculate_68 : decode cX4_calculate 68 = .ok (.getfield 16, 3) := by decide +kernel
theorem dX4_calculate_71 : decode cX4_calculate 71 = .ok (.iload_n 2, 1) := by decide +kernel
theorem dX4_calculate_72 : decode cX4_calculate 72 = .ok (.iand, 1) := by decide +kernel
theorem dX4_calculate_73 : decode cX4_calculate 73 = .ok (.invokevirtual 28, 3) := by decide +kernel
theorem dX4_calculate_76 : decode cX4_calculate 76 = .ok (.putfield 16, 3) := by decide +kernel
theorem dX4_calculate_79 : decode cX4_calculate 79 = .ok (.goto 71, 3) := by decide +kernel
theorem dX4_calculate_82 : decode cX4_calculate 82 = .ok (.aload_n 0, 1) := by decide +kernel
theorem dX4_calculate_83 : decode cX4_calculate 83 = .ok (.aload_n 0, 1) := by decide +kernel
theorem dX4_calculate_84 : decode cX4_calculate 84 = .ok (.aload_n 0, 1) := by decide +kernel
theorem dX4_calculate_85 : decode cX4_calculate 85 = .ok (.getfield 16, 3) := by decide +kernel
theorem dX4_calculate_88 : decode cX4_calculate 88 = .ok (.iload_n 2, 1) := by decide +kernel
theorem dX4_calculate_89 : decode cX4_calculate 89 = .ok (.ixor, 1) := by decide +kernel
theorem dX4_calculate_90 : decode cX4_calculate 90 = .ok (.invokevirtual 28, 3) := by decide +kernel
theorem dX4_calculate_93 : decode cX4_calculate 93 = .ok (.putfield 16, 3) := by decide +kernel
theorem dX4_calculate_96 : decode cX4_calculate 96 = .ok (.goto 54, 3) := by decide +kernel
theorem dX4_calculate_99 : decode cX4_calculate 99 = .ok (.aload_n 0, 1) := by decide +kernel
theorem dX4_calculate_100 : decode cX4_calculate 100 = .ok (.iload_n 2, 1) := by decide +kernel
theorem dX4_calculate_101 : decode cX4_calculate 101 = .ok (.aload_n 0, 1) := by decide +kernel
theorem dX4_calculate_102 : decode cX4_calculate 102 = .ok (.bipush 8, 2) := by decide +kernel
theorem dX4_calculate_104 : decode cX4_calculate 104 = .ok (.invokevirtual 32, 3) := by decide +kernel
theorem dX4_calculate_107 : decode cX4_calculate 107 = .ok (.invokevirtual 36, 3) := by decide +kernel
theorem dX4_calculate_110 : decode cX4_calculate 110 = .ok (.goto 40, 3) := by decide +kernel
theorem dX4_calculate_113 : decode cX4_calculate 113 = .ok (.aload_n 0, 1) := by decide +kernel
theorem dX4_calculate_114 : decode cX4_calculate 114 = .ok (.aload_n 0, 1) := by decide +kernel
theorem dX4_calculate_115 : decode cX4_calculate 115 = .ok (.iload_n 2, 1) := by decide +kernel
theorem dX4_calculate_116 : decode cX4_calculate 116 = .ok (.invokevirtual 28, 3) := by decide +kernel
theorem dX4_calculate_119 : decode cX4_calculate 119 = .ok (.putfield 16, 3) := by decide +kernel
theorem dX4_calculate_122 : decode cX4_calculate 122 = .ok (.goto 28, 3) := by decide +kernel
theorem dX4_calculate_125 : decode cX4_calculate 125 = .ok (.aload_n 0, 1) := by decide +kernel
theorem dX4_calculate_126 : decode cX4_calculate 126 = .ok (.aload_n 0, 1) := by decide +kernel
theorem dX4_calculate_127 : decode cX4_calculate 127 = .ok (.getfield 16, 3) := by decide +kernel
theorem dX4_calculate_130 : decode cX4_calculate 130 = .ok (.iload_n 2, 1) := by decide +kernel
theorem dX4_calculate_131 : decode cX4_calculate 131 = .ok (.invokevirtual 40, 3) := by decide +kernel
theorem dX4_calculate_134 : decode cX4_calculate 134 = .ok (.goto 16, 3) := by decide +kernel
theorem dX4_calculate_137 : decode cX4_calculate 137 = .ok (.aload_n 0, 1) := by decide +kernel
theorem dX4_calculate_138 : decode cX4_calculate 138 = .ok (.sipush 255, 3) := by decide +kernel
theorem dX4_calculate_141 : decode cX4_calculate 141 = .ok (.iload_n 2, 1) := by decide +kernel
theorem dX4_calculate_142 : decode cX4_calculate 142 = .ok (.isub, 1) := by decide +kernel
theorem dX4_calculate_143 : decode cX4_calculate 143 = .ok (.iconst 0, 1) := by decide +kernel
theorem dX4_calculate_144 : decode cX4_calculate 144 = .ok (.invokevirtual 36, 3) := by decide +kernel
theorem dX4_calculate_147 : decode cX4_calculate 147 = .ok (.goto 3, 3) := by decide +kernel
theorem dX4_calculate_150 : decode cX4_calculate 150 = .ok (.return_, 1) := by decide +kernel
theorem dX4_compare_0 : decode cX4_compare 0 = .ok (.aload_n 0, 1) := by decide +kernel
theorem dX4_compare_1 : decode cX4_compare 1 = .ok (.iload_n 1, 1) := by decide +kernel
theorem dX4_compare_2 : decode cX4_compare 2 = .ok (.iload_n 2, 1) := by decide +kernel
theorem dX4_compare_3 : decode cX4_compare 3 = .ok (.isub, 1) := by decide +kernel
theorem dX4_compare_4 : decode cX4_compare 4 = .ok (.invokevirtual 28, 3) := by decide +kernel
theorem dX4_compare_7 : decode cX4_compare 7 = .ok (.pop, 1) := by decide +kernel
theorem dX4_compare_8 : decode cX4_compare 8 = .ok (.aload_n 0, 1) := by decide +kernel
theorem dX4_compare_9 : decode cX4_compare 9 = .ok (.iconst 1, 1) := by decide +kernel
theorem dX4_compare_10 : decode cX4_compare 10 = .ok (.iload_n 1, 1) := by decide +kernel
theorem dX4_compare_11 : decode cX4_compare 11 = .ok (.iload_n 2, 1) := by decide +kernel
theorem dX4_compare_12 : decode cX4_compare 12 = .ok (.if_icmp .lt 7, 3) := by decide +kernel
theorem dX4_compare_15 : decode cX4_compare 15 = .ok (.iconst 1, 1) := by decide +kernel
theorem dX4_compare_16 : decode cX4_compare 16 = .ok (.goto 4, 3) := by decide +kernel
theorem dX4_compare_19 : decode cX4_compare 19 = .ok (.iconst 0, 1) := by decide +kernel
theorem dX4_compare_20 : decode cX4_compare 20 = .ok (.invokevirtual 44, 3) := by decide +kernel
theorem dX4_compare_23 : decode cX4_compare 23 = .ok (.return_, 1) := by decide +kernel
