theorem dX7_timers_4 : decode cX7_timers 4 = .ok (.iconst 0, 1) := by decide +kernel
theorem dX7_timers_5 : decode cX7_timers 5 = .ok (.iaload, 1) := by decide +kernel
theorem dX7_timers_6 : decode cX7_timers 6 = .ok (.iconst 1, 1) := by decide +kernel
theorem dX7_timers_7 : decode cX7_timers 7 = .ok (.iand, 1) := by decide +kernel
theorem dX7_timers_8 : decode cX7_timers 8 = .ok (.iconst 1, 1) := by decide +kernel
theorem dX7_timers_9 : decode cX7_timers 9 = .ok (.if_icmp .ne 15, 3) := by decide +kernel
theorem dX7_timers_12 : decode cX7_timers 12 = .ok (.aload_n 0, 1) := by decide +kernel
theorem dX7_timers_13 : decode cX7_timers 13 = .ok (.iconst 0, 1) := by decide +kernel
theorem dX7_timers_14 : decode cX7_timers 14 = .ok (.invokevirtual 133, 3) := by decide +kernel
theorem dX7_timers_17 : decode cX7_timers 17 = .ok (.ifCond .eq 7, 3) := by decide +kernel
theorem dX7_timers_20 : decode cX7_timers 20 = .ok (.iconst 1, 1) := by decide +kernel
theorem dX7_timers_21 : decode cX7_timers 21 = .ok (.goto 4, 3) := by decide +kernel
theorem dX7_timers_24 : decode cX7_timers 24 = .ok (.iconst 0, 1) := by decide +kernel
theorem dX7_timers_25 : decode cX7_timers 25 = .ok (.istore_n 1, 1) := by decide +kernel
theorem dX7_timers_26 : decode cX7_timers 26 = .ok (.aload_n 0, 1) := by decide +kernel
theorem dX7_timers_27 : decode cX7_timers 27 = .ok (.getfield 54, 3) := by decide +kernel
theorem dX7_timers_30 : decode cX7_timers 30 = .ok (.iconst 1, 1) := by decide +kernel
theorem dX7_timers_31 : decode cX7_timers 31 = .ok (.iaload, 1) := by decide +kernel
theorem dX7_timers_32 : decode cX7_timers 32 = .ok (.iconst 1, 1) := by decide +kernel
theorem dX7_timers_33 : decode cX7_timers 33 = .ok (.iand, 1) := by decide +kernel
theorem dX7_timers_34 : decode cX7_timers 34 = .ok (.iconst 1, 1) := by decide +kernel
theorem dX7_timers_35 : decode cX7_timers 35 = .ok (.if_icmp .ne 25, 3) := by decide +kernel
theorem dX7_timers_38 : decode cX7_timers 38 = .ok (.aload_n 0, 1) := by decide +kernel
theorem dX7_timers_39 : decode cX7_timers 39 = .ok (.getfield 54, 3) := by decide +kernel
theorem dX7_timers_42 : decode cX7_timers 42 = .ok (.iconst 1, 1) := by decide +kernel
theorem dX7_timers_43 : decode cX7_timers 43 = .ok (.iaload, 1) := by decide +kernel
theorem dX7_timers_44 : decode cX7_timers 44 = .ok (.bipush 64, 2) := by decide +kernel
theorem dX7_timers_46 : decode cX7_timers 46 = .ok (.iand, 1) := by decide +kernel
theorem dX7_timers_47 : decode cX7_timers 47 = .ok (.ifCond .eq 7, 3) := by decide +kernel
theorem dX7_timers_50 : decode cX7_timers 50 = .ok (.iload_n 1, 1) := by decide +kernel
theorem dX7_timers_51 : decode cX7_timers 51 = .ok (.ifCond .eq 9, 3) := by decide +kernel
theorem dX7_timers_54 : decode cX7_timers 54 = .ok (.aload_n 0, 1) := by decide +kernel
theorem dX7_timers_55 : decode cX7_timers 55 = .ok (.iconst 1, 1) := by decide +kernel
theorem dX7_timers_56 : decode cX7_timers 56 = .ok (.invokevirtual 133, 3) := by decide +kernel
theorem dX7_timers_59 : decode cX7_timers 59 = .ok (.pop, 1) := by decide +kernel
theorem dX7_timers_60 : decode cX7_timers 60 = .ok (.return_, 1) := by decide +kernel
theorem dX7_asked_0 : decode cX7_asked 0 = .ok (.aload_n 0, 1) := by decide +kernel
theorem dX7_asked_1 : decode cX7_asked 1 = .ok (.getfield 88, 3) := by decide +kernel
theorem dX7_asked_4 : decode cX7_asked 4 = .ok (.ifCond .eq 13, 3) := by decide +kernel
theorem dX7_asked_7 : decode cX7_asked 7 = .ok (.aload_n 0, 1) := by decide +kernel
theorem dX7_asked_8 : decode cX7_asked 8 = .ok (.getfield 26, 3) := by decide +kernel
theorem dX7_asked_11 : decode cX7_asked 11 = .ok (.iconst 5, 1) := by decide +kernel
theorem dX7_asked_12 : decode cX7_asked 12 = .ok (.iaload, 1) := by decide +kernel
theorem dX7_asked_13 : decode cX7_asked 13 = .ok (.iconst 1, 1) := by decide +kernel
theorem dX7_asked_14 : decode cX7_asked 14 = .ok (.if_icmp .eq 15, 3) := by decide +kernel
theorem dX7_asked_17 : decode cX7_asked 17 = .ok (.aload_n 0, 1) := by decide +kernel
theorem dX7_asked_18 : decode cX7_asked 18 = .ok (.getfield 95, 3) := by decide +kernel
theorem dX7_asked_21 : decode cX7_asked 21 = .ok (.aload_n 0, 1) := by decide +kernel
theorem dX7_asked_22 : decode cX7_asked 22 = .ok (.getfield 98, 3) := by decide +kernel
theorem dX7_asked_25 : decode cX7_asked 25 = .ok (.iand, 1) := by decide +kernel
theorem dX7_asked_26 : decode cX7_asked 26 = .ok (.ifCond .eq 7, 3) := by decide +kernel
theorem dX7_asked_29 : decode cX7_asked 29 = .ok (.iconst 1, 1) := by decide +kernel
theorem dX7_asked_30 : decode cX7_asked 30 = .ok (.goto 4, 3) := by decide +kernel
theorem dX7_asked_33 : decode cX7_asked 33 = .ok (.iconst 0, 1) := by decide +kernel
theorem dX7_asked_34 : decode cX7_asked 34 = .ok (.ireturn, 1) := by decide +kernel
set_option maxRecDepth 20000 in
theorem ggX7_power_X7_seen : GoodIn wsX7_power wsX7_seen := goodIn_r _ [16, 17, 18, 19, 20, 21, 22, 23, 24, 15, 25, 26, 27, 28, 29, 30, 31, 32, 33, 34, 35, 36, 37, 38, 39, 40, 41, 42, 43, 44, 45, 46, 47, 48, 49, 50, 51, 52, 53, 54, 55, 56, 57, 58, 59, 60, 61, 62, 63, 64, 65, 66, 67, 68, 69, 70, 71, 72, 73, 74, 75, 76, 77, 78, 79, 80, 81, 82, 83, 84] (by decide +kernel) (by decide +kernel)
set_option maxRecDepth 20000 in
theorem gX7_power_X7_seen : GoodIn wsX7_power (wsV RX7 105 RX7 yX7_seen wsX7_seen) := goodIn_app (goodIn_of _ (by decide +kernel)) ggX7_power_X7_seen
theorem dX7_power_0 : decode cX7_power 0 = .ok (.aload_n 0, 1) := by decide +kernel
theorem dX7_power_1 : decode cX7_power 1 = .ok (.iconst 0, 1) := by decide +kernel
theorem dX7_power_2 : decode cX7_power 2 = .ok (.putfield 136, 3) := by decide +kernel
theorem dX7_power_5 : decode cX7_power 5 = .ok (.aload_n 0, 1) := by decide +kernel
theorem dX7_power_6 : decode cX7_power 6 = .ok (.iconst 0, 1) := by decide +kernel
theorem dX7_power_7 : decode cX7_power 7 = .ok (.putfield 139, 3) := by decide +kernel
theorem dX7_power_10 : decode cX7_power 10 = .ok (.aload_n 0, 1) := by decide +kernel
theorem dX7_power_11 : decode cX7_power 11 = .ok (.iconst 0, 1) := by decide +kernel
theorem dX7_power_12 : decode cX7_power 12 = .ok (.putfield 142, 3) := by decide +kernel
theorem dX7_power_15 : decode cX7_power 15 = .ok (.aload_n 0, 1) := by decide +kernel
theorem dX7_power_16 : decode cX7_power 16 = .ok (.sipush 255, 3) := by decide +kernel
theorem dX7_power_19 : decode cX7_power 19 = .ok (.putfield 57, 3) := by decide +kernel
theorem dX7_power_22 : decode cX7_power 22 = .ok (.aload_n 0, 1) := by decide +kernel
theorem dX7_power_23 : decode cX7_power 23 = .ok (.iconst 4, 1) := by decide +kernel
theorem dX7_power_24 : decode cX7_power 24 = .ok (.putfield 60, 3) := by decide +kernel
theorem dX7_power_27 : decode cX7_power 27 = .ok (.aload_n 0, 1) := by decide +kernel
theorem dX7_power_28 : decode cX7_power 28 = .ok (.aload_n 0, 1) := by decide +kernel
theorem dX7_power_29 : decode cX7_power 29 = .ok (.sipush 8188, 3) := by decide +kernel
theorem dX7_power_32 : decode cX7_power 32 = .ok (.invokevirtual 105, 3) := by decide +kernel
theorem dX7_power_35 : decode cX7_power 35 = .ok (.sipush 256, 3) := by decide +kernel
theorem dX7_power_38 : decode cX7_power 38 = .ok (.aload_n 0, 1) := by decide +kernel
theorem dX7_power_39 : decode cX7_power 39 = .ok (.sipush 8189, 3) := by decide +kernel
theorem dX7_power_42 : decode cX7_power 42 = .ok (.invokevirtual 105, 3) := by decide +kernel
theorem dX7_power_45 : decode cX7_power 45 = .ok (.imul, 1) := by decide +kernel
theorem dX7_power_46 : decode cX7_power 46 = .ok (.iadd, 1) := by decide +kernel
theorem dX7_power_47 : decode cX7_power 47 = .ok (.putfield 145, 3) := by decide +kernel
theorem dX7_power_50 : decode cX7_power 50 = .ok (.aload_n 0, 1) := by decide +kernel
theorem dX7_power_51 : decode cX7_power 51 = .ok (.iconst 0, 1) := by decide +kernel
theorem dX7_power_52 : decode cX7_power 52 = .ok (.putfield 63, 3) := by decide +kernel
theorem dX7_power_55 : decode cX7_power 55 = .ok (.aload_n 0, 1) := by decide +kernel
theorem dX7_power_56 : decode cX7_power 56 = .ok (.iconst 0, 1) := by decide +kernel
theorem dX7_power_57 : decode cX7_power 57 = .ok (.putfield 148, 3) := by decide +kernel
theorem dX7_power_60 : decode cX7_power 60 = .ok (.aload_n 0, 1) := by decide +kernel
theorem dX7_power_61 : decode cX7_power 61 = .ok (.iconst (-1), 1) := by decide +kernel
theorem dX7_power_62 : decode cX7_power 62 = .ok (.putfield 66, 3) := by decide +kernel
theorem dX7_power_65 : decode cX7_power 65 = .ok (.aload_n 0, 1) := by decide +kernel
theorem dX7_power_66 : decode cX7_power 66 = .ok (.iconst 0, 1) := by decide +kernel
theorem dX7_power_67 : decode cX7_power 67 = .ok (.putfield 151, 3) := by decide +kernel
theorem dX7_power_70 : decode cX7_power 70 = .ok (.aload_n 0, 1) := by decide +kernel
theorem dX7_power_71 : decode cX7_power 71 = .ok (.iconst 0, 1) := by decide +kernel
theorem dX7_power_72 : decode cX7_power 72 = .ok (.putfield 154, 3) := by decide +kernel
theorem dX7_power_75 : decode cX7_power 75 = .ok (.return_, 1) := by decide +kernel
theorem dX7_is_0 : decode cX7_is 0 = .ok (.aload_n 0, 1) := by decide +kernel
theorem dX7_is_1 : decode cX7_is 1 = .ok (.getfield 60, 3) := by decide +kernel
theorem dX7_is_4 : decode cX7_is 4 = .ok (.iload_n 1, 1) := by decide +kernel
theorem dX7_is_5 : decode cX7_is 5 = .ok (.iand, 1) := by decide +kernel
theorem dX7_is_6 : decode cX7_is 6 = .ok (.ifCond .eq 7, 3) := by decide +kernel
theorem dX7_is_9 : decode cX7_is 9 = .ok (.iconst 1, 1) := by decide +kernel
theorem dX7_is_10 : decode cX7_is 10 = .ok (.goto 4, 3) := by decide +kernel
theorem dX7_is_13 : decode cX7_is 13 = .ok (.iconst 0, 1) := by decide +kernel
theorem dX7_is_14 : decode cX7_is 14 = .ok (.ireturn, 1) := by decide +kernel
theorem dX7_put_0 : decode cX7_put 0 = .ok (.aload_n 0, 1) := by decide +kernel
theorem dX7_put_1 : decode cX7_put 1 = .ok (.iload_n 2, 1) := by decide +kernel
theorem dX7_put_2 : decode cX7_put 2 = .ok (.ifCond .eq 12, 3) := by decide +kernel
theorem dX7_put_5 : decode cX7_put 5 = .ok (.aload_n 0, 1) := by decide +kernel
theorem dX7_put_6 : decode cX7_put 6 = .ok (.getfield 60, 3) := by decide +kernel
theorem dX7_put_9 : decode cX7_put 9 = .ok (.iload_n 1, 1) := by decide +kernel
theorem dX7_put_10 : decode cX7_put 10 = .ok (.ior, 1) := by decide +kernel
theorem dX7_put_11 : decode cX7_put 11 = .ok (.goto 11, 3) := by decide +kernel
theorem dX7_put_14 : decode cX7_put 14 = .ok (.aload_n 0, 1) := by decide +kernel
theorem dX7_put_15 : decode cX7_put 15 = .ok (.getfield 60, 3) := by decide +kernel
theorem dX7_put_18 : decode cX7_put 18 = .ok (.iload_n 1, 1) := by decide +kernel
theorem dX7_put_19 : decode cX7_put 19 = .ok (.iconst (-1), 1) := by decide +kernel
theorem dX7_put_20 : decode cX7_put 20 = .ok (.ixor, 1) := by decide +kernel
theorem dX7_put_21 : decode cX7_put 21 = .ok (.iand, 1) := by decide +kernel
theorem dX7_put_22 : decode cX7_put 22 = .ok (.putfield 60, 3) := by decide +kernel
theorem dX7_put_25 : decode cX7_put 25 = .ok (.return_, 1) := by decide +kernel
set_option maxRecDepth 20000 in
theorem ggX7_judged_X7_put : GoodIn wsX7_judged wsX7_put := goodIn_r _ [5, 6, 7, 8, 9, 10, 11, 12, 13, 14, 15, 16, 17, 18, 19, 20, 21, 22, 23, 24, 25, 26, 27, 28, 29, 30, 31, 32, 33, 34, 35, 36, 37, 38, 39, 40, 41, 42, 43, 44, 45, 46, 47] (by decide +kernel) (by decide +kernel)
set_option maxRecDepth 20000 in
theorem gX7_judged_X7_put : GoodIn wsX7_judged (wsV RX7 157 RX7 yX7_put wsX7_put) := goodIn_app (goodIn_of _ (by decide +kernel)) ggX7_judged_X7_put
theorem dX7_judged_0 : decode cX7_judged 0 = .ok (.aload_n 0, 1) := by decide +kernel
theorem dX7_judged_1 : decode cX7_judged 1 = .ok (.iconst 2, 1) := by decide +kernel
theorem dX7_judged_2 : decode cX7_judged 2 = .ok (.iload_n 1, 1) := by decide +kernel
theorem dX7_judged_3 : decode cX7_judged 3 = .ok (.ifCond .ne 7, 3) := by decide +kernel
theorem dX7_judged_6 : decode cX7_judged 6 = .ok (.iconst 1, 1) := by decide +kernel
theorem dX7_judged_7 : decode cX7_judged 7 = .ok (.goto 4, 3) := by decide +kernel
theorem dX7_judged_10 : decode cX7_judged 10 = .ok (.iconst 0, 1) := by decide +kernel
theorem dX7_judged_11 : decode cX7_judged 11 = .ok (.invokevirtual 157, 3) := by decide +kernel
theorem dX7_judged_14 : decode cX7_judged 14 = .ok (.aload_n 0, 1) := by decide +kernel
theorem dX7_judged_15 : decode cX7_judged 15 = .ok (.sipush 128, 3) := by decide +kernel
theorem dX7_judged_18 : decode cX7_judged 18 = .ok (.iload_n 1, 1) := by decide +kernel
theorem dX7_judged_19 : decode cX7_judged 19 = .ok (.bipush 127, 2) := by decide +kernel
theorem dX7_judged_21 : decode cX7_judged 21 = .ok (.if_icmp .le 7, 3) := by decide +kernel
theorem dX7_judged_24 : decode cX7_judged 24 = .ok (.iconst 1, 1) := by decide +kernel
theorem dX7_judged_25 : decode cX7_judged 25 = .ok (.goto 4, 3) := by decide +kernel
theorem dX7_judged_28 : decode cX7_judged 28 = .ok (.iconst 0, 1) := by decide +kernel
theorem dX7_judged_29 : decode cX7_judged 29 = .ok (.invokevirtual 157, 3) := by decide +kernel
theorem dX7_judged_32 : decode cX7_judged 32 = .ok (.iload_n 1, 1) := by decide +kernel
theorem dX7_judged_33 : decode cX7_judged 33 = .ok (.ireturn, 1) := by decide +kernel
set_option maxRecDepth 20000 in
theorem ggX7_next_X7_read : GoodIn wsX7_next wsX7_read := goodIn_r _ [7, 8, 9, 10, 11, 12, 6, 13, 14, 15, 16, 17, 18, 19, 20, 21, 22, 23, 24, 25, 26, 27, 28, 29, 30, 31, 32, 33, 34, 35, 36, 37, 38, 39, 40, 41, 42, 43, 44, 45, 46, 47, 48, 49, 50, 51, 52, 53, 54, 55, 56, 57, 58, 59, 60, 61, 62, 63, 64, 65, 66, 67, 68, 69, 70, 71, 72, 73, 74, 75, 76, 77, 78, 79, 80, 81] (by decide +kernel) (by decide +kernel)
set_option maxRecDepth 20000 in
theorem gX7_next_X7_read : GoodIn wsX7_next (wsV RX7 161 RX7 yX7_read wsX7_read) := goodIn_app (goodIn_of _ (by decide +kernel)) ggX7_next_X7_read
theorem dX7_next_0 : decode cX7_next 0 = .ok (.aload_n 0, 1) := by decide +kernel
theorem dX7_next_1 : decode cX7_next 1 = .ok (.aload_n 0, 1) := by decide +kernel
theorem dX7_next_2 : decode cX7_next 2 = .ok (.getfield 145, 3) := by decide +kernel
theorem dX7_next_5 : decode cX7_next 5 = .ok (.invokevirtual 161, 3) := by decide +kernel
theorem dX7_next_8 : decode cX7_next 8 = .ok (.istore_n 1, 1) := by decide +kernel
theorem dX7_next_9 : decode cX7_next 9 = .ok (.aload_n 0, 1) := by decide +kernel
theorem dX7_next_10 : decode cX7_next 10 = .ok (.aload_n 0, 1) := by decide +kernel
theorem dX7_next_11 : decode cX7_next 11 = .ok (.getfield 145, 3) := by decide +kernel
theorem dX7_next_14 : decode cX7_next 14 = .ok (.iconst 1, 1) := by decide +kernel
theorem dX7_next_15 : decode cX7_next 15 = .ok (.iadd, 1) := by decide +kernel
theorem dX7_next_16 : decode cX7_next 16 = .ok (.ldc 69, 2) := by decide +kernel
theorem dX7_next_18 : decode cX7_next 18 = .ok (.iand, 1) := by decide +kernel
theorem dX7_next_19 : decode cX7_next 19 = .ok (.putfield 145, 3) := by decide +kernel
theorem dX7_next_22 : decode cX7_next 22 = .ok (.iload_n 1, 1) := by decide +kernel
theorem dX7_next_23 : decode cX7_next 23 = .ok (.ireturn, 1) := by decide +kernel
set_option maxRecDepth 20000 in
theorem ggX7_push_X7_write : GoodIn wsX7_push wsX7_write := goodIn_r _ [6, 7, 8, 9, 10, 11, 12, 13, 5, 14, 15, 16, 17, 18, 19, 20, 21, 22, 23, 24, 25, 26, 27, 28, 29, 30, 31, 32, 33, 34, 35, 36, 37, 38, 39, 40, 41, 42, 43, 44, 45, 46, 47, 48, 49, 50, 51, 52, 53, 54, 55, 56, 57, 58, 59, 60, 61, 62, 63, 64, 65, 66, 67, 68] (by decide +kernel) (by decide +kernel)
set_option maxRecDepth 20000 in
theorem gX7_push_X7_write : GoodIn wsX7_push (wsV RX7 164 RX7 yX7_write wsX7_write) := goodIn_app (goodIn_of _ (by decide +kernel)) ggX7_push_X7_write
theorem dX7_push_0 : decode cX7_push 0 = .ok (.aload_n 0, 1) := by decide +kernel
theorem dX7_push_1 : decode cX7_push 1 = .ok (.sipush 256, 3) := by decide +kernel
theorem dX7_push_4 : decode cX7_push 4 = .ok (.aload_n 0, 1) := by decide +kernel
theorem dX7_push_5 : decode cX7_push 5 = .ok (.getfield 57, 3) := by decide +kernel
theorem dX7_push_8 : decode cX7_push 8 = .ok (.iadd, 1) := by decide +kernel
theorem dX7_push_9 : decode cX7_push 9 = .ok (.iload_n 1, 1) := by decide +kernel
theorem dX7_push_10 : decode cX7_push 10 = .ok (.invokevirtual 164, 3) := by decide +kernel
theorem dX7_push_13 : decode cX7_push 13 = .ok (.aload_n 0, 1) := by decide +kernel
theorem dX7_push_14 : decode cX7_push 14 = .ok (.aload_n 0, 1) := by decide +kernel
theorem dX7_push_15 : decode cX7_push 15 = .ok (.getfield 57, 3) := by decide +kernel
theorem dX7_push_18 : decode cX7_push 18 = .ok (.sipush 255, 3) := by decide +kernel
theorem dX7_push_21 : decode cX7_push 21 = .ok (.iadd, 1) := by decide +kernel
theorem dX7_push_22 : decode cX7_push 22 = .ok (.sipush 255, 3) := by decide +kernel
theorem dX7_push_25 : decode cX7_push 25 = .ok (.iand, 1) := by decide +kernel
theorem dX7_push_26 : decode cX7_push 26 = .ok (.putfield 57, 3) := by decide +kernel
theorem dX7_push_29 : decode cX7_push 29 = .ok (.return_, 1) := by decide +kernel
set_option maxRecDepth 20000 in
theorem ggX7_pull_X7_read : GoodIn wsX7_pull wsX7_read := goodIn_r _ [6, 7, 8, 9, 10, 11, 5, 12, 13, 14, 15, 16, 17, 18, 19, 20, 21, 22, 23, 24, 25, 26, 27, 28, 29, 30, 31, 32, 33, 34, 35, 36, 37, 38, 39, 40, 41, 42, 43, 44, 45, 46, 47, 48, 49, 50, 51, 52, 53, 54, 55, 56, 57, 58, 59, 60, 61, 62, 63, 64, 65, 66, 67, 68, 69, 70, 71, 72, 73, 74, 75, 76, 77, 78, 79, 80] (by decide +kernel) (by decide +kernel)
set_option maxRecDepth 20000 in
theorem gX7_pull_X7_read : GoodIn wsX7_pull (wsV RX7 161 RX7 yX7_read wsX7_read) := goodIn_app (goodIn_of _ (by decide +kernel)) ggX7_pull_X7_read
theorem dX7_pull_0 : decode cX7_pull 0 = .ok (.aload_n 0, 1) := by decide +kernel
theorem dX7_pull_1 : decode cX7_pull 1 = .ok (.sipush 256, 3) := by decide +kernel
theorem dX7_pull_4 : decode cX7_pull 4 = .ok (.aload_n 0, 1) := by decide +kernel
theorem dX7_pull_5 : decode cX7_pull 5 = .ok (.getfield 57, 3) := by decide +kernel
theorem dX7_pull_8 : decode cX7_pull 8 = .ok (.iadd, 1) := by decide +kernel
theorem dX7_pull_9 : decode cX7_pull 9 = .ok (.invokevirtual 161, 3) := by decide +kernel
theorem dX7_pull_12 : decode cX7_pull 12 = .ok (.istore_n 2, 1) := by decide +kernel
theorem dX7_pull_13 : decode cX7_pull 13 = .ok (.aload_n 0, 1) := by decide +kernel
theorem dX7_pull_14 : decode cX7_pull 14 = .ok (.iload_n 1, 1) := by decide +kernel
theorem dX7_pull_15 : decode cX7_pull 15 = .ok (.ifCond .eq 16, 3) := by decide +kernel
theorem dX7_pull_18 : decode cX7_pull 18 = .ok (.aload_n 0, 1) := by decide +kernel
theorem dX7_pull_19 : decode cX7_pull 19 = .ok (.getfield 57, 3) := by decide +kernel
theorem dX7_pull_22 : decode cX7_pull 22 = .ok (.iconst 1, 1) := by decide +kernel
theorem dX7_pull_23 : decode cX7_pull 23 = .ok (.iadd, 1) := by decide +kernel
theorem dX7_pull_24 : decode cX7_pull 24 = .ok (.sipush 255, 3) := by decide +kernel
theorem dX7_pull_27 : decode cX7_pull 27 = .ok (.iand, 1) := by decide +kernel
theorem dX7_pull_28 : decode cX7_pull 28 = .ok (.goto 7, 3) := by decide +kernel
theorem dX7_pull_31 : decode cX7_pull 31 = .ok (.aload_n 0, 1) := by decide +kernel
theorem dX7_pull_32 : decode cX7_pull 32 = .ok (.getfield 57, 3) := by decide +kernel
theorem dX7_pull_35 : decode cX7_pull 35 = .ok (.putfield 57, 3) := by decide +kernel
theorem dX7_pull_38 : decode cX7_pull 38 = .ok (.iload_n 2, 1) := by decide +kernel
theorem dX7_pull_39 : decode cX7_pull 39 = .ok (.ireturn, 1) := by decide +kernel
theorem dX7_arithmetic_0 : decode cX7_arithmetic 0 = .ok (.iload_n 0, 1) := by decide +kernel
theorem dX7_arithmetic_1 : decode cX7_arithmetic 1 = .ok (.iconst 2, 1) := by decide +kernel
theorem dX7_arithmetic_2 : decode cX7_arithmetic 2 = .ok (.ishr, 1) := by decide +kernel
theorem dX7_arithmetic_3 : decode cX7_arithmetic 3 = .ok (.bipush 7, 2) := by decide +kernel
theorem dX7_arithmetic_5 : decode cX7_arithmetic 5 = .ok (.iand, 1) := by decide +kernel
theorem dX7_arithmetic_6 : decode cX7_arithmetic 6 = .ok (.istore_n 1, 1) := by decide +kernel
theorem dX7_arithmetic_7 : decode cX7_arithmetic 7 = .ok (.iload_n 0, 1) := by decide +kernel
theorem dX7_arithmetic_8 : decode cX7_arithmetic 8 = .ok (.iconst 3, 1) := by decide +kernel
theorem dX7_arithmetic_9 : decode cX7_arithmetic 9 = .ok (.iand, 1) := by decide +kernel
theorem dX7_arithmetic_10 : decode cX7_arithmetic 10 = .ok (.iconst 1, 1) := by decide +kernel
theorem dX7_arithmetic_11 : decode cX7_arithmetic 11 = .ok (.if_icmp .ne 35, 3) := by decide +kernel
theorem dX7_arithmetic_14 : decode cX7_arithmetic 14 = .ok (.iload_n 1, 1) := by decide +kernel
theorem dX7_arithmetic_15 : decode cX7_arithmetic 15 = .ok (.iconst 1, 1) := by decide +kernel
theorem dX7_arithmetic_16 : decode cX7_arithmetic 16 = .ok (.if_icmp .eq 26, 3) := by decide +kernel
theorem dX7_arithmetic_19 : decode cX7_arithmetic 19 = .ok (.iload_n 1, 1) := by decide +kernel
theorem dX7_arithmetic_20 : decode cX7_arithmetic 20 = .ok (.iconst 2, 1) := by decide +kernel
theorem dX7_arithmetic_21 : decode cX7_arithmetic 21 = .ok (.if_icmp .ne 10, 3) := by decide +kernel
theorem dX7_arithmetic_24 : decode cX7_arithmetic 24 = .ok (.iload_n 0, 1) := by decide +kernel
theorem dX7_arithmetic_25 : decode cX7_arithmetic 25 = .ok (.sipush 137, 3) := by decide +kernel
theorem dX7_arithmetic_28 : decode cX7_arithmetic 28 = .ok (.if_icmp .ne 14, 3) := by decide +kernel
theorem dX7_arithmetic_31 : decode cX7_arithmetic 31 = .ok (.iload_n 1, 1) := by decide +kernel
theorem dX7_arithmetic_32 : decode cX7_arithmetic 32 = .ok (.iconst 3, 1) := by decide +kernel
theorem dX7_arithmetic_33 : decode cX7_arithmetic 33 = .ok (.if_icmp .eq 9, 3) := by decide +kernel
theorem dX7_arithmetic_36 : decode cX7_arithmetic 36 = .ok (.iload_n 1, 1) := by decide +kernel
theorem dX7_arithmetic_37 : decode cX7_arithmetic 37 = .ok (.bipush 7, 2) := by decide +kernel
theorem dX7_arithmetic_39 : decode cX7_arithmetic 39 = .ok (.if_icmp .ne 7, 3) := by decide +kernel
theorem dX7_arithmetic_42 : decode cX7_arithmetic 42 = .ok (.iconst 1, 1) := by decide +kernel
theorem dX7_arithmetic_43 : decode cX7_arithmetic 43 = .ok (.goto 4, 3) := by decide +kernel
theorem dX7_arithmetic_46 : decode cX7_arithmetic 46 = .ok (.iconst 0, 1) := by decide +kernel
theorem dX7_arithmetic_47 : decode cX7_arithmetic 47 = .ok (.ireturn, 1) := by decide +kernel
theorem dX7_writes_0 : decode cX7_writes 0 = .ok (.aload_n 0, 1) := by decide +kernel
theorem dX7_writes_1 : decode cX7_writes 1 = .ok (.getfield 148, 3) := by decide +kernel
theorem dX7_writes_4 : decode cX7_writes 4 = .ok (.ifCond .ne 5, 3) := by decide +kernel
theorem dX7_writes_7 : decode cX7_writes 7 = .ok (.iconst 0, 1) := by decide +kernel
theorem dX7_writes_8 : decode cX7_writes 8 = .ok (.ireturn, 1) := by decide +kernel
theorem dX7_writes_9 : decode cX7_writes 9 = .ok (.aload_n 0, 1) := by decide +kernel
theorem dX7_writes_10 : decode cX7_writes 10 = .ok (.getfield 167, 3) := by decide +kernel
theorem dX7_writes_13 : decode cX7_writes 13 = .ok (.sipush 256, 3) := by decide +kernel
theorem dX7_writes_16 : decode cX7_writes 16 = .ok (.if_icmp .ne 25, 3) := by decide +kernel
theorem dX7_writes_19 : decode cX7_writes 19 = .ok (.aload_n 0, 1) := by decide +kernel
theorem dX7_writes_20 : decode cX7_writes 20 = .ok (.getfield 148, 3) := by decide +kernel
theorem dX7_writes_23 : decode cX7_writes 23 = .ok (.iconst 2, 1) := by decide +kernel
theorem dX7_writes_24 : decode cX7_writes 24 = .ok (.if_icmp .lt 15, 3) := by decide +kernel
theorem dX7_writes_27 : decode cX7_writes 27 = .ok (.aload_n 0, 1) := by decide +kernel
theorem dX7_writes_28 : decode cX7_writes 28 = .ok (.getfield 148, 3) := by decide +kernel
theorem dX7_writes_31 : decode cX7_writes 31 = .ok (.iconst 4, 1) := by decide +kernel
theorem dX7_writes_32 : decode cX7_writes 32 = .ok (.if_icmp .gt 7, 3) := by decide +kernel
theorem dX7_writes_35 : decode cX7_writes 35 = .ok (.iconst 1, 1) := by decide +kernel
theorem dX7_writes_36 : decode cX7_writes 36 = .ok (.goto 4, 3) := by decide +kernel
theorem dX7_writes_39 : decode cX7_writes 39 = .ok (.iconst 0, 1) := by decide +kernel
theorem dX7_writes_40 : decode cX7_writes 40 = .ok (.ireturn, 1) := by decide +kernel
theorem dX7_writes_41 : decode cX7_writes 41 = .ok (.aload_n 0, 1) := by decide +kernel
theorem dX7_writes_42 : decode cX7_writes 42 = .ok (.getfield 167, 3) := by decide +kernel
theorem dX7_writes_45 : decode cX7_writes 45 = .ok (.sipush 133, 3) := by decide +kernel
theorem dX7_writes_48 : decode cX7_writes 48 = .ok (.if_icmp .ne 17, 3) := by decide +kernel
theorem dX7_writes_51 : decode cX7_writes 51 = .ok (.aload_n 0, 1) := by decide +kernel
theorem dX7_writes_52 : decode cX7_writes 52 = .ok (.getfield 148, 3) := by decide +kernel
theorem dX7_writes_55 : decode cX7_writes 55 = .ok (.iconst 2, 1) := by decide +kernel
theorem dX7_writes_56 : decode cX7_writes 56 = .ok (.if_icmp .ne 7, 3) := by decide +kernel
theorem dX7_writes_59 : decode cX7_writes 59 = .ok (.iconst 1, 1) := by decide +kernel
theorem dX7_writes_60 : decode cX7_writes 60 = .ok (.goto 4, 3) := by decide +kernel
theorem dX7_writes_63 : decode cX7_writes 63 = .ok (.iconst 0, 1) := by decide +kernel
theorem dX7_writes_64 : decode cX7_writes 64 = .ok (.ireturn, 1) := by decide +kernel
theorem dX7_writes_65 : decode cX7_writes 65 = .ok (.aload_n 0, 1) := by decide +kernel
theorem dX7_writes_66 : decode cX7_writes 66 = .ok (.getfield 167, 3) := by decide +kernel
theorem dX7_writes_69 : decode cX7_writes 69 = .ok (.sipush 141, 3) := by decide +kernel
theorem dX7_writes_72 : decode cX7_writes 72 = .ok (.if_icmp .ne 17, 3) := by decide +kernel
theorem dX7_writes_75 : decode cX7_writes 75 = .ok (.aload_n 0, 1) := by decide +kernel
theorem dX7_writes_76 : decode cX7_writes 76 = .ok (.getfield 148, 3) := by decide +kernel
theorem dX7_writes_79 : decode cX7_writes 79 = .ok (.iconst 3, 1) := by decide +kernel
theorem dX7_writes_80 : decode cX7_writes 80 = .ok (.if_icmp .ne 7, 3) := by decide +kernel
theorem dX7_writes_83 : decode cX7_writes 83 = .ok (.iconst 1, 1) := by decide +kernel
theorem dX7_writes_84 : decode cX7_writes 84 = .ok (.goto 4, 3) := by decide +kernel
theorem dX7_writes_87 : decode cX7_writes 87 = .ok (.iconst 0, 1) := by decide +kernel
theorem dX7_writes_88 : decode cX7_writes 88 = .ok (.ireturn, 1) := by decide +kernel
theorem dX7_writes_89 : decode cX7_writes 89 = .ok (.aload_n 0, 1) := by decide +kernel
theorem dX7_writes_90 : decode cX7_writes 90 = .ok (.getfield 167, 3) := by decide +kernel
theorem dX7_writes_93 : decode cX7_writes 93 = .ok (.sipush 157, 3) := by decide +kernel
theorem dX7_writes_96 : decode cX7_writes 96 = .ok (.if_icmp .ne 17, 3) := by decide +kernel
theorem dX7_writes_99 : decode cX7_writes 99 = .ok (.aload_n 0, 1) := by decide +kernel
theorem dX7_writes_100 : decode cX7_writes 100 = .ok (.getfield 148, 3) := by decide +kernel
theorem dX7_writes_103 : decode cX7_writes 103 = .ok (.iconst 4, 1) := by decide +kernel
theorem dX7_writes_104 : decode cX7_writes 104 = .ok (.if_icmp .ne 7, 3) := by decide +kernel
theorem dX7_writes_107 : decode cX7_writes 107 = .ok (.iconst 1, 1) := by decide +kernel
theorem dX7_writes_108 : decode cX7_writes 108 = .ok (.goto 4, 3) := by decide +kernel
theorem dX7_writes_111 : decode cX7_writes 111 = .ok (.iconst 0, 1) := by decide +kernel
theorem dX7_writes_112 : decode cX7_writes 112 = .ok (.ireturn, 1) := by decide +kernel
theorem dX7_writes_113 : decode cX7_writes 113 = .ok (.aload_n 0, 1) := by decide +kernel
theorem dX7_writes_114 : decode cX7_writes 114 = .ok (.getfield 167, 3) := by decide +kernel
theorem dX7_writes_117 : decode cX7_writes 117 = .ok (.sipush 134, 3) := by decide +kernel
theorem dX7_writes_120 : decode cX7_writes 120 = .ok (.if_icmp .eq 22, 3) := by decide +kernel
theorem dX7_writes_123 : decode cX7_writes 123 = .ok (.aload_n 0, 1) := by decide +kernel
theorem dX7_writes_124 : decode cX7_writes 124 = .ok (.getfield 167, 3) := by decide +kernel
theorem dX7_writes_127 : decode cX7_writes 127 = .ok (.sipush 132, 3) := by decide +kernel
theorem dX7_writes_130 : decode cX7_writes 130 = .ok (.if_icmp .eq 12, 3) := by decide +kernel
theorem dX7_writes_133 : decode cX7_writes 133 = .ok (.aload_n 0, 1) := by decide +kernel
theorem dX7_writes_134 : decode cX7_writes 134 = .ok (.getfield 167, 3) := by decide +kernel
theorem dX7_writes_137 : decode cX7_writes 137 = .ok (.bipush 72, 2) := by decide +kernel
theorem dX7_writes_139 : decode cX7_writes 139 = .ok (.if_icmp .ne 17, 3) := by decide +kernel
theorem dX7_writes_142 : decode cX7_writes 142 = .ok (.aload_n 0, 1) := by decide +kernel
theorem dX7_writes_143 : decode cX7_writes 143 = .ok (.getfield 148, 3) := by decide +kernel
theorem dX7_writes_146 : decode cX7_writes 146 = .ok (.iconst 2, 1) := by decide +kernel
theorem dX7_writes_147 : decode cX7_writes 147 = .ok (.if_icmp .ne 7, 3) := by decide +kernel
theorem dX7_writes_150 : decode cX7_writes 150 = .ok (.iconst 1, 1) := by decide +kernel
theorem dX7_writes_151 : decode cX7_writes 151 = .ok (.goto 4, 3) := by decide +kernel
theorem dX7_writes_154 : decode cX7_writes 154 = .ok (.iconst 0, 1) := by decide +kernel
theorem dX7_writes_155 : decode cX7_writes 155 = .ok (.ireturn, 1) := by decide +kernel
theorem dX7_writes_156 : decode cX7_writes 156 = .ok (.aload_n 0, 1) := by decide +kernel
theorem dX7_writes_157 : decode cX7_writes 157 = .ok (.getfield 167, 3) := by decide +kernel
theorem dX7_writes_160 : decode cX7_writes 160 = .ok (.sipush 230, 3) := by decide +kernel
theorem dX7_writes_163 : decode cX7_writes 163 = .ok (.if_icmp .eq 22, 3) := by decide +kernel
theorem dX7_writes_166 : decode cX7_writes 166 = .ok (.aload_n 0, 1) := by decide +kernel
theorem dX7_writes_167 : decode cX7_writes 167 = .ok (.getfield 167, 3) := by decide +kernel
theorem dX7_writes_170 : decode cX7_writes 170 = .ok (.sipush 198, 3) := by decide +kernel
theorem dX7_writes_173 : decode cX7_writes 173 = .ok (.if_icmp .eq 12, 3) := by decide +kernel
theorem dX7_writes_176 : decode cX7_writes 176 = .ok (.aload_n 0, 1) := by decide +kernel
theorem dX7_writes_177 : decode cX7_writes 177 = .ok (.getfield 167, 3) := by decide +kernel
theorem dX7_writes_180 : decode cX7_writes 180 = .ok (.bipush 32, 2) := by decide +kernel
theorem dX7_writes_182 : decode cX7_writes 182 = .ok (.if_icmp .ne 23, 3) := by decide +kernel
theorem dX7_writes_185 : decode cX7_writes 185 = .ok (.aload_n 0, 1) := by decide +kernel
theorem dX7_writes_186 : decode cX7_writes 186 = .ok (.getfield 148, 3) := by decide +kernel
theorem dX7_writes_189 : decode cX7_writes 189 = .ok (.iconst 3, 1) := by decide +kernel
theorem dX7_writes_190 : decode cX7_writes 190 = .ok (.if_icmp .lt 15, 3) := by decide +kernel
theorem dX7_writes_193 : decode cX7_writes 193 = .ok (.aload_n 0, 1) := by decide +kernel
theorem dX7_writes_194 : decode cX7_writes 194 = .ok (.getfield 148, 3) := by decide +kernel
theorem dX7_writes_197 : decode cX7_writes 197 = .ok (.iconst 4, 1) := by decide +kernel
theorem dX7_writes_198 : decode cX7_writes 198 = .ok (.if_icmp .gt 7, 3) := by decide +kernel
theorem dX7_writes_201 : decode cX7_writes 201 = .ok (.iconst 1, 1) := by decide +kernel
theorem dX7_writes_202 : decode cX7_writes 202 = .ok (.goto 4, 3) := by decide +kernel
theorem dX7_writes_205 : decode cX7_writes 205 = .ok (.iconst 0, 1) := by decide +kernel
theorem dX7_writes_206 : decode cX7_writes 206 = .ok (.ireturn, 1) := by decide +kernel
set_option maxRecDepth 20000 in
theorem ggX7_add_X7_is : GoodIn wsX7_add wsX7_is := goodIn_r _ [8, 1, 17, 18, 19, 20, 21, 22, 23, 24, 25, 26, 27, 28, 29, 30, 31, 32, 33, 34, 35, 36, 37, 38, 39, 40, 41, 42, 43, 44, 45, 46, 47, 48, 49, 50, 51, 52, 53, 54, 55, 56, 57] (by decide +kernel) (by decide +kernel)
set_option maxRecDepth 20000 in
theorem gX7_add_X7_is : GoodIn wsX7_add (wsV RX7 170 RX7 yX7_is wsX7_is) := goodIn_app (goodIn_of _ (by decide +kernel)) ggX7_add_X7_is
set_option maxRecDepth 20000 in
theorem ggX7_add_X7_put : GoodIn wsX7_add wsX7_put := goodIn_r _ [12, 1, 17, 18, 19, 20, 21, 22, 23, 24, 25, 26, 27, 28, 29, 30, 31, 32, 33, 34, 35, 36, 37, 38, 39, 40, 41, 42, 43, 44, 45, 46, 47, 48, 49, 50, 51, 52, 53, 54, 55, 56, 57] (by decide +kernel) (by decide +kernel)
set_option maxRecDepth 20000 in
theorem gX7_add_X7_put : GoodIn wsX7_add (wsV RX7 157 RX7 yX7_put wsX7_put) := goodIn_app (goodIn_of _ (by decide +kernel)) ggX7_add_X7_put
set_option maxRecDepth 20000 in
theorem ggX7_add_X7_judged : GoodIn wsX7_add wsX7_judged := goodIn_r _ [16, 9, 10, 11, 7, 12, 1, 17, 18, 19, 20, 21, 22, 23, 24, 25, 26, 27, 28, 29, 30, 31, 32, 33, 34, 35, 36, 37, 38, 39, 40, 41, 42, 43, 44, 45, 46, 47, 48, 49, 50, 51, 52, 53, 54, 55, 56, 57] (by decide +kernel) (by decide +kernel)
set_option maxRecDepth 20000 in
theorem gX7_add_X7_judged : GoodIn wsX7_add (wsV RX7 173 RX7 yX7_judged wsX7_judged) := goodIn_app (goodIn_of _ (by decide +kernel)) ggX7_add_X7_judged
theorem dX7_add_0 : decode cX7_add 0 = .ok (.aload_n 0, 1) := by decide +kernel
theorem dX7_add_1 : decode cX7_add 1 = .ok (.getfield 60, 3) := by decide +kernel
theorem dX7_add_4 : decode cX7_add 4 = .ok (.iconst 1, 1) := by decide +kernel
theorem dX7_add_5 : decode cX7_add 5 = .ok (.iand, 1) := by decide +kernel
theorem dX7_add_6 : decode cX7_add 6 = .ok (.istore_n 2, 1) := by decide +kernel
theorem dX7_add_7 : decode cX7_add 7 = .ok (.aload_n 0, 1) := by decide +kernel
theorem dX7_add_8 : decode cX7_add 8 = .ok (.getfield 136, 3) := by decide +kernel
theorem dX7_add_11 : decode cX7_add 11 = .ok (.iload_n 1, 1) := by decide +kernel
theorem dX7_add_12 : decode cX7_add 12 = .ok (.iadd, 1) := by decide +kernel
theorem dX7_add_13 : decode cX7_add 13 = .ok (.iload_n 2, 1) := by decide +kernel
theorem dX7_add_14 : decode cX7_add 14 = .ok (.iadd, 1) := by decide +kernel
theorem dX7_add_15 : decode cX7_add 15 = .ok (.istore_n 3, 1) := by decide +kernel
theorem dX7_add_16 : decode cX7_add 16 = .ok (.aload_n 0, 1) := by decide +kernel
theorem dX7_add_17 : decode cX7_add 17 = .ok (.bipush 8, 2) := by decide +kernel
theorem dX7_add_19 : decode cX7_add 19 = .ok (.invokevirtual 170, 3) := by decide +kernel
theorem dX7_add_22 : decode cX7_add 22 = .ok (.ifCond .eq 17, 3) := by decide +kernel
theorem dX7_add_25 : decode cX7_add 25 = .ok (.aload_n 0, 1) := by decide +kernel
theorem dX7_add_26 : decode cX7_add 26 = .ok (.getfield 167, 3) := by decide +kernel
theorem dX7_add_29 : decode cX7_add 29 = .ok (.iconst 5, 1) := by decide +kernel
theorem dX7_add_30 : decode cX7_add 30 = .ok (.ishr, 1) := by decide +kernel
theorem dX7_add_31 : decode cX7_add 31 = .ok (.iconst 3, 1) := by decide +kernel
theorem dX7_add_32 : decode cX7_add 32 = .ok (.if_icmp .ne 7, 3) := by decide +kernel
theorem dX7_add_35 : decode cX7_add 35 = .ok (.iconst 1, 1) := by decide +kernel
theorem dX7_add_36 : decode cX7_add 36 = .ok (.goto 4, 3) := by decide +kernel
theorem dX7_add_39 : decode cX7_add 39 = .ok (.iconst 0, 1) := by decide +kernel
theorem dX7_add_40 : decode cX7_add 40 = .ok (.istore 4, 2) := by decide +kernel
theorem dX7_add_42 : decode cX7_add 42 = .ok (.aload_n 0, 1) := by decide +kernel
theorem dX7_add_43 : decode cX7_add 43 = .ok (.bipush 64, 2) := by decide +kernel
theorem dX7_add_45 : decode cX7_add 45 = .ok (.aload_n 0, 1) := by decide +kernel
theorem dX7_add_46 : decode cX7_add 46 = .ok (.getfield 136, 3) := by decide +kernel
theorem dX7_add_49 : decode cX7_add 49 = .ok (.sipush 128, 3) := by decide +kernel
theorem dX7_add_52 : decode cX7_add 52 = .ok (.iand, 1) := by decide +kernel
theorem dX7_add_53 : decode cX7_add 53 = .ok (.iload_n 1, 1) := by decide +kernel
theorem dX7_add_54 : decode cX7_add 54 = .ok (.sipush 128, 3) := by decide +kernel
theorem dX7_add_57 : decode cX7_add 57 = .ok (.iand, 1) := by decide +kernel
theorem dX7_add_58 : decode cX7_add 58 = .ok (.if_icmp .ne 23, 3) := by decide +kernel
theorem dX7_add_61 : decode cX7_add 61 = .ok (.iload_n 3, 1) := by decide +kernel
theorem dX7_add_62 : decode cX7_add 62 = .ok (.sipush 128, 3) := by decide +kernel
theorem dX7_add_65 : decode cX7_add 65 = .ok (.iand, 1) := by decide +kernel
theorem dX7_add_66 : decode cX7_add 66 = .ok (.aload_n 0, 1) := by decide +kernel
theorem dX7_add_67 : decode cX7_add 67 = .ok (.getfield 136, 3) := by decide +kernel
theorem dX7_add_70 : decode cX7_add 70 = .ok (.sipush 128, 3) := by decide +kernel
theorem dX7_add_73 : decode cX7_add 73 = .ok (.iand, 1) := by decide +kernel
theorem dX7_add_74 : decode cX7_add 74 = .ok (.if_icmp .eq 7, 3) := by decide +kernel
theorem dX7_add_77 : decode cX7_add 77 = .ok (.iconst 1, 1) := by decide +kernel
theorem dX7_add_78 : decode cX7_add 78 = .ok (.goto 4, 3) := by decide +kernel
theorem dX7_add_81 : decode cX7_add 81 = .ok (.iconst 0, 1) := by decide +kernel
theorem dX7_add_82 : decode cX7_add 82 = .ok (.invokevirtual 157, 3) := by decide +kernel
theorem dX7_add_85 : decode cX7_add 85 = .ok (.aload_n 0, 1) := by decide +kernel
theorem dX7_add_86 : decode cX7_add 86 = .ok (.getfield 136, 3) := by decide +kernel
theorem dX7_add_89 : decode cX7_add 89 = .ok (.bipush 15, 2) := by decide +kernel
theorem dX7_add_91 : decode cX7_add 91 = .ok (.iand, 1) := by decide +kernel
theorem dX7_add_92 : decode cX7_add 92 = .ok (.iload_n 1, 1) := by decide +kernel
theorem dX7_add_93 : decode cX7_add 93 = .ok (.bipush 15, 2) := by decide +kernel
theorem dX7_add_95 : decode cX7_add 95 = .ok (.iand, 1) := by decide +kernel
theorem dX7_add_96 : decode cX7_add 96 = .ok (.iadd, 1) := by decide +kernel
theorem dX7_add_97 : decode cX7_add 97 = .ok (.iload_n 2, 1) := by decide +kernel
theorem dX7_add_98 : decode cX7_add 98 = .ok (.iadd, 1) := by decide +kernel
theorem dX7_add_99 : decode cX7_add 99 = .ok (.istore 5, 2) := by decide +kernel
theorem dX7_add_101 : decode cX7_add 101 = .ok (.iload 5, 2) := by decide +kernel
theorem dX7_add_103 : decode cX7_add 103 = .ok (.bipush 9, 2) := by decide +kernel
theorem dX7_add_105 : decode cX7_add 105 = .ok (.if_icmp .le 11, 3) := by decide +kernel
theorem dX7_add_108 : decode cX7_add 108 = .ok (.iload 5, 2) := by decide +kernel
theorem dX7_add_110 : decode cX7_add 110 = .ok (.bipush 6, 2) := by decide +kernel
theorem dX7_add_112 : decode cX7_add 112 = .ok (.iadd, 1) := by decide +kernel
theorem dX7_add_113 : decode cX7_add 113 = .ok (.goto 5, 3) := by decide +kernel
theorem dX7_add_116 : decode cX7_add 116 = .ok (.iload 5, 2) := by decide +kernel
theorem dX7_add_118 : decode cX7_add 118 = .ok (.istore 5, 2) := by decide +kernel
theorem dX7_add_120 : decode cX7_add 120 = .ok (.aload_n 0, 1) := by decide +kernel
theorem dX7_add_121 : decode cX7_add 121 = .ok (.getfield 136, 3) := by decide +kernel
theorem dX7_add_124 : decode cX7_add 124 = .ok (.iconst 4, 1) := by decide +kernel
theorem dX7_add_125 : decode cX7_add 125 = .ok (.ishr, 1) := by decide +kernel
theorem dX7_add_126 : decode cX7_add 126 = .ok (.iload_n 1, 1) := by decide +kernel
theorem dX7_add_127 : decode cX7_add 127 = .ok (.iconst 4, 1) := by decide +kernel
theorem dX7_add_128 : decode cX7_add 128 = .ok (.ishr, 1) := by decide +kernel
theorem dX7_add_129 : decode cX7_add 129 = .ok (.iadd, 1) := by decide +kernel
theorem dX7_add_130 : decode cX7_add 130 = .ok (.iload 5, 2) := by decide +kernel
theorem dX7_add_132 : decode cX7_add 132 = .ok (.bipush 15, 2) := by decide +kernel
theorem dX7_add_134 : decode cX7_add 134 = .ok (.if_icmp .le 7, 3) := by decide +kernel
theorem dX7_add_137 : decode cX7_add 137 = .ok (.iconst 1, 1) := by decide +kernel
theorem dX7_add_138 : decode cX7_add 138 = .ok (.goto 4, 3) := by decide +kernel
theorem dX7_add_141 : decode cX7_add 141 = .ok (.iconst 0, 1) := by decide +kernel
theorem dX7_add_142 : decode cX7_add 142 = .ok (.iadd, 1) := by decide +kernel
theorem dX7_add_143 : decode cX7_add 143 = .ok (.istore 6, 2) := by decide +kernel
theorem dX7_add_145 : decode cX7_add 145 = .ok (.iload 6, 2) := by decide +kernel
theorem dX7_add_147 : decode cX7_add 147 = .ok (.bipush 9, 2) := by decide +kernel
theorem dX7_add_149 : decode cX7_add 149 = .ok (.if_icmp .le 11, 3) := by decide +kernel
theorem dX7_add_152 : decode cX7_add 152 = .ok (.iload 6, 2) := by decide +kernel
theorem dX7_add_154 : decode cX7_add 154 = .ok (.bipush 6, 2) := by decide +kernel
theorem dX7_add_156 : decode cX7_add 156 = .ok (.iadd, 1) := by decide +kernel
theorem dX7_add_157 : decode cX7_add 157 = .ok (.goto 5, 3) := by decide +kernel
theorem dX7_add_160 : decode cX7_add 160 = .ok (.iload 6, 2) := by decide +kernel
theorem dX7_add_162 : decode cX7_add 162 = .ok (.istore 6, 2) := by decide +kernel
theorem dX7_add_164 : decode cX7_add 164 = .ok (.aload_n 0, 1) := by decide +kernel
theorem dX7_add_165 : decode cX7_add 165 = .ok (.aload_n 0, 1) := by decide +kernel
theorem dX7_add_166 : decode cX7_add 166 = .ok (.iload_n 3, 1) := by decide +kernel
theorem dX7_add_167 : decode cX7_add 167 = .ok (.sipush 255, 3) := by decide +kernel
theorem dX7_add_170 : decode cX7_add 170 = .ok (.iand, 1) := by decide +kernel
theorem dX7_add_171 : decode cX7_add 171 = .ok (.invokevirtual 173, 3) := by decide +kernel
theorem dX7_add_174 : decode cX7_add 174 = .ok (.putfield 136, 3) := by decide +kernel
theorem dX7_add_177 : decode cX7_add 177 = .ok (.aload_n 0, 1) := by decide +kernel
theorem dX7_add_178 : decode cX7_add 178 = .ok (.iconst 1, 1) := by decide +kernel
theorem dX7_add_179 : decode cX7_add 179 = .ok (.iload_n 3, 1) := by decide +kernel
theorem dX7_add_180 : decode cX7_add 180 = .ok (.sipush 255, 3) := by decide +kernel
theorem dX7_add_183 : decode cX7_add 183 = .ok (.if_icmp .le 7, 3) := by decide +kernel
theorem dX7_add_186 : decode cX7_add 186 = .ok (.iconst 1, 1) := by decide +kernel
theorem dX7_add_187 : decode cX7_add 187 = .ok (.goto 4, 3) := by decide +kernel
theorem dX7_add_190 : decode cX7_add 190 = .ok (.iconst 0, 1) := by decide +kernel
theorem dX7_add_191 : decode cX7_add 191 = .ok (.invokevirtual 157, 3) := by decide +kernel
theorem dX7_add_194 : decode cX7_add 194 = .ok (.iload 4, 2) := by decide +kernel
theorem dX7_add_196 : decode cX7_add 196 = .ok (.ifCond .eq 38, 3) := by decide +kernel
theorem dX7_add_199 : decode cX7_add 199 = .ok (.aload_n 0, 1) := by decide +kernel
theorem dX7_add_200 : decode cX7_add 200 = .ok (.bipush 16, 2) := by decide +kernel
theorem dX7_add_202 : decode cX7_add 202 = .ok (.iload 6, 2) := by decide +kernel
theorem dX7_add_204 : decode cX7_add 204 = .ok (.bipush 16, 2) := by decide +kernel
theorem dX7_add_206 : decode cX7_add 206 = .ok (.irem, 1) := by decide +kernel
theorem dX7_add_207 : decode cX7_add 207 = .ok (.imul, 1) := by decide +kernel
theorem dX7_add_208 : decode cX7_add 208 = .ok (.iload 5, 2) := by decide +kernel
theorem dX7_add_210 : decode cX7_add 210 = .ok (.bipush 16, 2) := by decide +kernel
theorem dX7_add_212 : decode cX7_add 212 = .ok (.irem, 1) := by decide +kernel
theorem dX7_add_213 : decode cX7_add 213 = .ok (.iadd, 1) := by decide +kernel
theorem dX7_add_214 : decode cX7_add 214 = .ok (.putfield 136, 3) := by decide +kernel
theorem dX7_add_217 : decode cX7_add 217 = .ok (.aload_n 0, 1) := by decide +kernel
theorem dX7_add_218 : decode cX7_add 218 = .ok (.iconst 1, 1) := by decide +kernel
theorem dX7_add_219 : decode cX7_add 219 = .ok (.iload 6, 2) := by decide +kernel
theorem dX7_add_221 : decode cX7_add 221 = .ok (.bipush 15, 2) := by decide +kernel
theorem dX7_add_223 : decode cX7_add 223 = .ok (.if_icmp .le 7, 3) := by decide +kernel
theorem dX7_add_226 : decode cX7_add 226 = .ok (.iconst 1, 1) := by decide +kernel
theorem dX7_add_227 : decode cX7_add 227 = .ok (.goto 4, 3) := by decide +kernel
theorem dX7_add_230 : decode cX7_add 230 = .ok (.iconst 0, 1) := by decide +kernel
theorem dX7_add_231 : decode cX7_add 231 = .ok (.invokevirtual 157, 3) := by decide +kernel
theorem dX7_add_234 : decode cX7_add 234 = .ok (.return_, 1) := by decide +kernel
set_option maxRecDepth 20000 in
theorem ggX7_compare_X7_judged : GoodIn wsX7_compare wsX7_judged := goodIn_r _ [5, 6, 7, 8, 4, 9, 10, 11, 12, 13, 14, 15, 16, 17, 18, 19, 20, 21, 22, 23, 24, 25, 26, 27, 28, 29, 30, 31, 32, 33, 34, 35, 36, 37, 38, 39, 40, 41, 42, 43, 44, 45, 46, 47, 48, 49, 50, 51] (by decide +kernel) (by decide +kernel)
set_option maxRecDepth 20000 in
theorem gX7_compare_X7_judged : GoodIn wsX7_compare (wsV RX7 173 RX7 yX7_judged wsX7_judged) := goodIn_app (goodIn_of _ (by decide +kernel)) ggX7_compare_X7_judged
set_option maxRecDepth 20000 in
theorem ggX7_compare_X7_put : GoodIn wsX7_compare wsX7_put := goodIn_r _ [9, 10, 11, 12, 13, 14, 15, 16, 17, 18, 19, 20, 21, 22, 23, 24, 25, 26, 27, 28, 29, 30, 31, 32, 33, 34, 35, 36, 37, 38, 39, 40, 41, 42, 43, 44, 45, 46, 47, 48, 49, 50, 51] (by decide +kernel) (by decide +kernel)
set_option maxRecDepth 20000 in
theorem gX7_compare_X7_put : GoodIn wsX7_compare (wsV RX7 157 RX7 yX7_put wsX7_put) := goodIn_app (goodIn_of _ (by decide +kernel)) ggX7_compare_X7_put
theorem dX7_compare_0 : decode cX7_compare 0 = .ok (.aload_n 0, 1) := by decide +kernel
theorem dX7_compare_1 : decode cX7_compare 1 = .ok (.iload_n 1, 1) := by decide +kernel
theorem dX7_compare_2 : decode cX7_compare 2 = .ok (.iload_n 2, 1) := by decide +kernel
theorem dX7_compare_3 : decode cX7_compare 3 = .ok (.isub, 1) := by decide +kernel
theorem dX7_compare_4 : decode cX7_compare 4 = .ok (.sipush 255, 3) := by decide +kernel
theorem dX7_compare_7 : decode cX7_compare 7 = .ok (.iand, 1) := by decide +kernel
theorem dX7_compare_8 : decode cX7_compare 8 = .ok (.invokevirtual 173, 3) := by decide +kernel
theorem dX7_compare_11 : decode cX7_compare 11 = .ok (.pop, 1) := by decide +kernel
theorem dX7_compare_12 : decode cX7_compare 12 = .ok (.aload_n 0, 1) := by decide +kernel
theorem dX7_compare_13 : decode cX7_compare 13 = .ok (.iconst 1, 1) := by decide +kernel
theorem dX7_compare_14 : decode cX7_compare 14 = .ok (.iload_n 1, 1) := by decide +kernel
theorem dX7_compare_15 : decode cX7_compare 15 = .ok (.iload_n 2, 1) := by decide +kernel
theorem dX7_compare_16 : decode cX7_compare 16 = .ok (.if_icmp .lt 7, 3) := by decide +kernel
theorem dX7_compare_19 : decode cX7_compare 19 = .ok (.iconst 1, 1) := by decide +kernel
theorem dX7_compare_20 : decode cX7_compare 20 = .ok (.goto 4, 3) := by decide +kernel
theorem dX7_compare_23 : decode cX7_compare 23 = .ok (.iconst 0, 1) := by decide +kernel
theorem dX7_compare_24 : decode cX7_compare 24 = .ok (.invokevirtual 157, 3) := by decide +kernel
theorem dX7_compare_27 : decode cX7_compare 27 = .ok (.return_, 1) := by decide +kernel
set_option maxRecDepth 20000 in
theorem ggX7_operate_X7_judged : GoodIn wsX7_operate wsX7_judged := goodIn_r _ [7, 8, 9, 10, 6, 11, 12, 25, 26, 27, 28, 29, 30, 31, 32, 33, 34, 35, 36, 37, 38, 39, 40, 41, 42, 43, 44, 45, 46, 47, 48, 49, 50, 51, 52, 53, 54, 55, 56, 57, 58, 59, 60, 61, 62, 63, 64, 65] (by decide +kernel) (by decide +kernel)
set_option maxRecDepth 20000 in
theorem gX7_operate_X7_judged : GoodIn wsX7_operate (wsV RX7 173 RX7 yX7_judged wsX7_judged) := goodIn_app (goodIn_of _ (by decide +kernel)) ggX7_operate_X7_judged
set_option maxRecDepth 20000 in
theorem ggX7_operate_X7_add : GoodIn wsX7_operate wsX7_add := goodIn_r _ [16, 12, 2, 1, 17, 18, 19, 6, 20, 8, 9, 10, 11, 3, 4, 5, 7, 25, 26, 27, 28, 29, 30, 31, 32, 33, 34, 35, 36, 37, 38, 39, 40, 41, 42, 43, 44, 45, 46, 47, 48, 49, 50, 51, 52, 53, 54, 55, 56, 57, 58, 59, 60, 61, 62, 63, 64, 65] (by decide +kernel) (by decide +kernel)
set_option maxRecDepth 20000 in
theorem gX7_operate_X7_add : GoodIn wsX7_operate (wsV RX7 176 RX7 yX7_add wsX7_add) := goodIn_app (goodIn_of _ (by decide +kernel)) ggX7_operate_X7_add
set_option maxRecDepth 20000 in
theorem ggX7_operate_X7_compare : GoodIn wsX7_operate wsX7_compare := goodIn_r _ [24, 3, 4, 5, 6, 7, 8, 9, 10, 11, 12, 25, 26, 27, 28, 29, 30, 31, 32, 33, 34, 35, 36, 37, 38, 39, 40, 41, 42, 43, 44, 45, 46, 47, 48, 49, 50, 51, 52, 53, 54, 55, 56, 57, 58, 59, 60, 61, 62, 63, 64, 65] (by decide +kernel) (by decide +kernel)
set_option maxRecDepth 20000 in
theorem gX7_operate_X7_compare : GoodIn wsX7_operate (wsV RX7 179 RX7 yX7_compare wsX7_compare) := goodIn_app (goodIn_of _ (by decide +kernel)) ggX7_operate_X7_compare
theorem dX7_operate_0 : decode cX7_operate 0 = .ok (.aload_n 0, 1) := by decide +kernel
theorem dX7_operate_1 : decode cX7_operate 1 = .ok (.getfield 167, 3) := by decide +kernel
theorem dX7_operate_4 : decode cX7_operate 4 = .ok (.iconst 5, 1) := by decide +kernel
theorem dX7_operate_5 : decode cX7_operate 5 = .ok (.ishr, 1) := by decide +kernel
theorem dX7_operate_6 : decode cX7_operate 6 = .ok (.istore_n 2, 1) := by decide +kernel
theorem dX7_operate_7 : decode cX7_operate 7 = .ok (.iload_n 2, 1) := by decide +kernel
theorem dX7_operate_8 : decode cX7_operate 8 = .ok (.ifCond .ne 17, 3) := by decide +kernel
theorem dX7_operate_11 : decode cX7_operate 11 = .ok (.aload_n 0, 1) := by decide +kernel
theorem dX7_operate_12 : decode cX7_operate 12 = .ok (.aload_n 0, 1) := by decide +kernel
theorem dX7_operate_13 : decode cX7_operate 13 = .ok (.aload_n 0, 1) := by decide +kernel
theorem dX7_operate_14 : decode cX7_operate 14 = .ok (.getfield 136, 3) := by decide +kernel
theorem dX7_operate_17 : decode cX7_operate 17 = .ok (.iload_n 1, 1) := by decide +kernel
theorem dX7_operate_18 : decode cX7_operate 18 = .ok (.ior, 1) := by decide +kernel
theorem dX7_operate_19 : decode cX7_operate 19 = .ok (.invokevirtual 173, 3) := by decide +kernel
theorem dX7_operate_22 : decode cX7_operate 22 = .ok (.putfield 136, 3) := by decide +kernel
theorem dX7_operate_25 : decode cX7_operate 25 = .ok (.iload_n 2, 1) := by decide +kernel
theorem dX7_operate_26 : decode cX7_operate 26 = .ok (.iconst 1, 1) := by decide +kernel
theorem dX7_operate_27 : decode cX7_operate 27 = .ok (.if_icmp .ne 17, 3) := by decide +kernel
theorem dX7_operate_30 : decode cX7_operate 30 = .ok (.aload_n 0, 1) := by decide +kernel
theorem dX7_operate_31 : decode cX7_operate 31 = .ok (.aload_n 0, 1) := by decide +kernel
theorem dX7_operate_32 : decode cX7_operate 32 = .ok (.aload_n 0, 1) := by decide +kernel
theorem dX7_operate_33 : decode cX7_operate 33 = .ok (.getfield 136, 3) := by decide +kernel
theorem dX7_operate_36 : decode cX7_operate 36 = .ok (.iload_n 1, 1) := by decide +kernel
theorem dX7_operate_37 : decode cX7_operate 37 = .ok (.iand, 1) := by decide +kernel
theorem dX7_operate_38 : decode cX7_operate 38 = .ok (.invokevirtual 173, 3) := by decide +kernel
theorem dX7_operate_41 : decode cX7_operate 41 = .ok (.putfield 136, 3) := by decide +kernel
theorem dX7_operate_44 : decode cX7_operate 44 = .ok (.iload_n 2, 1) := by decide +kernel
theorem dX7_operate_45 : decode cX7_operate 45 = .ok (.iconst 2, 1) := by decide +kernel
theorem dX7_operate_46 : decode cX7_operate 46 = .ok (.if_icmp .ne 17, 3) := by decide +kernel
theorem dX7_operate_49 : decode cX7_operate 49 = .ok (.aload_n 0, 1) := by decide +kernel
theorem dX7_operate_50 : decode cX7_operate 50 = .ok (.aload_n 0, 1) := by decide +kernel
theorem dX7_operate_51 : decode cX7_operate 51 = .ok (.aload_n 0, 1) := by decide +kernel
theorem dX7_operate_52 : decode cX7_operate 52 = .ok (.getfield 136, 3) := by decide +kernel
theorem dX7_operate_55 : decode cX7_operate 55 = .ok (.iload_n 1, 1) := by decide +kernel
theorem dX7_operate_56 : decode cX7_operate 56 = .ok (.ixor, 1) := by decide +kernel
theorem dX7_operate_57 : decode cX7_operate 57 = .ok (.invokevirtual 173, 3) := by decide +kernel
theorem dX7_operate_60 : decode cX7_operate 60 = .ok (.putfield 136, 3) := by decide +kernel
theorem dX7_operate_63 : decode cX7_operate 63 = .ok (.iload_n 2, 1) := by decide +kernel
theorem dX7_operate_64 : decode cX7_operate 64 = .ok (.iconst 3, 1) := by decide +kernel
theorem dX7_operate_65 : decode cX7_operate 65 = .ok (.if_icmp .ne 8, 3) := by decide +kernel
theorem dX7_operate_68 : decode cX7_operate 68 = .ok (.aload_n 0, 1) := by decide +kernel
theorem dX7_operate_69 : decode cX7_operate 69 = .ok (.iload_n 1, 1) := by decide +kernel
theorem dX7_operate_70 : decode cX7_operate 70 = .ok (.invokevirtual 176, 3) := by decide +kernel
theorem dX7_operate_73 : decode cX7_operate 73 = .ok (.iload_n 2, 1) := by decide +kernel
theorem dX7_operate_74 : decode cX7_operate 74 = .ok (.iconst 5, 1) := by decide +kernel
theorem dX7_operate_75 : decode cX7_operate 75 = .ok (.if_icmp .ne 12, 3) := by decide +kernel
theorem dX7_operate_78 : decode cX7_operate 78 = .ok (.aload_n 0, 1) := by decide +kernel
theorem dX7_operate_79 : decode cX7_operate 79 = .ok (.aload_n 0, 1) := by decide +kernel
theorem dX7_operate_80 : decode cX7_operate 80 = .ok (.iload_n 1, 1) := by decide +kernel
theorem dX7_operate_81 : decode cX7_operate 81 = .ok (.invokevirtual 173, 3) := by decide +kernel
theorem dX7_operate_84 : decode cX7_operate 84 = .ok (.putfield 136, 3) := by decide +kernel
theorem dX7_operate_87 : decode cX7_operate 87 = .ok (.iload_n 2, 1) := by decide +kernel
theorem dX7_operate_88 : decode cX7_operate 88 = .ok (.bipush 6, 2) := by decide +kernel
theorem dX7_operate_90 : decode cX7_operate 90 = .ok (.if_icmp .ne 12, 3) := by decide +kernel
theorem dX7_operate_93 : decode cX7_operate 93 = .ok (.aload_n 0, 1) := by decide +kernel
theorem dX7_operate_94 : decode cX7_operate 94 = .ok (.aload_n 0, 1) := by decide +kernel
theorem dX7_operate_95 : decode cX7_operate 95 = .ok (.getfield 136, 3) := by decide +kernel
theorem dX7_operate_98 : decode cX7_operate 98 = .ok (.iload_n 1, 1) := by decide +kernel
theorem dX7_operate_99 : decode cX7_operate 99 = .ok (.invokevirtual 179, 3) := by decide +kernel
theorem dX7_operate_102 : decode cX7_operate 102 = .ok (.iload_n 2, 1) := by decide +kernel
theorem dX7_operate_103 : decode cX7_operate 103 = .ok (.bipush 7, 2) := by decide +kernel
theorem dX7_operate_105 : decode cX7_operate 105 = .ok (.if_icmp .ne 12, 3) := by decide +kernel
theorem dX7_operate_108 : decode cX7_operate 108 = .ok (.aload_n 0, 1) := by decide +kernel
theorem dX7_operate_109 : decode cX7_operate 109 = .ok (.sipush 255, 3) := by decide +kernel
theorem dX7_operate_112 : decode cX7_operate 112 = .ok (.iload_n 1, 1) := by decide +kernel
theorem dX7_operate_113 : decode cX7_operate 113 = .ok (.isub, 1) := by decide +kernel
theorem dX7_operate_114 : decode cX7_operate 114 = .ok (.invokevirtual 176, 3) := by decide +kernel
theorem dX7_operate_117 : decode cX7_operate 117 = .ok (.return_, 1) := by decide +kernel
set_option maxRecDepth 20000 in
theorem ggX7_operand_X7_write : GoodIn wsX7_operand wsX7_write := goodIn_r _ [8, 9, 10, 11, 12, 13, 14, 15, 7, 16, 17, 18, 19, 20, 21, 22, 23, 24, 25, 26, 27, 28, 29, 77, 78, 79, 80, 81, 82, 83, 84, 85, 86, 87, 88, 89, 90, 91, 92, 93, 94, 95, 96, 97, 98, 99, 100, 101, 102, 103, 104, 105, 106, 107, 108, 109, 110, 111, 112, 113, 114, 115, 116, 117] (by decide +kernel) (by decide +kernel)
set_option maxRecDepth 20000 in
theorem gX7_operand_X7_write : GoodIn wsX7_operand (wsV RX7 164 RX7 yX7_write wsX7_write) := goodIn_app (goodIn_of _ (by decide +kernel)) ggX7_operand_X7_write
set_option maxRecDepth 20000 in
theorem ggX7_operand_X7_read : GoodIn wsX7_operand wsX7_read := goodIn_r _ [33, 9, 10, 13, 14, 15, 7, 16, 11, 34, 35, 36, 37, 38, 22, 21, 29, 23, 26, 27, 39, 28, 40, 41, 42, 43, 44, 45, 46, 47, 48, 49, 50, 51, 12, 77, 78, 79, 80, 81, 82, 83, 84, 85, 86, 87, 88, 89, 90, 91, 92, 93, 94, 95, 96, 97, 98, 99, 100, 101, 102, 103, 104, 105, 106, 107, 108, 109, 110, 111, 112, 113, 114, 115, 116, 117] (by decide +kernel) (by decide +kernel)
set_option maxRecDepth 20000 in
theorem gX7_operand_X7_read : GoodIn wsX7_operand (wsV RX7 161 RX7 yX7_read wsX7_read) := goodIn_app (goodIn_of _ (by decide +kernel)) ggX7_operand_X7_read
set_option maxRecDepth 20000 in
theorem ggX7_operand_X7_operate : GoodIn wsX7_operand wsX7_operate := goodIn_r _ [55, 1, 2, 56, 57, 58, 7, 59, 60, 61, 62, 63, 64, 65, 66, 67, 68, 69, 70, 71, 72, 73, 74, 75, 76, 77, 78, 79, 80, 81, 82, 83, 84, 85, 86, 87, 88, 89, 90, 91, 92, 93, 94, 95, 96, 97, 98, 99, 100, 101, 102, 103, 104, 105, 106, 107, 108, 109, 110, 111, 112, 113, 114, 115, 116, 117] (by decide +kernel) (by decide +kernel)
set_option maxRecDepth 20000 in
theorem gX7_operand_X7_operate : GoodIn wsX7_operand (wsV RX7 182 RX7 yX7_operate wsX7_operate) := goodIn_app (goodIn_of _ (by decide +kernel)) ggX7_operand_X7_operate
theorem dX7_operand_0 : decode cX7_operand 0 = .ok (.aload_n 0, 1) := by decide +kernel
theorem dX7_operand_1 : decode cX7_operand 1 = .ok (.getfield 167, 3) := by decide +kernel
theorem dX7_operand_4 : decode cX7_operand 4 = .ok (.iconst 5, 1) := by decide +kernel
theorem dX7_operand_5 : decode cX7_operand 5 = .ok (.ishr, 1) := by decide +kernel
theorem dX7_operand_6 : decode cX7_operand 6 = .ok (.iconst 4, 1) := by decide +kernel
theorem dX7_operand_7 : decode cX7_operand 7 = .ok (.if_icmp .ne 15, 3) := by decide +kernel
theorem dX7_operand_10 : decode cX7_operand 10 = .ok (.aload_n 0, 1) := by decide +kernel
theorem dX7_operand_11 : decode cX7_operand 11 = .ok (.iload_n 1, 1) := by decide +kernel
theorem dX7_operand_12 : decode cX7_operand 12 = .ok (.aload_n 0, 1) := by decide +kernel
theorem dX7_operand_13 : decode cX7_operand 13 = .ok (.getfield 136, 3) := by decide +kernel
theorem dX7_operand_16 : decode cX7_operand 16 = .ok (.invokevirtual 164, 3) := by decide +kernel
theorem dX7_operand_19 : decode cX7_operand 19 = .ok (.goto 14, 3) := by decide +kernel
theorem dX7_operand_22 : decode cX7_operand 22 = .ok (.aload_n 0, 1) := by decide +kernel
theorem dX7_operand_23 : decode cX7_operand 23 = .ok (.iload_n 1, 1) := by decide +kernel
theorem dX7_operand_24 : decode cX7_operand 24 = .ok (.invokevirtual 161, 3) := by decide +kernel
theorem dX7_operand_27 : decode cX7_operand 27 = .ok (.istore_n 2, 1) := by decide +kernel
theorem dX7_operand_28 : decode cX7_operand 28 = .ok (.aload_n 0, 1) := by decide +kernel
theorem dX7_operand_29 : decode cX7_operand 29 = .ok (.iload_n 2, 1) := by decide +kernel
theorem dX7_operand_30 : decode cX7_operand 30 = .ok (.invokevirtual 182, 3) := by decide +kernel
theorem dX7_operand_33 : decode cX7_operand 33 = .ok (.aload_n 0, 1) := by decide +kernel
theorem dX7_operand_34 : decode cX7_operand 34 = .ok (.iconst 0, 1) := by decide +kernel
theorem dX7_operand_35 : decode cX7_operand 35 = .ok (.putfield 148, 3) := by decide +kernel
theorem dX7_operand_38 : decode cX7_operand 38 = .ok (.return_, 1) := by decide +kernel
set_option maxRecDepth 20000 in
theorem ggX7_arithmeticStep_X7_next : GoodIn wsX7_arithmeticStep wsX7_next := goodIn_r _ [11, 12, 13, 14, 15, 16, 10, 17, 18, 19, 20, 21, 22, 23, 24, 25, 26, 27, 28, 29, 30, 31, 32, 33, 34, 35, 36, 37, 38, 39, 40, 41, 42, 43, 44, 45, 46, 47, 48, 49, 50, 91, 92, 93, 94, 95, 96, 97, 98, 99, 100, 101, 102, 103, 104, 105, 106, 107, 108, 109, 110, 111, 112, 113, 114, 115, 116, 117, 118, 119, 120, 121, 122, 123, 124, 125, 126, 127, 128, 129, 130, 131] (by decide +kernel) (by decide +kernel)
set_option maxRecDepth 20000 in
theorem gX7_arithmeticStep_X7_next : GoodIn wsX7_arithmeticStep (wsV RX7 185 RX7 yX7_next wsX7_next) := goodIn_app (goodIn_of _ (by decide +kernel)) ggX7_arithmeticStep_X7_next
set_option maxRecDepth 20000 in
theorem ggX7_arithmeticStep_X7_operate : GoodIn wsX7_arithmeticStep wsX7_operate := goodIn_r _ [54, 1, 55, 56, 57, 58, 10, 59, 60, 61, 62, 63, 64, 65, 66, 67, 68, 69, 70, 71, 72, 73, 74, 75, 76, 91, 92, 93, 94, 95, 96, 97, 98, 99, 100, 101, 102, 103, 104, 105, 106, 107, 108, 109, 110, 111, 112, 113, 114, 115, 116, 117, 118, 119, 120, 121, 122, 123, 124, 125, 126, 127, 128, 129, 130, 131] (by decide +kernel) (by decide +kernel)
set_option maxRecDepth 20000 in
theorem gX7_arithmeticStep_X7_operate : GoodIn wsX7_arithmeticStep (wsV RX7 182 RX7 yX7_operate wsX7_operate) := goodIn_app (goodIn_of _ (by decide +kernel)) ggX7_arithmeticStep_X7_operate
set_option maxRecDepth 20000 in
theorem ggX7_arithmeticStep_X7_operand : GoodIn wsX7_arithmeticStep wsX7_operand := goodIn_r _ [80, 1, 55, 2, 81, 82, 83, 10, 84, 18, 19, 24, 50, 20, 21, 22, 23, 85, 86, 87, 88, 31, 30, 33, 89, 90, 34, 35, 37, 32, 14, 15, 16, 17, 25, 26, 27, 28, 29, 36, 38, 39, 40, 41, 42, 43, 44, 45, 46, 47, 48, 49, 51, 52, 53, 54, 56, 57, 58, 59, 60, 61, 62, 63, 64, 65, 66, 67, 68, 69, 70, 71, 72, 73, 74, 75, 76, 91, 92, 93, 94, 95, 96, 97, 98, 99, 100, 101, 102, 103, 104, 105, 106, 107, 108, 109, 110, 111, 112, 113, 114, 115, 116, 117, 118, 119, 120, 121, 122, 123, 124, 125, 126, 127, 128, 129, 130, 131] (by decide +kernel) (by decide +kernel)
set_option maxRecDepth 20000 in
theorem gX7_arithmeticStep_X7_operand : GoodIn wsX7_arithmeticStep (wsV RX7 191 RX7 yX7_operand wsX7_operand) := goodIn_app (goodIn_of _ (by decide +kernel)) ggX7_arithmeticStep_X7_operand
set_option maxRecDepth 20000 in
theorem ggX7_arithmeticStep_X7_read : GoodIn wsX7_arithmeticStep wsX7_read := goodIn_r _ [17, 18, 19, 20, 21, 22, 10, 23, 24, 25, 26, 27, 28, 29, 30, 31, 32, 33, 34, 35, 36, 37, 38, 39, 40, 41, 42, 43, 44, 45, 46, 47, 48, 49, 50, 91, 92, 93, 94, 95, 96, 97, 98, 99, 100, 101, 102, 103, 104, 105, 106, 107, 108, 109, 110, 111, 112, 113, 114, 115, 116, 117, 118, 119, 120, 121, 122, 123, 124, 125, 126, 127, 128, 129, 130, 131] (by decide +kernel) (by decide +kernel)
set_option maxRecDepth 20000 in
theorem gX7_arithmeticStep_X7_read : GoodIn wsX7_arithmeticStep (wsV RX7 161 RX7 yX7_read wsX7_read) := goodIn_app (goodIn_of _ (by decide +kernel)) ggX7_arithmeticStep_X7_read
theorem dX7_arithmeticStep_0 : decode cX7_arithmeticStep 0 = .ok (.aload_n 0, 1) := by decide +kernel
theorem dX7_arithmeticStep_1 : decode cX7_arithmeticStep 1 = .ok (.getfield 167, 3) := by decide +kernel
theorem dX7_arithmeticStep_4 : decode cX7_arithmeticStep 4 = .ok (.iconst 2, 1) := by decide +kernel
theorem dX7_arithmeticStep_5 : decode cX7_arithmeticStep 5 = .ok (.ishr, 1) := by decide +kernel
theorem dX7_arithmeticStep_6 : decode cX7_arithmeticStep 6 = .ok (.bipush 7, 2) := by decide +kernel
theorem dX7_arithmeticStep_8 : decode cX7_arithmeticStep 8 = .ok (.iand, 1) := by decide +kernel
theorem dX7_arithmeticStep_9 : decode cX7_arithmeticStep 9 = .ok (.istore_n 1, 1) := by decide +kernel
theorem dX7_arithmeticStep_10 : decode cX7_arithmeticStep 10 = .ok (.aload_n 0, 1) := by decide +kernel
theorem dX7_arithmeticStep_11 : decode cX7_arithmeticStep 11 = .ok (.getfield 148, 3) := by decide +kernel
theorem dX7_arithmeticStep_14 : decode cX7_arithmeticStep 14 = .ok (.iconst 1, 1) := by decide +kernel
theorem dX7_arithmeticStep_15 : decode cX7_arithmeticStep 15 = .ok (.if_icmp .ne 37, 3) := by decide +kernel
theorem dX7_arithmeticStep_18 : decode cX7_arithmeticStep 18 = .ok (.aload_n 0, 1) := by decide +kernel
theorem dX7_arithmeticStep_19 : decode cX7_arithmeticStep 19 = .ok (.aload_n 0, 1) := by decide +kernel
theorem dX7_arithmeticStep_20 : decode cX7_arithmeticStep 20 = .ok (.invokevirtual 185, 3) := by decide +kernel
theorem dX7_arithmeticStep_23 : decode cX7_arithmeticStep 23 = .ok (.putfield 188, 3) := by decide +kernel
theorem dX7_arithmeticStep_26 : decode cX7_arithmeticStep 26 = .ok (.aload_n 0, 1) := by decide +kernel
theorem dX7_arithmeticStep_27 : decode cX7_arithmeticStep 27 = .ok (.iconst 2, 1) := by decide +kernel
theorem dX7_arithmeticStep_28 : decode cX7_arithmeticStep 28 = .ok (.putfield 148, 3) := by decide +kernel
theorem dX7_arithmeticStep_31 : decode cX7_arithmeticStep 31 = .ok (.iload_n 1, 1) := by decide +kernel
theorem dX7_arithmeticStep_32 : decode cX7_arithmeticStep 32 = .ok (.iconst 2, 1) := by decide +kernel
theorem dX7_arithmeticStep_33 : decode cX7_arithmeticStep 33 = .ok (.if_icmp .ne 179, 3) := by decide +kernel
theorem dX7_arithmeticStep_36 : decode cX7_arithmeticStep 36 = .ok (.aload_n 0, 1) := by decide +kernel
theorem dX7_arithmeticStep_37 : decode cX7_arithmeticStep 37 = .ok (.aload_n 0, 1) := by decide +kernel
theorem dX7_arithmeticStep_38 : decode cX7_arithmeticStep 38 = .ok (.getfield 188, 3) := by decide +kernel
theorem dX7_arithmeticStep_41 : decode cX7_arithmeticStep 41 = .ok (.invokevirtual 182, 3) := by decide +kernel
theorem dX7_arithmeticStep_44 : decode cX7_arithmeticStep 44 = .ok (.aload_n 0, 1) := by decide +kernel
theorem dX7_arithmeticStep_45 : decode cX7_arithmeticStep 45 = .ok (.iconst 0, 1) := by decide +kernel
theorem dX7_arithmeticStep_46 : decode cX7_arithmeticStep 46 = .ok (.putfield 148, 3) := by decide +kernel
theorem dX7_arithmeticStep_49 : decode cX7_arithmeticStep 49 = .ok (.goto 163, 3) := by decide +kernel
theorem dX7_arithmeticStep_52 : decode cX7_arithmeticStep 52 = .ok (.iload_n 1, 1) := by decide +kernel
theorem dX7_arithmeticStep_53 : decode cX7_arithmeticStep 53 = .ok (.iconst 1, 1) := by decide +kernel
theorem dX7_arithmeticStep_54 : decode cX7_arithmeticStep 54 = .ok (.if_icmp .ne 14, 3) := by decide +kernel
theorem dX7_arithmeticStep_57 : decode cX7_arithmeticStep 57 = .ok (.aload_n 0, 1) := by decide +kernel
theorem dX7_arithmeticStep_58 : decode cX7_arithmeticStep 58 = .ok (.aload_n 0, 1) := by decide +kernel
theorem dX7_arithmeticStep_59 : decode cX7_arithmeticStep 59 = .ok (.getfield 188, 3) := by decide +kernel
theorem dX7_arithmeticStep_62 : decode cX7_arithmeticStep 62 = .ok (.invokevirtual 191, 3) := by decide +kernel
theorem dX7_arithmeticStep_65 : decode cX7_arithmeticStep 65 = .ok (.goto 147, 3) := by decide +kernel
theorem dX7_arithmeticStep_68 : decode cX7_arithmeticStep 68 = .ok (.aload_n 0, 1) := by decide +kernel
theorem dX7_arithmeticStep_69 : decode cX7_arithmeticStep 69 = .ok (.getfield 148, 3) := by decide +kernel
theorem dX7_arithmeticStep_72 : decode cX7_arithmeticStep 72 = .ok (.iconst 2, 1) := by decide +kernel
theorem dX7_arithmeticStep_73 : decode cX7_arithmeticStep 73 = .ok (.if_icmp .ne 19, 3) := by decide +kernel
theorem dX7_arithmeticStep_76 : decode cX7_arithmeticStep 76 = .ok (.aload_n 0, 1) := by decide +kernel
theorem dX7_arithmeticStep_77 : decode cX7_arithmeticStep 77 = .ok (.aload_n 0, 1) := by decide +kernel
theorem dX7_arithmeticStep_78 : decode cX7_arithmeticStep 78 = .ok (.invokevirtual 185, 3) := by decide +kernel
theorem dX7_arithmeticStep_81 : decode cX7_arithmeticStep 81 = .ok (.putfield 194, 3) := by decide +kernel
theorem dX7_arithmeticStep_84 : decode cX7_arithmeticStep 84 = .ok (.aload_n 0, 1) := by decide +kernel
theorem dX7_arithmeticStep_85 : decode cX7_arithmeticStep 85 = .ok (.iconst 3, 1) := by decide +kernel
theorem dX7_arithmeticStep_86 : decode cX7_arithmeticStep 86 = .ok (.putfield 148, 3) := by decide +kernel
theorem dX7_arithmeticStep_89 : decode cX7_arithmeticStep 89 = .ok (.goto 123, 3) := by decide +kernel
theorem dX7_arithmeticStep_92 : decode cX7_arithmeticStep 92 = .ok (.iload_n 1, 1) := by decide +kernel
theorem dX7_arithmeticStep_93 : decode cX7_arithmeticStep 93 = .ok (.iconst 3, 1) := by decide +kernel
theorem dX7_arithmeticStep_94 : decode cX7_arithmeticStep 94 = .ok (.if_icmp .ne 23, 3) := by decide +kernel
theorem dX7_arithmeticStep_97 : decode cX7_arithmeticStep 97 = .ok (.aload_n 0, 1) := by decide +kernel
theorem dX7_arithmeticStep_98 : decode cX7_arithmeticStep 98 = .ok (.aload_n 0, 1) := by decide +kernel
theorem dX7_arithmeticStep_99 : decode cX7_arithmeticStep 99 = .ok (.getfield 188, 3) := by decide +kernel
theorem dX7_arithmeticStep_102 : decode cX7_arithmeticStep 102 = .ok (.sipush 256, 3) := by decide +kernel
theorem dX7_arithmeticStep_105 : decode cX7_arithmeticStep 105 = .ok (.aload_n 0, 1) := by decide +kernel
theorem dX7_arithmeticStep_106 : decode cX7_arithmeticStep 106 = .ok (.getfield 194, 3) := by decide +kernel
theorem dX7_arithmeticStep_109 : decode cX7_arithmeticStep 109 = .ok (.imul, 1) := by decide +kernel
theorem dX7_arithmeticStep_110 : decode cX7_arithmeticStep 110 = .ok (.iadd, 1) := by decide +kernel
theorem dX7_arithmeticStep_111 : decode cX7_arithmeticStep 111 = .ok (.invokevirtual 191, 3) := by decide +kernel
theorem dX7_arithmeticStep_114 : decode cX7_arithmeticStep 114 = .ok (.goto 98, 3) := by decide +kernel
theorem dX7_arithmeticStep_117 : decode cX7_arithmeticStep 117 = .ok (.aload_n 0, 1) := by decide +kernel
theorem dX7_arithmeticStep_118 : decode cX7_arithmeticStep 118 = .ok (.getfield 148, 3) := by decide +kernel
theorem dX7_arithmeticStep_121 : decode cX7_arithmeticStep 121 = .ok (.iconst 3, 1) := by decide +kernel
theorem dX7_arithmeticStep_122 : decode cX7_arithmeticStep 122 = .ok (.if_icmp .ne 68, 3) := by decide +kernel
theorem dX7_arithmeticStep_125 : decode cX7_arithmeticStep 125 = .ok (.aload_n 0, 1) := by decide +kernel
theorem dX7_arithmeticStep_126 : decode cX7_arithmeticStep 126 = .ok (.getfield 188, 3) := by decide +kernel
theorem dX7_arithmeticStep_129 : decode cX7_arithmeticStep 129 = .ok (.aload_n 0, 1) := by decide +kernel
theorem dX7_arithmeticStep_130 : decode cX7_arithmeticStep 130 = .ok (.getfield 139, 3) := by decide +kernel
theorem dX7_arithmeticStep_133 : decode cX7_arithmeticStep 133 = .ok (.iadd, 1) := by decide +kernel
theorem dX7_arithmeticStep_134 : decode cX7_arithmeticStep 134 = .ok (.sipush 255, 3) := by decide +kernel
theorem dX7_arithmeticStep_137 : decode cX7_arithmeticStep 137 = .ok (.if_icmp .gt 13, 3) := by decide +kernel
theorem dX7_arithmeticStep_140 : decode cX7_arithmeticStep 140 = .ok (.aload_n 0, 1) := by decide +kernel
theorem dX7_arithmeticStep_141 : decode cX7_arithmeticStep 141 = .ok (.getfield 167, 3) := by decide +kernel
theorem dX7_arithmeticStep_144 : decode cX7_arithmeticStep 144 = .ok (.sipush 157, 3) := by decide +kernel
theorem dX7_arithmeticStep_147 : decode cX7_arithmeticStep 147 = .ok (.if_icmp .ne 43, 3) := by decide +kernel
theorem dX7_arithmeticStep_150 : decode cX7_arithmeticStep 150 = .ok (.aload_n 0, 1) := by decide +kernel
theorem dX7_arithmeticStep_151 : decode cX7_arithmeticStep 151 = .ok (.aload_n 0, 1) := by decide +kernel
theorem dX7_arithmeticStep_152 : decode cX7_arithmeticStep 152 = .ok (.getfield 188, 3) := by decide +kernel
theorem dX7_arithmeticStep_155 : decode cX7_arithmeticStep 155 = .ok (.aload_n 0, 1) := by decide +kernel
theorem dX7_arithmeticStep_156 : decode cX7_arithmeticStep 156 = .ok (.getfield 139, 3) := by decide +kernel
theorem dX7_arithmeticStep_159 : decode cX7_arithmeticStep 159 = .ok (.iadd, 1) := by decide +kernel
theorem dX7_arithmeticStep_160 : decode cX7_arithmeticStep 160 = .ok (.sipush 255, 3) := by decide +kernel
theorem dX7_arithmeticStep_163 : decode cX7_arithmeticStep 163 = .ok (.iand, 1) := by decide +kernel
theorem dX7_arithmeticStep_164 : decode cX7_arithmeticStep 164 = .ok (.sipush 256, 3) := by decide +kernel
theorem dX7_arithmeticStep_167 : decode cX7_arithmeticStep 167 = .ok (.aload_n 0, 1) := by decide +kernel
theorem dX7_arithmeticStep_168 : decode cX7_arithmeticStep 168 = .ok (.getfield 194, 3) := by decide +kernel
theorem dX7_arithmeticStep_171 : decode cX7_arithmeticStep 171 = .ok (.imul, 1) := by decide +kernel
theorem dX7_arithmeticStep_172 : decode cX7_arithmeticStep 172 = .ok (.iadd, 1) := by decide +kernel
theorem dX7_arithmeticStep_173 : decode cX7_arithmeticStep 173 = .ok (.invokevirtual 161, 3) := by decide +kernel
theorem dX7_arithmeticStep_176 : decode cX7_arithmeticStep 176 = .ok (.istore_n 2, 1) := by decide +kernel
theorem dX7_arithmeticStep_177 : decode cX7_arithmeticStep 177 = .ok (.aload_n 0, 1) := by decide +kernel
theorem dX7_arithmeticStep_178 : decode cX7_arithmeticStep 178 = .ok (.iload_n 2, 1) := by decide +kernel
theorem dX7_arithmeticStep_179 : decode cX7_arithmeticStep 179 = .ok (.putfield 197, 3) := by decide +kernel
theorem dX7_arithmeticStep_182 : decode cX7_arithmeticStep 182 = .ok (.aload_n 0, 1) := by decide +kernel
theorem dX7_arithmeticStep_183 : decode cX7_arithmeticStep 183 = .ok (.iconst 4, 1) := by decide +kernel
theorem dX7_arithmeticStep_184 : decode cX7_arithmeticStep 184 = .ok (.putfield 148, 3) := by decide +kernel
theorem dX7_arithmeticStep_187 : decode cX7_arithmeticStep 187 = .ok (.goto 25, 3) := by decide +kernel
theorem dX7_arithmeticStep_190 : decode cX7_arithmeticStep 190 = .ok (.aload_n 0, 1) := by decide +kernel
theorem dX7_arithmeticStep_191 : decode cX7_arithmeticStep 191 = .ok (.aload_n 0, 1) := by decide +kernel
theorem dX7_arithmeticStep_192 : decode cX7_arithmeticStep 192 = .ok (.getfield 188, 3) := by decide +kernel
theorem dX7_arithmeticStep_195 : decode cX7_arithmeticStep 195 = .ok (.aload_n 0, 1) := by decide +kernel
theorem dX7_arithmeticStep_196 : decode cX7_arithmeticStep 196 = .ok (.getfield 139, 3) := by decide +kernel
theorem dX7_arithmeticStep_199 : decode cX7_arithmeticStep 199 = .ok (.iadd, 1) := by decide +kernel
theorem dX7_arithmeticStep_200 : decode cX7_arithmeticStep 200 = .ok (.sipush 256, 3) := by decide +kernel
theorem dX7_arithmeticStep_203 : decode cX7_arithmeticStep 203 = .ok (.aload_n 0, 1) := by decide +kernel
theorem dX7_arithmeticStep_204 : decode cX7_arithmeticStep 204 = .ok (.getfield 194, 3) := by decide +kernel
theorem dX7_arithmeticStep_207 : decode cX7_arithmeticStep 207 = .ok (.imul, 1) := by decide +kernel
theorem dX7_arithmeticStep_208 : decode cX7_arithmeticStep 208 = .ok (.iadd, 1) := by decide +kernel
theorem dX7_arithmeticStep_209 : decode cX7_arithmeticStep 209 = .ok (.invokevirtual 191, 3) := by decide +kernel
theorem dX7_arithmeticStep_212 : decode cX7_arithmeticStep 212 = .ok (.return_, 1) := by decide +kernel
set_option maxRecDepth 20000 in
theorem ggX7_branchStep_X7_next : GoodIn wsX7_branchStep wsX7_next := goodIn_r _ [12, 4, 5, 13, 14, 15, 11, 16, 17, 18, 19, 20, 21, 22, 23, 24, 25, 26, 27, 28, 29, 30, 31, 32, 33, 34, 35, 36, 37, 38, 39, 40, 41, 42, 43, 44, 45, 46, 47, 48, 49, 55, 56, 57, 58, 59, 60, 61, 62, 63, 64, 65, 66, 67, 68, 69, 70, 71, 72, 73, 74, 75, 76, 77, 78, 79, 80, 81, 82, 83, 84, 85, 86, 87, 88, 89, 90, 91, 92, 93, 94, 95] (by decide +kernel) (by decide +kernel)
set_option maxRecDepth 20000 in
theorem gX7_branchStep_X7_next : GoodIn wsX7_branchStep (wsV RX7 185 RX7 yX7_next wsX7_next) := goodIn_app (goodIn_of _ (by decide +kernel)) ggX7_branchStep_X7_next
set_option maxRecDepth 20000 in
theorem ggX7_branchStep_X7_is : GoodIn wsX7_branchStep wsX7_is := goodIn_r _ [53, 54, 55, 56, 57, 58, 59, 60, 61, 62, 63, 64, 65, 66, 67, 68, 69, 70, 71, 72, 73, 74, 75, 76, 77, 78, 79, 80, 81, 82, 83, 84, 85, 86, 87, 88, 89, 90, 91, 92, 93, 94, 95] (by decide +kernel) (by decide +kernel)
set_option maxRecDepth 20000 in
theorem gX7_branchStep_X7_is : GoodIn wsX7_branchStep (wsV RX7 170 RX7 yX7_is wsX7_is) := goodIn_app (goodIn_of _ (by decide +kernel)) ggX7_branchStep_X7_is
set_option maxRecDepth 20000 in
theorem ggX7_branchStep_X7_read : GoodIn wsX7_branchStep wsX7_read := goodIn_r _ [16, 17, 18, 19, 20, 21, 11, 22, 23, 24, 25, 26, 27, 28, 29, 30, 31, 32, 33, 34, 35, 36, 37, 38, 39, 40, 41, 42, 43, 44, 45, 46, 47, 48, 49, 55, 56, 57, 58, 59, 60, 61, 62, 63, 64, 65, 66, 67, 68, 69, 70, 71, 72, 73, 74, 75, 76, 77, 78, 79, 80, 81, 82, 83, 84, 85, 86, 87, 88, 89, 90, 91, 92, 93, 94, 95] (by decide +kernel) (by decide +kernel)
set_option maxRecDepth 20000 in
theorem gX7_branchStep_X7_read : GoodIn wsX7_branchStep (wsV RX7 161 RX7 yX7_read wsX7_read) := goodIn_app (goodIn_of _ (by decide +kernel)) ggX7_branchStep_X7_read
theorem dX7_branchStep_0 : decode cX7_branchStep 0 = .ok (.aload_n 0, 1) := by decide +kernel
theorem dX7_branchStep_1 : decode cX7_branchStep 1 = .ok (.getfield 148, 3) := by decide +kernel
theorem dX7_branchStep_4 : decode cX7_branchStep 4 = .ok (.iconst 1, 1) := by decide +kernel
theorem dX7_branchStep_5 : decode cX7_branchStep 5 = .ok (.if_icmp .ne 85, 3) := by decide +kernel
theorem dX7_branchStep_8 : decode cX7_branchStep 8 = .ok (.aload_n 0, 1) := by decide +kernel
theorem dX7_branchStep_9 : decode cX7_branchStep 9 = .ok (.aload_n 0, 1) := by decide +kernel
theorem dX7_branchStep_10 : decode cX7_branchStep 10 = .ok (.invokevirtual 185, 3) := by decide +kernel
theorem dX7_branchStep_13 : decode cX7_branchStep 13 = .ok (.putfield 188, 3) := by decide +kernel
theorem dX7_branchStep_16 : decode cX7_branchStep 16 = .ok (.aload_n 0, 1) := by decide +kernel
theorem dX7_branchStep_17 : decode cX7_branchStep 17 = .ok (.getfield 167, 3) := by decide +kernel
theorem dX7_branchStep_20 : decode cX7_branchStep 20 = .ok (.bipush 6, 2) := by decide +kernel
theorem dX7_branchStep_22 : decode cX7_branchStep 22 = .ok (.ishr, 1) := by decide +kernel
theorem dX7_branchStep_23 : decode cX7_branchStep 23 = .ok (.istore_n 1, 1) := by decide +kernel
theorem dX7_branchStep_24 : decode cX7_branchStep 24 = .ok (.iload_n 1, 1) := by decide +kernel
theorem dX7_branchStep_25 : decode cX7_branchStep 25 = .ok (.ifCond .ne 9, 3) := by decide +kernel
theorem dX7_branchStep_28 : decode cX7_branchStep 28 = .ok (.sipush 128, 3) := by decide +kernel
theorem dX7_branchStep_31 : decode cX7_branchStep 31 = .ok (.goto 23, 3) := by decide +kernel
theorem dX7_branchStep_34 : decode cX7_branchStep 34 = .ok (.iload_n 1, 1) := by decide +kernel
theorem dX7_branchStep_35 : decode cX7_branchStep 35 = .ok (.iconst 1, 1) := by decide +kernel
theorem dX7_branchStep_36 : decode cX7_branchStep 36 = .ok (.if_icmp .ne 8, 3) := by decide +kernel
theorem dX7_branchStep_39 : decode cX7_branchStep 39 = .ok (.bipush 64, 2) := by decide +kernel
theorem dX7_branchStep_41 : decode cX7_branchStep 41 = .ok (.goto 13, 3) := by decide +kernel
theorem dX7_branchStep_44 : decode cX7_branchStep 44 = .ok (.iload_n 1, 1) := by decide +kernel
theorem dX7_branchStep_45 : decode cX7_branchStep 45 = .ok (.iconst 2, 1) := by decide +kernel
theorem dX7_branchStep_46 : decode cX7_branchStep 46 = .ok (.if_icmp .ne 7, 3) := by decide +kernel
theorem dX7_branchStep_49 : decode cX7_branchStep 49 = .ok (.iconst 1, 1) := by decide +kernel
theorem dX7_branchStep_50 : decode cX7_branchStep 50 = .ok (.goto 4, 3) := by decide +kernel
theorem dX7_branchStep_53 : decode cX7_branchStep 53 = .ok (.iconst 2, 1) := by decide +kernel
theorem dX7_branchStep_54 : decode cX7_branchStep 54 = .ok (.istore_n 2, 1) := by decide +kernel
theorem dX7_branchStep_55 : decode cX7_branchStep 55 = .ok (.aload_n 0, 1) := by decide +kernel
theorem dX7_branchStep_56 : decode cX7_branchStep 56 = .ok (.aload_n 0, 1) := by decide +kernel
theorem dX7_branchStep_57 : decode cX7_branchStep 57 = .ok (.iload_n 2, 1) := by decide +kernel
theorem dX7_branchStep_58 : decode cX7_branchStep 58 = .ok (.invokevirtual 170, 3) := by decide +kernel
theorem dX7_branchStep_61 : decode cX7_branchStep 61 = .ok (.aload_n 0, 1) := by decide +kernel
theorem dX7_branchStep_62 : decode cX7_branchStep 62 = .ok (.getfield 167, 3) := by decide +kernel
theorem dX7_branchStep_65 : decode cX7_branchStep 65 = .ok (.bipush 32, 2) := by decide +kernel
theorem dX7_branchStep_67 : decode cX7_branchStep 67 = .ok (.iand, 1) := by decide +kernel
theorem dX7_branchStep_68 : decode cX7_branchStep 68 = .ok (.ifCond .eq 7, 3) := by decide +kernel
theorem dX7_branchStep_71 : decode cX7_branchStep 71 = .ok (.iconst 1, 1) := by decide +kernel
theorem dX7_branchStep_72 : decode cX7_branchStep 72 = .ok (.goto 4, 3) := by decide +kernel
theorem dX7_branchStep_75 : decode cX7_branchStep 75 = .ok (.iconst 0, 1) := by decide +kernel
theorem dX7_branchStep_76 : decode cX7_branchStep 76 = .ok (.if_icmp .ne 7, 3) := by decide +kernel
theorem dX7_branchStep_79 : decode cX7_branchStep 79 = .ok (.iconst 2, 1) := by decide +kernel
theorem dX7_branchStep_80 : decode cX7_branchStep 80 = .ok (.goto 4, 3) := by decide +kernel
theorem dX7_branchStep_83 : decode cX7_branchStep 83 = .ok (.iconst 0, 1) := by decide +kernel
theorem dX7_branchStep_84 : decode cX7_branchStep 84 = .ok (.putfield 148, 3) := by decide +kernel
theorem dX7_branchStep_87 : decode cX7_branchStep 87 = .ok (.goto 139, 3) := by decide +kernel
theorem dX7_branchStep_90 : decode cX7_branchStep 90 = .ok (.aload_n 0, 1) := by decide +kernel
theorem dX7_branchStep_91 : decode cX7_branchStep 91 = .ok (.aload_n 0, 1) := by decide +kernel
theorem dX7_branchStep_92 : decode cX7_branchStep 92 = .ok (.getfield 145, 3) := by decide +kernel
theorem dX7_branchStep_95 : decode cX7_branchStep 95 = .ok (.invokevirtual 161, 3) := by decide +kernel
theorem dX7_branchStep_98 : decode cX7_branchStep 98 = .ok (.pop, 1) := by decide +kernel
theorem dX7_branchStep_99 : decode cX7_branchStep 99 = .ok (.aload_n 0, 1) := by decide +kernel
theorem dX7_branchStep_100 : decode cX7_branchStep 100 = .ok (.getfield 145, 3) := by decide +kernel
theorem dX7_branchStep_103 : decode cX7_branchStep 103 = .ok (.aload_n 0, 1) := by decide +kernel
theorem dX7_branchStep_104 : decode cX7_branchStep 104 = .ok (.getfield 188, 3) := by decide +kernel
theorem dX7_branchStep_107 : decode cX7_branchStep 107 = .ok (.bipush 127, 2) := by decide +kernel
theorem dX7_branchStep_109 : decode cX7_branchStep 109 = .ok (.if_icmp .le 14, 3) := by decide +kernel
theorem dX7_branchStep_112 : decode cX7_branchStep 112 = .ok (.aload_n 0, 1) := by decide +kernel
theorem dX7_branchStep_113 : decode cX7_branchStep 113 = .ok (.getfield 188, 3) := by decide +kernel
theorem dX7_branchStep_116 : decode cX7_branchStep 116 = .ok (.sipush 256, 3) := by decide +kernel
theorem dX7_branchStep_119 : decode cX7_branchStep 119 = .ok (.isub, 1) := by decide +kernel
theorem dX7_branchStep_120 : decode cX7_branchStep 120 = .ok (.goto 7, 3) := by decide +kernel
theorem dX7_branchStep_123 : decode cX7_branchStep 123 = .ok (.aload_n 0, 1) := by decide +kernel
theorem dX7_branchStep_124 : decode cX7_branchStep 124 = .ok (.getfield 188, 3) := by decide +kernel
theorem dX7_branchStep_127 : decode cX7_branchStep 127 = .ok (.iadd, 1) := by decide +kernel
theorem dX7_branchStep_128 : decode cX7_branchStep 128 = .ok (.ldc 69, 2) := by decide +kernel
theorem dX7_branchStep_130 : decode cX7_branchStep 130 = .ok (.iand, 1) := by decide +kernel
theorem dX7_branchStep_131 : decode cX7_branchStep 131 = .ok (.istore_n 1, 1) := by decide +kernel
theorem dX7_branchStep_132 : decode cX7_branchStep 132 = .ok (.aload_n 0, 1) := by decide +kernel
theorem dX7_branchStep_133 : decode cX7_branchStep 133 = .ok (.getfield 148, 3) := by decide +kernel
theorem dX7_branchStep_136 : decode cX7_branchStep 136 = .ok (.iconst 2, 1) := by decide +kernel
theorem dX7_branchStep_137 : decode cX7_branchStep 137 = .ok (.if_icmp .ne 21, 3) := by decide +kernel
theorem dX7_branchStep_140 : decode cX7_branchStep 140 = .ok (.iload_n 1, 1) := by decide +kernel
theorem dX7_branchStep_141 : decode cX7_branchStep 141 = .ok (.bipush 8, 2) := by decide +kernel
theorem dX7_branchStep_143 : decode cX7_branchStep 143 = .ok (.ishr, 1) := by decide +kernel
theorem dX7_branchStep_144 : decode cX7_branchStep 144 = .ok (.aload_n 0, 1) := by decide +kernel
theorem dX7_branchStep_145 : decode cX7_branchStep 145 = .ok (.getfield 145, 3) := by decide +kernel
theorem dX7_branchStep_148 : decode cX7_branchStep 148 = .ok (.bipush 8, 2) := by decide +kernel
theorem dX7_branchStep_150 : decode cX7_branchStep 150 = .ok (.ishr, 1) := by decide +kernel
theorem dX7_branchStep_151 : decode cX7_branchStep 151 = .ok (.if_icmp .eq 7, 3) := by decide +kernel
theorem dX7_branchStep_154 : decode cX7_branchStep 154 = .ok (.iconst 1, 1) := by decide +kernel
theorem dX7_branchStep_155 : decode cX7_branchStep 155 = .ok (.goto 4, 3) := by decide +kernel
theorem dX7_branchStep_158 : decode cX7_branchStep 158 = .ok (.iconst 0, 1) := by decide +kernel
theorem dX7_branchStep_159 : decode cX7_branchStep 159 = .ok (.istore_n 2, 1) := by decide +kernel
theorem dX7_branchStep_160 : decode cX7_branchStep 160 = .ok (.aload_n 0, 1) := by decide +kernel
theorem dX7_branchStep_161 : decode cX7_branchStep 161 = .ok (.getfield 148, 3) := by decide +kernel
theorem dX7_branchStep_164 : decode cX7_branchStep 164 = .ok (.iconst 2, 1) := by decide +kernel
theorem dX7_branchStep_165 : decode cX7_branchStep 165 = .ok (.if_icmp .ne 8, 3) := by decide +kernel
theorem dX7_branchStep_168 : decode cX7_branchStep 168 = .ok (.aload_n 0, 1) := by decide +kernel
theorem dX7_branchStep_169 : decode cX7_branchStep 169 = .ok (.iload_n 1, 1) := by decide +kernel
theorem dX7_branchStep_170 : decode cX7_branchStep 170 = .ok (.putfield 197, 3) := by decide +kernel
theorem dX7_branchStep_173 : decode cX7_branchStep 173 = .ok (.aload_n 0, 1) := by decide +kernel
theorem dX7_branchStep_174 : decode cX7_branchStep 174 = .ok (.aload_n 0, 1) := by decide +kernel
theorem dX7_branchStep_175 : decode cX7_branchStep 175 = .ok (.getfield 148, 3) := by decide +kernel
theorem dX7_branchStep_178 : decode cX7_branchStep 178 = .ok (.iconst 3, 1) := by decide +kernel
theorem dX7_branchStep_179 : decode cX7_branchStep 179 = .ok (.if_icmp .ne 10, 3) := by decide +kernel
theorem dX7_branchStep_182 : decode cX7_branchStep 182 = .ok (.aload_n 0, 1) := by decide +kernel
theorem dX7_branchStep_183 : decode cX7_branchStep 183 = .ok (.getfield 197, 3) := by decide +kernel
theorem dX7_branchStep_186 : decode cX7_branchStep 186 = .ok (.goto 24, 3) := by decide +kernel
theorem dX7_branchStep_189 : decode cX7_branchStep 189 = .ok (.iload_n 2, 1) := by decide +kernel
theorem dX7_branchStep_190 : decode cX7_branchStep 190 = .ok (.ifCond .eq 19, 3) := by decide +kernel
theorem dX7_branchStep_193 : decode cX7_branchStep 193 = .ok (.aload_n 0, 1) := by decide +kernel
theorem dX7_branchStep_194 : decode cX7_branchStep 194 = .ok (.getfield 145, 3) := by decide +kernel
theorem dX7_branchStep_197 : decode cX7_branchStep 197 = .ok (.ldc 101, 2) := by decide +kernel
theorem dX7_branchStep_199 : decode cX7_branchStep 199 = .ok (.iand, 1) := by decide +kernel
theorem dX7_branchStep_200 : decode cX7_branchStep 200 = .ok (.iload_n 1, 1) := by decide +kernel
theorem dX7_branchStep_201 : decode cX7_branchStep 201 = .ok (.sipush 255, 3) := by decide +kernel
theorem dX7_branchStep_204 : decode cX7_branchStep 204 = .ok (.iand, 1) := by decide +kernel
theorem dX7_branchStep_205 : decode cX7_branchStep 205 = .ok (.iadd, 1) := by decide +kernel
theorem dX7_branchStep_206 : decode cX7_branchStep 206 = .ok (.goto 4, 3) := by decide +kernel
theorem dX7_branchStep_209 : decode cX7_branchStep 209 = .ok (.iload_n 1, 1) := by decide +kernel
theorem dX7_branchStep_210 : decode cX7_branchStep 210 = .ok (.putfield 145, 3) := by decide +kernel
theorem dX7_branchStep_213 : decode cX7_branchStep 213 = .ok (.aload_n 0, 1) := by decide +kernel
theorem dX7_branchStep_214 : decode cX7_branchStep 214 = .ok (.iload_n 2, 1) := by decide +kernel
theorem dX7_branchStep_215 : decode cX7_branchStep 215 = .ok (.ifCond .eq 7, 3) := by decide +kernel
theorem dX7_branchStep_218 : decode cX7_branchStep 218 = .ok (.iconst 3, 1) := by decide +kernel
theorem dX7_branchStep_219 : decode cX7_branchStep 219 = .ok (.goto 4, 3) := by decide +kernel
theorem dX7_branchStep_222 : decode cX7_branchStep 222 = .ok (.iconst 0, 1) := by decide +kernel
theorem dX7_branchStep_223 : decode cX7_branchStep 223 = .ok (.putfield 148, 3) := by decide +kernel
theorem dX7_branchStep_226 : decode cX7_branchStep 226 = .ok (.return_, 1) := by decide +kernel
set_option maxRecDepth 20000 in
theorem ggX7_interruptStep_X7_read : GoodIn wsX7_interruptStep wsX7_read := goodIn_r _ [9, 10, 11, 12, 13, 14, 8, 15, 16, 17, 18, 19, 20, 21, 22, 23, 24, 25, 26, 27, 28, 29, 30, 31, 32, 33, 34, 35, 36, 37, 38, 39, 40, 41, 42, 62, 63, 64, 65, 66, 67, 68, 69, 70, 71, 72, 73, 74, 75, 76, 77, 78, 79, 80, 81, 82, 83, 84, 85, 86, 87, 88, 89, 90, 91, 92, 93, 94, 95, 96, 97, 98, 99, 100, 101, 102] (by decide +kernel) (by decide +kernel)
set_option maxRecDepth 20000 in
theorem gX7_interruptStep_X7_read : GoodIn wsX7_interruptStep (wsV RX7 161 RX7 yX7_read wsX7_read) := goodIn_app (goodIn_of _ (by decide +kernel)) ggX7_interruptStep_X7_read
set_option maxRecDepth 20000 in
theorem ggX7_interruptStep_X7_push : GoodIn wsX7_interruptStep wsX7_push := goodIn_r _ [46, 47, 48, 49, 50, 8, 51, 10, 11, 16, 42, 12, 13, 14, 15, 52, 53, 54, 55, 23, 22, 25, 56, 57, 26, 27, 29, 24, 62, 63, 64, 65, 66, 67, 68, 69, 70, 71, 72, 73, 74, 75, 76, 77, 78, 79, 80, 81, 82, 83, 84, 85, 86, 87, 88, 89, 90, 91, 92, 93, 94, 95, 96, 97, 98, 99, 100, 101, 102] (by decide +kernel) (by decide +kernel)
set_option maxRecDepth 20000 in
theorem gX7_interruptStep_X7_push : GoodIn wsX7_interruptStep (wsV RX7 200 RX7 yX7_push wsX7_push) := goodIn_app (goodIn_of _ (by decide +kernel)) ggX7_interruptStep_X7_push
set_option maxRecDepth 20000 in
theorem ggX7_interruptStep_X7_put : GoodIn wsX7_interruptStep wsX7_put := goodIn_r _ [61, 3, 62, 63, 64, 65, 66, 67, 68, 69, 70, 71, 72, 73, 74, 75, 76, 77, 78, 79, 80, 81, 82, 83, 84, 85, 86, 87, 88, 89, 90, 91, 92, 93, 94, 95, 96, 97, 98, 99, 100, 101, 102] (by decide +kernel) (by decide +kernel)
set_option maxRecDepth 20000 in
theorem gX7_interruptStep_X7_put : GoodIn wsX7_interruptStep (wsV RX7 157 RX7 yX7_put wsX7_put) := goodIn_app (goodIn_of _ (by decide +kernel)) ggX7_interruptStep_X7_put
theorem dX7_interruptStep_0 : decode cX7_interruptStep 0 = .ok (.aload_n 0, 1) := by decide +kernel
theorem dX7_interruptStep_1 : decode cX7_interruptStep 1 = .ok (.getfield 148, 3) := by decide +kernel
theorem dX7_interruptStep_4 : decode cX7_interruptStep 4 = .ok (.iconst 2, 1) := by decide +kernel
theorem dX7_interruptStep_5 : decode cX7_interruptStep 5 = .ok (.if_icmp .ge 12, 3) := by decide +kernel
theorem dX7_interruptStep_8 : decode cX7_interruptStep 8 = .ok (.aload_n 0, 1) := by decide +kernel
theorem dX7_interruptStep_9 : decode cX7_interruptStep 9 = .ok (.aload_n 0, 1) := by decide +kernel
theorem dX7_interruptStep_10 : decode cX7_interruptStep 10 = .ok (.getfield 145, 3) := by decide +kernel
theorem dX7_interruptStep_13 : decode cX7_interruptStep 13 = .ok (.invokevirtual 161, 3) := by decide +kernel
theorem dX7_interruptStep_16 : decode cX7_interruptStep 16 = .ok (.pop, 1) := by decide +kernel
theorem dX7_interruptStep_17 : decode cX7_interruptStep 17 = .ok (.aload_n 0, 1) := by decide +kernel
theorem dX7_interruptStep_18 : decode cX7_interruptStep 18 = .ok (.getfield 148, 3) := by decide +kernel
theorem dX7_interruptStep_21 : decode cX7_interruptStep 21 = .ok (.iconst 2, 1) := by decide +kernel
theorem dX7_interruptStep_22 : decode cX7_interruptStep 22 = .ok (.if_icmp .ne 14, 3) := by decide +kernel
theorem dX7_interruptStep_25 : decode cX7_interruptStep 25 = .ok (.aload_n 0, 1) := by decide +kernel
theorem dX7_interruptStep_26 : decode cX7_interruptStep 26 = .ok (.aload_n 0, 1) := by decide +kernel
theorem dX7_interruptStep_27 : decode cX7_interruptStep 27 = .ok (.getfield 145, 3) := by decide +kernel
theorem dX7_interruptStep_30 : decode cX7_interruptStep 30 = .ok (.bipush 8, 2) := by decide +kernel
theorem dX7_interruptStep_32 : decode cX7_interruptStep 32 = .ok (.ishr, 1) := by decide +kernel
theorem dX7_interruptStep_33 : decode cX7_interruptStep 33 = .ok (.invokevirtual 200, 3) := by decide +kernel
theorem dX7_interruptStep_36 : decode cX7_interruptStep 36 = .ok (.aload_n 0, 1) := by decide +kernel
theorem dX7_interruptStep_37 : decode cX7_interruptStep 37 = .ok (.getfield 148, 3) := by decide +kernel
theorem dX7_interruptStep_40 : decode cX7_interruptStep 40 = .ok (.iconst 3, 1) := by decide +kernel
theorem dX7_interruptStep_41 : decode cX7_interruptStep 41 = .ok (.if_icmp .ne 15, 3) := by decide +kernel
theorem dX7_interruptStep_44 : decode cX7_interruptStep 44 = .ok (.aload_n 0, 1) := by decide +kernel
theorem dX7_interruptStep_45 : decode cX7_interruptStep 45 = .ok (.aload_n 0, 1) := by decide +kernel
theorem dX7_interruptStep_46 : decode cX7_interruptStep 46 = .ok (.getfield 145, 3) := by decide +kernel
theorem dX7_interruptStep_49 : decode cX7_interruptStep 49 = .ok (.sipush 255, 3) := by decide +kernel
theorem dX7_interruptStep_52 : decode cX7_interruptStep 52 = .ok (.iand, 1) := by decide +kernel
theorem dX7_interruptStep_53 : decode cX7_interruptStep 53 = .ok (.invokevirtual 200, 3) := by decide +kernel
theorem dX7_interruptStep_56 : decode cX7_interruptStep 56 = .ok (.aload_n 0, 1) := by decide +kernel
theorem dX7_interruptStep_57 : decode cX7_interruptStep 57 = .ok (.getfield 148, 3) := by decide +kernel
theorem dX7_interruptStep_60 : decode cX7_interruptStep 60 = .ok (.iconst 4, 1) := by decide +kernel
theorem dX7_interruptStep_61 : decode cX7_interruptStep 61 = .ok (.if_icmp .ne 20, 3) := by decide +kernel
theorem dX7_interruptStep_64 : decode cX7_interruptStep 64 = .ok (.aload_n 0, 1) := by decide +kernel
theorem dX7_interruptStep_65 : decode cX7_interruptStep 65 = .ok (.aload_n 0, 1) := by decide +kernel
theorem dX7_interruptStep_66 : decode cX7_interruptStep 66 = .ok (.getfield 60, 3) := by decide +kernel
theorem dX7_interruptStep_69 : decode cX7_interruptStep 69 = .ok (.bipush 32, 2) := by decide +kernel
theorem dX7_interruptStep_71 : decode cX7_interruptStep 71 = .ok (.ior, 1) := by decide +kernel
theorem dX7_interruptStep_72 : decode cX7_interruptStep 72 = .ok (.invokevirtual 200, 3) := by decide +kernel
theorem dX7_interruptStep_75 : decode cX7_interruptStep 75 = .ok (.aload_n 0, 1) := by decide +kernel
theorem dX7_interruptStep_76 : decode cX7_interruptStep 76 = .ok (.iconst 4, 1) := by decide +kernel
theorem dX7_interruptStep_77 : decode cX7_interruptStep 77 = .ok (.iconst 1, 1) := by decide +kernel
theorem dX7_interruptStep_78 : decode cX7_interruptStep 78 = .ok (.invokevirtual 157, 3) := by decide +kernel
theorem dX7_interruptStep_81 : decode cX7_interruptStep 81 = .ok (.aload_n 0, 1) := by decide +kernel
theorem dX7_interruptStep_82 : decode cX7_interruptStep 82 = .ok (.getfield 148, 3) := by decide +kernel
theorem dX7_interruptStep_85 : decode cX7_interruptStep 85 = .ok (.iconst 5, 1) := by decide +kernel
theorem dX7_interruptStep_86 : decode cX7_interruptStep 86 = .ok (.if_icmp .ne 14, 3) := by decide +kernel
theorem dX7_interruptStep_89 : decode cX7_interruptStep 89 = .ok (.aload_n 0, 1) := by decide +kernel
theorem dX7_interruptStep_90 : decode cX7_interruptStep 90 = .ok (.aload_n 0, 1) := by decide +kernel
theorem dX7_interruptStep_91 : decode cX7_interruptStep 91 = .ok (.sipush 8190, 3) := by decide +kernel
theorem dX7_interruptStep_94 : decode cX7_interruptStep 94 = .ok (.invokevirtual 161, 3) := by decide +kernel
theorem dX7_interruptStep_97 : decode cX7_interruptStep 97 = .ok (.putfield 188, 3) := by decide +kernel
theorem dX7_interruptStep_100 : decode cX7_interruptStep 100 = .ok (.aload_n 0, 1) := by decide +kernel
theorem dX7_interruptStep_101 : decode cX7_interruptStep 101 = .ok (.getfield 148, 3) := by decide +kernel
theorem dX7_interruptStep_104 : decode cX7_interruptStep 104 = .ok (.bipush 6, 2) := by decide +kernel
theorem dX7_interruptStep_106 : decode cX7_interruptStep 106 = .ok (.if_icmp .ne 23, 3) := by decide +kernel
theorem dX7_interruptStep_109 : decode cX7_interruptStep 109 = .ok (.aload_n 0, 1) := by decide +kernel
theorem dX7_interruptStep_110 : decode cX7_interruptStep 110 = .ok (.sipush 256, 3) := by decide +kernel
theorem dX7_interruptStep_113 : decode cX7_interruptStep 113 = .ok (.aload_n 0, 1) := by decide +kernel
theorem dX7_interruptStep_114 : decode cX7_interruptStep 114 = .ok (.sipush 8191, 3) := by decide +kernel
theorem dX7_interruptStep_117 : decode cX7_interruptStep 117 = .ok (.invokevirtual 161, 3) := by decide +kernel
theorem dX7_interruptStep_120 : decode cX7_interruptStep 120 = .ok (.imul, 1) := by decide +kernel
theorem dX7_interruptStep_121 : decode cX7_interruptStep 121 = .ok (.aload_n 0, 1) := by decide +kernel
theorem dX7_interruptStep_122 : decode cX7_interruptStep 122 = .ok (.getfield 188, 3) := by decide +kernel
theorem dX7_interruptStep_125 : decode cX7_interruptStep 125 = .ok (.iadd, 1) := by decide +kernel
theorem dX7_interruptStep_126 : decode cX7_interruptStep 126 = .ok (.putfield 145, 3) := by decide +kernel
theorem dX7_interruptStep_129 : decode cX7_interruptStep 129 = .ok (.aload_n 0, 1) := by decide +kernel
theorem dX7_interruptStep_130 : decode cX7_interruptStep 130 = .ok (.aload_n 0, 1) := by decide +kernel
theorem dX7_interruptStep_131 : decode cX7_interruptStep 131 = .ok (.getfield 148, 3) := by decide +kernel
theorem dX7_interruptStep_134 : decode cX7_interruptStep 134 = .ok (.bipush 6, 2) := by decide +kernel
theorem dX7_interruptStep_136 : decode cX7_interruptStep 136 = .ok (.if_icmp .ne 7, 3) := by decide +kernel
theorem dX7_interruptStep_139 : decode cX7_interruptStep 139 = .ok (.iconst 0, 1) := by decide +kernel
theorem dX7_interruptStep_140 : decode cX7_interruptStep 140 = .ok (.goto 9, 3) := by decide +kernel
theorem dX7_interruptStep_143 : decode cX7_interruptStep 143 = .ok (.aload_n 0, 1) := by decide +kernel
theorem dX7_interruptStep_144 : decode cX7_interruptStep 144 = .ok (.getfield 148, 3) := by decide +kernel
theorem dX7_interruptStep_147 : decode cX7_interruptStep 147 = .ok (.iconst 1, 1) := by decide +kernel
theorem dX7_interruptStep_148 : decode cX7_interruptStep 148 = .ok (.iadd, 1) := by decide +kernel
theorem dX7_interruptStep_149 : decode cX7_interruptStep 149 = .ok (.putfield 148, 3) := by decide +kernel
theorem dX7_interruptStep_152 : decode cX7_interruptStep 152 = .ok (.return_, 1) := by decide +kernel
set_option maxRecDepth 20000 in
theorem ggX7_jumpStep_X7_next : GoodIn wsX7_jumpStep wsX7_next := goodIn_r _ [10, 4, 11, 12, 13, 14, 9, 15, 16, 17, 18, 19, 20, 21, 22, 23, 24, 25, 26, 27, 28, 29, 30, 31, 32, 33, 34, 35, 36, 37, 38, 39, 40, 41, 42, 43, 44, 45, 46, 47, 48, 72, 73, 74, 75, 76, 77, 78, 79, 80, 81, 82, 83, 84, 85, 86, 87, 88, 89, 90, 91, 92, 93, 94, 95, 96, 97, 98, 99, 100, 101, 102, 103, 104, 105, 106, 107, 108, 109, 110, 111, 112] (by decide +kernel) (by decide +kernel)
set_option maxRecDepth 20000 in
theorem gX7_jumpStep_X7_next : GoodIn wsX7_jumpStep (wsV RX7 185 RX7 yX7_next wsX7_next) := goodIn_app (goodIn_of _ (by decide +kernel)) ggX7_jumpStep_X7_next
set_option maxRecDepth 20000 in
theorem ggX7_jumpStep_X7_read : GoodIn wsX7_jumpStep wsX7_read := goodIn_r _ [15, 16, 17, 18, 19, 20, 9, 21, 22, 23, 24, 25, 26, 27, 28, 29, 30, 31, 32, 33, 34, 35, 36, 37, 38, 39, 40, 41, 42, 43, 44, 45, 46, 47, 48, 72, 73, 74, 75, 76, 77, 78, 79, 80, 81, 82, 83, 84, 85, 86, 87, 88, 89, 90, 91, 92, 93, 94, 95, 96, 97, 98, 99, 100, 101, 102, 103, 104, 105, 106, 107, 108, 109, 110, 111, 112] (by decide +kernel) (by decide +kernel)
set_option maxRecDepth 20000 in
theorem gX7_jumpStep_X7_read : GoodIn wsX7_jumpStep (wsV RX7 161 RX7 yX7_read wsX7_read) := goodIn_app (goodIn_of _ (by decide +kernel)) ggX7_jumpStep_X7_read
set_option maxRecDepth 20000 in
theorem ggX7_jumpStep_X7_push : GoodIn wsX7_jumpStep wsX7_push := goodIn_r _ [52, 5, 53, 54, 55, 9, 56, 16, 17, 22, 48, 18, 19, 20, 21, 57, 58, 59, 60, 29, 28, 31, 61, 62, 32, 33, 35, 30, 72, 73, 74, 75, 76, 77, 78, 79, 80, 81, 82, 83, 84, 85, 86, 87, 88, 89, 90, 91, 92, 93, 94, 95, 96, 97, 98, 99, 100, 101, 102, 103, 104, 105, 106, 107, 108, 109, 110, 111, 112] (by decide +kernel) (by decide +kernel)
set_option maxRecDepth 20000 in
theorem gX7_jumpStep_X7_push : GoodIn wsX7_jumpStep (wsV RX7 200 RX7 yX7_push wsX7_push) := goodIn_app (goodIn_of _ (by decide +kernel)) ggX7_jumpStep_X7_push
set_option maxRecDepth 20000 in
theorem ggX7_jumpStep_X7_returnStep : GoodIn wsX7_jumpStep wsX7_returnStep := goodIn_r _ [66, 2, 4, 1, 67, 62, 3, 12, 13, 14, 9, 15, 16, 17, 18, 19, 20, 21, 22, 23, 24, 25, 26, 27, 28, 29, 30, 31, 32, 33, 34, 35, 36, 37, 38, 39, 40, 41, 42, 43, 44, 45, 46, 47, 48, 68, 69, 70, 71, 5, 6, 7, 8, 10, 11, 72, 73, 74, 75, 76, 77, 78, 79, 80, 81, 82, 83, 84, 85, 86, 87, 88, 89, 90, 91, 92, 93, 94, 95, 96, 97, 98, 99, 100, 101, 102, 103, 104, 105, 106, 107, 108, 109, 110, 111, 112] (by decide +kernel) (by decide +kernel)
set_option maxRecDepth 20000 in
theorem gX7_jumpStep_X7_returnStep : GoodIn wsX7_jumpStep (wsV RX7 203 RX7 yX7_returnStep wsX7_returnStep) := goodIn_app (goodIn_of _ (by decide +kernel)) ggX7_jumpStep_X7_returnStep
theorem dX7_jumpStep_0 : decode cX7_jumpStep 0 = .ok (.aload_n 0, 1) := by decide +kernel
theorem dX7_jumpStep_1 : decode cX7_jumpStep 1 = .ok (.getfield 167, 3) := by decide +kernel
theorem dX7_jumpStep_4 : decode cX7_jumpStep 4 = .ok (.bipush 76, 2) := by decide +kernel
theorem dX7_jumpStep_6 : decode cX7_jumpStep 6 = .ok (.if_icmp .ne 7, 3) := by decide +kernel
theorem dX7_jumpStep_9 : decode cX7_jumpStep 9 = .ok (.iconst 2, 1) := by decide +kernel
theorem dX7_jumpStep_10 : decode cX7_jumpStep 10 = .ok (.goto 4, 3) := by decide +kernel
theorem dX7_jumpStep_13 : decode cX7_jumpStep 13 = .ok (.iconst 5, 1) := by decide +kernel
theorem dX7_jumpStep_14 : decode cX7_jumpStep 14 = .ok (.istore_n 1, 1) := by decide +kernel
theorem dX7_jumpStep_15 : decode cX7_jumpStep 15 = .ok (.aload_n 0, 1) := by decide +kernel
theorem dX7_jumpStep_16 : decode cX7_jumpStep 16 = .ok (.getfield 167, 3) := by decide +kernel
theorem dX7_jumpStep_19 : decode cX7_jumpStep 19 = .ok (.bipush 76, 2) := by decide +kernel
theorem dX7_jumpStep_21 : decode cX7_jumpStep 21 = .ok (.if_icmp .ne 11, 3) := by decide +kernel
theorem dX7_jumpStep_24 : decode cX7_jumpStep 24 = .ok (.aload_n 0, 1) := by decide +kernel
theorem dX7_jumpStep_25 : decode cX7_jumpStep 25 = .ok (.getfield 148, 3) := by decide +kernel
theorem dX7_jumpStep_28 : decode cX7_jumpStep 28 = .ok (.iconst 1, 1) := by decide +kernel
theorem dX7_jumpStep_29 : decode cX7_jumpStep 29 = .ok (.if_icmp .eq 20, 3) := by decide +kernel
theorem dX7_jumpStep_32 : decode cX7_jumpStep 32 = .ok (.aload_n 0, 1) := by decide +kernel
theorem dX7_jumpStep_33 : decode cX7_jumpStep 33 = .ok (.getfield 167, 3) := by decide +kernel
theorem dX7_jumpStep_36 : decode cX7_jumpStep 36 = .ok (.bipush 32, 2) := by decide +kernel
theorem dX7_jumpStep_38 : decode cX7_jumpStep 38 = .ok (.if_icmp .ne 22, 3) := by decide +kernel
theorem dX7_jumpStep_41 : decode cX7_jumpStep 41 = .ok (.aload_n 0, 1) := by decide +kernel
theorem dX7_jumpStep_42 : decode cX7_jumpStep 42 = .ok (.getfield 148, 3) := by decide +kernel
theorem dX7_jumpStep_45 : decode cX7_jumpStep 45 = .ok (.iconst 1, 1) := by decide +kernel
theorem dX7_jumpStep_46 : decode cX7_jumpStep 46 = .ok (.if_icmp .ne 14, 3) := by decide +kernel
theorem dX7_jumpStep_49 : decode cX7_jumpStep 49 = .ok (.aload_n 0, 1) := by decide +kernel
theorem dX7_jumpStep_50 : decode cX7_jumpStep 50 = .ok (.aload_n 0, 1) := by decide +kernel
theorem dX7_jumpStep_51 : decode cX7_jumpStep 51 = .ok (.invokevirtual 185, 3) := by decide +kernel
theorem dX7_jumpStep_54 : decode cX7_jumpStep 54 = .ok (.putfield 188, 3) := by decide +kernel
theorem dX7_jumpStep_57 : decode cX7_jumpStep 57 = .ok (.goto 128, 3) := by decide +kernel
theorem dX7_jumpStep_60 : decode cX7_jumpStep 60 = .ok (.aload_n 0, 1) := by decide +kernel
theorem dX7_jumpStep_61 : decode cX7_jumpStep 61 = .ok (.getfield 167, 3) := by decide +kernel
theorem dX7_jumpStep_64 : decode cX7_jumpStep 64 = .ok (.bipush 76, 2) := by decide +kernel
theorem dX7_jumpStep_66 : decode cX7_jumpStep 66 = .ok (.if_icmp .eq 20, 3) := by decide +kernel
theorem dX7_jumpStep_69 : decode cX7_jumpStep 69 = .ok (.aload_n 0, 1) := by decide +kernel
theorem dX7_jumpStep_70 : decode cX7_jumpStep 70 = .ok (.getfield 167, 3) := by decide +kernel
theorem dX7_jumpStep_73 : decode cX7_jumpStep 73 = .ok (.bipush 32, 2) := by decide +kernel
theorem dX7_jumpStep_75 : decode cX7_jumpStep 75 = .ok (.if_icmp .ne 31, 3) := by decide +kernel
theorem dX7_jumpStep_78 : decode cX7_jumpStep 78 = .ok (.aload_n 0, 1) := by decide +kernel
theorem dX7_jumpStep_79 : decode cX7_jumpStep 79 = .ok (.getfield 148, 3) := by decide +kernel
theorem dX7_jumpStep_82 : decode cX7_jumpStep 82 = .ok (.iconst 5, 1) := by decide +kernel
theorem dX7_jumpStep_83 : decode cX7_jumpStep 83 = .ok (.if_icmp .ne 23, 3) := by decide +kernel
theorem dX7_jumpStep_86 : decode cX7_jumpStep 86 = .ok (.aload_n 0, 1) := by decide +kernel
theorem dX7_jumpStep_87 : decode cX7_jumpStep 87 = .ok (.sipush 256, 3) := by decide +kernel
theorem dX7_jumpStep_90 : decode cX7_jumpStep 90 = .ok (.aload_n 0, 1) := by decide +kernel
theorem dX7_jumpStep_91 : decode cX7_jumpStep 91 = .ok (.invokevirtual 185, 3) := by decide +kernel
theorem dX7_jumpStep_94 : decode cX7_jumpStep 94 = .ok (.imul, 1) := by decide +kernel
theorem dX7_jumpStep_95 : decode cX7_jumpStep 95 = .ok (.aload_n 0, 1) := by decide +kernel
theorem dX7_jumpStep_96 : decode cX7_jumpStep 96 = .ok (.getfield 188, 3) := by decide +kernel
theorem dX7_jumpStep_99 : decode cX7_jumpStep 99 = .ok (.iadd, 1) := by decide +kernel
theorem dX7_jumpStep_100 : decode cX7_jumpStep 100 = .ok (.putfield 145, 3) := by decide +kernel
theorem dX7_jumpStep_103 : decode cX7_jumpStep 103 = .ok (.goto 82, 3) := by decide +kernel
theorem dX7_jumpStep_106 : decode cX7_jumpStep 106 = .ok (.aload_n 0, 1) := by decide +kernel
theorem dX7_jumpStep_107 : decode cX7_jumpStep 107 = .ok (.getfield 167, 3) := by decide +kernel
theorem dX7_jumpStep_110 : decode cX7_jumpStep 110 = .ok (.bipush 32, 2) := by decide +kernel
theorem dX7_jumpStep_112 : decode cX7_jumpStep 112 = .ok (.if_icmp .ne 27, 3) := by decide +kernel
theorem dX7_jumpStep_115 : decode cX7_jumpStep 115 = .ok (.aload_n 0, 1) := by decide +kernel
theorem dX7_jumpStep_116 : decode cX7_jumpStep 116 = .ok (.getfield 148, 3) := by decide +kernel
theorem dX7_jumpStep_119 : decode cX7_jumpStep 119 = .ok (.iconst 2, 1) := by decide +kernel
theorem dX7_jumpStep_120 : decode cX7_jumpStep 120 = .ok (.if_icmp .ne 19, 3) := by decide +kernel
theorem dX7_jumpStep_123 : decode cX7_jumpStep 123 = .ok (.aload_n 0, 1) := by decide +kernel
theorem dX7_jumpStep_124 : decode cX7_jumpStep 124 = .ok (.sipush 256, 3) := by decide +kernel
theorem dX7_jumpStep_127 : decode cX7_jumpStep 127 = .ok (.aload_n 0, 1) := by decide +kernel
theorem dX7_jumpStep_128 : decode cX7_jumpStep 128 = .ok (.getfield 57, 3) := by decide +kernel
theorem dX7_jumpStep_131 : decode cX7_jumpStep 131 = .ok (.iadd, 1) := by decide +kernel
theorem dX7_jumpStep_132 : decode cX7_jumpStep 132 = .ok (.invokevirtual 161, 3) := by decide +kernel
theorem dX7_jumpStep_135 : decode cX7_jumpStep 135 = .ok (.pop, 1) := by decide +kernel
theorem dX7_jumpStep_136 : decode cX7_jumpStep 136 = .ok (.goto 49, 3) := by decide +kernel
theorem dX7_jumpStep_139 : decode cX7_jumpStep 139 = .ok (.aload_n 0, 1) := by decide +kernel
theorem dX7_jumpStep_140 : decode cX7_jumpStep 140 = .ok (.getfield 167, 3) := by decide +kernel
theorem dX7_jumpStep_143 : decode cX7_jumpStep 143 = .ok (.bipush 32, 2) := by decide +kernel
theorem dX7_jumpStep_145 : decode cX7_jumpStep 145 = .ok (.if_icmp .ne 36, 3) := by decide +kernel
theorem dX7_jumpStep_148 : decode cX7_jumpStep 148 = .ok (.aload_n 0, 1) := by decide +kernel
theorem dX7_jumpStep_149 : decode cX7_jumpStep 149 = .ok (.aload_n 0, 1) := by decide +kernel
theorem dX7_jumpStep_150 : decode cX7_jumpStep 150 = .ok (.getfield 148, 3) := by decide +kernel
theorem dX7_jumpStep_153 : decode cX7_jumpStep 153 = .ok (.iconst 3, 1) := by decide +kernel
theorem dX7_jumpStep_154 : decode cX7_jumpStep 154 = .ok (.if_icmp .ne 13, 3) := by decide +kernel
theorem dX7_jumpStep_157 : decode cX7_jumpStep 157 = .ok (.aload_n 0, 1) := by decide +kernel
theorem dX7_jumpStep_158 : decode cX7_jumpStep 158 = .ok (.getfield 145, 3) := by decide +kernel
theorem dX7_jumpStep_161 : decode cX7_jumpStep 161 = .ok (.bipush 8, 2) := by decide +kernel
theorem dX7_jumpStep_163 : decode cX7_jumpStep 163 = .ok (.ishr, 1) := by decide +kernel
theorem dX7_jumpStep_164 : decode cX7_jumpStep 164 = .ok (.goto 11, 3) := by decide +kernel
theorem dX7_jumpStep_167 : decode cX7_jumpStep 167 = .ok (.aload_n 0, 1) := by decide +kernel
theorem dX7_jumpStep_168 : decode cX7_jumpStep 168 = .ok (.getfield 145, 3) := by decide +kernel
theorem dX7_jumpStep_171 : decode cX7_jumpStep 171 = .ok (.sipush 255, 3) := by decide +kernel
theorem dX7_jumpStep_174 : decode cX7_jumpStep 174 = .ok (.iand, 1) := by decide +kernel
theorem dX7_jumpStep_175 : decode cX7_jumpStep 175 = .ok (.invokevirtual 200, 3) := by decide +kernel
theorem dX7_jumpStep_178 : decode cX7_jumpStep 178 = .ok (.goto 7, 3) := by decide +kernel
theorem dX7_jumpStep_181 : decode cX7_jumpStep 181 = .ok (.aload_n 0, 1) := by decide +kernel
theorem dX7_jumpStep_182 : decode cX7_jumpStep 182 = .ok (.invokevirtual 203, 3) := by decide +kernel
theorem dX7_jumpStep_185 : decode cX7_jumpStep 185 = .ok (.aload_n 0, 1) := by decide +kernel
theorem dX7_jumpStep_186 : decode cX7_jumpStep 186 = .ok (.aload_n 0, 1) := by decide +kernel
theorem dX7_jumpStep_187 : decode cX7_jumpStep 187 = .ok (.getfield 148, 3) := by decide +kernel
theorem dX7_jumpStep_190 : decode cX7_jumpStep 190 = .ok (.iload_n 1, 1) := by decide +kernel
theorem dX7_jumpStep_191 : decode cX7_jumpStep 191 = .ok (.if_icmp .ne 7, 3) := by decide +kernel
theorem dX7_jumpStep_194 : decode cX7_jumpStep 194 = .ok (.iconst 0, 1) := by decide +kernel
theorem dX7_jumpStep_195 : decode cX7_jumpStep 195 = .ok (.goto 9, 3) := by decide +kernel
theorem dX7_jumpStep_198 : decode cX7_jumpStep 198 = .ok (.aload_n 0, 1) := by decide +kernel
theorem dX7_jumpStep_199 : decode cX7_jumpStep 199 = .ok (.getfield 148, 3) := by decide +kernel
theorem dX7_jumpStep_202 : decode cX7_jumpStep 202 = .ok (.iconst 1, 1) := by decide +kernel
theorem dX7_jumpStep_203 : decode cX7_jumpStep 203 = .ok (.iadd, 1) := by decide +kernel
theorem dX7_jumpStep_204 : decode cX7_jumpStep 204 = .ok (.putfield 148, 3) := by decide +kernel
theorem dX7_jumpStep_207 : decode cX7_jumpStep 207 = .ok (.return_, 1) := by decide +kernel
set_option maxRecDepth 20000 in
theorem ggX7_returnStep_X7_read : GoodIn wsX7_returnStep wsX7_read := goodIn_r _ [11, 12, 13, 14, 15, 16, 10, 17, 18, 19, 20, 21, 22, 23, 24, 25, 26, 27, 28, 29, 30, 31, 32, 33, 34, 35, 36, 37, 38, 39, 40, 41, 42, 43, 44, 55, 56, 57, 58, 59, 60, 61, 62, 63, 64, 65, 66, 67, 68, 69, 70, 71, 72, 73, 74, 75, 76, 77, 78, 79, 80, 81, 82, 83, 84, 85, 86, 87, 88, 89, 90, 91, 92, 93, 94, 95] (by decide +kernel) (by decide +kernel)
set_option maxRecDepth 20000 in
theorem gX7_returnStep_X7_read : GoodIn wsX7_returnStep (wsV RX7 161 RX7 yX7_read wsX7_read) := goodIn_app (goodIn_of _ (by decide +kernel)) ggX7_returnStep_X7_read
set_option maxRecDepth 20000 in
theorem ggX7_returnStep_X7_pull : GoodIn wsX7_returnStep wsX7_pull := goodIn_r _ [48, 49, 7, 8, 9, 10, 11, 12, 13, 14, 15, 16, 17, 18, 19, 20, 21, 22, 23, 24, 25, 26, 27, 28, 29, 30, 31, 32, 33, 34, 35, 36, 37, 38, 39, 40, 41, 42, 43, 44, 55, 56, 57, 58, 59, 60, 61, 62, 63, 64, 65, 66, 67, 68, 69, 70, 71, 72, 73, 74, 75, 76, 77, 78, 79, 80, 81, 82, 83, 84, 85, 86, 87, 88, 89, 90, 91, 92, 93, 94, 95] (by decide +kernel) (by decide +kernel)
set_option maxRecDepth 20000 in
theorem gX7_returnStep_X7_pull : GoodIn wsX7_returnStep (wsV RX7 206 RX7 yX7_pull wsX7_pull) := goodIn_app (goodIn_of _ (by decide +kernel)) ggX7_returnStep_X7_pull
set_option maxRecDepth 20000 in
theorem ggX7_returnStep_X7_next : GoodIn wsX7_returnStep wsX7_next := goodIn_r _ [53, 2, 54, 7, 8, 9, 10, 11, 12, 13, 14, 15, 16, 17, 18, 19, 20, 21, 22, 23, 24, 25, 26, 27, 28, 29, 30, 31, 32, 33, 34, 35, 36, 37, 38, 39, 40, 41, 42, 43, 44, 55, 56, 57, 58, 59, 60, 61, 62, 63, 64, 65, 66, 67, 68, 69, 70, 71, 72, 73, 74, 75, 76, 77, 78, 79, 80, 81, 82, 83, 84, 85, 86, 87, 88, 89, 90, 91, 92, 93, 94, 95] (by decide +kernel) (by decide +kernel)
set_option maxRecDepth 20000 in
theorem gX7_returnStep_X7_next : GoodIn wsX7_returnStep (wsV RX7 185 RX7 yX7_next wsX7_next) := goodIn_app (goodIn_of _ (by decide +kernel)) ggX7_returnStep_X7_next
