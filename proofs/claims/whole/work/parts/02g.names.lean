theorem dX5_mean_91 : decode cX5_mean 91 = .ok (.lmul, 1) := by decide +kernel
theorem dX5_mean_92 : decode cX5_mean 92 = .ok (.iload_n 1, 1) := by decide +kernel
theorem dX5_mean_93 : decode cX5_mean 93 = .ok (.i2l, 1) := by decide +kernel
theorem dX5_mean_94 : decode cX5_mean 94 = .ok (.ldiv, 1) := by decide +kernel
theorem dX5_mean_95 : decode cX5_mean 95 = .ok (.l2i, 1) := by decide +kernel
theorem dX5_mean_96 : decode cX5_mean 96 = .ok (.ireturn, 1) := by decide +kernel
theorem dX5_missed_0 : decode cX5_missed 0 = .ok (.aload_n 0, 1) := by decide +kernel
theorem dX5_missed_1 : decode cX5_missed 1 = .ok (.iconst 0, 1) := by decide +kernel
theorem dX5_missed_2 : decode cX5_missed 2 = .ok (.putfield 65, 3) := by decide +kernel
theorem dX5_missed_5 : decode cX5_missed 5 = .ok (.aload_n 0, 1) := by decide +kernel
theorem dX5_missed_6 : decode cX5_missed 6 = .ok (.getfield 135, 3) := by decide +kernel
theorem dX5_missed_9 : decode cX5_missed 9 = .ok (.ireturn, 1) := by decide +kernel
set_option maxRecDepth 20000 in
theorem ggX5_work_X5_in : GoodIn wsX5_work wsX5_in := goodIn_r _ [6] (by decide +kernel) (by decide +kernel)
set_option maxRecDepth 20000 in
theorem gX5_work_X5_in : GoodIn wsX5_work (va_wsS RX5 68 yX5_in wsX5_in) := goodIn_app (goodIn_of _ (by decide +kernel)) ggX5_work_X5_in
set_option maxRecDepth 20000 in
theorem ggX5_work_X5_throwing : GoodIn wsX5_work wsX5_throwing := goodIn_r _ [10, 11, 12, 13, 14, 15, 16, 17, 18, 19, 20, 21, 22, 23, 24, 25, 26, 27, 28, 29, 30, 31, 32, 33, 34, 35] (by decide +kernel) (by decide +kernel)
set_option maxRecDepth 20000 in
theorem gX5_work_X5_throwing : GoodIn wsX5_work (wsV RX5 79 RX5 yX5_throwing wsX5_throwing) := goodIn_app (goodIn_of _ (by decide +kernel)) ggX5_work_X5_throwing
theorem dX5_work_0 : decode cX5_work 0 = .ok (.aload_n 0, 1) := by decide +kernel
theorem dX5_work_1 : decode cX5_work 1 = .ok (.iload_n 1, 1) := by decide +kernel
theorem dX5_work_2 : decode cX5_work 2 = .ok (.iconst 0, 1) := by decide +kernel
theorem dX5_work_3 : decode cX5_work 3 = .ok (.aload_n 0, 1) := by decide +kernel
theorem dX5_work_4 : decode cX5_work 4 = .ok (.getfield 86, 3) := by decide +kernel
theorem dX5_work_7 : decode cX5_work 7 = .ok (.iconst 1, 1) := by decide +kernel
theorem dX5_work_8 : decode cX5_work 8 = .ok (.isub, 1) := by decide +kernel
theorem dX5_work_9 : decode cX5_work 9 = .ok (.invokestatic 68, 3) := by decide +kernel
theorem dX5_work_12 : decode cX5_work 12 = .ok (.ifCond .ne 7, 3) := by decide +kernel
theorem dX5_work_15 : decode cX5_work 15 = .ok (.iconst 1, 1) := by decide +kernel
theorem dX5_work_16 : decode cX5_work 16 = .ok (.goto 4, 3) := by decide +kernel
theorem dX5_work_19 : decode cX5_work 19 = .ok (.iconst 0, 1) := by decide +kernel
theorem dX5_work_20 : decode cX5_work 20 = .ok (.iconst 0, 1) := by decide +kernel
theorem dX5_work_21 : decode cX5_work 21 = .ok (.iconst 0, 1) := by decide +kernel
theorem dX5_work_22 : decode cX5_work 22 = .ok (.invokevirtual 79, 3) := by decide +kernel
theorem dX5_work_25 : decode cX5_work 25 = .ok (.ifCond .eq 5, 3) := by decide +kernel
theorem dX5_work_28 : decode cX5_work 28 = .ok (.iconst 0, 1) := by decide +kernel
theorem dX5_work_29 : decode cX5_work 29 = .ok (.ireturn, 1) := by decide +kernel
theorem dX5_work_30 : decode cX5_work 30 = .ok (.aload_n 0, 1) := by decide +kernel
theorem dX5_work_31 : decode cX5_work 31 = .ok (.getfield 59, 3) := by decide +kernel
theorem dX5_work_34 : decode cX5_work 34 = .ok (.iload_n 1, 1) := by decide +kernel
theorem dX5_work_35 : decode cX5_work 35 = .ok (.iaload, 1) := by decide +kernel
theorem dX5_work_36 : decode cX5_work 36 = .ok (.ireturn, 1) := by decide +kernel
set_option maxRecDepth 20000 in
theorem ggX5_worst_X5_isLate : GoodIn wsX5_worst wsX5_isLate := goodIn_r _ [8, 9, 10, 3, 11, 12, 13, 14, 15, 16, 17, 18, 19, 20, 21, 22, 23, 24, 25, 26, 27, 28, 29, 30, 31, 32, 33, 34, 35] (by decide +kernel) (by decide +kernel)
set_option maxRecDepth 20000 in
theorem gX5_worst_X5_isLate : GoodIn wsX5_worst (wsV RX5 138 RX5 yX5_isLate wsX5_isLate) := goodIn_app (goodIn_of _ (by decide +kernel)) ggX5_worst_X5_isLate
theorem dX5_worst_0 : decode cX5_worst 0 = .ok (.aload_n 0, 1) := by decide +kernel
theorem dX5_worst_1 : decode cX5_worst 1 = .ok (.iconst 0, 1) := by decide +kernel
theorem dX5_worst_2 : decode cX5_worst 2 = .ok (.putfield 65, 3) := by decide +kernel
theorem dX5_worst_5 : decode cX5_worst 5 = .ok (.iconst (-1), 1) := by decide +kernel
theorem dX5_worst_6 : decode cX5_worst 6 = .ok (.istore_n 1, 1) := by decide +kernel
theorem dX5_worst_7 : decode cX5_worst 7 = .ok (.iconst 0, 1) := by decide +kernel
theorem dX5_worst_8 : decode cX5_worst 8 = .ok (.istore_n 2, 1) := by decide +kernel
theorem dX5_worst_9 : decode cX5_worst 9 = .ok (.iconst 0, 1) := by decide +kernel
theorem dX5_worst_10 : decode cX5_worst 10 = .ok (.istore_n 3, 1) := by decide +kernel
theorem dX5_worst_11 : decode cX5_worst 11 = .ok (.iload_n 3, 1) := by decide +kernel
theorem dX5_worst_12 : decode cX5_worst 12 = .ok (.bipush 24, 2) := by decide +kernel
theorem dX5_worst_14 : decode cX5_worst 14 = .ok (.if_icmp .ge 74, 3) := by decide +kernel
theorem dX5_worst_17 : decode cX5_worst 17 = .ok (.iconst 0, 1) := by decide +kernel
theorem dX5_worst_18 : decode cX5_worst 18 = .ok (.istore 4, 2) := by decide +kernel
theorem dX5_worst_20 : decode cX5_worst 20 = .ok (.iconst 0, 1) := by decide +kernel
theorem dX5_worst_21 : decode cX5_worst 21 = .ok (.istore 5, 2) := by decide +kernel
theorem dX5_worst_23 : decode cX5_worst 23 = .ok (.iload 5, 2) := by decide +kernel
theorem dX5_worst_25 : decode cX5_worst 25 = .ok (.aload_n 0, 1) := by decide +kernel
theorem dX5_worst_26 : decode cX5_worst 26 = .ok (.getfield 99, 3) := by decide +kernel
theorem dX5_worst_29 : decode cX5_worst 29 = .ok (.if_icmp .ge 42, 3) := by decide +kernel
theorem dX5_worst_32 : decode cX5_worst 32 = .ok (.iload 4, 2) := by decide +kernel
theorem dX5_worst_34 : decode cX5_worst 34 = .ok (.aload_n 0, 1) := by decide +kernel
theorem dX5_worst_35 : decode cX5_worst 35 = .ok (.iload 5, 2) := by decide +kernel
theorem dX5_worst_37 : decode cX5_worst 37 = .ok (.invokevirtual 138, 3) := by decide +kernel
theorem dX5_worst_40 : decode cX5_worst 40 = .ok (.ifCond .eq 21, 3) := by decide +kernel
theorem dX5_worst_43 : decode cX5_worst 43 = .ok (.aload_n 0, 1) := by decide +kernel
theorem dX5_worst_44 : decode cX5_worst 44 = .ok (.getfield 35, 3) := by decide +kernel
theorem dX5_worst_47 : decode cX5_worst 47 = .ok (.iload 5, 2) := by decide +kernel
theorem dX5_worst_49 : decode cX5_worst 49 = .ok (.iaload, 1) := by decide +kernel
theorem dX5_worst_50 : decode cX5_worst 50 = .ok (.bipush 60, 2) := by decide +kernel
theorem dX5_worst_52 : decode cX5_worst 52 = .ok (.idiv, 1) := by decide +kernel
theorem dX5_worst_53 : decode cX5_worst 53 = .ok (.iload_n 3, 1) := by decide +kernel
theorem dX5_worst_54 : decode cX5_worst 54 = .ok (.if_icmp .ne 7, 3) := by decide +kernel
theorem dX5_worst_57 : decode cX5_worst 57 = .ok (.iconst 1, 1) := by decide +kernel
theorem dX5_worst_58 : decode cX5_worst 58 = .ok (.goto 4, 3) := by decide +kernel
theorem dX5_worst_61 : decode cX5_worst 61 = .ok (.iconst 0, 1) := by decide +kernel
theorem dX5_worst_62 : decode cX5_worst 62 = .ok (.iadd, 1) := by decide +kernel
theorem dX5_worst_63 : decode cX5_worst 63 = .ok (.istore 4, 2) := by decide +kernel
theorem dX5_worst_65 : decode cX5_worst 65 = .ok (.iinc 5 1, 3) := by decide +kernel
theorem dX5_worst_68 : decode cX5_worst 68 = .ok (.goto (-45), 3) := by decide +kernel
theorem dX5_worst_71 : decode cX5_worst 71 = .ok (.iload 4, 2) := by decide +kernel
theorem dX5_worst_73 : decode cX5_worst 73 = .ok (.iload_n 2, 1) := by decide +kernel
theorem dX5_worst_74 : decode cX5_worst 74 = .ok (.if_icmp .le 8, 3) := by decide +kernel
theorem dX5_worst_77 : decode cX5_worst 77 = .ok (.iload_n 3, 1) := by decide +kernel
theorem dX5_worst_78 : decode cX5_worst 78 = .ok (.istore_n 1, 1) := by decide +kernel
theorem dX5_worst_79 : decode cX5_worst 79 = .ok (.iload 4, 2) := by decide +kernel
theorem dX5_worst_81 : decode cX5_worst 81 = .ok (.istore_n 2, 1) := by decide +kernel
theorem dX5_worst_82 : decode cX5_worst 82 = .ok (.iinc 3 1, 3) := by decide +kernel
theorem dX5_worst_85 : decode cX5_worst 85 = .ok (.goto (-74), 3) := by decide +kernel
theorem dX5_worst_88 : decode cX5_worst 88 = .ok (.iload_n 1, 1) := by decide +kernel
theorem dX5_worst_89 : decode cX5_worst 89 = .ok (.ireturn, 1) := by decide +kernel
set_option maxRecDepth 20000 in
theorem ggX5_arrived_X5_in : GoodIn wsX5_arrived wsX5_in := goodIn_r _ [7] (by decide +kernel) (by decide +kernel)
set_option maxRecDepth 20000 in
theorem gX5_arrived_X5_in : GoodIn wsX5_arrived (va_wsS RX5 68 yX5_in wsX5_in) := goodIn_app (goodIn_of _ (by decide +kernel)) ggX5_arrived_X5_in
set_option maxRecDepth 20000 in
theorem ggX5_arrived_X5_throwing : GoodIn wsX5_arrived wsX5_throwing := goodIn_r _ [11, 12, 13, 14, 15, 16, 17, 18, 19, 20, 21, 22, 23, 24, 25, 26, 27, 28, 29, 30, 31, 32, 33, 34, 35, 36] (by decide +kernel) (by decide +kernel)
set_option maxRecDepth 20000 in
theorem gX5_arrived_X5_throwing : GoodIn wsX5_arrived (wsV RX5 79 RX5 yX5_throwing wsX5_throwing) := goodIn_app (goodIn_of _ (by decide +kernel)) ggX5_arrived_X5_throwing
theorem dX5_arrived_0 : decode cX5_arrived 0 = .ok (.aload_n 0, 1) := by decide +kernel
theorem dX5_arrived_1 : decode cX5_arrived 1 = .ok (.iload_n 1, 1) := by decide +kernel
theorem dX5_arrived_2 : decode cX5_arrived 2 = .ok (.iconst 0, 1) := by decide +kernel
theorem dX5_arrived_3 : decode cX5_arrived 3 = .ok (.sipush 9999, 3) := by decide +kernel
theorem dX5_arrived_6 : decode cX5_arrived 6 = .ok (.invokestatic 68, 3) := by decide +kernel
theorem dX5_arrived_9 : decode cX5_arrived 9 = .ok (.ifCond .ne 7, 3) := by decide +kernel
theorem dX5_arrived_12 : decode cX5_arrived 12 = .ok (.iconst 1, 1) := by decide +kernel
theorem dX5_arrived_13 : decode cX5_arrived 13 = .ok (.goto 4, 3) := by decide +kernel
theorem dX5_arrived_16 : decode cX5_arrived 16 = .ok (.iconst 0, 1) := by decide +kernel
theorem dX5_arrived_17 : decode cX5_arrived 17 = .ok (.iconst 0, 1) := by decide +kernel
theorem dX5_arrived_18 : decode cX5_arrived 18 = .ok (.iconst 0, 1) := by decide +kernel
theorem dX5_arrived_19 : decode cX5_arrived 19 = .ok (.invokevirtual 79, 3) := by decide +kernel
theorem dX5_arrived_22 : decode cX5_arrived 22 = .ok (.ifCond .eq 5, 3) := by decide +kernel
theorem dX5_arrived_25 : decode cX5_arrived 25 = .ok (.iconst 0, 1) := by decide +kernel
theorem dX5_arrived_26 : decode cX5_arrived 26 = .ok (.ireturn, 1) := by decide +kernel
theorem dX5_arrived_27 : decode cX5_arrived 27 = .ok (.iconst 0, 1) := by decide +kernel
theorem dX5_arrived_28 : decode cX5_arrived 28 = .ok (.istore_n 2, 1) := by decide +kernel
theorem dX5_arrived_29 : decode cX5_arrived 29 = .ok (.iconst 0, 1) := by decide +kernel
theorem dX5_arrived_30 : decode cX5_arrived 30 = .ok (.istore_n 3, 1) := by decide +kernel
theorem dX5_arrived_31 : decode cX5_arrived 31 = .ok (.iload_n 3, 1) := by decide +kernel
theorem dX5_arrived_32 : decode cX5_arrived 32 = .ok (.aload_n 0, 1) := by decide +kernel
theorem dX5_arrived_33 : decode cX5_arrived 33 = .ok (.getfield 99, 3) := by decide +kernel
theorem dX5_arrived_36 : decode cX5_arrived 36 = .ok (.if_icmp .ge 36, 3) := by decide +kernel
theorem dX5_arrived_39 : decode cX5_arrived 39 = .ok (.iload_n 2, 1) := by decide +kernel
theorem dX5_arrived_40 : decode cX5_arrived 40 = .ok (.aload_n 0, 1) := by decide +kernel
theorem dX5_arrived_41 : decode cX5_arrived 41 = .ok (.getfield 47, 3) := by decide +kernel
theorem dX5_arrived_44 : decode cX5_arrived 44 = .ok (.iload_n 3, 1) := by decide +kernel
theorem dX5_arrived_45 : decode cX5_arrived 45 = .ok (.iaload, 1) := by decide +kernel
theorem dX5_arrived_46 : decode cX5_arrived 46 = .ok (.ifCond .lt 17, 3) := by decide +kernel
theorem dX5_arrived_49 : decode cX5_arrived 49 = .ok (.aload_n 0, 1) := by decide +kernel
theorem dX5_arrived_50 : decode cX5_arrived 50 = .ok (.getfield 50, 3) := by decide +kernel
theorem dX5_arrived_53 : decode cX5_arrived 53 = .ok (.iload_n 3, 1) := by decide +kernel
theorem dX5_arrived_54 : decode cX5_arrived 54 = .ok (.iaload, 1) := by decide +kernel
theorem dX5_arrived_55 : decode cX5_arrived 55 = .ok (.iload_n 1, 1) := by decide +kernel
theorem dX5_arrived_56 : decode cX5_arrived 56 = .ok (.if_icmp .gt 7, 3) := by decide +kernel
theorem dX5_arrived_59 : decode cX5_arrived 59 = .ok (.iconst 1, 1) := by decide +kernel
theorem dX5_arrived_60 : decode cX5_arrived 60 = .ok (.goto 4, 3) := by decide +kernel
theorem dX5_arrived_63 : decode cX5_arrived 63 = .ok (.iconst 0, 1) := by decide +kernel
theorem dX5_arrived_64 : decode cX5_arrived 64 = .ok (.iadd, 1) := by decide +kernel
theorem dX5_arrived_65 : decode cX5_arrived 65 = .ok (.istore_n 2, 1) := by decide +kernel
theorem dX5_arrived_66 : decode cX5_arrived 66 = .ok (.iinc 3 1, 3) := by decide +kernel
theorem dX5_arrived_69 : decode cX5_arrived 69 = .ok (.goto (-38), 3) := by decide +kernel
theorem dX5_arrived_72 : decode cX5_arrived 72 = .ok (.iload_n 2, 1) := by decide +kernel
theorem dX5_arrived_73 : decode cX5_arrived 73 = .ok (.ireturn, 1) := by decide +kernel
set_option maxRecDepth 20000 in
theorem ggX5_unlucky_X5_in : GoodIn wsX5_unlucky wsX5_in := goodIn_r _ [5] (by decide +kernel) (by decide +kernel)
set_option maxRecDepth 20000 in
theorem gX5_unlucky_X5_in : GoodIn wsX5_unlucky (va_wsS RX5 68 yX5_in wsX5_in) := goodIn_app (goodIn_of _ (by decide +kernel)) ggX5_unlucky_X5_in
set_option maxRecDepth 20000 in
theorem ggX5_unlucky_X5_isDay : GoodIn wsX5_unlucky wsX5_isDay := goodIn_r _ [8, 2, 3, 4, 5] (by decide +kernel) (by decide +kernel)
set_option maxRecDepth 20000 in
theorem gX5_unlucky_X5_isDay : GoodIn wsX5_unlucky (va_wsS RX5 141 yX5_isDay wsX5_isDay) := goodIn_app (goodIn_of _ (by decide +kernel)) ggX5_unlucky_X5_isDay
set_option maxRecDepth 20000 in
theorem ggX5_unlucky_X5_throwing : GoodIn wsX5_unlucky wsX5_throwing := goodIn_r _ [12, 13, 89, 90, 91, 92, 93, 94, 95, 96, 97, 98, 99, 100, 101, 102, 103, 104, 105, 106, 107, 108, 109, 110, 111, 112] (by decide +kernel) (by decide +kernel)
set_option maxRecDepth 20000 in
theorem gX5_unlucky_X5_throwing : GoodIn wsX5_unlucky (wsV RX5 79 RX5 yX5_throwing wsX5_throwing) := goodIn_app (goodIn_of _ (by decide +kernel)) ggX5_unlucky_X5_throwing
set_option maxRecDepth 20000 in
theorem ggX5_unlucky_X5_play : GoodIn wsX5_unlucky wsX5_play := goodIn_r _ [17, 18, 19, 20, 21, 22, 23, 24, 25, 26, 27, 28, 4, 29, 30, 31, 32, 33, 34, 35, 36, 37, 38, 39, 40, 41, 42, 43, 44, 45, 46, 1, 47, 48, 49, 50, 51, 52, 53, 54, 55, 56, 57, 58, 59, 60, 61, 62, 63, 64, 65, 66, 67, 68, 69, 70, 71, 72, 73, 74, 75, 89, 90, 91, 92, 93, 94, 95, 96, 97, 98, 99, 100, 101, 102, 103, 104, 105, 106, 107, 108, 109, 110, 111, 112] (by decide +kernel) (by decide +kernel)
set_option maxRecDepth 20000 in
theorem gX5_unlucky_X5_play : GoodIn wsX5_unlucky (wsV RX5 144 RX5 yX5_play wsX5_play) := goodIn_app (goodIn_of _ (by decide +kernel)) ggX5_unlucky_X5_play
set_option maxRecDepth 20000 in
theorem ggX5_unlucky_X5_late : GoodIn wsX5_unlucky wsX5_late := goodIn_r _ [79, 30, 80, 81, 82, 4, 83, 35, 36, 32, 84, 89, 90, 91, 92, 93, 94, 95, 96, 97, 98, 99, 100, 101, 102, 103, 104, 105, 106, 107, 108, 109, 110, 111, 112] (by decide +kernel) (by decide +kernel)
set_option maxRecDepth 20000 in
theorem gX5_unlucky_X5_late : GoodIn wsX5_unlucky (wsV RX5 147 RX5 yX5_late wsX5_late) := goodIn_app (goodIn_of _ (by decide +kernel)) ggX5_unlucky_X5_late
set_option maxRecDepth 20000 in
theorem ggX5_unlucky_X5_forget : GoodIn wsX5_unlucky wsX5_forget := goodIn_r _ [88, 30, 25, 19, 89, 90, 91, 92, 93, 94, 95, 96, 97, 98, 99, 100, 101, 102, 103, 104, 105, 106, 107, 108, 109, 110, 111, 112] (by decide +kernel) (by decide +kernel)
set_option maxRecDepth 20000 in
theorem gX5_unlucky_X5_forget : GoodIn wsX5_unlucky (wsV RX5 160 RX5 yX5_forget wsX5_forget) := goodIn_app (goodIn_of _ (by decide +kernel)) ggX5_unlucky_X5_forget
theorem dX5_unlucky_0 : decode cX5_unlucky 0 = .ok (.iload_n 3, 1) := by decide +kernel
theorem dX5_unlucky_1 : decode cX5_unlucky 1 = .ok (.iconst 1, 1) := by decide +kernel
theorem dX5_unlucky_2 : decode cX5_unlucky 2 = .ok (.bipush 8, 2) := by decide +kernel
theorem dX5_unlucky_4 : decode cX5_unlucky 4 = .ok (.invokestatic 68, 3) := by decide +kernel
theorem dX5_unlucky_7 : decode cX5_unlucky 7 = .ok (.ifCond .eq 22, 3) := by decide +kernel
theorem dX5_unlucky_10 : decode cX5_unlucky 10 = .ok (.iload 4, 2) := by decide +kernel
theorem dX5_unlucky_12 : decode cX5_unlucky 12 = .ok (.invokestatic 141, 3) := by decide +kernel
theorem dX5_unlucky_15 : decode cX5_unlucky 15 = .ok (.ifCond .eq 14, 3) := by decide +kernel
theorem dX5_unlucky_18 : decode cX5_unlucky 18 = .ok (.iload 5, 2) := by decide +kernel
theorem dX5_unlucky_20 : decode cX5_unlucky 20 = .ok (.iconst 0, 1) := by decide +kernel
theorem dX5_unlucky_21 : decode cX5_unlucky 21 = .ok (.bipush 60, 2) := by decide +kernel
theorem dX5_unlucky_23 : decode cX5_unlucky 23 = .ok (.invokestatic 68, 3) := by decide +kernel
theorem dX5_unlucky_26 : decode cX5_unlucky 26 = .ok (.ifCond .ne 7, 3) := by decide +kernel
theorem dX5_unlucky_29 : decode cX5_unlucky 29 = .ok (.iconst 1, 1) := by decide +kernel
theorem dX5_unlucky_30 : decode cX5_unlucky 30 = .ok (.goto 4, 3) := by decide +kernel
theorem dX5_unlucky_33 : decode cX5_unlucky 33 = .ok (.iconst 0, 1) := by decide +kernel
theorem dX5_unlucky_34 : decode cX5_unlucky 34 = .ok (.istore 6, 2) := by decide +kernel
theorem dX5_unlucky_36 : decode cX5_unlucky 36 = .ok (.aload_n 0, 1) := by decide +kernel
theorem dX5_unlucky_37 : decode cX5_unlucky 37 = .ok (.iload_n 1, 1) := by decide +kernel
theorem dX5_unlucky_38 : decode cX5_unlucky 38 = .ok (.iconst 0, 1) := by decide +kernel
theorem dX5_unlucky_39 : decode cX5_unlucky 39 = .ok (.iconst 3, 1) := by decide +kernel
theorem dX5_unlucky_40 : decode cX5_unlucky 40 = .ok (.invokestatic 68, 3) := by decide +kernel
theorem dX5_unlucky_43 : decode cX5_unlucky 43 = .ok (.ifCond .ne 7, 3) := by decide +kernel
theorem dX5_unlucky_46 : decode cX5_unlucky 46 = .ok (.iconst 1, 1) := by decide +kernel
theorem dX5_unlucky_47 : decode cX5_unlucky 47 = .ok (.goto 4, 3) := by decide +kernel
theorem dX5_unlucky_50 : decode cX5_unlucky 50 = .ok (.iconst 0, 1) := by decide +kernel
theorem dX5_unlucky_51 : decode cX5_unlucky 51 = .ok (.iload 6, 2) := by decide +kernel
theorem dX5_unlucky_53 : decode cX5_unlucky 53 = .ok (.iload 5, 2) := by decide +kernel
theorem dX5_unlucky_55 : decode cX5_unlucky 55 = .ok (.ifCond .le 14, 3) := by decide +kernel
theorem dX5_unlucky_58 : decode cX5_unlucky 58 = .ok (.aload_n 0, 1) := by decide +kernel
theorem dX5_unlucky_59 : decode cX5_unlucky 59 = .ok (.getfield 83, 3) := by decide +kernel
theorem dX5_unlucky_62 : decode cX5_unlucky 62 = .ok (.ifCond .ne 7, 3) := by decide +kernel
theorem dX5_unlucky_65 : decode cX5_unlucky 65 = .ok (.iconst 1, 1) := by decide +kernel
theorem dX5_unlucky_66 : decode cX5_unlucky 66 = .ok (.goto 4, 3) := by decide +kernel
theorem dX5_unlucky_69 : decode cX5_unlucky 69 = .ok (.iconst 0, 1) := by decide +kernel
theorem dX5_unlucky_70 : decode cX5_unlucky 70 = .ok (.invokevirtual 79, 3) := by decide +kernel
theorem dX5_unlucky_73 : decode cX5_unlucky 73 = .ok (.ifCond .eq 5, 3) := by decide +kernel
theorem dX5_unlucky_76 : decode cX5_unlucky 76 = .ok (.iconst 0, 1) := by decide +kernel
theorem dX5_unlucky_77 : decode cX5_unlucky 77 = .ok (.ireturn, 1) := by decide +kernel
theorem dX5_unlucky_78 : decode cX5_unlucky 78 = .ok (.iload_n 2, 1) := by decide +kernel
theorem dX5_unlucky_79 : decode cX5_unlucky 79 = .ok (.istore 7, 2) := by decide +kernel
theorem dX5_unlucky_81 : decode cX5_unlucky 81 = .ok (.iconst (-1), 1) := by decide +kernel
theorem dX5_unlucky_82 : decode cX5_unlucky 82 = .ok (.istore 8, 2) := by decide +kernel
theorem dX5_unlucky_84 : decode cX5_unlucky 84 = .ok (.iconst 0, 1) := by decide +kernel
theorem dX5_unlucky_85 : decode cX5_unlucky 85 = .ok (.istore 9, 2) := by decide +kernel
theorem dX5_unlucky_87 : decode cX5_unlucky 87 = .ok (.iload 9, 2) := by decide +kernel
theorem dX5_unlucky_89 : decode cX5_unlucky 89 = .ok (.iload_n 3, 1) := by decide +kernel
theorem dX5_unlucky_90 : decode cX5_unlucky 90 = .ok (.if_icmp .ge 43, 3) := by decide +kernel
theorem dX5_unlucky_93 : decode cX5_unlucky 93 = .ok (.aload_n 0, 1) := by decide +kernel
theorem dX5_unlucky_94 : decode cX5_unlucky 94 = .ok (.iload_n 1, 1) := by decide +kernel
theorem dX5_unlucky_95 : decode cX5_unlucky 95 = .ok (.iload_n 2, 1) := by decide +kernel
theorem dX5_unlucky_96 : decode cX5_unlucky 96 = .ok (.iload 9, 2) := by decide +kernel
theorem dX5_unlucky_98 : decode cX5_unlucky 98 = .ok (.iadd, 1) := by decide +kernel
theorem dX5_unlucky_99 : decode cX5_unlucky 99 = .ok (.iload 4, 2) := by decide +kernel
theorem dX5_unlucky_101 : decode cX5_unlucky 101 = .ok (.iload 5, 2) := by decide +kernel
theorem dX5_unlucky_103 : decode cX5_unlucky 103 = .ok (.invokevirtual 144, 3) := by decide +kernel
theorem dX5_unlucky_106 : decode cX5_unlucky 106 = .ok (.aload_n 0, 1) := by decide +kernel
theorem dX5_unlucky_107 : decode cX5_unlucky 107 = .ok (.invokevirtual 147, 3) := by decide +kernel
theorem dX5_unlucky_110 : decode cX5_unlucky 110 = .ok (.iload 8, 2) := by decide +kernel
theorem dX5_unlucky_112 : decode cX5_unlucky 112 = .ok (.if_icmp .le 15, 3) := by decide +kernel
theorem dX5_unlucky_115 : decode cX5_unlucky 115 = .ok (.iload_n 2, 1) := by decide +kernel
theorem dX5_unlucky_116 : decode cX5_unlucky 116 = .ok (.iload 9, 2) := by decide +kernel
theorem dX5_unlucky_118 : decode cX5_unlucky 118 = .ok (.iadd, 1) := by decide +kernel
theorem dX5_unlucky_119 : decode cX5_unlucky 119 = .ok (.istore 7, 2) := by decide +kernel
theorem dX5_unlucky_121 : decode cX5_unlucky 121 = .ok (.aload_n 0, 1) := by decide +kernel
theorem dX5_unlucky_122 : decode cX5_unlucky 122 = .ok (.invokevirtual 147, 3) := by decide +kernel
theorem dX5_unlucky_125 : decode cX5_unlucky 125 = .ok (.istore 8, 2) := by decide +kernel
theorem dX5_unlucky_127 : decode cX5_unlucky 127 = .ok (.iinc 9 1, 3) := by decide +kernel
theorem dX5_unlucky_130 : decode cX5_unlucky 130 = .ok (.goto (-43), 3) := by decide +kernel
theorem dX5_unlucky_133 : decode cX5_unlucky 133 = .ok (.aload_n 0, 1) := by decide +kernel
theorem dX5_unlucky_134 : decode cX5_unlucky 134 = .ok (.invokevirtual 160, 3) := by decide +kernel
theorem dX5_unlucky_137 : decode cX5_unlucky 137 = .ok (.iload 7, 2) := by decide +kernel
theorem dX5_unlucky_139 : decode cX5_unlucky 139 = .ok (.ireturn, 1) := by decide +kernel
theorem dX5_tail_0 : decode cX5_tail 0 = .ok (.lconst 0, 1) := by decide +kernel
theorem dX5_tail_1 : decode cX5_tail 1 = .ok (.lstore_n 2, 1) := by decide +kernel
theorem dX5_tail_2 : decode cX5_tail 2 = .ok (.lconst 1, 1) := by decide +kernel
theorem dX5_tail_3 : decode cX5_tail 3 = .ok (.lstore 4, 2) := by decide +kernel
theorem dX5_tail_5 : decode cX5_tail 5 = .ok (.iconst 0, 1) := by decide +kernel
theorem dX5_tail_6 : decode cX5_tail 6 = .ok (.istore 6, 2) := by decide +kernel
theorem dX5_tail_8 : decode cX5_tail 8 = .ok (.iload 6, 2) := by decide +kernel
theorem dX5_tail_10 : decode cX5_tail 10 = .ok (.iload_n 0, 1) := by decide +kernel
theorem dX5_tail_11 : decode cX5_tail 11 = .ok (.if_icmp .gt 40, 3) := by decide +kernel
theorem dX5_tail_14 : decode cX5_tail 14 = .ok (.lload_n 2, 1) := by decide +kernel
theorem dX5_tail_15 : decode cX5_tail 15 = .ok (.iload 6, 2) := by decide +kernel
theorem dX5_tail_17 : decode cX5_tail 17 = .ok (.iload_n 1, 1) := by decide +kernel
theorem dX5_tail_18 : decode cX5_tail 18 = .ok (.if_icmp .lt 8, 3) := by decide +kernel
theorem dX5_tail_21 : decode cX5_tail 21 = .ok (.lload 4, 2) := by decide +kernel
theorem dX5_tail_23 : decode cX5_tail 23 = .ok (.goto 4, 3) := by decide +kernel
theorem dX5_tail_26 : decode cX5_tail 26 = .ok (.lconst 0, 1) := by decide +kernel
theorem dX5_tail_27 : decode cX5_tail 27 = .ok (.ladd, 1) := by decide +kernel
theorem dX5_tail_28 : decode cX5_tail 28 = .ok (.lstore_n 2, 1) := by decide +kernel
theorem dX5_tail_29 : decode cX5_tail 29 = .ok (.lload 4, 2) := by decide +kernel
theorem dX5_tail_31 : decode cX5_tail 31 = .ok (.iload_n 0, 1) := by decide +kernel
theorem dX5_tail_32 : decode cX5_tail 32 = .ok (.iload 6, 2) := by decide +kernel
theorem dX5_tail_34 : decode cX5_tail 34 = .ok (.isub, 1) := by decide +kernel
theorem dX5_tail_35 : decode cX5_tail 35 = .ok (.i2l, 1) := by decide +kernel
theorem dX5_tail_36 : decode cX5_tail 36 = .ok (.lmul, 1) := by decide +kernel
theorem dX5_tail_37 : decode cX5_tail 37 = .ok (.iload 6, 2) := by decide +kernel
theorem dX5_tail_39 : decode cX5_tail 39 = .ok (.iconst 1, 1) := by decide +kernel
theorem dX5_tail_40 : decode cX5_tail 40 = .ok (.iadd, 1) := by decide +kernel
theorem dX5_tail_41 : decode cX5_tail 41 = .ok (.i2l, 1) := by decide +kernel
theorem dX5_tail_42 : decode cX5_tail 42 = .ok (.ldiv, 1) := by decide +kernel
theorem dX5_tail_43 : decode cX5_tail 43 = .ok (.lstore 4, 2) := by decide +kernel
theorem dX5_tail_45 : decode cX5_tail 45 = .ok (.iinc 6 1, 3) := by decide +kernel
theorem dX5_tail_48 : decode cX5_tail 48 = .ok (.goto (-40), 3) := by decide +kernel
theorem dX5_tail_51 : decode cX5_tail 51 = .ok (.lload_n 2, 1) := by decide +kernel
theorem dX5_tail_52 : decode cX5_tail 52 = .ok (.lreturn, 1) := by decide +kernel
set_option maxRecDepth 20000 in
theorem ggX5_compare_X5_in : GoodIn wsX5_compare wsX5_in := goodIn_r _ [5] (by decide +kernel) (by decide +kernel)
set_option maxRecDepth 20000 in
theorem gX5_compare_X5_in : GoodIn wsX5_compare (va_wsS RX5 68 yX5_in wsX5_in) := goodIn_app (goodIn_of _ (by decide +kernel)) ggX5_compare_X5_in
set_option maxRecDepth 20000 in
theorem ggX5_compare_X5_isDay : GoodIn wsX5_compare wsX5_isDay := goodIn_r _ [8, 2, 3, 4, 5] (by decide +kernel) (by decide +kernel)
set_option maxRecDepth 20000 in
theorem gX5_compare_X5_isDay : GoodIn wsX5_compare (va_wsS RX5 141 yX5_isDay wsX5_isDay) := goodIn_app (goodIn_of _ (by decide +kernel)) ggX5_compare_X5_isDay
set_option maxRecDepth 20000 in
theorem ggX5_compare_X5_throwing : GoodIn wsX5_compare wsX5_throwing := goodIn_r _ [12, 13, 95, 96, 97, 98, 99, 100, 101, 102, 103, 104, 105, 106, 107, 108, 109, 110, 111, 112, 113, 114, 115, 116, 117, 118] (by decide +kernel) (by decide +kernel)
set_option maxRecDepth 20000 in
theorem gX5_compare_X5_throwing : GoodIn wsX5_compare (wsV RX5 79 RX5 yX5_throwing wsX5_throwing) := goodIn_app (goodIn_of _ (by decide +kernel)) ggX5_compare_X5_throwing
set_option maxRecDepth 20000 in
theorem ggX5_compare_X5_play : GoodIn wsX5_compare wsX5_play := goodIn_r _ [17, 18, 19, 20, 21, 22, 23, 24, 25, 26, 27, 28, 4, 29, 30, 31, 32, 33, 34, 35, 36, 37, 38, 39, 40, 41, 42, 43, 44, 45, 46, 1, 47, 48, 49, 50, 51, 52, 53, 54, 55, 56, 57, 58, 59, 60, 61, 62, 63, 64, 65, 66, 67, 68, 69, 70, 71, 72, 73, 74, 75, 95, 96, 97, 98, 99, 100, 101, 102, 103, 104, 105, 106, 107, 108, 109, 110, 111, 112, 113, 114, 115, 116, 117, 118] (by decide +kernel) (by decide +kernel)
set_option maxRecDepth 20000 in
theorem gX5_compare_X5_play : GoodIn wsX5_compare (wsV RX5 144 RX5 yX5_play wsX5_play) := goodIn_app (goodIn_of _ (by decide +kernel)) ggX5_compare_X5_play
set_option maxRecDepth 20000 in
theorem ggX5_compare_X5_late : GoodIn wsX5_compare wsX5_late := goodIn_r _ [79, 30, 80, 81, 82, 4, 83, 35, 36, 32, 84, 95, 96, 97, 98, 99, 100, 101, 102, 103, 104, 105, 106, 107, 108, 109, 110, 111, 112, 113, 114, 115, 116, 117, 118] (by decide +kernel) (by decide +kernel)
set_option maxRecDepth 20000 in
theorem gX5_compare_X5_late : GoodIn wsX5_compare (wsV RX5 147 RX5 yX5_late wsX5_late) := goodIn_app (goodIn_of _ (by decide +kernel)) ggX5_compare_X5_late
set_option maxRecDepth 20000 in
theorem ggX5_compare_X5_forget : GoodIn wsX5_compare wsX5_forget := goodIn_r _ [88, 30, 25, 19, 95, 96, 97, 98, 99, 100, 101, 102, 103, 104, 105, 106, 107, 108, 109, 110, 111, 112, 113, 114, 115, 116, 117, 118] (by decide +kernel) (by decide +kernel)
set_option maxRecDepth 20000 in
theorem gX5_compare_X5_forget : GoodIn wsX5_compare (wsV RX5 160 RX5 yX5_forget wsX5_forget) := goodIn_app (goodIn_of _ (by decide +kernel)) ggX5_compare_X5_forget
set_option maxRecDepth 20000 in
theorem ggX5_compare_X5_tail : GoodIn wsX5_compare wsX5_tail := goodIn_r _ [91] (by decide +kernel) (by decide +kernel)
set_option maxRecDepth 20000 in
theorem gX5_compare_X5_tail : GoodIn wsX5_compare (va_wsS RX5 163 yX5_tail wsX5_tail) := goodIn_app (goodIn_of _ (by decide +kernel)) ggX5_compare_X5_tail
set_option maxRecDepth 20000 in
theorem ggX5_compare_X5_common : GoodIn wsX5_compare wsX5_common := goodIn_r _ [94] (by decide +kernel) (by decide +kernel)
set_option maxRecDepth 20000 in
theorem gX5_compare_X5_common : GoodIn wsX5_compare (va_wsS RX5 154 yX5_common wsX5_common) := goodIn_app (goodIn_of _ (by decide +kernel)) ggX5_compare_X5_common
theorem dX5_compare_0 : decode cX5_compare 0 = .ok (.iload_n 1, 1) := by decide +kernel
theorem dX5_compare_1 : decode cX5_compare 1 = .ok (.iconst 0, 1) := by decide +kernel
theorem dX5_compare_2 : decode cX5_compare 2 = .ok (.iconst 3, 1) := by decide +kernel
theorem dX5_compare_3 : decode cX5_compare 3 = .ok (.invokestatic 68, 3) := by decide +kernel
theorem dX5_compare_6 : decode cX5_compare 6 = .ok (.ifCond .eq 22, 3) := by decide +kernel
theorem dX5_compare_9 : decode cX5_compare 9 = .ok (.iload_n 2, 1) := by decide +kernel
theorem dX5_compare_10 : decode cX5_compare 10 = .ok (.iconst 0, 1) := by decide +kernel
theorem dX5_compare_11 : decode cX5_compare 11 = .ok (.iconst 3, 1) := by decide +kernel
theorem dX5_compare_12 : decode cX5_compare 12 = .ok (.invokestatic 68, 3) := by decide +kernel
theorem dX5_compare_15 : decode cX5_compare 15 = .ok (.ifCond .eq 13, 3) := by decide +kernel
theorem dX5_compare_18 : decode cX5_compare 18 = .ok (.iload 6, 2) := by decide +kernel
theorem dX5_compare_20 : decode cX5_compare 20 = .ok (.iconst 0, 1) := by decide +kernel
theorem dX5_compare_21 : decode cX5_compare 21 = .ok (.iconst 3, 1) := by decide +kernel
theorem dX5_compare_22 : decode cX5_compare 22 = .ok (.invokestatic 68, 3) := by decide +kernel
theorem dX5_compare_25 : decode cX5_compare 25 = .ok (.ifCond .ne 7, 3) := by decide +kernel
theorem dX5_compare_28 : decode cX5_compare 28 = .ok (.iconst 1, 1) := by decide +kernel
theorem dX5_compare_29 : decode cX5_compare 29 = .ok (.goto 4, 3) := by decide +kernel
theorem dX5_compare_32 : decode cX5_compare 32 = .ok (.iconst 0, 1) := by decide +kernel
theorem dX5_compare_33 : decode cX5_compare 33 = .ok (.istore 7, 2) := by decide +kernel
theorem dX5_compare_35 : decode cX5_compare 35 = .ok (.iload 5, 2) := by decide +kernel
theorem dX5_compare_37 : decode cX5_compare 37 = .ok (.iconst 1, 1) := by decide +kernel
theorem dX5_compare_38 : decode cX5_compare 38 = .ok (.bipush 20, 2) := by decide +kernel
theorem dX5_compare_40 : decode cX5_compare 40 = .ok (.invokestatic 68, 3) := by decide +kernel
theorem dX5_compare_43 : decode cX5_compare 43 = .ok (.ifCond .eq 22, 3) := by decide +kernel
theorem dX5_compare_46 : decode cX5_compare 46 = .ok (.iload 4, 2) := by decide +kernel
theorem dX5_compare_48 : decode cX5_compare 48 = .ok (.invokestatic 141, 3) := by decide +kernel
theorem dX5_compare_51 : decode cX5_compare 51 = .ok (.ifCond .eq 14, 3) := by decide +kernel
theorem dX5_compare_54 : decode cX5_compare 54 = .ok (.iload 4, 2) := by decide +kernel
theorem dX5_compare_56 : decode cX5_compare 56 = .ok (.iload 5, 2) := by decide +kernel
theorem dX5_compare_58 : decode cX5_compare 58 = .ok (.iadd, 1) := by decide +kernel
theorem dX5_compare_59 : decode cX5_compare 59 = .ok (.sipush 1000, 3) := by decide +kernel
theorem dX5_compare_62 : decode cX5_compare 62 = .ok (.if_icmp .le 7, 3) := by decide +kernel
theorem dX5_compare_65 : decode cX5_compare 65 = .ok (.iconst 1, 1) := by decide +kernel
theorem dX5_compare_66 : decode cX5_compare 66 = .ok (.goto 4, 3) := by decide +kernel
theorem dX5_compare_69 : decode cX5_compare 69 = .ok (.iconst 0, 1) := by decide +kernel
theorem dX5_compare_70 : decode cX5_compare 70 = .ok (.istore 8, 2) := by decide +kernel
theorem dX5_compare_72 : decode cX5_compare 72 = .ok (.aload_n 0, 1) := by decide +kernel
theorem dX5_compare_73 : decode cX5_compare 73 = .ok (.iload 7, 2) := by decide +kernel
theorem dX5_compare_75 : decode cX5_compare 75 = .ok (.iload 8, 2) := by decide +kernel
theorem dX5_compare_77 : decode cX5_compare 77 = .ok (.aload_n 0, 1) := by decide +kernel
theorem dX5_compare_78 : decode cX5_compare 78 = .ok (.getfield 83, 3) := by decide +kernel
theorem dX5_compare_81 : decode cX5_compare 81 = .ok (.ifCond .ne 7, 3) := by decide +kernel
theorem dX5_compare_84 : decode cX5_compare 84 = .ok (.iconst 1, 1) := by decide +kernel
theorem dX5_compare_85 : decode cX5_compare 85 = .ok (.goto 4, 3) := by decide +kernel
theorem dX5_compare_88 : decode cX5_compare 88 = .ok (.iconst 0, 1) := by decide +kernel
theorem dX5_compare_89 : decode cX5_compare 89 = .ok (.invokevirtual 79, 3) := by decide +kernel
theorem dX5_compare_92 : decode cX5_compare 92 = .ok (.ifCond .eq 5, 3) := by decide +kernel
theorem dX5_compare_95 : decode cX5_compare 95 = .ok (.iconst 0, 1) := by decide +kernel
theorem dX5_compare_96 : decode cX5_compare 96 = .ok (.ireturn, 1) := by decide +kernel
theorem dX5_compare_97 : decode cX5_compare 97 = .ok (.iconst 0, 1) := by decide +kernel
theorem dX5_compare_98 : decode cX5_compare 98 = .ok (.istore 9, 2) := by decide +kernel
theorem dX5_compare_100 : decode cX5_compare 100 = .ok (.iconst 0, 1) := by decide +kernel
theorem dX5_compare_101 : decode cX5_compare 101 = .ok (.istore 10, 2) := by decide +kernel
theorem dX5_compare_103 : decode cX5_compare 103 = .ok (.iconst 0, 1) := by decide +kernel
theorem dX5_compare_104 : decode cX5_compare 104 = .ok (.istore 11, 2) := by decide +kernel
theorem dX5_compare_106 : decode cX5_compare 106 = .ok (.iload 11, 2) := by decide +kernel
theorem dX5_compare_108 : decode cX5_compare 108 = .ok (.iload 5, 2) := by decide +kernel
theorem dX5_compare_110 : decode cX5_compare 110 = .ok (.if_icmp .ge 81, 3) := by decide +kernel
theorem dX5_compare_113 : decode cX5_compare 113 = .ok (.aload_n 0, 1) := by decide +kernel
theorem dX5_compare_114 : decode cX5_compare 114 = .ok (.iload_n 1, 1) := by decide +kernel
theorem dX5_compare_115 : decode cX5_compare 115 = .ok (.iload_n 3, 1) := by decide +kernel
theorem dX5_compare_116 : decode cX5_compare 116 = .ok (.iload 4, 2) := by decide +kernel
theorem dX5_compare_118 : decode cX5_compare 118 = .ok (.iload 11, 2) := by decide +kernel
theorem dX5_compare_120 : decode cX5_compare 120 = .ok (.iadd, 1) := by decide +kernel
theorem dX5_compare_121 : decode cX5_compare 121 = .ok (.bipush 12, 2) := by decide +kernel
theorem dX5_compare_123 : decode cX5_compare 123 = .ok (.invokevirtual 144, 3) := by decide +kernel
theorem dX5_compare_126 : decode cX5_compare 126 = .ok (.aload_n 0, 1) := by decide +kernel
theorem dX5_compare_127 : decode cX5_compare 127 = .ok (.invokevirtual 147, 3) := by decide +kernel
theorem dX5_compare_130 : decode cX5_compare 130 = .ok (.istore 12, 2) := by decide +kernel
theorem dX5_compare_132 : decode cX5_compare 132 = .ok (.aload_n 0, 1) := by decide +kernel
theorem dX5_compare_133 : decode cX5_compare 133 = .ok (.iload_n 2, 1) := by decide +kernel
theorem dX5_compare_134 : decode cX5_compare 134 = .ok (.iload_n 3, 1) := by decide +kernel
theorem dX5_compare_135 : decode cX5_compare 135 = .ok (.iload 4, 2) := by decide +kernel
theorem dX5_compare_137 : decode cX5_compare 137 = .ok (.iload 11, 2) := by decide +kernel
theorem dX5_compare_139 : decode cX5_compare 139 = .ok (.iadd, 1) := by decide +kernel
theorem dX5_compare_140 : decode cX5_compare 140 = .ok (.bipush 12, 2) := by decide +kernel
theorem dX5_compare_142 : decode cX5_compare 142 = .ok (.invokevirtual 144, 3) := by decide +kernel
theorem dX5_compare_145 : decode cX5_compare 145 = .ok (.aload_n 0, 1) := by decide +kernel
theorem dX5_compare_146 : decode cX5_compare 146 = .ok (.invokevirtual 147, 3) := by decide +kernel
theorem dX5_compare_149 : decode cX5_compare 149 = .ok (.istore 13, 2) := by decide +kernel
theorem dX5_compare_151 : decode cX5_compare 151 = .ok (.iload 9, 2) := by decide +kernel
theorem dX5_compare_153 : decode cX5_compare 153 = .ok (.iload 12, 2) := by decide +kernel
theorem dX5_compare_155 : decode cX5_compare 155 = .ok (.iload 13, 2) := by decide +kernel
theorem dX5_compare_157 : decode cX5_compare 157 = .ok (.if_icmp .ge 7, 3) := by decide +kernel
theorem dX5_compare_160 : decode cX5_compare 160 = .ok (.iconst 1, 1) := by decide +kernel
theorem dX5_compare_161 : decode cX5_compare 161 = .ok (.goto 4, 3) := by decide +kernel
theorem dX5_compare_164 : decode cX5_compare 164 = .ok (.iconst 0, 1) := by decide +kernel
theorem dX5_compare_165 : decode cX5_compare 165 = .ok (.iadd, 1) := by decide +kernel
theorem dX5_compare_166 : decode cX5_compare 166 = .ok (.istore 9, 2) := by decide +kernel
theorem dX5_compare_168 : decode cX5_compare 168 = .ok (.iload 10, 2) := by decide +kernel
theorem dX5_compare_170 : decode cX5_compare 170 = .ok (.iload 12, 2) := by decide +kernel
theorem dX5_compare_172 : decode cX5_compare 172 = .ok (.iload 13, 2) := by decide +kernel
theorem dX5_compare_174 : decode cX5_compare 174 = .ok (.if_icmp .le 7, 3) := by decide +kernel
theorem dX5_compare_177 : decode cX5_compare 177 = .ok (.iconst 1, 1) := by decide +kernel
theorem dX5_compare_178 : decode cX5_compare 178 = .ok (.goto 4, 3) := by decide +kernel
theorem dX5_compare_181 : decode cX5_compare 181 = .ok (.iconst 0, 1) := by decide +kernel
theorem dX5_compare_182 : decode cX5_compare 182 = .ok (.iadd, 1) := by decide +kernel
theorem dX5_compare_183 : decode cX5_compare 183 = .ok (.istore 10, 2) := by decide +kernel
theorem dX5_compare_185 : decode cX5_compare 185 = .ok (.iinc 11 1, 3) := by decide +kernel
theorem dX5_compare_188 : decode cX5_compare 188 = .ok (.goto (-82), 3) := by decide +kernel
theorem dX5_compare_191 : decode cX5_compare 191 = .ok (.aload_n 0, 1) := by decide +kernel
theorem dX5_compare_192 : decode cX5_compare 192 = .ok (.invokevirtual 160, 3) := by decide +kernel
theorem dX5_compare_195 : decode cX5_compare 195 = .ok (.iload 6, 2) := by decide +kernel
theorem dX5_compare_197 : decode cX5_compare 197 = .ok (.iconst 2, 1) := by decide +kernel
theorem dX5_compare_198 : decode cX5_compare 198 = .ok (.if_icmp .ge 16, 3) := by decide +kernel
theorem dX5_compare_201 : decode cX5_compare 201 = .ok (.iload 6, 2) := by decide +kernel
theorem dX5_compare_203 : decode cX5_compare 203 = .ok (.ifCond .ne 8, 3) := by decide +kernel
theorem dX5_compare_206 : decode cX5_compare 206 = .ok (.iload 9, 2) := by decide +kernel
theorem dX5_compare_208 : decode cX5_compare 208 = .ok (.goto 5, 3) := by decide +kernel
theorem dX5_compare_211 : decode cX5_compare 211 = .ok (.iload 10, 2) := by decide +kernel
theorem dX5_compare_213 : decode cX5_compare 213 = .ok (.ireturn, 1) := by decide +kernel
theorem dX5_compare_214 : decode cX5_compare 214 = .ok (.lconst 1, 1) := by decide +kernel
theorem dX5_compare_215 : decode cX5_compare 215 = .ok (.iload 9, 2) := by decide +kernel
theorem dX5_compare_217 : decode cX5_compare 217 = .ok (.iload 10, 2) := by decide +kernel
theorem dX5_compare_219 : decode cX5_compare 219 = .ok (.iadd, 1) := by decide +kernel
theorem dX5_compare_220 : decode cX5_compare 220 = .ok (.lshl, 1) := by decide +kernel
theorem dX5_compare_221 : decode cX5_compare 221 = .ok (.lstore 11, 2) := by decide +kernel
theorem dX5_compare_223 : decode cX5_compare 223 = .ok (.iload 9, 2) := by decide +kernel
theorem dX5_compare_225 : decode cX5_compare 225 = .ok (.iload 10, 2) := by decide +kernel
theorem dX5_compare_227 : decode cX5_compare 227 = .ok (.iadd, 1) := by decide +kernel
theorem dX5_compare_228 : decode cX5_compare 228 = .ok (.iload 9, 2) := by decide +kernel
theorem dX5_compare_230 : decode cX5_compare 230 = .ok (.invokestatic 163, 3) := by decide +kernel
theorem dX5_compare_233 : decode cX5_compare 233 = .ok (.lstore 13, 2) := by decide +kernel
theorem dX5_compare_235 : decode cX5_compare 235 = .ok (.iload 6, 2) := by decide +kernel
theorem dX5_compare_237 : decode cX5_compare 237 = .ok (.iconst 2, 1) := by decide +kernel
theorem dX5_compare_238 : decode cX5_compare 238 = .ok (.if_icmp .ne 8, 3) := by decide +kernel
theorem dX5_compare_241 : decode cX5_compare 241 = .ok (.lload 13, 2) := by decide +kernel
theorem dX5_compare_243 : decode cX5_compare 243 = .ok (.goto 5, 3) := by decide +kernel
theorem dX5_compare_246 : decode cX5_compare 246 = .ok (.lload 11, 2) := by decide +kernel
theorem dX5_compare_248 : decode cX5_compare 248 = .ok (.lload 13, 2) := by decide +kernel
theorem dX5_compare_250 : decode cX5_compare 250 = .ok (.lload 11, 2) := by decide +kernel
theorem dX5_compare_252 : decode cX5_compare 252 = .ok (.invokestatic 154, 3) := by decide +kernel
theorem dX5_compare_255 : decode cX5_compare 255 = .ok (.ldiv, 1) := by decide +kernel
theorem dX5_compare_256 : decode cX5_compare 256 = .ok (.l2i, 1) := by decide +kernel
theorem dX5_compare_257 : decode cX5_compare 257 = .ok (.ireturn, 1) := by decide +kernel
theorem dJ9_abs_0f7a4_0 : decode cJ9_abs_0f7a4 0 = .ok (.iload_n 0, 1) := by decide +kernel
theorem dJ9_abs_0f7a4_1 : decode cJ9_abs_0f7a4 1 = .ok (.ifCond .ge 8, 3) := by decide +kernel
theorem dJ9_abs_0f7a4_4 : decode cJ9_abs_0f7a4 4 = .ok (.iload_n 0, 1) := by decide +kernel
theorem dJ9_abs_0f7a4_5 : decode cJ9_abs_0f7a4 5 = .ok (.ineg, 1) := by decide +kernel
theorem dJ9_abs_0f7a4_6 : decode cJ9_abs_0f7a4 6 = .ok (.goto 4, 3) := by decide +kernel
theorem dJ9_abs_0f7a4_9 : decode cJ9_abs_0f7a4 9 = .ok (.iload_n 0, 1) := by decide +kernel
theorem dJ9_abs_0f7a4_10 : decode cJ9_abs_0f7a4 10 = .ok (.ireturn, 1) := by decide +kernel
theorem dJ9_max_7cf53_0 : decode cJ9_max_7cf53 0 = .ok (.iload_n 0, 1) := by decide +kernel
theorem dJ9_max_7cf53_1 : decode cJ9_max_7cf53 1 = .ok (.iload_n 1, 1) := by decide +kernel
theorem dJ9_max_7cf53_2 : decode cJ9_max_7cf53 2 = .ok (.if_icmp .lt 7, 3) := by decide +kernel
theorem dJ9_max_7cf53_5 : decode cJ9_max_7cf53 5 = .ok (.iload_n 0, 1) := by decide +kernel
theorem dJ9_max_7cf53_6 : decode cJ9_max_7cf53 6 = .ok (.goto 4, 3) := by decide +kernel
theorem dJ9_max_7cf53_9 : decode cJ9_max_7cf53 9 = .ok (.iload_n 1, 1) := by decide +kernel
theorem dJ9_max_7cf53_10 : decode cJ9_max_7cf53 10 = .ok (.ireturn, 1) := by decide +kernel
theorem dJ9_min_7cf53_0 : decode cJ9_min_7cf53 0 = .ok (.iload_n 0, 1) := by decide +kernel
theorem dJ9_min_7cf53_1 : decode cJ9_min_7cf53 1 = .ok (.iload_n 1, 1) := by decide +kernel
theorem dJ9_min_7cf53_2 : decode cJ9_min_7cf53 2 = .ok (.if_icmp .gt 7, 3) := by decide +kernel
theorem dJ9_min_7cf53_5 : decode cJ9_min_7cf53 5 = .ok (.iload_n 0, 1) := by decide +kernel
theorem dJ9_min_7cf53_6 : decode cJ9_min_7cf53 6 = .ok (.goto 4, 3) := by decide +kernel
theorem dJ9_min_7cf53_9 : decode cJ9_min_7cf53 9 = .ok (.iload_n 1, 1) := by decide +kernel
theorem dJ9_min_7cf53_10 : decode cJ9_min_7cf53 10 = .ok (.ireturn, 1) := by decide +kernel
set_option maxRecDepth 20000 in
theorem ggL_station_X4_station : GoodIn wsL_station wsX4_station := goodIn_ca (goodIn_ca (goodIn_r _ [7, 8, 9, 10, 11, 6, 12, 13, 14, 15, 16, 17, 18, 19, 20, 21, 22, 23, 24, 25, 26, 27, 28, 29, 30, 31, 32, 33, 34, 35, 36, 37, 38, 39, 40, 41, 42, 43, 44, 45, 46] (by decide +kernel) (by decide +kernel)) (goodIn_sub (fun _ h => List.mem_cons_of_mem _ (List.mem_append_left _ (List.mem_append_right _ h))) (by decide +kernel))) (goodIn_sub (fun _ h => List.mem_cons_of_mem _ (List.mem_append_right _ h)) (by decide +kernel))
set_option maxRecDepth 20000 in
theorem gL_station_X4_station : GoodIn wsL_station (wsV RL 7 RX4 yX4_station wsX4_station) := goodIn_app (goodIn_of _ (by decide +kernel)) ggL_station_X4_station
theorem dL_station_0 : decode cL_station 0 = .ok (.aload_n 3, 1) := by decide +kernel
theorem dL_station_1 : decode cL_station 1 = .ok (.iconst 0, 1) := by decide +kernel
theorem dL_station_2 : decode cL_station 2 = .ok (.aload_n 0, 1) := by decide +kernel
theorem dL_station_3 : decode cL_station 3 = .ok (.iload_n 1, 1) := by decide +kernel
theorem dL_station_4 : decode cL_station 4 = .ok (.iload_n 2, 1) := by decide +kernel
theorem dL_station_5 : decode cL_station 5 = .ok (.invokevirtual 7, 3) := by decide +kernel
theorem dL_station_8 : decode cL_station 8 = .ok (.i2l, 1) := by decide +kernel
theorem dL_station_9 : decode cL_station 9 = .ok (.lastore, 1) := by decide +kernel
theorem dL_station_10 : decode cL_station 10 = .ok (.goto 11, 3) := by decide +kernel
theorem dL_station_13 : decode cL_station 13 = .ok (.astore 4, 2) := by decide +kernel
theorem dL_station_15 : decode cL_station 15 = .ok (.iconst 1, 1) := by decide +kernel
theorem dL_station_16 : decode cL_station 16 = .ok (.ireturn, 1) := by decide +kernel
theorem dL_station_17 : decode cL_station 17 = .ok (.astore 4, 2) := by decide +kernel
theorem dL_station_19 : decode cL_station 19 = .ok (.iconst 2, 1) := by decide +kernel
theorem dL_station_20 : decode cL_station 20 = .ok (.ireturn, 1) := by decide +kernel
theorem dL_station_21 : decode cL_station 21 = .ok (.iconst 0, 1) := by decide +kernel
theorem dL_station_22 : decode cL_station 22 = .ok (.ireturn, 1) := by decide +kernel
set_option maxRecDepth 20000 in
theorem ggL_area_X4_area : GoodIn wsL_area wsX4_area := goodIn_ca (goodIn_ca (goodIn_r _ [7, 8, 9, 10, 11, 6, 12, 13, 14, 15, 16, 17, 18, 19, 20, 21, 22, 23, 24, 25, 26, 27, 28, 29, 30, 31, 32, 33, 34, 35, 36, 37, 38, 39, 40, 41, 42, 43, 44, 45, 46, 47, 48, 49, 50, 51] (by decide +kernel) (by decide +kernel)) (goodIn_sub (fun _ h => List.mem_cons_of_mem _ (List.mem_append_left _ (List.mem_append_right _ h))) (by decide +kernel))) (goodIn_sub (fun _ h => List.mem_cons_of_mem _ (List.mem_append_right _ h)) (by decide +kernel))
set_option maxRecDepth 20000 in
theorem gL_area_X4_area : GoodIn wsL_area (wsV RL 17 RX4 yX4_area wsX4_area) := goodIn_app (goodIn_of _ (by decide +kernel)) ggL_area_X4_area
theorem dL_area_0 : decode cL_area 0 = .ok (.aload 4, 2) := by decide +kernel
theorem dL_area_2 : decode cL_area 2 = .ok (.iconst 0, 1) := by decide +kernel
theorem dL_area_3 : decode cL_area 3 = .ok (.aload_n 0, 1) := by decide +kernel
theorem dL_area_4 : decode cL_area 4 = .ok (.iload_n 1, 1) := by decide +kernel
theorem dL_area_5 : decode cL_area 5 = .ok (.iload_n 2, 1) := by decide +kernel
theorem dL_area_6 : decode cL_area 6 = .ok (.iload_n 3, 1) := by decide +kernel
theorem dL_area_7 : decode cL_area 7 = .ok (.invokevirtual 17, 3) := by decide +kernel
theorem dL_area_10 : decode cL_area 10 = .ok (.i2l, 1) := by decide +kernel
theorem dL_area_11 : decode cL_area 11 = .ok (.lastore, 1) := by decide +kernel
theorem dL_area_12 : decode cL_area 12 = .ok (.goto 11, 3) := by decide +kernel
theorem dL_area_15 : decode cL_area 15 = .ok (.astore 5, 2) := by decide +kernel
theorem dL_area_17 : decode cL_area 17 = .ok (.iconst 1, 1) := by decide +kernel
theorem dL_area_18 : decode cL_area 18 = .ok (.ireturn, 1) := by decide +kernel
theorem dL_area_19 : decode cL_area 19 = .ok (.astore 5, 2) := by decide +kernel
theorem dL_area_21 : decode cL_area 21 = .ok (.iconst 2, 1) := by decide +kernel
theorem dL_area_22 : decode cL_area 22 = .ok (.ireturn, 1) := by decide +kernel
theorem dL_area_23 : decode cL_area 23 = .ok (.iconst 0, 1) := by decide +kernel
theorem dL_area_24 : decode cL_area 24 = .ok (.ireturn, 1) := by decide +kernel
set_option maxRecDepth 20000 in
theorem ggL_unit_X4_unit : GoodIn wsL_unit wsX4_unit := goodIn_ca (goodIn_ca (goodIn_ca (goodIn_r _ [8, 9, 10, 11, 12, 13, 14, 7, 15, 16, 17, 18, 19, 20, 21, 22, 23, 24, 25, 26, 27, 28, 29, 30, 31, 32, 33, 34, 35, 36, 37, 38, 39, 40, 41, 42, 43, 44, 45, 46, 47, 48, 49, 50, 51, 52, 53, 54, 55, 56, 57, 58, 59, 60] (by decide +kernel) (by decide +kernel)) (goodIn_sub (fun _ h => List.mem_cons_of_mem _ (List.mem_append_left _ (List.mem_append_left _ (List.mem_append_right _ h)))) (by decide +kernel))) (goodIn_sub (fun _ h => List.mem_cons_of_mem _ (List.mem_append_left _ (List.mem_append_right _ h))) (by decide +kernel))) (goodIn_sub (fun _ h => List.mem_cons_of_mem _ (List.mem_append_right _ h)) (by decide +kernel))
set_option maxRecDepth 20000 in
theorem gL_unit_X4_unit : GoodIn wsL_unit (wsV RL 21 RX4 yX4_unit wsX4_unit) := goodIn_app (goodIn_of _ (by decide +kernel)) ggL_unit_X4_unit
theorem dL_unit_0 : decode cL_unit 0 = .ok (.aload_n 2, 1) := by decide +kernel
theorem dL_unit_1 : decode cL_unit 1 = .ok (.iconst 0, 1) := by decide +kernel
theorem dL_unit_2 : decode cL_unit 2 = .ok (.aload_n 0, 1) := by decide +kernel
theorem dL_unit_3 : decode cL_unit 3 = .ok (.iload_n 1, 1) := by decide +kernel
theorem dL_unit_4 : decode cL_unit 4 = .ok (.invokevirtual 21, 3) := by decide +kernel
theorem dL_unit_7 : decode cL_unit 7 = .ok (.i2l, 1) := by decide +kernel
theorem dL_unit_8 : decode cL_unit 8 = .ok (.lastore, 1) := by decide +kernel
theorem dL_unit_9 : decode cL_unit 9 = .ok (.goto 12, 3) := by decide +kernel
theorem dL_unit_12 : decode cL_unit 12 = .ok (.astore_n 3, 1) := by decide +kernel
theorem dL_unit_13 : decode cL_unit 13 = .ok (.iconst 1, 1) := by decide +kernel
theorem dL_unit_14 : decode cL_unit 14 = .ok (.ireturn, 1) := by decide +kernel
theorem dL_unit_15 : decode cL_unit 15 = .ok (.astore_n 3, 1) := by decide +kernel
theorem dL_unit_16 : decode cL_unit 16 = .ok (.iconst 2, 1) := by decide +kernel
theorem dL_unit_17 : decode cL_unit 17 = .ok (.ireturn, 1) := by decide +kernel
theorem dL_unit_18 : decode cL_unit 18 = .ok (.astore_n 3, 1) := by decide +kernel
theorem dL_unit_19 : decode cL_unit 19 = .ok (.iconst 3, 1) := by decide +kernel
theorem dL_unit_20 : decode cL_unit 20 = .ok (.ireturn, 1) := by decide +kernel
theorem dL_unit_21 : decode cL_unit 21 = .ok (.iconst 0, 1) := by decide +kernel
theorem dL_unit_22 : decode cL_unit 22 = .ok (.ireturn, 1) := by decide +kernel
set_option maxRecDepth 20000 in
theorem ggL_change_X4_change : GoodIn wsL_change wsX4_change := goodIn_ca (goodIn_ca (goodIn_r _ [7, 8, 9, 10, 11, 12, 13, 6, 14, 15, 16, 17, 18, 19, 20, 21, 22, 23, 24, 25, 26, 27, 28, 29, 30, 31, 32, 33, 34, 35, 36, 37, 38, 39, 40, 41, 42, 43, 44, 45, 46, 47, 48, 49, 50, 51, 52, 53] (by decide +kernel) (by decide +kernel)) (goodIn_sub (fun _ h => List.mem_cons_of_mem _ (List.mem_append_left _ (List.mem_append_right _ h))) (by decide +kernel))) (goodIn_sub (fun _ h => List.mem_cons_of_mem _ (List.mem_append_right _ h)) (by decide +kernel))
set_option maxRecDepth 20000 in
theorem gL_change_X4_change : GoodIn wsL_change (wsV RL 29 RX4 yX4_change wsX4_change) := goodIn_app (goodIn_of _ (by decide +kernel)) ggL_change_X4_change
theorem dL_change_0 : decode cL_change 0 = .ok (.aload_n 0, 1) := by decide +kernel
theorem dL_change_1 : decode cL_change 1 = .ok (.iload_n 1, 1) := by decide +kernel
theorem dL_change_2 : decode cL_change 2 = .ok (.iload_n 2, 1) := by decide +kernel
theorem dL_change_3 : decode cL_change 3 = .ok (.iload_n 3, 1) := by decide +kernel
theorem dL_change_4 : decode cL_change 4 = .ok (.invokevirtual 29, 3) := by decide +kernel
theorem dL_change_7 : decode cL_change 7 = .ok (.goto 11, 3) := by decide +kernel
theorem dL_change_10 : decode cL_change 10 = .ok (.astore 4, 2) := by decide +kernel
theorem dL_change_12 : decode cL_change 12 = .ok (.iconst 1, 1) := by decide +kernel
theorem dL_change_13 : decode cL_change 13 = .ok (.ireturn, 1) := by decide +kernel
theorem dL_change_14 : decode cL_change 14 = .ok (.astore 4, 2) := by decide +kernel
theorem dL_change_16 : decode cL_change 16 = .ok (.iconst 2, 1) := by decide +kernel
theorem dL_change_17 : decode cL_change 17 = .ok (.ireturn, 1) := by decide +kernel
theorem dL_change_18 : decode cL_change 18 = .ok (.iconst 0, 1) := by decide +kernel
theorem dL_change_19 : decode cL_change 19 = .ok (.ireturn, 1) := by decide +kernel
set_option maxRecDepth 20000 in
theorem ggL_rules_X4_rules : GoodIn wsL_rules wsX4_rules := goodIn_ca (goodIn_r _ [6, 7, 8, 9, 10, 5, 11, 12, 13, 14, 15, 16, 17, 18, 19, 20, 21] (by decide +kernel) (by decide +kernel)) (goodIn_sub (fun _ h => List.mem_cons_of_mem _ (List.mem_append_right _ h)) (by decide +kernel))
set_option maxRecDepth 20000 in
theorem gL_rules_X4_rules : GoodIn wsL_rules (wsV RL 33 RX4 yX4_rules wsX4_rules) := goodIn_app (goodIn_of _ (by decide +kernel)) ggL_rules_X4_rules
theorem dL_rules_0 : decode cL_rules 0 = .ok (.aload_n 0, 1) := by decide +kernel
theorem dL_rules_1 : decode cL_rules 1 = .ok (.iload_n 1, 1) := by decide +kernel
theorem dL_rules_2 : decode cL_rules 2 = .ok (.iload_n 2, 1) := by decide +kernel
theorem dL_rules_3 : decode cL_rules 3 = .ok (.invokevirtual 33, 3) := by decide +kernel
theorem dL_rules_6 : decode cL_rules 6 = .ok (.goto 6, 3) := by decide +kernel
theorem dL_rules_9 : decode cL_rules 9 = .ok (.astore_n 3, 1) := by decide +kernel
theorem dL_rules_10 : decode cL_rules 10 = .ok (.iconst 1, 1) := by decide +kernel
theorem dL_rules_11 : decode cL_rules 11 = .ok (.ireturn, 1) := by decide +kernel
theorem dL_rules_12 : decode cL_rules 12 = .ok (.iconst 0, 1) := by decide +kernel
theorem dL_rules_13 : decode cL_rules 13 = .ok (.ireturn, 1) := by decide +kernel
set_option maxRecDepth 20000 in
theorem ggL_run_X4_run : GoodIn wsL_run wsX4_run := goodIn_ca (goodIn_ca (goodIn_ca (goodIn_r _ [8, 9, 10, 11, 12, 7, 13, 14, 15, 16, 17, 18, 19, 20, 21, 22, 23, 24, 25, 26, 27, 28, 29, 30, 31, 32, 33, 34, 35, 36, 37, 38, 39, 40, 41, 42, 43, 44, 45, 46, 47, 48, 49, 50, 51, 52, 53, 54, 55, 56, 57, 58, 59, 60, 61, 62, 63, 64, 65, 66, 67, 68, 69, 70, 71, 72, 73, 74, 75, 76, 77, 78, 79, 80, 81, 82, 83, 84, 85, 86, 87, 88, 89, 90, 91, 92, 93, 94, 95, 96, 97, 98, 99, 100, 101, 102, 103, 104, 105, 106, 107, 108, 109, 110, 111, 112, 113, 114, 115, 116, 117, 118, 119, 120, 121, 122, 123, 124, 125, 126, 127, 128, 129, 130, 131, 132, 133, 134, 135, 136, 137, 138, 139, 140, 141, 142, 143, 144, 145, 146, 147, 148, 149, 150, 151, 152, 153, 154, 155, 156, 157, 158, 159, 160, 161, 162, 163, 164, 165, 166, 167, 168, 169, 170, 171, 172, 173, 174, 175, 176, 177, 178, 179, 180, 181, 182, 183, 184, 185, 186, 187, 188, 189, 190] (by decide +kernel) (by decide +kernel)) (goodIn_sub (fun _ h => List.mem_cons_of_mem _ (List.mem_append_left _ (List.mem_append_left _ (List.mem_append_right _ h)))) (by decide +kernel))) (goodIn_sub (fun _ h => List.mem_cons_of_mem _ (List.mem_append_left _ (List.mem_append_right _ h))) (by decide +kernel))) (goodIn_sub (fun _ h => List.mem_cons_of_mem _ (List.mem_append_right _ h)) (by decide +kernel))
set_option maxRecDepth 20000 in
theorem gL_run_X4_run : GoodIn wsL_run (wsV RL 37 RX4 yX4_run wsX4_run) := goodIn_app (goodIn_of _ (by decide +kernel)) ggL_run_X4_run
theorem dL_run_0 : decode cL_run 0 = .ok (.aload 5, 2) := by decide +kernel
theorem dL_run_2 : decode cL_run 2 = .ok (.iconst 0, 1) := by decide +kernel
theorem dL_run_3 : decode cL_run 3 = .ok (.aload_n 0, 1) := by decide +kernel
theorem dL_run_4 : decode cL_run 4 = .ok (.iload_n 1, 1) := by decide +kernel
theorem dL_run_5 : decode cL_run 5 = .ok (.iload_n 2, 1) := by decide +kernel
theorem dL_run_6 : decode cL_run 6 = .ok (.iload_n 3, 1) := by decide +kernel
theorem dL_run_7 : decode cL_run 7 = .ok (.iload 4, 2) := by decide +kernel
theorem dL_run_9 : decode cL_run 9 = .ok (.invokevirtual 37, 3) := by decide +kernel
theorem dL_run_12 : decode cL_run 12 = .ok (.i2l, 1) := by decide +kernel
theorem dL_run_13 : decode cL_run 13 = .ok (.lastore, 1) := by decide +kernel
theorem dL_run_14 : decode cL_run 14 = .ok (.goto 15, 3) := by decide +kernel
theorem dL_run_17 : decode cL_run 17 = .ok (.astore 6, 2) := by decide +kernel
theorem dL_run_19 : decode cL_run 19 = .ok (.iconst 1, 1) := by decide +kernel
theorem dL_run_20 : decode cL_run 20 = .ok (.ireturn, 1) := by decide +kernel
theorem dL_run_21 : decode cL_run 21 = .ok (.astore 6, 2) := by decide +kernel
theorem dL_run_23 : decode cL_run 23 = .ok (.iconst 2, 1) := by decide +kernel
theorem dL_run_24 : decode cL_run 24 = .ok (.ireturn, 1) := by decide +kernel
theorem dL_run_25 : decode cL_run 25 = .ok (.astore 6, 2) := by decide +kernel
theorem dL_run_27 : decode cL_run 27 = .ok (.iconst 3, 1) := by decide +kernel
theorem dL_run_28 : decode cL_run 28 = .ok (.ireturn, 1) := by decide +kernel
theorem dL_run_29 : decode cL_run 29 = .ok (.iconst 0, 1) := by decide +kernel
theorem dL_run_30 : decode cL_run 30 = .ok (.ireturn, 1) := by decide +kernel
set_option maxRecDepth 20000 in
theorem ggL_call_X4_call : GoodIn wsL_call wsX4_call := goodIn_ca (goodIn_r _ [6, 7, 8, 9, 10, 11, 12, 13, 14, 15, 16, 17, 18, 5, 19, 20, 21, 22, 23, 24, 25, 26, 27, 28, 29, 30, 31, 32, 33, 34, 35, 36, 37, 38, 39, 40, 41, 42, 43, 44, 45, 46, 47, 48, 49, 50, 51, 52, 53, 54, 55, 56, 57, 58, 59, 60, 61, 62] (by decide +kernel) (by decide +kernel)) (goodIn_sub (fun _ h => List.mem_cons_of_mem _ (List.mem_append_right _ h)) (by decide +kernel))
set_option maxRecDepth 20000 in
theorem gL_call_X4_call : GoodIn wsL_call (wsV RL 41 RX4 yX4_call wsX4_call) := goodIn_app (goodIn_of _ (by decide +kernel)) ggL_call_X4_call
theorem dL_call_0 : decode cL_call 0 = .ok (.aload_n 3, 1) := by decide +kernel
theorem dL_call_1 : decode cL_call 1 = .ok (.iconst 0, 1) := by decide +kernel
theorem dL_call_2 : decode cL_call 2 = .ok (.aload_n 0, 1) := by decide +kernel
theorem dL_call_3 : decode cL_call 3 = .ok (.iload_n 1, 1) := by decide +kernel
theorem dL_call_4 : decode cL_call 4 = .ok (.iload_n 2, 1) := by decide +kernel
theorem dL_call_5 : decode cL_call 5 = .ok (.invokevirtual 41, 3) := by decide +kernel
theorem dL_call_8 : decode cL_call 8 = .ok (.i2l, 1) := by decide +kernel
theorem dL_call_9 : decode cL_call 9 = .ok (.lastore, 1) := by decide +kernel
theorem dL_call_10 : decode cL_call 10 = .ok (.goto 7, 3) := by decide +kernel
theorem dL_call_13 : decode cL_call 13 = .ok (.astore 4, 2) := by decide +kernel
theorem dL_call_15 : decode cL_call 15 = .ok (.iconst 1, 1) := by decide +kernel
theorem dL_call_16 : decode cL_call 16 = .ok (.ireturn, 1) := by decide +kernel
theorem dL_call_17 : decode cL_call 17 = .ok (.iconst 0, 1) := by decide +kernel
theorem dL_call_18 : decode cL_call 18 = .ok (.ireturn, 1) := by decide +kernel
set_option maxRecDepth 20000 in
theorem ggL_share_X4_share : GoodIn wsL_share wsX4_share := goodIn_ca (goodIn_ca (goodIn_r _ [7, 8, 9, 10, 11, 12, 13, 14, 15, 6, 16, 17, 18, 19, 20, 21, 22, 23, 24, 25, 26, 27, 28, 29, 30, 31, 32, 33, 34, 35, 36, 37, 38, 39, 40, 41, 42, 43, 44, 45, 46, 47, 48, 49, 50, 51, 52, 53, 54, 55, 56, 57, 58, 59, 60, 61, 62, 63, 64, 65, 66, 67, 68, 69, 70] (by decide +kernel) (by decide +kernel)) (goodIn_sub (fun _ h => List.mem_cons_of_mem _ (List.mem_append_left _ (List.mem_append_right _ h))) (by decide +kernel))) (goodIn_sub (fun _ h => List.mem_cons_of_mem _ (List.mem_append_right _ h)) (by decide +kernel))
set_option maxRecDepth 20000 in
theorem gL_share_X4_share : GoodIn wsL_share (wsV RL 44 RX4 yX4_share wsX4_share) := goodIn_app (goodIn_of _ (by decide +kernel)) ggL_share_X4_share
theorem dL_share_0 : decode cL_share 0 = .ok (.aload_n 2, 1) := by decide +kernel
theorem dL_share_1 : decode cL_share 1 = .ok (.iconst 0, 1) := by decide +kernel
theorem dL_share_2 : decode cL_share 2 = .ok (.aload_n 0, 1) := by decide +kernel
theorem dL_share_3 : decode cL_share 3 = .ok (.iload_n 1, 1) := by decide +kernel
theorem dL_share_4 : decode cL_share 4 = .ok (.invokevirtual 44, 3) := by decide +kernel
theorem dL_share_7 : decode cL_share 7 = .ok (.i2l, 1) := by decide +kernel
theorem dL_share_8 : decode cL_share 8 = .ok (.lastore, 1) := by decide +kernel
theorem dL_share_9 : decode cL_share 9 = .ok (.goto 9, 3) := by decide +kernel
theorem dL_share_12 : decode cL_share 12 = .ok (.astore_n 3, 1) := by decide +kernel
theorem dL_share_13 : decode cL_share 13 = .ok (.iconst 1, 1) := by decide +kernel
theorem dL_share_14 : decode cL_share 14 = .ok (.ireturn, 1) := by decide +kernel
theorem dL_share_15 : decode cL_share 15 = .ok (.astore_n 3, 1) := by decide +kernel
theorem dL_share_16 : decode cL_share 16 = .ok (.iconst 2, 1) := by decide +kernel
theorem dL_share_17 : decode cL_share 17 = .ok (.ireturn, 1) := by decide +kernel
theorem dL_share_18 : decode cL_share 18 = .ok (.iconst 0, 1) := by decide +kernel
theorem dL_share_19 : decode cL_share 19 = .ok (.ireturn, 1) := by decide +kernel
set_option maxRecDepth 20000 in
theorem ggL_mean_X4_mean : GoodIn wsL_mean wsX4_mean := goodIn_ca (goodIn_r _ [6, 7, 8, 9, 10, 11, 12, 13, 14, 15, 16, 17, 18, 19, 20, 21, 22, 23, 24, 25, 26, 27, 28, 29, 30, 31, 32, 33, 34, 35, 36, 37, 38, 39, 40, 41, 42, 43, 44, 45, 46, 47, 48, 49] (by decide +kernel) (by decide +kernel)) (goodIn_sub (fun _ h => List.mem_cons_of_mem _ (List.mem_append_right _ h)) (by decide +kernel))
set_option maxRecDepth 20000 in
theorem gL_mean_X4_mean : GoodIn wsL_mean (wsV RL 49 RX4 yX4_mean wsX4_mean) := goodIn_app (goodIn_of _ (by decide +kernel)) ggL_mean_X4_mean
theorem dL_mean_0 : decode cL_mean 0 = .ok (.aload_n 1, 1) := by decide +kernel
theorem dL_mean_1 : decode cL_mean 1 = .ok (.iconst 0, 1) := by decide +kernel
theorem dL_mean_2 : decode cL_mean 2 = .ok (.aload_n 0, 1) := by decide +kernel
theorem dL_mean_3 : decode cL_mean 3 = .ok (.invokevirtual 49, 3) := by decide +kernel
theorem dL_mean_6 : decode cL_mean 6 = .ok (.i2l, 1) := by decide +kernel
theorem dL_mean_7 : decode cL_mean 7 = .ok (.lastore, 1) := by decide +kernel
theorem dL_mean_8 : decode cL_mean 8 = .ok (.goto 6, 3) := by decide +kernel
theorem dL_mean_11 : decode cL_mean 11 = .ok (.astore_n 2, 1) := by decide +kernel
theorem dL_mean_12 : decode cL_mean 12 = .ok (.iconst 1, 1) := by decide +kernel
theorem dL_mean_13 : decode cL_mean 13 = .ok (.ireturn, 1) := by decide +kernel
theorem dL_mean_14 : decode cL_mean 14 = .ok (.iconst 0, 1) := by decide +kernel
theorem dL_mean_15 : decode cL_mean 15 = .ok (.ireturn, 1) := by decide +kernel
set_option maxRecDepth 20000 in
theorem ggL_work_X4_work : GoodIn wsL_work wsX4_work := goodIn_ca (goodIn_r _ [6, 7, 8, 9, 10, 11, 12, 5, 13, 14, 15, 16, 17, 18, 19, 20, 21, 22, 23, 24, 25, 26, 27, 28, 29, 30, 31, 32, 33, 34, 35, 36] (by decide +kernel) (by decide +kernel)) (goodIn_sub (fun _ h => List.mem_cons_of_mem _ (List.mem_append_right _ h)) (by decide +kernel))
set_option maxRecDepth 20000 in
theorem gL_work_X4_work : GoodIn wsL_work (wsV RL 53 RX4 yX4_work wsX4_work) := goodIn_app (goodIn_of _ (by decide +kernel)) ggL_work_X4_work
theorem dL_work_0 : decode cL_work 0 = .ok (.aload_n 2, 1) := by decide +kernel
theorem dL_work_1 : decode cL_work 1 = .ok (.iconst 0, 1) := by decide +kernel
theorem dL_work_2 : decode cL_work 2 = .ok (.aload_n 0, 1) := by decide +kernel
theorem dL_work_3 : decode cL_work 3 = .ok (.iload_n 1, 1) := by decide +kernel
theorem dL_work_4 : decode cL_work 4 = .ok (.invokevirtual 53, 3) := by decide +kernel
theorem dL_work_7 : decode cL_work 7 = .ok (.i2l, 1) := by decide +kernel
theorem dL_work_8 : decode cL_work 8 = .ok (.lastore, 1) := by decide +kernel
theorem dL_work_9 : decode cL_work 9 = .ok (.goto 6, 3) := by decide +kernel
theorem dL_work_12 : decode cL_work 12 = .ok (.astore_n 3, 1) := by decide +kernel
theorem dL_work_13 : decode cL_work 13 = .ok (.iconst 1, 1) := by decide +kernel
theorem dL_work_14 : decode cL_work 14 = .ok (.ireturn, 1) := by decide +kernel
theorem dL_work_15 : decode cL_work 15 = .ok (.iconst 0, 1) := by decide +kernel
theorem dL_work_16 : decode cL_work 16 = .ok (.ireturn, 1) := by decide +kernel
set_option maxRecDepth 20000 in
theorem ggL_arrived_X4_arrived : GoodIn wsL_arrived wsX4_arrived := goodIn_ca (goodIn_r _ [6, 7, 8, 9, 5, 10, 11, 12, 13, 14, 15, 16, 17, 18, 19, 20, 21, 22, 23, 24, 25, 26, 27, 28, 29, 30, 31, 32, 33, 34, 35, 36, 37, 38, 39, 40, 41, 42, 43, 44, 45] (by decide +kernel) (by decide +kernel)) (goodIn_sub (fun _ h => List.mem_cons_of_mem _ (List.mem_append_right _ h)) (by decide +kernel))
set_option maxRecDepth 20000 in
theorem gL_arrived_X4_arrived : GoodIn wsL_arrived (wsV RL 56 RX4 yX4_arrived wsX4_arrived) := goodIn_app (goodIn_of _ (by decide +kernel)) ggL_arrived_X4_arrived
theorem dL_arrived_0 : decode cL_arrived 0 = .ok (.aload_n 2, 1) := by decide +kernel
theorem dL_arrived_1 : decode cL_arrived 1 = .ok (.iconst 0, 1) := by decide +kernel
theorem dL_arrived_2 : decode cL_arrived 2 = .ok (.aload_n 0, 1) := by decide +kernel
theorem dL_arrived_3 : decode cL_arrived 3 = .ok (.iload_n 1, 1) := by decide +kernel
theorem dL_arrived_4 : decode cL_arrived 4 = .ok (.invokevirtual 56, 3) := by decide +kernel
theorem dL_arrived_7 : decode cL_arrived 7 = .ok (.i2l, 1) := by decide +kernel
theorem dL_arrived_8 : decode cL_arrived 8 = .ok (.lastore, 1) := by decide +kernel
theorem dL_arrived_9 : decode cL_arrived 9 = .ok (.goto 6, 3) := by decide +kernel
theorem dL_arrived_12 : decode cL_arrived 12 = .ok (.astore_n 3, 1) := by decide +kernel
theorem dL_arrived_13 : decode cL_arrived 13 = .ok (.iconst 1, 1) := by decide +kernel
theorem dL_arrived_14 : decode cL_arrived 14 = .ok (.ireturn, 1) := by decide +kernel
theorem dL_arrived_15 : decode cL_arrived 15 = .ok (.iconst 0, 1) := by decide +kernel
theorem dL_arrived_16 : decode cL_arrived 16 = .ok (.ireturn, 1) := by decide +kernel
set_option maxRecDepth 20000 in
theorem ggL_unlucky_X4_unlucky : GoodIn wsL_unlucky wsX4_unlucky := goodIn_ca (goodIn_ca (goodIn_ca (goodIn_r _ [8, 9, 10, 11, 12, 13, 7, 14, 15, 16, 17, 18, 19, 20, 21, 22, 23, 24, 25, 26, 27, 28, 29, 30, 31, 32, 33, 34, 35, 36, 37, 38, 39, 40, 41, 42, 43, 44, 45, 46, 47, 48, 49, 50, 51, 52, 53, 54, 55, 56, 57, 58, 59, 60, 61, 62, 63, 64, 65, 66, 67, 68, 69, 70, 71, 72, 73, 74, 75, 76, 77, 78, 79, 80, 81, 82, 83, 84, 85, 86, 87, 88, 89, 90, 91, 92, 93, 94, 95, 96, 97, 98, 99, 100, 101, 102, 103, 104, 105, 106, 107, 108, 109, 110, 111, 112, 113, 114, 115, 116, 117, 118, 119, 120, 121, 122, 123, 124, 125, 126, 127, 128, 129, 130, 131, 132, 133, 134, 135, 136, 137, 138, 139, 140, 141, 142, 143, 144, 145, 146, 147, 148, 149, 150, 151, 152, 153, 154, 155, 156, 157, 158, 159, 160, 161, 162, 163, 164, 165, 166, 167, 168, 169, 170, 171, 172, 173, 174, 175, 176, 177, 178, 179, 180, 181, 182, 183, 184, 185, 186, 187, 188, 189, 190, 191, 192, 193, 194] (by decide +kernel) (by decide +kernel)) (goodIn_sub (fun _ h => List.mem_cons_of_mem _ (List.mem_append_left _ (List.mem_append_left _ (List.mem_append_right _ h)))) (by decide +kernel))) (goodIn_sub (fun _ h => List.mem_cons_of_mem _ (List.mem_append_left _ (List.mem_append_right _ h))) (by decide +kernel))) (goodIn_sub (fun _ h => List.mem_cons_of_mem _ (List.mem_append_right _ h)) (by decide +kernel))
set_option maxRecDepth 20000 in
theorem gL_unlucky_X4_unlucky : GoodIn wsL_unlucky (wsV RL 59 RX4 yX4_unlucky wsX4_unlucky) := goodIn_app (goodIn_of _ (by decide +kernel)) ggL_unlucky_X4_unlucky
theorem dL_unlucky_0 : decode cL_unlucky 0 = .ok (.aload 6, 2) := by decide +kernel
theorem dL_unlucky_2 : decode cL_unlucky 2 = .ok (.iconst 0, 1) := by decide +kernel
theorem dL_unlucky_3 : decode cL_unlucky 3 = .ok (.aload_n 0, 1) := by decide +kernel
theorem dL_unlucky_4 : decode cL_unlucky 4 = .ok (.iload_n 1, 1) := by decide +kernel
theorem dL_unlucky_5 : decode cL_unlucky 5 = .ok (.iload_n 2, 1) := by decide +kernel
theorem dL_unlucky_6 : decode cL_unlucky 6 = .ok (.iload_n 3, 1) := by decide +kernel
theorem dL_unlucky_7 : decode cL_unlucky 7 = .ok (.iload 4, 2) := by decide +kernel
theorem dL_unlucky_9 : decode cL_unlucky 9 = .ok (.iload 5, 2) := by decide +kernel
theorem dL_unlucky_11 : decode cL_unlucky 11 = .ok (.invokevirtual 59, 3) := by decide +kernel
theorem dL_unlucky_14 : decode cL_unlucky 14 = .ok (.i2l, 1) := by decide +kernel
theorem dL_unlucky_15 : decode cL_unlucky 15 = .ok (.lastore, 1) := by decide +kernel
theorem dL_unlucky_16 : decode cL_unlucky 16 = .ok (.goto 15, 3) := by decide +kernel
theorem dL_unlucky_19 : decode cL_unlucky 19 = .ok (.astore 7, 2) := by decide +kernel
theorem dL_unlucky_21 : decode cL_unlucky 21 = .ok (.iconst 1, 1) := by decide +kernel
theorem dL_unlucky_22 : decode cL_unlucky 22 = .ok (.ireturn, 1) := by decide +kernel
