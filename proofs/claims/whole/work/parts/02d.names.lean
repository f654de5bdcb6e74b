theorem dX4_run_0 : decode cX4_run 0 = .ok (.iload_n 1, 1) := by decide +kernel
theorem dX4_run_1 : decode cX4_run 1 = .ok (.iconst 4, 1) := by decide +kernel
theorem dX4_run_2 : decode cX4_run 2 = .ok (.invokestatic 66, 3) := by decide +kernel
theorem dX4_run_5 : decode cX4_run 5 = .ok (.invokestatic 69, 3) := by decide +kernel
theorem dX4_run_8 : decode cX4_run 8 = .ok (.iload_n 3, 1) := by decide +kernel
theorem dX4_run_9 : decode cX4_run 9 = .ok (.sipush 1000, 3) := by decide +kernel
theorem dX4_run_12 : decode cX4_run 12 = .ok (.invokestatic 66, 3) := by decide +kernel
theorem dX4_run_15 : decode cX4_run 15 = .ok (.ifCond .eq 18, 3) := by decide +kernel
theorem dX4_run_18 : decode cX4_run 18 = .ok (.iload 4, 2) := by decide +kernel
theorem dX4_run_20 : decode cX4_run 20 = .ok (.iconst 0, 1) := by decide +kernel
theorem dX4_run_21 : decode cX4_run 21 = .ok (.bipush 60, 2) := by decide +kernel
theorem dX4_run_23 : decode cX4_run 23 = .ok (.invokestatic 55, 3) := by decide +kernel
theorem dX4_run_26 : decode cX4_run 26 = .ok (.ifCond .eq 7, 3) := by decide +kernel
theorem dX4_run_29 : decode cX4_run 29 = .ok (.iconst 1, 1) := by decide +kernel
theorem dX4_run_30 : decode cX4_run 30 = .ok (.goto 4, 3) := by decide +kernel
theorem dX4_run_33 : decode cX4_run 33 = .ok (.iconst 0, 1) := by decide +kernel
theorem dX4_run_34 : decode cX4_run 34 = .ok (.invokestatic 41, 3) := by decide +kernel
theorem dX4_run_37 : decode cX4_run 37 = .ok (.iload 4, 2) := by decide +kernel
theorem dX4_run_39 : decode cX4_run 39 = .ok (.ifCond .eq 13, 3) := by decide +kernel
theorem dX4_run_42 : decode cX4_run 42 = .ok (.aload_n 0, 1) := by decide +kernel
theorem dX4_run_43 : decode cX4_run 43 = .ok (.getfield 12, 3) := by decide +kernel
theorem dX4_run_46 : decode cX4_run 46 = .ok (.getfield 59, 3) := by decide +kernel
theorem dX4_run_49 : decode cX4_run 49 = .ok (.ifCond .le 7, 3) := by decide +kernel
theorem dX4_run_52 : decode cX4_run 52 = .ok (.iconst 1, 1) := by decide +kernel
theorem dX4_run_53 : decode cX4_run 53 = .ok (.goto 4, 3) := by decide +kernel
theorem dX4_run_56 : decode cX4_run 56 = .ok (.iconst 0, 1) := by decide +kernel
theorem dX4_run_57 : decode cX4_run 57 = .ok (.invokestatic 76, 3) := by decide +kernel
theorem dX4_run_60 : decode cX4_run 60 = .ok (.aload_n 0, 1) := by decide +kernel
theorem dX4_run_61 : decode cX4_run 61 = .ok (.iload_n 1, 1) := by decide +kernel
theorem dX4_run_62 : decode cX4_run 62 = .ok (.iload_n 2, 1) := by decide +kernel
theorem dX4_run_63 : decode cX4_run 63 = .ok (.iload_n 3, 1) := by decide +kernel
theorem dX4_run_64 : decode cX4_run 64 = .ok (.iload 4, 2) := by decide +kernel
theorem dX4_run_66 : decode cX4_run 66 = .ok (.invokevirtual 93, 3) := by decide +kernel
theorem dX4_run_69 : decode cX4_run 69 = .ok (.ireturn, 1) := by decide +kernel
set_option maxRecDepth 20000 in
theorem ggX4_call_X4_isBelow : GoodIn wsX4_call wsX4_isBelow := goodIn_r _ [14] (by decide +kernel) (by decide +kernel)
set_option maxRecDepth 20000 in
theorem gX4_call_X4_isBelow : GoodIn wsX4_call (va_wsS RX4 66 yX4_isBelow wsX4_isBelow) := goodIn_app (goodIn_of _ (by decide +kernel)) ggX4_call_X4_isBelow
set_option maxRecDepth 20000 in
theorem ggX4_call_X4_needKnown : GoodIn wsX4_call wsX4_needKnown := goodIn_ca (goodIn_r _ [17, 1, 2] (by decide +kernel) (by decide +kernel)) (goodIn_sub (fun _ h => List.mem_cons_of_mem _ (List.mem_append_right _ h)) (by decide +kernel))
set_option maxRecDepth 20000 in
theorem gX4_call_X4_needKnown : GoodIn wsX4_call (va_wsS RX4 69 yX4_needKnown wsX4_needKnown) := goodIn_app (goodIn_of _ (by decide +kernel)) ggX4_call_X4_needKnown
set_option maxRecDepth 20000 in
theorem ggX4_call_X2_delay : GoodIn wsX4_call wsX2_delay := goodIn_r _ [22, 23, 24, 25, 26, 42, 43, 44, 45, 46, 47, 48, 49, 50, 51, 52, 53, 54, 55, 56, 57] (by decide +kernel) (by decide +kernel)
set_option maxRecDepth 20000 in
theorem gX4_call_X2_delay : GoodIn wsX4_call (wsV RX4 119 RX2 yX2_delay wsX2_delay) := goodIn_app (goodIn_of _ (by decide +kernel)) ggX4_call_X2_delay
set_option maxRecDepth 20000 in
theorem ggX4_call_X2_whyLate : GoodIn wsX4_call wsX2_whyLate := goodIn_r _ [30, 23, 31, 32, 33, 34, 21, 35, 36, 19, 20, 22, 24, 25, 26, 42, 43, 44, 45, 46, 47, 48, 49, 50, 51, 52, 53, 54, 55, 56, 57] (by decide +kernel) (by decide +kernel)
set_option maxRecDepth 20000 in
theorem gX4_call_X2_whyLate : GoodIn wsX4_call (wsV RX4 122 RX2 yX2_whyLate wsX2_whyLate) := goodIn_app (goodIn_of _ (by decide +kernel)) ggX4_call_X2_whyLate
theorem dX4_call_0 : decode cX4_call 0 = .ok (.aload_n 0, 1) := by decide +kernel
theorem dX4_call_1 : decode cX4_call 1 = .ok (.getfield 26, 3) := by decide +kernel
theorem dX4_call_4 : decode cX4_call 4 = .ok (.getfield 97, 3) := by decide +kernel
theorem dX4_call_7 : decode cX4_call 7 = .ok (.astore_n 3, 1) := by decide +kernel
theorem dX4_call_8 : decode cX4_call 8 = .ok (.iload_n 1, 1) := by decide +kernel
theorem dX4_call_9 : decode cX4_call 9 = .ok (.aload_n 3, 1) := by decide +kernel
theorem dX4_call_10 : decode cX4_call 10 = .ok (.getfield 101, 3) := by decide +kernel
theorem dX4_call_13 : decode cX4_call 13 = .ok (.invokestatic 66, 3) := by decide +kernel
theorem dX4_call_16 : decode cX4_call 16 = .ok (.invokestatic 69, 3) := by decide +kernel
theorem dX4_call_19 : decode cX4_call 19 = .ok (.iload_n 2, 1) := by decide +kernel
theorem dX4_call_20 : decode cX4_call 20 = .ok (.tableswitch 93 0 5 #[40, 47, 54, 61, 71, 80], 40) := by decide +kernel
theorem dX4_call_60 : decode cX4_call 60 = .ok (.aload_n 3, 1) := by decide +kernel
theorem dX4_call_61 : decode cX4_call 61 = .ok (.getfield 106, 3) := by decide +kernel
theorem dX4_call_64 : decode cX4_call 64 = .ok (.iload_n 1, 1) := by decide +kernel
theorem dX4_call_65 : decode cX4_call 65 = .ok (.iaload, 1) := by decide +kernel
theorem dX4_call_66 : decode cX4_call 66 = .ok (.ireturn, 1) := by decide +kernel
theorem dX4_call_67 : decode cX4_call 67 = .ok (.aload_n 3, 1) := by decide +kernel
theorem dX4_call_68 : decode cX4_call 68 = .ok (.getfield 110, 3) := by decide +kernel
theorem dX4_call_71 : decode cX4_call 71 = .ok (.iload_n 1, 1) := by decide +kernel
theorem dX4_call_72 : decode cX4_call 72 = .ok (.iaload, 1) := by decide +kernel
theorem dX4_call_73 : decode cX4_call 73 = .ok (.ireturn, 1) := by decide +kernel
theorem dX4_call_74 : decode cX4_call 74 = .ok (.aload_n 3, 1) := by decide +kernel
theorem dX4_call_75 : decode cX4_call 75 = .ok (.getfield 113, 3) := by decide +kernel
theorem dX4_call_78 : decode cX4_call 78 = .ok (.iload_n 1, 1) := by decide +kernel
theorem dX4_call_79 : decode cX4_call 79 = .ok (.iaload, 1) := by decide +kernel
theorem dX4_call_80 : decode cX4_call 80 = .ok (.ireturn, 1) := by decide +kernel
theorem dX4_call_81 : decode cX4_call 81 = .ok (.aload_n 0, 1) := by decide +kernel
theorem dX4_call_82 : decode cX4_call 82 = .ok (.getfield 26, 3) := by decide +kernel
theorem dX4_call_85 : decode cX4_call 85 = .ok (.getfield 116, 3) := by decide +kernel
theorem dX4_call_88 : decode cX4_call 88 = .ok (.iload_n 1, 1) := by decide +kernel
theorem dX4_call_89 : decode cX4_call 89 = .ok (.iaload, 1) := by decide +kernel
theorem dX4_call_90 : decode cX4_call 90 = .ok (.ireturn, 1) := by decide +kernel
theorem dX4_call_91 : decode cX4_call 91 = .ok (.aload_n 0, 1) := by decide +kernel
theorem dX4_call_92 : decode cX4_call 92 = .ok (.getfield 26, 3) := by decide +kernel
theorem dX4_call_95 : decode cX4_call 95 = .ok (.iload_n 1, 1) := by decide +kernel
theorem dX4_call_96 : decode cX4_call 96 = .ok (.invokevirtual 119, 3) := by decide +kernel
theorem dX4_call_99 : decode cX4_call 99 = .ok (.ireturn, 1) := by decide +kernel
theorem dX4_call_100 : decode cX4_call 100 = .ok (.aload_n 0, 1) := by decide +kernel
theorem dX4_call_101 : decode cX4_call 101 = .ok (.getfield 26, 3) := by decide +kernel
theorem dX4_call_104 : decode cX4_call 104 = .ok (.iload_n 1, 1) := by decide +kernel
theorem dX4_call_105 : decode cX4_call 105 = .ok (.aload_n 0, 1) := by decide +kernel
theorem dX4_call_106 : decode cX4_call 106 = .ok (.getfield 34, 3) := by decide +kernel
theorem dX4_call_109 : decode cX4_call 109 = .ok (.invokevirtual 122, 3) := by decide +kernel
theorem dX4_call_112 : decode cX4_call 112 = .ok (.ireturn, 1) := by decide +kernel
theorem dX4_call_113 : decode cX4_call 113 = .ok (.new 125, 3) := by decide +kernel
theorem dX4_call_116 : decode cX4_call 116 = .ok (.dup, 1) := by decide +kernel
theorem dX4_call_117 : decode cX4_call 117 = .ok (.ldc 127, 2) := by decide +kernel
theorem dX4_call_119 : decode cX4_call 119 = .ok (.invokespecial 129, 3) := by decide +kernel
theorem dX4_call_122 : decode cX4_call 122 = .ok (.athrow, 1) := by decide +kernel
set_option maxRecDepth 20000 in
theorem ggX4_share_X4_isWithin : GoodIn wsX4_share wsX4_isWithin := goodIn_r _ [10] (by decide +kernel) (by decide +kernel)
set_option maxRecDepth 20000 in
theorem gX4_share_X4_isWithin : GoodIn wsX4_share (va_wsS RX4 55 yX4_isWithin wsX4_isWithin) := goodIn_app (goodIn_of _ (by decide +kernel)) ggX4_share_X4_isWithin
set_option maxRecDepth 20000 in
theorem ggX4_share_X4_needKnown : GoodIn wsX4_share wsX4_needKnown := goodIn_ca (goodIn_r _ [13, 14, 15] (by decide +kernel) (by decide +kernel)) (goodIn_sub (fun _ h => List.mem_cons_of_mem _ (List.mem_append_right _ h)) (by decide +kernel))
set_option maxRecDepth 20000 in
theorem gX4_share_X4_needKnown : GoodIn wsX4_share (va_wsS RX4 69 yX4_needKnown wsX4_needKnown) := goodIn_app (goodIn_of _ (by decide +kernel)) ggX4_share_X4_needKnown
set_option maxRecDepth 20000 in
theorem ggX4_share_X2_countLate : GoodIn wsX4_share wsX2_countLate := goodIn_r _ [20, 21, 22, 23, 24, 25, 19, 26, 27, 28, 29, 30, 31, 32, 33, 49, 50, 51, 52, 53, 54, 55, 56, 57, 58, 59, 60, 61, 62, 63, 64] (by decide +kernel) (by decide +kernel)
set_option maxRecDepth 20000 in
theorem gX4_share_X2_countLate : GoodIn wsX4_share (wsV RX4 137 RX2 yX2_countLate wsX2_countLate) := goodIn_app (goodIn_of _ (by decide +kernel)) ggX4_share_X2_countLate
set_option maxRecDepth 20000 in
theorem ggX4_share_X4_lowestTerm : GoodIn wsX4_share wsX4_lowestTerm := goodIn_r _ [36, 37, 38, 9, 39, 40, 41, 42, 43] (by decide +kernel) (by decide +kernel)
set_option maxRecDepth 20000 in
theorem gX4_share_X4_lowestTerm : GoodIn wsX4_share (va_wsS RX4 140 yX4_lowestTerm wsX4_lowestTerm) := goodIn_app (goodIn_of _ (by decide +kernel)) ggX4_share_X4_lowestTerm
theorem dX4_share_0 : decode cX4_share 0 = .ok (.iload_n 1, 1) := by decide +kernel
theorem dX4_share_1 : decode cX4_share 1 = .ok (.iconst 0, 1) := by decide +kernel
theorem dX4_share_2 : decode cX4_share 2 = .ok (.iconst 1, 1) := by decide +kernel
theorem dX4_share_3 : decode cX4_share 3 = .ok (.invokestatic 55, 3) := by decide +kernel
theorem dX4_share_6 : decode cX4_share 6 = .ok (.invokestatic 69, 3) := by decide +kernel
theorem dX4_share_9 : decode cX4_share 9 = .ok (.aload_n 0, 1) := by decide +kernel
theorem dX4_share_10 : decode cX4_share 10 = .ok (.getfield 26, 3) := by decide +kernel
theorem dX4_share_13 : decode cX4_share 13 = .ok (.getfield 97, 3) := by decide +kernel
theorem dX4_share_16 : decode cX4_share 16 = .ok (.getfield 101, 3) := by decide +kernel
theorem dX4_share_19 : decode cX4_share 19 = .ok (.istore_n 2, 1) := by decide +kernel
theorem dX4_share_20 : decode cX4_share 20 = .ok (.iload_n 2, 1) := by decide +kernel
theorem dX4_share_21 : decode cX4_share 21 = .ok (.ifCond .ne 13, 3) := by decide +kernel
theorem dX4_share_24 : decode cX4_share 24 = .ok (.new 132, 3) := by decide +kernel
theorem dX4_share_27 : decode cX4_share 27 = .ok (.dup, 1) := by decide +kernel
theorem dX4_share_28 : decode cX4_share 28 = .ok (.ldc 134, 2) := by decide +kernel
theorem dX4_share_30 : decode cX4_share 30 = .ok (.invokespecial 136, 3) := by decide +kernel
theorem dX4_share_33 : decode cX4_share 33 = .ok (.athrow, 1) := by decide +kernel
theorem dX4_share_34 : decode cX4_share 34 = .ok (.iload_n 2, 1) := by decide +kernel
theorem dX4_share_35 : decode cX4_share 35 = .ok (.aload_n 0, 1) := by decide +kernel
theorem dX4_share_36 : decode cX4_share 36 = .ok (.getfield 26, 3) := by decide +kernel
theorem dX4_share_39 : decode cX4_share 39 = .ok (.aload_n 0, 1) := by decide +kernel
theorem dX4_share_40 : decode cX4_share 40 = .ok (.getfield 34, 3) := by decide +kernel
theorem dX4_share_43 : decode cX4_share 43 = .ok (.invokevirtual 137, 3) := by decide +kernel
theorem dX4_share_46 : decode cX4_share 46 = .ok (.isub, 1) := by decide +kernel
theorem dX4_share_47 : decode cX4_share 47 = .ok (.iload_n 2, 1) := by decide +kernel
theorem dX4_share_48 : decode cX4_share 48 = .ok (.iload_n 1, 1) := by decide +kernel
theorem dX4_share_49 : decode cX4_share 49 = .ok (.ifCond .ne 7, 3) := by decide +kernel
theorem dX4_share_52 : decode cX4_share 52 = .ok (.iconst 1, 1) := by decide +kernel
theorem dX4_share_53 : decode cX4_share 53 = .ok (.goto 4, 3) := by decide +kernel
theorem dX4_share_56 : decode cX4_share 56 = .ok (.iconst 0, 1) := by decide +kernel
theorem dX4_share_57 : decode cX4_share 57 = .ok (.invokestatic 140, 3) := by decide +kernel
theorem dX4_share_60 : decode cX4_share 60 = .ok (.ireturn, 1) := by decide +kernel
set_option maxRecDepth 20000 in
theorem ggX4_mean_X2_countServed : GoodIn wsX4_mean wsX2_countServed := goodIn_r _ [9, 10, 11, 12, 28, 29, 30, 31, 32, 33, 34, 35, 36, 37, 38, 39, 40, 41, 42, 43] (by decide +kernel) (by decide +kernel)
set_option maxRecDepth 20000 in
theorem gX4_mean_X2_countServed : GoodIn wsX4_mean (wsV RX4 144 RX2 yX2_countServed wsX2_countServed) := goodIn_app (goodIn_of _ (by decide +kernel)) ggX4_mean_X2_countServed
set_option maxRecDepth 20000 in
theorem ggX4_mean_X2_sumOfDelays : GoodIn wsX4_mean wsX2_sumOfDelays := goodIn_r _ [16, 10, 11, 12, 17, 18, 19, 8, 20, 21, 22, 28, 29, 30, 31, 32, 33, 34, 35, 36, 37, 38, 39, 40, 41, 42, 43] (by decide +kernel) (by decide +kernel)
set_option maxRecDepth 20000 in
theorem gX4_mean_X2_sumOfDelays : GoodIn wsX4_mean (wsV RX4 150 RX2 yX2_sumOfDelays wsX2_sumOfDelays) := goodIn_app (goodIn_of _ (by decide +kernel)) ggX4_mean_X2_sumOfDelays
theorem dX4_mean_0 : decode cX4_mean 0 = .ok (.aload_n 0, 1) := by decide +kernel
theorem dX4_mean_1 : decode cX4_mean 1 = .ok (.getfield 26, 3) := by decide +kernel
theorem dX4_mean_4 : decode cX4_mean 4 = .ok (.invokevirtual 144, 3) := by decide +kernel
theorem dX4_mean_7 : decode cX4_mean 7 = .ok (.istore_n 1, 1) := by decide +kernel
theorem dX4_mean_8 : decode cX4_mean 8 = .ok (.iload_n 1, 1) := by decide +kernel
theorem dX4_mean_9 : decode cX4_mean 9 = .ok (.ifCond .ne 13, 3) := by decide +kernel
theorem dX4_mean_12 : decode cX4_mean 12 = .ok (.new 132, 3) := by decide +kernel
theorem dX4_mean_15 : decode cX4_mean 15 = .ok (.dup, 1) := by decide +kernel
theorem dX4_mean_16 : decode cX4_mean 16 = .ok (.ldc 148, 2) := by decide +kernel
theorem dX4_mean_18 : decode cX4_mean 18 = .ok (.invokespecial 136, 3) := by decide +kernel
theorem dX4_mean_21 : decode cX4_mean 21 = .ok (.athrow, 1) := by decide +kernel
theorem dX4_mean_22 : decode cX4_mean 22 = .ok (.aload_n 0, 1) := by decide +kernel
theorem dX4_mean_23 : decode cX4_mean 23 = .ok (.getfield 26, 3) := by decide +kernel
theorem dX4_mean_26 : decode cX4_mean 26 = .ok (.invokevirtual 150, 3) := by decide +kernel
theorem dX4_mean_29 : decode cX4_mean 29 = .ok (.ldc2_w 154, 3) := by decide +kernel
theorem dX4_mean_32 : decode cX4_mean 32 = .ok (.lmul, 1) := by decide +kernel
theorem dX4_mean_33 : decode cX4_mean 33 = .ok (.iload_n 1, 1) := by decide +kernel
theorem dX4_mean_34 : decode cX4_mean 34 = .ok (.i2l, 1) := by decide +kernel
theorem dX4_mean_35 : decode cX4_mean 35 = .ok (.ldiv, 1) := by decide +kernel
theorem dX4_mean_36 : decode cX4_mean 36 = .ok (.l2i, 1) := by decide +kernel
theorem dX4_mean_37 : decode cX4_mean 37 = .ok (.ireturn, 1) := by decide +kernel
theorem dX4_missed_0 : decode cX4_missed 0 = .ok (.aload_n 0, 1) := by decide +kernel
theorem dX4_missed_1 : decode cX4_missed 1 = .ok (.getfield 26, 3) := by decide +kernel
theorem dX4_missed_4 : decode cX4_missed 4 = .ok (.getfield 156, 3) := by decide +kernel
theorem dX4_missed_7 : decode cX4_missed 7 = .ok (.ireturn, 1) := by decide +kernel
set_option maxRecDepth 20000 in
theorem ggX4_work_X4_isBelow : GoodIn wsX4_work wsX4_isBelow := goodIn_r _ [8] (by decide +kernel) (by decide +kernel)
set_option maxRecDepth 20000 in
theorem gX4_work_X4_isBelow : GoodIn wsX4_work (va_wsS RX4 66 yX4_isBelow wsX4_isBelow) := goodIn_app (goodIn_of _ (by decide +kernel)) ggX4_work_X4_isBelow
set_option maxRecDepth 20000 in
theorem ggX4_work_X4_needKnown : GoodIn wsX4_work wsX4_needKnown := goodIn_ca (goodIn_r _ [11, 12, 13] (by decide +kernel) (by decide +kernel)) (goodIn_sub (fun _ h => List.mem_cons_of_mem _ (List.mem_append_right _ h)) (by decide +kernel))
set_option maxRecDepth 20000 in
theorem gX4_work_X4_needKnown : GoodIn wsX4_work (va_wsS RX4 69 yX4_needKnown wsX4_needKnown) := goodIn_app (goodIn_of _ (by decide +kernel)) ggX4_work_X4_needKnown
theorem dX4_work_0 : decode cX4_work 0 = .ok (.iload_n 1, 1) := by decide +kernel
theorem dX4_work_1 : decode cX4_work 1 = .ok (.aload_n 0, 1) := by decide +kernel
theorem dX4_work_2 : decode cX4_work 2 = .ok (.getfield 19, 3) := by decide +kernel
theorem dX4_work_5 : decode cX4_work 5 = .ok (.getfield 79, 3) := by decide +kernel
theorem dX4_work_8 : decode cX4_work 8 = .ok (.invokestatic 66, 3) := by decide +kernel
theorem dX4_work_11 : decode cX4_work 11 = .ok (.invokestatic 69, 3) := by decide +kernel
theorem dX4_work_14 : decode cX4_work 14 = .ok (.aload_n 0, 1) := by decide +kernel
theorem dX4_work_15 : decode cX4_work 15 = .ok (.getfield 26, 3) := by decide +kernel
theorem dX4_work_18 : decode cX4_work 18 = .ok (.getfield 159, 3) := by decide +kernel
theorem dX4_work_21 : decode cX4_work 21 = .ok (.iload_n 1, 1) := by decide +kernel
theorem dX4_work_22 : decode cX4_work 22 = .ok (.iaload, 1) := by decide +kernel
theorem dX4_work_23 : decode cX4_work 23 = .ok (.ireturn, 1) := by decide +kernel
set_option maxRecDepth 20000 in
theorem ggX4_worst_X2_hourOfMostLate : GoodIn wsX4_worst wsX2_hourOfMostLate := goodIn_r _ [7, 8, 9, 10, 11, 12, 13, 14, 6, 15, 16, 17, 18, 19, 20, 21, 27, 28, 29, 30, 31, 32, 33, 34, 35, 36, 37, 38, 39, 40, 41, 42] (by decide +kernel) (by decide +kernel)
set_option maxRecDepth 20000 in
theorem gX4_worst_X2_hourOfMostLate : GoodIn wsX4_worst (wsV RX4 162 RX2 yX2_hourOfMostLate wsX2_hourOfMostLate) := goodIn_app (goodIn_of _ (by decide +kernel)) ggX4_worst_X2_hourOfMostLate
theorem dX4_worst_0 : decode cX4_worst 0 = .ok (.aload_n 0, 1) := by decide +kernel
theorem dX4_worst_1 : decode cX4_worst 1 = .ok (.getfield 26, 3) := by decide +kernel
theorem dX4_worst_4 : decode cX4_worst 4 = .ok (.aload_n 0, 1) := by decide +kernel
theorem dX4_worst_5 : decode cX4_worst 5 = .ok (.getfield 34, 3) := by decide +kernel
theorem dX4_worst_8 : decode cX4_worst 8 = .ok (.invokevirtual 162, 3) := by decide +kernel
theorem dX4_worst_11 : decode cX4_worst 11 = .ok (.ireturn, 1) := by decide +kernel
set_option maxRecDepth 20000 in
theorem ggX4_arrived_X4_isWithin : GoodIn wsX4_arrived wsX4_isWithin := goodIn_r _ [5] (by decide +kernel) (by decide +kernel)
set_option maxRecDepth 20000 in
theorem gX4_arrived_X4_isWithin : GoodIn wsX4_arrived (va_wsS RX4 55 yX4_isWithin wsX4_isWithin) := goodIn_app (goodIn_of _ (by decide +kernel)) ggX4_arrived_X4_isWithin
set_option maxRecDepth 20000 in
theorem ggX4_arrived_X4_needRange : GoodIn wsX4_arrived wsX4_needRange := goodIn_ca (goodIn_r _ [8, 9, 10] (by decide +kernel) (by decide +kernel)) (goodIn_sub (fun _ h => List.mem_cons_of_mem _ (List.mem_append_right _ h)) (by decide +kernel))
set_option maxRecDepth 20000 in
theorem gX4_arrived_X4_needRange : GoodIn wsX4_arrived (va_wsS RX4 41 yX4_needRange wsX4_needRange) := goodIn_app (goodIn_of _ (by decide +kernel)) ggX4_arrived_X4_needRange
set_option maxRecDepth 20000 in
theorem ggX4_arrived_X2_countArrivedBy : GoodIn wsX4_arrived wsX2_countArrivedBy := goodIn_r _ [15, 16, 17, 18, 19, 25, 26, 27, 28, 29, 30, 31, 32, 33, 34, 35, 36, 37, 38, 39, 40] (by decide +kernel) (by decide +kernel)
set_option maxRecDepth 20000 in
theorem gX4_arrived_X2_countArrivedBy : GoodIn wsX4_arrived (wsV RX4 165 RX2 yX2_countArrivedBy wsX2_countArrivedBy) := goodIn_app (goodIn_of _ (by decide +kernel)) ggX4_arrived_X2_countArrivedBy
theorem dX4_arrived_0 : decode cX4_arrived 0 = .ok (.iload_n 1, 1) := by decide +kernel
theorem dX4_arrived_1 : decode cX4_arrived 1 = .ok (.iconst 0, 1) := by decide +kernel
theorem dX4_arrived_2 : decode cX4_arrived 2 = .ok (.sipush 9999, 3) := by decide +kernel
theorem dX4_arrived_5 : decode cX4_arrived 5 = .ok (.invokestatic 55, 3) := by decide +kernel
theorem dX4_arrived_8 : decode cX4_arrived 8 = .ok (.invokestatic 41, 3) := by decide +kernel
theorem dX4_arrived_11 : decode cX4_arrived 11 = .ok (.aload_n 0, 1) := by decide +kernel
theorem dX4_arrived_12 : decode cX4_arrived 12 = .ok (.getfield 26, 3) := by decide +kernel
theorem dX4_arrived_15 : decode cX4_arrived 15 = .ok (.iload_n 1, 1) := by decide +kernel
theorem dX4_arrived_16 : decode cX4_arrived 16 = .ok (.invokevirtual 165, 3) := by decide +kernel
theorem dX4_arrived_19 : decode cX4_arrived 19 = .ok (.ireturn, 1) := by decide +kernel
set_option maxRecDepth 20000 in
theorem ggX4_unlucky_X4_isBelow : GoodIn wsX4_unlucky wsX4_isBelow := goodIn_r _ [7] (by decide +kernel) (by decide +kernel)
set_option maxRecDepth 20000 in
theorem gX4_unlucky_X4_isBelow : GoodIn wsX4_unlucky (va_wsS RX4 66 yX4_isBelow wsX4_isBelow) := goodIn_app (goodIn_of _ (by decide +kernel)) ggX4_unlucky_X4_isBelow
set_option maxRecDepth 20000 in
theorem ggX4_unlucky_X4_needKnown : GoodIn wsX4_unlucky wsX4_needKnown := goodIn_ca (goodIn_r _ [10, 11, 12] (by decide +kernel) (by decide +kernel)) (goodIn_sub (fun _ h => List.mem_cons_of_mem _ (List.mem_append_left _ (List.mem_append_left _ (List.mem_append_right _ h)))) (by decide +kernel))
set_option maxRecDepth 20000 in
theorem gX4_unlucky_X4_needKnown : GoodIn wsX4_unlucky (va_wsS RX4 69 yX4_needKnown wsX4_needKnown) := goodIn_app (goodIn_of _ (by decide +kernel)) ggX4_unlucky_X4_needKnown
set_option maxRecDepth 20000 in
theorem ggX4_unlucky_X4_isWithin : GoodIn wsX4_unlucky wsX4_isWithin := goodIn_r _ [15] (by decide +kernel) (by decide +kernel)
set_option maxRecDepth 20000 in
theorem gX4_unlucky_X4_isWithin : GoodIn wsX4_unlucky (va_wsS RX4 55 yX4_isWithin wsX4_isWithin) := goodIn_app (goodIn_of _ (by decide +kernel)) ggX4_unlucky_X4_isWithin
set_option maxRecDepth 20000 in
theorem ggX4_unlucky_X4_needRange : GoodIn wsX4_unlucky wsX4_needRange := goodIn_ca (goodIn_r _ [18, 19, 20] (by decide +kernel) (by decide +kernel)) (goodIn_sub (fun _ h => List.mem_cons_of_mem _ (List.mem_append_left _ (List.mem_append_right _ h))) (by decide +kernel))
set_option maxRecDepth 20000 in
theorem gX4_unlucky_X4_needRange : GoodIn wsX4_unlucky (va_wsS RX4 41 yX4_needRange wsX4_needRange) := goodIn_app (goodIn_of _ (by decide +kernel)) ggX4_unlucky_X4_needRange
set_option maxRecDepth 20000 in
theorem ggX4_unlucky_X4_needState : GoodIn wsX4_unlucky wsX4_needState := goodIn_ca (goodIn_r _ [23, 24, 25] (by decide +kernel) (by decide +kernel)) (goodIn_sub (fun _ h => List.mem_cons_of_mem _ (List.mem_append_right _ h)) (by decide +kernel))
set_option maxRecDepth 20000 in
theorem gX4_unlucky_X4_needState : GoodIn wsX4_unlucky (va_wsS RX4 76 yX4_needState wsX4_needState) := goodIn_app (goodIn_of _ (by decide +kernel)) ggX4_unlucky_X4_needState
set_option maxRecDepth 20000 in
theorem ggX4_unlucky_X4_lateOn : GoodIn wsX4_unlucky wsX4_lateOn := goodIn_r _ [29, 3, 30, 1, 31, 32, 33, 34, 35, 36, 37, 38, 39, 40, 41, 42, 43, 44, 45, 46, 47, 48, 49, 50, 51, 52, 53, 54, 55, 56, 57, 58, 59, 60, 61, 62, 63, 64, 65, 66, 67, 68, 69, 70, 71, 72, 73, 74, 75, 76, 77, 78, 79, 80, 81, 82, 83, 84, 85, 86, 87, 88, 89, 90, 91, 92, 93, 94, 95, 96, 97, 98, 99, 100, 101, 102, 103, 104, 105, 106, 107, 108, 109, 110, 111, 112, 113, 114, 115, 116, 117, 118, 119, 120, 121, 122, 123, 124, 125, 126, 127, 128, 129, 130, 131, 132, 133, 134, 135, 136, 137, 138, 139, 140, 141, 142, 143, 144, 145, 146, 147, 148, 149, 150, 151, 152, 157, 158, 159, 160, 161, 170, 171, 172, 173, 174, 175, 176, 177, 178, 179, 180, 181, 182, 183, 184, 185, 162, 163, 164, 165, 166, 167, 168, 169, 186, 187] (by decide +kernel) (by decide +kernel)
set_option maxRecDepth 20000 in
theorem gX4_unlucky_X4_lateOn : GoodIn wsX4_unlucky (wsV RX4 93 RX4 yX4_lateOn wsX4_lateOn) := goodIn_app (goodIn_of _ (by decide +kernel)) ggX4_unlucky_X4_lateOn
set_option maxRecDepth 20000 in
theorem ggX4_unlucky_X2_forget : GoodIn wsX4_unlucky wsX2_forget := goodIn_r _ [156, 105, 111, 69, 71, 170, 171, 172, 173, 174, 175, 176, 177, 178, 179, 180, 181, 182, 183, 184, 185] (by decide +kernel) (by decide +kernel)
set_option maxRecDepth 20000 in
theorem gX4_unlucky_X2_forget : GoodIn wsX4_unlucky (wsV RX4 168 RX2 yX2_forget wsX2_forget) := goodIn_app (goodIn_of _ (by decide +kernel)) ggX4_unlucky_X2_forget
theorem dX4_unlucky_0 : decode cX4_unlucky 0 = .ok (.iload_n 1, 1) := by decide +kernel
theorem dX4_unlucky_1 : decode cX4_unlucky 1 = .ok (.iconst 4, 1) := by decide +kernel
theorem dX4_unlucky_2 : decode cX4_unlucky 2 = .ok (.invokestatic 66, 3) := by decide +kernel
theorem dX4_unlucky_5 : decode cX4_unlucky 5 = .ok (.invokestatic 69, 3) := by decide +kernel
theorem dX4_unlucky_8 : decode cX4_unlucky 8 = .ok (.iload_n 3, 1) := by decide +kernel
theorem dX4_unlucky_9 : decode cX4_unlucky 9 = .ok (.iconst 1, 1) := by decide +kernel
theorem dX4_unlucky_10 : decode cX4_unlucky 10 = .ok (.bipush 8, 2) := by decide +kernel
theorem dX4_unlucky_12 : decode cX4_unlucky 12 = .ok (.invokestatic 55, 3) := by decide +kernel
theorem dX4_unlucky_15 : decode cX4_unlucky 15 = .ok (.ifCond .eq 29, 3) := by decide +kernel
theorem dX4_unlucky_18 : decode cX4_unlucky 18 = .ok (.iload 4, 2) := by decide +kernel
theorem dX4_unlucky_20 : decode cX4_unlucky 20 = .ok (.sipush 1000, 3) := by decide +kernel
theorem dX4_unlucky_23 : decode cX4_unlucky 23 = .ok (.invokestatic 66, 3) := by decide +kernel
theorem dX4_unlucky_26 : decode cX4_unlucky 26 = .ok (.ifCond .eq 18, 3) := by decide +kernel
theorem dX4_unlucky_29 : decode cX4_unlucky 29 = .ok (.iload 5, 2) := by decide +kernel
theorem dX4_unlucky_31 : decode cX4_unlucky 31 = .ok (.iconst 0, 1) := by decide +kernel
theorem dX4_unlucky_32 : decode cX4_unlucky 32 = .ok (.bipush 60, 2) := by decide +kernel
theorem dX4_unlucky_34 : decode cX4_unlucky 34 = .ok (.invokestatic 55, 3) := by decide +kernel
theorem dX4_unlucky_37 : decode cX4_unlucky 37 = .ok (.ifCond .eq 7, 3) := by decide +kernel
theorem dX4_unlucky_40 : decode cX4_unlucky 40 = .ok (.iconst 1, 1) := by decide +kernel
theorem dX4_unlucky_41 : decode cX4_unlucky 41 = .ok (.goto 4, 3) := by decide +kernel
theorem dX4_unlucky_44 : decode cX4_unlucky 44 = .ok (.iconst 0, 1) := by decide +kernel
theorem dX4_unlucky_45 : decode cX4_unlucky 45 = .ok (.invokestatic 41, 3) := by decide +kernel
theorem dX4_unlucky_48 : decode cX4_unlucky 48 = .ok (.iload 5, 2) := by decide +kernel
theorem dX4_unlucky_50 : decode cX4_unlucky 50 = .ok (.ifCond .eq 13, 3) := by decide +kernel
theorem dX4_unlucky_53 : decode cX4_unlucky 53 = .ok (.aload_n 0, 1) := by decide +kernel
theorem dX4_unlucky_54 : decode cX4_unlucky 54 = .ok (.getfield 12, 3) := by decide +kernel
theorem dX4_unlucky_57 : decode cX4_unlucky 57 = .ok (.getfield 59, 3) := by decide +kernel
theorem dX4_unlucky_60 : decode cX4_unlucky 60 = .ok (.ifCond .le 7, 3) := by decide +kernel
theorem dX4_unlucky_63 : decode cX4_unlucky 63 = .ok (.iconst 1, 1) := by decide +kernel
theorem dX4_unlucky_64 : decode cX4_unlucky 64 = .ok (.goto 4, 3) := by decide +kernel
theorem dX4_unlucky_67 : decode cX4_unlucky 67 = .ok (.iconst 0, 1) := by decide +kernel
theorem dX4_unlucky_68 : decode cX4_unlucky 68 = .ok (.invokestatic 76, 3) := by decide +kernel
theorem dX4_unlucky_71 : decode cX4_unlucky 71 = .ok (.iconst (-1), 1) := by decide +kernel
theorem dX4_unlucky_72 : decode cX4_unlucky 72 = .ok (.istore 6, 2) := by decide +kernel
theorem dX4_unlucky_74 : decode cX4_unlucky 74 = .ok (.iload_n 2, 1) := by decide +kernel
theorem dX4_unlucky_75 : decode cX4_unlucky 75 = .ok (.istore 7, 2) := by decide +kernel
theorem dX4_unlucky_77 : decode cX4_unlucky 77 = .ok (.iconst 0, 1) := by decide +kernel
theorem dX4_unlucky_78 : decode cX4_unlucky 78 = .ok (.istore 8, 2) := by decide +kernel
theorem dX4_unlucky_80 : decode cX4_unlucky 80 = .ok (.iload 8, 2) := by decide +kernel
theorem dX4_unlucky_82 : decode cX4_unlucky 82 = .ok (.iload_n 3, 1) := by decide +kernel
theorem dX4_unlucky_83 : decode cX4_unlucky 83 = .ok (.if_icmp .ge 41, 3) := by decide +kernel
theorem dX4_unlucky_86 : decode cX4_unlucky 86 = .ok (.aload_n 0, 1) := by decide +kernel
theorem dX4_unlucky_87 : decode cX4_unlucky 87 = .ok (.iload_n 1, 1) := by decide +kernel
theorem dX4_unlucky_88 : decode cX4_unlucky 88 = .ok (.iload_n 2, 1) := by decide +kernel
theorem dX4_unlucky_89 : decode cX4_unlucky 89 = .ok (.iload 8, 2) := by decide +kernel
theorem dX4_unlucky_91 : decode cX4_unlucky 91 = .ok (.iadd, 1) := by decide +kernel
theorem dX4_unlucky_92 : decode cX4_unlucky 92 = .ok (.iload 4, 2) := by decide +kernel
theorem dX4_unlucky_94 : decode cX4_unlucky 94 = .ok (.iload 5, 2) := by decide +kernel
theorem dX4_unlucky_96 : decode cX4_unlucky 96 = .ok (.invokevirtual 93, 3) := by decide +kernel
theorem dX4_unlucky_99 : decode cX4_unlucky 99 = .ok (.istore 9, 2) := by decide +kernel
theorem dX4_unlucky_101 : decode cX4_unlucky 101 = .ok (.iload 9, 2) := by decide +kernel
theorem dX4_unlucky_103 : decode cX4_unlucky 103 = .ok (.iload 6, 2) := by decide +kernel
theorem dX4_unlucky_105 : decode cX4_unlucky 105 = .ok (.if_icmp .le 13, 3) := by decide +kernel
theorem dX4_unlucky_108 : decode cX4_unlucky 108 = .ok (.iload 9, 2) := by decide +kernel
theorem dX4_unlucky_110 : decode cX4_unlucky 110 = .ok (.istore 6, 2) := by decide +kernel
theorem dX4_unlucky_112 : decode cX4_unlucky 112 = .ok (.iload_n 2, 1) := by decide +kernel
theorem dX4_unlucky_113 : decode cX4_unlucky 113 = .ok (.iload 8, 2) := by decide +kernel
theorem dX4_unlucky_115 : decode cX4_unlucky 115 = .ok (.iadd, 1) := by decide +kernel
theorem dX4_unlucky_116 : decode cX4_unlucky 116 = .ok (.istore 7, 2) := by decide +kernel
theorem dX4_unlucky_118 : decode cX4_unlucky 118 = .ok (.iinc 8 1, 3) := by decide +kernel
theorem dX4_unlucky_121 : decode cX4_unlucky 121 = .ok (.goto (-41), 3) := by decide +kernel
theorem dX4_unlucky_124 : decode cX4_unlucky 124 = .ok (.aload_n 0, 1) := by decide +kernel
theorem dX4_unlucky_125 : decode cX4_unlucky 125 = .ok (.getfield 26, 3) := by decide +kernel
theorem dX4_unlucky_128 : decode cX4_unlucky 128 = .ok (.invokevirtual 168, 3) := by decide +kernel
theorem dX4_unlucky_131 : decode cX4_unlucky 131 = .ok (.iload 7, 2) := by decide +kernel
theorem dX4_unlucky_133 : decode cX4_unlucky 133 = .ok (.ireturn, 1) := by decide +kernel
set_option maxRecDepth 20000 in
theorem ggX4_compare_X4_isBelow : GoodIn wsX4_compare wsX4_isBelow := goodIn_r _ [7] (by decide +kernel) (by decide +kernel)
set_option maxRecDepth 20000 in
theorem gX4_compare_X4_isBelow : GoodIn wsX4_compare (va_wsS RX4 66 yX4_isBelow wsX4_isBelow) := goodIn_app (goodIn_of _ (by decide +kernel)) ggX4_compare_X4_isBelow
set_option maxRecDepth 20000 in
theorem ggX4_compare_X4_isWithin : GoodIn wsX4_compare wsX4_isWithin := goodIn_r _ [10] (by decide +kernel) (by decide +kernel)
set_option maxRecDepth 20000 in
theorem gX4_compare_X4_isWithin : GoodIn wsX4_compare (va_wsS RX4 55 yX4_isWithin wsX4_isWithin) := goodIn_app (goodIn_of _ (by decide +kernel)) ggX4_compare_X4_isWithin
set_option maxRecDepth 20000 in
theorem ggX4_compare_X4_needKnown : GoodIn wsX4_compare wsX4_needKnown := goodIn_ca (goodIn_r _ [13, 14, 15] (by decide +kernel) (by decide +kernel)) (goodIn_sub (fun _ h => List.mem_cons_of_mem _ (List.mem_append_left _ (List.mem_append_left _ (List.mem_append_right _ h)))) (by decide +kernel))
set_option maxRecDepth 20000 in
theorem gX4_compare_X4_needKnown : GoodIn wsX4_compare (va_wsS RX4 69 yX4_needKnown wsX4_needKnown) := goodIn_app (goodIn_of _ (by decide +kernel)) ggX4_compare_X4_needKnown
set_option maxRecDepth 20000 in
theorem ggX4_compare_X4_needRange : GoodIn wsX4_compare wsX4_needRange := goodIn_ca (goodIn_r _ [18, 19, 20] (by decide +kernel) (by decide +kernel)) (goodIn_sub (fun _ h => List.mem_cons_of_mem _ (List.mem_append_left _ (List.mem_append_right _ h))) (by decide +kernel))
set_option maxRecDepth 20000 in
theorem gX4_compare_X4_needRange : GoodIn wsX4_compare (va_wsS RX4 41 yX4_needRange wsX4_needRange) := goodIn_app (goodIn_of _ (by decide +kernel)) ggX4_compare_X4_needRange
set_option maxRecDepth 20000 in
theorem ggX4_compare_X4_needState : GoodIn wsX4_compare wsX4_needState := goodIn_ca (goodIn_r _ [23, 24, 25] (by decide +kernel) (by decide +kernel)) (goodIn_sub (fun _ h => List.mem_cons_of_mem _ (List.mem_append_right _ h)) (by decide +kernel))
set_option maxRecDepth 20000 in
theorem gX4_compare_X4_needState : GoodIn wsX4_compare (va_wsS RX4 76 yX4_needState wsX4_needState) := goodIn_app (goodIn_of _ (by decide +kernel)) ggX4_compare_X4_needState
set_option maxRecDepth 20000 in
theorem ggX4_compare_X4_lateOn : GoodIn wsX4_compare wsX4_lateOn := goodIn_r _ [29, 3, 30, 1, 31, 32, 33, 34, 35, 36, 37, 38, 39, 40, 41, 42, 43, 44, 45, 46, 47, 48, 49, 50, 51, 52, 53, 54, 55, 56, 57, 58, 59, 60, 61, 62, 63, 64, 65, 66, 67, 68, 69, 70, 71, 72, 73, 74, 75, 76, 77, 78, 79, 80, 81, 82, 83, 84, 85, 86, 87, 88, 89, 90, 91, 92, 93, 94, 95, 96, 97, 98, 99, 100, 101, 102, 103, 104, 105, 106, 107, 108, 109, 110, 111, 112, 113, 114, 115, 116, 117, 118, 119, 120, 121, 122, 123, 124, 125, 126, 127, 128, 129, 130, 131, 132, 133, 134, 135, 136, 137, 138, 139, 140, 141, 142, 143, 144, 145, 146, 147, 148, 149, 150, 151, 152, 167, 168, 169, 170, 171, 180, 181, 182, 183, 184, 185, 186, 187, 188, 189, 190, 191, 192, 193, 194, 195, 172, 173, 174, 175, 176, 177, 178, 179, 196, 197] (by decide +kernel) (by decide +kernel)
set_option maxRecDepth 20000 in
theorem gX4_compare_X4_lateOn : GoodIn wsX4_compare (wsV RX4 93 RX4 yX4_lateOn wsX4_lateOn) := goodIn_app (goodIn_of _ (by decide +kernel)) ggX4_compare_X4_lateOn
set_option maxRecDepth 20000 in
theorem ggX4_compare_X2_forget : GoodIn wsX4_compare wsX2_forget := goodIn_r _ [156, 105, 111, 69, 71, 180, 181, 182, 183, 184, 185, 186, 187, 188, 189, 190, 191, 192, 193, 194, 195] (by decide +kernel) (by decide +kernel)
set_option maxRecDepth 20000 in
theorem gX4_compare_X2_forget : GoodIn wsX4_compare (wsV RX4 168 RX2 yX2_forget wsX2_forget) := goodIn_app (goodIn_of _ (by decide +kernel)) ggX4_compare_X2_forget
set_option maxRecDepth 20000 in
theorem ggX4_compare_X4_waysOfHeads : GoodIn wsX4_compare wsX4_waysOfHeads := goodIn_r _ [159] (by decide +kernel) (by decide +kernel)
set_option maxRecDepth 20000 in
theorem gX4_compare_X4_waysOfHeads : GoodIn wsX4_compare (va_wsS RX4 171 yX4_waysOfHeads wsX4_waysOfHeads) := goodIn_app (goodIn_of _ (by decide +kernel)) ggX4_compare_X4_waysOfHeads
set_option maxRecDepth 20000 in
theorem ggX4_compare_X4_lowestTerm : GoodIn wsX4_compare wsX4_lowestTerm := goodIn_r _ [162, 163, 164, 6, 165, 166, 57, 58, 59] (by decide +kernel) (by decide +kernel)
set_option maxRecDepth 20000 in
theorem gX4_compare_X4_lowestTerm : GoodIn wsX4_compare (va_wsS RX4 140 yX4_lowestTerm wsX4_lowestTerm) := goodIn_app (goodIn_of _ (by decide +kernel)) ggX4_compare_X4_lowestTerm
theorem dX4_compare_0 : decode cX4_compare 0 = .ok (.iload_n 1, 1) := by decide +kernel
theorem dX4_compare_1 : decode cX4_compare 1 = .ok (.iconst 4, 1) := by decide +kernel
theorem dX4_compare_2 : decode cX4_compare 2 = .ok (.invokestatic 66, 3) := by decide +kernel
theorem dX4_compare_5 : decode cX4_compare 5 = .ok (.ifCond .eq 25, 3) := by decide +kernel
theorem dX4_compare_8 : decode cX4_compare 8 = .ok (.iload_n 2, 1) := by decide +kernel
theorem dX4_compare_9 : decode cX4_compare 9 = .ok (.iconst 4, 1) := by decide +kernel
theorem dX4_compare_10 : decode cX4_compare 10 = .ok (.invokestatic 66, 3) := by decide +kernel
theorem dX4_compare_13 : decode cX4_compare 13 = .ok (.ifCond .eq 17, 3) := by decide +kernel
theorem dX4_compare_16 : decode cX4_compare 16 = .ok (.iload 6, 2) := by decide +kernel
theorem dX4_compare_18 : decode cX4_compare 18 = .ok (.iconst 0, 1) := by decide +kernel
theorem dX4_compare_19 : decode cX4_compare 19 = .ok (.iconst 3, 1) := by decide +kernel
theorem dX4_compare_20 : decode cX4_compare 20 = .ok (.invokestatic 55, 3) := by decide +kernel
theorem dX4_compare_23 : decode cX4_compare 23 = .ok (.ifCond .eq 7, 3) := by decide +kernel
theorem dX4_compare_26 : decode cX4_compare 26 = .ok (.iconst 1, 1) := by decide +kernel
theorem dX4_compare_27 : decode cX4_compare 27 = .ok (.goto 4, 3) := by decide +kernel
theorem dX4_compare_30 : decode cX4_compare 30 = .ok (.iconst 0, 1) := by decide +kernel
theorem dX4_compare_31 : decode cX4_compare 31 = .ok (.invokestatic 69, 3) := by decide +kernel
theorem dX4_compare_34 : decode cX4_compare 34 = .ok (.iload 5, 2) := by decide +kernel
theorem dX4_compare_36 : decode cX4_compare 36 = .ok (.iconst 1, 1) := by decide +kernel
theorem dX4_compare_37 : decode cX4_compare 37 = .ok (.bipush 20, 2) := by decide +kernel
theorem dX4_compare_39 : decode cX4_compare 39 = .ok (.invokestatic 55, 3) := by decide +kernel
theorem dX4_compare_42 : decode cX4_compare 42 = .ok (.ifCond .eq 22, 3) := by decide +kernel
theorem dX4_compare_45 : decode cX4_compare 45 = .ok (.iload 4, 2) := by decide +kernel
theorem dX4_compare_47 : decode cX4_compare 47 = .ok (.iconst 0, 1) := by decide +kernel
theorem dX4_compare_48 : decode cX4_compare 48 = .ok (.sipush 1000, 3) := by decide +kernel
theorem dX4_compare_51 : decode cX4_compare 51 = .ok (.iload 5, 2) := by decide +kernel
theorem dX4_compare_53 : decode cX4_compare 53 = .ok (.isub, 1) := by decide +kernel
theorem dX4_compare_54 : decode cX4_compare 54 = .ok (.invokestatic 55, 3) := by decide +kernel
theorem dX4_compare_57 : decode cX4_compare 57 = .ok (.ifCond .eq 7, 3) := by decide +kernel
theorem dX4_compare_60 : decode cX4_compare 60 = .ok (.iconst 1, 1) := by decide +kernel
theorem dX4_compare_61 : decode cX4_compare 61 = .ok (.goto 4, 3) := by decide +kernel
theorem dX4_compare_64 : decode cX4_compare 64 = .ok (.iconst 0, 1) := by decide +kernel
theorem dX4_compare_65 : decode cX4_compare 65 = .ok (.invokestatic 41, 3) := by decide +kernel
theorem dX4_compare_68 : decode cX4_compare 68 = .ok (.aload_n 0, 1) := by decide +kernel
theorem dX4_compare_69 : decode cX4_compare 69 = .ok (.getfield 12, 3) := by decide +kernel
theorem dX4_compare_72 : decode cX4_compare 72 = .ok (.getfield 59, 3) := by decide +kernel
theorem dX4_compare_75 : decode cX4_compare 75 = .ok (.ifCond .le 7, 3) := by decide +kernel
theorem dX4_compare_78 : decode cX4_compare 78 = .ok (.iconst 1, 1) := by decide +kernel
theorem dX4_compare_79 : decode cX4_compare 79 = .ok (.goto 4, 3) := by decide +kernel
theorem dX4_compare_82 : decode cX4_compare 82 = .ok (.iconst 0, 1) := by decide +kernel
theorem dX4_compare_83 : decode cX4_compare 83 = .ok (.invokestatic 76, 3) := by decide +kernel
theorem dX4_compare_86 : decode cX4_compare 86 = .ok (.iconst 0, 1) := by decide +kernel
theorem dX4_compare_87 : decode cX4_compare 87 = .ok (.istore 7, 2) := by decide +kernel
theorem dX4_compare_89 : decode cX4_compare 89 = .ok (.iconst 0, 1) := by decide +kernel
theorem dX4_compare_90 : decode cX4_compare 90 = .ok (.istore 8, 2) := by decide +kernel
theorem dX4_compare_92 : decode cX4_compare 92 = .ok (.iconst 0, 1) := by decide +kernel
theorem dX4_compare_93 : decode cX4_compare 93 = .ok (.istore 9, 2) := by decide +kernel
theorem dX4_compare_95 : decode cX4_compare 95 = .ok (.iload 9, 2) := by decide +kernel
theorem dX4_compare_97 : decode cX4_compare 97 = .ok (.iload 5, 2) := by decide +kernel
theorem dX4_compare_99 : decode cX4_compare 99 = .ok (.if_icmp .ge 62, 3) := by decide +kernel
theorem dX4_compare_102 : decode cX4_compare 102 = .ok (.aload_n 0, 1) := by decide +kernel
theorem dX4_compare_103 : decode cX4_compare 103 = .ok (.iload_n 1, 1) := by decide +kernel
theorem dX4_compare_104 : decode cX4_compare 104 = .ok (.iload_n 3, 1) := by decide +kernel
theorem dX4_compare_105 : decode cX4_compare 105 = .ok (.iload 4, 2) := by decide +kernel
theorem dX4_compare_107 : decode cX4_compare 107 = .ok (.iload 9, 2) := by decide +kernel
theorem dX4_compare_109 : decode cX4_compare 109 = .ok (.iadd, 1) := by decide +kernel
theorem dX4_compare_110 : decode cX4_compare 110 = .ok (.bipush 12, 2) := by decide +kernel
theorem dX4_compare_112 : decode cX4_compare 112 = .ok (.invokevirtual 93, 3) := by decide +kernel
theorem dX4_compare_115 : decode cX4_compare 115 = .ok (.istore 10, 2) := by decide +kernel
theorem dX4_compare_117 : decode cX4_compare 117 = .ok (.aload_n 0, 1) := by decide +kernel
theorem dX4_compare_118 : decode cX4_compare 118 = .ok (.iload_n 2, 1) := by decide +kernel
theorem dX4_compare_119 : decode cX4_compare 119 = .ok (.iload_n 3, 1) := by decide +kernel
theorem dX4_compare_120 : decode cX4_compare 120 = .ok (.iload 4, 2) := by decide +kernel
theorem dX4_compare_122 : decode cX4_compare 122 = .ok (.iload 9, 2) := by decide +kernel
theorem dX4_compare_124 : decode cX4_compare 124 = .ok (.iadd, 1) := by decide +kernel
theorem dX4_compare_125 : decode cX4_compare 125 = .ok (.bipush 12, 2) := by decide +kernel
theorem dX4_compare_127 : decode cX4_compare 127 = .ok (.invokevirtual 93, 3) := by decide +kernel
theorem dX4_compare_130 : decode cX4_compare 130 = .ok (.istore 11, 2) := by decide +kernel
theorem dX4_compare_132 : decode cX4_compare 132 = .ok (.iload 10, 2) := by decide +kernel
theorem dX4_compare_134 : decode cX4_compare 134 = .ok (.iload 11, 2) := by decide +kernel
theorem dX4_compare_136 : decode cX4_compare 136 = .ok (.if_icmp .ge 9, 3) := by decide +kernel
theorem dX4_compare_139 : decode cX4_compare 139 = .ok (.iinc 7 1, 3) := by decide +kernel
theorem dX4_compare_142 : decode cX4_compare 142 = .ok (.goto 13, 3) := by decide +kernel
theorem dX4_compare_145 : decode cX4_compare 145 = .ok (.iload 10, 2) := by decide +kernel
theorem dX4_compare_147 : decode cX4_compare 147 = .ok (.iload 11, 2) := by decide +kernel
theorem dX4_compare_149 : decode cX4_compare 149 = .ok (.if_icmp .le 6, 3) := by decide +kernel
theorem dX4_compare_152 : decode cX4_compare 152 = .ok (.iinc 8 1, 3) := by decide +kernel
theorem dX4_compare_155 : decode cX4_compare 155 = .ok (.iinc 9 1, 3) := by decide +kernel
theorem dX4_compare_158 : decode cX4_compare 158 = .ok (.goto (-63), 3) := by decide +kernel
theorem dX4_compare_161 : decode cX4_compare 161 = .ok (.aload_n 0, 1) := by decide +kernel
theorem dX4_compare_162 : decode cX4_compare 162 = .ok (.getfield 26, 3) := by decide +kernel
theorem dX4_compare_165 : decode cX4_compare 165 = .ok (.invokevirtual 168, 3) := by decide +kernel
theorem dX4_compare_168 : decode cX4_compare 168 = .ok (.iload 6, 2) := by decide +kernel
theorem dX4_compare_170 : decode cX4_compare 170 = .ok (.iconst 2, 1) := by decide +kernel
theorem dX4_compare_171 : decode cX4_compare 171 = .ok (.if_icmp .ge 16, 3) := by decide +kernel
theorem dX4_compare_174 : decode cX4_compare 174 = .ok (.iload 6, 2) := by decide +kernel
theorem dX4_compare_176 : decode cX4_compare 176 = .ok (.ifCond .ne 8, 3) := by decide +kernel
theorem dX4_compare_179 : decode cX4_compare 179 = .ok (.iload 7, 2) := by decide +kernel
theorem dX4_compare_181 : decode cX4_compare 181 = .ok (.goto 5, 3) := by decide +kernel
theorem dX4_compare_184 : decode cX4_compare 184 = .ok (.iload 8, 2) := by decide +kernel
theorem dX4_compare_186 : decode cX4_compare 186 = .ok (.ireturn, 1) := by decide +kernel
theorem dX4_compare_187 : decode cX4_compare 187 = .ok (.iload 7, 2) := by decide +kernel
theorem dX4_compare_189 : decode cX4_compare 189 = .ok (.iload 8, 2) := by decide +kernel
theorem dX4_compare_191 : decode cX4_compare 191 = .ok (.iadd, 1) := by decide +kernel
theorem dX4_compare_192 : decode cX4_compare 192 = .ok (.istore 9, 2) := by decide +kernel
theorem dX4_compare_194 : decode cX4_compare 194 = .ok (.iload 9, 2) := by decide +kernel
theorem dX4_compare_196 : decode cX4_compare 196 = .ok (.iload 7, 2) := by decide +kernel
theorem dX4_compare_198 : decode cX4_compare 198 = .ok (.invokestatic 171, 3) := by decide +kernel
theorem dX4_compare_201 : decode cX4_compare 201 = .ok (.iconst 1, 1) := by decide +kernel
theorem dX4_compare_202 : decode cX4_compare 202 = .ok (.iload 9, 2) := by decide +kernel
theorem dX4_compare_204 : decode cX4_compare 204 = .ok (.ishl, 1) := by decide +kernel
theorem dX4_compare_205 : decode cX4_compare 205 = .ok (.iload 6, 2) := by decide +kernel
theorem dX4_compare_207 : decode cX4_compare 207 = .ok (.iconst 2, 1) := by decide +kernel
theorem dX4_compare_208 : decode cX4_compare 208 = .ok (.if_icmp .ne 7, 3) := by decide +kernel
theorem dX4_compare_211 : decode cX4_compare 211 = .ok (.iconst 1, 1) := by decide +kernel
theorem dX4_compare_212 : decode cX4_compare 212 = .ok (.goto 4, 3) := by decide +kernel
theorem dX4_compare_215 : decode cX4_compare 215 = .ok (.iconst 0, 1) := by decide +kernel
theorem dX4_compare_216 : decode cX4_compare 216 = .ok (.invokestatic 140, 3) := by decide +kernel
theorem dX4_compare_219 : decode cX4_compare 219 = .ok (.ireturn, 1) := by decide +kernel
set_option maxRecDepth 20000 in
theorem ggX4_lateOn_X0_draw : GoodIn wsX4_lateOn wsX0_draw := goodIn_r _ [11, 12, 13, 14, 15, 16, 17, 18, 19, 10, 20, 21, 22, 23, 24, 25, 26, 27, 28, 29, 30, 31, 32, 33, 34, 142, 143, 144, 145, 146, 147, 148, 149, 150, 151, 152, 153, 154] (by decide +kernel) (by decide +kernel)
set_option maxRecDepth 20000 in
theorem gX4_lateOn_X0_draw : GoodIn wsX4_lateOn (wsV RX4 174 RX0 yX0_draw wsX0_draw) := goodIn_app (goodIn_of _ (by decide +kernel)) ggX4_lateOn_X0_draw
set_option maxRecDepth 20000 in
theorem ggX4_lateOn_X2_begin : GoodIn wsX4_lateOn wsX2_begin := goodIn_r _ [39, 40, 41, 42, 43, 44, 45, 46, 47, 48, 49, 38, 50, 51, 52, 53, 54, 55, 56, 26, 57, 58, 59, 60, 61, 31, 62, 63, 64, 155, 156, 131, 132, 133, 134, 135, 136, 137, 138, 139, 140, 141, 147, 148, 149, 150, 151, 152, 153, 154] (by decide +kernel) (by decide +kernel)
set_option maxRecDepth 20000 in
theorem gX4_lateOn_X2_begin : GoodIn wsX4_lateOn (wsV RX4 178 RX2 yX2_begin wsX2_begin) := goodIn_app (goodIn_of _ (by decide +kernel)) ggX4_lateOn_X2_begin
set_option maxRecDepth 20000 in
theorem ggX4_lateOn_X2_playOut : GoodIn wsX4_lateOn wsX2_playOut := goodIn_r _ [68, 69, 42, 70, 71, 31, 72, 73, 30, 32, 74, 75, 76, 38, 77, 78, 79, 80, 81, 82, 83, 84, 46, 85, 86, 87, 88, 89, 90, 91, 92, 93, 94, 41, 53, 95, 96, 97, 98, 51, 43, 99, 100, 101, 102, 103, 104, 105, 44, 106, 107, 108, 109, 110, 111, 112, 113, 131, 132, 133, 134, 135, 136, 137, 138, 139, 140, 141, 142, 143, 144, 145, 146] (by decide +kernel) (by decide +kernel)
set_option maxRecDepth 20000 in
theorem gX4_lateOn_X2_playOut : GoodIn wsX4_lateOn (wsV RX4 182 RX2 yX2_playOut wsX2_playOut) := goodIn_app (goodIn_of _ (by decide +kernel)) ggX4_lateOn_X2_playOut
set_option maxRecDepth 20000 in
theorem ggX4_lateOn_X2_countLate : GoodIn wsX4_lateOn wsX2_countLate := goodIn_r _ [117, 78, 84, 118, 119, 120, 38, 121, 46, 122, 123, 124, 125, 104, 85, 131, 132, 133, 134, 135, 136, 137, 138, 139, 140, 141, 142, 143, 144, 145, 146] (by decide +kernel) (by decide +kernel)
set_option maxRecDepth 20000 in
theorem gX4_lateOn_X2_countLate : GoodIn wsX4_lateOn (wsV RX4 137 RX2 yX2_countLate wsX2_countLate) := goodIn_app (goodIn_of _ (by decide +kernel)) ggX4_lateOn_X2_countLate
theorem dX4_lateOn_0 : decode cX4_lateOn 0 = .ok (.aload_n 0, 1) := by decide +kernel
theorem dX4_lateOn_1 : decode cX4_lateOn 1 = .ok (.getfield 26, 3) := by decide +kernel
theorem dX4_lateOn_4 : decode cX4_lateOn 4 = .ok (.getfield 97, 3) := by decide +kernel
theorem dX4_lateOn_7 : decode cX4_lateOn 7 = .ok (.aload_n 0, 1) := by decide +kernel
theorem dX4_lateOn_8 : decode cX4_lateOn 8 = .ok (.getfield 12, 3) := by decide +kernel
theorem dX4_lateOn_11 : decode cX4_lateOn 11 = .ok (.iload_n 2, 1) := by decide +kernel
theorem dX4_lateOn_12 : decode cX4_lateOn 12 = .ok (.iload_n 3, 1) := by decide +kernel
theorem dX4_lateOn_13 : decode cX4_lateOn 13 = .ok (.iload 4, 2) := by decide +kernel
theorem dX4_lateOn_15 : decode cX4_lateOn 15 = .ok (.invokevirtual 174, 3) := by decide +kernel
theorem dX4_lateOn_18 : decode cX4_lateOn 18 = .ok (.aload_n 0, 1) := by decide +kernel
theorem dX4_lateOn_19 : decode cX4_lateOn 19 = .ok (.getfield 26, 3) := by decide +kernel
theorem dX4_lateOn_22 : decode cX4_lateOn 22 = .ok (.aload_n 0, 1) := by decide +kernel
theorem dX4_lateOn_23 : decode cX4_lateOn 23 = .ok (.getfield 12, 3) := by decide +kernel
theorem dX4_lateOn_26 : decode cX4_lateOn 26 = .ok (.aload_n 0, 1) := by decide +kernel
theorem dX4_lateOn_27 : decode cX4_lateOn 27 = .ok (.getfield 19, 3) := by decide +kernel
theorem dX4_lateOn_30 : decode cX4_lateOn 30 = .ok (.iload_n 1, 1) := by decide +kernel
theorem dX4_lateOn_31 : decode cX4_lateOn 31 = .ok (.aload_n 0, 1) := by decide +kernel
theorem dX4_lateOn_32 : decode cX4_lateOn 32 = .ok (.getfield 30, 3) := by decide +kernel
theorem dX4_lateOn_35 : decode cX4_lateOn 35 = .ok (.invokevirtual 178, 3) := by decide +kernel
theorem dX4_lateOn_38 : decode cX4_lateOn 38 = .ok (.aload_n 0, 1) := by decide +kernel
theorem dX4_lateOn_39 : decode cX4_lateOn 39 = .ok (.getfield 26, 3) := by decide +kernel
theorem dX4_lateOn_42 : decode cX4_lateOn 42 = .ok (.invokevirtual 182, 3) := by decide +kernel
theorem dX4_lateOn_45 : decode cX4_lateOn 45 = .ok (.aload_n 0, 1) := by decide +kernel
theorem dX4_lateOn_46 : decode cX4_lateOn 46 = .ok (.getfield 26, 3) := by decide +kernel
theorem dX4_lateOn_49 : decode cX4_lateOn 49 = .ok (.aload_n 0, 1) := by decide +kernel
theorem dX4_lateOn_50 : decode cX4_lateOn 50 = .ok (.getfield 34, 3) := by decide +kernel
theorem dX4_lateOn_53 : decode cX4_lateOn 53 = .ok (.invokevirtual 137, 3) := by decide +kernel
theorem dX4_lateOn_56 : decode cX4_lateOn 56 = .ok (.ireturn, 1) := by decide +kernel
theorem dX4_waysOfHeads_0 : decode cX4_waysOfHeads 0 = .ok (.iconst 0, 1) := by decide +kernel
theorem dX4_waysOfHeads_1 : decode cX4_waysOfHeads 1 = .ok (.istore_n 2, 1) := by decide +kernel
theorem dX4_waysOfHeads_2 : decode cX4_waysOfHeads 2 = .ok (.iconst 1, 1) := by decide +kernel
theorem dX4_waysOfHeads_3 : decode cX4_waysOfHeads 3 = .ok (.istore_n 3, 1) := by decide +kernel
theorem dX4_waysOfHeads_4 : decode cX4_waysOfHeads 4 = .ok (.iconst 0, 1) := by decide +kernel
theorem dX4_waysOfHeads_5 : decode cX4_waysOfHeads 5 = .ok (.istore 4, 2) := by decide +kernel
theorem dX4_waysOfHeads_7 : decode cX4_waysOfHeads 7 = .ok (.iload 4, 2) := by decide +kernel
theorem dX4_waysOfHeads_9 : decode cX4_waysOfHeads 9 = .ok (.iload_n 0, 1) := by decide +kernel
theorem dX4_waysOfHeads_10 : decode cX4_waysOfHeads 10 = .ok (.if_icmp .gt 31, 3) := by decide +kernel
theorem dX4_waysOfHeads_13 : decode cX4_waysOfHeads 13 = .ok (.iload 4, 2) := by decide +kernel
theorem dX4_waysOfHeads_15 : decode cX4_waysOfHeads 15 = .ok (.iload_n 1, 1) := by decide +kernel
theorem dX4_waysOfHeads_16 : decode cX4_waysOfHeads 16 = .ok (.if_icmp .lt 7, 3) := by decide +kernel
theorem dX4_waysOfHeads_19 : decode cX4_waysOfHeads 19 = .ok (.iload_n 2, 1) := by decide +kernel
theorem dX4_waysOfHeads_20 : decode cX4_waysOfHeads 20 = .ok (.iload_n 3, 1) := by decide +kernel
theorem dX4_waysOfHeads_21 : decode cX4_waysOfHeads 21 = .ok (.iadd, 1) := by decide +kernel
theorem dX4_waysOfHeads_22 : decode cX4_waysOfHeads 22 = .ok (.istore_n 2, 1) := by decide +kernel
theorem dX4_waysOfHeads_23 : decode cX4_waysOfHeads 23 = .ok (.iload_n 3, 1) := by decide +kernel
theorem dX4_waysOfHeads_24 : decode cX4_waysOfHeads 24 = .ok (.iload_n 0, 1) := by decide +kernel
theorem dX4_waysOfHeads_25 : decode cX4_waysOfHeads 25 = .ok (.iload 4, 2) := by decide +kernel
theorem dX4_waysOfHeads_27 : decode cX4_waysOfHeads 27 = .ok (.isub, 1) := by decide +kernel
theorem dX4_waysOfHeads_28 : decode cX4_waysOfHeads 28 = .ok (.imul, 1) := by decide +kernel
theorem dX4_waysOfHeads_29 : decode cX4_waysOfHeads 29 = .ok (.iload 4, 2) := by decide +kernel
theorem dX4_waysOfHeads_31 : decode cX4_waysOfHeads 31 = .ok (.iconst 1, 1) := by decide +kernel
theorem dX4_waysOfHeads_32 : decode cX4_waysOfHeads 32 = .ok (.iadd, 1) := by decide +kernel
theorem dX4_waysOfHeads_33 : decode cX4_waysOfHeads 33 = .ok (.idiv, 1) := by decide +kernel
theorem dX4_waysOfHeads_34 : decode cX4_waysOfHeads 34 = .ok (.istore_n 3, 1) := by decide +kernel
theorem dX4_waysOfHeads_35 : decode cX4_waysOfHeads 35 = .ok (.iinc 4 1, 3) := by decide +kernel
theorem dX4_waysOfHeads_38 : decode cX4_waysOfHeads 38 = .ok (.goto (-31), 3) := by decide +kernel
theorem dX4_waysOfHeads_41 : decode cX4_waysOfHeads 41 = .ok (.iload_n 2, 1) := by decide +kernel
theorem dX4_waysOfHeads_42 : decode cX4_waysOfHeads 42 = .ok (.ireturn, 1) := by decide +kernel
set_option maxRecDepth 20000 in
theorem ggX4_lowestTerm_X4_commonDivisor : GoodIn wsX4_lowestTerm wsX4_commonDivisor := goodIn_r _ [4, 5, 6, 7, 8] (by decide +kernel) (by decide +kernel)
set_option maxRecDepth 20000 in
theorem gX4_lowestTerm_X4_commonDivisor : GoodIn wsX4_lowestTerm (va_wsS RX4 185 yX4_commonDivisor wsX4_commonDivisor) := goodIn_app (goodIn_of _ (by decide +kernel)) ggX4_lowestTerm_X4_commonDivisor
theorem dX4_lowestTerm_0 : decode cX4_lowestTerm 0 = .ok (.iload_n 0, 1) := by decide +kernel
theorem dX4_lowestTerm_1 : decode cX4_lowestTerm 1 = .ok (.iload_n 1, 1) := by decide +kernel
theorem dX4_lowestTerm_2 : decode cX4_lowestTerm 2 = .ok (.invokestatic 185, 3) := by decide +kernel
theorem dX4_lowestTerm_5 : decode cX4_lowestTerm 5 = .ok (.istore_n 3, 1) := by decide +kernel
theorem dX4_lowestTerm_6 : decode cX4_lowestTerm 6 = .ok (.iload_n 2, 1) := by decide +kernel
theorem dX4_lowestTerm_7 : decode cX4_lowestTerm 7 = .ok (.ifCond .eq 7, 3) := by decide +kernel
theorem dX4_lowestTerm_10 : decode cX4_lowestTerm 10 = .ok (.iload_n 0, 1) := by decide +kernel
theorem dX4_lowestTerm_11 : decode cX4_lowestTerm 11 = .ok (.goto 4, 3) := by decide +kernel
theorem dX4_lowestTerm_14 : decode cX4_lowestTerm 14 = .ok (.iload_n 1, 1) := by decide +kernel
theorem dX4_lowestTerm_15 : decode cX4_lowestTerm 15 = .ok (.iload_n 3, 1) := by decide +kernel
theorem dX4_lowestTerm_16 : decode cX4_lowestTerm 16 = .ok (.idiv, 1) := by decide +kernel
theorem dX4_lowestTerm_17 : decode cX4_lowestTerm 17 = .ok (.ireturn, 1) := by decide +kernel
theorem dX4_commonDivisor_0 : decode cX4_commonDivisor 0 = .ok (.iload_n 0, 1) := by decide +kernel
theorem dX4_commonDivisor_1 : decode cX4_commonDivisor 1 = .ok (.istore_n 2, 1) := by decide +kernel
theorem dX4_commonDivisor_2 : decode cX4_commonDivisor 2 = .ok (.iload_n 1, 1) := by decide +kernel
theorem dX4_commonDivisor_3 : decode cX4_commonDivisor 3 = .ok (.istore_n 3, 1) := by decide +kernel
theorem dX4_commonDivisor_4 : decode cX4_commonDivisor 4 = .ok (.iconst 0, 1) := by decide +kernel
theorem dX4_commonDivisor_5 : decode cX4_commonDivisor 5 = .ok (.istore 4, 2) := by decide +kernel
theorem dX4_commonDivisor_7 : decode cX4_commonDivisor 7 = .ok (.iload 4, 2) := by decide +kernel
theorem dX4_commonDivisor_9 : decode cX4_commonDivisor 9 = .ok (.bipush 100, 2) := by decide +kernel
theorem dX4_commonDivisor_11 : decode cX4_commonDivisor 11 = .ok (.if_icmp .ge 23, 3) := by decide +kernel
theorem dX4_commonDivisor_14 : decode cX4_commonDivisor 14 = .ok (.iload_n 3, 1) := by decide +kernel
theorem dX4_commonDivisor_15 : decode cX4_commonDivisor 15 = .ok (.ifCond .eq 19, 3) := by decide +kernel
theorem dX4_commonDivisor_18 : decode cX4_commonDivisor 18 = .ok (.iload_n 2, 1) := by decide +kernel
theorem dX4_commonDivisor_19 : decode cX4_commonDivisor 19 = .ok (.iload_n 3, 1) := by decide +kernel
theorem dX4_commonDivisor_20 : decode cX4_commonDivisor 20 = .ok (.irem, 1) := by decide +kernel
theorem dX4_commonDivisor_21 : decode cX4_commonDivisor 21 = .ok (.istore 5, 2) := by decide +kernel
theorem dX4_commonDivisor_23 : decode cX4_commonDivisor 23 = .ok (.iload_n 3, 1) := by decide +kernel
theorem dX4_commonDivisor_24 : decode cX4_commonDivisor 24 = .ok (.istore_n 2, 1) := by decide +kernel
theorem dX4_commonDivisor_25 : decode cX4_commonDivisor 25 = .ok (.iload 5, 2) := by decide +kernel
theorem dX4_commonDivisor_27 : decode cX4_commonDivisor 27 = .ok (.istore_n 3, 1) := by decide +kernel
theorem dX4_commonDivisor_28 : decode cX4_commonDivisor 28 = .ok (.iinc 4 1, 3) := by decide +kernel
theorem dX4_commonDivisor_31 : decode cX4_commonDivisor 31 = .ok (.goto (-24), 3) := by decide +kernel
theorem dX4_commonDivisor_34 : decode cX4_commonDivisor 34 = .ok (.iload_n 2, 1) := by decide +kernel
theorem dX4_commonDivisor_35 : decode cX4_commonDivisor 35 = .ok (.iconst 1, 1) := by decide +kernel
theorem dX4_commonDivisor_36 : decode cX4_commonDivisor 36 = .ok (.invokestatic 188, 3) := by decide +kernel
theorem dX4_commonDivisor_39 : decode cX4_commonDivisor 39 = .ok (.ireturn, 1) := by decide +kernel
theorem dX4_isWithin_0 : decode cX4_isWithin 0 = .ok (.iload_n 0, 1) := by decide +kernel
theorem dX4_isWithin_1 : decode cX4_isWithin 1 = .ok (.iload_n 1, 1) := by decide +kernel
theorem dX4_isWithin_2 : decode cX4_isWithin 2 = .ok (.if_icmp .lt 12, 3) := by decide +kernel
theorem dX4_isWithin_5 : decode cX4_isWithin 5 = .ok (.iload_n 0, 1) := by decide +kernel
theorem dX4_isWithin_6 : decode cX4_isWithin 6 = .ok (.iload_n 2, 1) := by decide +kernel
theorem dX4_isWithin_7 : decode cX4_isWithin 7 = .ok (.if_icmp .gt 7, 3) := by decide +kernel
theorem dX4_isWithin_10 : decode cX4_isWithin 10 = .ok (.iconst 1, 1) := by decide +kernel
theorem dX4_isWithin_11 : decode cX4_isWithin 11 = .ok (.goto 4, 3) := by decide +kernel
theorem dX4_isWithin_14 : decode cX4_isWithin 14 = .ok (.iconst 0, 1) := by decide +kernel
theorem dX4_isWithin_15 : decode cX4_isWithin 15 = .ok (.ireturn, 1) := by decide +kernel
theorem dX4_isBelow_0 : decode cX4_isBelow 0 = .ok (.iload_n 0, 1) := by decide +kernel
theorem dX4_isBelow_1 : decode cX4_isBelow 1 = .ok (.ifCond .lt 12, 3) := by decide +kernel
theorem dX4_isBelow_4 : decode cX4_isBelow 4 = .ok (.iload_n 0, 1) := by decide +kernel
theorem dX4_isBelow_5 : decode cX4_isBelow 5 = .ok (.iload_n 1, 1) := by decide +kernel
theorem dX4_isBelow_6 : decode cX4_isBelow 6 = .ok (.if_icmp .ge 7, 3) := by decide +kernel
theorem dX4_isBelow_9 : decode cX4_isBelow 9 = .ok (.iconst 1, 1) := by decide +kernel
theorem dX4_isBelow_10 : decode cX4_isBelow 10 = .ok (.goto 4, 3) := by decide +kernel
theorem dX4_isBelow_13 : decode cX4_isBelow 13 = .ok (.iconst 0, 1) := by decide +kernel
theorem dX4_isBelow_14 : decode cX4_isBelow 14 = .ok (.ireturn, 1) := by decide +kernel
set_option maxRecDepth 20000 in
theorem ggX4_isPlace_X4_isBelow : GoodIn wsX4_isPlace wsX4_isBelow := goodIn_r _ [4] (by decide +kernel) (by decide +kernel)
set_option maxRecDepth 20000 in
theorem gX4_isPlace_X4_isBelow : GoodIn wsX4_isPlace (va_wsS RX4 66 yX4_isBelow wsX4_isBelow) := goodIn_app (goodIn_of _ (by decide +kernel)) ggX4_isPlace_X4_isBelow
theorem dX4_isPlace_0 : decode cX4_isPlace 0 = .ok (.iload_n 0, 1) := by decide +kernel
theorem dX4_isPlace_1 : decode cX4_isPlace 1 = .ok (.bipush 100, 2) := by decide +kernel
theorem dX4_isPlace_3 : decode cX4_isPlace 3 = .ok (.invokestatic 66, 3) := by decide +kernel
theorem dX4_isPlace_6 : decode cX4_isPlace 6 = .ok (.ifCond .eq 16, 3) := by decide +kernel
theorem dX4_isPlace_9 : decode cX4_isPlace 9 = .ok (.iload_n 1, 1) := by decide +kernel
theorem dX4_isPlace_10 : decode cX4_isPlace 10 = .ok (.bipush 100, 2) := by decide +kernel
theorem dX4_isPlace_12 : decode cX4_isPlace 12 = .ok (.invokestatic 66, 3) := by decide +kernel
theorem dX4_isPlace_15 : decode cX4_isPlace 15 = .ok (.ifCond .eq 7, 3) := by decide +kernel
theorem dX4_isPlace_18 : decode cX4_isPlace 18 = .ok (.iconst 1, 1) := by decide +kernel
theorem dX4_isPlace_19 : decode cX4_isPlace 19 = .ok (.goto 4, 3) := by decide +kernel
theorem dX4_isPlace_22 : decode cX4_isPlace 22 = .ok (.iconst 0, 1) := by decide +kernel
theorem dX4_isPlace_23 : decode cX4_isPlace 23 = .ok (.ireturn, 1) := by decide +kernel
theorem dX4_needKnown_0 : decode cX4_needKnown 0 = .ok (.iload_n 0, 1) := by decide +kernel
theorem dX4_needKnown_1 : decode cX4_needKnown 1 = .ok (.ifCond .ne 13, 3) := by decide +kernel
theorem dX4_needKnown_4 : decode cX4_needKnown 4 = .ok (.new 125, 3) := by decide +kernel
theorem dX4_needKnown_7 : decode cX4_needKnown 7 = .ok (.dup, 1) := by decide +kernel
theorem dX4_needKnown_8 : decode cX4_needKnown 8 = .ok (.ldc 193, 2) := by decide +kernel
theorem dX4_needKnown_10 : decode cX4_needKnown 10 = .ok (.invokespecial 129, 3) := by decide +kernel
theorem dX4_needKnown_13 : decode cX4_needKnown 13 = .ok (.athrow, 1) := by decide +kernel
theorem dX4_needKnown_14 : decode cX4_needKnown 14 = .ok (.return_, 1) := by decide +kernel
theorem dX4_needRange_0 : decode cX4_needRange 0 = .ok (.iload_n 0, 1) := by decide +kernel
theorem dX4_needRange_1 : decode cX4_needRange 1 = .ok (.ifCond .ne 13, 3) := by decide +kernel
theorem dX4_needRange_4 : decode cX4_needRange 4 = .ok (.new 195, 3) := by decide +kernel
theorem dX4_needRange_7 : decode cX4_needRange 7 = .ok (.dup, 1) := by decide +kernel
theorem dX4_needRange_8 : decode cX4_needRange 8 = .ok (.ldc 197, 2) := by decide +kernel
theorem dX4_needRange_10 : decode cX4_needRange 10 = .ok (.invokespecial 199, 3) := by decide +kernel
theorem dX4_needRange_13 : decode cX4_needRange 13 = .ok (.athrow, 1) := by decide +kernel
theorem dX4_needRange_14 : decode cX4_needRange 14 = .ok (.return_, 1) := by decide +kernel
theorem dX4_needState_0 : decode cX4_needState 0 = .ok (.iload_n 0, 1) := by decide +kernel
theorem dX4_needState_1 : decode cX4_needState 1 = .ok (.ifCond .ne 13, 3) := by decide +kernel
theorem dX4_needState_4 : decode cX4_needState 4 = .ok (.new 200, 3) := by decide +kernel
theorem dX4_needState_7 : decode cX4_needState 7 = .ok (.dup, 1) := by decide +kernel
theorem dX4_needState_8 : decode cX4_needState 8 = .ok (.ldc 202, 2) := by decide +kernel
theorem dX4_needState_10 : decode cX4_needState 10 = .ok (.invokespecial 204, 3) := by decide +kernel
theorem dX4_needState_13 : decode cX4_needState 13 = .ok (.athrow, 1) := by decide +kernel
theorem dX4_needState_14 : decode cX4_needState 14 = .ok (.return_, 1) := by decide +kernel
theorem dX4_needRoom_0 : decode cX4_needRoom 0 = .ok (.iload_n 0, 1) := by decide +kernel
theorem dX4_needRoom_1 : decode cX4_needRoom 1 = .ok (.ifCond .ne 13, 3) := by decide +kernel
theorem dX4_needRoom_4 : decode cX4_needRoom 4 = .ok (.new 205, 3) := by decide +kernel
theorem dX4_needRoom_7 : decode cX4_needRoom 7 = .ok (.dup, 1) := by decide +kernel
theorem dX4_needRoom_8 : decode cX4_needRoom 8 = .ok (.ldc 207, 2) := by decide +kernel
theorem dX4_needRoom_10 : decode cX4_needRoom 10 = .ok (.invokespecial 209, 3) := by decide +kernel
theorem dX4_needRoom_13 : decode cX4_needRoom 13 = .ok (.athrow, 1) := by decide +kernel
theorem dX4_needRoom_14 : decode cX4_needRoom 14 = .ok (.return_, 1) := by decide +kernel
theorem dX5_init_0 : decode cX5_init 0 = .ok (.aload_n 0, 1) := by decide +kernel
theorem dX5_init_1 : decode cX5_init 1 = .ok (.invokespecial 1, 3) := by decide +kernel
theorem dX5_init_4 : decode cX5_init 4 = .ok (.aload_n 0, 1) := by decide +kernel
theorem dX5_init_5 : decode cX5_init 5 = .ok (.iconst 1, 1) := by decide +kernel
theorem dX5_init_6 : decode cX5_init 6 = .ok (.putfield 7, 3) := by decide +kernel
theorem dX5_init_9 : decode cX5_init 9 = .ok (.aload_n 0, 1) := by decide +kernel
theorem dX5_init_10 : decode cX5_init 10 = .ok (.bipush 10, 2) := by decide +kernel
theorem dX5_init_12 : decode cX5_init 12 = .ok (.putfield 13, 3) := by decide +kernel
theorem dX5_init_15 : decode cX5_init 15 = .ok (.aload_n 0, 1) := by decide +kernel
theorem dX5_init_16 : decode cX5_init 16 = .ok (.bipush 6, 2) := by decide +kernel
theorem dX5_init_18 : decode cX5_init 18 = .ok (.newarray .int, 2) := by decide +kernel
theorem dX5_init_20 : decode cX5_init 20 = .ok (.putfield 16, 3) := by decide +kernel
theorem dX5_init_23 : decode cX5_init 23 = .ok (.aload_n 0, 1) := by decide +kernel
theorem dX5_init_24 : decode cX5_init 24 = .ok (.bipush 6, 2) := by decide +kernel
theorem dX5_init_26 : decode cX5_init 26 = .ok (.newarray .int, 2) := by decide +kernel
theorem dX5_init_28 : decode cX5_init 28 = .ok (.putfield 20, 3) := by decide +kernel
theorem dX5_init_31 : decode cX5_init 31 = .ok (.aload_n 0, 1) := by decide +kernel
theorem dX5_init_32 : decode cX5_init 32 = .ok (.bipush 10, 2) := by decide +kernel
theorem dX5_init_34 : decode cX5_init 34 = .ok (.newarray .int, 2) := by decide +kernel
theorem dX5_init_36 : decode cX5_init 36 = .ok (.putfield 23, 3) := by decide +kernel
theorem dX5_init_39 : decode cX5_init 39 = .ok (.aload_n 0, 1) := by decide +kernel
theorem dX5_init_40 : decode cX5_init 40 = .ok (.bipush 10, 2) := by decide +kernel
theorem dX5_init_42 : decode cX5_init 42 = .ok (.newarray .int, 2) := by decide +kernel
theorem dX5_init_44 : decode cX5_init 44 = .ok (.putfield 26, 3) := by decide +kernel
theorem dX5_init_47 : decode cX5_init 47 = .ok (.aload_n 0, 1) := by decide +kernel
theorem dX5_init_48 : decode cX5_init 48 = .ok (.bipush 10, 2) := by decide +kernel
theorem dX5_init_50 : decode cX5_init 50 = .ok (.newarray .int, 2) := by decide +kernel
theorem dX5_init_52 : decode cX5_init 52 = .ok (.putfield 29, 3) := by decide +kernel
theorem dX5_init_55 : decode cX5_init 55 = .ok (.aload_n 0, 1) := by decide +kernel
theorem dX5_init_56 : decode cX5_init 56 = .ok (.bipush 48, 2) := by decide +kernel
theorem dX5_init_58 : decode cX5_init 58 = .ok (.newarray .int, 2) := by decide +kernel
theorem dX5_init_60 : decode cX5_init 60 = .ok (.putfield 32, 3) := by decide +kernel
theorem dX5_init_63 : decode cX5_init 63 = .ok (.aload_n 0, 1) := by decide +kernel
theorem dX5_init_64 : decode cX5_init 64 = .ok (.bipush 60, 2) := by decide +kernel
theorem dX5_init_66 : decode cX5_init 66 = .ok (.newarray .int, 2) := by decide +kernel
theorem dX5_init_68 : decode cX5_init 68 = .ok (.putfield 35, 3) := by decide +kernel
theorem dX5_init_71 : decode cX5_init 71 = .ok (.aload_n 0, 1) := by decide +kernel
theorem dX5_init_72 : decode cX5_init 72 = .ok (.bipush 60, 2) := by decide +kernel
theorem dX5_init_74 : decode cX5_init 74 = .ok (.newarray .int, 2) := by decide +kernel
theorem dX5_init_76 : decode cX5_init 76 = .ok (.putfield 38, 3) := by decide +kernel
theorem dX5_init_79 : decode cX5_init 79 = .ok (.aload_n 0, 1) := by decide +kernel
theorem dX5_init_80 : decode cX5_init 80 = .ok (.bipush 60, 2) := by decide +kernel
theorem dX5_init_82 : decode cX5_init 82 = .ok (.newarray .int, 2) := by decide +kernel
theorem dX5_init_84 : decode cX5_init 84 = .ok (.putfield 41, 3) := by decide +kernel
theorem dX5_init_87 : decode cX5_init 87 = .ok (.aload_n 0, 1) := by decide +kernel
theorem dX5_init_88 : decode cX5_init 88 = .ok (.bipush 60, 2) := by decide +kernel
theorem dX5_init_90 : decode cX5_init 90 = .ok (.newarray .int, 2) := by decide +kernel
