theorem dX2_nextEvent_6 : decode cX2_nextEvent 6 = .ok (.aload_n 0, 1) := by decide +kernel
theorem dX2_nextEvent_7 : decode cX2_nextEvent 7 = .ok (.getfield 12, 3) := by decide +kernel
theorem dX2_nextEvent_10 : decode cX2_nextEvent 10 = .ok (.getfield 53, 3) := by decide +kernel
theorem dX2_nextEvent_13 : decode cX2_nextEvent 13 = .ok (.if_icmp .ge 36, 3) := by decide +kernel
theorem dX2_nextEvent_16 : decode cX2_nextEvent 16 = .ok (.aload_n 0, 1) := by decide +kernel
theorem dX2_nextEvent_17 : decode cX2_nextEvent 17 = .ok (.getfield 12, 3) := by decide +kernel
theorem dX2_nextEvent_20 : decode cX2_nextEvent 20 = .ok (.getfield 113, 3) := by decide +kernel
theorem dX2_nextEvent_23 : decode cX2_nextEvent 23 = .ok (.iload_n 3, 1) := by decide +kernel
theorem dX2_nextEvent_24 : decode cX2_nextEvent 24 = .ok (.iaload, 1) := by decide +kernel
theorem dX2_nextEvent_25 : decode cX2_nextEvent 25 = .ok (.iload_n 1, 1) := by decide +kernel
theorem dX2_nextEvent_26 : decode cX2_nextEvent 26 = .ok (.if_icmp .le 17, 3) := by decide +kernel
theorem dX2_nextEvent_29 : decode cX2_nextEvent 29 = .ok (.iload_n 2, 1) := by decide +kernel
theorem dX2_nextEvent_30 : decode cX2_nextEvent 30 = .ok (.aload_n 0, 1) := by decide +kernel
theorem dX2_nextEvent_31 : decode cX2_nextEvent 31 = .ok (.getfield 12, 3) := by decide +kernel
theorem dX2_nextEvent_34 : decode cX2_nextEvent 34 = .ok (.getfield 113, 3) := by decide +kernel
theorem dX2_nextEvent_37 : decode cX2_nextEvent 37 = .ok (.iload_n 3, 1) := by decide +kernel
theorem dX2_nextEvent_38 : decode cX2_nextEvent 38 = .ok (.iaload, 1) := by decide +kernel
theorem dX2_nextEvent_39 : decode cX2_nextEvent 39 = .ok (.invokestatic 88, 3) := by decide +kernel
theorem dX2_nextEvent_42 : decode cX2_nextEvent 42 = .ok (.istore_n 2, 1) := by decide +kernel
theorem dX2_nextEvent_43 : decode cX2_nextEvent 43 = .ok (.iinc 3 1, 3) := by decide +kernel
theorem dX2_nextEvent_46 : decode cX2_nextEvent 46 = .ok (.goto (-41), 3) := by decide +kernel
theorem dX2_nextEvent_49 : decode cX2_nextEvent 49 = .ok (.iconst 0, 1) := by decide +kernel
theorem dX2_nextEvent_50 : decode cX2_nextEvent 50 = .ok (.istore_n 3, 1) := by decide +kernel
theorem dX2_nextEvent_51 : decode cX2_nextEvent 51 = .ok (.iload_n 3, 1) := by decide +kernel
theorem dX2_nextEvent_52 : decode cX2_nextEvent 52 = .ok (.aload_n 0, 1) := by decide +kernel
theorem dX2_nextEvent_53 : decode cX2_nextEvent 53 = .ok (.getfield 46, 3) := by decide +kernel
theorem dX2_nextEvent_56 : decode cX2_nextEvent 56 = .ok (.if_icmp .ge 30, 3) := by decide +kernel
theorem dX2_nextEvent_59 : decode cX2_nextEvent 59 = .ok (.aload_n 0, 1) := by decide +kernel
theorem dX2_nextEvent_60 : decode cX2_nextEvent 60 = .ok (.getfield 40, 3) := by decide +kernel
theorem dX2_nextEvent_63 : decode cX2_nextEvent 63 = .ok (.iload_n 3, 1) := by decide +kernel
theorem dX2_nextEvent_64 : decode cX2_nextEvent 64 = .ok (.iaload, 1) := by decide +kernel
theorem dX2_nextEvent_65 : decode cX2_nextEvent 65 = .ok (.iload_n 1, 1) := by decide +kernel
theorem dX2_nextEvent_66 : decode cX2_nextEvent 66 = .ok (.if_icmp .le 14, 3) := by decide +kernel
theorem dX2_nextEvent_69 : decode cX2_nextEvent 69 = .ok (.iload_n 2, 1) := by decide +kernel
theorem dX2_nextEvent_70 : decode cX2_nextEvent 70 = .ok (.aload_n 0, 1) := by decide +kernel
theorem dX2_nextEvent_71 : decode cX2_nextEvent 71 = .ok (.getfield 40, 3) := by decide +kernel
theorem dX2_nextEvent_74 : decode cX2_nextEvent 74 = .ok (.iload_n 3, 1) := by decide +kernel
theorem dX2_nextEvent_75 : decode cX2_nextEvent 75 = .ok (.iaload, 1) := by decide +kernel
theorem dX2_nextEvent_76 : decode cX2_nextEvent 76 = .ok (.invokestatic 88, 3) := by decide +kernel
theorem dX2_nextEvent_79 : decode cX2_nextEvent 79 = .ok (.istore_n 2, 1) := by decide +kernel
theorem dX2_nextEvent_80 : decode cX2_nextEvent 80 = .ok (.iinc 3 1, 3) := by decide +kernel
theorem dX2_nextEvent_83 : decode cX2_nextEvent 83 = .ok (.goto (-32), 3) := by decide +kernel
theorem dX2_nextEvent_86 : decode cX2_nextEvent 86 = .ok (.iload_n 2, 1) := by decide +kernel
theorem dX2_nextEvent_87 : decode cX2_nextEvent 87 = .ok (.ireturn, 1) := by decide +kernel
theorem dX2_delay_0 : decode cX2_delay 0 = .ok (.aload_n 0, 1) := by decide +kernel
theorem dX2_delay_1 : decode cX2_delay 1 = .ok (.getfield 18, 3) := by decide +kernel
theorem dX2_delay_4 : decode cX2_delay 4 = .ok (.iload_n 1, 1) := by decide +kernel
theorem dX2_delay_5 : decode cX2_delay 5 = .ok (.iaload, 1) := by decide +kernel
theorem dX2_delay_6 : decode cX2_delay 6 = .ok (.iconst (-1), 1) := by decide +kernel
theorem dX2_delay_7 : decode cX2_delay 7 = .ok (.if_icmp .ne 7, 3) := by decide +kernel
theorem dX2_delay_10 : decode cX2_delay 10 = .ok (.iconst (-1), 1) := by decide +kernel
theorem dX2_delay_11 : decode cX2_delay 11 = .ok (.goto 19, 3) := by decide +kernel
theorem dX2_delay_14 : decode cX2_delay 14 = .ok (.aload_n 0, 1) := by decide +kernel
theorem dX2_delay_15 : decode cX2_delay 15 = .ok (.getfield 25, 3) := by decide +kernel
theorem dX2_delay_18 : decode cX2_delay 18 = .ok (.iload_n 1, 1) := by decide +kernel
theorem dX2_delay_19 : decode cX2_delay 19 = .ok (.iaload, 1) := by decide +kernel
theorem dX2_delay_20 : decode cX2_delay 20 = .ok (.aload_n 0, 1) := by decide +kernel
theorem dX2_delay_21 : decode cX2_delay 21 = .ok (.getfield 12, 3) := by decide +kernel
theorem dX2_delay_24 : decode cX2_delay 24 = .ok (.getfield 113, 3) := by decide +kernel
theorem dX2_delay_27 : decode cX2_delay 27 = .ok (.iload_n 1, 1) := by decide +kernel
theorem dX2_delay_28 : decode cX2_delay 28 = .ok (.iaload, 1) := by decide +kernel
theorem dX2_delay_29 : decode cX2_delay 29 = .ok (.isub, 1) := by decide +kernel
theorem dX2_delay_30 : decode cX2_delay 30 = .ok (.ireturn, 1) := by decide +kernel
set_option maxRecDepth 20000 in
theorem ggX2_isLate_X2_delay : GoodIn wsX2_isLate wsX2_delay := goodIn_r _ [6, 1, 7, 8, 9, 10, 11, 12, 13, 14, 15, 16, 17, 18, 19, 20, 21, 22, 23, 24, 25] (by decide +kernel) (by decide +kernel)
set_option maxRecDepth 20000 in
theorem gX2_isLate_X2_delay : GoodIn wsX2_isLate (wsV RX2 126 RX2 yX2_delay wsX2_delay) := goodIn_app (goodIn_of _ (by decide +kernel)) ggX2_isLate_X2_delay
theorem dX2_isLate_0 : decode cX2_isLate 0 = .ok (.aload_n 0, 1) := by decide +kernel
theorem dX2_isLate_1 : decode cX2_isLate 1 = .ok (.getfield 18, 3) := by decide +kernel
theorem dX2_isLate_4 : decode cX2_isLate 4 = .ok (.iload_n 1, 1) := by decide +kernel
theorem dX2_isLate_5 : decode cX2_isLate 5 = .ok (.iaload, 1) := by decide +kernel
theorem dX2_isLate_6 : decode cX2_isLate 6 = .ok (.iconst (-1), 1) := by decide +kernel
theorem dX2_isLate_7 : decode cX2_isLate 7 = .ok (.if_icmp .eq 12, 3) := by decide +kernel
theorem dX2_isLate_10 : decode cX2_isLate 10 = .ok (.aload_n 0, 1) := by decide +kernel
theorem dX2_isLate_11 : decode cX2_isLate 11 = .ok (.iload_n 1, 1) := by decide +kernel
theorem dX2_isLate_12 : decode cX2_isLate 12 = .ok (.invokevirtual 126, 3) := by decide +kernel
theorem dX2_isLate_15 : decode cX2_isLate 15 = .ok (.iload_n 2, 1) := by decide +kernel
theorem dX2_isLate_16 : decode cX2_isLate 16 = .ok (.if_icmp .le 7, 3) := by decide +kernel
theorem dX2_isLate_19 : decode cX2_isLate 19 = .ok (.iconst 1, 1) := by decide +kernel
theorem dX2_isLate_20 : decode cX2_isLate 20 = .ok (.goto 4, 3) := by decide +kernel
theorem dX2_isLate_23 : decode cX2_isLate 23 = .ok (.iconst 0, 1) := by decide +kernel
theorem dX2_isLate_24 : decode cX2_isLate 24 = .ok (.ireturn, 1) := by decide +kernel
set_option maxRecDepth 20000 in
theorem ggX2_whyLate_X2_isLate : GoodIn wsX2_whyLate wsX2_isLate := goodIn_r _ [7, 1, 8, 9, 10, 6, 11, 12, 13, 14, 15, 16, 17, 18, 19, 20, 21, 22, 23, 24, 25, 26, 27, 28, 29, 30] (by decide +kernel) (by decide +kernel)
set_option maxRecDepth 20000 in
theorem gX2_whyLate_X2_isLate : GoodIn wsX2_whyLate (wsV RX2 129 RX2 yX2_isLate wsX2_isLate) := goodIn_app (goodIn_of _ (by decide +kernel)) ggX2_whyLate_X2_isLate
theorem dX2_whyLate_0 : decode cX2_whyLate 0 = .ok (.aload_n 0, 1) := by decide +kernel
theorem dX2_whyLate_1 : decode cX2_whyLate 1 = .ok (.iload_n 1, 1) := by decide +kernel
theorem dX2_whyLate_2 : decode cX2_whyLate 2 = .ok (.iload_n 2, 1) := by decide +kernel
theorem dX2_whyLate_3 : decode cX2_whyLate 3 = .ok (.invokevirtual 129, 3) := by decide +kernel
theorem dX2_whyLate_6 : decode cX2_whyLate 6 = .ok (.ifCond .ne 5, 3) := by decide +kernel
theorem dX2_whyLate_9 : decode cX2_whyLate 9 = .ok (.iconst 0, 1) := by decide +kernel
theorem dX2_whyLate_10 : decode cX2_whyLate 10 = .ok (.ireturn, 1) := by decide +kernel
theorem dX2_whyLate_11 : decode cX2_whyLate 11 = .ok (.aload_n 0, 1) := by decide +kernel
theorem dX2_whyLate_12 : decode cX2_whyLate 12 = .ok (.getfield 18, 3) := by decide +kernel
theorem dX2_whyLate_15 : decode cX2_whyLate 15 = .ok (.iload_n 1, 1) := by decide +kernel
theorem dX2_whyLate_16 : decode cX2_whyLate 16 = .ok (.iaload, 1) := by decide +kernel
theorem dX2_whyLate_17 : decode cX2_whyLate 17 = .ok (.iconst (-1), 1) := by decide +kernel
theorem dX2_whyLate_18 : decode cX2_whyLate 18 = .ok (.if_icmp .ne 5, 3) := by decide +kernel
theorem dX2_whyLate_21 : decode cX2_whyLate 21 = .ok (.iconst 3, 1) := by decide +kernel
theorem dX2_whyLate_22 : decode cX2_whyLate 22 = .ok (.ireturn, 1) := by decide +kernel
theorem dX2_whyLate_23 : decode cX2_whyLate 23 = .ok (.aload_n 0, 1) := by decide +kernel
theorem dX2_whyLate_24 : decode cX2_whyLate 24 = .ok (.getfield 22, 3) := by decide +kernel
theorem dX2_whyLate_27 : decode cX2_whyLate 27 = .ok (.iload_n 1, 1) := by decide +kernel
theorem dX2_whyLate_28 : decode cX2_whyLate 28 = .ok (.iaload, 1) := by decide +kernel
theorem dX2_whyLate_29 : decode cX2_whyLate 29 = .ok (.iload_n 2, 1) := by decide +kernel
theorem dX2_whyLate_30 : decode cX2_whyLate 30 = .ok (.if_icmp .le 7, 3) := by decide +kernel
theorem dX2_whyLate_33 : decode cX2_whyLate 33 = .ok (.iconst 2, 1) := by decide +kernel
theorem dX2_whyLate_34 : decode cX2_whyLate 34 = .ok (.goto 4, 3) := by decide +kernel
theorem dX2_whyLate_37 : decode cX2_whyLate 37 = .ok (.iconst 1, 1) := by decide +kernel
theorem dX2_whyLate_38 : decode cX2_whyLate 38 = .ok (.ireturn, 1) := by decide +kernel
set_option maxRecDepth 20000 in
theorem ggX2_countLate_X2_isLate : GoodIn wsX2_countLate wsX2_isLate := goodIn_r _ [7, 8, 9, 10, 11, 6, 12, 13, 1, 14, 15, 16, 17, 18, 19, 20, 21, 22, 23, 24, 25, 26, 27, 28, 29, 30] (by decide +kernel) (by decide +kernel)
set_option maxRecDepth 20000 in
theorem gX2_countLate_X2_isLate : GoodIn wsX2_countLate (wsV RX2 129 RX2 yX2_isLate wsX2_isLate) := goodIn_app (goodIn_of _ (by decide +kernel)) ggX2_countLate_X2_isLate
theorem dX2_countLate_0 : decode cX2_countLate 0 = .ok (.iconst 0, 1) := by decide +kernel
theorem dX2_countLate_1 : decode cX2_countLate 1 = .ok (.istore_n 2, 1) := by decide +kernel
theorem dX2_countLate_2 : decode cX2_countLate 2 = .ok (.iconst 0, 1) := by decide +kernel
theorem dX2_countLate_3 : decode cX2_countLate 3 = .ok (.istore_n 3, 1) := by decide +kernel
theorem dX2_countLate_4 : decode cX2_countLate 4 = .ok (.iload_n 3, 1) := by decide +kernel
theorem dX2_countLate_5 : decode cX2_countLate 5 = .ok (.aload_n 0, 1) := by decide +kernel
theorem dX2_countLate_6 : decode cX2_countLate 6 = .ok (.getfield 12, 3) := by decide +kernel
theorem dX2_countLate_9 : decode cX2_countLate 9 = .ok (.getfield 53, 3) := by decide +kernel
theorem dX2_countLate_12 : decode cX2_countLate 12 = .ok (.if_icmp .ge 21, 3) := by decide +kernel
theorem dX2_countLate_15 : decode cX2_countLate 15 = .ok (.aload_n 0, 1) := by decide +kernel
theorem dX2_countLate_16 : decode cX2_countLate 16 = .ok (.iload_n 3, 1) := by decide +kernel
theorem dX2_countLate_17 : decode cX2_countLate 17 = .ok (.iload_n 1, 1) := by decide +kernel
theorem dX2_countLate_18 : decode cX2_countLate 18 = .ok (.invokevirtual 129, 3) := by decide +kernel
theorem dX2_countLate_21 : decode cX2_countLate 21 = .ok (.ifCond .eq 6, 3) := by decide +kernel
theorem dX2_countLate_24 : decode cX2_countLate 24 = .ok (.iinc 2 1, 3) := by decide +kernel
theorem dX2_countLate_27 : decode cX2_countLate 27 = .ok (.iinc 3 1, 3) := by decide +kernel
theorem dX2_countLate_30 : decode cX2_countLate 30 = .ok (.goto (-26), 3) := by decide +kernel
theorem dX2_countLate_33 : decode cX2_countLate 33 = .ok (.iload_n 2, 1) := by decide +kernel
theorem dX2_countLate_34 : decode cX2_countLate 34 = .ok (.ireturn, 1) := by decide +kernel
theorem dX2_countServed_0 : decode cX2_countServed 0 = .ok (.iconst 0, 1) := by decide +kernel
theorem dX2_countServed_1 : decode cX2_countServed 1 = .ok (.istore_n 1, 1) := by decide +kernel
theorem dX2_countServed_2 : decode cX2_countServed 2 = .ok (.iconst 0, 1) := by decide +kernel
theorem dX2_countServed_3 : decode cX2_countServed 3 = .ok (.istore_n 2, 1) := by decide +kernel
theorem dX2_countServed_4 : decode cX2_countServed 4 = .ok (.iload_n 2, 1) := by decide +kernel
theorem dX2_countServed_5 : decode cX2_countServed 5 = .ok (.aload_n 0, 1) := by decide +kernel
theorem dX2_countServed_6 : decode cX2_countServed 6 = .ok (.getfield 12, 3) := by decide +kernel
theorem dX2_countServed_9 : decode cX2_countServed 9 = .ok (.getfield 53, 3) := by decide +kernel
theorem dX2_countServed_12 : decode cX2_countServed 12 = .ok (.if_icmp .ge 22, 3) := by decide +kernel
theorem dX2_countServed_15 : decode cX2_countServed 15 = .ok (.aload_n 0, 1) := by decide +kernel
theorem dX2_countServed_16 : decode cX2_countServed 16 = .ok (.getfield 18, 3) := by decide +kernel
theorem dX2_countServed_19 : decode cX2_countServed 19 = .ok (.iload_n 2, 1) := by decide +kernel
theorem dX2_countServed_20 : decode cX2_countServed 20 = .ok (.iaload, 1) := by decide +kernel
theorem dX2_countServed_21 : decode cX2_countServed 21 = .ok (.iconst (-1), 1) := by decide +kernel
theorem dX2_countServed_22 : decode cX2_countServed 22 = .ok (.if_icmp .eq 6, 3) := by decide +kernel
theorem dX2_countServed_25 : decode cX2_countServed 25 = .ok (.iinc 1 1, 3) := by decide +kernel
theorem dX2_countServed_28 : decode cX2_countServed 28 = .ok (.iinc 2 1, 3) := by decide +kernel
theorem dX2_countServed_31 : decode cX2_countServed 31 = .ok (.goto (-27), 3) := by decide +kernel
theorem dX2_countServed_34 : decode cX2_countServed 34 = .ok (.iload_n 1, 1) := by decide +kernel
theorem dX2_countServed_35 : decode cX2_countServed 35 = .ok (.ireturn, 1) := by decide +kernel
theorem dX2_countArrivedBy_0 : decode cX2_countArrivedBy 0 = .ok (.iconst 0, 1) := by decide +kernel
theorem dX2_countArrivedBy_1 : decode cX2_countArrivedBy 1 = .ok (.istore_n 2, 1) := by decide +kernel
theorem dX2_countArrivedBy_2 : decode cX2_countArrivedBy 2 = .ok (.iconst 0, 1) := by decide +kernel
theorem dX2_countArrivedBy_3 : decode cX2_countArrivedBy 3 = .ok (.istore_n 3, 1) := by decide +kernel
theorem dX2_countArrivedBy_4 : decode cX2_countArrivedBy 4 = .ok (.iload_n 3, 1) := by decide +kernel
theorem dX2_countArrivedBy_5 : decode cX2_countArrivedBy 5 = .ok (.aload_n 0, 1) := by decide +kernel
theorem dX2_countArrivedBy_6 : decode cX2_countArrivedBy 6 = .ok (.getfield 12, 3) := by decide +kernel
theorem dX2_countArrivedBy_9 : decode cX2_countArrivedBy 9 = .ok (.getfield 53, 3) := by decide +kernel
theorem dX2_countArrivedBy_12 : decode cX2_countArrivedBy 12 = .ok (.if_icmp .ge 32, 3) := by decide +kernel
theorem dX2_countArrivedBy_15 : decode cX2_countArrivedBy 15 = .ok (.aload_n 0, 1) := by decide +kernel
theorem dX2_countArrivedBy_16 : decode cX2_countArrivedBy 16 = .ok (.getfield 18, 3) := by decide +kernel
theorem dX2_countArrivedBy_19 : decode cX2_countArrivedBy 19 = .ok (.iload_n 3, 1) := by decide +kernel
theorem dX2_countArrivedBy_20 : decode cX2_countArrivedBy 20 = .ok (.iaload, 1) := by decide +kernel
theorem dX2_countArrivedBy_21 : decode cX2_countArrivedBy 21 = .ok (.iconst (-1), 1) := by decide +kernel
theorem dX2_countArrivedBy_22 : decode cX2_countArrivedBy 22 = .ok (.if_icmp .eq 16, 3) := by decide +kernel
theorem dX2_countArrivedBy_25 : decode cX2_countArrivedBy 25 = .ok (.aload_n 0, 1) := by decide +kernel
theorem dX2_countArrivedBy_26 : decode cX2_countArrivedBy 26 = .ok (.getfield 25, 3) := by decide +kernel
theorem dX2_countArrivedBy_29 : decode cX2_countArrivedBy 29 = .ok (.iload_n 3, 1) := by decide +kernel
theorem dX2_countArrivedBy_30 : decode cX2_countArrivedBy 30 = .ok (.iaload, 1) := by decide +kernel
theorem dX2_countArrivedBy_31 : decode cX2_countArrivedBy 31 = .ok (.iload_n 1, 1) := by decide +kernel
theorem dX2_countArrivedBy_32 : decode cX2_countArrivedBy 32 = .ok (.if_icmp .gt 6, 3) := by decide +kernel
theorem dX2_countArrivedBy_35 : decode cX2_countArrivedBy 35 = .ok (.iinc 2 1, 3) := by decide +kernel
theorem dX2_countArrivedBy_38 : decode cX2_countArrivedBy 38 = .ok (.iinc 3 1, 3) := by decide +kernel
theorem dX2_countArrivedBy_41 : decode cX2_countArrivedBy 41 = .ok (.goto (-37), 3) := by decide +kernel
theorem dX2_countArrivedBy_44 : decode cX2_countArrivedBy 44 = .ok (.iload_n 2, 1) := by decide +kernel
theorem dX2_countArrivedBy_45 : decode cX2_countArrivedBy 45 = .ok (.ireturn, 1) := by decide +kernel
set_option maxRecDepth 20000 in
theorem ggX2_sumOfDelays_X2_delay : GoodIn wsX2_sumOfDelays wsX2_delay := goodIn_r _ [8, 3, 9, 1, 10, 11, 12, 13, 14, 15, 16, 17, 18, 19, 20, 21, 22, 23, 24, 25, 26] (by decide +kernel) (by decide +kernel)
set_option maxRecDepth 20000 in
theorem gX2_sumOfDelays_X2_delay : GoodIn wsX2_sumOfDelays (wsV RX2 126 RX2 yX2_delay wsX2_delay) := goodIn_app (goodIn_of _ (by decide +kernel)) ggX2_sumOfDelays_X2_delay
theorem dX2_sumOfDelays_0 : decode cX2_sumOfDelays 0 = .ok (.lconst 0, 1) := by decide +kernel
theorem dX2_sumOfDelays_1 : decode cX2_sumOfDelays 1 = .ok (.lstore_n 1, 1) := by decide +kernel
theorem dX2_sumOfDelays_2 : decode cX2_sumOfDelays 2 = .ok (.iconst 0, 1) := by decide +kernel
theorem dX2_sumOfDelays_3 : decode cX2_sumOfDelays 3 = .ok (.istore_n 3, 1) := by decide +kernel
theorem dX2_sumOfDelays_4 : decode cX2_sumOfDelays 4 = .ok (.iload_n 3, 1) := by decide +kernel
theorem dX2_sumOfDelays_5 : decode cX2_sumOfDelays 5 = .ok (.aload_n 0, 1) := by decide +kernel
theorem dX2_sumOfDelays_6 : decode cX2_sumOfDelays 6 = .ok (.getfield 12, 3) := by decide +kernel
theorem dX2_sumOfDelays_9 : decode cX2_sumOfDelays 9 = .ok (.getfield 53, 3) := by decide +kernel
theorem dX2_sumOfDelays_12 : decode cX2_sumOfDelays 12 = .ok (.if_icmp .ge 28, 3) := by decide +kernel
theorem dX2_sumOfDelays_15 : decode cX2_sumOfDelays 15 = .ok (.aload_n 0, 1) := by decide +kernel
theorem dX2_sumOfDelays_16 : decode cX2_sumOfDelays 16 = .ok (.getfield 18, 3) := by decide +kernel
theorem dX2_sumOfDelays_19 : decode cX2_sumOfDelays 19 = .ok (.iload_n 3, 1) := by decide +kernel
theorem dX2_sumOfDelays_20 : decode cX2_sumOfDelays 20 = .ok (.iaload, 1) := by decide +kernel
theorem dX2_sumOfDelays_21 : decode cX2_sumOfDelays 21 = .ok (.iconst (-1), 1) := by decide +kernel
theorem dX2_sumOfDelays_22 : decode cX2_sumOfDelays 22 = .ok (.if_icmp .eq 12, 3) := by decide +kernel
theorem dX2_sumOfDelays_25 : decode cX2_sumOfDelays 25 = .ok (.lload_n 1, 1) := by decide +kernel
theorem dX2_sumOfDelays_26 : decode cX2_sumOfDelays 26 = .ok (.aload_n 0, 1) := by decide +kernel
theorem dX2_sumOfDelays_27 : decode cX2_sumOfDelays 27 = .ok (.iload_n 3, 1) := by decide +kernel
theorem dX2_sumOfDelays_28 : decode cX2_sumOfDelays 28 = .ok (.invokevirtual 126, 3) := by decide +kernel
theorem dX2_sumOfDelays_31 : decode cX2_sumOfDelays 31 = .ok (.i2l, 1) := by decide +kernel
theorem dX2_sumOfDelays_32 : decode cX2_sumOfDelays 32 = .ok (.ladd, 1) := by decide +kernel
theorem dX2_sumOfDelays_33 : decode cX2_sumOfDelays 33 = .ok (.lstore_n 1, 1) := by decide +kernel
theorem dX2_sumOfDelays_34 : decode cX2_sumOfDelays 34 = .ok (.iinc 3 1, 3) := by decide +kernel
theorem dX2_sumOfDelays_37 : decode cX2_sumOfDelays 37 = .ok (.goto (-33), 3) := by decide +kernel
theorem dX2_sumOfDelays_40 : decode cX2_sumOfDelays 40 = .ok (.lload_n 1, 1) := by decide +kernel
theorem dX2_sumOfDelays_41 : decode cX2_sumOfDelays 41 = .ok (.lreturn, 1) := by decide +kernel
set_option maxRecDepth 20000 in
theorem ggX2_hourOfMostLate_X2_isLate : GoodIn wsX2_hourOfMostLate wsX2_isLate := goodIn_r _ [9, 10, 11, 12, 13, 8, 14, 15, 2, 4, 16, 17, 18, 19, 20, 21, 22, 23, 24, 25, 26, 27, 28, 29, 30, 31] (by decide +kernel) (by decide +kernel)
set_option maxRecDepth 20000 in
theorem gX2_hourOfMostLate_X2_isLate : GoodIn wsX2_hourOfMostLate (wsV RX2 129 RX2 yX2_isLate wsX2_isLate) := goodIn_app (goodIn_of _ (by decide +kernel)) ggX2_hourOfMostLate_X2_isLate
theorem dX2_hourOfMostLate_0 : decode cX2_hourOfMostLate 0 = .ok (.iconst 0, 1) := by decide +kernel
theorem dX2_hourOfMostLate_1 : decode cX2_hourOfMostLate 1 = .ok (.istore_n 2, 1) := by decide +kernel
theorem dX2_hourOfMostLate_2 : decode cX2_hourOfMostLate 2 = .ok (.iload_n 2, 1) := by decide +kernel
theorem dX2_hourOfMostLate_3 : decode cX2_hourOfMostLate 3 = .ok (.bipush 24, 2) := by decide +kernel
theorem dX2_hourOfMostLate_5 : decode cX2_hourOfMostLate 5 = .ok (.if_icmp .ge 16, 3) := by decide +kernel
theorem dX2_hourOfMostLate_8 : decode cX2_hourOfMostLate 8 = .ok (.aload_n 0, 1) := by decide +kernel
theorem dX2_hourOfMostLate_9 : decode cX2_hourOfMostLate 9 = .ok (.getfield 43, 3) := by decide +kernel
theorem dX2_hourOfMostLate_12 : decode cX2_hourOfMostLate 12 = .ok (.iload_n 2, 1) := by decide +kernel
theorem dX2_hourOfMostLate_13 : decode cX2_hourOfMostLate 13 = .ok (.iconst 0, 1) := by decide +kernel
theorem dX2_hourOfMostLate_14 : decode cX2_hourOfMostLate 14 = .ok (.iastore, 1) := by decide +kernel
theorem dX2_hourOfMostLate_15 : decode cX2_hourOfMostLate 15 = .ok (.iinc 2 1, 3) := by decide +kernel
theorem dX2_hourOfMostLate_18 : decode cX2_hourOfMostLate 18 = .ok (.goto (-16), 3) := by decide +kernel
theorem dX2_hourOfMostLate_21 : decode cX2_hourOfMostLate 21 = .ok (.iconst 0, 1) := by decide +kernel
theorem dX2_hourOfMostLate_22 : decode cX2_hourOfMostLate 22 = .ok (.istore_n 2, 1) := by decide +kernel
theorem dX2_hourOfMostLate_23 : decode cX2_hourOfMostLate 23 = .ok (.iload_n 2, 1) := by decide +kernel
theorem dX2_hourOfMostLate_24 : decode cX2_hourOfMostLate 24 = .ok (.aload_n 0, 1) := by decide +kernel
theorem dX2_hourOfMostLate_25 : decode cX2_hourOfMostLate 25 = .ok (.getfield 12, 3) := by decide +kernel
theorem dX2_hourOfMostLate_28 : decode cX2_hourOfMostLate 28 = .ok (.getfield 53, 3) := by decide +kernel
theorem dX2_hourOfMostLate_31 : decode cX2_hourOfMostLate 31 = .ok (.if_icmp .ge 39, 3) := by decide +kernel
theorem dX2_hourOfMostLate_34 : decode cX2_hourOfMostLate 34 = .ok (.aload_n 0, 1) := by decide +kernel
theorem dX2_hourOfMostLate_35 : decode cX2_hourOfMostLate 35 = .ok (.iload_n 2, 1) := by decide +kernel
theorem dX2_hourOfMostLate_36 : decode cX2_hourOfMostLate 36 = .ok (.iload_n 1, 1) := by decide +kernel
theorem dX2_hourOfMostLate_37 : decode cX2_hourOfMostLate 37 = .ok (.invokevirtual 129, 3) := by decide +kernel
theorem dX2_hourOfMostLate_40 : decode cX2_hourOfMostLate 40 = .ok (.ifCond .eq 24, 3) := by decide +kernel
theorem dX2_hourOfMostLate_43 : decode cX2_hourOfMostLate 43 = .ok (.aload_n 0, 1) := by decide +kernel
theorem dX2_hourOfMostLate_44 : decode cX2_hourOfMostLate 44 = .ok (.getfield 43, 3) := by decide +kernel
theorem dX2_hourOfMostLate_47 : decode cX2_hourOfMostLate 47 = .ok (.aload_n 0, 1) := by decide +kernel
theorem dX2_hourOfMostLate_48 : decode cX2_hourOfMostLate 48 = .ok (.getfield 12, 3) := by decide +kernel
theorem dX2_hourOfMostLate_51 : decode cX2_hourOfMostLate 51 = .ok (.getfield 113, 3) := by decide +kernel
theorem dX2_hourOfMostLate_54 : decode cX2_hourOfMostLate 54 = .ok (.iload_n 2, 1) := by decide +kernel
theorem dX2_hourOfMostLate_55 : decode cX2_hourOfMostLate 55 = .ok (.iaload, 1) := by decide +kernel
theorem dX2_hourOfMostLate_56 : decode cX2_hourOfMostLate 56 = .ok (.bipush 60, 2) := by decide +kernel
theorem dX2_hourOfMostLate_58 : decode cX2_hourOfMostLate 58 = .ok (.idiv, 1) := by decide +kernel
theorem dX2_hourOfMostLate_59 : decode cX2_hourOfMostLate 59 = .ok (.dup2, 1) := by decide +kernel
theorem dX2_hourOfMostLate_60 : decode cX2_hourOfMostLate 60 = .ok (.iaload, 1) := by decide +kernel
theorem dX2_hourOfMostLate_61 : decode cX2_hourOfMostLate 61 = .ok (.iconst 1, 1) := by decide +kernel
theorem dX2_hourOfMostLate_62 : decode cX2_hourOfMostLate 62 = .ok (.iadd, 1) := by decide +kernel
theorem dX2_hourOfMostLate_63 : decode cX2_hourOfMostLate 63 = .ok (.iastore, 1) := by decide +kernel
theorem dX2_hourOfMostLate_64 : decode cX2_hourOfMostLate 64 = .ok (.iinc 2 1, 3) := by decide +kernel
theorem dX2_hourOfMostLate_67 : decode cX2_hourOfMostLate 67 = .ok (.goto (-44), 3) := by decide +kernel
theorem dX2_hourOfMostLate_70 : decode cX2_hourOfMostLate 70 = .ok (.iconst (-1), 1) := by decide +kernel
theorem dX2_hourOfMostLate_71 : decode cX2_hourOfMostLate 71 = .ok (.istore_n 2, 1) := by decide +kernel
theorem dX2_hourOfMostLate_72 : decode cX2_hourOfMostLate 72 = .ok (.iconst 0, 1) := by decide +kernel
theorem dX2_hourOfMostLate_73 : decode cX2_hourOfMostLate 73 = .ok (.istore_n 3, 1) := by decide +kernel
theorem dX2_hourOfMostLate_74 : decode cX2_hourOfMostLate 74 = .ok (.iconst 0, 1) := by decide +kernel
theorem dX2_hourOfMostLate_75 : decode cX2_hourOfMostLate 75 = .ok (.istore 4, 2) := by decide +kernel
theorem dX2_hourOfMostLate_77 : decode cX2_hourOfMostLate 77 = .ok (.iload 4, 2) := by decide +kernel
theorem dX2_hourOfMostLate_79 : decode cX2_hourOfMostLate 79 = .ok (.bipush 24, 2) := by decide +kernel
theorem dX2_hourOfMostLate_81 : decode cX2_hourOfMostLate 81 = .ok (.if_icmp .ge 31, 3) := by decide +kernel
theorem dX2_hourOfMostLate_84 : decode cX2_hourOfMostLate 84 = .ok (.aload_n 0, 1) := by decide +kernel
theorem dX2_hourOfMostLate_85 : decode cX2_hourOfMostLate 85 = .ok (.getfield 43, 3) := by decide +kernel
theorem dX2_hourOfMostLate_88 : decode cX2_hourOfMostLate 88 = .ok (.iload 4, 2) := by decide +kernel
theorem dX2_hourOfMostLate_90 : decode cX2_hourOfMostLate 90 = .ok (.iaload, 1) := by decide +kernel
theorem dX2_hourOfMostLate_91 : decode cX2_hourOfMostLate 91 = .ok (.iload_n 3, 1) := by decide +kernel
theorem dX2_hourOfMostLate_92 : decode cX2_hourOfMostLate 92 = .ok (.if_icmp .le 14, 3) := by decide +kernel
theorem dX2_hourOfMostLate_95 : decode cX2_hourOfMostLate 95 = .ok (.aload_n 0, 1) := by decide +kernel
theorem dX2_hourOfMostLate_96 : decode cX2_hourOfMostLate 96 = .ok (.getfield 43, 3) := by decide +kernel
theorem dX2_hourOfMostLate_99 : decode cX2_hourOfMostLate 99 = .ok (.iload 4, 2) := by decide +kernel
theorem dX2_hourOfMostLate_101 : decode cX2_hourOfMostLate 101 = .ok (.iaload, 1) := by decide +kernel
theorem dX2_hourOfMostLate_102 : decode cX2_hourOfMostLate 102 = .ok (.istore_n 3, 1) := by decide +kernel
theorem dX2_hourOfMostLate_103 : decode cX2_hourOfMostLate 103 = .ok (.iload 4, 2) := by decide +kernel
theorem dX2_hourOfMostLate_105 : decode cX2_hourOfMostLate 105 = .ok (.istore_n 2, 1) := by decide +kernel
theorem dX2_hourOfMostLate_106 : decode cX2_hourOfMostLate 106 = .ok (.iinc 4 1, 3) := by decide +kernel
theorem dX2_hourOfMostLate_109 : decode cX2_hourOfMostLate 109 = .ok (.goto (-32), 3) := by decide +kernel
theorem dX2_hourOfMostLate_112 : decode cX2_hourOfMostLate 112 = .ok (.iload_n 2, 1) := by decide +kernel
theorem dX2_hourOfMostLate_113 : decode cX2_hourOfMostLate 113 = .ok (.ireturn, 1) := by decide +kernel
theorem dX3_init_0 : decode cX3_init 0 = .ok (.aload_n 0, 1) := by decide +kernel
theorem dX3_init_1 : decode cX3_init 1 = .ok (.invokespecial 3, 3) := by decide +kernel
theorem dX3_init_4 : decode cX3_init 4 = .ok (.aload_n 0, 1) := by decide +kernel
theorem dX3_init_5 : decode cX3_init 5 = .ok (.bipush 6, 2) := by decide +kernel
theorem dX3_init_7 : decode cX3_init 7 = .ok (.newarray .int, 2) := by decide +kernel
theorem dX3_init_9 : decode cX3_init 9 = .ok (.putfield 9, 3) := by decide +kernel
theorem dX3_init_12 : decode cX3_init 12 = .ok (.aload_n 0, 1) := by decide +kernel
theorem dX3_init_13 : decode cX3_init 13 = .ok (.bipush 6, 2) := by decide +kernel
theorem dX3_init_15 : decode cX3_init 15 = .ok (.newarray .int, 2) := by decide +kernel
theorem dX3_init_17 : decode cX3_init 17 = .ok (.putfield 15, 3) := by decide +kernel
theorem dX3_init_20 : decode cX3_init 20 = .ok (.aload_n 0, 1) := by decide +kernel
theorem dX3_init_21 : decode cX3_init 21 = .ok (.bipush 10, 2) := by decide +kernel
theorem dX3_init_23 : decode cX3_init 23 = .ok (.newarray .int, 2) := by decide +kernel
theorem dX3_init_25 : decode cX3_init 25 = .ok (.putfield 18, 3) := by decide +kernel
theorem dX3_init_28 : decode cX3_init 28 = .ok (.aload_n 0, 1) := by decide +kernel
theorem dX3_init_29 : decode cX3_init 29 = .ok (.bipush 10, 2) := by decide +kernel
theorem dX3_init_31 : decode cX3_init 31 = .ok (.newarray .int, 2) := by decide +kernel
theorem dX3_init_33 : decode cX3_init 33 = .ok (.putfield 21, 3) := by decide +kernel
theorem dX3_init_36 : decode cX3_init 36 = .ok (.aload_n 0, 1) := by decide +kernel
theorem dX3_init_37 : decode cX3_init 37 = .ok (.bipush 10, 2) := by decide +kernel
theorem dX3_init_39 : decode cX3_init 39 = .ok (.newarray .int, 2) := by decide +kernel
theorem dX3_init_41 : decode cX3_init 41 = .ok (.putfield 24, 3) := by decide +kernel
theorem dX3_init_44 : decode cX3_init 44 = .ok (.aload_n 0, 1) := by decide +kernel
theorem dX3_init_45 : decode cX3_init 45 = .ok (.iconst 0, 1) := by decide +kernel
theorem dX3_init_46 : decode cX3_init 46 = .ok (.putfield 27, 3) := by decide +kernel
theorem dX3_init_49 : decode cX3_init 49 = .ok (.aload_n 0, 1) := by decide +kernel
theorem dX3_init_50 : decode cX3_init 50 = .ok (.iconst 0, 1) := by decide +kernel
theorem dX3_init_51 : decode cX3_init 51 = .ok (.putfield 31, 3) := by decide +kernel
theorem dX3_init_54 : decode cX3_init 54 = .ok (.aload_n 0, 1) := by decide +kernel
theorem dX3_init_55 : decode cX3_init 55 = .ok (.iconst 0, 1) := by decide +kernel
theorem dX3_init_56 : decode cX3_init 56 = .ok (.putfield 34, 3) := by decide +kernel
theorem dX3_init_59 : decode cX3_init 59 = .ok (.return_, 1) := by decide +kernel
theorem dX3_addStation_0 : decode cX3_addStation 0 = .ok (.aload_n 0, 1) := by decide +kernel
theorem dX3_addStation_1 : decode cX3_addStation 1 = .ok (.getfield 9, 3) := by decide +kernel
theorem dX3_addStation_4 : decode cX3_addStation 4 = .ok (.aload_n 0, 1) := by decide +kernel
theorem dX3_addStation_5 : decode cX3_addStation 5 = .ok (.getfield 27, 3) := by decide +kernel
theorem dX3_addStation_8 : decode cX3_addStation 8 = .ok (.iload_n 1, 1) := by decide +kernel
theorem dX3_addStation_9 : decode cX3_addStation 9 = .ok (.iastore, 1) := by decide +kernel
theorem dX3_addStation_10 : decode cX3_addStation 10 = .ok (.aload_n 0, 1) := by decide +kernel
theorem dX3_addStation_11 : decode cX3_addStation 11 = .ok (.getfield 15, 3) := by decide +kernel
theorem dX3_addStation_14 : decode cX3_addStation 14 = .ok (.aload_n 0, 1) := by decide +kernel
theorem dX3_addStation_15 : decode cX3_addStation 15 = .ok (.getfield 27, 3) := by decide +kernel
theorem dX3_addStation_18 : decode cX3_addStation 18 = .ok (.iload_n 2, 1) := by decide +kernel
theorem dX3_addStation_19 : decode cX3_addStation 19 = .ok (.iastore, 1) := by decide +kernel
theorem dX3_addStation_20 : decode cX3_addStation 20 = .ok (.aload_n 0, 1) := by decide +kernel
theorem dX3_addStation_21 : decode cX3_addStation 21 = .ok (.dup, 1) := by decide +kernel
theorem dX3_addStation_22 : decode cX3_addStation 22 = .ok (.getfield 27, 3) := by decide +kernel
theorem dX3_addStation_25 : decode cX3_addStation 25 = .ok (.dup_x1, 1) := by decide +kernel
theorem dX3_addStation_26 : decode cX3_addStation 26 = .ok (.iconst 1, 1) := by decide +kernel
theorem dX3_addStation_27 : decode cX3_addStation 27 = .ok (.iadd, 1) := by decide +kernel
theorem dX3_addStation_28 : decode cX3_addStation 28 = .ok (.putfield 27, 3) := by decide +kernel
theorem dX3_addStation_31 : decode cX3_addStation 31 = .ok (.ireturn, 1) := by decide +kernel
theorem dX3_addArea_0 : decode cX3_addArea 0 = .ok (.aload_n 0, 1) := by decide +kernel
theorem dX3_addArea_1 : decode cX3_addArea 1 = .ok (.getfield 18, 3) := by decide +kernel
theorem dX3_addArea_4 : decode cX3_addArea 4 = .ok (.aload_n 0, 1) := by decide +kernel
theorem dX3_addArea_5 : decode cX3_addArea 5 = .ok (.getfield 31, 3) := by decide +kernel
theorem dX3_addArea_8 : decode cX3_addArea 8 = .ok (.iload_n 1, 1) := by decide +kernel
theorem dX3_addArea_9 : decode cX3_addArea 9 = .ok (.iastore, 1) := by decide +kernel
theorem dX3_addArea_10 : decode cX3_addArea 10 = .ok (.aload_n 0, 1) := by decide +kernel
theorem dX3_addArea_11 : decode cX3_addArea 11 = .ok (.getfield 21, 3) := by decide +kernel
theorem dX3_addArea_14 : decode cX3_addArea 14 = .ok (.aload_n 0, 1) := by decide +kernel
theorem dX3_addArea_15 : decode cX3_addArea 15 = .ok (.getfield 31, 3) := by decide +kernel
theorem dX3_addArea_18 : decode cX3_addArea 18 = .ok (.iload_n 2, 1) := by decide +kernel
theorem dX3_addArea_19 : decode cX3_addArea 19 = .ok (.iastore, 1) := by decide +kernel
theorem dX3_addArea_20 : decode cX3_addArea 20 = .ok (.aload_n 0, 1) := by decide +kernel
theorem dX3_addArea_21 : decode cX3_addArea 21 = .ok (.getfield 24, 3) := by decide +kernel
theorem dX3_addArea_24 : decode cX3_addArea 24 = .ok (.aload_n 0, 1) := by decide +kernel
theorem dX3_addArea_25 : decode cX3_addArea 25 = .ok (.getfield 31, 3) := by decide +kernel
theorem dX3_addArea_28 : decode cX3_addArea 28 = .ok (.iload_n 3, 1) := by decide +kernel
theorem dX3_addArea_29 : decode cX3_addArea 29 = .ok (.iastore, 1) := by decide +kernel
theorem dX3_addArea_30 : decode cX3_addArea 30 = .ok (.aload_n 0, 1) := by decide +kernel
theorem dX3_addArea_31 : decode cX3_addArea 31 = .ok (.dup, 1) := by decide +kernel
theorem dX3_addArea_32 : decode cX3_addArea 32 = .ok (.getfield 34, 3) := by decide +kernel
theorem dX3_addArea_35 : decode cX3_addArea 35 = .ok (.iload_n 3, 1) := by decide +kernel
theorem dX3_addArea_36 : decode cX3_addArea 36 = .ok (.iadd, 1) := by decide +kernel
theorem dX3_addArea_37 : decode cX3_addArea 37 = .ok (.putfield 34, 3) := by decide +kernel
theorem dX3_addArea_40 : decode cX3_addArea 40 = .ok (.aload_n 0, 1) := by decide +kernel
theorem dX3_addArea_41 : decode cX3_addArea 41 = .ok (.dup, 1) := by decide +kernel
theorem dX3_addArea_42 : decode cX3_addArea 42 = .ok (.getfield 31, 3) := by decide +kernel
theorem dX3_addArea_45 : decode cX3_addArea 45 = .ok (.dup_x1, 1) := by decide +kernel
theorem dX3_addArea_46 : decode cX3_addArea 46 = .ok (.iconst 1, 1) := by decide +kernel
theorem dX3_addArea_47 : decode cX3_addArea 47 = .ok (.iadd, 1) := by decide +kernel
theorem dX3_addArea_48 : decode cX3_addArea 48 = .ok (.putfield 31, 3) := by decide +kernel
theorem dX3_addArea_51 : decode cX3_addArea 51 = .ok (.ireturn, 1) := by decide +kernel
theorem dX3_areaOfDraw_0 : decode cX3_areaOfDraw 0 = .ok (.iload_n 1, 1) := by decide +kernel
theorem dX3_areaOfDraw_1 : decode cX3_areaOfDraw 1 = .ok (.aload_n 0, 1) := by decide +kernel
theorem dX3_areaOfDraw_2 : decode cX3_areaOfDraw 2 = .ok (.getfield 34, 3) := by decide +kernel
theorem dX3_areaOfDraw_5 : decode cX3_areaOfDraw 5 = .ok (.iconst 1, 1) := by decide +kernel
theorem dX3_areaOfDraw_6 : decode cX3_areaOfDraw 6 = .ok (.invokestatic 37, 3) := by decide +kernel
theorem dX3_areaOfDraw_9 : decode cX3_areaOfDraw 9 = .ok (.irem, 1) := by decide +kernel
theorem dX3_areaOfDraw_10 : decode cX3_areaOfDraw 10 = .ok (.istore_n 2, 1) := by decide +kernel
theorem dX3_areaOfDraw_11 : decode cX3_areaOfDraw 11 = .ok (.iconst 0, 1) := by decide +kernel
theorem dX3_areaOfDraw_12 : decode cX3_areaOfDraw 12 = .ok (.istore_n 3, 1) := by decide +kernel
theorem dX3_areaOfDraw_13 : decode cX3_areaOfDraw 13 = .ok (.iconst 0, 1) := by decide +kernel
theorem dX3_areaOfDraw_14 : decode cX3_areaOfDraw 14 = .ok (.istore 4, 2) := by decide +kernel
theorem dX3_areaOfDraw_16 : decode cX3_areaOfDraw 16 = .ok (.iload 4, 2) := by decide +kernel
theorem dX3_areaOfDraw_18 : decode cX3_areaOfDraw 18 = .ok (.aload_n 0, 1) := by decide +kernel
theorem dX3_areaOfDraw_19 : decode cX3_areaOfDraw 19 = .ok (.getfield 31, 3) := by decide +kernel
theorem dX3_areaOfDraw_22 : decode cX3_areaOfDraw 22 = .ok (.if_icmp .ge 26, 3) := by decide +kernel
theorem dX3_areaOfDraw_25 : decode cX3_areaOfDraw 25 = .ok (.iload_n 2, 1) := by decide +kernel
theorem dX3_areaOfDraw_26 : decode cX3_areaOfDraw 26 = .ok (.ifCond .lt 22, 3) := by decide +kernel
theorem dX3_areaOfDraw_29 : decode cX3_areaOfDraw 29 = .ok (.iload 4, 2) := by decide +kernel
theorem dX3_areaOfDraw_31 : decode cX3_areaOfDraw 31 = .ok (.istore_n 3, 1) := by decide +kernel
theorem dX3_areaOfDraw_32 : decode cX3_areaOfDraw 32 = .ok (.iload_n 2, 1) := by decide +kernel
theorem dX3_areaOfDraw_33 : decode cX3_areaOfDraw 33 = .ok (.aload_n 0, 1) := by decide +kernel
theorem dX3_areaOfDraw_34 : decode cX3_areaOfDraw 34 = .ok (.getfield 24, 3) := by decide +kernel
theorem dX3_areaOfDraw_37 : decode cX3_areaOfDraw 37 = .ok (.iload 4, 2) := by decide +kernel
theorem dX3_areaOfDraw_39 : decode cX3_areaOfDraw 39 = .ok (.iaload, 1) := by decide +kernel
theorem dX3_areaOfDraw_40 : decode cX3_areaOfDraw 40 = .ok (.isub, 1) := by decide +kernel
theorem dX3_areaOfDraw_41 : decode cX3_areaOfDraw 41 = .ok (.istore_n 2, 1) := by decide +kernel
theorem dX3_areaOfDraw_42 : decode cX3_areaOfDraw 42 = .ok (.iinc 4 1, 3) := by decide +kernel
theorem dX3_areaOfDraw_45 : decode cX3_areaOfDraw 45 = .ok (.goto (-29), 3) := by decide +kernel
theorem dX3_areaOfDraw_48 : decode cX3_areaOfDraw 48 = .ok (.iload_n 3, 1) := by decide +kernel
theorem dX3_areaOfDraw_49 : decode cX3_areaOfDraw 49 = .ok (.ireturn, 1) := by decide +kernel
theorem dX3_wayMinutes_0 : decode cX3_wayMinutes 0 = .ok (.aload_n 0, 1) := by decide +kernel
theorem dX3_wayMinutes_1 : decode cX3_wayMinutes 1 = .ok (.getfield 9, 3) := by decide +kernel
theorem dX3_wayMinutes_4 : decode cX3_wayMinutes 4 = .ok (.iload_n 1, 1) := by decide +kernel
theorem dX3_wayMinutes_5 : decode cX3_wayMinutes 5 = .ok (.iaload, 1) := by decide +kernel
theorem dX3_wayMinutes_6 : decode cX3_wayMinutes 6 = .ok (.aload_n 0, 1) := by decide +kernel
theorem dX3_wayMinutes_7 : decode cX3_wayMinutes 7 = .ok (.getfield 18, 3) := by decide +kernel
theorem dX3_wayMinutes_10 : decode cX3_wayMinutes 10 = .ok (.iload_n 2, 1) := by decide +kernel
theorem dX3_wayMinutes_11 : decode cX3_wayMinutes 11 = .ok (.iaload, 1) := by decide +kernel
theorem dX3_wayMinutes_12 : decode cX3_wayMinutes 12 = .ok (.isub, 1) := by decide +kernel
theorem dX3_wayMinutes_13 : decode cX3_wayMinutes 13 = .ok (.invokestatic 43, 3) := by decide +kernel
theorem dX3_wayMinutes_16 : decode cX3_wayMinutes 16 = .ok (.aload_n 0, 1) := by decide +kernel
theorem dX3_wayMinutes_17 : decode cX3_wayMinutes 17 = .ok (.getfield 15, 3) := by decide +kernel
theorem dX3_wayMinutes_20 : decode cX3_wayMinutes 20 = .ok (.iload_n 1, 1) := by decide +kernel
theorem dX3_wayMinutes_21 : decode cX3_wayMinutes 21 = .ok (.iaload, 1) := by decide +kernel
theorem dX3_wayMinutes_22 : decode cX3_wayMinutes 22 = .ok (.aload_n 0, 1) := by decide +kernel
theorem dX3_wayMinutes_23 : decode cX3_wayMinutes 23 = .ok (.getfield 21, 3) := by decide +kernel
theorem dX3_wayMinutes_26 : decode cX3_wayMinutes 26 = .ok (.iload_n 2, 1) := by decide +kernel
theorem dX3_wayMinutes_27 : decode cX3_wayMinutes 27 = .ok (.iaload, 1) := by decide +kernel
theorem dX3_wayMinutes_28 : decode cX3_wayMinutes 28 = .ok (.isub, 1) := by decide +kernel
theorem dX3_wayMinutes_29 : decode cX3_wayMinutes 29 = .ok (.invokestatic 43, 3) := by decide +kernel
theorem dX3_wayMinutes_32 : decode cX3_wayMinutes 32 = .ok (.iadd, 1) := by decide +kernel
theorem dX3_wayMinutes_33 : decode cX3_wayMinutes 33 = .ok (.istore 4, 2) := by decide +kernel
theorem dX3_wayMinutes_35 : decode cX3_wayMinutes 35 = .ok (.iload 4, 2) := by decide +kernel
theorem dX3_wayMinutes_37 : decode cX3_wayMinutes 37 = .ok (.iload_n 3, 1) := by decide +kernel
theorem dX3_wayMinutes_38 : decode cX3_wayMinutes 38 = .ok (.imul, 1) := by decide +kernel
theorem dX3_wayMinutes_39 : decode cX3_wayMinutes 39 = .ok (.iconst 3, 1) := by decide +kernel
theorem dX3_wayMinutes_40 : decode cX3_wayMinutes 40 = .ok (.iadd, 1) := by decide +kernel
theorem dX3_wayMinutes_41 : decode cX3_wayMinutes 41 = .ok (.iconst 4, 1) := by decide +kernel
theorem dX3_wayMinutes_42 : decode cX3_wayMinutes 42 = .ok (.idiv, 1) := by decide +kernel
theorem dX3_wayMinutes_43 : decode cX3_wayMinutes 43 = .ok (.ireturn, 1) := by decide +kernel
set_option maxRecDepth 20000 in
theorem ggX4_init_X3_init : GoodIn wsX4_init wsX3_init := goodIn_r _ [19, 20, 2, 3, 21, 22, 23, 24, 25, 26, 27, 28, 29, 63, 64, 65, 66, 67, 68, 69, 70] (by decide +kernel) (by decide +kernel)
set_option maxRecDepth 20000 in
theorem gX4_init_X3_init_n11 : GoodIn wsX4_init (wsX3_init) := ggX4_init_X3_init
set_option maxRecDepth 20000 in
theorem ggX4_init_X1_init : GoodIn wsX4_init wsX1_init := goodIn_r _ [31, 32, 2, 3, 33, 21, 34, 35, 76, 77] (by decide +kernel) (by decide +kernel)
set_option maxRecDepth 20000 in
theorem gX4_init_X1_init_n18 : GoodIn wsX4_init (wsX1_init) := ggX4_init_X1_init
set_option maxRecDepth 20000 in
theorem ggX4_init_X2_init : GoodIn wsX4_init wsX2_init := goodIn_r _ [37, 38, 2, 3, 39, 40, 41, 42, 21, 43, 44, 45, 46, 47, 48, 49, 50, 51, 52, 53, 54, 55, 56, 57, 58, 59, 60, 61, 62, 89, 90, 91, 92, 93, 78, 79, 80, 81, 82, 83, 84, 85, 86, 87, 88] (by decide +kernel) (by decide +kernel)
set_option maxRecDepth 20000 in
theorem gX4_init_X2_init_n25 : GoodIn wsX4_init (wsX2_init) := ggX4_init_X2_init
theorem dX4_init_0 : decode cX4_init 0 = .ok (.aload_n 0, 1) := by decide +kernel
theorem dX4_init_1 : decode cX4_init 1 = .ok (.invokespecial 3, 3) := by decide +kernel
theorem dX4_init_4 : decode cX4_init 4 = .ok (.aload_n 0, 1) := by decide +kernel
theorem dX4_init_5 : decode cX4_init 5 = .ok (.new 9, 3) := by decide +kernel
theorem dX4_init_8 : decode cX4_init 8 = .ok (.dup, 1) := by decide +kernel
theorem dX4_init_9 : decode cX4_init 9 = .ok (.invokespecial 11, 3) := by decide +kernel
theorem dX4_init_12 : decode cX4_init 12 = .ok (.putfield 12, 3) := by decide +kernel
theorem dX4_init_15 : decode cX4_init 15 = .ok (.aload_n 0, 1) := by decide +kernel
theorem dX4_init_16 : decode cX4_init 16 = .ok (.new 16, 3) := by decide +kernel
theorem dX4_init_19 : decode cX4_init 19 = .ok (.dup, 1) := by decide +kernel
theorem dX4_init_20 : decode cX4_init 20 = .ok (.invokespecial 18, 3) := by decide +kernel
theorem dX4_init_23 : decode cX4_init 23 = .ok (.putfield 19, 3) := by decide +kernel
theorem dX4_init_26 : decode cX4_init 26 = .ok (.aload_n 0, 1) := by decide +kernel
theorem dX4_init_27 : decode cX4_init 27 = .ok (.new 23, 3) := by decide +kernel
theorem dX4_init_30 : decode cX4_init 30 = .ok (.dup, 1) := by decide +kernel
theorem dX4_init_31 : decode cX4_init 31 = .ok (.invokespecial 25, 3) := by decide +kernel
theorem dX4_init_34 : decode cX4_init 34 = .ok (.putfield 26, 3) := by decide +kernel
theorem dX4_init_37 : decode cX4_init 37 = .ok (.aload_n 0, 1) := by decide +kernel
theorem dX4_init_38 : decode cX4_init 38 = .ok (.iconst 1, 1) := by decide +kernel
theorem dX4_init_39 : decode cX4_init 39 = .ok (.putfield 30, 3) := by decide +kernel
theorem dX4_init_42 : decode cX4_init 42 = .ok (.aload_n 0, 1) := by decide +kernel
theorem dX4_init_43 : decode cX4_init 43 = .ok (.bipush 10, 2) := by decide +kernel
theorem dX4_init_45 : decode cX4_init 45 = .ok (.putfield 34, 3) := by decide +kernel
theorem dX4_init_48 : decode cX4_init 48 = .ok (.return_, 1) := by decide +kernel
set_option maxRecDepth 20000 in
theorem ggX4_station_X4_isPlace : GoodIn wsX4_station wsX4_isPlace := goodIn_r _ [6, 7, 8, 5, 9] (by decide +kernel) (by decide +kernel)
set_option maxRecDepth 20000 in
theorem gX4_station_X4_isPlace : GoodIn wsX4_station (va_wsS RX4 37 yX4_isPlace wsX4_isPlace) := goodIn_app (goodIn_of _ (by decide +kernel)) ggX4_station_X4_isPlace
set_option maxRecDepth 20000 in
theorem ggX4_station_X4_needRange : GoodIn wsX4_station wsX4_needRange := goodIn_ca (goodIn_r _ [12, 13, 14] (by decide +kernel) (by decide +kernel)) (goodIn_sub (fun _ h => List.mem_cons_of_mem _ (List.mem_append_left _ (List.mem_append_right _ h))) (by decide +kernel))
set_option maxRecDepth 20000 in
theorem gX4_station_X4_needRange : GoodIn wsX4_station (va_wsS RX4 41 yX4_needRange wsX4_needRange) := goodIn_app (goodIn_of _ (by decide +kernel)) ggX4_station_X4_needRange
set_option maxRecDepth 20000 in
theorem ggX4_station_X4_needRoom : GoodIn wsX4_station wsX4_needRoom := goodIn_ca (goodIn_r _ [17, 18, 19] (by decide +kernel) (by decide +kernel)) (goodIn_sub (fun _ h => List.mem_cons_of_mem _ (List.mem_append_right _ h)) (by decide +kernel))
set_option maxRecDepth 20000 in
theorem gX4_station_X4_needRoom : GoodIn wsX4_station (va_wsS RX4 48 yX4_needRoom wsX4_needRoom) := goodIn_app (goodIn_of _ (by decide +kernel)) ggX4_station_X4_needRoom
set_option maxRecDepth 20000 in
theorem ggX4_station_X3_addStation : GoodIn wsX4_station wsX3_addStation := goodIn_r _ [24, 25, 26, 27, 33, 34, 35, 36, 37, 38, 39, 40] (by decide +kernel) (by decide +kernel)
set_option maxRecDepth 20000 in
theorem gX4_station_X3_addStation : GoodIn wsX4_station (wsV RX4 51 RX3 yX3_addStation wsX3_addStation) := goodIn_app (goodIn_of _ (by decide +kernel)) ggX4_station_X3_addStation
theorem dX4_station_0 : decode cX4_station 0 = .ok (.iload_n 1, 1) := by decide +kernel
theorem dX4_station_1 : decode cX4_station 1 = .ok (.iload_n 2, 1) := by decide +kernel
theorem dX4_station_2 : decode cX4_station 2 = .ok (.invokestatic 37, 3) := by decide +kernel
theorem dX4_station_5 : decode cX4_station 5 = .ok (.invokestatic 41, 3) := by decide +kernel
theorem dX4_station_8 : decode cX4_station 8 = .ok (.aload_n 0, 1) := by decide +kernel
theorem dX4_station_9 : decode cX4_station 9 = .ok (.getfield 12, 3) := by decide +kernel
theorem dX4_station_12 : decode cX4_station 12 = .ok (.getfield 45, 3) := by decide +kernel
theorem dX4_station_15 : decode cX4_station 15 = .ok (.bipush 6, 2) := by decide +kernel
theorem dX4_station_17 : decode cX4_station 17 = .ok (.if_icmp .ge 7, 3) := by decide +kernel
theorem dX4_station_20 : decode cX4_station 20 = .ok (.iconst 1, 1) := by decide +kernel
theorem dX4_station_21 : decode cX4_station 21 = .ok (.goto 4, 3) := by decide +kernel
theorem dX4_station_24 : decode cX4_station 24 = .ok (.iconst 0, 1) := by decide +kernel
theorem dX4_station_25 : decode cX4_station 25 = .ok (.invokestatic 48, 3) := by decide +kernel
theorem dX4_station_28 : decode cX4_station 28 = .ok (.aload_n 0, 1) := by decide +kernel
theorem dX4_station_29 : decode cX4_station 29 = .ok (.getfield 12, 3) := by decide +kernel
theorem dX4_station_32 : decode cX4_station 32 = .ok (.iload_n 1, 1) := by decide +kernel
theorem dX4_station_33 : decode cX4_station 33 = .ok (.iload_n 2, 1) := by decide +kernel
theorem dX4_station_34 : decode cX4_station 34 = .ok (.invokevirtual 51, 3) := by decide +kernel
theorem dX4_station_37 : decode cX4_station 37 = .ok (.ireturn, 1) := by decide +kernel
set_option maxRecDepth 20000 in
theorem ggX4_area_X4_isPlace : GoodIn wsX4_area wsX4_isPlace := goodIn_r _ [6, 7, 8, 5, 9] (by decide +kernel) (by decide +kernel)
set_option maxRecDepth 20000 in
theorem gX4_area_X4_isPlace : GoodIn wsX4_area (va_wsS RX4 37 yX4_isPlace wsX4_isPlace) := goodIn_app (goodIn_of _ (by decide +kernel)) ggX4_area_X4_isPlace
set_option maxRecDepth 20000 in
theorem ggX4_area_X4_isWithin : GoodIn wsX4_area wsX4_isWithin := goodIn_r _ [12] (by decide +kernel) (by decide +kernel)
set_option maxRecDepth 20000 in
theorem gX4_area_X4_isWithin : GoodIn wsX4_area (va_wsS RX4 55 yX4_isWithin wsX4_isWithin) := goodIn_app (goodIn_of _ (by decide +kernel)) ggX4_area_X4_isWithin
set_option maxRecDepth 20000 in
theorem ggX4_area_X4_needRange : GoodIn wsX4_area wsX4_needRange := goodIn_ca (goodIn_r _ [15, 16, 17] (by decide +kernel) (by decide +kernel)) (goodIn_sub (fun _ h => List.mem_cons_of_mem _ (List.mem_append_left _ (List.mem_append_right _ h))) (by decide +kernel))
set_option maxRecDepth 20000 in
theorem gX4_area_X4_needRange : GoodIn wsX4_area (va_wsS RX4 41 yX4_needRange wsX4_needRange) := goodIn_app (goodIn_of _ (by decide +kernel)) ggX4_area_X4_needRange
set_option maxRecDepth 20000 in
theorem ggX4_area_X4_needRoom : GoodIn wsX4_area wsX4_needRoom := goodIn_ca (goodIn_r _ [20, 21, 22] (by decide +kernel) (by decide +kernel)) (goodIn_sub (fun _ h => List.mem_cons_of_mem _ (List.mem_append_right _ h)) (by decide +kernel))
set_option maxRecDepth 20000 in
theorem gX4_area_X4_needRoom : GoodIn wsX4_area (va_wsS RX4 48 yX4_needRoom wsX4_needRoom) := goodIn_app (goodIn_of _ (by decide +kernel)) ggX4_area_X4_needRoom
set_option maxRecDepth 20000 in
theorem ggX4_area_X3_addArea : GoodIn wsX4_area wsX3_addArea := goodIn_r _ [27, 28, 29, 30, 31, 32, 38, 39, 40, 41, 42, 43, 44, 45] (by decide +kernel) (by decide +kernel)
set_option maxRecDepth 20000 in
theorem gX4_area_X3_addArea : GoodIn wsX4_area (wsV RX4 62 RX3 yX3_addArea wsX3_addArea) := goodIn_app (goodIn_of _ (by decide +kernel)) ggX4_area_X3_addArea
theorem dX4_area_0 : decode cX4_area 0 = .ok (.iload_n 1, 1) := by decide +kernel
theorem dX4_area_1 : decode cX4_area 1 = .ok (.iload_n 2, 1) := by decide +kernel
theorem dX4_area_2 : decode cX4_area 2 = .ok (.invokestatic 37, 3) := by decide +kernel
theorem dX4_area_5 : decode cX4_area 5 = .ok (.ifCond .eq 17, 3) := by decide +kernel
theorem dX4_area_8 : decode cX4_area 8 = .ok (.iload_n 3, 1) := by decide +kernel
theorem dX4_area_9 : decode cX4_area 9 = .ok (.iconst 1, 1) := by decide +kernel
theorem dX4_area_10 : decode cX4_area 10 = .ok (.bipush 50, 2) := by decide +kernel
theorem dX4_area_12 : decode cX4_area 12 = .ok (.invokestatic 55, 3) := by decide +kernel
theorem dX4_area_15 : decode cX4_area 15 = .ok (.ifCond .eq 7, 3) := by decide +kernel
theorem dX4_area_18 : decode cX4_area 18 = .ok (.iconst 1, 1) := by decide +kernel
theorem dX4_area_19 : decode cX4_area 19 = .ok (.goto 4, 3) := by decide +kernel
theorem dX4_area_22 : decode cX4_area 22 = .ok (.iconst 0, 1) := by decide +kernel
theorem dX4_area_23 : decode cX4_area 23 = .ok (.invokestatic 41, 3) := by decide +kernel
theorem dX4_area_26 : decode cX4_area 26 = .ok (.aload_n 0, 1) := by decide +kernel
theorem dX4_area_27 : decode cX4_area 27 = .ok (.getfield 12, 3) := by decide +kernel
theorem dX4_area_30 : decode cX4_area 30 = .ok (.getfield 59, 3) := by decide +kernel
theorem dX4_area_33 : decode cX4_area 33 = .ok (.bipush 10, 2) := by decide +kernel
theorem dX4_area_35 : decode cX4_area 35 = .ok (.if_icmp .ge 7, 3) := by decide +kernel
theorem dX4_area_38 : decode cX4_area 38 = .ok (.iconst 1, 1) := by decide +kernel
theorem dX4_area_39 : decode cX4_area 39 = .ok (.goto 4, 3) := by decide +kernel
theorem dX4_area_42 : decode cX4_area 42 = .ok (.iconst 0, 1) := by decide +kernel
theorem dX4_area_43 : decode cX4_area 43 = .ok (.invokestatic 48, 3) := by decide +kernel
theorem dX4_area_46 : decode cX4_area 46 = .ok (.aload_n 0, 1) := by decide +kernel
theorem dX4_area_47 : decode cX4_area 47 = .ok (.getfield 12, 3) := by decide +kernel
theorem dX4_area_50 : decode cX4_area 50 = .ok (.iload_n 1, 1) := by decide +kernel
theorem dX4_area_51 : decode cX4_area 51 = .ok (.iload_n 2, 1) := by decide +kernel
theorem dX4_area_52 : decode cX4_area 52 = .ok (.iload_n 3, 1) := by decide +kernel
theorem dX4_area_53 : decode cX4_area 53 = .ok (.invokevirtual 62, 3) := by decide +kernel
theorem dX4_area_56 : decode cX4_area 56 = .ok (.ireturn, 1) := by decide +kernel
set_option maxRecDepth 20000 in
theorem ggX4_unit_X4_isBelow : GoodIn wsX4_unit wsX4_isBelow := goodIn_r _ [8] (by decide +kernel) (by decide +kernel)
set_option maxRecDepth 20000 in
theorem gX4_unit_X4_isBelow : GoodIn wsX4_unit (va_wsS RX4 66 yX4_isBelow wsX4_isBelow) := goodIn_app (goodIn_of _ (by decide +kernel)) ggX4_unit_X4_isBelow
set_option maxRecDepth 20000 in
theorem ggX4_unit_X4_needKnown : GoodIn wsX4_unit wsX4_needKnown := goodIn_ca (goodIn_r _ [11, 12, 13] (by decide +kernel) (by decide +kernel)) (goodIn_sub (fun _ h => List.mem_cons_of_mem _ (List.mem_append_left _ (List.mem_append_left _ (List.mem_append_right _ h)))) (by decide +kernel))
set_option maxRecDepth 20000 in
theorem gX4_unit_X4_needKnown : GoodIn wsX4_unit (va_wsS RX4 69 yX4_needKnown wsX4_needKnown) := goodIn_app (goodIn_of _ (by decide +kernel)) ggX4_unit_X4_needKnown
set_option maxRecDepth 20000 in
theorem ggX4_unit_X1_hasRoomInAllVariants : GoodIn wsX4_unit wsX1_hasRoomInAllVariants := goodIn_r _ [18, 19, 20, 21, 17, 22, 23, 24, 52, 53] (by decide +kernel) (by decide +kernel)
set_option maxRecDepth 20000 in
theorem gX4_unit_X1_hasRoomInAllVariants : GoodIn wsX4_unit (wsV RX4 72 RX1 yX1_hasRoomInAllVariants wsX1_hasRoomInAllVariants) := goodIn_app (goodIn_of _ (by decide +kernel)) ggX4_unit_X1_hasRoomInAllVariants
set_option maxRecDepth 20000 in
theorem ggX4_unit_X4_needState : GoodIn wsX4_unit wsX4_needState := goodIn_ca (goodIn_r _ [27, 28, 29] (by decide +kernel) (by decide +kernel)) (goodIn_sub (fun _ h => List.mem_cons_of_mem _ (List.mem_append_left _ (List.mem_append_right _ h))) (by decide +kernel))
set_option maxRecDepth 20000 in
theorem gX4_unit_X4_needState : GoodIn wsX4_unit (va_wsS RX4 76 yX4_needState wsX4_needState) := goodIn_app (goodIn_of _ (by decide +kernel)) ggX4_unit_X4_needState
set_option maxRecDepth 20000 in
theorem ggX4_unit_X4_needRoom : GoodIn wsX4_unit wsX4_needRoom := goodIn_ca (goodIn_r _ [32, 33, 34] (by decide +kernel) (by decide +kernel)) (goodIn_sub (fun _ h => List.mem_cons_of_mem _ (List.mem_append_right _ h)) (by decide +kernel))
set_option maxRecDepth 20000 in
theorem gX4_unit_X4_needRoom : GoodIn wsX4_unit (va_wsS RX4 48 yX4_needRoom wsX4_needRoom) := goodIn_app (goodIn_of _ (by decide +kernel)) ggX4_unit_X4_needRoom
set_option maxRecDepth 20000 in
theorem ggX4_unit_X1_addUnit : GoodIn wsX4_unit wsX1_addUnit := goodIn_r _ [38, 24, 23, 52, 53] (by decide +kernel) (by decide +kernel)
set_option maxRecDepth 20000 in
theorem gX4_unit_X1_addUnit : GoodIn wsX4_unit (wsV RX4 82 RX1 yX1_addUnit wsX1_addUnit) := goodIn_app (goodIn_of _ (by decide +kernel)) ggX4_unit_X1_addUnit
theorem dX4_unit_0 : decode cX4_unit 0 = .ok (.iload_n 1, 1) := by decide +kernel
theorem dX4_unit_1 : decode cX4_unit 1 = .ok (.aload_n 0, 1) := by decide +kernel
theorem dX4_unit_2 : decode cX4_unit 2 = .ok (.getfield 12, 3) := by decide +kernel
theorem dX4_unit_5 : decode cX4_unit 5 = .ok (.getfield 45, 3) := by decide +kernel
theorem dX4_unit_8 : decode cX4_unit 8 = .ok (.invokestatic 66, 3) := by decide +kernel
theorem dX4_unit_11 : decode cX4_unit 11 = .ok (.invokestatic 69, 3) := by decide +kernel
theorem dX4_unit_14 : decode cX4_unit 14 = .ok (.aload_n 0, 1) := by decide +kernel
theorem dX4_unit_15 : decode cX4_unit 15 = .ok (.getfield 19, 3) := by decide +kernel
theorem dX4_unit_18 : decode cX4_unit 18 = .ok (.iload_n 1, 1) := by decide +kernel
theorem dX4_unit_19 : decode cX4_unit 19 = .ok (.invokevirtual 72, 3) := by decide +kernel
theorem dX4_unit_22 : decode cX4_unit 22 = .ok (.invokestatic 76, 3) := by decide +kernel
theorem dX4_unit_25 : decode cX4_unit 25 = .ok (.aload_n 0, 1) := by decide +kernel
theorem dX4_unit_26 : decode cX4_unit 26 = .ok (.getfield 19, 3) := by decide +kernel
theorem dX4_unit_29 : decode cX4_unit 29 = .ok (.getfield 79, 3) := by decide +kernel
theorem dX4_unit_32 : decode cX4_unit 32 = .ok (.bipush 12, 2) := by decide +kernel
theorem dX4_unit_34 : decode cX4_unit 34 = .ok (.if_icmp .ge 7, 3) := by decide +kernel
theorem dX4_unit_37 : decode cX4_unit 37 = .ok (.iconst 1, 1) := by decide +kernel
theorem dX4_unit_38 : decode cX4_unit 38 = .ok (.goto 4, 3) := by decide +kernel
theorem dX4_unit_41 : decode cX4_unit 41 = .ok (.iconst 0, 1) := by decide +kernel
theorem dX4_unit_42 : decode cX4_unit 42 = .ok (.invokestatic 48, 3) := by decide +kernel
theorem dX4_unit_45 : decode cX4_unit 45 = .ok (.aload_n 0, 1) := by decide +kernel
theorem dX4_unit_46 : decode cX4_unit 46 = .ok (.getfield 19, 3) := by decide +kernel
theorem dX4_unit_49 : decode cX4_unit 49 = .ok (.iload_n 1, 1) := by decide +kernel
theorem dX4_unit_50 : decode cX4_unit 50 = .ok (.invokevirtual 82, 3) := by decide +kernel
theorem dX4_unit_53 : decode cX4_unit 53 = .ok (.ireturn, 1) := by decide +kernel
set_option maxRecDepth 20000 in
theorem ggX4_change_X4_isWithin : GoodIn wsX4_change wsX4_isWithin := goodIn_r _ [8] (by decide +kernel) (by decide +kernel)
set_option maxRecDepth 20000 in
theorem gX4_change_X4_isWithin : GoodIn wsX4_change (va_wsS RX4 55 yX4_isWithin wsX4_isWithin) := goodIn_app (goodIn_of _ (by decide +kernel)) ggX4_change_X4_isWithin
set_option maxRecDepth 20000 in
theorem ggX4_change_X4_isBelow : GoodIn wsX4_change wsX4_isBelow := goodIn_r _ [11] (by decide +kernel) (by decide +kernel)
set_option maxRecDepth 20000 in
theorem gX4_change_X4_isBelow : GoodIn wsX4_change (va_wsS RX4 66 yX4_isBelow wsX4_isBelow) := goodIn_app (goodIn_of _ (by decide +kernel)) ggX4_change_X4_isBelow
set_option maxRecDepth 20000 in
theorem ggX4_change_X4_needKnown : GoodIn wsX4_change wsX4_needKnown := goodIn_ca (goodIn_r _ [14, 15, 16] (by decide +kernel) (by decide +kernel)) (goodIn_sub (fun _ h => List.mem_cons_of_mem _ (List.mem_append_left _ (List.mem_append_right _ h))) (by decide +kernel))
set_option maxRecDepth 20000 in
theorem gX4_change_X4_needKnown : GoodIn wsX4_change (va_wsS RX4 69 yX4_needKnown wsX4_needKnown) := goodIn_app (goodIn_of _ (by decide +kernel)) ggX4_change_X4_needKnown
set_option maxRecDepth 20000 in
theorem ggX4_change_X1_countOthers : GoodIn wsX4_change wsX1_countOthers := goodIn_r _ [21, 22, 23, 38, 39] (by decide +kernel) (by decide +kernel)
set_option maxRecDepth 20000 in
theorem gX4_change_X1_countOthers : GoodIn wsX4_change (wsV RX4 86 RX1 yX1_countOthers wsX1_countOthers) := goodIn_app (goodIn_of _ (by decide +kernel)) ggX4_change_X1_countOthers
set_option maxRecDepth 20000 in
theorem ggX4_change_X4_needState : GoodIn wsX4_change wsX4_needState := goodIn_ca (goodIn_r _ [26, 27, 28] (by decide +kernel) (by decide +kernel)) (goodIn_sub (fun _ h => List.mem_cons_of_mem _ (List.mem_append_right _ h)) (by decide +kernel))
set_option maxRecDepth 20000 in
theorem gX4_change_X4_needState : GoodIn wsX4_change (va_wsS RX4 76 yX4_needState wsX4_needState) := goodIn_app (goodIn_of _ (by decide +kernel)) ggX4_change_X4_needState
set_option maxRecDepth 20000 in
theorem ggX4_change_X1_move : GoodIn wsX4_change wsX1_move := goodIn_r _ [32, 23, 38, 39] (by decide +kernel) (by decide +kernel)
set_option maxRecDepth 20000 in
theorem gX4_change_X1_move : GoodIn wsX4_change (wsV RX4 89 RX1 yX1_move wsX1_move) := goodIn_app (goodIn_of _ (by decide +kernel)) ggX4_change_X1_move
theorem dX4_change_0 : decode cX4_change 0 = .ok (.iload_n 1, 1) := by decide +kernel
theorem dX4_change_1 : decode cX4_change 1 = .ok (.iconst 1, 1) := by decide +kernel
theorem dX4_change_2 : decode cX4_change 2 = .ok (.iconst 3, 1) := by decide +kernel
theorem dX4_change_3 : decode cX4_change 3 = .ok (.invokestatic 55, 3) := by decide +kernel
theorem dX4_change_6 : decode cX4_change 6 = .ok (.ifCond .eq 21, 3) := by decide +kernel
theorem dX4_change_9 : decode cX4_change 9 = .ok (.iload_n 2, 1) := by decide +kernel
theorem dX4_change_10 : decode cX4_change 10 = .ok (.aload_n 0, 1) := by decide +kernel
theorem dX4_change_11 : decode cX4_change 11 = .ok (.getfield 19, 3) := by decide +kernel
theorem dX4_change_14 : decode cX4_change 14 = .ok (.getfield 79, 3) := by decide +kernel
theorem dX4_change_17 : decode cX4_change 17 = .ok (.invokestatic 66, 3) := by decide +kernel
theorem dX4_change_20 : decode cX4_change 20 = .ok (.ifCond .eq 7, 3) := by decide +kernel
theorem dX4_change_23 : decode cX4_change 23 = .ok (.iconst 1, 1) := by decide +kernel
theorem dX4_change_24 : decode cX4_change 24 = .ok (.goto 4, 3) := by decide +kernel
theorem dX4_change_27 : decode cX4_change 27 = .ok (.iconst 0, 1) := by decide +kernel
theorem dX4_change_28 : decode cX4_change 28 = .ok (.invokestatic 69, 3) := by decide +kernel
theorem dX4_change_31 : decode cX4_change 31 = .ok (.iload_n 3, 1) := by decide +kernel
theorem dX4_change_32 : decode cX4_change 32 = .ok (.iconst (-1), 1) := by decide +kernel
theorem dX4_change_33 : decode cX4_change 33 = .ok (.if_icmp .eq 17, 3) := by decide +kernel
theorem dX4_change_36 : decode cX4_change 36 = .ok (.iload_n 3, 1) := by decide +kernel
theorem dX4_change_37 : decode cX4_change 37 = .ok (.aload_n 0, 1) := by decide +kernel
theorem dX4_change_38 : decode cX4_change 38 = .ok (.getfield 12, 3) := by decide +kernel
theorem dX4_change_41 : decode cX4_change 41 = .ok (.getfield 45, 3) := by decide +kernel
theorem dX4_change_44 : decode cX4_change 44 = .ok (.invokestatic 66, 3) := by decide +kernel
theorem dX4_change_47 : decode cX4_change 47 = .ok (.ifCond .eq 7, 3) := by decide +kernel
theorem dX4_change_50 : decode cX4_change 50 = .ok (.iconst 1, 1) := by decide +kernel
theorem dX4_change_51 : decode cX4_change 51 = .ok (.goto 4, 3) := by decide +kernel
theorem dX4_change_54 : decode cX4_change 54 = .ok (.iconst 0, 1) := by decide +kernel
theorem dX4_change_55 : decode cX4_change 55 = .ok (.invokestatic 69, 3) := by decide +kernel
theorem dX4_change_58 : decode cX4_change 58 = .ok (.iload_n 3, 1) := by decide +kernel
theorem dX4_change_59 : decode cX4_change 59 = .ok (.iconst (-1), 1) := by decide +kernel
theorem dX4_change_60 : decode cX4_change 60 = .ok (.if_icmp .eq 17, 3) := by decide +kernel
theorem dX4_change_63 : decode cX4_change 63 = .ok (.aload_n 0, 1) := by decide +kernel
theorem dX4_change_64 : decode cX4_change 64 = .ok (.getfield 19, 3) := by decide +kernel
theorem dX4_change_67 : decode cX4_change 67 = .ok (.iload_n 1, 1) := by decide +kernel
theorem dX4_change_68 : decode cX4_change 68 = .ok (.iload_n 3, 1) := by decide +kernel
theorem dX4_change_69 : decode cX4_change 69 = .ok (.iload_n 2, 1) := by decide +kernel
theorem dX4_change_70 : decode cX4_change 70 = .ok (.invokevirtual 86, 3) := by decide +kernel
theorem dX4_change_73 : decode cX4_change 73 = .ok (.iconst 4, 1) := by decide +kernel
theorem dX4_change_74 : decode cX4_change 74 = .ok (.if_icmp .ge 7, 3) := by decide +kernel
theorem dX4_change_77 : decode cX4_change 77 = .ok (.iconst 1, 1) := by decide +kernel
theorem dX4_change_78 : decode cX4_change 78 = .ok (.goto 4, 3) := by decide +kernel
theorem dX4_change_81 : decode cX4_change 81 = .ok (.iconst 0, 1) := by decide +kernel
theorem dX4_change_82 : decode cX4_change 82 = .ok (.invokestatic 76, 3) := by decide +kernel
theorem dX4_change_85 : decode cX4_change 85 = .ok (.aload_n 0, 1) := by decide +kernel
theorem dX4_change_86 : decode cX4_change 86 = .ok (.getfield 19, 3) := by decide +kernel
theorem dX4_change_89 : decode cX4_change 89 = .ok (.iload_n 1, 1) := by decide +kernel
theorem dX4_change_90 : decode cX4_change 90 = .ok (.iload_n 2, 1) := by decide +kernel
theorem dX4_change_91 : decode cX4_change 91 = .ok (.iload_n 3, 1) := by decide +kernel
theorem dX4_change_92 : decode cX4_change 92 = .ok (.invokevirtual 89, 3) := by decide +kernel
theorem dX4_change_95 : decode cX4_change 95 = .ok (.return_, 1) := by decide +kernel
set_option maxRecDepth 20000 in
theorem ggX4_rules_X4_isWithin : GoodIn wsX4_rules wsX4_isWithin := goodIn_r _ [6] (by decide +kernel) (by decide +kernel)
set_option maxRecDepth 20000 in
theorem gX4_rules_X4_isWithin : GoodIn wsX4_rules (va_wsS RX4 55 yX4_isWithin wsX4_isWithin) := goodIn_app (goodIn_of _ (by decide +kernel)) ggX4_rules_X4_isWithin
set_option maxRecDepth 20000 in
theorem ggX4_rules_X4_needRange : GoodIn wsX4_rules wsX4_needRange := goodIn_ca (goodIn_r _ [9, 10, 11] (by decide +kernel) (by decide +kernel)) (goodIn_sub (fun _ h => List.mem_cons_of_mem _ (List.mem_append_right _ h)) (by decide +kernel))
set_option maxRecDepth 20000 in
theorem gX4_rules_X4_needRange : GoodIn wsX4_rules (va_wsS RX4 41 yX4_needRange wsX4_needRange) := goodIn_app (goodIn_of _ (by decide +kernel)) ggX4_rules_X4_needRange
theorem dX4_rules_0 : decode cX4_rules 0 = .ok (.iload_n 1, 1) := by decide +kernel
theorem dX4_rules_1 : decode cX4_rules 1 = .ok (.iconst 1, 1) := by decide +kernel
theorem dX4_rules_2 : decode cX4_rules 2 = .ok (.bipush 9, 2) := by decide +kernel
theorem dX4_rules_4 : decode cX4_rules 4 = .ok (.invokestatic 55, 3) := by decide +kernel
theorem dX4_rules_7 : decode cX4_rules 7 = .ok (.ifCond .eq 18, 3) := by decide +kernel
theorem dX4_rules_10 : decode cX4_rules 10 = .ok (.iload_n 2, 1) := by decide +kernel
theorem dX4_rules_11 : decode cX4_rules 11 = .ok (.iconst 0, 1) := by decide +kernel
theorem dX4_rules_12 : decode cX4_rules 12 = .ok (.sipush 1000, 3) := by decide +kernel
theorem dX4_rules_15 : decode cX4_rules 15 = .ok (.invokestatic 55, 3) := by decide +kernel
theorem dX4_rules_18 : decode cX4_rules 18 = .ok (.ifCond .eq 7, 3) := by decide +kernel
theorem dX4_rules_21 : decode cX4_rules 21 = .ok (.iconst 1, 1) := by decide +kernel
theorem dX4_rules_22 : decode cX4_rules 22 = .ok (.goto 4, 3) := by decide +kernel
theorem dX4_rules_25 : decode cX4_rules 25 = .ok (.iconst 0, 1) := by decide +kernel
theorem dX4_rules_26 : decode cX4_rules 26 = .ok (.invokestatic 41, 3) := by decide +kernel
theorem dX4_rules_29 : decode cX4_rules 29 = .ok (.aload_n 0, 1) := by decide +kernel
theorem dX4_rules_30 : decode cX4_rules 30 = .ok (.iload_n 1, 1) := by decide +kernel
theorem dX4_rules_31 : decode cX4_rules 31 = .ok (.putfield 30, 3) := by decide +kernel
theorem dX4_rules_34 : decode cX4_rules 34 = .ok (.aload_n 0, 1) := by decide +kernel
theorem dX4_rules_35 : decode cX4_rules 35 = .ok (.iload_n 2, 1) := by decide +kernel
theorem dX4_rules_36 : decode cX4_rules 36 = .ok (.putfield 34, 3) := by decide +kernel
theorem dX4_rules_39 : decode cX4_rules 39 = .ok (.return_, 1) := by decide +kernel
set_option maxRecDepth 20000 in
theorem ggX4_run_X4_isBelow : GoodIn wsX4_run wsX4_isBelow := goodIn_r _ [6] (by decide +kernel) (by decide +kernel)
set_option maxRecDepth 20000 in
theorem gX4_run_X4_isBelow : GoodIn wsX4_run (va_wsS RX4 66 yX4_isBelow wsX4_isBelow) := goodIn_app (goodIn_of _ (by decide +kernel)) ggX4_run_X4_isBelow
set_option maxRecDepth 20000 in
theorem ggX4_run_X4_needKnown : GoodIn wsX4_run wsX4_needKnown := goodIn_ca (goodIn_r _ [9, 10, 11] (by decide +kernel) (by decide +kernel)) (goodIn_sub (fun _ h => List.mem_cons_of_mem _ (List.mem_append_left _ (List.mem_append_left _ (List.mem_append_right _ h)))) (by decide +kernel))
set_option maxRecDepth 20000 in
theorem gX4_run_X4_needKnown : GoodIn wsX4_run (va_wsS RX4 69 yX4_needKnown wsX4_needKnown) := goodIn_app (goodIn_of _ (by decide +kernel)) ggX4_run_X4_needKnown
set_option maxRecDepth 20000 in
theorem ggX4_run_X4_isWithin : GoodIn wsX4_run wsX4_isWithin := goodIn_r _ [14] (by decide +kernel) (by decide +kernel)
set_option maxRecDepth 20000 in
theorem gX4_run_X4_isWithin : GoodIn wsX4_run (va_wsS RX4 55 yX4_isWithin wsX4_isWithin) := goodIn_app (goodIn_of _ (by decide +kernel)) ggX4_run_X4_isWithin
set_option maxRecDepth 20000 in
theorem ggX4_run_X4_needRange : GoodIn wsX4_run wsX4_needRange := goodIn_ca (goodIn_r _ [17, 18, 19] (by decide +kernel) (by decide +kernel)) (goodIn_sub (fun _ h => List.mem_cons_of_mem _ (List.mem_append_left _ (List.mem_append_right _ h))) (by decide +kernel))
set_option maxRecDepth 20000 in
theorem gX4_run_X4_needRange : GoodIn wsX4_run (va_wsS RX4 41 yX4_needRange wsX4_needRange) := goodIn_app (goodIn_of _ (by decide +kernel)) ggX4_run_X4_needRange
set_option maxRecDepth 20000 in
theorem ggX4_run_X4_needState : GoodIn wsX4_run wsX4_needState := goodIn_ca (goodIn_r _ [22, 23, 24] (by decide +kernel) (by decide +kernel)) (goodIn_sub (fun _ h => List.mem_cons_of_mem _ (List.mem_append_right _ h)) (by decide +kernel))
set_option maxRecDepth 20000 in
theorem gX4_run_X4_needState : GoodIn wsX4_run (va_wsS RX4 76 yX4_needState wsX4_needState) := goodIn_app (goodIn_of _ (by decide +kernel)) ggX4_run_X4_needState
set_option maxRecDepth 20000 in
theorem ggX4_run_X4_lateOn : GoodIn wsX4_run wsX4_lateOn := goodIn_r _ [28, 29, 30, 1, 31, 32, 33, 34, 35, 36, 37, 38, 39, 40, 41, 42, 43, 44, 45, 46, 47, 48, 49, 50, 51, 52, 53, 54, 55, 56, 57, 58, 59, 60, 61, 62, 63, 64, 65, 66, 67, 68, 69, 70, 71, 72, 73, 74, 75, 76, 77, 78, 79, 80, 81, 82, 83, 84, 85, 86, 87, 88, 89, 90, 91, 92, 93, 94, 95, 96, 97, 98, 99, 100, 101, 102, 103, 104, 105, 106, 107, 108, 109, 110, 111, 112, 113, 114, 115, 116, 117, 118, 119, 120, 121, 122, 123, 124, 125, 126, 127, 128, 129, 130, 131, 132, 133, 134, 135, 136, 137, 138, 139, 140, 141, 142, 143, 144, 145, 146, 147, 148, 149, 150, 151, 152, 153, 154, 155, 156, 157, 166, 167, 168, 169, 170, 171, 172, 173, 174, 175, 176, 177, 178, 179, 180, 181, 158, 159, 160, 161, 162, 163, 164, 165, 182, 183] (by decide +kernel) (by decide +kernel)
set_option maxRecDepth 20000 in
theorem gX4_run_X4_lateOn : GoodIn wsX4_run (wsV RX4 93 RX4 yX4_lateOn wsX4_lateOn) := goodIn_app (goodIn_of _ (by decide +kernel)) ggX4_run_X4_lateOn
