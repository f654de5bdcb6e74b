theorem dX5_nearest_0 : decode cX5_nearest 0 = .ok (.iconst (-1), 1) := by decide +kernel
theorem dX5_nearest_1 : decode cX5_nearest 1 = .ok (.istore 4, 2) := by decide +kernel
theorem dX5_nearest_3 : decode cX5_nearest 3 = .ok (.ldc 113, 2) := by decide +kernel
theorem dX5_nearest_5 : decode cX5_nearest 5 = .ok (.istore 5, 2) := by decide +kernel
theorem dX5_nearest_7 : decode cX5_nearest 7 = .ok (.iconst 0, 1) := by decide +kernel
theorem dX5_nearest_8 : decode cX5_nearest 8 = .ok (.istore 6, 2) := by decide +kernel
theorem dX5_nearest_10 : decode cX5_nearest 10 = .ok (.iload 6, 2) := by decide +kernel
theorem dX5_nearest_12 : decode cX5_nearest 12 = .ok (.aload_n 0, 1) := by decide +kernel
theorem dX5_nearest_13 : decode cX5_nearest 13 = .ok (.getfield 86, 3) := by decide +kernel
theorem dX5_nearest_16 : decode cX5_nearest 16 = .ok (.if_icmp .ge 64, 3) := by decide +kernel
theorem dX5_nearest_19 : decode cX5_nearest 19 = .ok (.aload_n 0, 1) := by decide +kernel
theorem dX5_nearest_20 : decode cX5_nearest 20 = .ok (.getfield 32, 3) := by decide +kernel
theorem dX5_nearest_23 : decode cX5_nearest 23 = .ok (.bipush 12, 2) := by decide +kernel
theorem dX5_nearest_25 : decode cX5_nearest 25 = .ok (.iload_n 1, 1) := by decide +kernel
theorem dX5_nearest_26 : decode cX5_nearest 26 = .ok (.imul, 1) := by decide +kernel
theorem dX5_nearest_27 : decode cX5_nearest 27 = .ok (.iload 6, 2) := by decide +kernel
theorem dX5_nearest_29 : decode cX5_nearest 29 = .ok (.iadd, 1) := by decide +kernel
theorem dX5_nearest_30 : decode cX5_nearest 30 = .ok (.iaload, 1) := by decide +kernel
theorem dX5_nearest_31 : decode cX5_nearest 31 = .ok (.istore 7, 2) := by decide +kernel
theorem dX5_nearest_33 : decode cX5_nearest 33 = .ok (.iload 7, 2) := by decide +kernel
theorem dX5_nearest_35 : decode cX5_nearest 35 = .ok (.ifCond .lt 39, 3) := by decide +kernel
theorem dX5_nearest_38 : decode cX5_nearest 38 = .ok (.aload_n 0, 1) := by decide +kernel
theorem dX5_nearest_39 : decode cX5_nearest 39 = .ok (.getfield 56, 3) := by decide +kernel
theorem dX5_nearest_42 : decode cX5_nearest 42 = .ok (.iload 6, 2) := by decide +kernel
theorem dX5_nearest_44 : decode cX5_nearest 44 = .ok (.iaload, 1) := by decide +kernel
theorem dX5_nearest_45 : decode cX5_nearest 45 = .ok (.iload_n 3, 1) := by decide +kernel
theorem dX5_nearest_46 : decode cX5_nearest 46 = .ok (.if_icmp .gt 28, 3) := by decide +kernel
theorem dX5_nearest_49 : decode cX5_nearest 49 = .ok (.aload_n 0, 1) := by decide +kernel
theorem dX5_nearest_50 : decode cX5_nearest 50 = .ok (.iload 7, 2) := by decide +kernel
theorem dX5_nearest_52 : decode cX5_nearest 52 = .ok (.iload_n 2, 1) := by decide +kernel
theorem dX5_nearest_53 : decode cX5_nearest 53 = .ok (.invokevirtual 114, 3) := by decide +kernel
theorem dX5_nearest_56 : decode cX5_nearest 56 = .ok (.iload 5, 2) := by decide +kernel
theorem dX5_nearest_58 : decode cX5_nearest 58 = .ok (.if_icmp .ge 16, 3) := by decide +kernel
theorem dX5_nearest_61 : decode cX5_nearest 61 = .ok (.iload 6, 2) := by decide +kernel
theorem dX5_nearest_63 : decode cX5_nearest 63 = .ok (.istore 4, 2) := by decide +kernel
theorem dX5_nearest_65 : decode cX5_nearest 65 = .ok (.aload_n 0, 1) := by decide +kernel
theorem dX5_nearest_66 : decode cX5_nearest 66 = .ok (.iload 7, 2) := by decide +kernel
theorem dX5_nearest_68 : decode cX5_nearest 68 = .ok (.iload_n 2, 1) := by decide +kernel
theorem dX5_nearest_69 : decode cX5_nearest 69 = .ok (.invokevirtual 114, 3) := by decide +kernel
theorem dX5_nearest_72 : decode cX5_nearest 72 = .ok (.istore 5, 2) := by decide +kernel
theorem dX5_nearest_74 : decode cX5_nearest 74 = .ok (.iinc 6 1, 3) := by decide +kernel
theorem dX5_nearest_77 : decode cX5_nearest 77 = .ok (.goto (-67), 3) := by decide +kernel
theorem dX5_nearest_80 : decode cX5_nearest 80 = .ok (.iload 4, 2) := by decide +kernel
theorem dX5_nearest_82 : decode cX5_nearest 82 = .ok (.ireturn, 1) := by decide +kernel
theorem dX5_send_0 : decode cX5_send 0 = .ok (.aload_n 0, 1) := by decide +kernel
theorem dX5_send_1 : decode cX5_send 1 = .ok (.getfield 47, 3) := by decide +kernel
theorem dX5_send_4 : decode cX5_send 4 = .ok (.iload_n 1, 1) := by decide +kernel
theorem dX5_send_5 : decode cX5_send 5 = .ok (.iload_n 2, 1) := by decide +kernel
theorem dX5_send_6 : decode cX5_send 6 = .ok (.iastore, 1) := by decide +kernel
theorem dX5_send_7 : decode cX5_send 7 = .ok (.aload_n 0, 1) := by decide +kernel
theorem dX5_send_8 : decode cX5_send 8 = .ok (.getfield 53, 3) := by decide +kernel
theorem dX5_send_11 : decode cX5_send 11 = .ok (.iload_n 1, 1) := by decide +kernel
theorem dX5_send_12 : decode cX5_send 12 = .ok (.iload_n 3, 1) := by decide +kernel
theorem dX5_send_13 : decode cX5_send 13 = .ok (.iastore, 1) := by decide +kernel
theorem dX5_send_14 : decode cX5_send 14 = .ok (.aload_n 0, 1) := by decide +kernel
theorem dX5_send_15 : decode cX5_send 15 = .ok (.getfield 50, 3) := by decide +kernel
theorem dX5_send_18 : decode cX5_send 18 = .ok (.iload_n 1, 1) := by decide +kernel
theorem dX5_send_19 : decode cX5_send 19 = .ok (.iload 4, 2) := by decide +kernel
theorem dX5_send_21 : decode cX5_send 21 = .ok (.iload_n 3, 1) := by decide +kernel
theorem dX5_send_22 : decode cX5_send 22 = .ok (.iadd, 1) := by decide +kernel
theorem dX5_send_23 : decode cX5_send 23 = .ok (.iastore, 1) := by decide +kernel
theorem dX5_send_24 : decode cX5_send 24 = .ok (.aload_n 0, 1) := by decide +kernel
theorem dX5_send_25 : decode cX5_send 25 = .ok (.getfield 56, 3) := by decide +kernel
theorem dX5_send_28 : decode cX5_send 28 = .ok (.iload_n 2, 1) := by decide +kernel
theorem dX5_send_29 : decode cX5_send 29 = .ok (.iload 4, 2) := by decide +kernel
theorem dX5_send_31 : decode cX5_send 31 = .ok (.iconst 2, 1) := by decide +kernel
theorem dX5_send_32 : decode cX5_send 32 = .ok (.iload_n 3, 1) := by decide +kernel
theorem dX5_send_33 : decode cX5_send 33 = .ok (.imul, 1) := by decide +kernel
theorem dX5_send_34 : decode cX5_send 34 = .ok (.iadd, 1) := by decide +kernel
theorem dX5_send_35 : decode cX5_send 35 = .ok (.aload_n 0, 1) := by decide +kernel
theorem dX5_send_36 : decode cX5_send 36 = .ok (.getfield 44, 3) := by decide +kernel
theorem dX5_send_39 : decode cX5_send 39 = .ok (.iload_n 1, 1) := by decide +kernel
theorem dX5_send_40 : decode cX5_send 40 = .ok (.iaload, 1) := by decide +kernel
theorem dX5_send_41 : decode cX5_send 41 = .ok (.iadd, 1) := by decide +kernel
theorem dX5_send_42 : decode cX5_send 42 = .ok (.iastore, 1) := by decide +kernel
theorem dX5_send_43 : decode cX5_send 43 = .ok (.aload_n 0, 1) := by decide +kernel
theorem dX5_send_44 : decode cX5_send 44 = .ok (.getfield 59, 3) := by decide +kernel
theorem dX5_send_47 : decode cX5_send 47 = .ok (.iload_n 2, 1) := by decide +kernel
theorem dX5_send_48 : decode cX5_send 48 = .ok (.dup2, 1) := by decide +kernel
theorem dX5_send_49 : decode cX5_send 49 = .ok (.iaload, 1) := by decide +kernel
theorem dX5_send_50 : decode cX5_send 50 = .ok (.aload_n 0, 1) := by decide +kernel
theorem dX5_send_51 : decode cX5_send 51 = .ok (.getfield 56, 3) := by decide +kernel
theorem dX5_send_54 : decode cX5_send 54 = .ok (.iload_n 2, 1) := by decide +kernel
theorem dX5_send_55 : decode cX5_send 55 = .ok (.iaload, 1) := by decide +kernel
theorem dX5_send_56 : decode cX5_send 56 = .ok (.iload 4, 2) := by decide +kernel
theorem dX5_send_58 : decode cX5_send 58 = .ok (.isub, 1) := by decide +kernel
theorem dX5_send_59 : decode cX5_send 59 = .ok (.iadd, 1) := by decide +kernel
theorem dX5_send_60 : decode cX5_send 60 = .ok (.iastore, 1) := by decide +kernel
theorem dX5_send_61 : decode cX5_send 61 = .ok (.iload 4, 2) := by decide +kernel
theorem dX5_send_63 : decode cX5_send 63 = .ok (.istore 5, 2) := by decide +kernel
theorem dX5_send_65 : decode cX5_send 65 = .ok (.iload 5, 2) := by decide +kernel
theorem dX5_send_67 : decode cX5_send 67 = .ok (.aload_n 0, 1) := by decide +kernel
theorem dX5_send_68 : decode cX5_send 68 = .ok (.getfield 56, 3) := by decide +kernel
theorem dX5_send_71 : decode cX5_send 71 = .ok (.iload_n 2, 1) := by decide +kernel
theorem dX5_send_72 : decode cX5_send 72 = .ok (.iaload, 1) := by decide +kernel
theorem dX5_send_73 : decode cX5_send 73 = .ok (.if_icmp .ge 28, 3) := by decide +kernel
theorem dX5_send_76 : decode cX5_send 76 = .ok (.iload 5, 2) := by decide +kernel
theorem dX5_send_78 : decode cX5_send 78 = .ok (.sipush 1440, 3) := by decide +kernel
theorem dX5_send_81 : decode cX5_send 81 = .ok (.if_icmp .ge 20, 3) := by decide +kernel
theorem dX5_send_84 : decode cX5_send 84 = .ok (.aload_n 0, 1) := by decide +kernel
theorem dX5_send_85 : decode cX5_send 85 = .ok (.getfield 62, 3) := by decide +kernel
theorem dX5_send_88 : decode cX5_send 88 = .ok (.iload 5, 2) := by decide +kernel
theorem dX5_send_90 : decode cX5_send 90 = .ok (.dup2, 1) := by decide +kernel
theorem dX5_send_91 : decode cX5_send 91 = .ok (.iaload, 1) := by decide +kernel
theorem dX5_send_92 : decode cX5_send 92 = .ok (.iconst 1, 1) := by decide +kernel
theorem dX5_send_93 : decode cX5_send 93 = .ok (.iadd, 1) := by decide +kernel
theorem dX5_send_94 : decode cX5_send 94 = .ok (.iastore, 1) := by decide +kernel
theorem dX5_send_95 : decode cX5_send 95 = .ok (.iinc 5 1, 3) := by decide +kernel
theorem dX5_send_98 : decode cX5_send 98 = .ok (.goto (-33), 3) := by decide +kernel
theorem dX5_send_101 : decode cX5_send 101 = .ok (.return_, 1) := by decide +kernel
theorem dX5_later_0 : decode cX5_later 0 = .ok (.ldc 113, 2) := by decide +kernel
theorem dX5_later_2 : decode cX5_later 2 = .ok (.istore_n 2, 1) := by decide +kernel
theorem dX5_later_3 : decode cX5_later 3 = .ok (.iconst 0, 1) := by decide +kernel
theorem dX5_later_4 : decode cX5_later 4 = .ok (.istore_n 3, 1) := by decide +kernel
theorem dX5_later_5 : decode cX5_later 5 = .ok (.iload_n 3, 1) := by decide +kernel
theorem dX5_later_6 : decode cX5_later 6 = .ok (.aload_n 0, 1) := by decide +kernel
theorem dX5_later_7 : decode cX5_later 7 = .ok (.getfield 99, 3) := by decide +kernel
theorem dX5_later_10 : decode cX5_later 10 = .ok (.if_icmp .ge 40, 3) := by decide +kernel
theorem dX5_later_13 : decode cX5_later 13 = .ok (.aload_n 0, 1) := by decide +kernel
theorem dX5_later_14 : decode cX5_later 14 = .ok (.getfield 35, 3) := by decide +kernel
theorem dX5_later_17 : decode cX5_later 17 = .ok (.iload_n 3, 1) := by decide +kernel
theorem dX5_later_18 : decode cX5_later 18 = .ok (.iaload, 1) := by decide +kernel
theorem dX5_later_19 : decode cX5_later 19 = .ok (.iload_n 1, 1) := by decide +kernel
theorem dX5_later_20 : decode cX5_later 20 = .ok (.if_icmp .le 22, 3) := by decide +kernel
theorem dX5_later_23 : decode cX5_later 23 = .ok (.aload_n 0, 1) := by decide +kernel
theorem dX5_later_24 : decode cX5_later 24 = .ok (.getfield 35, 3) := by decide +kernel
theorem dX5_later_27 : decode cX5_later 27 = .ok (.iload_n 3, 1) := by decide +kernel
theorem dX5_later_28 : decode cX5_later 28 = .ok (.iaload, 1) := by decide +kernel
theorem dX5_later_29 : decode cX5_later 29 = .ok (.iload_n 2, 1) := by decide +kernel
theorem dX5_later_30 : decode cX5_later 30 = .ok (.if_icmp .ge 12, 3) := by decide +kernel
theorem dX5_later_33 : decode cX5_later 33 = .ok (.aload_n 0, 1) := by decide +kernel
theorem dX5_later_34 : decode cX5_later 34 = .ok (.getfield 35, 3) := by decide +kernel
theorem dX5_later_37 : decode cX5_later 37 = .ok (.iload_n 3, 1) := by decide +kernel
theorem dX5_later_38 : decode cX5_later 38 = .ok (.iaload, 1) := by decide +kernel
theorem dX5_later_39 : decode cX5_later 39 = .ok (.goto 4, 3) := by decide +kernel
theorem dX5_later_42 : decode cX5_later 42 = .ok (.iload_n 2, 1) := by decide +kernel
theorem dX5_later_43 : decode cX5_later 43 = .ok (.istore_n 2, 1) := by decide +kernel
theorem dX5_later_44 : decode cX5_later 44 = .ok (.iinc 3 1, 3) := by decide +kernel
theorem dX5_later_47 : decode cX5_later 47 = .ok (.goto (-42), 3) := by decide +kernel
theorem dX5_later_50 : decode cX5_later 50 = .ok (.iconst 0, 1) := by decide +kernel
theorem dX5_later_51 : decode cX5_later 51 = .ok (.istore_n 3, 1) := by decide +kernel
theorem dX5_later_52 : decode cX5_later 52 = .ok (.iload_n 3, 1) := by decide +kernel
theorem dX5_later_53 : decode cX5_later 53 = .ok (.aload_n 0, 1) := by decide +kernel
theorem dX5_later_54 : decode cX5_later 54 = .ok (.getfield 86, 3) := by decide +kernel
theorem dX5_later_57 : decode cX5_later 57 = .ok (.if_icmp .ge 40, 3) := by decide +kernel
theorem dX5_later_60 : decode cX5_later 60 = .ok (.aload_n 0, 1) := by decide +kernel
theorem dX5_later_61 : decode cX5_later 61 = .ok (.getfield 56, 3) := by decide +kernel
theorem dX5_later_64 : decode cX5_later 64 = .ok (.iload_n 3, 1) := by decide +kernel
theorem dX5_later_65 : decode cX5_later 65 = .ok (.iaload, 1) := by decide +kernel
theorem dX5_later_66 : decode cX5_later 66 = .ok (.iload_n 1, 1) := by decide +kernel
theorem dX5_later_67 : decode cX5_later 67 = .ok (.if_icmp .le 22, 3) := by decide +kernel
theorem dX5_later_70 : decode cX5_later 70 = .ok (.aload_n 0, 1) := by decide +kernel
theorem dX5_later_71 : decode cX5_later 71 = .ok (.getfield 56, 3) := by decide +kernel
theorem dX5_later_74 : decode cX5_later 74 = .ok (.iload_n 3, 1) := by decide +kernel
theorem dX5_later_75 : decode cX5_later 75 = .ok (.iaload, 1) := by decide +kernel
theorem dX5_later_76 : decode cX5_later 76 = .ok (.iload_n 2, 1) := by decide +kernel
theorem dX5_later_77 : decode cX5_later 77 = .ok (.if_icmp .ge 12, 3) := by decide +kernel
theorem dX5_later_80 : decode cX5_later 80 = .ok (.aload_n 0, 1) := by decide +kernel
theorem dX5_later_81 : decode cX5_later 81 = .ok (.getfield 56, 3) := by decide +kernel
theorem dX5_later_84 : decode cX5_later 84 = .ok (.iload_n 3, 1) := by decide +kernel
theorem dX5_later_85 : decode cX5_later 85 = .ok (.iaload, 1) := by decide +kernel
theorem dX5_later_86 : decode cX5_later 86 = .ok (.goto 4, 3) := by decide +kernel
theorem dX5_later_89 : decode cX5_later 89 = .ok (.iload_n 2, 1) := by decide +kernel
theorem dX5_later_90 : decode cX5_later 90 = .ok (.istore_n 2, 1) := by decide +kernel
theorem dX5_later_91 : decode cX5_later 91 = .ok (.iinc 3 1, 3) := by decide +kernel
theorem dX5_later_94 : decode cX5_later 94 = .ok (.goto (-42), 3) := by decide +kernel
theorem dX5_later_97 : decode cX5_later 97 = .ok (.iload_n 2, 1) := by decide +kernel
theorem dX5_later_98 : decode cX5_later 98 = .ok (.ireturn, 1) := by decide +kernel
set_option maxRecDepth 20000 in
theorem ggX5_play_X5_draw : GoodIn wsX5_play wsX5_draw := goodIn_r _ [13, 14, 15, 16, 17, 18, 7, 19, 20, 21, 22, 23, 12, 24, 25, 26, 27, 28, 29, 30, 31, 32, 61, 62, 63, 64, 65, 66, 67, 68, 69, 70, 71, 72, 73, 74, 75, 76, 77, 78, 79, 80, 81, 82, 83, 84] (by decide +kernel) (by decide +kernel)
set_option maxRecDepth 20000 in
theorem gX5_play_X5_draw : GoodIn wsX5_play (wsV RX5 118 RX5 yX5_draw wsX5_draw) := goodIn_app (goodIn_of _ (by decide +kernel)) ggX5_play_X5_draw
set_option maxRecDepth 20000 in
theorem ggX5_play_X5_next : GoodIn wsX5_play wsX5_next := goodIn_r _ [36, 14, 19, 16, 17, 61, 62, 63, 64, 65, 66, 67, 68, 69, 70, 71, 72, 73, 74, 75, 76, 77, 78, 79, 80, 81, 82, 83, 84] (by decide +kernel) (by decide +kernel)
set_option maxRecDepth 20000 in
theorem gX5_play_X5_next : GoodIn wsX5_play (wsV RX5 122 RX5 yX5_next wsX5_next) := goodIn_app (goodIn_of _ (by decide +kernel)) ggX5_play_X5_next
set_option maxRecDepth 20000 in
theorem ggX5_play_X5_nearest : GoodIn wsX5_play wsX5_nearest := goodIn_r _ [40, 6, 3, 4, 1, 41, 42, 43, 12, 44, 45, 46, 47, 48, 49, 50, 51, 52, 61, 62, 63, 64, 65, 66, 67, 68, 69, 70, 71, 72, 73, 74, 75, 76, 77, 78, 79, 80, 81, 82, 83, 84] (by decide +kernel) (by decide +kernel)
set_option maxRecDepth 20000 in
theorem gX5_play_X5_nearest : GoodIn wsX5_play (wsV RX5 125 RX5 yX5_nearest wsX5_nearest) := goodIn_app (goodIn_of _ (by decide +kernel)) ggX5_play_X5_nearest
set_option maxRecDepth 20000 in
theorem ggX5_play_X5_wayOf : GoodIn wsX5_play wsX5_wayOf := goodIn_r _ [44, 45, 46, 47, 48, 49, 50, 51, 12, 52, 61, 62, 63, 64, 65, 66, 67, 68, 69, 70, 71, 72, 73, 74, 75, 76, 77, 78, 79, 80, 81, 82, 83, 84] (by decide +kernel) (by decide +kernel)
set_option maxRecDepth 20000 in
theorem gX5_play_X5_wayOf : GoodIn wsX5_play (wsV RX5 114 RX5 yX5_wayOf wsX5_wayOf) := goodIn_app (goodIn_of _ (by decide +kernel)) ggX5_play_X5_wayOf
set_option maxRecDepth 20000 in
theorem ggX5_play_X5_send : GoodIn wsX5_play wsX5_send := goodIn_r _ [56, 19, 21, 20, 1, 18, 2, 5, 61, 62, 63, 64, 65, 66, 67, 68, 69, 70, 71, 72, 73, 74, 75, 76, 77, 78, 79, 80, 81, 82, 83, 84] (by decide +kernel) (by decide +kernel)
set_option maxRecDepth 20000 in
theorem gX5_play_X5_send : GoodIn wsX5_play (wsV RX5 128 RX5 yX5_send wsX5_send) := goodIn_app (goodIn_of _ (by decide +kernel)) ggX5_play_X5_send
set_option maxRecDepth 20000 in
theorem ggX5_play_X5_later : GoodIn wsX5_play wsX5_later := goodIn_r _ [60, 6, 14, 16, 3, 1, 61, 62, 63, 64, 65, 66, 67, 68, 69, 70, 71, 72, 73, 74, 75, 76, 77, 78, 79, 80, 81, 82, 83, 84] (by decide +kernel) (by decide +kernel)
set_option maxRecDepth 20000 in
theorem gX5_play_X5_later : GoodIn wsX5_play (wsV RX5 132 RX5 yX5_later wsX5_later) := goodIn_app (goodIn_of _ (by decide +kernel)) ggX5_play_X5_later
theorem dX5_play_0 : decode cX5_play 0 = .ok (.aload_n 0, 1) := by decide +kernel
theorem dX5_play_1 : decode cX5_play 1 = .ok (.iload_n 2, 1) := by decide +kernel
theorem dX5_play_2 : decode cX5_play 2 = .ok (.iload_n 3, 1) := by decide +kernel
theorem dX5_play_3 : decode cX5_play 3 = .ok (.iload 4, 2) := by decide +kernel
theorem dX5_play_5 : decode cX5_play 5 = .ok (.invokevirtual 118, 3) := by decide +kernel
theorem dX5_play_8 : decode cX5_play 8 = .ok (.iconst 0, 1) := by decide +kernel
theorem dX5_play_9 : decode cX5_play 9 = .ok (.istore 5, 2) := by decide +kernel
theorem dX5_play_11 : decode cX5_play 11 = .ok (.iconst 0, 1) := by decide +kernel
theorem dX5_play_12 : decode cX5_play 12 = .ok (.istore 6, 2) := by decide +kernel
theorem dX5_play_14 : decode cX5_play 14 = .ok (.iload 6, 2) := by decide +kernel
theorem dX5_play_16 : decode cX5_play 16 = .ok (.bipush 12, 2) := by decide +kernel
theorem dX5_play_18 : decode cX5_play 18 = .ok (.if_icmp .ge 59, 3) := by decide +kernel
theorem dX5_play_21 : decode cX5_play 21 = .ok (.aload_n 0, 1) := by decide +kernel
theorem dX5_play_22 : decode cX5_play 22 = .ok (.getfield 56, 3) := by decide +kernel
theorem dX5_play_25 : decode cX5_play 25 = .ok (.iload 6, 2) := by decide +kernel
theorem dX5_play_27 : decode cX5_play 27 = .ok (.iconst 0, 1) := by decide +kernel
theorem dX5_play_28 : decode cX5_play 28 = .ok (.iastore, 1) := by decide +kernel
theorem dX5_play_29 : decode cX5_play 29 = .ok (.aload_n 0, 1) := by decide +kernel
theorem dX5_play_30 : decode cX5_play 30 = .ok (.getfield 59, 3) := by decide +kernel
theorem dX5_play_33 : decode cX5_play 33 = .ok (.iload 6, 2) := by decide +kernel
theorem dX5_play_35 : decode cX5_play 35 = .ok (.iconst 0, 1) := by decide +kernel
theorem dX5_play_36 : decode cX5_play 36 = .ok (.iastore, 1) := by decide +kernel
theorem dX5_play_37 : decode cX5_play 37 = .ok (.iload 5, 2) := by decide +kernel
theorem dX5_play_39 : decode cX5_play 39 = .ok (.iload 6, 2) := by decide +kernel
theorem dX5_play_41 : decode cX5_play 41 = .ok (.aload_n 0, 1) := by decide +kernel
theorem dX5_play_42 : decode cX5_play 42 = .ok (.getfield 86, 3) := by decide +kernel
theorem dX5_play_45 : decode cX5_play 45 = .ok (.if_icmp .ge 22, 3) := by decide +kernel
theorem dX5_play_48 : decode cX5_play 48 = .ok (.aload_n 0, 1) := by decide +kernel
theorem dX5_play_49 : decode cX5_play 49 = .ok (.getfield 32, 3) := by decide +kernel
theorem dX5_play_52 : decode cX5_play 52 = .ok (.bipush 12, 2) := by decide +kernel
theorem dX5_play_54 : decode cX5_play 54 = .ok (.iload_n 1, 1) := by decide +kernel
theorem dX5_play_55 : decode cX5_play 55 = .ok (.imul, 1) := by decide +kernel
theorem dX5_play_56 : decode cX5_play 56 = .ok (.iload 6, 2) := by decide +kernel
theorem dX5_play_58 : decode cX5_play 58 = .ok (.iadd, 1) := by decide +kernel
theorem dX5_play_59 : decode cX5_play 59 = .ok (.iaload, 1) := by decide +kernel
theorem dX5_play_60 : decode cX5_play 60 = .ok (.ifCond .lt 7, 3) := by decide +kernel
theorem dX5_play_63 : decode cX5_play 63 = .ok (.iconst 1, 1) := by decide +kernel
theorem dX5_play_64 : decode cX5_play 64 = .ok (.goto 4, 3) := by decide +kernel
theorem dX5_play_67 : decode cX5_play 67 = .ok (.iconst 0, 1) := by decide +kernel
theorem dX5_play_68 : decode cX5_play 68 = .ok (.iadd, 1) := by decide +kernel
theorem dX5_play_69 : decode cX5_play 69 = .ok (.istore 5, 2) := by decide +kernel
theorem dX5_play_71 : decode cX5_play 71 = .ok (.iinc 6 1, 3) := by decide +kernel
theorem dX5_play_74 : decode cX5_play 74 = .ok (.goto (-60), 3) := by decide +kernel
theorem dX5_play_77 : decode cX5_play 77 = .ok (.iconst 0, 1) := by decide +kernel
theorem dX5_play_78 : decode cX5_play 78 = .ok (.istore 6, 2) := by decide +kernel
theorem dX5_play_80 : decode cX5_play 80 = .ok (.iload 6, 2) := by decide +kernel
theorem dX5_play_82 : decode cX5_play 82 = .ok (.sipush 1440, 3) := by decide +kernel
theorem dX5_play_85 : decode cX5_play 85 = .ok (.if_icmp .ge 17, 3) := by decide +kernel
theorem dX5_play_88 : decode cX5_play 88 = .ok (.aload_n 0, 1) := by decide +kernel
theorem dX5_play_89 : decode cX5_play 89 = .ok (.getfield 62, 3) := by decide +kernel
theorem dX5_play_92 : decode cX5_play 92 = .ok (.iload 6, 2) := by decide +kernel
theorem dX5_play_94 : decode cX5_play 94 = .ok (.iconst 0, 1) := by decide +kernel
theorem dX5_play_95 : decode cX5_play 95 = .ok (.iastore, 1) := by decide +kernel
theorem dX5_play_96 : decode cX5_play 96 = .ok (.iinc 6 1, 3) := by decide +kernel
theorem dX5_play_99 : decode cX5_play 99 = .ok (.goto (-19), 3) := by decide +kernel
theorem dX5_play_102 : decode cX5_play 102 = .ok (.iconst 0, 1) := by decide +kernel
theorem dX5_play_103 : decode cX5_play 103 = .ok (.istore 6, 2) := by decide +kernel
theorem dX5_play_105 : decode cX5_play 105 = .ok (.iload 6, 2) := by decide +kernel
theorem dX5_play_107 : decode cX5_play 107 = .ok (.ldc 113, 2) := by decide +kernel
theorem dX5_play_109 : decode cX5_play 109 = .ok (.if_icmp .ge 88, 3) := by decide +kernel
theorem dX5_play_112 : decode cX5_play 112 = .ok (.aload_n 0, 1) := by decide +kernel
theorem dX5_play_113 : decode cX5_play 113 = .ok (.iload 6, 2) := by decide +kernel
theorem dX5_play_115 : decode cX5_play 115 = .ok (.invokevirtual 122, 3) := by decide +kernel
theorem dX5_play_118 : decode cX5_play 118 = .ok (.istore 7, 2) := by decide +kernel
theorem dX5_play_120 : decode cX5_play 120 = .ok (.iload 7, 2) := by decide +kernel
theorem dX5_play_122 : decode cX5_play 122 = .ok (.ifCond .ge 7, 3) := by decide +kernel
theorem dX5_play_125 : decode cX5_play 125 = .ok (.iconst (-1), 1) := by decide +kernel
theorem dX5_play_126 : decode cX5_play 126 = .ok (.goto 17, 3) := by decide +kernel
theorem dX5_play_129 : decode cX5_play 129 = .ok (.aload_n 0, 1) := by decide +kernel
theorem dX5_play_130 : decode cX5_play 130 = .ok (.iload_n 1, 1) := by decide +kernel
theorem dX5_play_131 : decode cX5_play 131 = .ok (.aload_n 0, 1) := by decide +kernel
theorem dX5_play_132 : decode cX5_play 132 = .ok (.getfield 38, 3) := by decide +kernel
theorem dX5_play_135 : decode cX5_play 135 = .ok (.iload 7, 2) := by decide +kernel
theorem dX5_play_137 : decode cX5_play 137 = .ok (.iaload, 1) := by decide +kernel
theorem dX5_play_138 : decode cX5_play 138 = .ok (.iload 6, 2) := by decide +kernel
theorem dX5_play_140 : decode cX5_play 140 = .ok (.invokevirtual 125, 3) := by decide +kernel
theorem dX5_play_143 : decode cX5_play 143 = .ok (.istore 8, 2) := by decide +kernel
theorem dX5_play_145 : decode cX5_play 145 = .ok (.iload 8, 2) := by decide +kernel
theorem dX5_play_147 : decode cX5_play 147 = .ok (.ifCond .lt 39, 3) := by decide +kernel
theorem dX5_play_150 : decode cX5_play 150 = .ok (.aload_n 0, 1) := by decide +kernel
theorem dX5_play_151 : decode cX5_play 151 = .ok (.iload 7, 2) := by decide +kernel
theorem dX5_play_153 : decode cX5_play 153 = .ok (.iload 8, 2) := by decide +kernel
theorem dX5_play_155 : decode cX5_play 155 = .ok (.aload_n 0, 1) := by decide +kernel
theorem dX5_play_156 : decode cX5_play 156 = .ok (.aload_n 0, 1) := by decide +kernel
theorem dX5_play_157 : decode cX5_play 157 = .ok (.getfield 32, 3) := by decide +kernel
theorem dX5_play_160 : decode cX5_play 160 = .ok (.bipush 12, 2) := by decide +kernel
theorem dX5_play_162 : decode cX5_play 162 = .ok (.iload_n 1, 1) := by decide +kernel
theorem dX5_play_163 : decode cX5_play 163 = .ok (.imul, 1) := by decide +kernel
theorem dX5_play_164 : decode cX5_play 164 = .ok (.iload 8, 2) := by decide +kernel
theorem dX5_play_166 : decode cX5_play 166 = .ok (.iadd, 1) := by decide +kernel
theorem dX5_play_167 : decode cX5_play 167 = .ok (.iaload, 1) := by decide +kernel
theorem dX5_play_168 : decode cX5_play 168 = .ok (.aload_n 0, 1) := by decide +kernel
theorem dX5_play_169 : decode cX5_play 169 = .ok (.getfield 38, 3) := by decide +kernel
theorem dX5_play_172 : decode cX5_play 172 = .ok (.iload 7, 2) := by decide +kernel
theorem dX5_play_174 : decode cX5_play 174 = .ok (.iaload, 1) := by decide +kernel
theorem dX5_play_175 : decode cX5_play 175 = .ok (.invokevirtual 114, 3) := by decide +kernel
theorem dX5_play_178 : decode cX5_play 178 = .ok (.iload 6, 2) := by decide +kernel
theorem dX5_play_180 : decode cX5_play 180 = .ok (.invokevirtual 128, 3) := by decide +kernel
theorem dX5_play_183 : decode cX5_play 183 = .ok (.goto 11, 3) := by decide +kernel
theorem dX5_play_186 : decode cX5_play 186 = .ok (.aload_n 0, 1) := by decide +kernel
theorem dX5_play_187 : decode cX5_play 187 = .ok (.iload 6, 2) := by decide +kernel
theorem dX5_play_189 : decode cX5_play 189 = .ok (.invokevirtual 132, 3) := by decide +kernel
theorem dX5_play_192 : decode cX5_play 192 = .ok (.istore 6, 2) := by decide +kernel
theorem dX5_play_194 : decode cX5_play 194 = .ok (.goto (-89), 3) := by decide +kernel
theorem dX5_play_197 : decode cX5_play 197 = .ok (.aload_n 0, 1) := by decide +kernel
theorem dX5_play_198 : decode cX5_play 198 = .ok (.iconst 0, 1) := by decide +kernel
theorem dX5_play_199 : decode cX5_play 199 = .ok (.putfield 135, 3) := by decide +kernel
theorem dX5_play_202 : decode cX5_play 202 = .ok (.iconst 0, 1) := by decide +kernel
theorem dX5_play_203 : decode cX5_play 203 = .ok (.istore 7, 2) := by decide +kernel
theorem dX5_play_205 : decode cX5_play 205 = .ok (.iload 7, 2) := by decide +kernel
theorem dX5_play_207 : decode cX5_play 207 = .ok (.sipush 1440, 3) := by decide +kernel
theorem dX5_play_210 : decode cX5_play 210 = .ok (.if_icmp .ge 35, 3) := by decide +kernel
theorem dX5_play_213 : decode cX5_play 213 = .ok (.aload_n 0, 1) := by decide +kernel
theorem dX5_play_214 : decode cX5_play 214 = .ok (.dup, 1) := by decide +kernel
theorem dX5_play_215 : decode cX5_play 215 = .ok (.getfield 135, 3) := by decide +kernel
theorem dX5_play_218 : decode cX5_play 218 = .ok (.aload_n 0, 1) := by decide +kernel
theorem dX5_play_219 : decode cX5_play 219 = .ok (.getfield 62, 3) := by decide +kernel
theorem dX5_play_222 : decode cX5_play 222 = .ok (.iload 7, 2) := by decide +kernel
theorem dX5_play_224 : decode cX5_play 224 = .ok (.iaload, 1) := by decide +kernel
theorem dX5_play_225 : decode cX5_play 225 = .ok (.iload 5, 2) := by decide +kernel
theorem dX5_play_227 : decode cX5_play 227 = .ok (.if_icmp .ne 7, 3) := by decide +kernel
theorem dX5_play_230 : decode cX5_play 230 = .ok (.iconst 1, 1) := by decide +kernel
theorem dX5_play_231 : decode cX5_play 231 = .ok (.goto 4, 3) := by decide +kernel
theorem dX5_play_234 : decode cX5_play 234 = .ok (.iconst 0, 1) := by decide +kernel
theorem dX5_play_235 : decode cX5_play 235 = .ok (.iadd, 1) := by decide +kernel
theorem dX5_play_236 : decode cX5_play 236 = .ok (.putfield 135, 3) := by decide +kernel
theorem dX5_play_239 : decode cX5_play 239 = .ok (.iinc 7 1, 3) := by decide +kernel
theorem dX5_play_242 : decode cX5_play 242 = .ok (.goto (-37), 3) := by decide +kernel
theorem dX5_play_245 : decode cX5_play 245 = .ok (.return_, 1) := by decide +kernel
theorem dX5_forget_0 : decode cX5_forget 0 = .ok (.aload_n 0, 1) := by decide +kernel
theorem dX5_forget_1 : decode cX5_forget 1 = .ok (.iconst 0, 1) := by decide +kernel
theorem dX5_forget_2 : decode cX5_forget 2 = .ok (.putfield 99, 3) := by decide +kernel
theorem dX5_forget_5 : decode cX5_forget 5 = .ok (.aload_n 0, 1) := by decide +kernel
theorem dX5_forget_6 : decode cX5_forget 6 = .ok (.iconst 0, 1) := by decide +kernel
theorem dX5_forget_7 : decode cX5_forget 7 = .ok (.putfield 135, 3) := by decide +kernel
theorem dX5_forget_10 : decode cX5_forget 10 = .ok (.iconst 0, 1) := by decide +kernel
theorem dX5_forget_11 : decode cX5_forget 11 = .ok (.istore_n 1, 1) := by decide +kernel
theorem dX5_forget_12 : decode cX5_forget 12 = .ok (.iload_n 1, 1) := by decide +kernel
theorem dX5_forget_13 : decode cX5_forget 13 = .ok (.bipush 12, 2) := by decide +kernel
theorem dX5_forget_15 : decode cX5_forget 15 = .ok (.if_icmp .ge 16, 3) := by decide +kernel
theorem dX5_forget_18 : decode cX5_forget 18 = .ok (.aload_n 0, 1) := by decide +kernel
theorem dX5_forget_19 : decode cX5_forget 19 = .ok (.getfield 59, 3) := by decide +kernel
theorem dX5_forget_22 : decode cX5_forget 22 = .ok (.iload_n 1, 1) := by decide +kernel
theorem dX5_forget_23 : decode cX5_forget 23 = .ok (.iconst 0, 1) := by decide +kernel
theorem dX5_forget_24 : decode cX5_forget 24 = .ok (.iastore, 1) := by decide +kernel
theorem dX5_forget_25 : decode cX5_forget 25 = .ok (.iinc 1 1, 3) := by decide +kernel
theorem dX5_forget_28 : decode cX5_forget 28 = .ok (.goto (-16), 3) := by decide +kernel
theorem dX5_forget_31 : decode cX5_forget 31 = .ok (.return_, 1) := by decide +kernel
theorem dX5_isLate_0 : decode cX5_isLate 0 = .ok (.aload_n 0, 1) := by decide +kernel
theorem dX5_isLate_1 : decode cX5_isLate 1 = .ok (.getfield 47, 3) := by decide +kernel
theorem dX5_isLate_4 : decode cX5_isLate 4 = .ok (.iload_n 1, 1) := by decide +kernel
theorem dX5_isLate_5 : decode cX5_isLate 5 = .ok (.iaload, 1) := by decide +kernel
theorem dX5_isLate_6 : decode cX5_isLate 6 = .ok (.ifCond .lt 23, 3) := by decide +kernel
theorem dX5_isLate_9 : decode cX5_isLate 9 = .ok (.aload_n 0, 1) := by decide +kernel
theorem dX5_isLate_10 : decode cX5_isLate 10 = .ok (.getfield 50, 3) := by decide +kernel
theorem dX5_isLate_13 : decode cX5_isLate 13 = .ok (.iload_n 1, 1) := by decide +kernel
theorem dX5_isLate_14 : decode cX5_isLate 14 = .ok (.iaload, 1) := by decide +kernel
theorem dX5_isLate_15 : decode cX5_isLate 15 = .ok (.aload_n 0, 1) := by decide +kernel
theorem dX5_isLate_16 : decode cX5_isLate 16 = .ok (.getfield 35, 3) := by decide +kernel
theorem dX5_isLate_19 : decode cX5_isLate 19 = .ok (.iload_n 1, 1) := by decide +kernel
theorem dX5_isLate_20 : decode cX5_isLate 20 = .ok (.iaload, 1) := by decide +kernel
theorem dX5_isLate_21 : decode cX5_isLate 21 = .ok (.isub, 1) := by decide +kernel
theorem dX5_isLate_22 : decode cX5_isLate 22 = .ok (.aload_n 0, 1) := by decide +kernel
theorem dX5_isLate_23 : decode cX5_isLate 23 = .ok (.getfield 13, 3) := by decide +kernel
theorem dX5_isLate_26 : decode cX5_isLate 26 = .ok (.if_icmp .le 7, 3) := by decide +kernel
theorem dX5_isLate_29 : decode cX5_isLate 29 = .ok (.iconst 1, 1) := by decide +kernel
theorem dX5_isLate_30 : decode cX5_isLate 30 = .ok (.goto 4, 3) := by decide +kernel
theorem dX5_isLate_33 : decode cX5_isLate 33 = .ok (.iconst 0, 1) := by decide +kernel
theorem dX5_isLate_34 : decode cX5_isLate 34 = .ok (.ireturn, 1) := by decide +kernel
set_option maxRecDepth 20000 in
theorem ggX5_late_X5_isLate : GoodIn wsX5_late wsX5_isLate := goodIn_r _ [6, 7, 8, 9, 10, 11, 12, 13, 14, 15, 16, 17, 18, 19, 20, 21, 22, 23, 24, 25, 26, 27, 28, 29, 30, 31, 32, 33, 34] (by decide +kernel) (by decide +kernel)
set_option maxRecDepth 20000 in
theorem gX5_late_X5_isLate : GoodIn wsX5_late (wsV RX5 138 RX5 yX5_isLate wsX5_isLate) := goodIn_app (goodIn_of _ (by decide +kernel)) ggX5_late_X5_isLate
theorem dX5_late_0 : decode cX5_late 0 = .ok (.iconst 0, 1) := by decide +kernel
theorem dX5_late_1 : decode cX5_late 1 = .ok (.istore_n 1, 1) := by decide +kernel
theorem dX5_late_2 : decode cX5_late 2 = .ok (.iconst 0, 1) := by decide +kernel
theorem dX5_late_3 : decode cX5_late 3 = .ok (.istore_n 2, 1) := by decide +kernel
theorem dX5_late_4 : decode cX5_late 4 = .ok (.iload_n 2, 1) := by decide +kernel
theorem dX5_late_5 : decode cX5_late 5 = .ok (.aload_n 0, 1) := by decide +kernel
theorem dX5_late_6 : decode cX5_late 6 = .ok (.getfield 99, 3) := by decide +kernel
theorem dX5_late_9 : decode cX5_late 9 = .ok (.if_icmp .ge 25, 3) := by decide +kernel
theorem dX5_late_12 : decode cX5_late 12 = .ok (.iload_n 1, 1) := by decide +kernel
theorem dX5_late_13 : decode cX5_late 13 = .ok (.aload_n 0, 1) := by decide +kernel
theorem dX5_late_14 : decode cX5_late 14 = .ok (.iload_n 2, 1) := by decide +kernel
theorem dX5_late_15 : decode cX5_late 15 = .ok (.invokevirtual 138, 3) := by decide +kernel
theorem dX5_late_18 : decode cX5_late 18 = .ok (.ifCond .eq 7, 3) := by decide +kernel
theorem dX5_late_21 : decode cX5_late 21 = .ok (.iconst 1, 1) := by decide +kernel
theorem dX5_late_22 : decode cX5_late 22 = .ok (.goto 4, 3) := by decide +kernel
theorem dX5_late_25 : decode cX5_late 25 = .ok (.iconst 0, 1) := by decide +kernel
theorem dX5_late_26 : decode cX5_late 26 = .ok (.iadd, 1) := by decide +kernel
theorem dX5_late_27 : decode cX5_late 27 = .ok (.istore_n 1, 1) := by decide +kernel
theorem dX5_late_28 : decode cX5_late 28 = .ok (.iinc 2 1, 3) := by decide +kernel
theorem dX5_late_31 : decode cX5_late 31 = .ok (.goto (-27), 3) := by decide +kernel
theorem dX5_late_34 : decode cX5_late 34 = .ok (.iload_n 1, 1) := by decide +kernel
theorem dX5_late_35 : decode cX5_late 35 = .ok (.ireturn, 1) := by decide +kernel
set_option maxRecDepth 20000 in
theorem ggX5_isDay_X5_in : GoodIn wsX5_isDay wsX5_in := goodIn_r _ [4] (by decide +kernel) (by decide +kernel)
set_option maxRecDepth 20000 in
theorem gX5_isDay_X5_in : GoodIn wsX5_isDay (va_wsS RX5 68 yX5_in wsX5_in) := goodIn_app (goodIn_of _ (by decide +kernel)) ggX5_isDay_X5_in
theorem dX5_isDay_0 : decode cX5_isDay 0 = .ok (.iload_n 0, 1) := by decide +kernel
theorem dX5_isDay_1 : decode cX5_isDay 1 = .ok (.iconst 0, 1) := by decide +kernel
theorem dX5_isDay_2 : decode cX5_isDay 2 = .ok (.sipush 999, 3) := by decide +kernel
theorem dX5_isDay_5 : decode cX5_isDay 5 = .ok (.invokestatic 68, 3) := by decide +kernel
theorem dX5_isDay_8 : decode cX5_isDay 8 = .ok (.ireturn, 1) := by decide +kernel
set_option maxRecDepth 20000 in
theorem ggX5_run_X5_in : GoodIn wsX5_run wsX5_in := goodIn_r _ [5] (by decide +kernel) (by decide +kernel)
set_option maxRecDepth 20000 in
theorem gX5_run_X5_in : GoodIn wsX5_run (va_wsS RX5 68 yX5_in wsX5_in) := goodIn_app (goodIn_of _ (by decide +kernel)) ggX5_run_X5_in
set_option maxRecDepth 20000 in
theorem ggX5_run_X5_isDay : GoodIn wsX5_run wsX5_isDay := goodIn_r _ [8, 2, 3, 4, 5] (by decide +kernel) (by decide +kernel)
set_option maxRecDepth 20000 in
theorem gX5_run_X5_isDay : GoodIn wsX5_run (va_wsS RX5 141 yX5_isDay wsX5_isDay) := goodIn_app (goodIn_of _ (by decide +kernel)) ggX5_run_X5_isDay
set_option maxRecDepth 20000 in
theorem ggX5_run_X5_throwing : GoodIn wsX5_run wsX5_throwing := goodIn_r _ [12, 13, 85, 86, 87, 88, 89, 90, 91, 92, 93, 94, 95, 96, 97, 98, 99, 100, 101, 102, 103, 104, 105, 106, 107, 108] (by decide +kernel) (by decide +kernel)
set_option maxRecDepth 20000 in
theorem gX5_run_X5_throwing : GoodIn wsX5_run (wsV RX5 79 RX5 yX5_throwing wsX5_throwing) := goodIn_app (goodIn_of _ (by decide +kernel)) ggX5_run_X5_throwing
set_option maxRecDepth 20000 in
theorem ggX5_run_X5_play : GoodIn wsX5_run wsX5_play := goodIn_r _ [17, 18, 19, 20, 21, 22, 23, 24, 25, 26, 27, 28, 4, 29, 30, 31, 32, 33, 34, 35, 36, 37, 38, 39, 40, 41, 42, 43, 44, 45, 46, 1, 47, 48, 49, 50, 51, 52, 53, 54, 55, 56, 57, 58, 59, 60, 61, 62, 63, 64, 65, 66, 67, 68, 69, 70, 71, 72, 73, 74, 75, 85, 86, 87, 88, 89, 90, 91, 92, 93, 94, 95, 96, 97, 98, 99, 100, 101, 102, 103, 104, 105, 106, 107, 108] (by decide +kernel) (by decide +kernel)
set_option maxRecDepth 20000 in
theorem gX5_run_X5_play : GoodIn wsX5_run (wsV RX5 144 RX5 yX5_play wsX5_play) := goodIn_app (goodIn_of _ (by decide +kernel)) ggX5_run_X5_play
set_option maxRecDepth 20000 in
theorem ggX5_run_X5_late : GoodIn wsX5_run wsX5_late := goodIn_r _ [79, 30, 80, 81, 82, 4, 83, 35, 36, 32, 84, 85, 86, 87, 88, 89, 90, 91, 92, 93, 94, 95, 96, 97, 98, 99, 100, 101, 102, 103, 104, 105, 106, 107, 108] (by decide +kernel) (by decide +kernel)
set_option maxRecDepth 20000 in
theorem gX5_run_X5_late : GoodIn wsX5_run (wsV RX5 147 RX5 yX5_late wsX5_late) := goodIn_app (goodIn_of _ (by decide +kernel)) ggX5_run_X5_late
theorem dX5_run_0 : decode cX5_run 0 = .ok (.aload_n 0, 1) := by decide +kernel
theorem dX5_run_1 : decode cX5_run 1 = .ok (.iload_n 1, 1) := by decide +kernel
theorem dX5_run_2 : decode cX5_run 2 = .ok (.iconst 0, 1) := by decide +kernel
theorem dX5_run_3 : decode cX5_run 3 = .ok (.iconst 3, 1) := by decide +kernel
theorem dX5_run_4 : decode cX5_run 4 = .ok (.invokestatic 68, 3) := by decide +kernel
theorem dX5_run_7 : decode cX5_run 7 = .ok (.ifCond .ne 7, 3) := by decide +kernel
theorem dX5_run_10 : decode cX5_run 10 = .ok (.iconst 1, 1) := by decide +kernel
theorem dX5_run_11 : decode cX5_run 11 = .ok (.goto 4, 3) := by decide +kernel
theorem dX5_run_14 : decode cX5_run 14 = .ok (.iconst 0, 1) := by decide +kernel
theorem dX5_run_15 : decode cX5_run 15 = .ok (.iload_n 3, 1) := by decide +kernel
theorem dX5_run_16 : decode cX5_run 16 = .ok (.invokestatic 141, 3) := by decide +kernel
theorem dX5_run_19 : decode cX5_run 19 = .ok (.ifCond .eq 14, 3) := by decide +kernel
theorem dX5_run_22 : decode cX5_run 22 = .ok (.iload 4, 2) := by decide +kernel
theorem dX5_run_24 : decode cX5_run 24 = .ok (.iconst 0, 1) := by decide +kernel
theorem dX5_run_25 : decode cX5_run 25 = .ok (.bipush 60, 2) := by decide +kernel
theorem dX5_run_27 : decode cX5_run 27 = .ok (.invokestatic 68, 3) := by decide +kernel
theorem dX5_run_30 : decode cX5_run 30 = .ok (.ifCond .ne 7, 3) := by decide +kernel
theorem dX5_run_33 : decode cX5_run 33 = .ok (.iconst 1, 1) := by decide +kernel
theorem dX5_run_34 : decode cX5_run 34 = .ok (.goto 4, 3) := by decide +kernel
theorem dX5_run_37 : decode cX5_run 37 = .ok (.iconst 0, 1) := by decide +kernel
theorem dX5_run_38 : decode cX5_run 38 = .ok (.iload 4, 2) := by decide +kernel
theorem dX5_run_40 : decode cX5_run 40 = .ok (.ifCond .le 14, 3) := by decide +kernel
theorem dX5_run_43 : decode cX5_run 43 = .ok (.aload_n 0, 1) := by decide +kernel
theorem dX5_run_44 : decode cX5_run 44 = .ok (.getfield 83, 3) := by decide +kernel
theorem dX5_run_47 : decode cX5_run 47 = .ok (.ifCond .ne 7, 3) := by decide +kernel
theorem dX5_run_50 : decode cX5_run 50 = .ok (.iconst 1, 1) := by decide +kernel
theorem dX5_run_51 : decode cX5_run 51 = .ok (.goto 4, 3) := by decide +kernel
theorem dX5_run_54 : decode cX5_run 54 = .ok (.iconst 0, 1) := by decide +kernel
theorem dX5_run_55 : decode cX5_run 55 = .ok (.invokevirtual 79, 3) := by decide +kernel
theorem dX5_run_58 : decode cX5_run 58 = .ok (.ifCond .eq 5, 3) := by decide +kernel
theorem dX5_run_61 : decode cX5_run 61 = .ok (.iconst 0, 1) := by decide +kernel
theorem dX5_run_62 : decode cX5_run 62 = .ok (.ireturn, 1) := by decide +kernel
theorem dX5_run_63 : decode cX5_run 63 = .ok (.aload_n 0, 1) := by decide +kernel
theorem dX5_run_64 : decode cX5_run 64 = .ok (.iload_n 1, 1) := by decide +kernel
theorem dX5_run_65 : decode cX5_run 65 = .ok (.iload_n 2, 1) := by decide +kernel
theorem dX5_run_66 : decode cX5_run 66 = .ok (.iload_n 3, 1) := by decide +kernel
theorem dX5_run_67 : decode cX5_run 67 = .ok (.iload 4, 2) := by decide +kernel
theorem dX5_run_69 : decode cX5_run 69 = .ok (.invokevirtual 144, 3) := by decide +kernel
theorem dX5_run_72 : decode cX5_run 72 = .ok (.aload_n 0, 1) := by decide +kernel
theorem dX5_run_73 : decode cX5_run 73 = .ok (.invokevirtual 147, 3) := by decide +kernel
theorem dX5_run_76 : decode cX5_run 76 = .ok (.ireturn, 1) := by decide +kernel
set_option maxRecDepth 20000 in
theorem ggX5_reason_X5_isLate : GoodIn wsX5_reason wsX5_isLate := goodIn_r _ [8, 1, 9, 10, 3, 11, 12, 13, 14, 15, 16, 17, 18, 19, 20, 21, 22, 23, 24, 25, 26, 27, 28, 29, 30, 31, 32, 33, 34] (by decide +kernel) (by decide +kernel)
set_option maxRecDepth 20000 in
theorem gX5_reason_X5_isLate : GoodIn wsX5_reason (wsV RX5 138 RX5 yX5_isLate wsX5_isLate) := goodIn_app (goodIn_of _ (by decide +kernel)) ggX5_reason_X5_isLate
theorem dX5_reason_0 : decode cX5_reason 0 = .ok (.aload_n 0, 1) := by decide +kernel
theorem dX5_reason_1 : decode cX5_reason 1 = .ok (.iload_n 1, 1) := by decide +kernel
theorem dX5_reason_2 : decode cX5_reason 2 = .ok (.invokevirtual 138, 3) := by decide +kernel
theorem dX5_reason_5 : decode cX5_reason 5 = .ok (.ifCond .ne 5, 3) := by decide +kernel
theorem dX5_reason_8 : decode cX5_reason 8 = .ok (.iconst 0, 1) := by decide +kernel
theorem dX5_reason_9 : decode cX5_reason 9 = .ok (.ireturn, 1) := by decide +kernel
theorem dX5_reason_10 : decode cX5_reason 10 = .ok (.aload_n 0, 1) := by decide +kernel
theorem dX5_reason_11 : decode cX5_reason 11 = .ok (.getfield 47, 3) := by decide +kernel
theorem dX5_reason_14 : decode cX5_reason 14 = .ok (.iload_n 1, 1) := by decide +kernel
theorem dX5_reason_15 : decode cX5_reason 15 = .ok (.iaload, 1) := by decide +kernel
theorem dX5_reason_16 : decode cX5_reason 16 = .ok (.ifCond .ge 7, 3) := by decide +kernel
theorem dX5_reason_19 : decode cX5_reason 19 = .ok (.iconst 3, 1) := by decide +kernel
theorem dX5_reason_20 : decode cX5_reason 20 = .ok (.goto 21, 3) := by decide +kernel
theorem dX5_reason_23 : decode cX5_reason 23 = .ok (.aload_n 0, 1) := by decide +kernel
theorem dX5_reason_24 : decode cX5_reason 24 = .ok (.getfield 53, 3) := by decide +kernel
theorem dX5_reason_27 : decode cX5_reason 27 = .ok (.iload_n 1, 1) := by decide +kernel
theorem dX5_reason_28 : decode cX5_reason 28 = .ok (.iaload, 1) := by decide +kernel
theorem dX5_reason_29 : decode cX5_reason 29 = .ok (.aload_n 0, 1) := by decide +kernel
theorem dX5_reason_30 : decode cX5_reason 30 = .ok (.getfield 13, 3) := by decide +kernel
theorem dX5_reason_33 : decode cX5_reason 33 = .ok (.if_icmp .le 7, 3) := by decide +kernel
theorem dX5_reason_36 : decode cX5_reason 36 = .ok (.iconst 2, 1) := by decide +kernel
theorem dX5_reason_37 : decode cX5_reason 37 = .ok (.goto 4, 3) := by decide +kernel
theorem dX5_reason_40 : decode cX5_reason 40 = .ok (.iconst 1, 1) := by decide +kernel
theorem dX5_reason_41 : decode cX5_reason 41 = .ok (.ireturn, 1) := by decide +kernel
set_option maxRecDepth 20000 in
theorem ggX5_call_X5_in : GoodIn wsX5_call wsX5_in := goodIn_r _ [10] (by decide +kernel) (by decide +kernel)
set_option maxRecDepth 20000 in
theorem gX5_call_X5_in : GoodIn wsX5_call (va_wsS RX5 68 yX5_in wsX5_in) := goodIn_app (goodIn_of _ (by decide +kernel)) ggX5_call_X5_in
set_option maxRecDepth 20000 in
theorem ggX5_call_X5_throwing : GoodIn wsX5_call wsX5_throwing := goodIn_r _ [14, 15, 26, 27, 28, 29, 30, 31, 32, 33, 34, 35, 36, 37, 38, 39, 40, 41, 42, 43, 44, 45, 46, 47, 48, 49] (by decide +kernel) (by decide +kernel)
set_option maxRecDepth 20000 in
theorem gX5_call_X5_throwing : GoodIn wsX5_call (wsV RX5 79 RX5 yX5_throwing wsX5_throwing) := goodIn_app (goodIn_of _ (by decide +kernel)) ggX5_call_X5_throwing
set_option maxRecDepth 20000 in
theorem ggX5_call_X5_reason : GoodIn wsX5_call wsX5_reason := goodIn_r _ [19, 5, 20, 21, 22, 23, 24, 9, 25, 6, 2, 26, 27, 28, 29, 30, 31, 32, 33, 34, 35, 36, 37, 38, 39, 40, 41, 42, 43, 44, 45, 46, 47, 48, 49] (by decide +kernel) (by decide +kernel)
set_option maxRecDepth 20000 in
theorem gX5_call_X5_reason : GoodIn wsX5_call (wsV RX5 151 RX5 yX5_reason wsX5_reason) := goodIn_app (goodIn_of _ (by decide +kernel)) ggX5_call_X5_reason
theorem dX5_call_0 : decode cX5_call 0 = .ok (.aload_n 0, 1) := by decide +kernel
theorem dX5_call_1 : decode cX5_call 1 = .ok (.iload_n 1, 1) := by decide +kernel
theorem dX5_call_2 : decode cX5_call 2 = .ok (.iconst 0, 1) := by decide +kernel
theorem dX5_call_3 : decode cX5_call 3 = .ok (.aload_n 0, 1) := by decide +kernel
theorem dX5_call_4 : decode cX5_call 4 = .ok (.getfield 99, 3) := by decide +kernel
theorem dX5_call_7 : decode cX5_call 7 = .ok (.iconst 1, 1) := by decide +kernel
theorem dX5_call_8 : decode cX5_call 8 = .ok (.isub, 1) := by decide +kernel
theorem dX5_call_9 : decode cX5_call 9 = .ok (.invokestatic 68, 3) := by decide +kernel
theorem dX5_call_12 : decode cX5_call 12 = .ok (.ifCond .eq 12, 3) := by decide +kernel
theorem dX5_call_15 : decode cX5_call 15 = .ok (.iload_n 2, 1) := by decide +kernel
theorem dX5_call_16 : decode cX5_call 16 = .ok (.iconst 0, 1) := by decide +kernel
theorem dX5_call_17 : decode cX5_call 17 = .ok (.iconst 5, 1) := by decide +kernel
theorem dX5_call_18 : decode cX5_call 18 = .ok (.invokestatic 68, 3) := by decide +kernel
theorem dX5_call_21 : decode cX5_call 21 = .ok (.ifCond .ne 7, 3) := by decide +kernel
theorem dX5_call_24 : decode cX5_call 24 = .ok (.iconst 1, 1) := by decide +kernel
theorem dX5_call_25 : decode cX5_call 25 = .ok (.goto 4, 3) := by decide +kernel
theorem dX5_call_28 : decode cX5_call 28 = .ok (.iconst 0, 1) := by decide +kernel
theorem dX5_call_29 : decode cX5_call 29 = .ok (.iconst 0, 1) := by decide +kernel
theorem dX5_call_30 : decode cX5_call 30 = .ok (.iconst 0, 1) := by decide +kernel
theorem dX5_call_31 : decode cX5_call 31 = .ok (.invokevirtual 79, 3) := by decide +kernel
theorem dX5_call_34 : decode cX5_call 34 = .ok (.ifCond .eq 5, 3) := by decide +kernel
theorem dX5_call_37 : decode cX5_call 37 = .ok (.iconst 0, 1) := by decide +kernel
theorem dX5_call_38 : decode cX5_call 38 = .ok (.ireturn, 1) := by decide +kernel
theorem dX5_call_39 : decode cX5_call 39 = .ok (.iload_n 2, 1) := by decide +kernel
theorem dX5_call_40 : decode cX5_call 40 = .ok (.tableswitch 91 0 4 #[36, 43, 50, 57, 64], 36) := by decide +kernel
theorem dX5_call_76 : decode cX5_call 76 = .ok (.aload_n 0, 1) := by decide +kernel
theorem dX5_call_77 : decode cX5_call 77 = .ok (.getfield 35, 3) := by decide +kernel
theorem dX5_call_80 : decode cX5_call 80 = .ok (.iload_n 1, 1) := by decide +kernel
theorem dX5_call_81 : decode cX5_call 81 = .ok (.iaload, 1) := by decide +kernel
theorem dX5_call_82 : decode cX5_call 82 = .ok (.ireturn, 1) := by decide +kernel
theorem dX5_call_83 : decode cX5_call 83 = .ok (.aload_n 0, 1) := by decide +kernel
theorem dX5_call_84 : decode cX5_call 84 = .ok (.getfield 38, 3) := by decide +kernel
theorem dX5_call_87 : decode cX5_call 87 = .ok (.iload_n 1, 1) := by decide +kernel
theorem dX5_call_88 : decode cX5_call 88 = .ok (.iaload, 1) := by decide +kernel
theorem dX5_call_89 : decode cX5_call 89 = .ok (.ireturn, 1) := by decide +kernel
theorem dX5_call_90 : decode cX5_call 90 = .ok (.aload_n 0, 1) := by decide +kernel
theorem dX5_call_91 : decode cX5_call 91 = .ok (.getfield 41, 3) := by decide +kernel
theorem dX5_call_94 : decode cX5_call 94 = .ok (.iload_n 1, 1) := by decide +kernel
theorem dX5_call_95 : decode cX5_call 95 = .ok (.iaload, 1) := by decide +kernel
theorem dX5_call_96 : decode cX5_call 96 = .ok (.ireturn, 1) := by decide +kernel
theorem dX5_call_97 : decode cX5_call 97 = .ok (.aload_n 0, 1) := by decide +kernel
theorem dX5_call_98 : decode cX5_call 98 = .ok (.getfield 47, 3) := by decide +kernel
theorem dX5_call_101 : decode cX5_call 101 = .ok (.iload_n 1, 1) := by decide +kernel
theorem dX5_call_102 : decode cX5_call 102 = .ok (.iaload, 1) := by decide +kernel
theorem dX5_call_103 : decode cX5_call 103 = .ok (.ireturn, 1) := by decide +kernel
theorem dX5_call_104 : decode cX5_call 104 = .ok (.aload_n 0, 1) := by decide +kernel
theorem dX5_call_105 : decode cX5_call 105 = .ok (.getfield 47, 3) := by decide +kernel
theorem dX5_call_108 : decode cX5_call 108 = .ok (.iload_n 1, 1) := by decide +kernel
theorem dX5_call_109 : decode cX5_call 109 = .ok (.iaload, 1) := by decide +kernel
theorem dX5_call_110 : decode cX5_call 110 = .ok (.ifCond .ge 7, 3) := by decide +kernel
theorem dX5_call_113 : decode cX5_call 113 = .ok (.iconst (-1), 1) := by decide +kernel
theorem dX5_call_114 : decode cX5_call 114 = .ok (.goto 16, 3) := by decide +kernel
theorem dX5_call_117 : decode cX5_call 117 = .ok (.aload_n 0, 1) := by decide +kernel
theorem dX5_call_118 : decode cX5_call 118 = .ok (.getfield 50, 3) := by decide +kernel
theorem dX5_call_121 : decode cX5_call 121 = .ok (.iload_n 1, 1) := by decide +kernel
theorem dX5_call_122 : decode cX5_call 122 = .ok (.iaload, 1) := by decide +kernel
theorem dX5_call_123 : decode cX5_call 123 = .ok (.aload_n 0, 1) := by decide +kernel
theorem dX5_call_124 : decode cX5_call 124 = .ok (.getfield 35, 3) := by decide +kernel
theorem dX5_call_127 : decode cX5_call 127 = .ok (.iload_n 1, 1) := by decide +kernel
theorem dX5_call_128 : decode cX5_call 128 = .ok (.iaload, 1) := by decide +kernel
theorem dX5_call_129 : decode cX5_call 129 = .ok (.isub, 1) := by decide +kernel
theorem dX5_call_130 : decode cX5_call 130 = .ok (.ireturn, 1) := by decide +kernel
theorem dX5_call_131 : decode cX5_call 131 = .ok (.aload_n 0, 1) := by decide +kernel
theorem dX5_call_132 : decode cX5_call 132 = .ok (.iload_n 1, 1) := by decide +kernel
theorem dX5_call_133 : decode cX5_call 133 = .ok (.invokevirtual 151, 3) := by decide +kernel
theorem dX5_call_136 : decode cX5_call 136 = .ok (.ireturn, 1) := by decide +kernel
theorem dX5_common_0 : decode cX5_common 0 = .ok (.lload_n 0, 1) := by decide +kernel
theorem dX5_common_1 : decode cX5_common 1 = .ok (.lstore 4, 2) := by decide +kernel
theorem dX5_common_3 : decode cX5_common 3 = .ok (.lload_n 2, 1) := by decide +kernel
theorem dX5_common_4 : decode cX5_common 4 = .ok (.lstore 6, 2) := by decide +kernel
theorem dX5_common_6 : decode cX5_common 6 = .ok (.lload 6, 2) := by decide +kernel
theorem dX5_common_8 : decode cX5_common 8 = .ok (.lconst 0, 1) := by decide +kernel
theorem dX5_common_9 : decode cX5_common 9 = .ok (.lcmp, 1) := by decide +kernel
theorem dX5_common_10 : decode cX5_common 10 = .ok (.ifCond .le 21, 3) := by decide +kernel
theorem dX5_common_13 : decode cX5_common 13 = .ok (.lload 4, 2) := by decide +kernel
theorem dX5_common_15 : decode cX5_common 15 = .ok (.lload 6, 2) := by decide +kernel
theorem dX5_common_17 : decode cX5_common 17 = .ok (.lrem, 1) := by decide +kernel
theorem dX5_common_18 : decode cX5_common 18 = .ok (.lstore 8, 2) := by decide +kernel
theorem dX5_common_20 : decode cX5_common 20 = .ok (.lload 6, 2) := by decide +kernel
theorem dX5_common_22 : decode cX5_common 22 = .ok (.lstore 4, 2) := by decide +kernel
theorem dX5_common_24 : decode cX5_common 24 = .ok (.lload 8, 2) := by decide +kernel
theorem dX5_common_26 : decode cX5_common 26 = .ok (.lstore 6, 2) := by decide +kernel
theorem dX5_common_28 : decode cX5_common 28 = .ok (.goto (-22), 3) := by decide +kernel
theorem dX5_common_31 : decode cX5_common 31 = .ok (.lload 4, 2) := by decide +kernel
theorem dX5_common_33 : decode cX5_common 33 = .ok (.lreturn, 1) := by decide +kernel
set_option maxRecDepth 20000 in
theorem ggX5_share_X5_in : GoodIn wsX5_share wsX5_in := goodIn_r _ [5] (by decide +kernel) (by decide +kernel)
set_option maxRecDepth 20000 in
theorem gX5_share_X5_in : GoodIn wsX5_share (va_wsS RX5 68 yX5_in wsX5_in) := goodIn_app (goodIn_of _ (by decide +kernel)) ggX5_share_X5_in
set_option maxRecDepth 20000 in
theorem ggX5_share_X5_throwing : GoodIn wsX5_share wsX5_throwing := goodIn_r _ [9, 10, 26, 27, 28, 29, 30, 31, 32, 33, 34, 35, 36, 37, 38, 39, 40, 41, 42, 43, 44, 45, 46, 47, 48, 49] (by decide +kernel) (by decide +kernel)
set_option maxRecDepth 20000 in
theorem gX5_share_X5_throwing : GoodIn wsX5_share (wsV RX5 79 RX5 yX5_throwing wsX5_throwing) := goodIn_app (goodIn_of _ (by decide +kernel)) ggX5_share_X5_throwing
set_option maxRecDepth 20000 in
theorem ggX5_share_X5_late : GoodIn wsX5_share wsX5_late := goodIn_r _ [14, 1, 15, 16, 17, 4, 18, 19, 20, 21, 22, 26, 27, 28, 29, 30, 31, 32, 33, 34, 35, 36, 37, 38, 39, 40, 41, 42, 43, 44, 45, 46, 47, 48, 49] (by decide +kernel) (by decide +kernel)
set_option maxRecDepth 20000 in
theorem gX5_share_X5_late : GoodIn wsX5_share (wsV RX5 147 RX5 yX5_late wsX5_late) := goodIn_app (goodIn_of _ (by decide +kernel)) ggX5_share_X5_late
set_option maxRecDepth 20000 in
theorem ggX5_share_X5_common : GoodIn wsX5_share wsX5_common := goodIn_r _ [25] (by decide +kernel) (by decide +kernel)
set_option maxRecDepth 20000 in
theorem gX5_share_X5_common : GoodIn wsX5_share (va_wsS RX5 154 yX5_common wsX5_common) := goodIn_app (goodIn_of _ (by decide +kernel)) ggX5_share_X5_common
theorem dX5_share_0 : decode cX5_share 0 = .ok (.aload_n 0, 1) := by decide +kernel
theorem dX5_share_1 : decode cX5_share 1 = .ok (.iload_n 1, 1) := by decide +kernel
theorem dX5_share_2 : decode cX5_share 2 = .ok (.iconst 0, 1) := by decide +kernel
theorem dX5_share_3 : decode cX5_share 3 = .ok (.iconst 1, 1) := by decide +kernel
theorem dX5_share_4 : decode cX5_share 4 = .ok (.invokestatic 68, 3) := by decide +kernel
theorem dX5_share_7 : decode cX5_share 7 = .ok (.ifCond .ne 7, 3) := by decide +kernel
theorem dX5_share_10 : decode cX5_share 10 = .ok (.iconst 1, 1) := by decide +kernel
theorem dX5_share_11 : decode cX5_share 11 = .ok (.goto 4, 3) := by decide +kernel
theorem dX5_share_14 : decode cX5_share 14 = .ok (.iconst 0, 1) := by decide +kernel
theorem dX5_share_15 : decode cX5_share 15 = .ok (.aload_n 0, 1) := by decide +kernel
theorem dX5_share_16 : decode cX5_share 16 = .ok (.getfield 99, 3) := by decide +kernel
theorem dX5_share_19 : decode cX5_share 19 = .ok (.ifCond .ne 7, 3) := by decide +kernel
theorem dX5_share_22 : decode cX5_share 22 = .ok (.iconst 1, 1) := by decide +kernel
theorem dX5_share_23 : decode cX5_share 23 = .ok (.goto 4, 3) := by decide +kernel
theorem dX5_share_26 : decode cX5_share 26 = .ok (.iconst 0, 1) := by decide +kernel
theorem dX5_share_27 : decode cX5_share 27 = .ok (.iconst 0, 1) := by decide +kernel
theorem dX5_share_28 : decode cX5_share 28 = .ok (.invokevirtual 79, 3) := by decide +kernel
theorem dX5_share_31 : decode cX5_share 31 = .ok (.ifCond .eq 5, 3) := by decide +kernel
theorem dX5_share_34 : decode cX5_share 34 = .ok (.iconst 0, 1) := by decide +kernel
theorem dX5_share_35 : decode cX5_share 35 = .ok (.ireturn, 1) := by decide +kernel
theorem dX5_share_36 : decode cX5_share 36 = .ok (.aload_n 0, 1) := by decide +kernel
theorem dX5_share_37 : decode cX5_share 37 = .ok (.getfield 99, 3) := by decide +kernel
theorem dX5_share_40 : decode cX5_share 40 = .ok (.aload_n 0, 1) := by decide +kernel
theorem dX5_share_41 : decode cX5_share 41 = .ok (.invokevirtual 147, 3) := by decide +kernel
theorem dX5_share_44 : decode cX5_share 44 = .ok (.isub, 1) := by decide +kernel
theorem dX5_share_45 : decode cX5_share 45 = .ok (.istore_n 2, 1) := by decide +kernel
theorem dX5_share_46 : decode cX5_share 46 = .ok (.iload_n 1, 1) := by decide +kernel
theorem dX5_share_47 : decode cX5_share 47 = .ok (.ifCond .ne 7, 3) := by decide +kernel
theorem dX5_share_50 : decode cX5_share 50 = .ok (.iload_n 2, 1) := by decide +kernel
theorem dX5_share_51 : decode cX5_share 51 = .ok (.goto 7, 3) := by decide +kernel
theorem dX5_share_54 : decode cX5_share 54 = .ok (.aload_n 0, 1) := by decide +kernel
theorem dX5_share_55 : decode cX5_share 55 = .ok (.getfield 99, 3) := by decide +kernel
theorem dX5_share_58 : decode cX5_share 58 = .ok (.iload_n 2, 1) := by decide +kernel
theorem dX5_share_59 : decode cX5_share 59 = .ok (.i2l, 1) := by decide +kernel
theorem dX5_share_60 : decode cX5_share 60 = .ok (.aload_n 0, 1) := by decide +kernel
theorem dX5_share_61 : decode cX5_share 61 = .ok (.getfield 99, 3) := by decide +kernel
theorem dX5_share_64 : decode cX5_share 64 = .ok (.i2l, 1) := by decide +kernel
theorem dX5_share_65 : decode cX5_share 65 = .ok (.invokestatic 154, 3) := by decide +kernel
theorem dX5_share_68 : decode cX5_share 68 = .ok (.l2i, 1) := by decide +kernel
theorem dX5_share_69 : decode cX5_share 69 = .ok (.idiv, 1) := by decide +kernel
theorem dX5_share_70 : decode cX5_share 70 = .ok (.ireturn, 1) := by decide +kernel
set_option maxRecDepth 20000 in
theorem ggX5_mean_X5_throwing : GoodIn wsX5_mean wsX5_throwing := goodIn_r _ [10, 11, 12, 13, 14, 15, 16, 17, 18, 19, 20, 21, 22, 23, 24, 25, 26, 27, 28, 29, 30, 31, 32, 33, 34, 35] (by decide +kernel) (by decide +kernel)
set_option maxRecDepth 20000 in
theorem gX5_mean_X5_throwing : GoodIn wsX5_mean (wsV RX5 79 RX5 yX5_throwing wsX5_throwing) := goodIn_app (goodIn_of _ (by decide +kernel)) ggX5_mean_X5_throwing
theorem dX5_mean_0 : decode cX5_mean 0 = .ok (.iconst 0, 1) := by decide +kernel
theorem dX5_mean_1 : decode cX5_mean 1 = .ok (.istore_n 1, 1) := by decide +kernel
theorem dX5_mean_2 : decode cX5_mean 2 = .ok (.iconst 0, 1) := by decide +kernel
theorem dX5_mean_3 : decode cX5_mean 3 = .ok (.istore_n 2, 1) := by decide +kernel
theorem dX5_mean_4 : decode cX5_mean 4 = .ok (.iconst 0, 1) := by decide +kernel
theorem dX5_mean_5 : decode cX5_mean 5 = .ok (.istore_n 3, 1) := by decide +kernel
theorem dX5_mean_6 : decode cX5_mean 6 = .ok (.iload_n 3, 1) := by decide +kernel
theorem dX5_mean_7 : decode cX5_mean 7 = .ok (.aload_n 0, 1) := by decide +kernel
theorem dX5_mean_8 : decode cX5_mean 8 = .ok (.getfield 99, 3) := by decide +kernel
theorem dX5_mean_11 : decode cX5_mean 11 = .ok (.if_icmp .ge 55, 3) := by decide +kernel
theorem dX5_mean_14 : decode cX5_mean 14 = .ok (.iload_n 1, 1) := by decide +kernel
theorem dX5_mean_15 : decode cX5_mean 15 = .ok (.aload_n 0, 1) := by decide +kernel
theorem dX5_mean_16 : decode cX5_mean 16 = .ok (.getfield 47, 3) := by decide +kernel
theorem dX5_mean_19 : decode cX5_mean 19 = .ok (.iload_n 3, 1) := by decide +kernel
theorem dX5_mean_20 : decode cX5_mean 20 = .ok (.iaload, 1) := by decide +kernel
theorem dX5_mean_21 : decode cX5_mean 21 = .ok (.ifCond .ge 7, 3) := by decide +kernel
theorem dX5_mean_24 : decode cX5_mean 24 = .ok (.iconst 0, 1) := by decide +kernel
theorem dX5_mean_25 : decode cX5_mean 25 = .ok (.goto 4, 3) := by decide +kernel
theorem dX5_mean_28 : decode cX5_mean 28 = .ok (.iconst 1, 1) := by decide +kernel
theorem dX5_mean_29 : decode cX5_mean 29 = .ok (.iadd, 1) := by decide +kernel
theorem dX5_mean_30 : decode cX5_mean 30 = .ok (.istore_n 1, 1) := by decide +kernel
theorem dX5_mean_31 : decode cX5_mean 31 = .ok (.iload_n 2, 1) := by decide +kernel
theorem dX5_mean_32 : decode cX5_mean 32 = .ok (.aload_n 0, 1) := by decide +kernel
theorem dX5_mean_33 : decode cX5_mean 33 = .ok (.getfield 47, 3) := by decide +kernel
theorem dX5_mean_36 : decode cX5_mean 36 = .ok (.iload_n 3, 1) := by decide +kernel
theorem dX5_mean_37 : decode cX5_mean 37 = .ok (.iaload, 1) := by decide +kernel
theorem dX5_mean_38 : decode cX5_mean 38 = .ok (.ifCond .ge 7, 3) := by decide +kernel
theorem dX5_mean_41 : decode cX5_mean 41 = .ok (.iconst 0, 1) := by decide +kernel
theorem dX5_mean_42 : decode cX5_mean 42 = .ok (.goto 16, 3) := by decide +kernel
theorem dX5_mean_45 : decode cX5_mean 45 = .ok (.aload_n 0, 1) := by decide +kernel
theorem dX5_mean_46 : decode cX5_mean 46 = .ok (.getfield 50, 3) := by decide +kernel
theorem dX5_mean_49 : decode cX5_mean 49 = .ok (.iload_n 3, 1) := by decide +kernel
theorem dX5_mean_50 : decode cX5_mean 50 = .ok (.iaload, 1) := by decide +kernel
theorem dX5_mean_51 : decode cX5_mean 51 = .ok (.aload_n 0, 1) := by decide +kernel
theorem dX5_mean_52 : decode cX5_mean 52 = .ok (.getfield 35, 3) := by decide +kernel
theorem dX5_mean_55 : decode cX5_mean 55 = .ok (.iload_n 3, 1) := by decide +kernel
theorem dX5_mean_56 : decode cX5_mean 56 = .ok (.iaload, 1) := by decide +kernel
theorem dX5_mean_57 : decode cX5_mean 57 = .ok (.isub, 1) := by decide +kernel
theorem dX5_mean_58 : decode cX5_mean 58 = .ok (.iadd, 1) := by decide +kernel
theorem dX5_mean_59 : decode cX5_mean 59 = .ok (.istore_n 2, 1) := by decide +kernel
theorem dX5_mean_60 : decode cX5_mean 60 = .ok (.iinc 3 1, 3) := by decide +kernel
theorem dX5_mean_63 : decode cX5_mean 63 = .ok (.goto (-57), 3) := by decide +kernel
theorem dX5_mean_66 : decode cX5_mean 66 = .ok (.aload_n 0, 1) := by decide +kernel
theorem dX5_mean_67 : decode cX5_mean 67 = .ok (.iload_n 1, 1) := by decide +kernel
theorem dX5_mean_68 : decode cX5_mean 68 = .ok (.ifCond .ne 7, 3) := by decide +kernel
theorem dX5_mean_71 : decode cX5_mean 71 = .ok (.iconst 1, 1) := by decide +kernel
theorem dX5_mean_72 : decode cX5_mean 72 = .ok (.goto 4, 3) := by decide +kernel
theorem dX5_mean_75 : decode cX5_mean 75 = .ok (.iconst 0, 1) := by decide +kernel
theorem dX5_mean_76 : decode cX5_mean 76 = .ok (.iconst 0, 1) := by decide +kernel
theorem dX5_mean_77 : decode cX5_mean 77 = .ok (.iconst 0, 1) := by decide +kernel
theorem dX5_mean_78 : decode cX5_mean 78 = .ok (.invokevirtual 79, 3) := by decide +kernel
theorem dX5_mean_81 : decode cX5_mean 81 = .ok (.ifCond .eq 5, 3) := by decide +kernel
theorem dX5_mean_84 : decode cX5_mean 84 = .ok (.iconst 0, 1) := by decide +kernel
theorem dX5_mean_85 : decode cX5_mean 85 = .ok (.ireturn, 1) := by decide +kernel
theorem dX5_mean_86 : decode cX5_mean 86 = .ok (.ldc2_w 158, 3) := by decide +kernel
theorem dX5_mean_89 : decode cX5_mean 89 = .ok (.iload_n 2, 1) := by decide +kernel
theorem dX5_mean_90 : decode cX5_mean 90 = .ok (.i2l, 1) := by decide +kernel
