theorem dX5_init_92 : decode cX5_init 92 = .ok (.putfield 44, 3) := by decide +kernel
theorem dX5_init_95 : decode cX5_init 95 = .ok (.aload_n 0, 1) := by decide +kernel
theorem dX5_init_96 : decode cX5_init 96 = .ok (.bipush 60, 2) := by decide +kernel
theorem dX5_init_98 : decode cX5_init 98 = .ok (.newarray .int, 2) := by decide +kernel
theorem dX5_init_100 : decode cX5_init 100 = .ok (.putfield 47, 3) := by decide +kernel
theorem dX5_init_103 : decode cX5_init 103 = .ok (.aload_n 0, 1) := by decide +kernel
theorem dX5_init_104 : decode cX5_init 104 = .ok (.bipush 60, 2) := by decide +kernel
theorem dX5_init_106 : decode cX5_init 106 = .ok (.newarray .int, 2) := by decide +kernel
theorem dX5_init_108 : decode cX5_init 108 = .ok (.putfield 50, 3) := by decide +kernel
theorem dX5_init_111 : decode cX5_init 111 = .ok (.aload_n 0, 1) := by decide +kernel
theorem dX5_init_112 : decode cX5_init 112 = .ok (.bipush 60, 2) := by decide +kernel
theorem dX5_init_114 : decode cX5_init 114 = .ok (.newarray .int, 2) := by decide +kernel
theorem dX5_init_116 : decode cX5_init 116 = .ok (.putfield 53, 3) := by decide +kernel
theorem dX5_init_119 : decode cX5_init 119 = .ok (.aload_n 0, 1) := by decide +kernel
theorem dX5_init_120 : decode cX5_init 120 = .ok (.bipush 12, 2) := by decide +kernel
theorem dX5_init_122 : decode cX5_init 122 = .ok (.newarray .int, 2) := by decide +kernel
theorem dX5_init_124 : decode cX5_init 124 = .ok (.putfield 56, 3) := by decide +kernel
theorem dX5_init_127 : decode cX5_init 127 = .ok (.aload_n 0, 1) := by decide +kernel
theorem dX5_init_128 : decode cX5_init 128 = .ok (.bipush 12, 2) := by decide +kernel
theorem dX5_init_130 : decode cX5_init 130 = .ok (.newarray .int, 2) := by decide +kernel
theorem dX5_init_132 : decode cX5_init 132 = .ok (.putfield 59, 3) := by decide +kernel
theorem dX5_init_135 : decode cX5_init 135 = .ok (.aload_n 0, 1) := by decide +kernel
theorem dX5_init_136 : decode cX5_init 136 = .ok (.sipush 1440, 3) := by decide +kernel
theorem dX5_init_139 : decode cX5_init 139 = .ok (.newarray .int, 2) := by decide +kernel
theorem dX5_init_141 : decode cX5_init 141 = .ok (.putfield 62, 3) := by decide +kernel
theorem dX5_init_144 : decode cX5_init 144 = .ok (.return_, 1) := by decide +kernel
theorem dX5_thrown_0 : decode cX5_thrown 0 = .ok (.aload_n 0, 1) := by decide +kernel
theorem dX5_thrown_1 : decode cX5_thrown 1 = .ok (.getfield 65, 3) := by decide +kernel
theorem dX5_thrown_4 : decode cX5_thrown 4 = .ok (.ireturn, 1) := by decide +kernel
theorem dX5_throwing_0 : decode cX5_throwing 0 = .ok (.aload_n 0, 1) := by decide +kernel
theorem dX5_throwing_1 : decode cX5_throwing 1 = .ok (.iload_n 1, 1) := by decide +kernel
theorem dX5_throwing_2 : decode cX5_throwing 2 = .ok (.ifCond .eq 7, 3) := by decide +kernel
theorem dX5_throwing_5 : decode cX5_throwing 5 = .ok (.iconst 1, 1) := by decide +kernel
theorem dX5_throwing_6 : decode cX5_throwing 6 = .ok (.goto 20, 3) := by decide +kernel
theorem dX5_throwing_9 : decode cX5_throwing 9 = .ok (.iload_n 2, 1) := by decide +kernel
theorem dX5_throwing_10 : decode cX5_throwing 10 = .ok (.ifCond .eq 7, 3) := by decide +kernel
theorem dX5_throwing_13 : decode cX5_throwing 13 = .ok (.iconst 2, 1) := by decide +kernel
theorem dX5_throwing_14 : decode cX5_throwing 14 = .ok (.goto 12, 3) := by decide +kernel
theorem dX5_throwing_17 : decode cX5_throwing 17 = .ok (.iload_n 3, 1) := by decide +kernel
theorem dX5_throwing_18 : decode cX5_throwing 18 = .ok (.ifCond .eq 7, 3) := by decide +kernel
theorem dX5_throwing_21 : decode cX5_throwing 21 = .ok (.iconst 3, 1) := by decide +kernel
theorem dX5_throwing_22 : decode cX5_throwing 22 = .ok (.goto 4, 3) := by decide +kernel
theorem dX5_throwing_25 : decode cX5_throwing 25 = .ok (.iconst 0, 1) := by decide +kernel
theorem dX5_throwing_26 : decode cX5_throwing 26 = .ok (.putfield 65, 3) := by decide +kernel
theorem dX5_throwing_29 : decode cX5_throwing 29 = .ok (.aload_n 0, 1) := by decide +kernel
theorem dX5_throwing_30 : decode cX5_throwing 30 = .ok (.getfield 65, 3) := by decide +kernel
theorem dX5_throwing_33 : decode cX5_throwing 33 = .ok (.ifCond .le 7, 3) := by decide +kernel
theorem dX5_throwing_36 : decode cX5_throwing 36 = .ok (.iconst 1, 1) := by decide +kernel
theorem dX5_throwing_37 : decode cX5_throwing 37 = .ok (.goto 4, 3) := by decide +kernel
theorem dX5_throwing_40 : decode cX5_throwing 40 = .ok (.iconst 0, 1) := by decide +kernel
theorem dX5_throwing_41 : decode cX5_throwing 41 = .ok (.ireturn, 1) := by decide +kernel
theorem dX5_in_0 : decode cX5_in 0 = .ok (.iload_n 0, 1) := by decide +kernel
theorem dX5_in_1 : decode cX5_in 1 = .ok (.iload_n 1, 1) := by decide +kernel
theorem dX5_in_2 : decode cX5_in 2 = .ok (.if_icmp .lt 12, 3) := by decide +kernel
theorem dX5_in_5 : decode cX5_in 5 = .ok (.iload_n 0, 1) := by decide +kernel
theorem dX5_in_6 : decode cX5_in 6 = .ok (.iload_n 2, 1) := by decide +kernel
theorem dX5_in_7 : decode cX5_in 7 = .ok (.if_icmp .gt 7, 3) := by decide +kernel
theorem dX5_in_10 : decode cX5_in 10 = .ok (.iconst 1, 1) := by decide +kernel
theorem dX5_in_11 : decode cX5_in 11 = .ok (.goto 4, 3) := by decide +kernel
theorem dX5_in_14 : decode cX5_in 14 = .ok (.iconst 0, 1) := by decide +kernel
theorem dX5_in_15 : decode cX5_in 15 = .ok (.ireturn, 1) := by decide +kernel
set_option maxRecDepth 20000 in
theorem ggX5_isSpot_X5_in : GoodIn wsX5_isSpot wsX5_in := goodIn_r _ [4] (by decide +kernel) (by decide +kernel)
set_option maxRecDepth 20000 in
theorem gX5_isSpot_X5_in : GoodIn wsX5_isSpot (va_wsS RX5 68 yX5_in wsX5_in) := goodIn_app (goodIn_of _ (by decide +kernel)) ggX5_isSpot_X5_in
theorem dX5_isSpot_0 : decode cX5_isSpot 0 = .ok (.iload_n 0, 1) := by decide +kernel
theorem dX5_isSpot_1 : decode cX5_isSpot 1 = .ok (.iconst 0, 1) := by decide +kernel
theorem dX5_isSpot_2 : decode cX5_isSpot 2 = .ok (.bipush 99, 2) := by decide +kernel
theorem dX5_isSpot_4 : decode cX5_isSpot 4 = .ok (.invokestatic 68, 3) := by decide +kernel
theorem dX5_isSpot_7 : decode cX5_isSpot 7 = .ok (.ifCond .eq 17, 3) := by decide +kernel
theorem dX5_isSpot_10 : decode cX5_isSpot 10 = .ok (.iload_n 1, 1) := by decide +kernel
theorem dX5_isSpot_11 : decode cX5_isSpot 11 = .ok (.iconst 0, 1) := by decide +kernel
theorem dX5_isSpot_12 : decode cX5_isSpot 12 = .ok (.bipush 99, 2) := by decide +kernel
theorem dX5_isSpot_14 : decode cX5_isSpot 14 = .ok (.invokestatic 68, 3) := by decide +kernel
theorem dX5_isSpot_17 : decode cX5_isSpot 17 = .ok (.ifCond .eq 7, 3) := by decide +kernel
theorem dX5_isSpot_20 : decode cX5_isSpot 20 = .ok (.iconst 1, 1) := by decide +kernel
theorem dX5_isSpot_21 : decode cX5_isSpot 21 = .ok (.goto 4, 3) := by decide +kernel
theorem dX5_isSpot_24 : decode cX5_isSpot 24 = .ok (.iconst 0, 1) := by decide +kernel
theorem dX5_isSpot_25 : decode cX5_isSpot 25 = .ok (.ireturn, 1) := by decide +kernel
set_option maxRecDepth 20000 in
theorem ggX5_station_X5_isSpot : GoodIn wsX5_station wsX5_isSpot := goodIn_r _ [7, 8, 9, 6, 10] (by decide +kernel) (by decide +kernel)
set_option maxRecDepth 20000 in
theorem gX5_station_X5_isSpot : GoodIn wsX5_station (va_wsS RX5 72 yX5_isSpot wsX5_isSpot) := goodIn_app (goodIn_of _ (by decide +kernel)) ggX5_station_X5_isSpot
set_option maxRecDepth 20000 in
theorem ggX5_station_X5_throwing : GoodIn wsX5_station wsX5_throwing := goodIn_r _ [14, 15, 16, 17, 18, 19, 20, 21, 22, 23, 24, 25, 26, 27, 28, 29, 30, 31, 32, 33, 34, 35, 36, 37, 38, 39] (by decide +kernel) (by decide +kernel)
set_option maxRecDepth 20000 in
theorem gX5_station_X5_throwing : GoodIn wsX5_station (wsV RX5 79 RX5 yX5_throwing wsX5_throwing) := goodIn_app (goodIn_of _ (by decide +kernel)) ggX5_station_X5_throwing
theorem dX5_station_0 : decode cX5_station 0 = .ok (.aload_n 0, 1) := by decide +kernel
theorem dX5_station_1 : decode cX5_station 1 = .ok (.iload_n 1, 1) := by decide +kernel
theorem dX5_station_2 : decode cX5_station 2 = .ok (.iload_n 2, 1) := by decide +kernel
theorem dX5_station_3 : decode cX5_station 3 = .ok (.invokestatic 72, 3) := by decide +kernel
theorem dX5_station_6 : decode cX5_station 6 = .ok (.ifCond .ne 7, 3) := by decide +kernel
theorem dX5_station_9 : decode cX5_station 9 = .ok (.iconst 1, 1) := by decide +kernel
theorem dX5_station_10 : decode cX5_station 10 = .ok (.goto 4, 3) := by decide +kernel
theorem dX5_station_13 : decode cX5_station 13 = .ok (.iconst 0, 1) := by decide +kernel
theorem dX5_station_14 : decode cX5_station 14 = .ok (.aload_n 0, 1) := by decide +kernel
theorem dX5_station_15 : decode cX5_station 15 = .ok (.getfield 76, 3) := by decide +kernel
theorem dX5_station_18 : decode cX5_station 18 = .ok (.bipush 6, 2) := by decide +kernel
theorem dX5_station_20 : decode cX5_station 20 = .ok (.if_icmp .ne 7, 3) := by decide +kernel
theorem dX5_station_23 : decode cX5_station 23 = .ok (.iconst 1, 1) := by decide +kernel
theorem dX5_station_24 : decode cX5_station 24 = .ok (.goto 4, 3) := by decide +kernel
theorem dX5_station_27 : decode cX5_station 27 = .ok (.iconst 0, 1) := by decide +kernel
theorem dX5_station_28 : decode cX5_station 28 = .ok (.iconst 0, 1) := by decide +kernel
theorem dX5_station_29 : decode cX5_station 29 = .ok (.invokevirtual 79, 3) := by decide +kernel
theorem dX5_station_32 : decode cX5_station 32 = .ok (.ifCond .eq 5, 3) := by decide +kernel
theorem dX5_station_35 : decode cX5_station 35 = .ok (.iconst 0, 1) := by decide +kernel
theorem dX5_station_36 : decode cX5_station 36 = .ok (.ireturn, 1) := by decide +kernel
theorem dX5_station_37 : decode cX5_station 37 = .ok (.aload_n 0, 1) := by decide +kernel
theorem dX5_station_38 : decode cX5_station 38 = .ok (.getfield 16, 3) := by decide +kernel
theorem dX5_station_41 : decode cX5_station 41 = .ok (.aload_n 0, 1) := by decide +kernel
theorem dX5_station_42 : decode cX5_station 42 = .ok (.getfield 76, 3) := by decide +kernel
theorem dX5_station_45 : decode cX5_station 45 = .ok (.iload_n 1, 1) := by decide +kernel
theorem dX5_station_46 : decode cX5_station 46 = .ok (.iastore, 1) := by decide +kernel
theorem dX5_station_47 : decode cX5_station 47 = .ok (.aload_n 0, 1) := by decide +kernel
theorem dX5_station_48 : decode cX5_station 48 = .ok (.getfield 20, 3) := by decide +kernel
theorem dX5_station_51 : decode cX5_station 51 = .ok (.aload_n 0, 1) := by decide +kernel
theorem dX5_station_52 : decode cX5_station 52 = .ok (.getfield 76, 3) := by decide +kernel
theorem dX5_station_55 : decode cX5_station 55 = .ok (.iload_n 2, 1) := by decide +kernel
theorem dX5_station_56 : decode cX5_station 56 = .ok (.iastore, 1) := by decide +kernel
theorem dX5_station_57 : decode cX5_station 57 = .ok (.aload_n 0, 1) := by decide +kernel
theorem dX5_station_58 : decode cX5_station 58 = .ok (.dup, 1) := by decide +kernel
theorem dX5_station_59 : decode cX5_station 59 = .ok (.getfield 76, 3) := by decide +kernel
theorem dX5_station_62 : decode cX5_station 62 = .ok (.iconst 1, 1) := by decide +kernel
theorem dX5_station_63 : decode cX5_station 63 = .ok (.iadd, 1) := by decide +kernel
theorem dX5_station_64 : decode cX5_station 64 = .ok (.putfield 76, 3) := by decide +kernel
theorem dX5_station_67 : decode cX5_station 67 = .ok (.aload_n 0, 1) := by decide +kernel
theorem dX5_station_68 : decode cX5_station 68 = .ok (.getfield 76, 3) := by decide +kernel
theorem dX5_station_71 : decode cX5_station 71 = .ok (.iconst 1, 1) := by decide +kernel
theorem dX5_station_72 : decode cX5_station 72 = .ok (.isub, 1) := by decide +kernel
theorem dX5_station_73 : decode cX5_station 73 = .ok (.ireturn, 1) := by decide +kernel
set_option maxRecDepth 20000 in
theorem ggX5_area_X5_isSpot : GoodIn wsX5_area wsX5_isSpot := goodIn_r _ [8, 9, 10, 7, 11] (by decide +kernel) (by decide +kernel)
set_option maxRecDepth 20000 in
theorem gX5_area_X5_isSpot : GoodIn wsX5_area (va_wsS RX5 72 yX5_isSpot wsX5_isSpot) := goodIn_app (goodIn_of _ (by decide +kernel)) ggX5_area_X5_isSpot
set_option maxRecDepth 20000 in
theorem ggX5_area_X5_in : GoodIn wsX5_area wsX5_in := goodIn_r _ [11] (by decide +kernel) (by decide +kernel)
set_option maxRecDepth 20000 in
theorem gX5_area_X5_in : GoodIn wsX5_area (va_wsS RX5 68 yX5_in wsX5_in) := goodIn_app (goodIn_of _ (by decide +kernel)) ggX5_area_X5_in
set_option maxRecDepth 20000 in
theorem ggX5_area_X5_throwing : GoodIn wsX5_area wsX5_throwing := goodIn_r _ [15, 16, 17, 18, 19, 20, 21, 22, 23, 24, 25, 26, 27, 28, 29, 30, 31, 32, 33, 34, 35, 36, 37, 38, 39, 40] (by decide +kernel) (by decide +kernel)
set_option maxRecDepth 20000 in
theorem gX5_area_X5_throwing : GoodIn wsX5_area (wsV RX5 79 RX5 yX5_throwing wsX5_throwing) := goodIn_app (goodIn_of _ (by decide +kernel)) ggX5_area_X5_throwing
theorem dX5_area_0 : decode cX5_area 0 = .ok (.aload_n 0, 1) := by decide +kernel
theorem dX5_area_1 : decode cX5_area 1 = .ok (.iload_n 1, 1) := by decide +kernel
theorem dX5_area_2 : decode cX5_area 2 = .ok (.iload_n 2, 1) := by decide +kernel
theorem dX5_area_3 : decode cX5_area 3 = .ok (.invokestatic 72, 3) := by decide +kernel
theorem dX5_area_6 : decode cX5_area 6 = .ok (.ifCond .eq 13, 3) := by decide +kernel
theorem dX5_area_9 : decode cX5_area 9 = .ok (.iload_n 3, 1) := by decide +kernel
theorem dX5_area_10 : decode cX5_area 10 = .ok (.iconst 1, 1) := by decide +kernel
theorem dX5_area_11 : decode cX5_area 11 = .ok (.bipush 50, 2) := by decide +kernel
theorem dX5_area_13 : decode cX5_area 13 = .ok (.invokestatic 68, 3) := by decide +kernel
theorem dX5_area_16 : decode cX5_area 16 = .ok (.ifCond .ne 7, 3) := by decide +kernel
theorem dX5_area_19 : decode cX5_area 19 = .ok (.iconst 1, 1) := by decide +kernel
theorem dX5_area_20 : decode cX5_area 20 = .ok (.goto 4, 3) := by decide +kernel
theorem dX5_area_23 : decode cX5_area 23 = .ok (.iconst 0, 1) := by decide +kernel
theorem dX5_area_24 : decode cX5_area 24 = .ok (.aload_n 0, 1) := by decide +kernel
theorem dX5_area_25 : decode cX5_area 25 = .ok (.getfield 83, 3) := by decide +kernel
theorem dX5_area_28 : decode cX5_area 28 = .ok (.bipush 10, 2) := by decide +kernel
theorem dX5_area_30 : decode cX5_area 30 = .ok (.if_icmp .ne 7, 3) := by decide +kernel
theorem dX5_area_33 : decode cX5_area 33 = .ok (.iconst 1, 1) := by decide +kernel
theorem dX5_area_34 : decode cX5_area 34 = .ok (.goto 4, 3) := by decide +kernel
theorem dX5_area_37 : decode cX5_area 37 = .ok (.iconst 0, 1) := by decide +kernel
theorem dX5_area_38 : decode cX5_area 38 = .ok (.iconst 0, 1) := by decide +kernel
theorem dX5_area_39 : decode cX5_area 39 = .ok (.invokevirtual 79, 3) := by decide +kernel
theorem dX5_area_42 : decode cX5_area 42 = .ok (.ifCond .eq 5, 3) := by decide +kernel
theorem dX5_area_45 : decode cX5_area 45 = .ok (.iconst 0, 1) := by decide +kernel
theorem dX5_area_46 : decode cX5_area 46 = .ok (.ireturn, 1) := by decide +kernel
theorem dX5_area_47 : decode cX5_area 47 = .ok (.aload_n 0, 1) := by decide +kernel
theorem dX5_area_48 : decode cX5_area 48 = .ok (.getfield 23, 3) := by decide +kernel
theorem dX5_area_51 : decode cX5_area 51 = .ok (.aload_n 0, 1) := by decide +kernel
theorem dX5_area_52 : decode cX5_area 52 = .ok (.getfield 83, 3) := by decide +kernel
theorem dX5_area_55 : decode cX5_area 55 = .ok (.iload_n 1, 1) := by decide +kernel
theorem dX5_area_56 : decode cX5_area 56 = .ok (.iastore, 1) := by decide +kernel
theorem dX5_area_57 : decode cX5_area 57 = .ok (.aload_n 0, 1) := by decide +kernel
theorem dX5_area_58 : decode cX5_area 58 = .ok (.getfield 26, 3) := by decide +kernel
theorem dX5_area_61 : decode cX5_area 61 = .ok (.aload_n 0, 1) := by decide +kernel
theorem dX5_area_62 : decode cX5_area 62 = .ok (.getfield 83, 3) := by decide +kernel
theorem dX5_area_65 : decode cX5_area 65 = .ok (.iload_n 2, 1) := by decide +kernel
theorem dX5_area_66 : decode cX5_area 66 = .ok (.iastore, 1) := by decide +kernel
theorem dX5_area_67 : decode cX5_area 67 = .ok (.aload_n 0, 1) := by decide +kernel
theorem dX5_area_68 : decode cX5_area 68 = .ok (.getfield 29, 3) := by decide +kernel
theorem dX5_area_71 : decode cX5_area 71 = .ok (.aload_n 0, 1) := by decide +kernel
theorem dX5_area_72 : decode cX5_area 72 = .ok (.getfield 83, 3) := by decide +kernel
theorem dX5_area_75 : decode cX5_area 75 = .ok (.iload_n 3, 1) := by decide +kernel
theorem dX5_area_76 : decode cX5_area 76 = .ok (.iastore, 1) := by decide +kernel
theorem dX5_area_77 : decode cX5_area 77 = .ok (.aload_n 0, 1) := by decide +kernel
theorem dX5_area_78 : decode cX5_area 78 = .ok (.dup, 1) := by decide +kernel
theorem dX5_area_79 : decode cX5_area 79 = .ok (.getfield 83, 3) := by decide +kernel
theorem dX5_area_82 : decode cX5_area 82 = .ok (.iconst 1, 1) := by decide +kernel
theorem dX5_area_83 : decode cX5_area 83 = .ok (.iadd, 1) := by decide +kernel
theorem dX5_area_84 : decode cX5_area 84 = .ok (.putfield 83, 3) := by decide +kernel
theorem dX5_area_87 : decode cX5_area 87 = .ok (.aload_n 0, 1) := by decide +kernel
theorem dX5_area_88 : decode cX5_area 88 = .ok (.getfield 83, 3) := by decide +kernel
theorem dX5_area_91 : decode cX5_area 91 = .ok (.iconst 1, 1) := by decide +kernel
theorem dX5_area_92 : decode cX5_area 92 = .ok (.isub, 1) := by decide +kernel
theorem dX5_area_93 : decode cX5_area 93 = .ok (.ireturn, 1) := by decide +kernel
theorem dX5_at_0 : decode cX5_at 0 = .ok (.iconst 0, 1) := by decide +kernel
theorem dX5_at_1 : decode cX5_at 1 = .ok (.istore 4, 2) := by decide +kernel
theorem dX5_at_3 : decode cX5_at 3 = .ok (.iconst 0, 1) := by decide +kernel
theorem dX5_at_4 : decode cX5_at 4 = .ok (.istore 5, 2) := by decide +kernel
theorem dX5_at_6 : decode cX5_at 6 = .ok (.iload 5, 2) := by decide +kernel
theorem dX5_at_8 : decode cX5_at 8 = .ok (.aload_n 0, 1) := by decide +kernel
theorem dX5_at_9 : decode cX5_at 9 = .ok (.getfield 86, 3) := by decide +kernel
theorem dX5_at_12 : decode cX5_at 12 = .ok (.if_icmp .ge 41, 3) := by decide +kernel
theorem dX5_at_15 : decode cX5_at 15 = .ok (.iload 4, 2) := by decide +kernel
theorem dX5_at_17 : decode cX5_at 17 = .ok (.iload 5, 2) := by decide +kernel
theorem dX5_at_19 : decode cX5_at 19 = .ok (.iload_n 3, 1) := by decide +kernel
theorem dX5_at_20 : decode cX5_at 20 = .ok (.if_icmp .eq 23, 3) := by decide +kernel
theorem dX5_at_23 : decode cX5_at 23 = .ok (.aload_n 0, 1) := by decide +kernel
theorem dX5_at_24 : decode cX5_at 24 = .ok (.getfield 32, 3) := by decide +kernel
theorem dX5_at_27 : decode cX5_at 27 = .ok (.bipush 12, 2) := by decide +kernel
theorem dX5_at_29 : decode cX5_at 29 = .ok (.iload_n 1, 1) := by decide +kernel
theorem dX5_at_30 : decode cX5_at 30 = .ok (.imul, 1) := by decide +kernel
theorem dX5_at_31 : decode cX5_at 31 = .ok (.iload 5, 2) := by decide +kernel
theorem dX5_at_33 : decode cX5_at 33 = .ok (.iadd, 1) := by decide +kernel
theorem dX5_at_34 : decode cX5_at 34 = .ok (.iaload, 1) := by decide +kernel
theorem dX5_at_35 : decode cX5_at 35 = .ok (.iload_n 2, 1) := by decide +kernel
theorem dX5_at_36 : decode cX5_at 36 = .ok (.if_icmp .ne 7, 3) := by decide +kernel
theorem dX5_at_39 : decode cX5_at 39 = .ok (.iconst 1, 1) := by decide +kernel
theorem dX5_at_40 : decode cX5_at 40 = .ok (.goto 4, 3) := by decide +kernel
theorem dX5_at_43 : decode cX5_at 43 = .ok (.iconst 0, 1) := by decide +kernel
theorem dX5_at_44 : decode cX5_at 44 = .ok (.iadd, 1) := by decide +kernel
theorem dX5_at_45 : decode cX5_at 45 = .ok (.istore 4, 2) := by decide +kernel
theorem dX5_at_47 : decode cX5_at 47 = .ok (.iinc 5 1, 3) := by decide +kernel
theorem dX5_at_50 : decode cX5_at 50 = .ok (.goto (-44), 3) := by decide +kernel
theorem dX5_at_53 : decode cX5_at 53 = .ok (.iload 4, 2) := by decide +kernel
theorem dX5_at_55 : decode cX5_at 55 = .ok (.ireturn, 1) := by decide +kernel
set_option maxRecDepth 20000 in
theorem ggX5_isFull_X5_at : GoodIn wsX5_isFull wsX5_at := goodIn_r _ [5, 6, 7, 8, 9, 10, 11, 12, 13, 14, 15, 16, 17, 18, 19, 20, 21, 22, 23, 24, 25, 26, 27, 28, 29, 30, 31] (by decide +kernel) (by decide +kernel)
set_option maxRecDepth 20000 in
theorem gX5_isFull_X5_at : GoodIn wsX5_isFull (wsV RX5 89 RX5 yX5_at wsX5_at) := goodIn_app (goodIn_of _ (by decide +kernel)) ggX5_isFull_X5_at
theorem dX5_isFull_0 : decode cX5_isFull 0 = .ok (.iconst 0, 1) := by decide +kernel
theorem dX5_isFull_1 : decode cX5_isFull 1 = .ok (.istore_n 2, 1) := by decide +kernel
theorem dX5_isFull_2 : decode cX5_isFull 2 = .ok (.iconst 0, 1) := by decide +kernel
theorem dX5_isFull_3 : decode cX5_isFull 3 = .ok (.istore_n 3, 1) := by decide +kernel
theorem dX5_isFull_4 : decode cX5_isFull 4 = .ok (.iload_n 3, 1) := by decide +kernel
theorem dX5_isFull_5 : decode cX5_isFull 5 = .ok (.iconst 4, 1) := by decide +kernel
theorem dX5_isFull_6 : decode cX5_isFull 6 = .ok (.if_icmp .ge 30, 3) := by decide +kernel
theorem dX5_isFull_9 : decode cX5_isFull 9 = .ok (.iload_n 2, 1) := by decide +kernel
theorem dX5_isFull_10 : decode cX5_isFull 10 = .ok (.ifCond .ne 14, 3) := by decide +kernel
theorem dX5_isFull_13 : decode cX5_isFull 13 = .ok (.aload_n 0, 1) := by decide +kernel
theorem dX5_isFull_14 : decode cX5_isFull 14 = .ok (.iload_n 3, 1) := by decide +kernel
theorem dX5_isFull_15 : decode cX5_isFull 15 = .ok (.iload_n 1, 1) := by decide +kernel
theorem dX5_isFull_16 : decode cX5_isFull 16 = .ok (.iconst (-1), 1) := by decide +kernel
theorem dX5_isFull_17 : decode cX5_isFull 17 = .ok (.invokevirtual 89, 3) := by decide +kernel
theorem dX5_isFull_20 : decode cX5_isFull 20 = .ok (.iconst 4, 1) := by decide +kernel
theorem dX5_isFull_21 : decode cX5_isFull 21 = .ok (.if_icmp .lt 7, 3) := by decide +kernel
theorem dX5_isFull_24 : decode cX5_isFull 24 = .ok (.iconst 1, 1) := by decide +kernel
theorem dX5_isFull_25 : decode cX5_isFull 25 = .ok (.goto 4, 3) := by decide +kernel
theorem dX5_isFull_28 : decode cX5_isFull 28 = .ok (.iconst 0, 1) := by decide +kernel
theorem dX5_isFull_29 : decode cX5_isFull 29 = .ok (.istore_n 2, 1) := by decide +kernel
theorem dX5_isFull_30 : decode cX5_isFull 30 = .ok (.iinc 3 1, 3) := by decide +kernel
theorem dX5_isFull_33 : decode cX5_isFull 33 = .ok (.goto (-29), 3) := by decide +kernel
theorem dX5_isFull_36 : decode cX5_isFull 36 = .ok (.iload_n 2, 1) := by decide +kernel
theorem dX5_isFull_37 : decode cX5_isFull 37 = .ok (.ireturn, 1) := by decide +kernel
set_option maxRecDepth 20000 in
theorem ggX5_unit_X5_in : GoodIn wsX5_unit wsX5_in := goodIn_r _ [7] (by decide +kernel) (by decide +kernel)
set_option maxRecDepth 20000 in
theorem gX5_unit_X5_in : GoodIn wsX5_unit (va_wsS RX5 68 yX5_in wsX5_in) := goodIn_app (goodIn_of _ (by decide +kernel)) ggX5_unit_X5_in
set_option maxRecDepth 20000 in
theorem ggX5_unit_X5_isFull : GoodIn wsX5_unit wsX5_isFull := goodIn_r _ [11, 12, 13, 14, 6, 15, 2, 3, 21, 22, 23, 24, 25, 26, 27, 28, 29, 30, 31, 32, 33, 34, 35, 36, 37, 38, 39, 40, 41, 42, 43, 44] (by decide +kernel) (by decide +kernel)
set_option maxRecDepth 20000 in
theorem gX5_unit_X5_isFull : GoodIn wsX5_unit (wsV RX5 93 RX5 yX5_isFull wsX5_isFull) := goodIn_app (goodIn_of _ (by decide +kernel)) ggX5_unit_X5_isFull
set_option maxRecDepth 20000 in
theorem ggX5_unit_X5_throwing : GoodIn wsX5_unit wsX5_throwing := goodIn_r _ [19, 20, 21, 22, 23, 24, 25, 26, 27, 28, 29, 30, 31, 32, 33, 34, 35, 36, 37, 38, 39, 40, 41, 42, 43, 44] (by decide +kernel) (by decide +kernel)
set_option maxRecDepth 20000 in
theorem gX5_unit_X5_throwing : GoodIn wsX5_unit (wsV RX5 79 RX5 yX5_throwing wsX5_throwing) := goodIn_app (goodIn_of _ (by decide +kernel)) ggX5_unit_X5_throwing
theorem dX5_unit_0 : decode cX5_unit 0 = .ok (.iload_n 1, 1) := by decide +kernel
theorem dX5_unit_1 : decode cX5_unit 1 = .ok (.iconst 0, 1) := by decide +kernel
theorem dX5_unit_2 : decode cX5_unit 2 = .ok (.aload_n 0, 1) := by decide +kernel
theorem dX5_unit_3 : decode cX5_unit 3 = .ok (.getfield 76, 3) := by decide +kernel
theorem dX5_unit_6 : decode cX5_unit 6 = .ok (.iconst 1, 1) := by decide +kernel
theorem dX5_unit_7 : decode cX5_unit 7 = .ok (.isub, 1) := by decide +kernel
theorem dX5_unit_8 : decode cX5_unit 8 = .ok (.invokestatic 68, 3) := by decide +kernel
theorem dX5_unit_11 : decode cX5_unit 11 = .ok (.ifCond .ne 7, 3) := by decide +kernel
theorem dX5_unit_14 : decode cX5_unit 14 = .ok (.iconst 1, 1) := by decide +kernel
theorem dX5_unit_15 : decode cX5_unit 15 = .ok (.goto 4, 3) := by decide +kernel
theorem dX5_unit_18 : decode cX5_unit 18 = .ok (.iconst 0, 1) := by decide +kernel
theorem dX5_unit_19 : decode cX5_unit 19 = .ok (.istore_n 2, 1) := by decide +kernel
theorem dX5_unit_20 : decode cX5_unit 20 = .ok (.aload_n 0, 1) := by decide +kernel
theorem dX5_unit_21 : decode cX5_unit 21 = .ok (.iload_n 2, 1) := by decide +kernel
theorem dX5_unit_22 : decode cX5_unit 22 = .ok (.iload_n 2, 1) := by decide +kernel
theorem dX5_unit_23 : decode cX5_unit 23 = .ok (.ifCond .ne 15, 3) := by decide +kernel
theorem dX5_unit_26 : decode cX5_unit 26 = .ok (.aload_n 0, 1) := by decide +kernel
theorem dX5_unit_27 : decode cX5_unit 27 = .ok (.iload_n 1, 1) := by decide +kernel
theorem dX5_unit_28 : decode cX5_unit 28 = .ok (.invokevirtual 93, 3) := by decide +kernel
theorem dX5_unit_31 : decode cX5_unit 31 = .ok (.ifCond .eq 7, 3) := by decide +kernel
theorem dX5_unit_34 : decode cX5_unit 34 = .ok (.iconst 1, 1) := by decide +kernel
theorem dX5_unit_35 : decode cX5_unit 35 = .ok (.goto 4, 3) := by decide +kernel
theorem dX5_unit_38 : decode cX5_unit 38 = .ok (.iconst 0, 1) := by decide +kernel
theorem dX5_unit_39 : decode cX5_unit 39 = .ok (.aload_n 0, 1) := by decide +kernel
theorem dX5_unit_40 : decode cX5_unit 40 = .ok (.getfield 86, 3) := by decide +kernel
theorem dX5_unit_43 : decode cX5_unit 43 = .ok (.bipush 12, 2) := by decide +kernel
theorem dX5_unit_45 : decode cX5_unit 45 = .ok (.if_icmp .ne 7, 3) := by decide +kernel
theorem dX5_unit_48 : decode cX5_unit 48 = .ok (.iconst 1, 1) := by decide +kernel
theorem dX5_unit_49 : decode cX5_unit 49 = .ok (.goto 4, 3) := by decide +kernel
theorem dX5_unit_52 : decode cX5_unit 52 = .ok (.iconst 0, 1) := by decide +kernel
theorem dX5_unit_53 : decode cX5_unit 53 = .ok (.invokevirtual 79, 3) := by decide +kernel
theorem dX5_unit_56 : decode cX5_unit 56 = .ok (.ifCond .eq 5, 3) := by decide +kernel
theorem dX5_unit_59 : decode cX5_unit 59 = .ok (.iconst 0, 1) := by decide +kernel
theorem dX5_unit_60 : decode cX5_unit 60 = .ok (.ireturn, 1) := by decide +kernel
theorem dX5_unit_61 : decode cX5_unit 61 = .ok (.iconst 0, 1) := by decide +kernel
theorem dX5_unit_62 : decode cX5_unit 62 = .ok (.istore_n 3, 1) := by decide +kernel
theorem dX5_unit_63 : decode cX5_unit 63 = .ok (.iload_n 3, 1) := by decide +kernel
theorem dX5_unit_64 : decode cX5_unit 64 = .ok (.iconst 4, 1) := by decide +kernel
theorem dX5_unit_65 : decode cX5_unit 65 = .ok (.if_icmp .ge 24, 3) := by decide +kernel
theorem dX5_unit_68 : decode cX5_unit 68 = .ok (.aload_n 0, 1) := by decide +kernel
theorem dX5_unit_69 : decode cX5_unit 69 = .ok (.getfield 32, 3) := by decide +kernel
theorem dX5_unit_72 : decode cX5_unit 72 = .ok (.bipush 12, 2) := by decide +kernel
theorem dX5_unit_74 : decode cX5_unit 74 = .ok (.iload_n 3, 1) := by decide +kernel
theorem dX5_unit_75 : decode cX5_unit 75 = .ok (.imul, 1) := by decide +kernel
theorem dX5_unit_76 : decode cX5_unit 76 = .ok (.aload_n 0, 1) := by decide +kernel
theorem dX5_unit_77 : decode cX5_unit 77 = .ok (.getfield 86, 3) := by decide +kernel
theorem dX5_unit_80 : decode cX5_unit 80 = .ok (.iadd, 1) := by decide +kernel
theorem dX5_unit_81 : decode cX5_unit 81 = .ok (.iload_n 1, 1) := by decide +kernel
theorem dX5_unit_82 : decode cX5_unit 82 = .ok (.iastore, 1) := by decide +kernel
theorem dX5_unit_83 : decode cX5_unit 83 = .ok (.iinc 3 1, 3) := by decide +kernel
theorem dX5_unit_86 : decode cX5_unit 86 = .ok (.goto (-23), 3) := by decide +kernel
theorem dX5_unit_89 : decode cX5_unit 89 = .ok (.aload_n 0, 1) := by decide +kernel
theorem dX5_unit_90 : decode cX5_unit 90 = .ok (.dup, 1) := by decide +kernel
theorem dX5_unit_91 : decode cX5_unit 91 = .ok (.getfield 86, 3) := by decide +kernel
theorem dX5_unit_94 : decode cX5_unit 94 = .ok (.iconst 1, 1) := by decide +kernel
theorem dX5_unit_95 : decode cX5_unit 95 = .ok (.iadd, 1) := by decide +kernel
theorem dX5_unit_96 : decode cX5_unit 96 = .ok (.putfield 86, 3) := by decide +kernel
theorem dX5_unit_99 : decode cX5_unit 99 = .ok (.aload_n 0, 1) := by decide +kernel
theorem dX5_unit_100 : decode cX5_unit 100 = .ok (.getfield 86, 3) := by decide +kernel
theorem dX5_unit_103 : decode cX5_unit 103 = .ok (.iconst 1, 1) := by decide +kernel
theorem dX5_unit_104 : decode cX5_unit 104 = .ok (.isub, 1) := by decide +kernel
theorem dX5_unit_105 : decode cX5_unit 105 = .ok (.ireturn, 1) := by decide +kernel
set_option maxRecDepth 20000 in
theorem ggX5_change_X5_in : GoodIn wsX5_change wsX5_in := goodIn_r _ [7] (by decide +kernel) (by decide +kernel)
set_option maxRecDepth 20000 in
theorem gX5_change_X5_in : GoodIn wsX5_change (va_wsS RX5 68 yX5_in wsX5_in) := goodIn_app (goodIn_of _ (by decide +kernel)) ggX5_change_X5_in
set_option maxRecDepth 20000 in
theorem ggX5_change_X5_at : GoodIn wsX5_change wsX5_at := goodIn_r _ [11, 1, 3, 17, 18, 19, 20, 21, 22, 23, 24, 25, 26, 27, 28, 29, 30, 31, 32, 33, 34, 35, 36, 37, 38, 39, 40] (by decide +kernel) (by decide +kernel)
set_option maxRecDepth 20000 in
theorem gX5_change_X5_at : GoodIn wsX5_change (wsV RX5 89 RX5 yX5_at wsX5_at) := goodIn_app (goodIn_of _ (by decide +kernel)) ggX5_change_X5_at
set_option maxRecDepth 20000 in
theorem ggX5_change_X5_throwing : GoodIn wsX5_change wsX5_throwing := goodIn_r _ [15, 16, 17, 18, 19, 20, 21, 22, 23, 24, 25, 26, 27, 28, 29, 30, 31, 32, 33, 34, 35, 36, 37, 38, 39, 40] (by decide +kernel) (by decide +kernel)
set_option maxRecDepth 20000 in
theorem gX5_change_X5_throwing : GoodIn wsX5_change (wsV RX5 79 RX5 yX5_throwing wsX5_throwing) := goodIn_app (goodIn_of _ (by decide +kernel)) ggX5_change_X5_throwing
theorem dX5_change_0 : decode cX5_change 0 = .ok (.iload_n 1, 1) := by decide +kernel
theorem dX5_change_1 : decode cX5_change 1 = .ok (.iconst 1, 1) := by decide +kernel
theorem dX5_change_2 : decode cX5_change 2 = .ok (.iconst 3, 1) := by decide +kernel
theorem dX5_change_3 : decode cX5_change 3 = .ok (.invokestatic 68, 3) := by decide +kernel
theorem dX5_change_6 : decode cX5_change 6 = .ok (.ifCond .eq 31, 3) := by decide +kernel
theorem dX5_change_9 : decode cX5_change 9 = .ok (.iload_n 2, 1) := by decide +kernel
theorem dX5_change_10 : decode cX5_change 10 = .ok (.iconst 0, 1) := by decide +kernel
theorem dX5_change_11 : decode cX5_change 11 = .ok (.aload_n 0, 1) := by decide +kernel
theorem dX5_change_12 : decode cX5_change 12 = .ok (.getfield 86, 3) := by decide +kernel
theorem dX5_change_15 : decode cX5_change 15 = .ok (.iconst 1, 1) := by decide +kernel
theorem dX5_change_16 : decode cX5_change 16 = .ok (.isub, 1) := by decide +kernel
theorem dX5_change_17 : decode cX5_change 17 = .ok (.invokestatic 68, 3) := by decide +kernel
theorem dX5_change_20 : decode cX5_change 20 = .ok (.ifCond .eq 17, 3) := by decide +kernel
theorem dX5_change_23 : decode cX5_change 23 = .ok (.iload_n 3, 1) := by decide +kernel
theorem dX5_change_24 : decode cX5_change 24 = .ok (.iconst (-1), 1) := by decide +kernel
theorem dX5_change_25 : decode cX5_change 25 = .ok (.aload_n 0, 1) := by decide +kernel
theorem dX5_change_26 : decode cX5_change 26 = .ok (.getfield 76, 3) := by decide +kernel
theorem dX5_change_29 : decode cX5_change 29 = .ok (.iconst 1, 1) := by decide +kernel
theorem dX5_change_30 : decode cX5_change 30 = .ok (.isub, 1) := by decide +kernel
theorem dX5_change_31 : decode cX5_change 31 = .ok (.invokestatic 68, 3) := by decide +kernel
theorem dX5_change_34 : decode cX5_change 34 = .ok (.ifCond .ne 7, 3) := by decide +kernel
theorem dX5_change_37 : decode cX5_change 37 = .ok (.iconst 1, 1) := by decide +kernel
theorem dX5_change_38 : decode cX5_change 38 = .ok (.goto 4, 3) := by decide +kernel
theorem dX5_change_41 : decode cX5_change 41 = .ok (.iconst 0, 1) := by decide +kernel
theorem dX5_change_42 : decode cX5_change 42 = .ok (.istore 4, 2) := by decide +kernel
theorem dX5_change_44 : decode cX5_change 44 = .ok (.aload_n 0, 1) := by decide +kernel
theorem dX5_change_45 : decode cX5_change 45 = .ok (.iload 4, 2) := by decide +kernel
theorem dX5_change_47 : decode cX5_change 47 = .ok (.iload 4, 2) := by decide +kernel
theorem dX5_change_49 : decode cX5_change 49 = .ok (.ifCond .ne 22, 3) := by decide +kernel
theorem dX5_change_52 : decode cX5_change 52 = .ok (.iload_n 3, 1) := by decide +kernel
theorem dX5_change_53 : decode cX5_change 53 = .ok (.ifCond .lt 18, 3) := by decide +kernel
theorem dX5_change_56 : decode cX5_change 56 = .ok (.aload_n 0, 1) := by decide +kernel
theorem dX5_change_57 : decode cX5_change 57 = .ok (.iload_n 1, 1) := by decide +kernel
theorem dX5_change_58 : decode cX5_change 58 = .ok (.iload_n 3, 1) := by decide +kernel
theorem dX5_change_59 : decode cX5_change 59 = .ok (.iload_n 2, 1) := by decide +kernel
theorem dX5_change_60 : decode cX5_change 60 = .ok (.invokevirtual 89, 3) := by decide +kernel
theorem dX5_change_63 : decode cX5_change 63 = .ok (.iconst 4, 1) := by decide +kernel
theorem dX5_change_64 : decode cX5_change 64 = .ok (.if_icmp .lt 7, 3) := by decide +kernel
theorem dX5_change_67 : decode cX5_change 67 = .ok (.iconst 1, 1) := by decide +kernel
theorem dX5_change_68 : decode cX5_change 68 = .ok (.goto 4, 3) := by decide +kernel
theorem dX5_change_71 : decode cX5_change 71 = .ok (.iconst 0, 1) := by decide +kernel
theorem dX5_change_72 : decode cX5_change 72 = .ok (.iconst 0, 1) := by decide +kernel
theorem dX5_change_73 : decode cX5_change 73 = .ok (.invokevirtual 79, 3) := by decide +kernel
theorem dX5_change_76 : decode cX5_change 76 = .ok (.ifCond .eq 4, 3) := by decide +kernel
theorem dX5_change_79 : decode cX5_change 79 = .ok (.return_, 1) := by decide +kernel
theorem dX5_change_80 : decode cX5_change 80 = .ok (.aload_n 0, 1) := by decide +kernel
theorem dX5_change_81 : decode cX5_change 81 = .ok (.getfield 32, 3) := by decide +kernel
theorem dX5_change_84 : decode cX5_change 84 = .ok (.bipush 12, 2) := by decide +kernel
theorem dX5_change_86 : decode cX5_change 86 = .ok (.iload_n 1, 1) := by decide +kernel
theorem dX5_change_87 : decode cX5_change 87 = .ok (.imul, 1) := by decide +kernel
theorem dX5_change_88 : decode cX5_change 88 = .ok (.iload_n 2, 1) := by decide +kernel
theorem dX5_change_89 : decode cX5_change 89 = .ok (.iadd, 1) := by decide +kernel
theorem dX5_change_90 : decode cX5_change 90 = .ok (.iload_n 3, 1) := by decide +kernel
theorem dX5_change_91 : decode cX5_change 91 = .ok (.iastore, 1) := by decide +kernel
theorem dX5_change_92 : decode cX5_change 92 = .ok (.return_, 1) := by decide +kernel
set_option maxRecDepth 20000 in
theorem ggX5_rules_X5_in : GoodIn wsX5_rules wsX5_in := goodIn_r _ [6] (by decide +kernel) (by decide +kernel)
set_option maxRecDepth 20000 in
theorem gX5_rules_X5_in : GoodIn wsX5_rules (va_wsS RX5 68 yX5_in wsX5_in) := goodIn_app (goodIn_of _ (by decide +kernel)) ggX5_rules_X5_in
set_option maxRecDepth 20000 in
theorem ggX5_rules_X5_throwing : GoodIn wsX5_rules wsX5_throwing := goodIn_r _ [10, 11, 12, 13, 14, 15, 16, 17, 18, 19, 20, 21, 22, 23, 24, 25, 26, 27, 28, 29, 30, 31, 32, 33, 34, 35] (by decide +kernel) (by decide +kernel)
set_option maxRecDepth 20000 in
theorem gX5_rules_X5_throwing : GoodIn wsX5_rules (wsV RX5 79 RX5 yX5_throwing wsX5_throwing) := goodIn_app (goodIn_of _ (by decide +kernel)) ggX5_rules_X5_throwing
theorem dX5_rules_0 : decode cX5_rules 0 = .ok (.aload_n 0, 1) := by decide +kernel
theorem dX5_rules_1 : decode cX5_rules 1 = .ok (.iload_n 1, 1) := by decide +kernel
theorem dX5_rules_2 : decode cX5_rules 2 = .ok (.iconst 1, 1) := by decide +kernel
theorem dX5_rules_3 : decode cX5_rules 3 = .ok (.bipush 9, 2) := by decide +kernel
theorem dX5_rules_5 : decode cX5_rules 5 = .ok (.invokestatic 68, 3) := by decide +kernel
theorem dX5_rules_8 : decode cX5_rules 8 = .ok (.ifCond .eq 14, 3) := by decide +kernel
theorem dX5_rules_11 : decode cX5_rules 11 = .ok (.iload_n 2, 1) := by decide +kernel
theorem dX5_rules_12 : decode cX5_rules 12 = .ok (.iconst 0, 1) := by decide +kernel
theorem dX5_rules_13 : decode cX5_rules 13 = .ok (.sipush 1000, 3) := by decide +kernel
theorem dX5_rules_16 : decode cX5_rules 16 = .ok (.invokestatic 68, 3) := by decide +kernel
theorem dX5_rules_19 : decode cX5_rules 19 = .ok (.ifCond .ne 7, 3) := by decide +kernel
theorem dX5_rules_22 : decode cX5_rules 22 = .ok (.iconst 1, 1) := by decide +kernel
theorem dX5_rules_23 : decode cX5_rules 23 = .ok (.goto 4, 3) := by decide +kernel
theorem dX5_rules_26 : decode cX5_rules 26 = .ok (.iconst 0, 1) := by decide +kernel
theorem dX5_rules_27 : decode cX5_rules 27 = .ok (.iconst 0, 1) := by decide +kernel
theorem dX5_rules_28 : decode cX5_rules 28 = .ok (.iconst 0, 1) := by decide +kernel
theorem dX5_rules_29 : decode cX5_rules 29 = .ok (.invokevirtual 79, 3) := by decide +kernel
theorem dX5_rules_32 : decode cX5_rules 32 = .ok (.ifCond .eq 4, 3) := by decide +kernel
theorem dX5_rules_35 : decode cX5_rules 35 = .ok (.return_, 1) := by decide +kernel
theorem dX5_rules_36 : decode cX5_rules 36 = .ok (.aload_n 0, 1) := by decide +kernel
theorem dX5_rules_37 : decode cX5_rules 37 = .ok (.iload_n 1, 1) := by decide +kernel
theorem dX5_rules_38 : decode cX5_rules 38 = .ok (.putfield 7, 3) := by decide +kernel
theorem dX5_rules_41 : decode cX5_rules 41 = .ok (.aload_n 0, 1) := by decide +kernel
theorem dX5_rules_42 : decode cX5_rules 42 = .ok (.iload_n 2, 1) := by decide +kernel
theorem dX5_rules_43 : decode cX5_rules 43 = .ok (.putfield 13, 3) := by decide +kernel
theorem dX5_rules_46 : decode cX5_rules 46 = .ok (.return_, 1) := by decide +kernel
theorem dX5_mix_0 : decode cX5_mix 0 = .ok (.iload_n 0, 1) := by decide +kernel
theorem dX5_mix_1 : decode cX5_mix 1 = .ok (.iload_n 0, 1) := by decide +kernel
theorem dX5_mix_2 : decode cX5_mix 2 = .ok (.bipush 15, 2) := by decide +kernel
theorem dX5_mix_4 : decode cX5_mix 4 = .ok (.iushr, 1) := by decide +kernel
theorem dX5_mix_5 : decode cX5_mix 5 = .ok (.ixor, 1) := by decide +kernel
theorem dX5_mix_6 : decode cX5_mix 6 = .ok (.istore_n 1, 1) := by decide +kernel
theorem dX5_mix_7 : decode cX5_mix 7 = .ok (.iload_n 1, 1) := by decide +kernel
theorem dX5_mix_8 : decode cX5_mix 8 = .ok (.ldc 97, 2) := by decide +kernel
theorem dX5_mix_10 : decode cX5_mix 10 = .ok (.imul, 1) := by decide +kernel
theorem dX5_mix_11 : decode cX5_mix 11 = .ok (.istore_n 1, 1) := by decide +kernel
theorem dX5_mix_12 : decode cX5_mix 12 = .ok (.iload_n 1, 1) := by decide +kernel
theorem dX5_mix_13 : decode cX5_mix 13 = .ok (.iload_n 1, 1) := by decide +kernel
theorem dX5_mix_14 : decode cX5_mix 14 = .ok (.bipush 13, 2) := by decide +kernel
theorem dX5_mix_16 : decode cX5_mix 16 = .ok (.iushr, 1) := by decide +kernel
theorem dX5_mix_17 : decode cX5_mix 17 = .ok (.ixor, 1) := by decide +kernel
theorem dX5_mix_18 : decode cX5_mix 18 = .ok (.istore_n 1, 1) := by decide +kernel
theorem dX5_mix_19 : decode cX5_mix 19 = .ok (.iload_n 1, 1) := by decide +kernel
theorem dX5_mix_20 : decode cX5_mix 20 = .ok (.ldc 98, 2) := by decide +kernel
theorem dX5_mix_22 : decode cX5_mix 22 = .ok (.imul, 1) := by decide +kernel
theorem dX5_mix_23 : decode cX5_mix 23 = .ok (.istore_n 1, 1) := by decide +kernel
theorem dX5_mix_24 : decode cX5_mix 24 = .ok (.iload_n 1, 1) := by decide +kernel
theorem dX5_mix_25 : decode cX5_mix 25 = .ok (.iload_n 1, 1) := by decide +kernel
theorem dX5_mix_26 : decode cX5_mix 26 = .ok (.bipush 16, 2) := by decide +kernel
theorem dX5_mix_28 : decode cX5_mix 28 = .ok (.iushr, 1) := by decide +kernel
theorem dX5_mix_29 : decode cX5_mix 29 = .ok (.ixor, 1) := by decide +kernel
theorem dX5_mix_30 : decode cX5_mix 30 = .ok (.ireturn, 1) := by decide +kernel
theorem dX5_areaOf_0 : decode cX5_areaOf 0 = .ok (.iconst 0, 1) := by decide +kernel
theorem dX5_areaOf_1 : decode cX5_areaOf 1 = .ok (.istore_n 2, 1) := by decide +kernel
theorem dX5_areaOf_2 : decode cX5_areaOf 2 = .ok (.iconst 0, 1) := by decide +kernel
theorem dX5_areaOf_3 : decode cX5_areaOf 3 = .ok (.istore_n 3, 1) := by decide +kernel
theorem dX5_areaOf_4 : decode cX5_areaOf 4 = .ok (.iload_n 3, 1) := by decide +kernel
theorem dX5_areaOf_5 : decode cX5_areaOf 5 = .ok (.aload_n 0, 1) := by decide +kernel
theorem dX5_areaOf_6 : decode cX5_areaOf 6 = .ok (.getfield 83, 3) := by decide +kernel
theorem dX5_areaOf_9 : decode cX5_areaOf 9 = .ok (.if_icmp .ge 18, 3) := by decide +kernel
theorem dX5_areaOf_12 : decode cX5_areaOf 12 = .ok (.iload_n 2, 1) := by decide +kernel
theorem dX5_areaOf_13 : decode cX5_areaOf 13 = .ok (.aload_n 0, 1) := by decide +kernel
theorem dX5_areaOf_14 : decode cX5_areaOf 14 = .ok (.getfield 29, 3) := by decide +kernel
theorem dX5_areaOf_17 : decode cX5_areaOf 17 = .ok (.iload_n 3, 1) := by decide +kernel
theorem dX5_areaOf_18 : decode cX5_areaOf 18 = .ok (.iaload, 1) := by decide +kernel
theorem dX5_areaOf_19 : decode cX5_areaOf 19 = .ok (.iadd, 1) := by decide +kernel
theorem dX5_areaOf_20 : decode cX5_areaOf 20 = .ok (.istore_n 2, 1) := by decide +kernel
theorem dX5_areaOf_21 : decode cX5_areaOf 21 = .ok (.iinc 3 1, 3) := by decide +kernel
theorem dX5_areaOf_24 : decode cX5_areaOf 24 = .ok (.goto (-20), 3) := by decide +kernel
theorem dX5_areaOf_27 : decode cX5_areaOf 27 = .ok (.iload_n 1, 1) := by decide +kernel
theorem dX5_areaOf_28 : decode cX5_areaOf 28 = .ok (.iload_n 2, 1) := by decide +kernel
theorem dX5_areaOf_29 : decode cX5_areaOf 29 = .ok (.irem, 1) := by decide +kernel
theorem dX5_areaOf_30 : decode cX5_areaOf 30 = .ok (.istore_n 3, 1) := by decide +kernel
theorem dX5_areaOf_31 : decode cX5_areaOf 31 = .ok (.iconst 0, 1) := by decide +kernel
theorem dX5_areaOf_32 : decode cX5_areaOf 32 = .ok (.istore 4, 2) := by decide +kernel
theorem dX5_areaOf_34 : decode cX5_areaOf 34 = .ok (.iload_n 3, 1) := by decide +kernel
theorem dX5_areaOf_35 : decode cX5_areaOf 35 = .ok (.aload_n 0, 1) := by decide +kernel
theorem dX5_areaOf_36 : decode cX5_areaOf 36 = .ok (.getfield 29, 3) := by decide +kernel
theorem dX5_areaOf_39 : decode cX5_areaOf 39 = .ok (.iload 4, 2) := by decide +kernel
theorem dX5_areaOf_41 : decode cX5_areaOf 41 = .ok (.iaload, 1) := by decide +kernel
theorem dX5_areaOf_42 : decode cX5_areaOf 42 = .ok (.if_icmp .lt 19, 3) := by decide +kernel
theorem dX5_areaOf_45 : decode cX5_areaOf 45 = .ok (.iload_n 3, 1) := by decide +kernel
theorem dX5_areaOf_46 : decode cX5_areaOf 46 = .ok (.aload_n 0, 1) := by decide +kernel
theorem dX5_areaOf_47 : decode cX5_areaOf 47 = .ok (.getfield 29, 3) := by decide +kernel
theorem dX5_areaOf_50 : decode cX5_areaOf 50 = .ok (.iload 4, 2) := by decide +kernel
theorem dX5_areaOf_52 : decode cX5_areaOf 52 = .ok (.iaload, 1) := by decide +kernel
theorem dX5_areaOf_53 : decode cX5_areaOf 53 = .ok (.isub, 1) := by decide +kernel
theorem dX5_areaOf_54 : decode cX5_areaOf 54 = .ok (.istore_n 3, 1) := by decide +kernel
theorem dX5_areaOf_55 : decode cX5_areaOf 55 = .ok (.iinc 4 1, 3) := by decide +kernel
theorem dX5_areaOf_58 : decode cX5_areaOf 58 = .ok (.goto (-24), 3) := by decide +kernel
theorem dX5_areaOf_61 : decode cX5_areaOf 61 = .ok (.iload 4, 2) := by decide +kernel
theorem dX5_areaOf_63 : decode cX5_areaOf 63 = .ok (.ireturn, 1) := by decide +kernel
set_option maxRecDepth 20000 in
theorem ggX5_draw_X5_mix : GoodIn wsX5_draw wsX5_mix := goodIn_r _ [13, 14, 15] (by decide +kernel) (by decide +kernel)
set_option maxRecDepth 20000 in
theorem gX5_draw_X5_mix : GoodIn wsX5_draw (va_wsS RX5 103 yX5_mix wsX5_mix) := goodIn_app (goodIn_of _ (by decide +kernel)) ggX5_draw_X5_mix
set_option maxRecDepth 20000 in
theorem ggX5_draw_X5_areaOf : GoodIn wsX5_draw wsX5_areaOf := goodIn_r _ [19, 20, 21, 22, 23, 24, 25, 26, 27, 28, 29, 30, 31, 32, 33, 34, 35, 36, 37, 38, 39, 40, 41, 42, 43, 44, 45] (by decide +kernel) (by decide +kernel)
set_option maxRecDepth 20000 in
theorem gX5_draw_X5_areaOf : GoodIn wsX5_draw (wsV RX5 107 RX5 yX5_areaOf wsX5_areaOf) := goodIn_app (goodIn_of _ (by decide +kernel)) ggX5_draw_X5_areaOf
theorem dX5_draw_0 : decode cX5_draw 0 = .ok (.aload_n 0, 1) := by decide +kernel
theorem dX5_draw_1 : decode cX5_draw 1 = .ok (.iload_n 3, 1) := by decide +kernel
theorem dX5_draw_2 : decode cX5_draw 2 = .ok (.putfield 99, 3) := by decide +kernel
theorem dX5_draw_5 : decode cX5_draw 5 = .ok (.iconst 0, 1) := by decide +kernel
theorem dX5_draw_6 : decode cX5_draw 6 = .ok (.istore 4, 2) := by decide +kernel
theorem dX5_draw_8 : decode cX5_draw 8 = .ok (.iload 4, 2) := by decide +kernel
theorem dX5_draw_10 : decode cX5_draw 10 = .ok (.iload_n 3, 1) := by decide +kernel
theorem dX5_draw_11 : decode cX5_draw 11 = .ok (.if_icmp .ge 127, 3) := by decide +kernel
theorem dX5_draw_14 : decode cX5_draw 14 = .ok (.iload_n 1, 1) := by decide +kernel
theorem dX5_draw_15 : decode cX5_draw 15 = .ok (.ldc 102, 2) := by decide +kernel
theorem dX5_draw_17 : decode cX5_draw 17 = .ok (.iload_n 2, 1) := by decide +kernel
theorem dX5_draw_18 : decode cX5_draw 18 = .ok (.imul, 1) := by decide +kernel
theorem dX5_draw_19 : decode cX5_draw 19 = .ok (.iadd, 1) := by decide +kernel
theorem dX5_draw_20 : decode cX5_draw 20 = .ok (.bipush 31, 2) := by decide +kernel
theorem dX5_draw_22 : decode cX5_draw 22 = .ok (.iload 4, 2) := by decide +kernel
theorem dX5_draw_24 : decode cX5_draw 24 = .ok (.imul, 1) := by decide +kernel
theorem dX5_draw_25 : decode cX5_draw 25 = .ok (.iadd, 1) := by decide +kernel
theorem dX5_draw_26 : decode cX5_draw 26 = .ok (.invokestatic 103, 3) := by decide +kernel
theorem dX5_draw_29 : decode cX5_draw 29 = .ok (.istore 5, 2) := by decide +kernel
theorem dX5_draw_31 : decode cX5_draw 31 = .ok (.iload 5, 2) := by decide +kernel
theorem dX5_draw_33 : decode cX5_draw 33 = .ok (.iconst 1, 1) := by decide +kernel
theorem dX5_draw_34 : decode cX5_draw 34 = .ok (.iadd, 1) := by decide +kernel
theorem dX5_draw_35 : decode cX5_draw 35 = .ok (.invokestatic 103, 3) := by decide +kernel
theorem dX5_draw_38 : decode cX5_draw 38 = .ok (.istore 6, 2) := by decide +kernel
theorem dX5_draw_40 : decode cX5_draw 40 = .ok (.iload 6, 2) := by decide +kernel
theorem dX5_draw_42 : decode cX5_draw 42 = .ok (.iconst 1, 1) := by decide +kernel
theorem dX5_draw_43 : decode cX5_draw 43 = .ok (.iadd, 1) := by decide +kernel
theorem dX5_draw_44 : decode cX5_draw 44 = .ok (.invokestatic 103, 3) := by decide +kernel
theorem dX5_draw_47 : decode cX5_draw 47 = .ok (.istore 7, 2) := by decide +kernel
theorem dX5_draw_49 : decode cX5_draw 49 = .ok (.aload_n 0, 1) := by decide +kernel
theorem dX5_draw_50 : decode cX5_draw 50 = .ok (.getfield 35, 3) := by decide +kernel
theorem dX5_draw_53 : decode cX5_draw 53 = .ok (.iload 4, 2) := by decide +kernel
theorem dX5_draw_55 : decode cX5_draw 55 = .ok (.iload 5, 2) := by decide +kernel
theorem dX5_draw_57 : decode cX5_draw 57 = .ok (.iconst 4, 1) := by decide +kernel
theorem dX5_draw_58 : decode cX5_draw 58 = .ok (.iushr, 1) := by decide +kernel
theorem dX5_draw_59 : decode cX5_draw 59 = .ok (.sipush 1440, 3) := by decide +kernel
theorem dX5_draw_62 : decode cX5_draw 62 = .ok (.irem, 1) := by decide +kernel
theorem dX5_draw_63 : decode cX5_draw 63 = .ok (.iastore, 1) := by decide +kernel
theorem dX5_draw_64 : decode cX5_draw 64 = .ok (.aload_n 0, 1) := by decide +kernel
theorem dX5_draw_65 : decode cX5_draw 65 = .ok (.getfield 41, 3) := by decide +kernel
theorem dX5_draw_68 : decode cX5_draw 68 = .ok (.iload 4, 2) := by decide +kernel
theorem dX5_draw_70 : decode cX5_draw 70 = .ok (.iload 6, 2) := by decide +kernel
theorem dX5_draw_72 : decode cX5_draw 72 = .ok (.iconst 3, 1) := by decide +kernel
theorem dX5_draw_73 : decode cX5_draw 73 = .ok (.iand, 1) := by decide +kernel
theorem dX5_draw_74 : decode cX5_draw 74 = .ok (.iastore, 1) := by decide +kernel
theorem dX5_draw_75 : decode cX5_draw 75 = .ok (.aload_n 0, 1) := by decide +kernel
theorem dX5_draw_76 : decode cX5_draw 76 = .ok (.getfield 44, 3) := by decide +kernel
theorem dX5_draw_79 : decode cX5_draw 79 = .ok (.iload 4, 2) := by decide +kernel
theorem dX5_draw_81 : decode cX5_draw 81 = .ok (.bipush 10, 2) := by decide +kernel
theorem dX5_draw_83 : decode cX5_draw 83 = .ok (.iload 6, 2) := by decide +kernel
theorem dX5_draw_85 : decode cX5_draw 85 = .ok (.bipush 8, 2) := by decide +kernel
theorem dX5_draw_87 : decode cX5_draw 87 = .ok (.iushr, 1) := by decide +kernel
theorem dX5_draw_88 : decode cX5_draw 88 = .ok (.bipush 90, 2) := by decide +kernel
theorem dX5_draw_90 : decode cX5_draw 90 = .ok (.irem, 1) := by decide +kernel
theorem dX5_draw_91 : decode cX5_draw 91 = .ok (.iadd, 1) := by decide +kernel
theorem dX5_draw_92 : decode cX5_draw 92 = .ok (.iastore, 1) := by decide +kernel
theorem dX5_draw_93 : decode cX5_draw 93 = .ok (.aload_n 0, 1) := by decide +kernel
theorem dX5_draw_94 : decode cX5_draw 94 = .ok (.getfield 38, 3) := by decide +kernel
theorem dX5_draw_97 : decode cX5_draw 97 = .ok (.iload 4, 2) := by decide +kernel
theorem dX5_draw_99 : decode cX5_draw 99 = .ok (.aload_n 0, 1) := by decide +kernel
theorem dX5_draw_100 : decode cX5_draw 100 = .ok (.iload 7, 2) := by decide +kernel
theorem dX5_draw_102 : decode cX5_draw 102 = .ok (.iconst 4, 1) := by decide +kernel
theorem dX5_draw_103 : decode cX5_draw 103 = .ok (.iushr, 1) := by decide +kernel
theorem dX5_draw_104 : decode cX5_draw 104 = .ok (.invokevirtual 107, 3) := by decide +kernel
theorem dX5_draw_107 : decode cX5_draw 107 = .ok (.iastore, 1) := by decide +kernel
theorem dX5_draw_108 : decode cX5_draw 108 = .ok (.aload_n 0, 1) := by decide +kernel
theorem dX5_draw_109 : decode cX5_draw 109 = .ok (.getfield 47, 3) := by decide +kernel
theorem dX5_draw_112 : decode cX5_draw 112 = .ok (.iload 4, 2) := by decide +kernel
theorem dX5_draw_114 : decode cX5_draw 114 = .ok (.iconst (-1), 1) := by decide +kernel
theorem dX5_draw_115 : decode cX5_draw 115 = .ok (.iastore, 1) := by decide +kernel
theorem dX5_draw_116 : decode cX5_draw 116 = .ok (.aload_n 0, 1) := by decide +kernel
theorem dX5_draw_117 : decode cX5_draw 117 = .ok (.getfield 50, 3) := by decide +kernel
theorem dX5_draw_120 : decode cX5_draw 120 = .ok (.iload 4, 2) := by decide +kernel
theorem dX5_draw_122 : decode cX5_draw 122 = .ok (.iconst (-1), 1) := by decide +kernel
theorem dX5_draw_123 : decode cX5_draw 123 = .ok (.iastore, 1) := by decide +kernel
theorem dX5_draw_124 : decode cX5_draw 124 = .ok (.aload_n 0, 1) := by decide +kernel
theorem dX5_draw_125 : decode cX5_draw 125 = .ok (.getfield 53, 3) := by decide +kernel
theorem dX5_draw_128 : decode cX5_draw 128 = .ok (.iload 4, 2) := by decide +kernel
theorem dX5_draw_130 : decode cX5_draw 130 = .ok (.iconst 0, 1) := by decide +kernel
theorem dX5_draw_131 : decode cX5_draw 131 = .ok (.iastore, 1) := by decide +kernel
theorem dX5_draw_132 : decode cX5_draw 132 = .ok (.iinc 4 1, 3) := by decide +kernel
theorem dX5_draw_135 : decode cX5_draw 135 = .ok (.goto (-127), 3) := by decide +kernel
theorem dX5_draw_138 : decode cX5_draw 138 = .ok (.return_, 1) := by decide +kernel
theorem dX5_size_0 : decode cX5_size 0 = .ok (.iload_n 0, 1) := by decide +kernel
theorem dX5_size_1 : decode cX5_size 1 = .ok (.ifCond .ge 8, 3) := by decide +kernel
theorem dX5_size_4 : decode cX5_size 4 = .ok (.iload_n 0, 1) := by decide +kernel
theorem dX5_size_5 : decode cX5_size 5 = .ok (.ineg, 1) := by decide +kernel
theorem dX5_size_6 : decode cX5_size 6 = .ok (.goto 4, 3) := by decide +kernel
theorem dX5_size_9 : decode cX5_size 9 = .ok (.iload_n 0, 1) := by decide +kernel
theorem dX5_size_10 : decode cX5_size 10 = .ok (.ireturn, 1) := by decide +kernel
set_option maxRecDepth 20000 in
theorem ggX5_wayOf_X5_size : GoodIn wsX5_wayOf wsX5_size := goodIn_r _ [9] (by decide +kernel) (by decide +kernel)
set_option maxRecDepth 20000 in
theorem gX5_wayOf_X5_size : GoodIn wsX5_wayOf (va_wsS RX5 110 yX5_size wsX5_size) := goodIn_app (goodIn_of _ (by decide +kernel)) ggX5_wayOf_X5_size
theorem dX5_wayOf_0 : decode cX5_wayOf 0 = .ok (.aload_n 0, 1) := by decide +kernel
theorem dX5_wayOf_1 : decode cX5_wayOf 1 = .ok (.getfield 16, 3) := by decide +kernel
theorem dX5_wayOf_4 : decode cX5_wayOf 4 = .ok (.iload_n 1, 1) := by decide +kernel
theorem dX5_wayOf_5 : decode cX5_wayOf 5 = .ok (.iaload, 1) := by decide +kernel
theorem dX5_wayOf_6 : decode cX5_wayOf 6 = .ok (.aload_n 0, 1) := by decide +kernel
theorem dX5_wayOf_7 : decode cX5_wayOf 7 = .ok (.getfield 23, 3) := by decide +kernel
theorem dX5_wayOf_10 : decode cX5_wayOf 10 = .ok (.iload_n 2, 1) := by decide +kernel
theorem dX5_wayOf_11 : decode cX5_wayOf 11 = .ok (.iaload, 1) := by decide +kernel
theorem dX5_wayOf_12 : decode cX5_wayOf 12 = .ok (.isub, 1) := by decide +kernel
theorem dX5_wayOf_13 : decode cX5_wayOf 13 = .ok (.invokestatic 110, 3) := by decide +kernel
theorem dX5_wayOf_16 : decode cX5_wayOf 16 = .ok (.aload_n 0, 1) := by decide +kernel
theorem dX5_wayOf_17 : decode cX5_wayOf 17 = .ok (.getfield 20, 3) := by decide +kernel
theorem dX5_wayOf_20 : decode cX5_wayOf 20 = .ok (.iload_n 1, 1) := by decide +kernel
theorem dX5_wayOf_21 : decode cX5_wayOf 21 = .ok (.iaload, 1) := by decide +kernel
theorem dX5_wayOf_22 : decode cX5_wayOf 22 = .ok (.aload_n 0, 1) := by decide +kernel
theorem dX5_wayOf_23 : decode cX5_wayOf 23 = .ok (.getfield 26, 3) := by decide +kernel
theorem dX5_wayOf_26 : decode cX5_wayOf 26 = .ok (.iload_n 2, 1) := by decide +kernel
theorem dX5_wayOf_27 : decode cX5_wayOf 27 = .ok (.iaload, 1) := by decide +kernel
theorem dX5_wayOf_28 : decode cX5_wayOf 28 = .ok (.isub, 1) := by decide +kernel
theorem dX5_wayOf_29 : decode cX5_wayOf 29 = .ok (.invokestatic 110, 3) := by decide +kernel
theorem dX5_wayOf_32 : decode cX5_wayOf 32 = .ok (.iadd, 1) := by decide +kernel
theorem dX5_wayOf_33 : decode cX5_wayOf 33 = .ok (.istore_n 3, 1) := by decide +kernel
theorem dX5_wayOf_34 : decode cX5_wayOf 34 = .ok (.iload_n 3, 1) := by decide +kernel
theorem dX5_wayOf_35 : decode cX5_wayOf 35 = .ok (.aload_n 0, 1) := by decide +kernel
theorem dX5_wayOf_36 : decode cX5_wayOf 36 = .ok (.getfield 7, 3) := by decide +kernel
theorem dX5_wayOf_39 : decode cX5_wayOf 39 = .ok (.imul, 1) := by decide +kernel
theorem dX5_wayOf_40 : decode cX5_wayOf 40 = .ok (.iconst 3, 1) := by decide +kernel
theorem dX5_wayOf_41 : decode cX5_wayOf 41 = .ok (.iadd, 1) := by decide +kernel
theorem dX5_wayOf_42 : decode cX5_wayOf 42 = .ok (.iconst 4, 1) := by decide +kernel
theorem dX5_wayOf_43 : decode cX5_wayOf 43 = .ok (.idiv, 1) := by decide +kernel
theorem dX5_wayOf_44 : decode cX5_wayOf 44 = .ok (.ireturn, 1) := by decide +kernel
theorem dX5_next_0 : decode cX5_next 0 = .ok (.iconst (-1), 1) := by decide +kernel
theorem dX5_next_1 : decode cX5_next 1 = .ok (.istore_n 2, 1) := by decide +kernel
theorem dX5_next_2 : decode cX5_next 2 = .ok (.iconst 0, 1) := by decide +kernel
theorem dX5_next_3 : decode cX5_next 3 = .ok (.istore_n 3, 1) := by decide +kernel
theorem dX5_next_4 : decode cX5_next 4 = .ok (.iload_n 3, 1) := by decide +kernel
theorem dX5_next_5 : decode cX5_next 5 = .ok (.aload_n 0, 1) := by decide +kernel
theorem dX5_next_6 : decode cX5_next 6 = .ok (.getfield 99, 3) := by decide +kernel
theorem dX5_next_9 : decode cX5_next 9 = .ok (.if_icmp .ge 107, 3) := by decide +kernel
theorem dX5_next_12 : decode cX5_next 12 = .ok (.aload_n 0, 1) := by decide +kernel
theorem dX5_next_13 : decode cX5_next 13 = .ok (.getfield 47, 3) := by decide +kernel
theorem dX5_next_16 : decode cX5_next 16 = .ok (.iload_n 3, 1) := by decide +kernel
theorem dX5_next_17 : decode cX5_next 17 = .ok (.iaload, 1) := by decide +kernel
theorem dX5_next_18 : decode cX5_next 18 = .ok (.ifCond .ge 17, 3) := by decide +kernel
theorem dX5_next_21 : decode cX5_next 21 = .ok (.aload_n 0, 1) := by decide +kernel
theorem dX5_next_22 : decode cX5_next 22 = .ok (.getfield 35, 3) := by decide +kernel
theorem dX5_next_25 : decode cX5_next 25 = .ok (.iload_n 3, 1) := by decide +kernel
theorem dX5_next_26 : decode cX5_next 26 = .ok (.iaload, 1) := by decide +kernel
theorem dX5_next_27 : decode cX5_next 27 = .ok (.iload_n 1, 1) := by decide +kernel
theorem dX5_next_28 : decode cX5_next 28 = .ok (.if_icmp .gt 7, 3) := by decide +kernel
theorem dX5_next_31 : decode cX5_next 31 = .ok (.iconst 1, 1) := by decide +kernel
theorem dX5_next_32 : decode cX5_next 32 = .ok (.goto 4, 3) := by decide +kernel
theorem dX5_next_35 : decode cX5_next 35 = .ok (.iconst 0, 1) := by decide +kernel
theorem dX5_next_36 : decode cX5_next 36 = .ok (.istore 4, 2) := by decide +kernel
theorem dX5_next_38 : decode cX5_next 38 = .ok (.iload_n 2, 1) := by decide +kernel
theorem dX5_next_39 : decode cX5_next 39 = .ok (.ifCond .lt 48, 3) := by decide +kernel
theorem dX5_next_42 : decode cX5_next 42 = .ok (.aload_n 0, 1) := by decide +kernel
theorem dX5_next_43 : decode cX5_next 43 = .ok (.getfield 41, 3) := by decide +kernel
theorem dX5_next_46 : decode cX5_next 46 = .ok (.iload_n 3, 1) := by decide +kernel
theorem dX5_next_47 : decode cX5_next 47 = .ok (.iaload, 1) := by decide +kernel
theorem dX5_next_48 : decode cX5_next 48 = .ok (.aload_n 0, 1) := by decide +kernel
theorem dX5_next_49 : decode cX5_next 49 = .ok (.getfield 41, 3) := by decide +kernel
theorem dX5_next_52 : decode cX5_next 52 = .ok (.iload_n 2, 1) := by decide +kernel
theorem dX5_next_53 : decode cX5_next 53 = .ok (.iaload, 1) := by decide +kernel
theorem dX5_next_54 : decode cX5_next 54 = .ok (.if_icmp .gt 33, 3) := by decide +kernel
theorem dX5_next_57 : decode cX5_next 57 = .ok (.aload_n 0, 1) := by decide +kernel
theorem dX5_next_58 : decode cX5_next 58 = .ok (.getfield 41, 3) := by decide +kernel
theorem dX5_next_61 : decode cX5_next 61 = .ok (.iload_n 3, 1) := by decide +kernel
theorem dX5_next_62 : decode cX5_next 62 = .ok (.iaload, 1) := by decide +kernel
theorem dX5_next_63 : decode cX5_next 63 = .ok (.aload_n 0, 1) := by decide +kernel
theorem dX5_next_64 : decode cX5_next 64 = .ok (.getfield 41, 3) := by decide +kernel
theorem dX5_next_67 : decode cX5_next 67 = .ok (.iload_n 2, 1) := by decide +kernel
theorem dX5_next_68 : decode cX5_next 68 = .ok (.iaload, 1) := by decide +kernel
theorem dX5_next_69 : decode cX5_next 69 = .ok (.if_icmp .ne 22, 3) := by decide +kernel
theorem dX5_next_72 : decode cX5_next 72 = .ok (.aload_n 0, 1) := by decide +kernel
theorem dX5_next_73 : decode cX5_next 73 = .ok (.getfield 35, 3) := by decide +kernel
theorem dX5_next_76 : decode cX5_next 76 = .ok (.iload_n 3, 1) := by decide +kernel
theorem dX5_next_77 : decode cX5_next 77 = .ok (.iaload, 1) := by decide +kernel
theorem dX5_next_78 : decode cX5_next 78 = .ok (.aload_n 0, 1) := by decide +kernel
theorem dX5_next_79 : decode cX5_next 79 = .ok (.getfield 35, 3) := by decide +kernel
theorem dX5_next_82 : decode cX5_next 82 = .ok (.iload_n 2, 1) := by decide +kernel
theorem dX5_next_83 : decode cX5_next 83 = .ok (.iaload, 1) := by decide +kernel
theorem dX5_next_84 : decode cX5_next 84 = .ok (.if_icmp .ge 7, 3) := by decide +kernel
theorem dX5_next_87 : decode cX5_next 87 = .ok (.iconst 1, 1) := by decide +kernel
theorem dX5_next_88 : decode cX5_next 88 = .ok (.goto 4, 3) := by decide +kernel
theorem dX5_next_91 : decode cX5_next 91 = .ok (.iconst 0, 1) := by decide +kernel
theorem dX5_next_92 : decode cX5_next 92 = .ok (.istore 5, 2) := by decide +kernel
theorem dX5_next_94 : decode cX5_next 94 = .ok (.iload 4, 2) := by decide +kernel
theorem dX5_next_96 : decode cX5_next 96 = .ok (.ifCond .eq 12, 3) := by decide +kernel
theorem dX5_next_99 : decode cX5_next 99 = .ok (.iload 5, 2) := by decide +kernel
theorem dX5_next_101 : decode cX5_next 101 = .ok (.ifCond .eq 7, 3) := by decide +kernel
theorem dX5_next_104 : decode cX5_next 104 = .ok (.iload_n 3, 1) := by decide +kernel
theorem dX5_next_105 : decode cX5_next 105 = .ok (.goto 4, 3) := by decide +kernel
theorem dX5_next_108 : decode cX5_next 108 = .ok (.iload_n 2, 1) := by decide +kernel
theorem dX5_next_109 : decode cX5_next 109 = .ok (.istore_n 2, 1) := by decide +kernel
theorem dX5_next_110 : decode cX5_next 110 = .ok (.iinc 3 1, 3) := by decide +kernel
theorem dX5_next_113 : decode cX5_next 113 = .ok (.goto (-109), 3) := by decide +kernel
theorem dX5_next_116 : decode cX5_next 116 = .ok (.iload_n 2, 1) := by decide +kernel
theorem dX5_next_117 : decode cX5_next 117 = .ok (.ireturn, 1) := by decide +kernel
set_option maxRecDepth 20000 in
theorem ggX5_nearest_X5_wayOf : GoodIn wsX5_nearest wsX5_wayOf := goodIn_r _ [9, 10, 11, 12, 13, 14, 15, 16, 8, 17, 18, 19, 20, 21, 22, 23, 24, 25, 26, 27, 28, 29, 30, 31, 32, 33, 34, 35, 36, 37, 38, 39, 40, 41] (by decide +kernel) (by decide +kernel)
set_option maxRecDepth 20000 in
theorem gX5_nearest_X5_wayOf : GoodIn wsX5_nearest (wsV RX5 114 RX5 yX5_wayOf wsX5_wayOf) := goodIn_app (goodIn_of _ (by decide +kernel)) ggX5_nearest_X5_wayOf
