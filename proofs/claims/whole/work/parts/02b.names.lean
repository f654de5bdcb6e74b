theorem dX0_init_0 : decode cX0_init 0 = .ok (.aload_n 0, 1) := by decide +kernel
theorem dX0_init_1 : decode cX0_init 1 = .ok (.invokespecial 3, 3) := by decide +kernel
theorem dX0_init_4 : decode cX0_init 4 = .ok (.aload_n 0, 1) := by decide +kernel
theorem dX0_init_5 : decode cX0_init 5 = .ok (.bipush 60, 2) := by decide +kernel
theorem dX0_init_7 : decode cX0_init 7 = .ok (.newarray .int, 2) := by decide +kernel
theorem dX0_init_9 : decode cX0_init 9 = .ok (.putfield 9, 3) := by decide +kernel
theorem dX0_init_12 : decode cX0_init 12 = .ok (.aload_n 0, 1) := by decide +kernel
theorem dX0_init_13 : decode cX0_init 13 = .ok (.bipush 60, 2) := by decide +kernel
theorem dX0_init_15 : decode cX0_init 15 = .ok (.newarray .int, 2) := by decide +kernel
theorem dX0_init_17 : decode cX0_init 17 = .ok (.putfield 15, 3) := by decide +kernel
theorem dX0_init_20 : decode cX0_init 20 = .ok (.aload_n 0, 1) := by decide +kernel
theorem dX0_init_21 : decode cX0_init 21 = .ok (.bipush 60, 2) := by decide +kernel
theorem dX0_init_23 : decode cX0_init 23 = .ok (.newarray .int, 2) := by decide +kernel
theorem dX0_init_25 : decode cX0_init 25 = .ok (.putfield 18, 3) := by decide +kernel
theorem dX0_init_28 : decode cX0_init 28 = .ok (.aload_n 0, 1) := by decide +kernel
theorem dX0_init_29 : decode cX0_init 29 = .ok (.bipush 60, 2) := by decide +kernel
theorem dX0_init_31 : decode cX0_init 31 = .ok (.newarray .int, 2) := by decide +kernel
theorem dX0_init_33 : decode cX0_init 33 = .ok (.putfield 21, 3) := by decide +kernel
theorem dX0_init_36 : decode cX0_init 36 = .ok (.aload_n 0, 1) := by decide +kernel
theorem dX0_init_37 : decode cX0_init 37 = .ok (.iconst 0, 1) := by decide +kernel
theorem dX0_init_38 : decode cX0_init 38 = .ok (.putfield 24, 3) := by decide +kernel
theorem dX0_init_41 : decode cX0_init 41 = .ok (.return_, 1) := by decide +kernel
set_option maxRecDepth 20000 in
theorem ggX0_draw_X0_mix : GoodIn wsX0_draw wsX0_mix := goodIn_r _ [10, 11, 12] (by decide +kernel) (by decide +kernel)
set_option maxRecDepth 20000 in
theorem gX0_draw_X0_mix : GoodIn wsX0_draw (va_wsS RX0 29 yX0_mix wsX0_mix) := goodIn_app (goodIn_of _ (by decide +kernel)) ggX0_draw_X0_mix
set_option maxRecDepth 20000 in
theorem ggX0_draw_X3_areaOfDraw : GoodIn wsX0_draw wsX3_areaOfDraw := goodIn_r _ [17, 18, 19, 20, 21, 22, 23, 24, 30, 31, 32, 33, 34, 35, 36, 37] (by decide +kernel) (by decide +kernel)
set_option maxRecDepth 20000 in
theorem gX0_draw_X3_areaOfDraw : GoodIn wsX0_draw (wsV RX0 33 RX3 yX3_areaOfDraw wsX3_areaOfDraw) := goodIn_app (goodIn_of _ (by decide +kernel)) ggX0_draw_X3_areaOfDraw
theorem dX0_draw_0 : decode cX0_draw 0 = .ok (.aload_n 0, 1) := by decide +kernel
theorem dX0_draw_1 : decode cX0_draw 1 = .ok (.iload 4, 2) := by decide +kernel
theorem dX0_draw_3 : decode cX0_draw 3 = .ok (.putfield 24, 3) := by decide +kernel
theorem dX0_draw_6 : decode cX0_draw 6 = .ok (.iconst 0, 1) := by decide +kernel
theorem dX0_draw_7 : decode cX0_draw 7 = .ok (.istore 5, 2) := by decide +kernel
theorem dX0_draw_9 : decode cX0_draw 9 = .ok (.iload 5, 2) := by decide +kernel
theorem dX0_draw_11 : decode cX0_draw 11 = .ok (.iload 4, 2) := by decide +kernel
theorem dX0_draw_13 : decode cX0_draw 13 = .ok (.if_icmp .ge 103, 3) := by decide +kernel
theorem dX0_draw_16 : decode cX0_draw 16 = .ok (.iload_n 2, 1) := by decide +kernel
theorem dX0_draw_17 : decode cX0_draw 17 = .ok (.ldc 28, 2) := by decide +kernel
theorem dX0_draw_19 : decode cX0_draw 19 = .ok (.iload_n 3, 1) := by decide +kernel
theorem dX0_draw_20 : decode cX0_draw 20 = .ok (.imul, 1) := by decide +kernel
theorem dX0_draw_21 : decode cX0_draw 21 = .ok (.iadd, 1) := by decide +kernel
theorem dX0_draw_22 : decode cX0_draw 22 = .ok (.bipush 31, 2) := by decide +kernel
theorem dX0_draw_24 : decode cX0_draw 24 = .ok (.iload 5, 2) := by decide +kernel
theorem dX0_draw_26 : decode cX0_draw 26 = .ok (.imul, 1) := by decide +kernel
theorem dX0_draw_27 : decode cX0_draw 27 = .ok (.iadd, 1) := by decide +kernel
theorem dX0_draw_28 : decode cX0_draw 28 = .ok (.invokestatic 29, 3) := by decide +kernel
theorem dX0_draw_31 : decode cX0_draw 31 = .ok (.istore 6, 2) := by decide +kernel
theorem dX0_draw_33 : decode cX0_draw 33 = .ok (.iload 6, 2) := by decide +kernel
theorem dX0_draw_35 : decode cX0_draw 35 = .ok (.iconst 1, 1) := by decide +kernel
theorem dX0_draw_36 : decode cX0_draw 36 = .ok (.iadd, 1) := by decide +kernel
theorem dX0_draw_37 : decode cX0_draw 37 = .ok (.invokestatic 29, 3) := by decide +kernel
theorem dX0_draw_40 : decode cX0_draw 40 = .ok (.istore 7, 2) := by decide +kernel
theorem dX0_draw_42 : decode cX0_draw 42 = .ok (.iload 7, 2) := by decide +kernel
theorem dX0_draw_44 : decode cX0_draw 44 = .ok (.iconst 1, 1) := by decide +kernel
theorem dX0_draw_45 : decode cX0_draw 45 = .ok (.iadd, 1) := by decide +kernel
theorem dX0_draw_46 : decode cX0_draw 46 = .ok (.invokestatic 29, 3) := by decide +kernel
theorem dX0_draw_49 : decode cX0_draw 49 = .ok (.istore 8, 2) := by decide +kernel
theorem dX0_draw_51 : decode cX0_draw 51 = .ok (.aload_n 0, 1) := by decide +kernel
theorem dX0_draw_52 : decode cX0_draw 52 = .ok (.getfield 9, 3) := by decide +kernel
theorem dX0_draw_55 : decode cX0_draw 55 = .ok (.iload 5, 2) := by decide +kernel
theorem dX0_draw_57 : decode cX0_draw 57 = .ok (.iload 6, 2) := by decide +kernel
theorem dX0_draw_59 : decode cX0_draw 59 = .ok (.iconst 4, 1) := by decide +kernel
theorem dX0_draw_60 : decode cX0_draw 60 = .ok (.iushr, 1) := by decide +kernel
theorem dX0_draw_61 : decode cX0_draw 61 = .ok (.sipush 1440, 3) := by decide +kernel
theorem dX0_draw_64 : decode cX0_draw 64 = .ok (.irem, 1) := by decide +kernel
theorem dX0_draw_65 : decode cX0_draw 65 = .ok (.iastore, 1) := by decide +kernel
theorem dX0_draw_66 : decode cX0_draw 66 = .ok (.aload_n 0, 1) := by decide +kernel
theorem dX0_draw_67 : decode cX0_draw 67 = .ok (.getfield 18, 3) := by decide +kernel
theorem dX0_draw_70 : decode cX0_draw 70 = .ok (.iload 5, 2) := by decide +kernel
theorem dX0_draw_72 : decode cX0_draw 72 = .ok (.iload 7, 2) := by decide +kernel
theorem dX0_draw_74 : decode cX0_draw 74 = .ok (.iconst 3, 1) := by decide +kernel
theorem dX0_draw_75 : decode cX0_draw 75 = .ok (.iand, 1) := by decide +kernel
theorem dX0_draw_76 : decode cX0_draw 76 = .ok (.iastore, 1) := by decide +kernel
theorem dX0_draw_77 : decode cX0_draw 77 = .ok (.aload_n 0, 1) := by decide +kernel
theorem dX0_draw_78 : decode cX0_draw 78 = .ok (.getfield 21, 3) := by decide +kernel
theorem dX0_draw_81 : decode cX0_draw 81 = .ok (.iload 5, 2) := by decide +kernel
theorem dX0_draw_83 : decode cX0_draw 83 = .ok (.bipush 10, 2) := by decide +kernel
theorem dX0_draw_85 : decode cX0_draw 85 = .ok (.iload 7, 2) := by decide +kernel
theorem dX0_draw_87 : decode cX0_draw 87 = .ok (.bipush 8, 2) := by decide +kernel
theorem dX0_draw_89 : decode cX0_draw 89 = .ok (.iushr, 1) := by decide +kernel
theorem dX0_draw_90 : decode cX0_draw 90 = .ok (.bipush 90, 2) := by decide +kernel
theorem dX0_draw_92 : decode cX0_draw 92 = .ok (.irem, 1) := by decide +kernel
theorem dX0_draw_93 : decode cX0_draw 93 = .ok (.iadd, 1) := by decide +kernel
theorem dX0_draw_94 : decode cX0_draw 94 = .ok (.iastore, 1) := by decide +kernel
theorem dX0_draw_95 : decode cX0_draw 95 = .ok (.aload_n 0, 1) := by decide +kernel
theorem dX0_draw_96 : decode cX0_draw 96 = .ok (.getfield 15, 3) := by decide +kernel
theorem dX0_draw_99 : decode cX0_draw 99 = .ok (.iload 5, 2) := by decide +kernel
theorem dX0_draw_101 : decode cX0_draw 101 = .ok (.aload_n 1, 1) := by decide +kernel
theorem dX0_draw_102 : decode cX0_draw 102 = .ok (.iload 8, 2) := by decide +kernel
theorem dX0_draw_104 : decode cX0_draw 104 = .ok (.iconst 4, 1) := by decide +kernel
theorem dX0_draw_105 : decode cX0_draw 105 = .ok (.iushr, 1) := by decide +kernel
theorem dX0_draw_106 : decode cX0_draw 106 = .ok (.invokevirtual 33, 3) := by decide +kernel
theorem dX0_draw_109 : decode cX0_draw 109 = .ok (.iastore, 1) := by decide +kernel
theorem dX0_draw_110 : decode cX0_draw 110 = .ok (.iinc 5 1, 3) := by decide +kernel
theorem dX0_draw_113 : decode cX0_draw 113 = .ok (.goto (-104), 3) := by decide +kernel
theorem dX0_draw_116 : decode cX0_draw 116 = .ok (.return_, 1) := by decide +kernel
theorem dX0_mix_0 : decode cX0_mix 0 = .ok (.iload_n 0, 1) := by decide +kernel
theorem dX0_mix_1 : decode cX0_mix 1 = .ok (.istore_n 1, 1) := by decide +kernel
theorem dX0_mix_2 : decode cX0_mix 2 = .ok (.iload_n 1, 1) := by decide +kernel
theorem dX0_mix_3 : decode cX0_mix 3 = .ok (.iload_n 1, 1) := by decide +kernel
theorem dX0_mix_4 : decode cX0_mix 4 = .ok (.bipush 15, 2) := by decide +kernel
theorem dX0_mix_6 : decode cX0_mix 6 = .ok (.iushr, 1) := by decide +kernel
theorem dX0_mix_7 : decode cX0_mix 7 = .ok (.ixor, 1) := by decide +kernel
theorem dX0_mix_8 : decode cX0_mix 8 = .ok (.ldc 38, 2) := by decide +kernel
theorem dX0_mix_10 : decode cX0_mix 10 = .ok (.imul, 1) := by decide +kernel
theorem dX0_mix_11 : decode cX0_mix 11 = .ok (.istore_n 1, 1) := by decide +kernel
theorem dX0_mix_12 : decode cX0_mix 12 = .ok (.iload_n 1, 1) := by decide +kernel
theorem dX0_mix_13 : decode cX0_mix 13 = .ok (.iload_n 1, 1) := by decide +kernel
theorem dX0_mix_14 : decode cX0_mix 14 = .ok (.bipush 13, 2) := by decide +kernel
theorem dX0_mix_16 : decode cX0_mix 16 = .ok (.iushr, 1) := by decide +kernel
theorem dX0_mix_17 : decode cX0_mix 17 = .ok (.ixor, 1) := by decide +kernel
theorem dX0_mix_18 : decode cX0_mix 18 = .ok (.ldc 39, 2) := by decide +kernel
theorem dX0_mix_20 : decode cX0_mix 20 = .ok (.imul, 1) := by decide +kernel
theorem dX0_mix_21 : decode cX0_mix 21 = .ok (.istore_n 1, 1) := by decide +kernel
theorem dX0_mix_22 : decode cX0_mix 22 = .ok (.iload_n 1, 1) := by decide +kernel
theorem dX0_mix_23 : decode cX0_mix 23 = .ok (.iload_n 1, 1) := by decide +kernel
theorem dX0_mix_24 : decode cX0_mix 24 = .ok (.bipush 16, 2) := by decide +kernel
theorem dX0_mix_26 : decode cX0_mix 26 = .ok (.iushr, 1) := by decide +kernel
theorem dX0_mix_27 : decode cX0_mix 27 = .ok (.ixor, 1) := by decide +kernel
theorem dX0_mix_28 : decode cX0_mix 28 = .ok (.ireturn, 1) := by decide +kernel
theorem dX1_init_0 : decode cX1_init 0 = .ok (.aload_n 0, 1) := by decide +kernel
theorem dX1_init_1 : decode cX1_init 1 = .ok (.invokespecial 3, 3) := by decide +kernel
theorem dX1_init_4 : decode cX1_init 4 = .ok (.aload_n 0, 1) := by decide +kernel
theorem dX1_init_5 : decode cX1_init 5 = .ok (.iconst 4, 1) := by decide +kernel
theorem dX1_init_6 : decode cX1_init 6 = .ok (.bipush 12, 2) := by decide +kernel
theorem dX1_init_8 : decode cX1_init 8 = .ok (.multianewarray 9 2, 4) := by decide +kernel
theorem dX1_init_12 : decode cX1_init 12 = .ok (.putfield 11, 3) := by decide +kernel
theorem dX1_init_15 : decode cX1_init 15 = .ok (.aload_n 0, 1) := by decide +kernel
theorem dX1_init_16 : decode cX1_init 16 = .ok (.iconst 0, 1) := by decide +kernel
theorem dX1_init_17 : decode cX1_init 17 = .ok (.putfield 16, 3) := by decide +kernel
theorem dX1_init_20 : decode cX1_init 20 = .ok (.return_, 1) := by decide +kernel
theorem dX1_addUnit_0 : decode cX1_addUnit 0 = .ok (.iconst 0, 1) := by decide +kernel
theorem dX1_addUnit_1 : decode cX1_addUnit 1 = .ok (.istore_n 2, 1) := by decide +kernel
theorem dX1_addUnit_2 : decode cX1_addUnit 2 = .ok (.iload_n 2, 1) := by decide +kernel
theorem dX1_addUnit_3 : decode cX1_addUnit 3 = .ok (.iconst 4, 1) := by decide +kernel
theorem dX1_addUnit_4 : decode cX1_addUnit 4 = .ok (.if_icmp .ge 21, 3) := by decide +kernel
theorem dX1_addUnit_7 : decode cX1_addUnit 7 = .ok (.aload_n 0, 1) := by decide +kernel
theorem dX1_addUnit_8 : decode cX1_addUnit 8 = .ok (.getfield 11, 3) := by decide +kernel
theorem dX1_addUnit_11 : decode cX1_addUnit 11 = .ok (.iload_n 2, 1) := by decide +kernel
theorem dX1_addUnit_12 : decode cX1_addUnit 12 = .ok (.aaload, 1) := by decide +kernel
theorem dX1_addUnit_13 : decode cX1_addUnit 13 = .ok (.aload_n 0, 1) := by decide +kernel
theorem dX1_addUnit_14 : decode cX1_addUnit 14 = .ok (.getfield 16, 3) := by decide +kernel
theorem dX1_addUnit_17 : decode cX1_addUnit 17 = .ok (.iload_n 1, 1) := by decide +kernel
theorem dX1_addUnit_18 : decode cX1_addUnit 18 = .ok (.iastore, 1) := by decide +kernel
theorem dX1_addUnit_19 : decode cX1_addUnit 19 = .ok (.iinc 2 1, 3) := by decide +kernel
theorem dX1_addUnit_22 : decode cX1_addUnit 22 = .ok (.goto (-20), 3) := by decide +kernel
theorem dX1_addUnit_25 : decode cX1_addUnit 25 = .ok (.aload_n 0, 1) := by decide +kernel
theorem dX1_addUnit_26 : decode cX1_addUnit 26 = .ok (.dup, 1) := by decide +kernel
theorem dX1_addUnit_27 : decode cX1_addUnit 27 = .ok (.getfield 16, 3) := by decide +kernel
theorem dX1_addUnit_30 : decode cX1_addUnit 30 = .ok (.dup_x1, 1) := by decide +kernel
theorem dX1_addUnit_31 : decode cX1_addUnit 31 = .ok (.iconst 1, 1) := by decide +kernel
theorem dX1_addUnit_32 : decode cX1_addUnit 32 = .ok (.iadd, 1) := by decide +kernel
theorem dX1_addUnit_33 : decode cX1_addUnit 33 = .ok (.putfield 16, 3) := by decide +kernel
theorem dX1_addUnit_36 : decode cX1_addUnit 36 = .ok (.ireturn, 1) := by decide +kernel
theorem dX1_move_0 : decode cX1_move 0 = .ok (.aload_n 0, 1) := by decide +kernel
theorem dX1_move_1 : decode cX1_move 1 = .ok (.getfield 11, 3) := by decide +kernel
theorem dX1_move_4 : decode cX1_move 4 = .ok (.iload_n 1, 1) := by decide +kernel
theorem dX1_move_5 : decode cX1_move 5 = .ok (.aaload, 1) := by decide +kernel
theorem dX1_move_6 : decode cX1_move 6 = .ok (.iload_n 2, 1) := by decide +kernel
theorem dX1_move_7 : decode cX1_move 7 = .ok (.iload_n 3, 1) := by decide +kernel
theorem dX1_move_8 : decode cX1_move 8 = .ok (.iastore, 1) := by decide +kernel
theorem dX1_move_9 : decode cX1_move 9 = .ok (.return_, 1) := by decide +kernel
set_option maxRecDepth 20000 in
theorem ggX1_hasRoomInAllVariants_X1_countOthers : GoodIn wsX1_hasRoomInAllVariants wsX1_countOthers := goodIn_r _ [5, 6, 7, 8, 9] (by decide +kernel) (by decide +kernel)
set_option maxRecDepth 20000 in
theorem gX1_hasRoomInAllVariants_X1_countOthers : GoodIn wsX1_hasRoomInAllVariants (wsV RX1 20 RX1 yX1_countOthers wsX1_countOthers) := goodIn_app (goodIn_of _ (by decide +kernel)) ggX1_hasRoomInAllVariants_X1_countOthers
theorem dX1_hasRoomInAllVariants_0 : decode cX1_hasRoomInAllVariants 0 = .ok (.iconst 0, 1) := by decide +kernel
theorem dX1_hasRoomInAllVariants_1 : decode cX1_hasRoomInAllVariants 1 = .ok (.istore_n 2, 1) := by decide +kernel
theorem dX1_hasRoomInAllVariants_2 : decode cX1_hasRoomInAllVariants 2 = .ok (.iload_n 2, 1) := by decide +kernel
theorem dX1_hasRoomInAllVariants_3 : decode cX1_hasRoomInAllVariants 3 = .ok (.iconst 4, 1) := by decide +kernel
theorem dX1_hasRoomInAllVariants_4 : decode cX1_hasRoomInAllVariants 4 = .ok (.if_icmp .ge 22, 3) := by decide +kernel
theorem dX1_hasRoomInAllVariants_7 : decode cX1_hasRoomInAllVariants 7 = .ok (.aload_n 0, 1) := by decide +kernel
theorem dX1_hasRoomInAllVariants_8 : decode cX1_hasRoomInAllVariants 8 = .ok (.iload_n 2, 1) := by decide +kernel
theorem dX1_hasRoomInAllVariants_9 : decode cX1_hasRoomInAllVariants 9 = .ok (.iload_n 1, 1) := by decide +kernel
theorem dX1_hasRoomInAllVariants_10 : decode cX1_hasRoomInAllVariants 10 = .ok (.iconst (-1), 1) := by decide +kernel
theorem dX1_hasRoomInAllVariants_11 : decode cX1_hasRoomInAllVariants 11 = .ok (.invokevirtual 20, 3) := by decide +kernel
theorem dX1_hasRoomInAllVariants_14 : decode cX1_hasRoomInAllVariants 14 = .ok (.iconst 4, 1) := by decide +kernel
theorem dX1_hasRoomInAllVariants_15 : decode cX1_hasRoomInAllVariants 15 = .ok (.if_icmp .lt 5, 3) := by decide +kernel
theorem dX1_hasRoomInAllVariants_18 : decode cX1_hasRoomInAllVariants 18 = .ok (.iconst 0, 1) := by decide +kernel
theorem dX1_hasRoomInAllVariants_19 : decode cX1_hasRoomInAllVariants 19 = .ok (.ireturn, 1) := by decide +kernel
theorem dX1_hasRoomInAllVariants_20 : decode cX1_hasRoomInAllVariants 20 = .ok (.iinc 2 1, 3) := by decide +kernel
theorem dX1_hasRoomInAllVariants_23 : decode cX1_hasRoomInAllVariants 23 = .ok (.goto (-21), 3) := by decide +kernel
theorem dX1_hasRoomInAllVariants_26 : decode cX1_hasRoomInAllVariants 26 = .ok (.iconst 1, 1) := by decide +kernel
theorem dX1_hasRoomInAllVariants_27 : decode cX1_hasRoomInAllVariants 27 = .ok (.ireturn, 1) := by decide +kernel
theorem dX1_countOthers_0 : decode cX1_countOthers 0 = .ok (.iconst 0, 1) := by decide +kernel
theorem dX1_countOthers_1 : decode cX1_countOthers 1 = .ok (.istore 4, 2) := by decide +kernel
theorem dX1_countOthers_3 : decode cX1_countOthers 3 = .ok (.iconst 0, 1) := by decide +kernel
theorem dX1_countOthers_4 : decode cX1_countOthers 4 = .ok (.istore 5, 2) := by decide +kernel
theorem dX1_countOthers_6 : decode cX1_countOthers 6 = .ok (.iload 5, 2) := by decide +kernel
theorem dX1_countOthers_8 : decode cX1_countOthers 8 = .ok (.aload_n 0, 1) := by decide +kernel
theorem dX1_countOthers_9 : decode cX1_countOthers 9 = .ok (.getfield 16, 3) := by decide +kernel
theorem dX1_countOthers_12 : decode cX1_countOthers 12 = .ok (.if_icmp .ge 31, 3) := by decide +kernel
theorem dX1_countOthers_15 : decode cX1_countOthers 15 = .ok (.iload 5, 2) := by decide +kernel
theorem dX1_countOthers_17 : decode cX1_countOthers 17 = .ok (.iload_n 3, 1) := by decide +kernel
theorem dX1_countOthers_18 : decode cX1_countOthers 18 = .ok (.if_icmp .eq 19, 3) := by decide +kernel
theorem dX1_countOthers_21 : decode cX1_countOthers 21 = .ok (.aload_n 0, 1) := by decide +kernel
theorem dX1_countOthers_22 : decode cX1_countOthers 22 = .ok (.getfield 11, 3) := by decide +kernel
theorem dX1_countOthers_25 : decode cX1_countOthers 25 = .ok (.iload_n 1, 1) := by decide +kernel
theorem dX1_countOthers_26 : decode cX1_countOthers 26 = .ok (.aaload, 1) := by decide +kernel
theorem dX1_countOthers_27 : decode cX1_countOthers 27 = .ok (.iload 5, 2) := by decide +kernel
theorem dX1_countOthers_29 : decode cX1_countOthers 29 = .ok (.iaload, 1) := by decide +kernel
theorem dX1_countOthers_30 : decode cX1_countOthers 30 = .ok (.iload_n 2, 1) := by decide +kernel
theorem dX1_countOthers_31 : decode cX1_countOthers 31 = .ok (.if_icmp .ne 6, 3) := by decide +kernel
theorem dX1_countOthers_34 : decode cX1_countOthers 34 = .ok (.iinc 4 1, 3) := by decide +kernel
theorem dX1_countOthers_37 : decode cX1_countOthers 37 = .ok (.iinc 5 1, 3) := by decide +kernel
theorem dX1_countOthers_40 : decode cX1_countOthers 40 = .ok (.goto (-34), 3) := by decide +kernel
theorem dX1_countOthers_43 : decode cX1_countOthers 43 = .ok (.iload 4, 2) := by decide +kernel
theorem dX1_countOthers_45 : decode cX1_countOthers 45 = .ok (.ireturn, 1) := by decide +kernel
set_option maxRecDepth 20000 in
theorem ggX2_init_X0_init : GoodIn wsX2_init wsX0_init := goodIn_r _ [22, 23, 2, 3, 8, 24, 25, 26, 27, 28, 29, 30, 31, 32, 33] (by decide +kernel) (by decide +kernel)
set_option maxRecDepth 20000 in
theorem gX2_init_X0_init_n11 : GoodIn wsX2_init (wsX0_init) := ggX2_init_X0_init
theorem dX2_init_0 : decode cX2_init 0 = .ok (.aload_n 0, 1) := by decide +kernel
theorem dX2_init_1 : decode cX2_init 1 = .ok (.invokespecial 3, 3) := by decide +kernel
theorem dX2_init_4 : decode cX2_init 4 = .ok (.aload_n 0, 1) := by decide +kernel
theorem dX2_init_5 : decode cX2_init 5 = .ok (.new 9, 3) := by decide +kernel
theorem dX2_init_8 : decode cX2_init 8 = .ok (.dup, 1) := by decide +kernel
theorem dX2_init_9 : decode cX2_init 9 = .ok (.invokespecial 11, 3) := by decide +kernel
theorem dX2_init_12 : decode cX2_init 12 = .ok (.putfield 12, 3) := by decide +kernel
theorem dX2_init_15 : decode cX2_init 15 = .ok (.aload_n 0, 1) := by decide +kernel
theorem dX2_init_16 : decode cX2_init 16 = .ok (.bipush 60, 2) := by decide +kernel
theorem dX2_init_18 : decode cX2_init 18 = .ok (.newarray .int, 2) := by decide +kernel
theorem dX2_init_20 : decode cX2_init 20 = .ok (.putfield 18, 3) := by decide +kernel
theorem dX2_init_23 : decode cX2_init 23 = .ok (.aload_n 0, 1) := by decide +kernel
theorem dX2_init_24 : decode cX2_init 24 = .ok (.bipush 60, 2) := by decide +kernel
theorem dX2_init_26 : decode cX2_init 26 = .ok (.newarray .int, 2) := by decide +kernel
theorem dX2_init_28 : decode cX2_init 28 = .ok (.putfield 22, 3) := by decide +kernel
theorem dX2_init_31 : decode cX2_init 31 = .ok (.aload_n 0, 1) := by decide +kernel
theorem dX2_init_32 : decode cX2_init 32 = .ok (.bipush 60, 2) := by decide +kernel
theorem dX2_init_34 : decode cX2_init 34 = .ok (.newarray .int, 2) := by decide +kernel
theorem dX2_init_36 : decode cX2_init 36 = .ok (.putfield 25, 3) := by decide +kernel
theorem dX2_init_39 : decode cX2_init 39 = .ok (.aload_n 0, 1) := by decide +kernel
theorem dX2_init_40 : decode cX2_init 40 = .ok (.bipush 12, 2) := by decide +kernel
theorem dX2_init_42 : decode cX2_init 42 = .ok (.newarray .int, 2) := by decide +kernel
theorem dX2_init_44 : decode cX2_init 44 = .ok (.putfield 28, 3) := by decide +kernel
theorem dX2_init_47 : decode cX2_init 47 = .ok (.aload_n 0, 1) := by decide +kernel
theorem dX2_init_48 : decode cX2_init 48 = .ok (.bipush 12, 2) := by decide +kernel
theorem dX2_init_50 : decode cX2_init 50 = .ok (.newarray .boolean, 2) := by decide +kernel
theorem dX2_init_52 : decode cX2_init 52 = .ok (.putfield 31, 3) := by decide +kernel
theorem dX2_init_55 : decode cX2_init 55 = .ok (.aload_n 0, 1) := by decide +kernel
theorem dX2_init_56 : decode cX2_init 56 = .ok (.bipush 12, 2) := by decide +kernel
theorem dX2_init_58 : decode cX2_init 58 = .ok (.bipush 10, 2) := by decide +kernel
theorem dX2_init_60 : decode cX2_init 60 = .ok (.multianewarray 35 2, 4) := by decide +kernel
theorem dX2_init_64 : decode cX2_init 64 = .ok (.putfield 37, 3) := by decide +kernel
theorem dX2_init_67 : decode cX2_init 67 = .ok (.aload_n 0, 1) := by decide +kernel
theorem dX2_init_68 : decode cX2_init 68 = .ok (.bipush 12, 2) := by decide +kernel
theorem dX2_init_70 : decode cX2_init 70 = .ok (.newarray .int, 2) := by decide +kernel
theorem dX2_init_72 : decode cX2_init 72 = .ok (.putfield 40, 3) := by decide +kernel
theorem dX2_init_75 : decode cX2_init 75 = .ok (.aload_n 0, 1) := by decide +kernel
theorem dX2_init_76 : decode cX2_init 76 = .ok (.bipush 24, 2) := by decide +kernel
theorem dX2_init_78 : decode cX2_init 78 = .ok (.newarray .int, 2) := by decide +kernel
theorem dX2_init_80 : decode cX2_init 80 = .ok (.putfield 43, 3) := by decide +kernel
theorem dX2_init_83 : decode cX2_init 83 = .ok (.aload_n 0, 1) := by decide +kernel
theorem dX2_init_84 : decode cX2_init 84 = .ok (.iconst 0, 1) := by decide +kernel
theorem dX2_init_85 : decode cX2_init 85 = .ok (.putfield 46, 3) := by decide +kernel
theorem dX2_init_88 : decode cX2_init 88 = .ok (.aload_n 0, 1) := by decide +kernel
theorem dX2_init_89 : decode cX2_init 89 = .ok (.iconst 0, 1) := by decide +kernel
theorem dX2_init_90 : decode cX2_init 90 = .ok (.putfield 50, 3) := by decide +kernel
theorem dX2_init_93 : decode cX2_init 93 = .ok (.return_, 1) := by decide +kernel
theorem dX2_forget_0 : decode cX2_forget 0 = .ok (.aload_n 0, 1) := by decide +kernel
theorem dX2_forget_1 : decode cX2_forget 1 = .ok (.getfield 12, 3) := by decide +kernel
theorem dX2_forget_4 : decode cX2_forget 4 = .ok (.iconst 0, 1) := by decide +kernel
theorem dX2_forget_5 : decode cX2_forget 5 = .ok (.putfield 53, 3) := by decide +kernel
theorem dX2_forget_8 : decode cX2_forget 8 = .ok (.aload_n 0, 1) := by decide +kernel
theorem dX2_forget_9 : decode cX2_forget 9 = .ok (.iconst 0, 1) := by decide +kernel
theorem dX2_forget_10 : decode cX2_forget 10 = .ok (.putfield 50, 3) := by decide +kernel
theorem dX2_forget_13 : decode cX2_forget 13 = .ok (.iconst 0, 1) := by decide +kernel
theorem dX2_forget_14 : decode cX2_forget 14 = .ok (.istore_n 1, 1) := by decide +kernel
theorem dX2_forget_15 : decode cX2_forget 15 = .ok (.iload_n 1, 1) := by decide +kernel
theorem dX2_forget_16 : decode cX2_forget 16 = .ok (.bipush 12, 2) := by decide +kernel
theorem dX2_forget_18 : decode cX2_forget 18 = .ok (.if_icmp .ge 16, 3) := by decide +kernel
theorem dX2_forget_21 : decode cX2_forget 21 = .ok (.aload_n 0, 1) := by decide +kernel
theorem dX2_forget_22 : decode cX2_forget 22 = .ok (.getfield 28, 3) := by decide +kernel
theorem dX2_forget_25 : decode cX2_forget 25 = .ok (.iload_n 1, 1) := by decide +kernel
theorem dX2_forget_26 : decode cX2_forget 26 = .ok (.iconst 0, 1) := by decide +kernel
theorem dX2_forget_27 : decode cX2_forget 27 = .ok (.iastore, 1) := by decide +kernel
theorem dX2_forget_28 : decode cX2_forget 28 = .ok (.iinc 1 1, 3) := by decide +kernel
theorem dX2_forget_31 : decode cX2_forget 31 = .ok (.goto (-16), 3) := by decide +kernel
theorem dX2_forget_34 : decode cX2_forget 34 = .ok (.return_, 1) := by decide +kernel
set_option maxRecDepth 20000 in
theorem ggX2_begin_X2_post : GoodIn wsX2_begin wsX2_post := goodIn_r _ [12, 13, 14, 15, 16, 17, 18, 19, 20, 21, 22, 23, 24, 25, 26, 27, 28, 31, 32, 33, 34, 35, 36, 37, 38, 39, 40, 41, 42, 43, 44, 45, 46, 47, 48, 49] (by decide +kernel) (by decide +kernel)
set_option maxRecDepth 20000 in
theorem gX2_begin_X2_post : GoodIn wsX2_begin (wsV RX2 62 RX2 yX2_post wsX2_post) := goodIn_app (goodIn_of _ (by decide +kernel)) ggX2_begin_X2_post
theorem dX2_begin_0 : decode cX2_begin 0 = .ok (.aload_n 0, 1) := by decide +kernel
theorem dX2_begin_1 : decode cX2_begin 1 = .ok (.aload_n 2, 1) := by decide +kernel
theorem dX2_begin_2 : decode cX2_begin 2 = .ok (.getfield 56, 3) := by decide +kernel
theorem dX2_begin_5 : decode cX2_begin 5 = .ok (.putfield 46, 3) := by decide +kernel
theorem dX2_begin_8 : decode cX2_begin 8 = .ok (.aload_n 0, 1) := by decide +kernel
theorem dX2_begin_9 : decode cX2_begin 9 = .ok (.iconst 0, 1) := by decide +kernel
theorem dX2_begin_10 : decode cX2_begin 10 = .ok (.putfield 50, 3) := by decide +kernel
theorem dX2_begin_13 : decode cX2_begin 13 = .ok (.iconst 0, 1) := by decide +kernel
theorem dX2_begin_14 : decode cX2_begin 14 = .ok (.istore 5, 2) := by decide +kernel
theorem dX2_begin_16 : decode cX2_begin 16 = .ok (.iload 5, 2) := by decide +kernel
theorem dX2_begin_18 : decode cX2_begin 18 = .ok (.bipush 12, 2) := by decide +kernel
theorem dX2_begin_20 : decode cX2_begin 20 = .ok (.if_icmp .ge 25, 3) := by decide +kernel
theorem dX2_begin_23 : decode cX2_begin 23 = .ok (.aload_n 0, 1) := by decide +kernel
theorem dX2_begin_24 : decode cX2_begin 24 = .ok (.getfield 40, 3) := by decide +kernel
theorem dX2_begin_27 : decode cX2_begin 27 = .ok (.iload 5, 2) := by decide +kernel
theorem dX2_begin_29 : decode cX2_begin 29 = .ok (.iconst 0, 1) := by decide +kernel
theorem dX2_begin_30 : decode cX2_begin 30 = .ok (.iastore, 1) := by decide +kernel
theorem dX2_begin_31 : decode cX2_begin 31 = .ok (.aload_n 0, 1) := by decide +kernel
theorem dX2_begin_32 : decode cX2_begin 32 = .ok (.getfield 28, 3) := by decide +kernel
theorem dX2_begin_35 : decode cX2_begin 35 = .ok (.iload 5, 2) := by decide +kernel
theorem dX2_begin_37 : decode cX2_begin 37 = .ok (.iconst 0, 1) := by decide +kernel
theorem dX2_begin_38 : decode cX2_begin 38 = .ok (.iastore, 1) := by decide +kernel
theorem dX2_begin_39 : decode cX2_begin 39 = .ok (.iinc 5 1, 3) := by decide +kernel
theorem dX2_begin_42 : decode cX2_begin 42 = .ok (.goto (-26), 3) := by decide +kernel
theorem dX2_begin_45 : decode cX2_begin 45 = .ok (.iconst 0, 1) := by decide +kernel
theorem dX2_begin_46 : decode cX2_begin 46 = .ok (.istore 5, 2) := by decide +kernel
theorem dX2_begin_48 : decode cX2_begin 48 = .ok (.iload 5, 2) := by decide +kernel
theorem dX2_begin_50 : decode cX2_begin 50 = .ok (.aload_n 0, 1) := by decide +kernel
theorem dX2_begin_51 : decode cX2_begin 51 = .ok (.getfield 46, 3) := by decide +kernel
theorem dX2_begin_54 : decode cX2_begin 54 = .ok (.if_icmp .ge 27, 3) := by decide +kernel
theorem dX2_begin_57 : decode cX2_begin 57 = .ok (.aload_n 0, 1) := by decide +kernel
theorem dX2_begin_58 : decode cX2_begin 58 = .ok (.aload_n 1, 1) := by decide +kernel
theorem dX2_begin_59 : decode cX2_begin 59 = .ok (.iload 5, 2) := by decide +kernel
theorem dX2_begin_61 : decode cX2_begin 61 = .ok (.aload_n 2, 1) := by decide +kernel
theorem dX2_begin_62 : decode cX2_begin 62 = .ok (.getfield 59, 3) := by decide +kernel
theorem dX2_begin_65 : decode cX2_begin 65 = .ok (.iload_n 3, 1) := by decide +kernel
theorem dX2_begin_66 : decode cX2_begin 66 = .ok (.aaload, 1) := by decide +kernel
theorem dX2_begin_67 : decode cX2_begin 67 = .ok (.iload 5, 2) := by decide +kernel
theorem dX2_begin_69 : decode cX2_begin 69 = .ok (.iaload, 1) := by decide +kernel
theorem dX2_begin_70 : decode cX2_begin 70 = .ok (.iload 4, 2) := by decide +kernel
theorem dX2_begin_72 : decode cX2_begin 72 = .ok (.invokevirtual 62, 3) := by decide +kernel
theorem dX2_begin_75 : decode cX2_begin 75 = .ok (.iinc 5 1, 3) := by decide +kernel
theorem dX2_begin_78 : decode cX2_begin 78 = .ok (.goto (-30), 3) := by decide +kernel
theorem dX2_begin_81 : decode cX2_begin 81 = .ok (.iconst 0, 1) := by decide +kernel
theorem dX2_begin_82 : decode cX2_begin 82 = .ok (.istore 5, 2) := by decide +kernel
theorem dX2_begin_84 : decode cX2_begin 84 = .ok (.iload 5, 2) := by decide +kernel
theorem dX2_begin_86 : decode cX2_begin 86 = .ok (.bipush 60, 2) := by decide +kernel
theorem dX2_begin_88 : decode cX2_begin 88 = .ok (.if_icmp .ge 17, 3) := by decide +kernel
theorem dX2_begin_91 : decode cX2_begin 91 = .ok (.aload_n 0, 1) := by decide +kernel
theorem dX2_begin_92 : decode cX2_begin 92 = .ok (.getfield 18, 3) := by decide +kernel
theorem dX2_begin_95 : decode cX2_begin 95 = .ok (.iload 5, 2) := by decide +kernel
theorem dX2_begin_97 : decode cX2_begin 97 = .ok (.iconst (-1), 1) := by decide +kernel
theorem dX2_begin_98 : decode cX2_begin 98 = .ok (.iastore, 1) := by decide +kernel
theorem dX2_begin_99 : decode cX2_begin 99 = .ok (.iinc 5 1, 3) := by decide +kernel
theorem dX2_begin_102 : decode cX2_begin 102 = .ok (.goto (-18), 3) := by decide +kernel
theorem dX2_begin_105 : decode cX2_begin 105 = .ok (.return_, 1) := by decide +kernel
set_option maxRecDepth 20000 in
theorem ggX2_post_X3_wayMinutes : GoodIn wsX2_post wsX3_wayMinutes := goodIn_r _ [8, 9, 10, 11, 12, 13, 14, 15, 16, 28, 29, 30, 31, 32, 33, 34, 35] (by decide +kernel) (by decide +kernel)
set_option maxRecDepth 20000 in
theorem gX2_post_X3_wayMinutes : GoodIn wsX2_post (wsV RX2 71 RX3 yX3_wayMinutes wsX3_wayMinutes) := goodIn_app (goodIn_of _ (by decide +kernel)) ggX2_post_X3_wayMinutes
theorem dX2_post_0 : decode cX2_post 0 = .ok (.aload_n 0, 1) := by decide +kernel
theorem dX2_post_1 : decode cX2_post 1 = .ok (.getfield 31, 3) := by decide +kernel
theorem dX2_post_4 : decode cX2_post 4 = .ok (.iload_n 2, 1) := by decide +kernel
theorem dX2_post_5 : decode cX2_post 5 = .ok (.iload_n 3, 1) := by decide +kernel
theorem dX2_post_6 : decode cX2_post 6 = .ok (.iconst (-1), 1) := by decide +kernel
theorem dX2_post_7 : decode cX2_post 7 = .ok (.if_icmp .ne 7, 3) := by decide +kernel
theorem dX2_post_10 : decode cX2_post 10 = .ok (.iconst 1, 1) := by decide +kernel
theorem dX2_post_11 : decode cX2_post 11 = .ok (.goto 4, 3) := by decide +kernel
theorem dX2_post_14 : decode cX2_post 14 = .ok (.iconst 0, 1) := by decide +kernel
theorem dX2_post_15 : decode cX2_post 15 = .ok (.bastore, 1) := by decide +kernel
theorem dX2_post_16 : decode cX2_post 16 = .ok (.iconst 0, 1) := by decide +kernel
theorem dX2_post_17 : decode cX2_post 17 = .ok (.istore 5, 2) := by decide +kernel
theorem dX2_post_19 : decode cX2_post 19 = .ok (.iload 5, 2) := by decide +kernel
theorem dX2_post_21 : decode cX2_post 21 = .ok (.aload_n 1, 1) := by decide +kernel
theorem dX2_post_22 : decode cX2_post 22 = .ok (.getfield 66, 3) := by decide +kernel
theorem dX2_post_25 : decode cX2_post 25 = .ok (.if_icmp .ge 32, 3) := by decide +kernel
theorem dX2_post_28 : decode cX2_post 28 = .ok (.iload_n 3, 1) := by decide +kernel
theorem dX2_post_29 : decode cX2_post 29 = .ok (.iconst (-1), 1) := by decide +kernel
theorem dX2_post_30 : decode cX2_post 30 = .ok (.if_icmp .eq 27, 3) := by decide +kernel
theorem dX2_post_33 : decode cX2_post 33 = .ok (.aload_n 0, 1) := by decide +kernel
theorem dX2_post_34 : decode cX2_post 34 = .ok (.getfield 37, 3) := by decide +kernel
theorem dX2_post_37 : decode cX2_post 37 = .ok (.iload_n 2, 1) := by decide +kernel
theorem dX2_post_38 : decode cX2_post 38 = .ok (.aaload, 1) := by decide +kernel
theorem dX2_post_39 : decode cX2_post 39 = .ok (.iload 5, 2) := by decide +kernel
theorem dX2_post_41 : decode cX2_post 41 = .ok (.aload_n 1, 1) := by decide +kernel
theorem dX2_post_42 : decode cX2_post 42 = .ok (.iload_n 3, 1) := by decide +kernel
theorem dX2_post_43 : decode cX2_post 43 = .ok (.iload 5, 2) := by decide +kernel
theorem dX2_post_45 : decode cX2_post 45 = .ok (.iload 4, 2) := by decide +kernel
theorem dX2_post_47 : decode cX2_post 47 = .ok (.invokevirtual 71, 3) := by decide +kernel
theorem dX2_post_50 : decode cX2_post 50 = .ok (.iastore, 1) := by decide +kernel
theorem dX2_post_51 : decode cX2_post 51 = .ok (.iinc 5 1, 3) := by decide +kernel
theorem dX2_post_54 : decode cX2_post 54 = .ok (.goto (-35), 3) := by decide +kernel
theorem dX2_post_57 : decode cX2_post 57 = .ok (.return_, 1) := by decide +kernel
set_option maxRecDepth 20000 in
theorem ggX2_playOut_X2_sendUnits : GoodIn wsX2_playOut wsX2_sendUnits := goodIn_r _ [14, 15, 16, 17, 18, 19, 13, 20, 21, 22, 23, 24, 25, 26, 27, 28, 29, 30, 31, 32, 1, 33, 34, 35, 36, 37, 38, 39, 40, 41, 42, 43, 44, 45, 46, 47, 48, 57, 58, 59, 60, 61, 62, 63, 64, 65, 66, 67, 68, 69, 70, 71, 72] (by decide +kernel) (by decide +kernel)
set_option maxRecDepth 20000 in
theorem gX2_playOut_X2_sendUnits : GoodIn wsX2_playOut (wsV RX2 76 RX2 yX2_sendUnits wsX2_sendUnits) := goodIn_app (goodIn_of _ (by decide +kernel)) ggX2_playOut_X2_sendUnits
set_option maxRecDepth 20000 in
theorem ggX2_playOut_X2_nextEvent : GoodIn wsX2_playOut wsX2_nextEvent := goodIn_r _ [52, 1, 15, 21, 23, 3, 4, 5, 6, 33, 40, 57, 58, 59, 60, 61, 62, 63, 64, 65, 66, 67, 68, 69, 70, 71, 72] (by decide +kernel) (by decide +kernel)
set_option maxRecDepth 20000 in
theorem gX2_playOut_X2_nextEvent : GoodIn wsX2_playOut (wsV RX2 80 RX2 yX2_nextEvent wsX2_nextEvent) := goodIn_app (goodIn_of _ (by decide +kernel)) ggX2_playOut_X2_nextEvent
set_option maxRecDepth 20000 in
theorem ggX2_playOut_X2_isAnyFree : GoodIn wsX2_playOut wsX2_isAnyFree := goodIn_r _ [56, 33, 35, 36, 37, 13, 38, 39, 40, 57, 58, 59, 60, 61, 62, 63, 64, 65, 66, 67] (by decide +kernel) (by decide +kernel)
set_option maxRecDepth 20000 in
theorem gX2_playOut_X2_isAnyFree : GoodIn wsX2_playOut (wsV RX2 84 RX2 yX2_isAnyFree wsX2_isAnyFree) := goodIn_app (goodIn_of _ (by decide +kernel)) ggX2_playOut_X2_isAnyFree
theorem dX2_playOut_0 : decode cX2_playOut 0 = .ok (.iconst 0, 1) := by decide +kernel
theorem dX2_playOut_1 : decode cX2_playOut 1 = .ok (.istore_n 1, 1) := by decide +kernel
theorem dX2_playOut_2 : decode cX2_playOut 2 = .ok (.iconst 0, 1) := by decide +kernel
theorem dX2_playOut_3 : decode cX2_playOut 3 = .ok (.istore_n 2, 1) := by decide +kernel
theorem dX2_playOut_4 : decode cX2_playOut 4 = .ok (.iload_n 2, 1) := by decide +kernel
theorem dX2_playOut_5 : decode cX2_playOut 5 = .ok (.bipush 121, 2) := by decide +kernel
theorem dX2_playOut_7 : decode cX2_playOut 7 = .ok (.if_icmp .ge 58, 3) := by decide +kernel
theorem dX2_playOut_10 : decode cX2_playOut 10 = .ok (.iload_n 1, 1) := by decide +kernel
theorem dX2_playOut_11 : decode cX2_playOut 11 = .ok (.ldc 75, 2) := by decide +kernel
theorem dX2_playOut_13 : decode cX2_playOut 13 = .ok (.if_icmp .ge 52, 3) := by decide +kernel
theorem dX2_playOut_16 : decode cX2_playOut 16 = .ok (.aload_n 0, 1) := by decide +kernel
theorem dX2_playOut_17 : decode cX2_playOut 17 = .ok (.iload_n 1, 1) := by decide +kernel
theorem dX2_playOut_18 : decode cX2_playOut 18 = .ok (.invokevirtual 76, 3) := by decide +kernel
theorem dX2_playOut_21 : decode cX2_playOut 21 = .ok (.aload_n 0, 1) := by decide +kernel
theorem dX2_playOut_22 : decode cX2_playOut 22 = .ok (.iload_n 1, 1) := by decide +kernel
theorem dX2_playOut_23 : decode cX2_playOut 23 = .ok (.invokevirtual 80, 3) := by decide +kernel
theorem dX2_playOut_26 : decode cX2_playOut 26 = .ok (.istore_n 3, 1) := by decide +kernel
theorem dX2_playOut_27 : decode cX2_playOut 27 = .ok (.aload_n 0, 1) := by decide +kernel
theorem dX2_playOut_28 : decode cX2_playOut 28 = .ok (.iload_n 1, 1) := by decide +kernel
theorem dX2_playOut_29 : decode cX2_playOut 29 = .ok (.invokevirtual 84, 3) := by decide +kernel
theorem dX2_playOut_32 : decode cX2_playOut 32 = .ok (.ifCond .ne 25, 3) := by decide +kernel
theorem dX2_playOut_35 : decode cX2_playOut 35 = .ok (.aload_n 0, 1) := by decide +kernel
theorem dX2_playOut_36 : decode cX2_playOut 36 = .ok (.dup, 1) := by decide +kernel
theorem dX2_playOut_37 : decode cX2_playOut 37 = .ok (.getfield 50, 3) := by decide +kernel
theorem dX2_playOut_40 : decode cX2_playOut 40 = .ok (.iconst 0, 1) := by decide +kernel
theorem dX2_playOut_41 : decode cX2_playOut 41 = .ok (.iload_n 3, 1) := by decide +kernel
theorem dX2_playOut_42 : decode cX2_playOut 42 = .ok (.sipush 1440, 3) := by decide +kernel
theorem dX2_playOut_45 : decode cX2_playOut 45 = .ok (.invokestatic 88, 3) := by decide +kernel
theorem dX2_playOut_48 : decode cX2_playOut 48 = .ok (.iload_n 1, 1) := by decide +kernel
theorem dX2_playOut_49 : decode cX2_playOut 49 = .ok (.isub, 1) := by decide +kernel
theorem dX2_playOut_50 : decode cX2_playOut 50 = .ok (.invokestatic 94, 3) := by decide +kernel
theorem dX2_playOut_53 : decode cX2_playOut 53 = .ok (.iadd, 1) := by decide +kernel
theorem dX2_playOut_54 : decode cX2_playOut 54 = .ok (.putfield 50, 3) := by decide +kernel
theorem dX2_playOut_57 : decode cX2_playOut 57 = .ok (.iload_n 3, 1) := by decide +kernel
theorem dX2_playOut_58 : decode cX2_playOut 58 = .ok (.istore_n 1, 1) := by decide +kernel
theorem dX2_playOut_59 : decode cX2_playOut 59 = .ok (.iinc 2 1, 3) := by decide +kernel
theorem dX2_playOut_62 : decode cX2_playOut 62 = .ok (.goto (-58), 3) := by decide +kernel
theorem dX2_playOut_65 : decode cX2_playOut 65 = .ok (.return_, 1) := by decide +kernel
set_option maxRecDepth 20000 in
theorem ggX2_sendUnits_X2_firstWaiting : GoodIn wsX2_sendUnits wsX2_firstWaiting := goodIn_r _ [7, 1, 8, 9, 10, 11, 12, 13, 6, 14, 15, 37, 38, 39, 40, 41, 42, 43, 44, 45, 46, 47, 48, 49, 50, 51, 52] (by decide +kernel) (by decide +kernel)
set_option maxRecDepth 20000 in
theorem gX2_sendUnits_X2_firstWaiting : GoodIn wsX2_sendUnits (wsV RX2 97 RX2 yX2_firstWaiting wsX2_firstWaiting) := goodIn_app (goodIn_of _ (by decide +kernel)) ggX2_sendUnits_X2_firstWaiting
set_option maxRecDepth 20000 in
theorem ggX2_sendUnits_X2_nearestFree : GoodIn wsX2_sendUnits wsX2_nearestFree := goodIn_r _ [19, 20, 21, 22, 23, 24, 25, 6, 26, 27, 28, 37, 38, 39, 40, 41, 42, 43, 44, 45, 46, 47] (by decide +kernel) (by decide +kernel)
set_option maxRecDepth 20000 in
theorem gX2_sendUnits_X2_nearestFree : GoodIn wsX2_sendUnits (wsV RX2 103 RX2 yX2_nearestFree wsX2_nearestFree) := goodIn_app (goodIn_of _ (by decide +kernel)) ggX2_sendUnits_X2_nearestFree
set_option maxRecDepth 20000 in
theorem ggX2_sendUnits_X2_send : GoodIn wsX2_sendUnits wsX2_send := goodIn_r _ [32, 22, 1, 2, 9, 33, 34, 28, 35, 36, 37, 38, 39, 40, 41, 42, 43, 44, 45, 46, 47, 48, 49, 50, 51, 52] (by decide +kernel) (by decide +kernel)
set_option maxRecDepth 20000 in
theorem gX2_sendUnits_X2_send : GoodIn wsX2_sendUnits (wsV RX2 106 RX2 yX2_send wsX2_send) := goodIn_app (goodIn_of _ (by decide +kernel)) ggX2_sendUnits_X2_send
theorem dX2_sendUnits_0 : decode cX2_sendUnits 0 = .ok (.iconst 0, 1) := by decide +kernel
theorem dX2_sendUnits_1 : decode cX2_sendUnits 1 = .ok (.istore_n 2, 1) := by decide +kernel
theorem dX2_sendUnits_2 : decode cX2_sendUnits 2 = .ok (.iload_n 2, 1) := by decide +kernel
theorem dX2_sendUnits_3 : decode cX2_sendUnits 3 = .ok (.bipush 60, 2) := by decide +kernel
theorem dX2_sendUnits_5 : decode cX2_sendUnits 5 = .ok (.if_icmp .ge 52, 3) := by decide +kernel
theorem dX2_sendUnits_8 : decode cX2_sendUnits 8 = .ok (.aload_n 0, 1) := by decide +kernel
theorem dX2_sendUnits_9 : decode cX2_sendUnits 9 = .ok (.iload_n 1, 1) := by decide +kernel
theorem dX2_sendUnits_10 : decode cX2_sendUnits 10 = .ok (.invokevirtual 97, 3) := by decide +kernel
theorem dX2_sendUnits_13 : decode cX2_sendUnits 13 = .ok (.istore_n 3, 1) := by decide +kernel
theorem dX2_sendUnits_14 : decode cX2_sendUnits 14 = .ok (.iload_n 3, 1) := by decide +kernel
theorem dX2_sendUnits_15 : decode cX2_sendUnits 15 = .ok (.iconst (-1), 1) := by decide +kernel
theorem dX2_sendUnits_16 : decode cX2_sendUnits 16 = .ok (.if_icmp .ne 4, 3) := by decide +kernel
theorem dX2_sendUnits_19 : decode cX2_sendUnits 19 = .ok (.return_, 1) := by decide +kernel
theorem dX2_sendUnits_20 : decode cX2_sendUnits 20 = .ok (.aload_n 0, 1) := by decide +kernel
theorem dX2_sendUnits_21 : decode cX2_sendUnits 21 = .ok (.iload_n 1, 1) := by decide +kernel
theorem dX2_sendUnits_22 : decode cX2_sendUnits 22 = .ok (.aload_n 0, 1) := by decide +kernel
theorem dX2_sendUnits_23 : decode cX2_sendUnits 23 = .ok (.getfield 12, 3) := by decide +kernel
theorem dX2_sendUnits_26 : decode cX2_sendUnits 26 = .ok (.getfield 100, 3) := by decide +kernel
theorem dX2_sendUnits_29 : decode cX2_sendUnits 29 = .ok (.iload_n 3, 1) := by decide +kernel
theorem dX2_sendUnits_30 : decode cX2_sendUnits 30 = .ok (.iaload, 1) := by decide +kernel
theorem dX2_sendUnits_31 : decode cX2_sendUnits 31 = .ok (.invokevirtual 103, 3) := by decide +kernel
theorem dX2_sendUnits_34 : decode cX2_sendUnits 34 = .ok (.istore 4, 2) := by decide +kernel
theorem dX2_sendUnits_36 : decode cX2_sendUnits 36 = .ok (.iload 4, 2) := by decide +kernel
theorem dX2_sendUnits_38 : decode cX2_sendUnits 38 = .ok (.iconst (-1), 1) := by decide +kernel
theorem dX2_sendUnits_39 : decode cX2_sendUnits 39 = .ok (.if_icmp .ne 4, 3) := by decide +kernel
theorem dX2_sendUnits_42 : decode cX2_sendUnits 42 = .ok (.return_, 1) := by decide +kernel
theorem dX2_sendUnits_43 : decode cX2_sendUnits 43 = .ok (.aload_n 0, 1) := by decide +kernel
theorem dX2_sendUnits_44 : decode cX2_sendUnits 44 = .ok (.iload_n 3, 1) := by decide +kernel
theorem dX2_sendUnits_45 : decode cX2_sendUnits 45 = .ok (.iload 4, 2) := by decide +kernel
theorem dX2_sendUnits_47 : decode cX2_sendUnits 47 = .ok (.iload_n 1, 1) := by decide +kernel
theorem dX2_sendUnits_48 : decode cX2_sendUnits 48 = .ok (.invokevirtual 106, 3) := by decide +kernel
theorem dX2_sendUnits_51 : decode cX2_sendUnits 51 = .ok (.iinc 2 1, 3) := by decide +kernel
theorem dX2_sendUnits_54 : decode cX2_sendUnits 54 = .ok (.goto (-52), 3) := by decide +kernel
theorem dX2_sendUnits_57 : decode cX2_sendUnits 57 = .ok (.return_, 1) := by decide +kernel
theorem dX2_send_0 : decode cX2_send 0 = .ok (.aload_n 0, 1) := by decide +kernel
theorem dX2_send_1 : decode cX2_send 1 = .ok (.getfield 37, 3) := by decide +kernel
theorem dX2_send_4 : decode cX2_send 4 = .ok (.iload_n 2, 1) := by decide +kernel
theorem dX2_send_5 : decode cX2_send 5 = .ok (.aaload, 1) := by decide +kernel
theorem dX2_send_6 : decode cX2_send 6 = .ok (.aload_n 0, 1) := by decide +kernel
theorem dX2_send_7 : decode cX2_send 7 = .ok (.getfield 12, 3) := by decide +kernel
theorem dX2_send_10 : decode cX2_send 10 = .ok (.getfield 100, 3) := by decide +kernel
theorem dX2_send_13 : decode cX2_send 13 = .ok (.iload_n 1, 1) := by decide +kernel
theorem dX2_send_14 : decode cX2_send 14 = .ok (.iaload, 1) := by decide +kernel
theorem dX2_send_15 : decode cX2_send 15 = .ok (.iaload, 1) := by decide +kernel
theorem dX2_send_16 : decode cX2_send 16 = .ok (.istore 4, 2) := by decide +kernel
theorem dX2_send_18 : decode cX2_send 18 = .ok (.aload_n 0, 1) := by decide +kernel
theorem dX2_send_19 : decode cX2_send 19 = .ok (.getfield 18, 3) := by decide +kernel
theorem dX2_send_22 : decode cX2_send 22 = .ok (.iload_n 1, 1) := by decide +kernel
theorem dX2_send_23 : decode cX2_send 23 = .ok (.iload_n 2, 1) := by decide +kernel
theorem dX2_send_24 : decode cX2_send 24 = .ok (.iastore, 1) := by decide +kernel
theorem dX2_send_25 : decode cX2_send 25 = .ok (.aload_n 0, 1) := by decide +kernel
theorem dX2_send_26 : decode cX2_send 26 = .ok (.getfield 22, 3) := by decide +kernel
theorem dX2_send_29 : decode cX2_send 29 = .ok (.iload_n 1, 1) := by decide +kernel
theorem dX2_send_30 : decode cX2_send 30 = .ok (.iload 4, 2) := by decide +kernel
theorem dX2_send_32 : decode cX2_send 32 = .ok (.iastore, 1) := by decide +kernel
theorem dX2_send_33 : decode cX2_send 33 = .ok (.aload_n 0, 1) := by decide +kernel
theorem dX2_send_34 : decode cX2_send 34 = .ok (.getfield 25, 3) := by decide +kernel
theorem dX2_send_37 : decode cX2_send 37 = .ok (.iload_n 1, 1) := by decide +kernel
theorem dX2_send_38 : decode cX2_send 38 = .ok (.iload_n 3, 1) := by decide +kernel
theorem dX2_send_39 : decode cX2_send 39 = .ok (.iload 4, 2) := by decide +kernel
theorem dX2_send_41 : decode cX2_send 41 = .ok (.iadd, 1) := by decide +kernel
theorem dX2_send_42 : decode cX2_send 42 = .ok (.iastore, 1) := by decide +kernel
theorem dX2_send_43 : decode cX2_send 43 = .ok (.aload_n 0, 1) := by decide +kernel
theorem dX2_send_44 : decode cX2_send 44 = .ok (.getfield 40, 3) := by decide +kernel
theorem dX2_send_47 : decode cX2_send 47 = .ok (.iload_n 2, 1) := by decide +kernel
theorem dX2_send_48 : decode cX2_send 48 = .ok (.aload_n 0, 1) := by decide +kernel
theorem dX2_send_49 : decode cX2_send 49 = .ok (.getfield 25, 3) := by decide +kernel
theorem dX2_send_52 : decode cX2_send 52 = .ok (.iload_n 1, 1) := by decide +kernel
theorem dX2_send_53 : decode cX2_send 53 = .ok (.iaload, 1) := by decide +kernel
theorem dX2_send_54 : decode cX2_send 54 = .ok (.aload_n 0, 1) := by decide +kernel
theorem dX2_send_55 : decode cX2_send 55 = .ok (.getfield 12, 3) := by decide +kernel
theorem dX2_send_58 : decode cX2_send 58 = .ok (.getfield 110, 3) := by decide +kernel
theorem dX2_send_61 : decode cX2_send 61 = .ok (.iload_n 1, 1) := by decide +kernel
theorem dX2_send_62 : decode cX2_send 62 = .ok (.iaload, 1) := by decide +kernel
theorem dX2_send_63 : decode cX2_send 63 = .ok (.iadd, 1) := by decide +kernel
theorem dX2_send_64 : decode cX2_send 64 = .ok (.iload 4, 2) := by decide +kernel
theorem dX2_send_66 : decode cX2_send 66 = .ok (.iadd, 1) := by decide +kernel
theorem dX2_send_67 : decode cX2_send 67 = .ok (.iastore, 1) := by decide +kernel
theorem dX2_send_68 : decode cX2_send 68 = .ok (.aload_n 0, 1) := by decide +kernel
theorem dX2_send_69 : decode cX2_send 69 = .ok (.getfield 28, 3) := by decide +kernel
theorem dX2_send_72 : decode cX2_send 72 = .ok (.iload_n 2, 1) := by decide +kernel
theorem dX2_send_73 : decode cX2_send 73 = .ok (.dup2, 1) := by decide +kernel
theorem dX2_send_74 : decode cX2_send 74 = .ok (.iaload, 1) := by decide +kernel
theorem dX2_send_75 : decode cX2_send 75 = .ok (.aload_n 0, 1) := by decide +kernel
theorem dX2_send_76 : decode cX2_send 76 = .ok (.getfield 40, 3) := by decide +kernel
theorem dX2_send_79 : decode cX2_send 79 = .ok (.iload_n 2, 1) := by decide +kernel
theorem dX2_send_80 : decode cX2_send 80 = .ok (.iaload, 1) := by decide +kernel
theorem dX2_send_81 : decode cX2_send 81 = .ok (.iload_n 3, 1) := by decide +kernel
theorem dX2_send_82 : decode cX2_send 82 = .ok (.isub, 1) := by decide +kernel
theorem dX2_send_83 : decode cX2_send 83 = .ok (.iadd, 1) := by decide +kernel
theorem dX2_send_84 : decode cX2_send 84 = .ok (.iastore, 1) := by decide +kernel
theorem dX2_send_85 : decode cX2_send 85 = .ok (.return_, 1) := by decide +kernel
set_option maxRecDepth 20000 in
theorem ggX2_firstWaiting_X2_goesAhead : GoodIn wsX2_firstWaiting wsX2_goesAhead := goodIn_r _ [9, 1, 10, 4, 11, 12, 13, 14, 15, 16, 17, 18, 19, 20, 21, 22, 23, 24, 25, 26] (by decide +kernel) (by decide +kernel)
set_option maxRecDepth 20000 in
theorem gX2_firstWaiting_X2_goesAhead : GoodIn wsX2_firstWaiting (wsV RX2 116 RX2 yX2_goesAhead wsX2_goesAhead) := goodIn_app (goodIn_of _ (by decide +kernel)) ggX2_firstWaiting_X2_goesAhead
theorem dX2_firstWaiting_0 : decode cX2_firstWaiting 0 = .ok (.iconst (-1), 1) := by decide +kernel
theorem dX2_firstWaiting_1 : decode cX2_firstWaiting 1 = .ok (.istore_n 2, 1) := by decide +kernel
theorem dX2_firstWaiting_2 : decode cX2_firstWaiting 2 = .ok (.iconst 0, 1) := by decide +kernel
theorem dX2_firstWaiting_3 : decode cX2_firstWaiting 3 = .ok (.istore_n 3, 1) := by decide +kernel
theorem dX2_firstWaiting_4 : decode cX2_firstWaiting 4 = .ok (.iload_n 3, 1) := by decide +kernel
theorem dX2_firstWaiting_5 : decode cX2_firstWaiting 5 = .ok (.aload_n 0, 1) := by decide +kernel
theorem dX2_firstWaiting_6 : decode cX2_firstWaiting 6 = .ok (.getfield 12, 3) := by decide +kernel
theorem dX2_firstWaiting_9 : decode cX2_firstWaiting 9 = .ok (.getfield 53, 3) := by decide +kernel
theorem dX2_firstWaiting_12 : decode cX2_firstWaiting 12 = .ok (.if_icmp .ge 60, 3) := by decide +kernel
theorem dX2_firstWaiting_15 : decode cX2_firstWaiting 15 = .ok (.aload_n 0, 1) := by decide +kernel
theorem dX2_firstWaiting_16 : decode cX2_firstWaiting 16 = .ok (.getfield 18, 3) := by decide +kernel
theorem dX2_firstWaiting_19 : decode cX2_firstWaiting 19 = .ok (.iload_n 3, 1) := by decide +kernel
theorem dX2_firstWaiting_20 : decode cX2_firstWaiting 20 = .ok (.iaload, 1) := by decide +kernel
theorem dX2_firstWaiting_21 : decode cX2_firstWaiting 21 = .ok (.iconst (-1), 1) := by decide +kernel
theorem dX2_firstWaiting_22 : decode cX2_firstWaiting 22 = .ok (.if_icmp .ne 20, 3) := by decide +kernel
theorem dX2_firstWaiting_25 : decode cX2_firstWaiting 25 = .ok (.aload_n 0, 1) := by decide +kernel
theorem dX2_firstWaiting_26 : decode cX2_firstWaiting 26 = .ok (.getfield 12, 3) := by decide +kernel
theorem dX2_firstWaiting_29 : decode cX2_firstWaiting 29 = .ok (.getfield 113, 3) := by decide +kernel
theorem dX2_firstWaiting_32 : decode cX2_firstWaiting 32 = .ok (.iload_n 3, 1) := by decide +kernel
theorem dX2_firstWaiting_33 : decode cX2_firstWaiting 33 = .ok (.iaload, 1) := by decide +kernel
theorem dX2_firstWaiting_34 : decode cX2_firstWaiting 34 = .ok (.iload_n 1, 1) := by decide +kernel
theorem dX2_firstWaiting_35 : decode cX2_firstWaiting 35 = .ok (.if_icmp .gt 7, 3) := by decide +kernel
theorem dX2_firstWaiting_38 : decode cX2_firstWaiting 38 = .ok (.iconst 1, 1) := by decide +kernel
theorem dX2_firstWaiting_39 : decode cX2_firstWaiting 39 = .ok (.goto 4, 3) := by decide +kernel
theorem dX2_firstWaiting_42 : decode cX2_firstWaiting 42 = .ok (.iconst 0, 1) := by decide +kernel
theorem dX2_firstWaiting_43 : decode cX2_firstWaiting 43 = .ok (.istore 4, 2) := by decide +kernel
theorem dX2_firstWaiting_45 : decode cX2_firstWaiting 45 = .ok (.iload 4, 2) := by decide +kernel
theorem dX2_firstWaiting_47 : decode cX2_firstWaiting 47 = .ok (.ifCond .eq 19, 3) := by decide +kernel
theorem dX2_firstWaiting_50 : decode cX2_firstWaiting 50 = .ok (.iload_n 2, 1) := by decide +kernel
theorem dX2_firstWaiting_51 : decode cX2_firstWaiting 51 = .ok (.iconst (-1), 1) := by decide +kernel
theorem dX2_firstWaiting_52 : decode cX2_firstWaiting 52 = .ok (.if_icmp .eq 12, 3) := by decide +kernel
theorem dX2_firstWaiting_55 : decode cX2_firstWaiting 55 = .ok (.aload_n 0, 1) := by decide +kernel
theorem dX2_firstWaiting_56 : decode cX2_firstWaiting 56 = .ok (.iload_n 3, 1) := by decide +kernel
theorem dX2_firstWaiting_57 : decode cX2_firstWaiting 57 = .ok (.iload_n 2, 1) := by decide +kernel
theorem dX2_firstWaiting_58 : decode cX2_firstWaiting 58 = .ok (.invokevirtual 116, 3) := by decide +kernel
theorem dX2_firstWaiting_61 : decode cX2_firstWaiting 61 = .ok (.ifCond .eq 5, 3) := by decide +kernel
theorem dX2_firstWaiting_64 : decode cX2_firstWaiting 64 = .ok (.iload_n 3, 1) := by decide +kernel
theorem dX2_firstWaiting_65 : decode cX2_firstWaiting 65 = .ok (.istore_n 2, 1) := by decide +kernel
theorem dX2_firstWaiting_66 : decode cX2_firstWaiting 66 = .ok (.iinc 3 1, 3) := by decide +kernel
theorem dX2_firstWaiting_69 : decode cX2_firstWaiting 69 = .ok (.goto (-65), 3) := by decide +kernel
theorem dX2_firstWaiting_72 : decode cX2_firstWaiting 72 = .ok (.iload_n 2, 1) := by decide +kernel
theorem dX2_firstWaiting_73 : decode cX2_firstWaiting 73 = .ok (.ireturn, 1) := by decide +kernel
theorem dX2_goesAhead_0 : decode cX2_goesAhead 0 = .ok (.aload_n 0, 1) := by decide +kernel
theorem dX2_goesAhead_1 : decode cX2_goesAhead 1 = .ok (.getfield 12, 3) := by decide +kernel
theorem dX2_goesAhead_4 : decode cX2_goesAhead 4 = .ok (.getfield 120, 3) := by decide +kernel
theorem dX2_goesAhead_7 : decode cX2_goesAhead 7 = .ok (.iload_n 1, 1) := by decide +kernel
theorem dX2_goesAhead_8 : decode cX2_goesAhead 8 = .ok (.iaload, 1) := by decide +kernel
theorem dX2_goesAhead_9 : decode cX2_goesAhead 9 = .ok (.aload_n 0, 1) := by decide +kernel
theorem dX2_goesAhead_10 : decode cX2_goesAhead 10 = .ok (.getfield 12, 3) := by decide +kernel
theorem dX2_goesAhead_13 : decode cX2_goesAhead 13 = .ok (.getfield 120, 3) := by decide +kernel
theorem dX2_goesAhead_16 : decode cX2_goesAhead 16 = .ok (.iload_n 2, 1) := by decide +kernel
theorem dX2_goesAhead_17 : decode cX2_goesAhead 17 = .ok (.iaload, 1) := by decide +kernel
theorem dX2_goesAhead_18 : decode cX2_goesAhead 18 = .ok (.if_icmp .eq 30, 3) := by decide +kernel
theorem dX2_goesAhead_21 : decode cX2_goesAhead 21 = .ok (.aload_n 0, 1) := by decide +kernel
theorem dX2_goesAhead_22 : decode cX2_goesAhead 22 = .ok (.getfield 12, 3) := by decide +kernel
theorem dX2_goesAhead_25 : decode cX2_goesAhead 25 = .ok (.getfield 120, 3) := by decide +kernel
theorem dX2_goesAhead_28 : decode cX2_goesAhead 28 = .ok (.iload_n 1, 1) := by decide +kernel
theorem dX2_goesAhead_29 : decode cX2_goesAhead 29 = .ok (.iaload, 1) := by decide +kernel
theorem dX2_goesAhead_30 : decode cX2_goesAhead 30 = .ok (.aload_n 0, 1) := by decide +kernel
theorem dX2_goesAhead_31 : decode cX2_goesAhead 31 = .ok (.getfield 12, 3) := by decide +kernel
theorem dX2_goesAhead_34 : decode cX2_goesAhead 34 = .ok (.getfield 120, 3) := by decide +kernel
theorem dX2_goesAhead_37 : decode cX2_goesAhead 37 = .ok (.iload_n 2, 1) := by decide +kernel
theorem dX2_goesAhead_38 : decode cX2_goesAhead 38 = .ok (.iaload, 1) := by decide +kernel
theorem dX2_goesAhead_39 : decode cX2_goesAhead 39 = .ok (.if_icmp .le 7, 3) := by decide +kernel
theorem dX2_goesAhead_42 : decode cX2_goesAhead 42 = .ok (.iconst 1, 1) := by decide +kernel
theorem dX2_goesAhead_43 : decode cX2_goesAhead 43 = .ok (.goto 4, 3) := by decide +kernel
theorem dX2_goesAhead_46 : decode cX2_goesAhead 46 = .ok (.iconst 0, 1) := by decide +kernel
theorem dX2_goesAhead_47 : decode cX2_goesAhead 47 = .ok (.ireturn, 1) := by decide +kernel
theorem dX2_goesAhead_48 : decode cX2_goesAhead 48 = .ok (.aload_n 0, 1) := by decide +kernel
theorem dX2_goesAhead_49 : decode cX2_goesAhead 49 = .ok (.getfield 12, 3) := by decide +kernel
theorem dX2_goesAhead_52 : decode cX2_goesAhead 52 = .ok (.getfield 113, 3) := by decide +kernel
theorem dX2_goesAhead_55 : decode cX2_goesAhead 55 = .ok (.iload_n 1, 1) := by decide +kernel
theorem dX2_goesAhead_56 : decode cX2_goesAhead 56 = .ok (.iaload, 1) := by decide +kernel
theorem dX2_goesAhead_57 : decode cX2_goesAhead 57 = .ok (.aload_n 0, 1) := by decide +kernel
theorem dX2_goesAhead_58 : decode cX2_goesAhead 58 = .ok (.getfield 12, 3) := by decide +kernel
theorem dX2_goesAhead_61 : decode cX2_goesAhead 61 = .ok (.getfield 113, 3) := by decide +kernel
theorem dX2_goesAhead_64 : decode cX2_goesAhead 64 = .ok (.iload_n 2, 1) := by decide +kernel
theorem dX2_goesAhead_65 : decode cX2_goesAhead 65 = .ok (.iaload, 1) := by decide +kernel
theorem dX2_goesAhead_66 : decode cX2_goesAhead 66 = .ok (.if_icmp .ge 7, 3) := by decide +kernel
theorem dX2_goesAhead_69 : decode cX2_goesAhead 69 = .ok (.iconst 1, 1) := by decide +kernel
theorem dX2_goesAhead_70 : decode cX2_goesAhead 70 = .ok (.goto 4, 3) := by decide +kernel
theorem dX2_goesAhead_73 : decode cX2_goesAhead 73 = .ok (.iconst 0, 1) := by decide +kernel
theorem dX2_goesAhead_74 : decode cX2_goesAhead 74 = .ok (.ireturn, 1) := by decide +kernel
set_option maxRecDepth 20000 in
theorem ggX2_nearestFree_X2_isFree : GoodIn wsX2_nearestFree wsX2_isFree := goodIn_r _ [8, 9, 10, 11, 12, 13, 14, 15, 16, 17, 18, 19, 20, 21] (by decide +kernel) (by decide +kernel)
set_option maxRecDepth 20000 in
theorem gX2_nearestFree_X2_isFree : GoodIn wsX2_nearestFree (wsV RX2 123 RX2 yX2_isFree wsX2_isFree) := goodIn_app (goodIn_of _ (by decide +kernel)) ggX2_nearestFree_X2_isFree
theorem dX2_nearestFree_0 : decode cX2_nearestFree 0 = .ok (.iconst (-1), 1) := by decide +kernel
theorem dX2_nearestFree_1 : decode cX2_nearestFree 1 = .ok (.istore_n 3, 1) := by decide +kernel
theorem dX2_nearestFree_2 : decode cX2_nearestFree 2 = .ok (.ldc 75, 2) := by decide +kernel
theorem dX2_nearestFree_4 : decode cX2_nearestFree 4 = .ok (.istore 4, 2) := by decide +kernel
theorem dX2_nearestFree_6 : decode cX2_nearestFree 6 = .ok (.iconst 0, 1) := by decide +kernel
theorem dX2_nearestFree_7 : decode cX2_nearestFree 7 = .ok (.istore 5, 2) := by decide +kernel
theorem dX2_nearestFree_9 : decode cX2_nearestFree 9 = .ok (.iload 5, 2) := by decide +kernel
theorem dX2_nearestFree_11 : decode cX2_nearestFree 11 = .ok (.aload_n 0, 1) := by decide +kernel
theorem dX2_nearestFree_12 : decode cX2_nearestFree 12 = .ok (.getfield 46, 3) := by decide +kernel
theorem dX2_nearestFree_15 : decode cX2_nearestFree 15 = .ok (.if_icmp .ge 47, 3) := by decide +kernel
theorem dX2_nearestFree_18 : decode cX2_nearestFree 18 = .ok (.aload_n 0, 1) := by decide +kernel
theorem dX2_nearestFree_19 : decode cX2_nearestFree 19 = .ok (.iload 5, 2) := by decide +kernel
theorem dX2_nearestFree_21 : decode cX2_nearestFree 21 = .ok (.iload_n 1, 1) := by decide +kernel
theorem dX2_nearestFree_22 : decode cX2_nearestFree 22 = .ok (.invokevirtual 123, 3) := by decide +kernel
theorem dX2_nearestFree_25 : decode cX2_nearestFree 25 = .ok (.ifCond .eq 31, 3) := by decide +kernel
theorem dX2_nearestFree_28 : decode cX2_nearestFree 28 = .ok (.aload_n 0, 1) := by decide +kernel
theorem dX2_nearestFree_29 : decode cX2_nearestFree 29 = .ok (.getfield 37, 3) := by decide +kernel
theorem dX2_nearestFree_32 : decode cX2_nearestFree 32 = .ok (.iload 5, 2) := by decide +kernel
theorem dX2_nearestFree_34 : decode cX2_nearestFree 34 = .ok (.aaload, 1) := by decide +kernel
theorem dX2_nearestFree_35 : decode cX2_nearestFree 35 = .ok (.iload_n 2, 1) := by decide +kernel
theorem dX2_nearestFree_36 : decode cX2_nearestFree 36 = .ok (.iaload, 1) := by decide +kernel
theorem dX2_nearestFree_37 : decode cX2_nearestFree 37 = .ok (.iload 4, 2) := by decide +kernel
theorem dX2_nearestFree_39 : decode cX2_nearestFree 39 = .ok (.if_icmp .ge 17, 3) := by decide +kernel
theorem dX2_nearestFree_42 : decode cX2_nearestFree 42 = .ok (.aload_n 0, 1) := by decide +kernel
theorem dX2_nearestFree_43 : decode cX2_nearestFree 43 = .ok (.getfield 37, 3) := by decide +kernel
theorem dX2_nearestFree_46 : decode cX2_nearestFree 46 = .ok (.iload 5, 2) := by decide +kernel
theorem dX2_nearestFree_48 : decode cX2_nearestFree 48 = .ok (.aaload, 1) := by decide +kernel
theorem dX2_nearestFree_49 : decode cX2_nearestFree 49 = .ok (.iload_n 2, 1) := by decide +kernel
theorem dX2_nearestFree_50 : decode cX2_nearestFree 50 = .ok (.iaload, 1) := by decide +kernel
theorem dX2_nearestFree_51 : decode cX2_nearestFree 51 = .ok (.istore 4, 2) := by decide +kernel
theorem dX2_nearestFree_53 : decode cX2_nearestFree 53 = .ok (.iload 5, 2) := by decide +kernel
theorem dX2_nearestFree_55 : decode cX2_nearestFree 55 = .ok (.istore_n 3, 1) := by decide +kernel
theorem dX2_nearestFree_56 : decode cX2_nearestFree 56 = .ok (.iinc 5 1, 3) := by decide +kernel
theorem dX2_nearestFree_59 : decode cX2_nearestFree 59 = .ok (.goto (-50), 3) := by decide +kernel
theorem dX2_nearestFree_62 : decode cX2_nearestFree 62 = .ok (.iload_n 3, 1) := by decide +kernel
theorem dX2_nearestFree_63 : decode cX2_nearestFree 63 = .ok (.ireturn, 1) := by decide +kernel
theorem dX2_isFree_0 : decode cX2_isFree 0 = .ok (.aload_n 0, 1) := by decide +kernel
theorem dX2_isFree_1 : decode cX2_isFree 1 = .ok (.getfield 31, 3) := by decide +kernel
theorem dX2_isFree_4 : decode cX2_isFree 4 = .ok (.iload_n 1, 1) := by decide +kernel
theorem dX2_isFree_5 : decode cX2_isFree 5 = .ok (.baload, 1) := by decide +kernel
theorem dX2_isFree_6 : decode cX2_isFree 6 = .ok (.ifCond .ne 17, 3) := by decide +kernel
theorem dX2_isFree_9 : decode cX2_isFree 9 = .ok (.aload_n 0, 1) := by decide +kernel
theorem dX2_isFree_10 : decode cX2_isFree 10 = .ok (.getfield 40, 3) := by decide +kernel
theorem dX2_isFree_13 : decode cX2_isFree 13 = .ok (.iload_n 1, 1) := by decide +kernel
theorem dX2_isFree_14 : decode cX2_isFree 14 = .ok (.iaload, 1) := by decide +kernel
theorem dX2_isFree_15 : decode cX2_isFree 15 = .ok (.iload_n 2, 1) := by decide +kernel
theorem dX2_isFree_16 : decode cX2_isFree 16 = .ok (.if_icmp .gt 7, 3) := by decide +kernel
theorem dX2_isFree_19 : decode cX2_isFree 19 = .ok (.iconst 1, 1) := by decide +kernel
theorem dX2_isFree_20 : decode cX2_isFree 20 = .ok (.goto 4, 3) := by decide +kernel
theorem dX2_isFree_23 : decode cX2_isFree 23 = .ok (.iconst 0, 1) := by decide +kernel
theorem dX2_isFree_24 : decode cX2_isFree 24 = .ok (.ireturn, 1) := by decide +kernel
set_option maxRecDepth 20000 in
theorem ggX2_isAnyFree_X2_isFree : GoodIn wsX2_isAnyFree wsX2_isFree := goodIn_r _ [6, 7, 8, 9, 10, 11, 12, 13, 14, 15, 16, 17, 18, 19] (by decide +kernel) (by decide +kernel)
set_option maxRecDepth 20000 in
theorem gX2_isAnyFree_X2_isFree : GoodIn wsX2_isAnyFree (wsV RX2 123 RX2 yX2_isFree wsX2_isFree) := goodIn_app (goodIn_of _ (by decide +kernel)) ggX2_isAnyFree_X2_isFree
theorem dX2_isAnyFree_0 : decode cX2_isAnyFree 0 = .ok (.iconst 0, 1) := by decide +kernel
theorem dX2_isAnyFree_1 : decode cX2_isAnyFree 1 = .ok (.istore_n 2, 1) := by decide +kernel
theorem dX2_isAnyFree_2 : decode cX2_isAnyFree 2 = .ok (.iload_n 2, 1) := by decide +kernel
theorem dX2_isAnyFree_3 : decode cX2_isAnyFree 3 = .ok (.aload_n 0, 1) := by decide +kernel
theorem dX2_isAnyFree_4 : decode cX2_isAnyFree 4 = .ok (.getfield 46, 3) := by decide +kernel
theorem dX2_isAnyFree_7 : decode cX2_isAnyFree 7 = .ok (.if_icmp .ge 20, 3) := by decide +kernel
theorem dX2_isAnyFree_10 : decode cX2_isAnyFree 10 = .ok (.aload_n 0, 1) := by decide +kernel
theorem dX2_isAnyFree_11 : decode cX2_isAnyFree 11 = .ok (.iload_n 2, 1) := by decide +kernel
theorem dX2_isAnyFree_12 : decode cX2_isAnyFree 12 = .ok (.iload_n 1, 1) := by decide +kernel
theorem dX2_isAnyFree_13 : decode cX2_isAnyFree 13 = .ok (.invokevirtual 123, 3) := by decide +kernel
theorem dX2_isAnyFree_16 : decode cX2_isAnyFree 16 = .ok (.ifCond .eq 5, 3) := by decide +kernel
theorem dX2_isAnyFree_19 : decode cX2_isAnyFree 19 = .ok (.iconst 1, 1) := by decide +kernel
theorem dX2_isAnyFree_20 : decode cX2_isAnyFree 20 = .ok (.ireturn, 1) := by decide +kernel
theorem dX2_isAnyFree_21 : decode cX2_isAnyFree 21 = .ok (.iinc 2 1, 3) := by decide +kernel
theorem dX2_isAnyFree_24 : decode cX2_isAnyFree 24 = .ok (.goto (-22), 3) := by decide +kernel
theorem dX2_isAnyFree_27 : decode cX2_isAnyFree 27 = .ok (.iconst 0, 1) := by decide +kernel
theorem dX2_isAnyFree_28 : decode cX2_isAnyFree 28 = .ok (.ireturn, 1) := by decide +kernel
theorem dX2_nextEvent_0 : decode cX2_nextEvent 0 = .ok (.ldc 75, 2) := by decide +kernel
theorem dX2_nextEvent_2 : decode cX2_nextEvent 2 = .ok (.istore_n 2, 1) := by decide +kernel
theorem dX2_nextEvent_3 : decode cX2_nextEvent 3 = .ok (.iconst 0, 1) := by decide +kernel
theorem dX2_nextEvent_4 : decode cX2_nextEvent 4 = .ok (.istore_n 3, 1) := by decide +kernel
theorem dX2_nextEvent_5 : decode cX2_nextEvent 5 = .ok (.iload_n 3, 1) := by decide +kernel
