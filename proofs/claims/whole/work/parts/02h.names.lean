theorem dL_unlucky_23 : decode cL_unlucky 23 = .ok (.astore 7, 2) := by decide +kernel
theorem dL_unlucky_25 : decode cL_unlucky 25 = .ok (.iconst 2, 1) := by decide +kernel
theorem dL_unlucky_26 : decode cL_unlucky 26 = .ok (.ireturn, 1) := by decide +kernel
theorem dL_unlucky_27 : decode cL_unlucky 27 = .ok (.astore 7, 2) := by decide +kernel
theorem dL_unlucky_29 : decode cL_unlucky 29 = .ok (.iconst 3, 1) := by decide +kernel
theorem dL_unlucky_30 : decode cL_unlucky 30 = .ok (.ireturn, 1) := by decide +kernel
theorem dL_unlucky_31 : decode cL_unlucky 31 = .ok (.iconst 0, 1) := by decide +kernel
theorem dL_unlucky_32 : decode cL_unlucky 32 = .ok (.ireturn, 1) := by decide +kernel
set_option maxRecDepth 20000 in
theorem ggL_compare_X4_compare : GoodIn wsL_compare wsX4_compare := goodIn_ca (goodIn_ca (goodIn_ca (goodIn_r _ [8, 9, 10, 11, 12, 13, 7, 14, 15, 16, 17, 18, 19, 20, 21, 22, 23, 24, 25, 26, 27, 28, 29, 30, 31, 32, 33, 34, 35, 36, 37, 38, 39, 40, 41, 42, 43, 44, 45, 46, 47, 48, 49, 50, 51, 52, 53, 54, 55, 56, 57, 58, 59, 60, 61, 62, 63, 64, 65, 66, 67, 68, 69, 70, 71, 72, 73, 74, 75, 76, 77, 78, 79, 80, 81, 82, 83, 84, 85, 86, 87, 88, 89, 90, 91, 92, 93, 94, 95, 96, 97, 98, 99, 100, 101, 102, 103, 104, 105, 106, 107, 108, 109, 110, 111, 112, 113, 114, 115, 116, 117, 118, 119, 120, 121, 122, 123, 124, 125, 126, 127, 128, 129, 130, 131, 132, 133, 134, 135, 136, 137, 138, 139, 140, 141, 142, 143, 144, 145, 146, 147, 148, 149, 150, 151, 152, 153, 154, 155, 156, 157, 158, 159, 160, 161, 162, 163, 164, 165, 166, 167, 168, 169, 170, 171, 172, 173, 174, 175, 176, 177, 178, 179, 180, 181, 182, 183, 184, 185, 186, 187, 188, 189, 190, 191, 192, 193, 194, 195, 196, 197, 198, 199, 200, 201, 202, 203, 204] (by decide +kernel) (by decide +kernel)) (goodIn_sub (fun _ h => List.mem_cons_of_mem _ (List.mem_append_left _ (List.mem_append_left _ (List.mem_append_right _ h)))) (by decide +kernel))) (goodIn_sub (fun _ h => List.mem_cons_of_mem _ (List.mem_append_left _ (List.mem_append_right _ h))) (by decide +kernel))) (goodIn_sub (fun _ h => List.mem_cons_of_mem _ (List.mem_append_right _ h)) (by decide +kernel))
set_option maxRecDepth 20000 in
theorem gL_compare_X4_compare : GoodIn wsL_compare (wsV RL 63 RX4 yX4_compare wsX4_compare) := goodIn_app (goodIn_of _ (by decide +kernel)) ggL_compare_X4_compare
theorem dL_compare_0 : decode cL_compare 0 = .ok (.aload 7, 2) := by decide +kernel
theorem dL_compare_2 : decode cL_compare 2 = .ok (.iconst 0, 1) := by decide +kernel
theorem dL_compare_3 : decode cL_compare 3 = .ok (.aload_n 0, 1) := by decide +kernel
theorem dL_compare_4 : decode cL_compare 4 = .ok (.iload_n 1, 1) := by decide +kernel
theorem dL_compare_5 : decode cL_compare 5 = .ok (.iload_n 2, 1) := by decide +kernel
theorem dL_compare_6 : decode cL_compare 6 = .ok (.iload_n 3, 1) := by decide +kernel
theorem dL_compare_7 : decode cL_compare 7 = .ok (.iload 4, 2) := by decide +kernel
theorem dL_compare_9 : decode cL_compare 9 = .ok (.iload 5, 2) := by decide +kernel
theorem dL_compare_11 : decode cL_compare 11 = .ok (.iload 6, 2) := by decide +kernel
theorem dL_compare_13 : decode cL_compare 13 = .ok (.invokevirtual 63, 3) := by decide +kernel
theorem dL_compare_16 : decode cL_compare 16 = .ok (.i2l, 1) := by decide +kernel
theorem dL_compare_17 : decode cL_compare 17 = .ok (.lastore, 1) := by decide +kernel
theorem dL_compare_18 : decode cL_compare 18 = .ok (.goto 15, 3) := by decide +kernel
theorem dL_compare_21 : decode cL_compare 21 = .ok (.astore 8, 2) := by decide +kernel
theorem dL_compare_23 : decode cL_compare 23 = .ok (.iconst 1, 1) := by decide +kernel
theorem dL_compare_24 : decode cL_compare 24 = .ok (.ireturn, 1) := by decide +kernel
theorem dL_compare_25 : decode cL_compare 25 = .ok (.astore 8, 2) := by decide +kernel
theorem dL_compare_27 : decode cL_compare 27 = .ok (.iconst 2, 1) := by decide +kernel
theorem dL_compare_28 : decode cL_compare 28 = .ok (.ireturn, 1) := by decide +kernel
theorem dL_compare_29 : decode cL_compare 29 = .ok (.astore 8, 2) := by decide +kernel
theorem dL_compare_31 : decode cL_compare 31 = .ok (.iconst 3, 1) := by decide +kernel
theorem dL_compare_32 : decode cL_compare 32 = .ok (.ireturn, 1) := by decide +kernel
theorem dL_compare_33 : decode cL_compare 33 = .ok (.iconst 0, 1) := by decide +kernel
theorem dL_compare_34 : decode cL_compare 34 = .ok (.ireturn, 1) := by decide +kernel
abbrev vwCl : List vw_C := [(RX0, TX0, 5), (RX1, TX1, 2), (RX2, TX2, 11), (RX3, TX3, 8), (RX4, TX4, 5), (RX5, TX5, 24)]
