set_option maxRecDepth 20000 in
theorem ggL_law_X4_init : GoodIn wsL_law wsX4_init := goodIn_r _ [9, 10, 11, 12, 13, 14, 15, 16, 17, 18, 19, 20, 21, 22, 23, 24, 25, 26, 27, 28, 29, 30, 31, 32, 33, 34, 35, 36, 37, 38, 39, 40, 41, 42, 43, 44, 45, 46, 47, 48, 49, 50, 51, 52, 53, 54, 55, 56, 57, 58, 59, 60, 61, 62, 63, 64, 65, 66, 67, 68, 69, 70, 71, 585, 586, 587, 588, 589, 590, 591, 592, 556, 557, 558, 559, 560, 593, 594, 595, 596, 597, 598, 599, 600, 601, 602, 603, 604, 605, 606, 607, 608, 609, 610] (by decide +kernel) (by decide +kernel)
set_option maxRecDepth 20000 in
theorem gL_law_X4_init : GoodIn wsL_law (wsX4_init) := ggL_law_X4_init
set_option maxRecDepth 20000 in
theorem ggL_law_X5_init : GoodIn wsL_law wsX5_init := goodIn_r _ [74, 75, 11, 12, 76, 77, 30, 78, 79, 80, 81, 82, 83, 84, 85, 86, 87, 88, 89, 90, 91, 92, 93, 561, 562, 563, 564, 565, 566, 567, 568, 569, 570, 571, 572, 573, 574, 575, 576, 577, 578, 579, 580, 581, 582, 583, 584] (by decide +kernel) (by decide +kernel)
set_option maxRecDepth 20000 in
theorem gL_law_X5_init : GoodIn wsL_law (wsX5_init) := ggL_law_X5_init
set_option maxRecDepth 20000 in
theorem ggL_law_L_station : GoodIn wsL_law wsL_station := goodIn_ca (goodIn_ca (goodIn_r _ [97, 98, 99, 100, 101, 102, 2, 103, 16, 104, 105, 106, 107, 108, 109, 110, 111, 112, 113, 114, 115, 116, 117, 118, 119, 120, 121, 122, 123, 15, 124, 31, 36, 32, 556, 557, 558, 559, 560, 585, 586, 587, 588, 589, 590, 591, 592] (by decide +kernel) (by decide +kernel)) (goodIn_sub (fun _ h => List.mem_append_left _ (List.mem_append_left _ (List.mem_append_left _ (List.mem_append_left _ (List.mem_append_right _ h))))) (by decide +kernel))) (goodIn_sub (fun _ h => List.mem_append_left _ (List.mem_append_left _ (List.mem_append_left _ (List.mem_append_right _ h)))) (by decide +kernel))
set_option maxRecDepth 20000 in
theorem gL_law_L_station : GoodIn wsL_law (va_wsS RL 71 yL_station wsL_station) := goodIn_app (goodIn_of _ (by decide +kernel)) ggL_law_L_station
set_option maxRecDepth 20000 in
theorem ggL_law_X5_station : GoodIn wsL_law wsX5_station := goodIn_r _ [128, 129, 78, 79, 130, 131, 5, 132, 133, 134, 135, 136, 137, 138, 139, 140, 561, 562, 563, 564, 565, 566, 567, 568, 569, 570, 571, 572, 573, 574, 575, 576, 577, 578, 579, 580, 581, 582, 583, 584] (by decide +kernel) (by decide +kernel)
set_option maxRecDepth 20000 in
theorem gL_law_X5_station : GoodIn wsL_law (wsV RL 76 RX5 yX5_station wsX5_station) := goodIn_app (goodIn_of _ (by decide +kernel)) ggL_law_X5_station
set_option maxRecDepth 20000 in
theorem ggL_law_X5_thrown : GoodIn wsL_law wsX5_thrown := goodIn_r _ [144, 140, 561, 562, 563, 564, 565, 566, 567, 568, 569, 570, 571, 572, 573, 574, 575, 576, 577, 578, 579, 580, 581, 582, 583, 584] (by decide +kernel) (by decide +kernel)
set_option maxRecDepth 20000 in
theorem gL_law_X5_thrown : GoodIn wsL_law (wsV RL 77 RX5 yX5_thrown wsX5_thrown) := goodIn_app (goodIn_of _ (by decide +kernel)) ggL_law_X5_thrown
set_option maxRecDepth 20000 in
theorem ggL_law_L_area : GoodIn wsL_law wsL_area := goodIn_ca (goodIn_ca (goodIn_r _ [147, 98, 99, 148, 149, 150, 2, 151, 16, 152, 105, 106, 107, 108, 109, 110, 153, 154, 155, 111, 112, 113, 114, 115, 116, 117, 118, 119, 120, 156, 157, 158, 15, 159, 33, 37, 34, 35, 38, 556, 557, 558, 559, 560, 585, 586, 587, 588, 589, 590, 591, 592] (by decide +kernel) (by decide +kernel)) (goodIn_sub (fun _ h => List.mem_append_left _ (List.mem_append_left _ (List.mem_append_left _ (List.mem_append_left _ (List.mem_append_right _ h))))) (by decide +kernel))) (goodIn_sub (fun _ h => List.mem_append_left _ (List.mem_append_left _ (List.mem_append_left _ (List.mem_append_right _ h)))) (by decide +kernel))
set_option maxRecDepth 20000 in
theorem gL_law_L_area : GoodIn wsL_law (va_wsS RL 80 yL_area wsL_area) := goodIn_app (goodIn_of _ (by decide +kernel)) ggL_law_L_area
set_option maxRecDepth 20000 in
theorem ggL_law_X5_area : GoodIn wsL_law wsX5_area := goodIn_r _ [163, 164, 80, 81, 82, 130, 131, 5, 132, 133, 134, 135, 136, 137, 138, 139, 140, 561, 562, 563, 564, 565, 566, 567, 568, 569, 570, 571, 572, 573, 574, 575, 576, 577, 578, 579, 580, 581, 582, 583, 584] (by decide +kernel) (by decide +kernel)
set_option maxRecDepth 20000 in
theorem gL_law_X5_area : GoodIn wsL_law (wsV RL 83 RX5 yX5_area wsX5_area) := goodIn_app (goodIn_of _ (by decide +kernel)) ggL_law_X5_area
set_option maxRecDepth 20000 in
theorem ggL_law_L_unit : GoodIn wsL_law wsL_unit := goodIn_ca (goodIn_ca (goodIn_ca (goodIn_r _ [167, 168, 169, 99, 170, 171, 172, 2, 173, 16, 104, 20, 174, 108, 109, 110, 175, 176, 177, 178, 179, 180, 181, 182, 19, 183, 184, 185, 186, 187, 44, 43, 188, 189, 190, 191, 192, 116, 117, 118, 119, 120, 193, 194, 195, 196, 556, 557, 558, 559, 560, 585, 586, 587, 588, 589, 590, 591, 592, 593, 594] (by decide +kernel) (by decide +kernel)) (goodIn_sub (fun _ h => List.mem_append_left _ (List.mem_append_left _ (List.mem_append_right _ h))) (by decide +kernel))) (goodIn_sub (fun _ h => List.mem_append_left _ (List.mem_append_right _ h)) (by decide +kernel))) (goodIn_sub (fun _ h => List.mem_append_left _ (List.mem_append_left _ (List.mem_append_left _ (List.mem_append_right _ h)))) (by decide +kernel))
set_option maxRecDepth 20000 in
theorem gL_law_L_unit : GoodIn wsL_law (va_wsS RL 84 yL_unit wsL_unit) := goodIn_app (goodIn_of _ (by decide +kernel)) ggL_law_L_unit
set_option maxRecDepth 20000 in
theorem ggL_law_X5_unit : GoodIn wsL_law wsX5_unit := goodIn_r _ [200, 129, 201, 83, 133, 134, 5, 135, 202, 203, 204, 205, 206, 207, 208, 209, 136, 137, 138, 139, 140, 561, 562, 563, 564, 565, 566, 567, 568, 569, 570, 571, 572, 573, 574, 575, 576, 577, 578, 579, 580, 581, 582, 583, 584] (by decide +kernel) (by decide +kernel)
set_option maxRecDepth 20000 in
theorem gL_law_X5_unit : GoodIn wsL_law (wsV RL 87 RX5 yX5_unit wsX5_unit) := goodIn_app (goodIn_of _ (by decide +kernel)) ggL_law_X5_unit
