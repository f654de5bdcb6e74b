set_option maxRecDepth 20000 in
theorem ggL_law_X5_share : GoodIn wsL_law wsX5_share := goodIn_r _ [447, 360, 133, 134, 5, 135, 136, 137, 138, 139, 140, 394, 395, 396, 397, 398, 399, 400, 401, 88, 89, 84, 77, 448, 449, 450, 561, 562, 563, 564, 565, 566, 567, 568, 569, 570, 571, 572, 573, 574, 575, 576, 577, 578, 579, 580, 581, 582, 583, 584] (by decide +kernel) (by decide +kernel)
set_option maxRecDepth 20000 in
theorem gL_law_X5_share : GoodIn wsL_law (wsV RL 105 RX5 yX5_share wsX5_share) := goodIn_app (goodIn_of _ (by decide +kernel)) ggL_law_X5_share
set_option maxRecDepth 20000 in
theorem ggL_law_L_mean : GoodIn wsL_law wsL_mean := goodIn_ca (goodIn_r _ [453, 430, 454, 455, 456, 2, 457, 435, 436, 24, 458, 459, 460, 461, 23, 462, 51, 303, 52, 463, 464, 465, 466, 339, 340, 341, 342, 54, 304, 556, 557, 558, 559, 560, 595, 596, 597, 598, 599, 600, 601, 602, 603, 604, 605, 606, 607, 608, 609, 610] (by decide +kernel) (by decide +kernel)) (goodIn_sub (fun _ h => List.mem_append_right _ h) (by decide +kernel))
set_option maxRecDepth 20000 in
theorem gL_law_L_mean : GoodIn wsL_law (va_wsS RL 106 yL_mean wsL_mean) := goodIn_app (goodIn_of _ (by decide +kernel)) ggL_law_L_mean
set_option maxRecDepth 20000 in
theorem ggL_law_X5_mean : GoodIn wsL_law wsX5_mean := goodIn_r _ [470, 360, 88, 89, 84, 471, 136, 137, 138, 5, 139, 140, 561, 562, 563, 564, 565, 566, 567, 568, 569, 570, 571, 572, 573, 574, 575, 576, 577, 578, 579, 580, 581, 582, 583, 584] (by decide +kernel) (by decide +kernel)
set_option maxRecDepth 20000 in
theorem gL_law_X5_mean : GoodIn wsL_law (wsV RL 109 RX5 yX5_mean wsX5_mean) := goodIn_app (goodIn_of _ (by decide +kernel)) ggL_law_X5_mean
set_option maxRecDepth 20000 in
theorem ggL_law_X4_missed : GoodIn wsL_law wsX4_missed := goodIn_r _ [475, 24, 476, 556, 557, 558, 559, 560, 595, 596, 597, 598, 599, 600, 601, 602, 603, 604, 605] (by decide +kernel) (by decide +kernel)
set_option maxRecDepth 20000 in
theorem gL_law_X4_missed : GoodIn wsL_law (wsV RL 110 RX4 yX4_missed wsX4_missed) := goodIn_app (goodIn_of _ (by decide +kernel)) ggL_law_X4_missed
set_option maxRecDepth 20000 in
theorem ggL_law_X5_missed : GoodIn wsL_law wsX5_missed := goodIn_r _ [480, 140, 355, 561, 562, 563, 564, 565, 566, 567, 568, 569, 570, 571, 572, 573, 574, 575, 576, 577, 578, 579, 580, 581, 582, 583, 584] (by decide +kernel) (by decide +kernel)
set_option maxRecDepth 20000 in
theorem gL_law_X5_missed : GoodIn wsL_law (wsV RL 113 RX5 yX5_missed wsX5_missed) := goodIn_app (goodIn_of _ (by decide +kernel)) ggL_law_X5_missed
set_option maxRecDepth 20000 in
theorem ggL_law_L_work : GoodIn wsL_law wsL_work := goodIn_ca (goodIn_r _ [483, 168, 484, 485, 486, 2, 487, 20, 174, 24, 488, 108, 109, 110, 175, 176, 177, 178, 179, 556, 557, 558, 559, 560, 593, 594, 595, 596, 597, 598, 599, 600, 601, 602, 603, 604, 605] (by decide +kernel) (by decide +kernel)) (goodIn_sub (fun _ h => List.mem_append_left _ (List.mem_append_left _ (List.mem_append_right _ h))) (by decide +kernel))
set_option maxRecDepth 20000 in
theorem gL_law_L_work : GoodIn wsL_law (va_wsS RL 114 yL_work wsL_work) := goodIn_app (goodIn_of _ (by decide +kernel)) ggL_law_L_work
set_option maxRecDepth 20000 in
theorem ggL_law_X5_work : GoodIn wsL_law wsX5_work := goodIn_r _ [492, 201, 92, 133, 134, 5, 135, 136, 137, 138, 139, 140, 561, 562, 563, 564, 565, 566, 567, 568, 569, 570, 571, 572, 573, 574, 575, 576, 577, 578, 579, 580, 581, 582, 583, 584] (by decide +kernel) (by decide +kernel)
set_option maxRecDepth 20000 in
theorem gL_law_X5_work : GoodIn wsL_law (wsV RL 116 RX5 yX5_work wsX5_work) := goodIn_app (goodIn_of _ (by decide +kernel)) ggL_law_X5_work
set_option maxRecDepth 20000 in
theorem ggL_law_X4_worst : GoodIn wsL_law wsX4_worst := goodIn_r _ [496, 24, 26, 497, 498, 499, 23, 500, 61, 51, 303, 304, 335, 336, 337, 338, 52, 339, 340, 341, 342, 54, 556, 557, 558, 559, 560, 595, 596, 597, 598, 599, 600, 601, 602, 603, 604, 605, 606, 607, 608, 609, 610] (by decide +kernel) (by decide +kernel)
set_option maxRecDepth 20000 in
theorem gL_law_X4_worst : GoodIn wsL_law (wsV RL 117 RX4 yX4_worst wsX4_worst) := goodIn_app (goodIn_of _ (by decide +kernel)) ggL_law_X4_worst
set_option maxRecDepth 20000 in
theorem ggL_law_X5_worst : GoodIn wsL_law wsX5_worst := goodIn_r _ [504, 140, 360, 84, 398, 399, 400, 5, 401, 88, 89, 77, 561, 562, 563, 564, 565, 566, 567, 568, 569, 570, 571, 572, 573, 574, 575, 576, 577, 578, 579, 580, 581, 582, 583, 584] (by decide +kernel) (by decide +kernel)
set_option maxRecDepth 20000 in
theorem gL_law_X5_worst : GoodIn wsL_law (wsV RL 120 RX5 yX5_worst wsX5_worst) := goodIn_app (goodIn_of _ (by decide +kernel)) ggL_law_X5_worst
