set_option maxRecDepth 20000 in
theorem ggL_law_X5_share : GoodIn wsL_law wsX5_share := goodIn_r _ [444, 357, 133, 134, 5, 135, 136, 137, 138, 139, 140, 391, 392, 393, 394, 395, 396, 397, 398, 88, 89, 84, 77, 445, 446, 447, 558, 559, 560, 561, 562, 563, 564, 565, 566, 567, 568, 569, 570, 571, 572, 573, 574, 575, 576, 577, 578, 579, 580, 581] (by decide +kernel) (by decide +kernel)
set_option maxRecDepth 20000 in
theorem gL_law_X5_share : GoodIn wsL_law (wsV RL 105 RX5 yX5_share wsX5_share) := goodIn_app (goodIn_of _ (by decide +kernel)) ggL_law_X5_share
set_option maxRecDepth 20000 in
theorem ggL_law_L_mean : GoodIn wsL_law wsL_mean := goodIn_ca (goodIn_r _ [450, 427, 451, 452, 453, 2, 454, 432, 433, 24, 455, 456, 457, 458, 23, 459, 51, 300, 52, 460, 461, 462, 463, 336, 337, 338, 339, 54, 301, 553, 554, 555, 556, 557, 592, 593, 594, 595, 596, 597, 598, 599, 600, 601, 602, 603, 604, 605, 606, 607] (by decide +kernel) (by decide +kernel)) (goodIn_sub (fun _ h => List.mem_append_right _ h) (by decide +kernel))
set_option maxRecDepth 20000 in
theorem gL_law_L_mean : GoodIn wsL_law (va_wsS RL 106 yL_mean wsL_mean) := goodIn_app (goodIn_of _ (by decide +kernel)) ggL_law_L_mean
set_option maxRecDepth 20000 in
theorem ggL_law_X5_mean : GoodIn wsL_law wsX5_mean := goodIn_r _ [467, 357, 88, 89, 84, 468, 136, 137, 138, 5, 139, 140, 558, 559, 560, 561, 562, 563, 564, 565, 566, 567, 568, 569, 570, 571, 572, 573, 574, 575, 576, 577, 578, 579, 580, 581] (by decide +kernel) (by decide +kernel)
set_option maxRecDepth 20000 in
theorem gL_law_X5_mean : GoodIn wsL_law (wsV RL 109 RX5 yX5_mean wsX5_mean) := goodIn_app (goodIn_of _ (by decide +kernel)) ggL_law_X5_mean
set_option maxRecDepth 20000 in
theorem ggL_law_X4_missed : GoodIn wsL_law wsX4_missed := goodIn_r _ [472, 24, 473, 553, 554, 555, 556, 557, 592, 593, 594, 595, 596, 597, 598, 599, 600, 601, 602] (by decide +kernel) (by decide +kernel)
set_option maxRecDepth 20000 in
theorem gL_law_X4_missed : GoodIn wsL_law (wsV RL 110 RX4 yX4_missed wsX4_missed) := goodIn_app (goodIn_of _ (by decide +kernel)) ggL_law_X4_missed
set_option maxRecDepth 20000 in
theorem ggL_law_X5_missed : GoodIn wsL_law wsX5_missed := goodIn_r _ [477, 140, 352, 558, 559, 560, 561, 562, 563, 564, 565, 566, 567, 568, 569, 570, 571, 572, 573, 574, 575, 576, 577, 578, 579, 580, 581] (by decide +kernel) (by decide +kernel)
set_option maxRecDepth 20000 in
theorem gL_law_X5_missed : GoodIn wsL_law (wsV RL 113 RX5 yX5_missed wsX5_missed) := goodIn_app (goodIn_of _ (by decide +kernel)) ggL_law_X5_missed
set_option maxRecDepth 20000 in
theorem ggL_law_L_work : GoodIn wsL_law wsL_work := goodIn_ca (goodIn_r _ [480, 168, 481, 482, 483, 2, 484, 20, 174, 24, 485, 108, 109, 110, 175, 176, 177, 178, 179, 553, 554, 555, 556, 557, 590, 591, 592, 593, 594, 595, 596, 597, 598, 599, 600, 601, 602] (by decide +kernel) (by decide +kernel)) (goodIn_sub (fun _ h => List.mem_append_left _ (List.mem_append_left _ (List.mem_append_right _ h))) (by decide +kernel))
set_option maxRecDepth 20000 in
theorem gL_law_L_work : GoodIn wsL_law (va_wsS RL 114 yL_work wsL_work) := goodIn_app (goodIn_of _ (by decide +kernel)) ggL_law_L_work
set_option maxRecDepth 20000 in
theorem ggL_law_X5_work : GoodIn wsL_law wsX5_work := goodIn_r _ [489, 201, 92, 133, 134, 5, 135, 136, 137, 138, 139, 140, 558, 559, 560, 561, 562, 563, 564, 565, 566, 567, 568, 569, 570, 571, 572, 573, 574, 575, 576, 577, 578, 579, 580, 581] (by decide +kernel) (by decide +kernel)
set_option maxRecDepth 20000 in
theorem gL_law_X5_work : GoodIn wsL_law (wsV RL 116 RX5 yX5_work wsX5_work) := goodIn_app (goodIn_of _ (by decide +kernel)) ggL_law_X5_work
set_option maxRecDepth 20000 in
theorem ggL_law_X4_worst : GoodIn wsL_law wsX4_worst := goodIn_r _ [493, 24, 26, 494, 495, 496, 23, 497, 61, 51, 300, 301, 332, 333, 334, 335, 52, 336, 337, 338, 339, 54, 553, 554, 555, 556, 557, 592, 593, 594, 595, 596, 597, 598, 599, 600, 601, 602, 603, 604, 605, 606, 607] (by decide +kernel) (by decide +kernel)
set_option maxRecDepth 20000 in
theorem gL_law_X4_worst : GoodIn wsL_law (wsV RL 117 RX4 yX4_worst wsX4_worst) := goodIn_app (goodIn_of _ (by decide +kernel)) ggL_law_X4_worst
set_option maxRecDepth 20000 in
theorem ggL_law_X5_worst : GoodIn wsL_law wsX5_worst := goodIn_r _ [501, 140, 357, 84, 395, 396, 397, 5, 398, 88, 89, 77, 558, 559, 560, 561, 562, 563, 564, 565, 566, 567, 568, 569, 570, 571, 572, 573, 574, 575, 576, 577, 578, 579, 580, 581] (by decide +kernel) (by decide +kernel)
set_option maxRecDepth 20000 in
theorem gL_law_X5_worst : GoodIn wsL_law (wsV RL 120 RX5 yX5_worst wsX5_worst) := goodIn_app (goodIn_of _ (by decide +kernel)) ggL_law_X5_worst
