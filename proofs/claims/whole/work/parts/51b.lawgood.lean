set_option maxRecDepth 20000 in
theorem ggL_law_L_change : GoodIn wsL_law wsL_change := goodIn_ca (goodIn_ca (goodIn_r _ [212, 168, 169, 213, 214, 215, 2, 216, 20, 174, 16, 104, 153, 154, 155, 108, 109, 110, 175, 176, 177, 178, 179, 217, 185, 186, 19, 187, 44, 43, 188, 189, 190, 191, 192, 218, 219, 220, 221, 556, 557, 558, 559, 560, 593, 594, 585, 586, 587, 588, 589, 590, 591, 592] (by decide +kernel) (by decide +kernel)) (goodIn_sub (fun _ h => List.mem_append_left _ (List.mem_append_left _ (List.mem_append_right _ h))) (by decide +kernel))) (goodIn_sub (fun _ h => List.mem_append_left _ (List.mem_append_right _ h)) (by decide +kernel))
set_option maxRecDepth 20000 in
theorem gL_law_L_change : GoodIn wsL_law (va_wsS RL 88 yL_change wsL_change) := goodIn_app (goodIn_of _ (by decide +kernel)) ggL_law_L_change
set_option maxRecDepth 20000 in
theorem ggL_law_X5_change : GoodIn wsL_law wsX5_change := goodIn_r _ [225, 201, 129, 83, 133, 134, 5, 135, 206, 207, 208, 209, 136, 137, 138, 139, 140, 561, 562, 563, 564, 565, 566, 567, 568, 569, 570, 571, 572, 573, 574, 575, 576, 577, 578, 579, 580, 581, 582, 583, 584] (by decide +kernel) (by decide +kernel)
set_option maxRecDepth 20000 in
theorem gL_law_X5_change : GoodIn wsL_law (wsV RL 91 RX5 yX5_change wsX5_change) := goodIn_app (goodIn_of _ (by decide +kernel)) ggL_law_X5_change
set_option maxRecDepth 20000 in
theorem ggL_law_L_rules : GoodIn wsL_law wsL_rules := goodIn_ca (goodIn_r _ [228, 98, 229, 230, 231, 2, 232, 25, 26, 153, 154, 155, 111, 112, 113, 114, 115, 556, 557, 558, 559, 560] (by decide +kernel) (by decide +kernel)) (goodIn_sub (fun _ h => List.mem_append_left _ (List.mem_append_left _ (List.mem_append_left _ (List.mem_append_left _ (List.mem_append_right _ h))))) (by decide +kernel))
set_option maxRecDepth 20000 in
theorem gL_law_L_rules : GoodIn wsL_law (va_wsS RL 92 yL_rules wsL_rules) := goodIn_app (goodIn_of _ (by decide +kernel)) ggL_law_L_rules
set_option maxRecDepth 20000 in
theorem ggL_law_X5_rules : GoodIn wsL_law wsX5_rules := goodIn_r _ [236, 76, 77, 133, 134, 5, 135, 136, 137, 138, 139, 140, 561, 562, 563, 564, 565, 566, 567, 568, 569, 570, 571, 572, 573, 574, 575, 576, 577, 578, 579, 580, 581, 582, 583, 584] (by decide +kernel) (by decide +kernel)
set_option maxRecDepth 20000 in
theorem gL_law_X5_rules : GoodIn wsL_law (wsV RL 95 RX5 yX5_rules wsX5_rules) := goodIn_app (goodIn_of _ (by decide +kernel)) ggL_law_X5_rules
set_option maxRecDepth 20000 in
theorem ggL_law_L_run : GoodIn wsL_law wsL_run := goodIn_ca (goodIn_ca (goodIn_ca (goodIn_r _ [239, 168, 98, 169, 240, 241, 242, 2, 243, 16, 152, 108, 109, 110, 175, 176, 177, 178, 179, 153, 154, 155, 111, 112, 113, 114, 115, 188, 189, 190, 191, 192, 244, 245, 246, 247, 24, 248, 20, 25, 26, 249, 250, 251, 50, 252, 71, 253, 67, 69, 70, 68, 254, 255, 256, 257, 258, 259, 260, 261, 15, 262, 38, 263, 264, 265, 266, 37, 35, 267, 268, 269, 23, 270, 271, 62, 63, 60, 55, 272, 52, 273, 274, 275, 276, 57, 277, 59, 278, 279, 280, 281, 31, 33, 282, 283, 284, 32, 34, 285, 286, 287, 288, 289, 290, 291, 292, 293, 294, 295, 296, 297, 51, 298, 299, 300, 301, 302, 303, 304, 305, 306, 307, 308, 309, 310, 311, 312, 313, 314, 315, 316, 317, 318, 319, 320, 321, 53, 54, 322, 323, 324, 325, 326, 327, 328, 329, 330, 331, 332, 333, 334, 335, 336, 337, 338, 339, 340, 341, 342, 556, 557, 558, 559, 560, 585, 586, 587, 588, 589, 590, 591, 592, 595, 596, 597, 598, 599, 600, 601, 602, 603, 604, 605, 606, 607, 608, 609, 610, 593, 594] (by decide +kernel) (by decide +kernel)) (goodIn_sub (fun _ h => List.mem_append_left _ (List.mem_append_left _ (List.mem_append_right _ h))) (by decide +kernel))) (goodIn_sub (fun _ h => List.mem_append_left _ (List.mem_append_left _ (List.mem_append_left _ (List.mem_append_left _ (List.mem_append_right _ h))))) (by decide +kernel))) (goodIn_sub (fun _ h => List.mem_append_left _ (List.mem_append_right _ h)) (by decide +kernel))
set_option maxRecDepth 20000 in
theorem gL_law_L_run : GoodIn wsL_law (va_wsS RL 96 yL_run wsL_run) := goodIn_app (goodIn_of _ (by decide +kernel)) ggL_law_L_run
set_option maxRecDepth 20000 in
theorem ggL_law_X5_run : GoodIn wsL_law wsX5_run := goodIn_r _ [346, 164, 133, 134, 5, 135, 347, 348, 349, 136, 137, 138, 139, 140, 350, 351, 352, 353, 91, 92, 201, 83, 93, 354, 85, 355, 356, 357, 358, 359, 360, 361, 84, 86, 87, 88, 89, 90, 362, 363, 364, 365, 366, 367, 368, 369, 370, 82, 371, 372, 373, 374, 375, 376, 377, 378, 379, 380, 381, 382, 78, 80, 79, 81, 76, 383, 384, 385, 386, 387, 388, 389, 390, 391, 392, 393, 394, 395, 396, 397, 398, 399, 400, 401, 77, 561, 562, 563, 564, 565, 566, 567, 568, 569, 570, 571, 572, 573, 574, 575, 576, 577, 578, 579, 580, 581, 582, 583, 584] (by decide +kernel) (by decide +kernel)
set_option maxRecDepth 20000 in
theorem gL_law_X5_run : GoodIn wsL_law (wsV RL 99 RX5 yX5_run wsX5_run) := goodIn_app (goodIn_of _ (by decide +kernel)) ggL_law_X5_run
set_option maxRecDepth 20000 in
theorem ggL_law_L_call : GoodIn wsL_law wsL_call := goodIn_ca (goodIn_r _ [404, 168, 405, 406, 407, 2, 408, 178, 179, 24, 248, 409, 410, 411, 412, 413, 26, 108, 109, 110, 175, 176, 177, 414, 340, 341, 23, 342, 52, 54, 51, 304, 415, 416, 417, 418, 53, 335, 336, 337, 338, 339, 556, 557, 558, 559, 560, 595, 596, 597, 598, 599, 600, 601, 602, 603, 604, 605, 606, 607, 608, 609, 610] (by decide +kernel) (by decide +kernel)) (goodIn_sub (fun _ h => List.mem_append_left _ (List.mem_append_left _ (List.mem_append_right _ h))) (by decide +kernel))
set_option maxRecDepth 20000 in
theorem gL_law_L_call : GoodIn wsL_law (va_wsS RL 100 yL_call wsL_call) := goodIn_app (goodIn_of _ (by decide +kernel)) ggL_law_L_call
set_option maxRecDepth 20000 in
theorem ggL_law_X5_call : GoodIn wsL_law wsX5_call := goodIn_r _ [422, 360, 84, 85, 86, 88, 89, 133, 134, 5, 135, 136, 137, 138, 139, 140, 423, 424, 425, 426, 90, 77, 398, 399, 400, 401, 561, 562, 563, 564, 565, 566, 567, 568, 569, 570, 571, 572, 573, 574, 575, 576, 577, 578, 579, 580, 581, 582, 583, 584] (by decide +kernel) (by decide +kernel)
set_option maxRecDepth 20000 in
theorem gL_law_X5_call : GoodIn wsL_law (wsV RL 102 RX5 yX5_call wsX5_call) := goodIn_app (goodIn_of _ (by decide +kernel)) ggL_law_X5_call
set_option maxRecDepth 20000 in
theorem ggL_law_L_share : GoodIn wsL_law wsL_share := goodIn_ca (goodIn_ca (goodIn_r _ [429, 168, 430, 431, 432, 433, 2, 434, 435, 436, 24, 248, 409, 26, 153, 154, 155, 175, 176, 177, 178, 179, 331, 332, 333, 23, 334, 51, 303, 335, 336, 337, 338, 52, 339, 340, 341, 342, 54, 304, 437, 438, 439, 440, 441, 442, 443, 264, 265, 266, 556, 557, 558, 559, 560, 595, 596, 597, 598, 599, 600, 601, 602, 603, 604, 605, 606, 607, 608, 609, 610] (by decide +kernel) (by decide +kernel)) (goodIn_sub (fun _ h => List.mem_append_right _ h) (by decide +kernel))) (goodIn_sub (fun _ h => List.mem_append_left _ (List.mem_append_left _ (List.mem_append_right _ h))) (by decide +kernel))
set_option maxRecDepth 20000 in
theorem gL_law_L_share : GoodIn wsL_law (va_wsS RL 103 yL_share wsL_share) := goodIn_app (goodIn_of _ (by decide +kernel)) ggL_law_L_share
