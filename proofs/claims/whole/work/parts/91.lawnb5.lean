set_option maxRecDepth 20000 in
theorem ggL_law_X7_cut : GoodIn wsL_law wsX7_cut := goodIn_r _ [495, 92, 104, 105, 106, 93, 96, 98, 95, 107, 108, 109, 110, 111, 112, 113, 114, 115, 116, 119, 118, 148, 149, 5, 150, 254, 255, 256, 257, 87, 90, 88, 91, 496, 497, 498, 499, 500, 501, 502, 503, 504, 505, 506, 507, 645, 646, 647, 648, 649, 650, 651, 652, 653, 654, 655, 656, 657, 658, 659, 660, 661, 662, 663, 664, 665, 666, 667, 668, 669, 670, 671, 672, 673, 674, 675, 676, 677, 678, 679, 680] (by decide +kernel) (by decide +kernel)
set_option maxRecDepth 20000 in
theorem gL_law_X7_cut : GoodIn wsL_law (wsV RL 86 RX7 yX7_cut wsX7_cut) := goodIn_app (goodIn_of _ (by decide +kernel)) ggL_law_X7_cut
set_option maxRecDepth 20000 in
theorem ggL_law_X6_bound : GoodIn wsL_law wsX6_bound := goodIn_r _ [511, 31, 512, 513, 514, 30, 515, 187, 639, 640, 641, 642, 643, 644, 703, 704, 705, 706, 707, 708, 709, 710, 711, 712, 713, 714, 715, 716, 717] (by decide +kernel) (by decide +kernel)
set_option maxRecDepth 20000 in
theorem gL_law_X6_bound : GoodIn wsL_law (wsV RL 87 RX6 yX6_bound wsX6_bound) := goodIn_app (goodIn_of _ (by decide +kernel)) ggL_law_X6_bound
set_option maxRecDepth 20000 in
theorem ggL_law_X7_bound : GoodIn wsL_law wsX7_bound := goodIn_r _ [519, 104, 105, 106, 93, 645, 646, 647, 648, 649, 650, 651, 652, 653, 654, 655, 656, 657, 658, 659, 660, 661, 662, 663, 664, 665, 666, 667, 668, 669, 670, 671, 672, 673, 674, 675, 676, 677, 678, 679, 680] (by decide +kernel) (by decide +kernel)
set_option maxRecDepth 20000 in
theorem gL_law_X7_bound : GoodIn wsL_law (wsV RL 90 RX7 yX7_bound wsX7_bound) := goodIn_app (goodIn_of _ (by decide +kernel)) ggL_law_X7_bound
set_option maxRecDepth 20000 in
theorem ggL_law_X6_part : GoodIn wsL_law wsX6_part := goodIn_r _ [523, 31, 130, 131, 2, 132, 639, 640, 641, 642, 643, 644, 703, 704, 705, 706, 707, 708, 709, 710, 711, 712, 713, 714, 715, 716, 717] (by decide +kernel) (by decide +kernel)
set_option maxRecDepth 20000 in
theorem gL_law_X6_part : GoodIn wsL_law (wsV RL 91 RX6 yX6_part wsX6_part) := goodIn_app (goodIn_of _ (by decide +kernel)) ggL_law_X6_part
set_option maxRecDepth 20000 in
theorem ggL_law_X7_part : GoodIn wsL_law wsX7_part := goodIn_r _ [527, 104, 109, 110, 113, 108, 645, 646, 647, 648, 649, 650, 651, 652, 653, 654, 655, 656, 657, 658, 659, 660, 661, 662, 663, 664, 665, 666, 667, 668, 669, 670, 671, 672, 673, 674, 675, 676, 677, 678, 679, 680] (by decide +kernel) (by decide +kernel)
set_option maxRecDepth 20000 in
theorem gL_law_X7_part : GoodIn wsL_law (wsV RL 94 RX7 yX7_part wsX7_part) := goodIn_app (goodIn_of _ (by decide +kernel)) ggL_law_X7_part
set_option maxRecDepth 20000 in
theorem ggL_law_X6_pace : GoodIn wsL_law wsX6_pace := goodIn_r _ [531, 35, 532, 533, 2, 534, 130, 131, 132, 639, 640, 641, 642, 643, 644, 718, 719] (by decide +kernel) (by decide +kernel)
set_option maxRecDepth 20000 in
theorem gL_law_X6_pace : GoodIn wsL_law (wsV RL 95 RX6 yX6_pace wsX6_pace) := goodIn_app (goodIn_of _ (by decide +kernel)) ggL_law_X6_pace
set_option maxRecDepth 20000 in
theorem ggL_law_X7_pace : GoodIn wsL_law wsX7_pace := goodIn_r _ [538, 117, 539, 540, 5, 541, 148, 149, 150, 645, 646, 647, 648, 649, 650, 651, 652, 653, 654, 655, 656, 657, 658, 659, 660, 661, 662, 663, 664, 665, 666, 667, 668, 669, 670, 671, 672, 673, 674, 675, 676, 677, 678, 679, 680] (by decide +kernel) (by decide +kernel)
set_option maxRecDepth 20000 in
theorem gL_law_X7_pace : GoodIn wsL_law (wsV RL 99 RX7 yX7_pace wsX7_pace) := goodIn_app (goodIn_of _ (by decide +kernel)) ggL_law_X7_pace
