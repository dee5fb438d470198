set_option maxRecDepth 20000 in
theorem ggL_law_X6_fall : GoodIn wsL_law wsX6_fall := goodIn_r _ [545, 35, 31, 532, 533, 2, 534, 130, 131, 132, 546, 481, 482, 30, 483, 187, 72, 472, 473, 474, 475, 73, 75, 484, 485, 486, 487, 488, 489, 490, 491, 70, 639, 640, 641, 642, 643, 644, 718, 719, 703, 704, 705, 706, 707, 708, 709, 710, 711, 712, 713, 714, 715, 716, 717] (by decide +kernel) (by decide +kernel)
set_option maxRecDepth 20000 in
theorem gL_law_X6_fall : GoodIn wsL_law (wsV RL 100 RX6 yX6_fall wsX6_fall) := goodIn_app (goodIn_of _ (by decide +kernel)) ggL_law_X6_fall
set_option maxRecDepth 20000 in
theorem ggL_law_X7_fall : GoodIn wsL_law wsX7_fall := goodIn_r _ [550, 118, 539, 540, 5, 541, 500, 501, 502, 503, 104, 113, 110, 112, 504, 505, 506, 507, 109, 645, 646, 647, 648, 649, 650, 651, 652, 653, 654, 655, 656, 657, 658, 659, 660, 661, 662, 663, 664, 665, 666, 667, 668, 669, 670, 671, 672, 673, 674, 675, 676, 677, 678, 679, 680] (by decide +kernel) (by decide +kernel)
set_option maxRecDepth 20000 in
theorem gL_law_X7_fall : GoodIn wsL_law (wsV RL 103 RX7 yX7_fall wsX7_fall) := goodIn_app (goodIn_of _ (by decide +kernel)) ggL_law_X7_fall
set_option maxRecDepth 20000 in
theorem ggL_law_X6_rise : GoodIn wsL_law wsX6_rise := goodIn_r _ [554, 35, 31, 532, 533, 2, 534, 130, 131, 132, 555, 556, 557, 30, 558, 187, 72, 639, 640, 641, 642, 643, 644, 718, 719, 703, 704, 705, 706, 707, 708, 709, 710, 711, 712, 713, 714, 715, 716, 717] (by decide +kernel) (by decide +kernel)
set_option maxRecDepth 20000 in
theorem gL_law_X6_rise : GoodIn wsL_law (wsV RL 104 RX6 yX6_rise wsX6_rise) := goodIn_app (goodIn_of _ (by decide +kernel)) ggL_law_X6_rise
set_option maxRecDepth 20000 in
theorem ggL_law_X7_rise : GoodIn wsL_law wsX7_rise := goodIn_r _ [562, 118, 104, 113, 539, 540, 5, 541, 645, 646, 647, 648, 649, 650, 651, 652, 653, 654, 655, 656, 657, 658, 659, 660, 661, 662, 663, 664, 665, 666, 667, 668, 669, 670, 671, 672, 673, 674, 675, 676, 677, 678, 679, 680] (by decide +kernel) (by decide +kernel)
set_option maxRecDepth 20000 in
theorem gL_law_X7_rise : GoodIn wsL_law (wsV RL 107 RX7 yX7_rise wsX7_rise) := goodIn_app (goodIn_of _ (by decide +kernel)) ggL_law_X7_rise
set_option maxRecDepth 20000 in
theorem ggL_law_X6_host : GoodIn wsL_law wsX6_host := goodIn_r _ [566, 35, 31, 532, 533, 2, 534, 130, 131, 132, 567, 568, 569, 30, 570, 187, 72, 571, 489, 490, 491, 70, 73, 639, 640, 641, 642, 643, 644, 718, 719, 703, 704, 705, 706, 707, 708, 709, 710, 711, 712, 713, 714, 715, 716, 717] (by decide +kernel) (by decide +kernel)
set_option maxRecDepth 20000 in
theorem gL_law_X6_host : GoodIn wsL_law (wsV RL 108 RX6 yX6_host wsX6_host) := goodIn_app (goodIn_of _ (by decide +kernel)) ggL_law_X6_host
set_option maxRecDepth 20000 in
theorem ggL_law_X7_host : GoodIn wsL_law wsX7_host := goodIn_r _ [575, 117, 118, 104, 113, 119, 539, 540, 5, 541, 504, 505, 506, 507, 109, 110, 645, 646, 647, 648, 649, 650, 651, 652, 653, 654, 655, 656, 657, 658, 659, 660, 661, 662, 663, 664, 665, 666, 667, 668, 669, 670, 671, 672, 673, 674, 675, 676, 677, 678, 679, 680] (by decide +kernel) (by decide +kernel)
set_option maxRecDepth 20000 in
theorem gL_law_X7_host : GoodIn wsL_law (wsV RL 111 RX7 yX7_host wsX7_host) := goodIn_app (goodIn_of _ (by decide +kernel)) ggL_law_X7_host
set_option maxRecDepth 20000 in
theorem ggL_law_X6_tick : GoodIn wsL_law wsX6_tick := goodIn_r _ [579, 31, 35, 512, 513, 514, 30, 515, 187, 580, 581, 582, 583, 190, 191, 584, 585, 586, 587, 72, 75, 70, 73, 588, 305, 306, 307, 76, 589, 590, 591, 592, 192, 74, 593, 594, 595, 639, 640, 641, 642, 643, 644, 703, 704, 705, 706, 707, 708, 709, 710, 711, 712, 713, 714, 715, 716, 717, 718, 719] (by decide +kernel) (by decide +kernel)
set_option maxRecDepth 20000 in
theorem gL_law_X6_tick : GoodIn wsL_law (wsV RL 112 RX6 yX6_tick wsX6_tick) := goodIn_app (goodIn_of _ (by decide +kernel)) ggL_law_X6_tick
