set_option maxRecDepth 20000 in
theorem ggL_law_X6_merges : GoodIn wsL_law wsX6_merges := goodIn_r _ [405, 27, 639, 640, 641, 642, 643, 644, 698, 699, 700, 701, 702] (by decide +kernel) (by decide +kernel)
set_option maxRecDepth 20000 in
theorem gL_law_X6_merges : GoodIn wsL_law (wsV RL 71 RX6 yX6_merges wsX6_merges) := goodIn_app (goodIn_of _ (by decide +kernel)) ggL_law_X6_merges
set_option maxRecDepth 20000 in
theorem ggL_law_X7_merges : GoodIn wsL_law wsX7_merges := goodIn_r _ [409, 101, 645, 646, 647, 648, 649, 650, 651, 652, 653, 654, 655, 656, 657, 658, 659, 660, 661, 662, 663, 664, 665, 666, 667, 668, 669, 670, 671, 672, 673, 674, 675, 676, 677, 678, 679, 680] (by decide +kernel) (by decide +kernel)
set_option maxRecDepth 20000 in
theorem gL_law_X7_merges : GoodIn wsL_law (wsV RL 74 RX7 yX7_merges wsX7_merges) := goodIn_app (goodIn_of _ (by decide +kernel)) ggL_law_X7_merges
set_option maxRecDepth 20000 in
theorem ggL_law_X6_takes : GoodIn wsL_law wsX6_takes := goodIn_r _ [413, 27, 414, 415, 416, 26, 417, 62, 63, 418, 419, 420, 421, 181, 131, 2, 132, 639, 640, 641, 642, 643, 644, 698, 699, 700, 701, 702] (by decide +kernel) (by decide +kernel)
set_option maxRecDepth 20000 in
theorem gL_law_X6_takes : GoodIn wsL_law (wsV RL 75 RX6 yX6_takes wsX6_takes) := goodIn_app (goodIn_of _ (by decide +kernel)) ggL_law_X6_takes
set_option maxRecDepth 20000 in
theorem ggL_law_X7_takes : GoodIn wsL_law wsX7_takes := goodIn_r _ [425, 101, 102, 103, 645, 646, 647, 648, 649, 650, 651, 652, 653, 654, 655, 656, 657, 658, 659, 660, 661, 662, 663, 664, 665, 666, 667, 668, 669, 670, 671, 672, 673, 674, 675, 676, 677, 678, 679, 680] (by decide +kernel) (by decide +kernel)
set_option maxRecDepth 20000 in
theorem gL_law_X7_takes : GoodIn wsL_law (wsV RL 78 RX7 yX7_takes wsX7_takes) := goodIn_app (goodIn_of _ (by decide +kernel)) ggL_law_X7_takes
set_option maxRecDepth 20000 in
theorem ggL_law_X6_merge : GoodIn wsL_law wsX6_merge := goodIn_r _ [429, 27, 23, 355, 356, 357, 22, 358, 174, 175, 173, 176, 430, 431, 432, 433, 304, 305, 306, 307, 57, 54, 58, 434, 419, 420, 26, 421, 181, 63, 131, 2, 132, 435, 415, 416, 417, 62, 418, 333, 326, 327, 328, 346, 330, 331, 332, 309, 310, 311, 312, 436, 437, 438, 439, 53, 440, 441, 442, 443, 56, 313, 314, 315, 316, 639, 640, 641, 642, 643, 644, 698, 699, 700, 701, 702, 688, 689, 690, 691, 692, 693, 694, 695, 696, 697] (by decide +kernel) (by decide +kernel)
set_option maxRecDepth 20000 in
theorem gL_law_X6_merge : GoodIn wsL_law (wsV RL 79 RX6 yX6_merge wsX6_merge) := goodIn_app (goodIn_of _ (by decide +kernel)) ggL_law_X6_merge
set_option maxRecDepth 20000 in
theorem ggL_law_X7_merge : GoodIn wsL_law wsX7_merge := goodIn_r _ [447, 100, 93, 94, 95, 96, 99, 101, 123, 102, 103, 98, 254, 255, 256, 5, 257, 87, 90, 88, 91, 645, 646, 647, 648, 649, 650, 651, 652, 653, 654, 655, 656, 657, 658, 659, 660, 661, 662, 663, 664, 665, 666, 667, 668, 669, 670, 671, 672, 673, 674, 675, 676, 677, 678, 679, 680] (by decide +kernel) (by decide +kernel)
set_option maxRecDepth 20000 in
theorem gL_law_X7_merge : GoodIn wsL_law (wsV RL 82 RX7 yX7_merge wsX7_merge) := goodIn_app (goodIn_of _ (by decide +kernel)) ggL_law_X7_merge
set_option maxRecDepth 20000 in
theorem ggL_law_X6_cut : GoodIn wsL_law wsX6_cut := goodIn_r _ [451, 23, 31, 35, 130, 131, 2, 132, 452, 453, 454, 30, 455, 187, 188, 189, 71, 70, 74, 456, 184, 185, 186, 190, 191, 192, 76, 457, 458, 459, 460, 68, 69, 461, 330, 331, 22, 332, 54, 333, 326, 327, 328, 175, 462, 343, 344, 345, 53, 346, 463, 441, 442, 443, 173, 56, 464, 465, 466, 467, 468, 469, 470, 471, 55, 472, 473, 474, 475, 73, 75, 476, 477, 478, 479, 72, 480, 481, 482, 483, 484, 485, 486, 487, 488, 489, 490, 491, 639, 640, 641, 642, 643, 644, 688, 689, 690, 691, 692, 693, 694, 695, 696, 697, 703, 704, 705, 706, 707, 708, 709, 710, 711, 712, 713, 714, 715, 716, 717, 718, 719] (by decide +kernel) (by decide +kernel)
set_option maxRecDepth 20000 in
theorem gL_law_X6_cut : GoodIn wsL_law (wsV RL 83 RX6 yX6_cut wsX6_cut) := goodIn_app (goodIn_of _ (by decide +kernel)) ggL_law_X6_cut
