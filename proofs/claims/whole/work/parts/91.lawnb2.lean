set_option maxRecDepth 20000 in
theorem ggL_law_X6_against : GoodIn wsL_law wsX6_against := goodIn_r _ [237, 15, 221, 222, 223, 14, 224, 137, 131, 2, 132, 238, 239, 240, 241, 242, 40, 44, 41, 42, 243, 244, 245, 246, 247, 248, 249, 639, 640, 641, 642, 643, 644, 681, 682, 683, 684, 685] (by decide +kernel) (by decide +kernel)
set_option maxRecDepth 20000 in
theorem gL_law_X6_against : GoodIn wsL_law (wsV RL 42 RX6 yX6_against wsX6_against) := goodIn_app (goodIn_of _ (by decide +kernel)) ggL_law_X6_against
set_option maxRecDepth 20000 in
theorem ggL_law_X7_against : GoodIn wsL_law wsX7_against := goodIn_r _ [253, 230, 231, 232, 5, 233, 89, 254, 255, 256, 257, 87, 90, 88, 91, 645, 646, 647, 648, 649, 650, 651, 652, 653, 654, 655, 656, 657, 658, 659, 660, 661, 662, 663, 664, 665, 666, 667, 668, 669, 670, 671, 672, 673, 674, 675, 676, 677, 678, 679, 680] (by decide +kernel) (by decide +kernel)
set_option maxRecDepth 20000 in
theorem gL_law_X7_against : GoodIn wsL_law (wsV RL 45 RX7 yX7_against wsX7_against) := goodIn_app (goodIn_of _ (by decide +kernel)) ggL_law_X7_against
set_option maxRecDepth 20000 in
theorem ggL_law_X6_rank : GoodIn wsL_law wsX6_rank := goodIn_r _ [261, 15, 221, 222, 223, 14, 224, 137, 131, 2, 132, 238, 239, 240, 241, 242, 40, 44, 41, 42, 243, 244, 245, 639, 640, 641, 642, 643, 644, 681, 682, 683, 684, 685] (by decide +kernel) (by decide +kernel)
set_option maxRecDepth 20000 in
theorem gL_law_X6_rank : GoodIn wsL_law (wsV RL 46 RX6 yX6_rank wsX6_rank) := goodIn_app (goodIn_of _ (by decide +kernel)) ggL_law_X6_rank
set_option maxRecDepth 20000 in
theorem ggL_law_X7_rank : GoodIn wsL_law wsX7_rank := goodIn_r _ [265, 89, 230, 231, 232, 5, 233, 254, 255, 256, 257, 87, 90, 88, 91, 645, 646, 647, 648, 649, 650, 651, 652, 653, 654, 655, 656, 657, 658, 659, 660, 661, 662, 663, 664, 665, 666, 667, 668, 669, 670, 671, 672, 673, 674, 675, 676, 677, 678, 679, 680] (by decide +kernel) (by decide +kernel)
set_option maxRecDepth 20000 in
theorem gL_law_X7_rank : GoodIn wsL_law (wsV RL 50 RX7 yX7_rank wsX7_rank) := goodIn_app (goodIn_of _ (by decide +kernel)) ggL_law_X7_rank
set_option maxRecDepth 20000 in
theorem ggL_law_X6_runs : GoodIn wsL_law wsX6_runs := goodIn_r _ [269, 23, 15, 19, 130, 131, 2, 132, 165, 166, 167, 168, 27, 31, 169, 170, 171, 22, 172, 173, 174, 175, 176, 177, 178, 179, 26, 180, 181, 182, 183, 184, 185, 30, 186, 187, 188, 189, 190, 191, 192, 76, 270, 271, 272, 273, 274, 275, 276, 277, 55, 56, 278, 279, 280, 18, 281, 282, 283, 239, 240, 14, 241, 242, 40, 44, 41, 42, 243, 244, 245, 222, 223, 224, 137, 284, 285, 286, 287, 49, 288, 289, 290, 291, 292, 293, 294, 295, 296, 297, 298, 299, 300, 301, 302, 303, 304, 305, 306, 307, 308, 309, 310, 311, 312, 54, 313, 314, 315, 316, 53, 639, 640, 641, 642, 643, 644, 688, 689, 690, 691, 692, 693, 694, 695, 696, 697, 698, 699, 700, 701, 702, 703, 704, 705, 706, 707, 708, 709, 710, 711, 712, 713, 714, 715, 716, 717, 681, 682, 683, 684, 685, 686, 687] (by decide +kernel) (by decide +kernel)
set_option maxRecDepth 20000 in
theorem gL_law_X6_runs : GoodIn wsL_law (wsV RL 51 RX6 yX6_runs wsX6_runs) := goodIn_app (goodIn_of _ (by decide +kernel)) ggL_law_X6_runs
set_option maxRecDepth 20000 in
theorem ggL_law_X7_runs : GoodIn wsL_law wsX7_runs := goodIn_r _ [320, 93, 99, 100, 101, 104, 106, 89, 120, 95, 96, 98, 94, 92, 148, 149, 5, 150, 254, 255, 256, 257, 87, 90, 88, 91, 645, 646, 647, 648, 649, 650, 651, 652, 653, 654, 655, 656, 657, 658, 659, 660, 661, 662, 663, 664, 665, 666, 667, 668, 669, 670, 671, 672, 673, 674, 675, 676, 677, 678, 679, 680] (by decide +kernel) (by decide +kernel)
set_option maxRecDepth 20000 in
theorem gL_law_X7_runs : GoodIn wsL_law (wsV RL 54 RX7 yX7_runs wsX7_runs) := goodIn_app (goodIn_of _ (by decide +kernel)) ggL_law_X7_runs
set_option maxRecDepth 20000 in
theorem ggL_law_X6_length : GoodIn wsL_law wsX6_length := goodIn_r _ [324, 23, 325, 326, 327, 22, 328, 175, 131, 2, 132, 329, 330, 331, 332, 54, 333, 639, 640, 641, 642, 643, 644, 688, 689, 690, 691, 692, 693, 694, 695, 696, 697] (by decide +kernel) (by decide +kernel)
set_option maxRecDepth 20000 in
theorem gL_law_X6_length : GoodIn wsL_law (wsV RL 55 RX6 yX6_length wsX6_length) := goodIn_app (goodIn_of _ (by decide +kernel)) ggL_law_X6_length
