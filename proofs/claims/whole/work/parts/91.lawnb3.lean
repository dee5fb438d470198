set_option maxRecDepth 20000 in
theorem ggL_law_X7_length : GoodIn wsL_law wsX7_length := goodIn_r _ [337, 94, 96, 645, 646, 647, 648, 649, 650, 651, 652, 653, 654, 655, 656, 657, 658, 659, 660, 661, 662, 663, 664, 665, 666, 667, 668, 669, 670, 671, 672, 673, 674, 675, 676, 677, 678, 679, 680] (by decide +kernel) (by decide +kernel)
set_option maxRecDepth 20000 in
theorem gL_law_X7_length : GoodIn wsL_law (wsV RL 58 RX7 yX7_length wsX7_length) := goodIn_app (goodIn_of _ (by decide +kernel)) ggL_law_X7_length
set_option maxRecDepth 20000 in
theorem ggL_law_X6_at : GoodIn wsL_law wsX6_at := goodIn_r _ [341, 23, 342, 343, 344, 22, 345, 53, 54, 346, 330, 331, 332, 333, 326, 327, 328, 175, 131, 2, 132, 639, 640, 641, 642, 643, 644, 688, 689, 690, 691, 692, 693, 694, 695, 696, 697] (by decide +kernel) (by decide +kernel)
set_option maxRecDepth 20000 in
theorem gL_law_X6_at : GoodIn wsL_law (wsV RL 59 RX6 yX6_at wsX6_at) := goodIn_app (goodIn_of _ (by decide +kernel)) ggL_law_X6_at
set_option maxRecDepth 20000 in
theorem ggL_law_X7_at : GoodIn wsL_law wsX7_at := goodIn_r _ [350, 94, 96, 98, 95, 645, 646, 647, 648, 649, 650, 651, 652, 653, 654, 655, 656, 657, 658, 659, 660, 661, 662, 663, 664, 665, 666, 667, 668, 669, 670, 671, 672, 673, 674, 675, 676, 677, 678, 679, 680] (by decide +kernel) (by decide +kernel)
set_option maxRecDepth 20000 in
theorem gL_law_X7_at : GoodIn wsL_law (wsV RL 62 RX7 yX7_at wsX7_at) := goodIn_app (goodIn_of _ (by decide +kernel)) ggL_law_X7_at
set_option maxRecDepth 20000 in
theorem ggL_law_X6_plan : GoodIn wsL_law wsX6_plan := goodIn_r _ [354, 23, 27, 19, 130, 131, 2, 132, 355, 356, 357, 22, 358, 174, 175, 173, 176, 359, 360, 361, 26, 362, 363, 305, 306, 307, 181, 182, 364, 279, 280, 18, 281, 282, 365, 330, 331, 332, 54, 333, 326, 327, 328, 366, 367, 368, 369, 370, 285, 286, 287, 49, 371, 372, 373, 374, 375, 376, 377, 378, 379, 380, 63, 62, 381, 289, 290, 291, 292, 293, 294, 295, 639, 640, 641, 642, 643, 644, 688, 689, 690, 691, 692, 693, 694, 695, 696, 697, 698, 699, 700, 701, 702, 686, 687] (by decide +kernel) (by decide +kernel)
set_option maxRecDepth 20000 in
theorem gL_law_X6_plan : GoodIn wsL_law (wsV RL 63 RX6 yX6_plan wsX6_plan) := goodIn_app (goodIn_of _ (by decide +kernel)) ggL_law_X6_plan
set_option maxRecDepth 20000 in
theorem ggL_law_X7_plan : GoodIn wsL_law wsX7_plan := goodIn_r _ [385, 92, 100, 93, 94, 95, 96, 99, 148, 149, 5, 150, 386, 387, 388, 389, 122, 121, 103, 102, 101, 645, 646, 647, 648, 649, 650, 651, 652, 653, 654, 655, 656, 657, 658, 659, 660, 661, 662, 663, 664, 665, 666, 667, 668, 669, 670, 671, 672, 673, 674, 675, 676, 677, 678, 679, 680] (by decide +kernel) (by decide +kernel)
set_option maxRecDepth 20000 in
theorem gL_law_X7_plan : GoodIn wsL_law (wsV RL 66 RX7 yX7_plan wsX7_plan) := goodIn_app (goodIn_of _ (by decide +kernel)) ggL_law_X7_plan
set_option maxRecDepth 20000 in
theorem ggL_law_X6_queue : GoodIn wsL_law wsX6_queue := goodIn_r _ [393, 23, 27, 130, 131, 2, 132, 394, 395, 396, 26, 397, 64, 363, 305, 306, 307, 365, 330, 331, 22, 332, 54, 333, 326, 327, 328, 175, 371, 372, 373, 374, 375, 376, 639, 640, 641, 642, 643, 644, 688, 689, 690, 691, 692, 693, 694, 695, 696, 697, 698, 699, 700, 701, 702] (by decide +kernel) (by decide +kernel)
set_option maxRecDepth 20000 in
theorem gL_law_X6_queue : GoodIn wsL_law (wsV RL 67 RX6 yX6_queue wsX6_queue) := goodIn_app (goodIn_of _ (by decide +kernel)) ggL_law_X6_queue
set_option maxRecDepth 20000 in
theorem ggL_law_X7_queue : GoodIn wsL_law wsX7_queue := goodIn_r _ [401, 92, 148, 149, 5, 150, 386, 387, 388, 389, 93, 122, 96, 121, 103, 102, 101, 645, 646, 647, 648, 649, 650, 651, 652, 653, 654, 655, 656, 657, 658, 659, 660, 661, 662, 663, 664, 665, 666, 667, 668, 669, 670, 671, 672, 673, 674, 675, 676, 677, 678, 679, 680] (by decide +kernel) (by decide +kernel)
set_option maxRecDepth 20000 in
theorem gL_law_X7_queue : GoodIn wsL_law (wsV RL 70 RX7 yX7_queue wsX7_queue) := goodIn_app (goodIn_of _ (by decide +kernel)) ggL_law_X7_queue
