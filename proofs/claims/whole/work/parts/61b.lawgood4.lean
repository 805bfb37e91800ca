set_option maxRecDepth 20000 in
theorem ggL_law_X5_cheats : GoodIn wsL_law wsX5_cheats := goodIn_r _ [581, 15, 544, 545, 546, 14, 547, 138, 139, 140, 141, 142, 39, 143, 144, 145, 146, 40, 543, 492, 493, 494, 37, 36, 254, 2, 255, 639, 640, 641, 642, 643, 644, 645, 646, 647, 648, 678, 679, 680, 681, 682, 683, 684, 685] (by decide +kernel) (by decide +kernel)
set_option maxRecDepth 20000 in
theorem gL_law_X5_cheats : GoodIn wsL_law (wsV RL 97 RX5 yX5_cheats wsX5_cheats) := goodIn_app (goodIn_of _ (by decide +kernel)) ggL_law_X5_cheats
set_option maxRecDepth 20000 in
theorem ggL_law_X6_cheats : GoodIn wsL_law wsX6_cheats := goodIn_r _ [585, 71, 552, 553, 554, 5, 555, 556, 557, 558, 559, 513, 514, 515, 516, 510, 511, 512, 382, 383, 384, 385, 260, 261, 262, 649, 650, 651, 652, 653, 654, 655, 656, 657, 658, 659, 660, 661, 662, 663, 664, 665, 666, 667, 668, 669, 670, 671, 672, 673, 674, 675, 676, 677] (by decide +kernel) (by decide +kernel)
set_option maxRecDepth 20000 in
theorem gL_law_X6_cheats : GoodIn wsL_law (wsV RL 100 RX6 yX6_cheats wsX6_cheats) := goodIn_app (goodIn_of _ (by decide +kernel)) ggL_law_X6_cheats
set_option maxRecDepth 20000 in
theorem ggL_law_X5_lots : GoodIn wsL_law wsX5_lots := goodIn_r _ [589, 81, 82, 83, 2, 84, 23, 268, 269, 270, 590, 591, 592, 593, 15, 594, 595, 596, 505, 321, 322, 323, 324, 325, 326, 327, 328, 329, 253, 254, 255, 639, 640, 641, 642, 643, 644, 645, 646, 647, 648, 678, 679, 680, 681, 682, 683, 684, 685] (by decide +kernel) (by decide +kernel)
set_option maxRecDepth 20000 in
theorem gL_law_X5_lots : GoodIn wsL_law (wsV RL 101 RX5 yX5_lots wsX5_lots) := goodIn_app (goodIn_of _ (by decide +kernel)) ggL_law_X5_lots
set_option maxRecDepth 20000 in
theorem ggL_law_X6_lots : GoodIn wsL_law wsX6_lots := goodIn_r _ [600, 601, 71, 95, 96, 5, 97, 204, 205, 206, 98, 99, 100, 101, 70, 602, 603, 604, 605, 606, 607, 608, 393, 394, 395, 396, 382, 383, 384, 385, 260, 261, 262, 649, 650, 651, 652, 653, 654, 655, 656, 657, 658, 659, 660, 661, 662, 663, 664, 665, 666, 667, 668, 669, 670, 671, 672, 673, 674, 675, 676, 677] (by decide +kernel) (by decide +kernel)
set_option maxRecDepth 20000 in
theorem gL_law_X6_lots : GoodIn wsL_law (wsV RL 104 RX6 yX6_lots wsX6_lots) := goodIn_app (goodIn_of _ (by decide +kernel)) ggL_law_X6_lots
set_option maxRecDepth 20000 in
theorem ggL_law_X5_image : GoodIn wsL_law wsX5_image := goodIn_r _ [612, 17, 15, 613, 133, 134, 135, 14, 136, 35, 36, 37, 38, 137, 138, 39, 40, 139, 140, 141, 142, 143, 144, 145, 146, 639, 640, 641, 642, 643, 644, 645, 646, 647, 648, 678, 679, 680, 681, 682, 683, 684, 685] (by decide +kernel) (by decide +kernel)
set_option maxRecDepth 20000 in
theorem gL_law_X5_image : GoodIn wsL_law (wsV RL 105 RX5 yX5_image wsX5_image) := goodIn_app (goodIn_of _ (by decide +kernel)) ggL_law_X5_image
set_option maxRecDepth 20000 in
theorem ggL_law_X6_image : GoodIn wsL_law wsX6_image := goodIn_r _ [617, 71, 72, 618, 219, 220, 5, 221, 649, 650, 651, 652, 653, 654, 655, 656, 657, 658, 659, 660, 661, 662, 663, 664, 665, 666, 667, 668, 669, 670, 671, 672, 673, 674, 675, 676, 677] (by decide +kernel) (by decide +kernel)
set_option maxRecDepth 20000 in
theorem gL_law_X6_image : GoodIn wsL_law (wsV RL 108 RX6 yX6_image wsX6_image) := goodIn_app (goodIn_of _ (by decide +kernel)) ggL_law_X6_image
set_option maxRecDepth 20000 in
theorem ggL_law_X5_on : GoodIn wsL_law wsX5_on := goodIn_r _ [622, 613, 15, 17, 81, 82, 83, 2, 84, 23, 133, 134, 135, 14, 136, 35, 36, 37, 38, 137, 138, 39, 40, 139, 140, 141, 142, 143, 144, 145, 146, 639, 640, 641, 642, 643, 644, 645, 646, 647, 648, 678, 679, 680, 681, 682, 683, 684, 685] (by decide +kernel) (by decide +kernel)
set_option maxRecDepth 20000 in
theorem gL_law_X5_on : GoodIn wsL_law (wsV RL 109 RX5 yX5_on wsX5_on) := goodIn_app (goodIn_of _ (by decide +kernel)) ggL_law_X5_on
set_option maxRecDepth 20000 in
theorem ggL_law_X6_on : GoodIn wsL_law wsX6_on := goodIn_r _ [626, 618, 72, 71, 98, 99, 100, 5, 101, 70, 219, 220, 221, 649, 650, 651, 652, 653, 654, 655, 656, 657, 658, 659, 660, 661, 662, 663, 664, 665, 666, 667, 668, 669, 670, 671, 672, 673, 674, 675, 676, 677] (by decide +kernel) (by decide +kernel)
set_option maxRecDepth 20000 in
theorem gL_law_X6_on : GoodIn wsL_law (wsV RL 112 RX6 yX6_on wsX6_on) := goodIn_app (goodIn_of _ (by decide +kernel)) ggL_law_X6_on
set_option maxRecDepth 20000 in
theorem ggL_law_X5_count : GoodIn wsL_law wsX5_count := goodIn_r _ [630, 15, 474, 21, 240, 241, 242, 14, 243, 137, 38, 37, 631, 632, 633, 2, 634, 23, 639, 640, 641, 642, 643, 644, 645, 646, 647, 648, 678, 679, 680, 681, 682, 683, 684, 685, 686, 687] (by decide +kernel) (by decide +kernel)
set_option maxRecDepth 20000 in
theorem gL_law_X5_count : GoodIn wsL_law (wsV RL 113 RX5 yX5_count wsX5_count) := goodIn_app (goodIn_of _ (by decide +kernel)) ggL_law_X5_count
set_option maxRecDepth 20000 in
theorem ggL_law_X6_count : GoodIn wsL_law wsX6_count := goodIn_r _ [638, 70, 71, 480, 94, 204, 205, 5, 206, 649, 650, 651, 652, 653, 654, 655, 656, 657, 658, 659, 660, 661, 662, 663, 664, 665, 666, 667, 668, 669, 670, 671, 672, 673, 674, 675, 676, 677] (by decide +kernel) (by decide +kernel)
set_option maxRecDepth 20000 in
theorem gL_law_X6_count : GoodIn wsL_law (wsV RL 116 RX6 yX6_count wsX6_count) := goodIn_app (goodIn_of _ (by decide +kernel)) ggL_law_X6_count
