set_option maxRecDepth 20000 in
theorem ggL_law_X5_gone : GoodIn wsL_law wsX5_gone := goodIn_r _ [485, 486, 268, 269, 2, 270, 271, 272, 273, 274, 275, 81, 82, 83, 84, 23, 487, 488, 489, 490, 15, 474, 475, 491, 492, 493, 14, 494, 37, 36, 254, 255, 495, 496, 497, 498, 499, 500, 501, 502, 503, 504, 505, 321, 322, 323, 324, 325, 326, 327, 328, 329, 253, 345, 346, 347, 348, 349, 350, 639, 640, 641, 642, 643, 644, 645, 646, 647, 648, 678, 679, 680, 681, 682, 683, 684, 685] (by decide +kernel) (by decide +kernel)
set_option maxRecDepth 20000 in
theorem gL_law_X5_gone : GoodIn wsL_law (wsV RL 77 RX5 yX5_gone wsX5_gone) := goodIn_app (goodIn_of _ (by decide +kernel)) ggL_law_X5_gone
set_option maxRecDepth 20000 in
theorem ggL_law_X6_gone : GoodIn wsL_law wsX6_gone := goodIn_r _ [509, 71, 480, 481, 510, 511, 512, 370, 358, 359, 5, 360, 204, 205, 206, 361, 362, 363, 364, 365, 98, 99, 100, 101, 70, 513, 514, 515, 516, 382, 383, 384, 385, 260, 261, 262, 397, 398, 399, 400, 401, 402, 393, 394, 395, 396, 649, 650, 651, 652, 653, 654, 655, 656, 657, 658, 659, 660, 661, 662, 663, 664, 665, 666, 667, 668, 669, 670, 671, 672, 673, 674, 675, 676, 677] (by decide +kernel) (by decide +kernel)
set_option maxRecDepth 20000 in
theorem gL_law_X6_gone : GoodIn wsL_law (wsV RL 80 RX6 yX6_gone wsX6_gone) := goodIn_app (goodIn_of _ (by decide +kernel)) ggL_law_X6_gone
set_option maxRecDepth 20000 in
theorem ggL_law_X5_shift : GoodIn wsL_law wsX5_shift := goodIn_r _ [520, 268, 269, 2, 270, 81, 82, 83, 84, 23, 521, 522, 523, 524, 280, 281, 282, 283, 25, 31, 15, 284, 285, 286, 30, 287, 64, 288, 289, 290, 291, 63, 65, 292, 293, 294, 50, 295, 57, 296, 297, 298, 299, 300, 301, 302, 28, 303, 51, 52, 304, 305, 306, 307, 308, 309, 310, 311, 312, 313, 314, 315, 316, 317, 318, 319, 254, 255, 320, 321, 322, 323, 324, 325, 326, 327, 328, 329, 330, 331, 332, 333, 334, 335, 336, 337, 338, 339, 340, 341, 342, 343, 344, 525, 526, 527, 639, 640, 641, 642, 643, 644, 645, 646, 647, 648, 678, 679, 680, 681, 682, 683, 684, 685, 690, 691, 692, 693, 694, 695, 696, 697, 688, 689] (by decide +kernel) (by decide +kernel)
set_option maxRecDepth 20000 in
theorem gL_law_X5_shift : GoodIn wsL_law (wsV RL 81 RX5 yX5_shift wsX5_shift) := goodIn_app (goodIn_of _ (by decide +kernel)) ggL_law_X5_shift
set_option maxRecDepth 20000 in
theorem ggL_law_X6_shift : GoodIn wsL_law wsX6_shift := goodIn_r _ [531, 356, 355, 204, 205, 5, 206, 98, 99, 100, 101, 70, 366, 367, 368, 369, 357, 71, 370, 371, 372, 373, 374, 375, 376, 377, 76, 378, 379, 380, 381, 382, 383, 384, 385, 260, 261, 262, 386, 387, 388, 389, 390, 391, 392, 393, 394, 395, 396, 397, 398, 399, 400, 401, 402, 532, 533, 534, 649, 650, 651, 652, 653, 654, 655, 656, 657, 658, 659, 660, 661, 662, 663, 664, 665, 666, 667, 668, 669, 670, 671, 672, 673, 674, 675, 676, 677] (by decide +kernel) (by decide +kernel)
set_option maxRecDepth 20000 in
theorem gL_law_X6_shift : GoodIn wsL_law (wsV RL 84 RX6 yX6_shift wsX6_shift) := goodIn_app (goodIn_of _ (by decide +kernel)) ggL_law_X6_shift
set_option maxRecDepth 20000 in
theorem ggL_law_X5_fits : GoodIn wsL_law wsX5_fits := goodIn_r _ [538, 15, 268, 269, 2, 270, 81, 82, 83, 84, 23, 539, 540, 541, 14, 542, 138, 139, 140, 141, 142, 39, 143, 144, 145, 146, 40, 543, 492, 493, 494, 37, 36, 254, 255, 544, 545, 546, 547, 639, 640, 641, 642, 643, 644, 645, 646, 647, 648, 678, 679, 680, 681, 682, 683, 684, 685] (by decide +kernel) (by decide +kernel)
set_option maxRecDepth 20000 in
theorem gL_law_X5_fits : GoodIn wsL_law (wsV RL 85 RX5 yX5_fits wsX5_fits) := goodIn_app (goodIn_of _ (by decide +kernel)) ggL_law_X5_fits
set_option maxRecDepth 20000 in
theorem ggL_law_X6_fits : GoodIn wsL_law wsX6_fits := goodIn_r _ [551, 71, 204, 205, 5, 206, 98, 99, 100, 101, 70, 552, 553, 554, 555, 556, 557, 558, 559, 513, 514, 515, 516, 510, 511, 512, 382, 383, 384, 385, 260, 261, 262, 649, 650, 651, 652, 653, 654, 655, 656, 657, 658, 659, 660, 661, 662, 663, 664, 665, 666, 667, 668, 669, 670, 671, 672, 673, 674, 675, 676, 677] (by decide +kernel) (by decide +kernel)
set_option maxRecDepth 20000 in
theorem gL_law_X6_fits : GoodIn wsL_law (wsV RL 88 RX6 yX6_fits wsX6_fits) := goodIn_app (goodIn_of _ (by decide +kernel)) ggL_law_X6_fits
set_option maxRecDepth 20000 in
theorem ggL_law_X5_judge : GoodIn wsL_law wsX5_judge := goodIn_r _ [563, 15, 474, 475, 491, 492, 493, 14, 494, 37, 36, 254, 2, 255, 639, 640, 641, 642, 643, 644, 645, 646, 647, 648, 678, 679, 680, 681, 682, 683, 684, 685] (by decide +kernel) (by decide +kernel)
set_option maxRecDepth 20000 in
theorem gL_law_X5_judge : GoodIn wsL_law (wsV RL 89 RX5 yX5_judge wsX5_judge) := goodIn_app (goodIn_of _ (by decide +kernel)) ggL_law_X5_judge
set_option maxRecDepth 20000 in
theorem ggL_law_X6_judge : GoodIn wsL_law wsX6_judge := goodIn_r _ [567, 480, 71, 481, 513, 514, 515, 5, 516, 510, 511, 512, 382, 383, 384, 385, 260, 261, 262, 649, 650, 651, 652, 653, 654, 655, 656, 657, 658, 659, 660, 661, 662, 663, 664, 665, 666, 667, 668, 669, 670, 671, 672, 673, 674, 675, 676, 677] (by decide +kernel) (by decide +kernel)
set_option maxRecDepth 20000 in
theorem gL_law_X6_judge : GoodIn wsL_law (wsV RL 92 RX6 yX6_judge wsX6_judge) := goodIn_app (goodIn_of _ (by decide +kernel)) ggL_law_X6_judge
set_option maxRecDepth 20000 in
theorem ggL_law_X5_seen : GoodIn wsL_law wsX5_seen := goodIn_r _ [571, 15, 81, 82, 83, 2, 84, 23, 268, 269, 270, 572, 140, 141, 14, 142, 39, 573, 144, 145, 146, 40, 639, 640, 641, 642, 643, 644, 645, 646, 647, 648, 678, 679, 680, 681, 682, 683, 684, 685] (by decide +kernel) (by decide +kernel)
set_option maxRecDepth 20000 in
theorem gL_law_X5_seen : GoodIn wsL_law (wsV RL 93 RX5 yX5_seen wsX5_seen) := goodIn_app (goodIn_of _ (by decide +kernel)) ggL_law_X5_seen
set_option maxRecDepth 20000 in
theorem ggL_law_X6_seen : GoodIn wsL_law wsX6_seen := goodIn_r _ [577, 71, 204, 205, 5, 206, 98, 99, 100, 101, 70, 552, 553, 554, 555, 556, 557, 558, 559, 649, 650, 651, 652, 653, 654, 655, 656, 657, 658, 659, 660, 661, 662, 663, 664, 665, 666, 667, 668, 669, 670, 671, 672, 673, 674, 675, 676, 677] (by decide +kernel) (by decide +kernel)
set_option maxRecDepth 20000 in
theorem gL_law_X6_seen : GoodIn wsL_law (wsV RL 96 RX6 yX6_seen wsX6_seen) := goodIn_app (goodIn_of _ (by decide +kernel)) ggL_law_X6_seen
