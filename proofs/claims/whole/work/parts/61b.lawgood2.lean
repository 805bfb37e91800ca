set_option maxRecDepth 20000 in
theorem ggL_law_X5_size : GoodIn wsL_law wsX5_size := goodIn_r _ [432, 267, 271, 272, 273, 2, 274, 275, 81, 82, 83, 84, 23, 268, 269, 270, 276, 277, 278, 279, 15, 280, 281, 282, 283, 25, 31, 284, 285, 286, 30, 287, 64, 288, 289, 290, 291, 63, 65, 292, 293, 294, 50, 295, 57, 296, 297, 298, 299, 300, 301, 302, 28, 303, 51, 52, 304, 305, 306, 307, 308, 309, 310, 311, 312, 313, 314, 315, 316, 317, 318, 319, 254, 255, 320, 321, 322, 323, 324, 325, 326, 327, 328, 329, 330, 331, 332, 333, 334, 335, 336, 337, 338, 339, 340, 341, 342, 343, 344, 345, 346, 347, 348, 349, 350, 639, 640, 641, 642, 643, 644, 645, 646, 647, 648, 678, 679, 680, 681, 682, 683, 684, 685, 690, 691, 692, 693, 694, 695, 696, 697, 688, 689] (by decide +kernel) (by decide +kernel)
set_option maxRecDepth 20000 in
theorem gL_law_X5_size : GoodIn wsL_law (wsV RL 55 RX5 yX5_size wsX5_size) := goodIn_app (goodIn_of _ (by decide +kernel)) ggL_law_X5_size
set_option maxRecDepth 20000 in
theorem ggL_law_X6_size : GoodIn wsL_law wsX6_size := goodIn_r _ [436, 71, 76, 357, 95, 96, 5, 97, 358, 359, 360, 204, 205, 206, 361, 362, 363, 364, 365, 98, 99, 100, 101, 70, 366, 367, 368, 369, 370, 355, 356, 371, 372, 373, 374, 375, 376, 377, 378, 379, 380, 381, 382, 383, 384, 385, 260, 261, 262, 386, 387, 388, 389, 390, 391, 392, 393, 394, 395, 396, 397, 398, 399, 400, 401, 402, 649, 650, 651, 652, 653, 654, 655, 656, 657, 658, 659, 660, 661, 662, 663, 664, 665, 666, 667, 668, 669, 670, 671, 672, 673, 674, 675, 676, 677] (by decide +kernel) (by decide +kernel)
set_option maxRecDepth 20000 in
theorem gL_law_X6_size : GoodIn wsL_law (wsV RL 58 RX6 yX6_size wsX6_size) := goodIn_app (goodIn_of _ (by decide +kernel)) ggL_law_X6_size
set_option maxRecDepth 20000 in
theorem ggL_law_X5_met : GoodIn wsL_law wsX5_met := goodIn_r _ [440, 268, 269, 2, 270, 271, 272, 273, 274, 275, 81, 82, 83, 84, 23, 276, 277, 278, 279, 15, 280, 281, 282, 283, 25, 31, 284, 285, 286, 30, 287, 64, 288, 289, 290, 291, 63, 65, 292, 293, 294, 50, 295, 57, 296, 297, 298, 299, 300, 301, 302, 28, 303, 51, 52, 304, 305, 306, 307, 308, 309, 310, 311, 312, 313, 314, 315, 316, 317, 318, 319, 254, 255, 320, 321, 322, 323, 324, 325, 326, 327, 328, 329, 330, 331, 332, 333, 334, 335, 336, 337, 338, 339, 340, 341, 342, 343, 344, 345, 346, 347, 348, 349, 350, 639, 640, 641, 642, 643, 644, 645, 646, 647, 648, 678, 679, 680, 681, 682, 683, 684, 685, 690, 691, 692, 693, 694, 695, 696, 697, 688, 689] (by decide +kernel) (by decide +kernel)
set_option maxRecDepth 20000 in
theorem gL_law_X5_met : GoodIn wsL_law (wsV RL 59 RX5 yX5_met wsX5_met) := goodIn_app (goodIn_of _ (by decide +kernel)) ggL_law_X5_met
set_option maxRecDepth 20000 in
theorem ggL_law_X6_met : GoodIn wsL_law wsX6_met := goodIn_r _ [444, 71, 374, 375, 355, 204, 205, 5, 206, 358, 359, 360, 361, 362, 363, 364, 365, 98, 99, 100, 101, 70, 366, 367, 368, 369, 357, 370, 356, 371, 372, 373, 376, 377, 76, 378, 379, 380, 381, 382, 383, 384, 385, 260, 261, 262, 386, 387, 388, 389, 390, 391, 392, 393, 394, 395, 396, 397, 398, 399, 400, 401, 402, 649, 650, 651, 652, 653, 654, 655, 656, 657, 658, 659, 660, 661, 662, 663, 664, 665, 666, 667, 668, 669, 670, 671, 672, 673, 674, 675, 676, 677] (by decide +kernel) (by decide +kernel)
set_option maxRecDepth 20000 in
theorem gL_law_X6_met : GoodIn wsL_law (wsV RL 62 RX6 yX6_met wsX6_met) := goodIn_app (goodIn_of _ (by decide +kernel)) ggL_law_X6_met
set_option maxRecDepth 20000 in
theorem ggL_law_X5_says : GoodIn wsL_law wsX5_says := goodIn_r _ [448, 271, 272, 273, 2, 274, 275, 81, 82, 83, 84, 23, 268, 269, 270, 276, 277, 278, 279, 15, 280, 281, 282, 283, 25, 31, 284, 285, 286, 30, 287, 64, 288, 289, 290, 291, 63, 65, 292, 293, 294, 50, 295, 57, 296, 297, 298, 299, 300, 301, 302, 28, 303, 51, 52, 304, 305, 306, 307, 308, 309, 310, 311, 312, 313, 314, 315, 316, 317, 318, 319, 254, 255, 320, 321, 322, 323, 324, 325, 326, 327, 328, 329, 330, 331, 332, 333, 449, 339, 340, 341, 334, 335, 336, 337, 338, 342, 343, 344, 345, 346, 347, 348, 349, 350, 450, 451, 452, 453, 639, 640, 641, 642, 643, 644, 645, 646, 647, 648, 678, 679, 680, 681, 682, 683, 684, 685, 690, 691, 692, 693, 694, 695, 696, 697, 688, 689] (by decide +kernel) (by decide +kernel)
set_option maxRecDepth 20000 in
theorem gL_law_X5_says : GoodIn wsL_law (wsV RL 63 RX5 yX5_says wsX5_says) := goodIn_app (goodIn_of _ (by decide +kernel)) ggL_law_X5_says
set_option maxRecDepth 20000 in
theorem ggL_law_X6_says : GoodIn wsL_law wsX6_says := goodIn_r _ [457, 391, 390, 392, 71, 376, 355, 377, 204, 205, 5, 206, 358, 359, 360, 361, 362, 363, 364, 365, 98, 99, 100, 101, 70, 366, 367, 368, 369, 357, 370, 356, 371, 372, 373, 374, 375, 76, 378, 379, 380, 381, 382, 383, 384, 385, 260, 261, 262, 386, 387, 388, 389, 393, 394, 395, 396, 397, 398, 399, 400, 401, 402, 649, 650, 651, 652, 653, 654, 655, 656, 657, 658, 659, 660, 661, 662, 663, 664, 665, 666, 667, 668, 669, 670, 671, 672, 673, 674, 675, 676, 677] (by decide +kernel) (by decide +kernel)
set_option maxRecDepth 20000 in
theorem gL_law_X6_says : GoodIn wsL_law (wsV RL 67 RX6 yX6_says wsX6_says) := goodIn_app (goodIn_of _ (by decide +kernel)) ggL_law_X6_says
set_option maxRecDepth 20000 in
theorem ggL_law_X5_trial : GoodIn wsL_law wsX5_trial := goodIn_r _ [461, 31, 15, 267, 271, 272, 273, 2, 274, 275, 81, 82, 83, 84, 23, 268, 269, 270, 284, 285, 286, 30, 287, 64, 288, 289, 290, 291, 63, 65, 292, 293, 294, 50, 295, 57, 296, 297, 298, 299, 300, 301, 302, 28, 303, 51, 52, 304, 305, 306, 307, 308, 309, 310, 311, 312, 313, 314, 315, 316, 317, 318, 319, 254, 255, 320, 321, 322, 323, 324, 325, 326, 327, 328, 329, 330, 331, 332, 333, 334, 335, 336, 337, 338, 339, 340, 341, 342, 343, 344, 345, 346, 347, 348, 349, 350, 639, 640, 641, 642, 643, 644, 645, 646, 647, 648, 678, 679, 680, 681, 682, 683, 684, 685, 690, 691, 692, 693, 694, 695, 696, 697, 688, 689] (by decide +kernel) (by decide +kernel)
set_option maxRecDepth 20000 in
theorem gL_law_X5_trial : GoodIn wsL_law (wsV RL 68 RX5 yX5_trial wsX5_trial) := goodIn_app (goodIn_of _ (by decide +kernel)) ggL_law_X5_trial
set_option maxRecDepth 20000 in
theorem ggL_law_X6_trial : GoodIn wsL_law wsX6_trial := goodIn_r _ [465, 370, 358, 359, 5, 360, 204, 205, 206, 361, 362, 363, 364, 365, 98, 99, 100, 101, 70, 466, 467, 468, 469, 393, 394, 395, 396, 71, 397, 398, 399, 400, 401, 402, 649, 650, 651, 652, 653, 654, 655, 656, 657, 658, 659, 660, 661, 662, 663, 664, 665, 666, 667, 668, 669, 670, 671, 672, 673, 674, 675, 676, 677] (by decide +kernel) (by decide +kernel)
set_option maxRecDepth 20000 in
theorem gL_law_X6_trial : GoodIn wsL_law (wsV RL 72 RX6 yX6_trial wsX6_trial) := goodIn_app (goodIn_of _ (by decide +kernel)) ggL_law_X6_trial
set_option maxRecDepth 20000 in
theorem ggL_law_X5_row : GoodIn wsL_law wsX5_row := goodIn_r _ [473, 474, 475, 268, 269, 2, 270, 81, 82, 83, 84, 23, 639, 640, 641, 642, 643, 644, 645, 646, 647, 648] (by decide +kernel) (by decide +kernel)
set_option maxRecDepth 20000 in
theorem gL_law_X5_row : GoodIn wsL_law (wsV RL 73 RX5 yX5_row wsX5_row) := goodIn_app (goodIn_of _ (by decide +kernel)) ggL_law_X5_row
set_option maxRecDepth 20000 in
theorem ggL_law_X6_row : GoodIn wsL_law wsX6_row := goodIn_r _ [479, 480, 481, 204, 205, 5, 206, 98, 99, 100, 101, 70, 649, 650, 651, 652, 653, 654, 655, 656, 657, 658, 659, 660, 661, 662, 663, 664, 665, 666, 667, 668, 669, 670, 671, 672, 673, 674, 675, 676, 677] (by decide +kernel) (by decide +kernel)
set_option maxRecDepth 20000 in
theorem gL_law_X6_row : GoodIn wsL_law (wsV RL 76 RX6 yX6_row wsX6_row) := goodIn_app (goodIn_of _ (by decide +kernel)) ggL_law_X6_row
