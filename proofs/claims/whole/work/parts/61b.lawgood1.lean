set_option maxRecDepth 20000 in
theorem ggL_law_X5_stops : GoodIn wsL_law wsX5_stops := goodIn_r _ [252, 15, 81, 82, 83, 2, 84, 23, 253, 254, 255, 639, 640, 641, 642, 643, 644, 645, 646, 647, 648, 678, 679, 680, 681, 682, 683, 684, 685] (by decide +kernel) (by decide +kernel)
set_option maxRecDepth 20000 in
theorem gL_law_X5_stops : GoodIn wsL_law (wsV RL 32 RX5 yX5_stops wsX5_stops) := goodIn_app (goodIn_of _ (by decide +kernel)) ggL_law_X5_stops
set_option maxRecDepth 20000 in
theorem ggL_law_X6_stops : GoodIn wsL_law wsX6_stops := goodIn_r _ [259, 71, 98, 99, 100, 5, 101, 70, 260, 261, 262, 649, 650, 651, 652, 653, 654, 655, 656, 657, 658, 659, 660, 661, 662, 663, 664, 665, 666, 667, 668, 669, 670, 671, 672, 673, 674, 675, 676, 677] (by decide +kernel) (by decide +kernel)
set_option maxRecDepth 20000 in
theorem gL_law_X6_stops : GoodIn wsL_law (wsV RL 36 RX6 yX6_stops wsX6_stops) := goodIn_app (goodIn_of _ (by decide +kernel)) ggL_law_X6_stops
set_option maxRecDepth 20000 in
theorem ggL_law_X5_mean : GoodIn wsL_law wsX5_mean := goodIn_r _ [266, 267, 268, 269, 2, 270, 271, 272, 273, 274, 275, 81, 82, 83, 84, 23, 276, 277, 278, 279, 15, 280, 281, 282, 283, 25, 31, 284, 285, 286, 30, 287, 64, 288, 289, 290, 291, 63, 65, 292, 293, 294, 50, 295, 57, 296, 297, 298, 299, 300, 301, 302, 28, 303, 51, 52, 304, 305, 306, 307, 308, 309, 310, 311, 312, 313, 314, 315, 316, 317, 318, 319, 254, 255, 320, 321, 322, 323, 324, 325, 326, 327, 328, 329, 330, 331, 332, 333, 334, 335, 336, 337, 338, 339, 340, 341, 342, 343, 344, 345, 346, 347, 348, 349, 350, 639, 640, 641, 642, 643, 644, 645, 646, 647, 648, 678, 679, 680, 681, 682, 683, 684, 685, 690, 691, 692, 693, 694, 695, 696, 697, 688, 689] (by decide +kernel) (by decide +kernel)
set_option maxRecDepth 20000 in
theorem gL_law_X5_mean : GoodIn wsL_law (wsV RL 37 RX5 yX5_mean wsX5_mean) := goodIn_app (goodIn_of _ (by decide +kernel)) ggL_law_X5_mean
set_option maxRecDepth 20000 in
theorem ggL_law_X6_mean : GoodIn wsL_law wsX6_mean := goodIn_r _ [354, 71, 355, 356, 357, 204, 205, 5, 206, 358, 359, 360, 361, 362, 363, 364, 365, 98, 99, 100, 101, 70, 366, 367, 368, 369, 370, 371, 372, 373, 374, 375, 376, 377, 76, 378, 379, 380, 381, 382, 383, 384, 385, 260, 261, 262, 386, 387, 388, 389, 390, 391, 392, 393, 394, 395, 396, 397, 398, 399, 400, 401, 402, 649, 650, 651, 652, 653, 654, 655, 656, 657, 658, 659, 660, 661, 662, 663, 664, 665, 666, 667, 668, 669, 670, 671, 672, 673, 674, 675, 676, 677] (by decide +kernel) (by decide +kernel)
set_option maxRecDepth 20000 in
theorem gL_law_X6_mean : GoodIn wsL_law (wsV RL 41 RX6 yX6_mean wsX6_mean) := goodIn_app (goodIn_of _ (by decide +kernel)) ggL_law_X6_mean
set_option maxRecDepth 20000 in
theorem ggL_law_X5_share : GoodIn wsL_law wsX5_share := goodIn_r _ [406, 407, 268, 269, 2, 270, 271, 272, 273, 274, 275, 81, 82, 83, 84, 23, 276, 277, 278, 279, 15, 280, 281, 282, 283, 25, 31, 284, 285, 286, 30, 287, 64, 288, 289, 290, 291, 63, 65, 292, 293, 294, 50, 295, 57, 296, 297, 298, 299, 300, 301, 302, 28, 303, 51, 52, 304, 305, 306, 307, 308, 309, 310, 311, 312, 313, 314, 315, 316, 317, 318, 319, 254, 255, 320, 321, 322, 323, 324, 325, 326, 327, 328, 329, 330, 331, 332, 333, 334, 335, 336, 337, 338, 339, 340, 341, 342, 343, 344, 345, 346, 347, 348, 349, 350, 639, 640, 641, 642, 643, 644, 645, 646, 647, 648, 678, 679, 680, 681, 682, 683, 684, 685, 690, 691, 692, 693, 694, 695, 696, 697, 688, 689] (by decide +kernel) (by decide +kernel)
set_option maxRecDepth 20000 in
theorem gL_law_X5_share : GoodIn wsL_law (wsV RL 42 RX5 yX5_share wsX5_share) := goodIn_app (goodIn_of _ (by decide +kernel)) ggL_law_X5_share
set_option maxRecDepth 20000 in
theorem ggL_law_X6_share : GoodIn wsL_law wsX6_share := goodIn_r _ [411, 71, 371, 357, 412, 358, 359, 5, 360, 204, 205, 206, 361, 362, 363, 364, 365, 98, 99, 100, 101, 70, 366, 367, 368, 369, 370, 355, 356, 372, 373, 374, 375, 376, 377, 76, 378, 379, 380, 381, 382, 383, 384, 385, 260, 261, 262, 386, 387, 388, 389, 390, 391, 392, 393, 394, 395, 396, 397, 398, 399, 400, 401, 402, 649, 650, 651, 652, 653, 654, 655, 656, 657, 658, 659, 660, 661, 662, 663, 664, 665, 666, 667, 668, 669, 670, 671, 672, 673, 674, 675, 676, 677] (by decide +kernel) (by decide +kernel)
set_option maxRecDepth 20000 in
theorem gL_law_X6_share : GoodIn wsL_law (wsV RL 46 RX6 yX6_share wsX6_share) := goodIn_app (goodIn_of _ (by decide +kernel)) ggL_law_X6_share
set_option maxRecDepth 20000 in
theorem ggL_law_X5_all : GoodIn wsL_law wsX5_all := goodIn_r _ [416, 268, 269, 2, 270, 271, 272, 273, 274, 275, 81, 82, 83, 84, 23, 276, 277, 278, 279, 15, 280, 281, 282, 283, 25, 31, 284, 285, 286, 30, 287, 64, 288, 289, 290, 291, 63, 65, 292, 293, 294, 50, 295, 57, 296, 297, 298, 299, 300, 301, 302, 28, 303, 51, 52, 304, 305, 306, 307, 308, 309, 310, 311, 312, 313, 314, 315, 316, 317, 318, 319, 254, 255, 320, 321, 322, 323, 324, 325, 326, 327, 328, 329, 330, 331, 332, 333, 334, 335, 336, 337, 338, 339, 340, 341, 342, 343, 344, 345, 346, 347, 348, 349, 350, 639, 640, 641, 642, 643, 644, 645, 646, 647, 648, 678, 679, 680, 681, 682, 683, 684, 685, 690, 691, 692, 693, 694, 695, 696, 697, 688, 689] (by decide +kernel) (by decide +kernel)
set_option maxRecDepth 20000 in
theorem gL_law_X5_all : GoodIn wsL_law (wsV RL 47 RX5 yX5_all wsX5_all) := goodIn_app (goodIn_of _ (by decide +kernel)) ggL_law_X5_all
set_option maxRecDepth 20000 in
theorem ggL_law_X6_all : GoodIn wsL_law wsX6_all := goodIn_r _ [420, 71, 356, 355, 358, 359, 5, 360, 204, 205, 206, 361, 362, 363, 364, 365, 98, 99, 100, 101, 70, 366, 367, 368, 369, 357, 370, 371, 372, 373, 374, 375, 376, 377, 76, 378, 379, 380, 381, 382, 383, 384, 385, 260, 261, 262, 386, 387, 388, 389, 390, 391, 392, 393, 394, 395, 396, 397, 398, 399, 400, 401, 402, 649, 650, 651, 652, 653, 654, 655, 656, 657, 658, 659, 660, 661, 662, 663, 664, 665, 666, 667, 668, 669, 670, 671, 672, 673, 674, 675, 676, 677] (by decide +kernel) (by decide +kernel)
set_option maxRecDepth 20000 in
theorem gL_law_X6_all : GoodIn wsL_law (wsV RL 50 RX6 yX6_all wsX6_all) := goodIn_app (goodIn_of _ (by decide +kernel)) ggL_law_X6_all
set_option maxRecDepth 20000 in
theorem ggL_law_X5_more : GoodIn wsL_law wsX5_more := goodIn_r _ [424, 267, 268, 269, 2, 270, 271, 272, 273, 274, 275, 81, 82, 83, 84, 23, 276, 277, 278, 279, 15, 280, 281, 282, 283, 25, 31, 284, 285, 286, 30, 287, 64, 288, 289, 290, 291, 63, 65, 292, 293, 294, 50, 295, 57, 296, 297, 298, 299, 300, 301, 302, 28, 303, 51, 52, 304, 305, 306, 307, 308, 309, 310, 311, 312, 313, 314, 315, 316, 317, 318, 319, 254, 255, 320, 321, 322, 323, 324, 325, 326, 327, 328, 329, 330, 331, 332, 333, 334, 335, 336, 337, 338, 339, 340, 341, 342, 343, 344, 345, 346, 347, 348, 349, 350, 639, 640, 641, 642, 643, 644, 645, 646, 647, 648, 678, 679, 680, 681, 682, 683, 684, 685, 690, 691, 692, 693, 694, 695, 696, 697, 688, 689] (by decide +kernel) (by decide +kernel)
set_option maxRecDepth 20000 in
theorem gL_law_X5_more : GoodIn wsL_law (wsV RL 51 RX5 yX5_more wsX5_more) := goodIn_app (goodIn_of _ (by decide +kernel)) ggL_law_X5_more
set_option maxRecDepth 20000 in
theorem ggL_law_X6_more : GoodIn wsL_law wsX6_more := goodIn_r _ [428, 71, 372, 373, 357, 204, 205, 5, 206, 358, 359, 360, 361, 362, 363, 364, 365, 98, 99, 100, 101, 70, 366, 367, 368, 369, 370, 355, 356, 371, 374, 375, 376, 377, 76, 378, 379, 380, 381, 382, 383, 384, 385, 260, 261, 262, 386, 387, 388, 389, 390, 391, 392, 393, 394, 395, 396, 397, 398, 399, 400, 401, 402, 649, 650, 651, 652, 653, 654, 655, 656, 657, 658, 659, 660, 661, 662, 663, 664, 665, 666, 667, 668, 669, 670, 671, 672, 673, 674, 675, 676, 677] (by decide +kernel) (by decide +kernel)
set_option maxRecDepth 20000 in
theorem gL_law_X6_more : GoodIn wsL_law (wsV RL 54 RX6 yX6_more wsX6_more) := goodIn_app (goodIn_of _ (by decide +kernel)) ggL_law_X6_more
