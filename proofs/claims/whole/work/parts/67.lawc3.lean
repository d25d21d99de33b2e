set_option maxRecDepth 20000 in
theorem ggL_law_X4_joins : GoodIn wsL_law wsX4_joins := goodIn_r _ [635, 19, 20, 28, 527, 528, 2, 529, 360, 361, 362, 363, 364, 18, 365, 366, 117, 162, 163, 271, 272, 273, 114, 115, 116, 37, 274, 275, 276, 277, 38, 39, 151, 152, 153, 425, 27, 426, 427, 428, 429, 430, 431, 432, 433, 434, 54, 52, 418, 419, 420, 143, 144, 145, 146, 147, 148, 149, 150, 435, 436, 437, 438, 53, 439, 440, 441, 442, 443, 444, 445, 446, 447, 368, 369, 370, 371, 372, 373, 448, 449, 450, 451, 452, 453, 454, 455, 48, 50, 51, 456, 457, 458, 459, 460, 461, 683, 684, 685, 686, 687, 709, 710, 711, 712, 713, 714, 715, 719, 720, 721, 722, 723, 724, 725, 726, 727] rfl (by decide +kernel)
set_option maxRecDepth 20000 in
theorem gL_law_X4_joins : GoodIn wsL_law (wsV RL 99 RX4 yX4_joins wsX4_joins) := goodIn_app (goodIn_of _ (by decide +kernel)) ggL_law_X4_joins
set_option maxRecDepth 20000 in
theorem ggL_law_X5_joins : GoodIn wsL_law wsX5_joins := goodIn_r _ [639, 171, 474, 175, 176, 487, 534, 535, 5, 536, 195, 196, 197, 378, 379, 380, 381, 264, 265, 266, 470, 471, 472, 473, 177, 488, 489, 490, 491, 492, 493, 178, 180, 181, 179, 494, 495, 496, 497, 475, 476, 477, 478, 498, 499, 500, 501, 502, 503, 504, 505, 382, 383, 384, 506, 507, 508, 509, 510, 511, 512, 513, 514, 688, 689, 690, 691, 692, 693, 694, 695, 696, 697, 698, 699, 700, 701, 702, 703, 704, 705, 706] rfl (by decide +kernel)
set_option maxRecDepth 20000 in
theorem gL_law_X5_joins : GoodIn wsL_law (wsV RL 102 RX5 yX5_joins wsX5_joins) := goodIn_app (goodIn_of _ (by decide +kernel)) ggL_law_X5_joins
set_option maxRecDepth 20000 in
theorem ggL_law_X4_matters : GoodIn wsL_law wsX4_matters := goodIn_r _ [643, 28, 19, 20, 527, 528, 2, 529, 425, 27, 426, 427, 428, 429, 430, 431, 432, 433, 434, 54, 52, 418, 18, 419, 420, 143, 144, 145, 146, 115, 37, 147, 148, 149, 150, 38, 435, 436, 437, 438, 53, 162, 163, 439, 440, 441, 442, 443, 444, 445, 446, 447, 368, 369, 370, 371, 372, 373, 448, 449, 450, 451, 452, 453, 454, 455, 48, 50, 51, 456, 457, 458, 459, 460, 271, 272, 273, 114, 116, 117, 274, 275, 276, 277, 39, 683, 684, 685, 686, 687, 709, 710, 711, 712, 713, 714, 715, 719, 720, 721, 722, 723, 724, 725, 726, 727] rfl (by decide +kernel)
set_option maxRecDepth 20000 in
theorem gL_law_X4_matters : GoodIn wsL_law (wsV RL 103 RX4 yX4_matters wsX4_matters) := goodIn_app (goodIn_of _ (by decide +kernel)) ggL_law_X4_matters
set_option maxRecDepth 20000 in
theorem ggL_law_X5_matters : GoodIn wsL_law wsX5_matters := goodIn_r _ [647, 474, 175, 487, 534, 535, 5, 536, 195, 196, 197, 483, 484, 485, 486, 470, 471, 472, 473, 171, 176, 177, 488, 489, 490, 491, 492, 493, 178, 180, 181, 179, 494, 495, 496, 497, 264, 265, 266, 475, 476, 477, 478, 498, 499, 500, 501, 502, 503, 504, 505, 382, 383, 384, 506, 507, 508, 509, 510, 511, 512, 513, 514, 688, 689, 690, 691, 692, 693, 694, 695, 696, 697, 698, 699, 700, 701, 702, 703, 704, 705, 706] rfl (by decide +kernel)
set_option maxRecDepth 20000 in
theorem gL_law_X5_matters : GoodIn wsL_law (wsV RL 106 RX5 yX5_matters wsX5_matters) := goodIn_app (goodIn_of _ (by decide +kernel)) ggL_law_X5_matters
set_option maxRecDepth 20000 in
theorem ggL_law_X4_rather : GoodIn wsL_law wsX4_rather := goodIn_r _ [651, 19, 28, 20, 527, 528, 2, 529, 324, 325, 326, 327, 425, 27, 426, 427, 428, 429, 430, 431, 432, 433, 434, 54, 52, 418, 18, 419, 420, 143, 144, 145, 146, 115, 37, 147, 148, 149, 150, 38, 435, 436, 437, 438, 53, 162, 163, 439, 440, 441, 442, 443, 444, 445, 446, 447, 368, 369, 370, 371, 372, 373, 448, 449, 450, 451, 452, 453, 454, 455, 48, 50, 51, 456, 457, 458, 459, 460, 367, 271, 272, 273, 114, 116, 117, 274, 275, 276, 277, 39, 683, 684, 685, 686, 687, 709, 710, 711, 712, 713, 714, 715, 719, 720, 721, 722, 723, 724, 725, 726, 727] rfl (by decide +kernel)
set_option maxRecDepth 20000 in
theorem gL_law_X4_rather : GoodIn wsL_law (wsV RL 107 RX4 yX4_rather wsX4_rather) := goodIn_app (goodIn_of _ (by decide +kernel)) ggL_law_X4_rather
set_option maxRecDepth 20000 in
theorem ggL_law_X5_rather : GoodIn wsL_law wsX5_rather := goodIn_r _ [655, 171, 176, 487, 534, 535, 5, 536, 195, 196, 197, 332, 333, 334, 335, 483, 484, 485, 486, 470, 471, 472, 473, 474, 175, 177, 488, 489, 490, 491, 492, 493, 178, 180, 181, 179, 494, 495, 496, 497, 264, 265, 266, 475, 476, 477, 478, 498, 499, 500, 501, 502, 503, 504, 505, 382, 383, 384, 506, 507, 508, 509, 510, 511, 512, 513, 514, 688, 689, 690, 691, 692, 693, 694, 695, 696, 697, 698, 699, 700, 701, 702, 703, 704, 705, 706] rfl (by decide +kernel)
set_option maxRecDepth 20000 in
theorem gL_law_X5_rather : GoodIn wsL_law (wsV RL 111 RX5 yX5_rather wsX5_rather) := goodIn_app (goodIn_of _ (by decide +kernel)) ggL_law_X5_rather
set_option maxRecDepth 20000 in
theorem ggL_law_X4_decided : GoodIn wsL_law wsX4_decided := goodIn_r _ [659, 28, 19, 20, 527, 528, 2, 529, 425, 27, 426, 427, 428, 429, 430, 431, 432, 433, 434, 54, 52, 418, 18, 419, 420, 143, 144, 145, 146, 115, 37, 147, 148, 149, 150, 38, 435, 436, 437, 438, 53, 162, 163, 439, 440, 441, 442, 443, 444, 445, 446, 447, 368, 369, 370, 371, 372, 373, 448, 449, 450, 451, 452, 453, 454, 455, 48, 50, 51, 456, 457, 458, 459, 460, 271, 272, 273, 114, 116, 117, 274, 275, 276, 277, 39, 660, 661, 662, 683, 684, 685, 686, 687, 709, 710, 711, 712, 713, 714, 715, 719, 720, 721, 722, 723, 724, 725, 726, 727] rfl (by decide +kernel)
set_option maxRecDepth 20000 in
theorem gL_law_X4_decided : GoodIn wsL_law (wsV RL 112 RX4 yX4_decided wsX4_decided) := goodIn_app (goodIn_of _ (by decide +kernel)) ggL_law_X4_decided
set_option maxRecDepth 20000 in
theorem ggL_law_X5_decided : GoodIn wsL_law wsX5_decided := goodIn_r _ [666, 171, 177, 487, 534, 535, 5, 536, 195, 196, 197, 483, 484, 485, 486, 470, 471, 472, 473, 474, 175, 176, 488, 489, 490, 491, 492, 493, 178, 180, 181, 179, 494, 495, 496, 497, 264, 265, 266, 475, 476, 477, 478, 498, 499, 500, 501, 502, 503, 504, 505, 382, 383, 384, 506, 507, 508, 509, 510, 511, 512, 513, 514, 688, 689, 690, 691, 692, 693, 694, 695, 696, 697, 698, 699, 700, 701, 702, 703, 704, 705, 706] rfl (by decide +kernel)
set_option maxRecDepth 20000 in
theorem gL_law_X5_decided : GoodIn wsL_law (wsV RL 115 RX5 yX5_decided wsX5_decided) := goodIn_app (goodIn_of _ (by decide +kernel)) ggL_law_X5_decided
set_option maxRecDepth 20000 in
theorem ggL_law_X4_both : GoodIn wsL_law wsX4_both := goodIn_r _ [670, 28, 19, 527, 528, 2, 529, 425, 27, 426, 427, 428, 429, 430, 431, 432, 433, 434, 54, 52, 418, 18, 419, 420, 143, 144, 145, 146, 115, 37, 147, 148, 149, 150, 38, 435, 436, 437, 438, 53, 162, 163, 439, 440, 441, 442, 443, 444, 445, 446, 447, 368, 369, 370, 371, 372, 373, 448, 449, 450, 451, 452, 453, 454, 455, 48, 50, 51, 456, 457, 458, 459, 460, 367, 683, 684, 685, 686, 687, 709, 710, 711, 712, 713, 714, 715, 719, 720, 721, 722, 723, 724, 725, 726, 727] rfl (by decide +kernel)
set_option maxRecDepth 20000 in
theorem gL_law_X4_both : GoodIn wsL_law (wsV RL 116 RX4 yX4_both wsX4_both) := goodIn_app (goodIn_of _ (by decide +kernel)) ggL_law_X4_both
set_option maxRecDepth 20000 in
theorem ggL_law_X5_both : GoodIn wsL_law wsX5_both := goodIn_r _ [674, 534, 535, 5, 536, 195, 196, 197, 483, 484, 485, 486, 487, 470, 471, 472, 473, 171, 474, 175, 176, 177, 488, 489, 490, 491, 492, 493, 178, 180, 181, 179, 494, 495, 496, 497, 264, 265, 266, 475, 476, 477, 478, 498, 499, 500, 501, 502, 503, 504, 505, 382, 383, 384, 506, 507, 508, 509, 510, 511, 512, 513, 514, 688, 689, 690, 691, 692, 693, 694, 695, 696, 697, 698, 699, 700, 701, 702, 703, 704, 705, 706] rfl (by decide +kernel)
set_option maxRecDepth 20000 in
theorem gL_law_X5_both : GoodIn wsL_law (wsV RL 119 RX5 yX5_both wsX5_both) := goodIn_app (goodIn_of _ (by decide +kernel)) ggL_law_X5_both
set_option maxRecDepth 20000 in
theorem ggL_law_X4_count : GoodIn wsL_law wsX4_count := goodIn_r _ [678, 19, 24, 15, 140, 18, 141, 142, 143, 144, 145, 146, 115, 37, 147, 148, 149, 150, 38, 367, 368, 369, 370, 371, 372, 373, 683, 684, 685, 686, 687, 709, 710, 711, 712, 713, 714, 715, 716, 717, 718, 707, 708] rfl (by decide +kernel)
set_option maxRecDepth 20000 in
theorem gL_law_X4_count : GoodIn wsL_law (wsV RL 120 RX4 yX4_count wsX4_count) := goodIn_app (goodIn_of _ (by decide +kernel)) ggL_law_X4_count
set_option maxRecDepth 20000 in
theorem ggL_law_X5_count : GoodIn wsL_law wsX5_count := goodIn_r _ [682, 171, 286, 194, 312, 313, 314, 5, 315, 382, 383, 384, 688, 689, 690, 691, 692, 693, 694, 695, 696, 697, 698, 699, 700, 701, 702, 703, 704, 705, 706] rfl (by decide +kernel)
set_option maxRecDepth 20000 in
theorem gL_law_X5_count : GoodIn wsL_law (wsV RL 123 RX5 yX5_count wsX5_count) := goodIn_app (goodIn_of _ (by decide +kernel)) ggL_law_X5_count
