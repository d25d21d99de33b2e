set_option maxRecDepth 20000 in
theorem ggL_law_X4_approve : GoodIn wsL_law wsX4_approve := goodIn_r _ [343, 19, 24, 324, 325, 326, 2, 327, 292, 293, 294, 295, 296, 23, 297, 298, 44, 299, 281, 300, 301, 302, 303, 271, 18, 272, 273, 114, 115, 116, 117, 37, 274, 275, 276, 277, 38, 39, 683, 684, 685, 686, 687, 709, 710, 711, 712, 713, 714, 715, 716, 717, 718] rfl (by decide +kernel)
set_option maxRecDepth 20000 in
theorem gL_law_X4_approve : GoodIn wsL_law (wsV RL 40 RX4 yX4_approve wsX4_approve) := goodIn_app (goodIn_of _ (by decide +kernel)) ggL_law_X4_approve
set_option maxRecDepth 20000 in
theorem ggL_law_X5_approve : GoodIn wsL_law wsX5_approve := goodIn_r _ [347, 171, 332, 333, 334, 5, 335, 195, 196, 197, 308, 309, 310, 311, 336, 337, 338, 339, 316, 317, 318, 319, 286, 173, 688, 689, 690, 691, 692, 693, 694, 695, 696, 697, 698, 699, 700, 701, 702, 703, 704, 705, 706] rfl (by decide +kernel)
set_option maxRecDepth 20000 in
theorem gL_law_X5_approve : GoodIn wsL_law (wsV RL 43 RX5 yX5_approve wsX5_approve) := goodIn_app (goodIn_of _ (by decide +kernel)) ggL_law_X5_approve
set_option maxRecDepth 20000 in
theorem ggL_law_X4_seats : GoodIn wsL_law wsX4_seats := goodIn_r _ [351, 19, 24, 296, 23, 297, 298, 44, 299, 281, 300, 301, 302, 303, 271, 18, 272, 273, 114, 115, 116, 117, 37, 274, 275, 276, 277, 38, 39, 683, 684, 685, 686, 687, 709, 710, 711, 712, 713, 714, 715, 716, 717, 718] rfl (by decide +kernel)
set_option maxRecDepth 20000 in
theorem gL_law_X4_seats : GoodIn wsL_law (wsV RL 44 RX4 yX4_seats wsX4_seats) := goodIn_app (goodIn_of _ (by decide +kernel)) ggL_law_X4_seats
set_option maxRecDepth 20000 in
theorem ggL_law_X5_seats : GoodIn wsL_law wsX5_seats := goodIn_r _ [355, 171, 195, 196, 5, 197, 336, 337, 338, 339, 316, 317, 318, 319, 286, 173, 688, 689, 690, 691, 692, 693, 694, 695, 696, 697, 698, 699, 700, 701, 702, 703, 704, 705, 706] rfl (by decide +kernel)
set_option maxRecDepth 20000 in
theorem gL_law_X5_seats : GoodIn wsL_law (wsV RL 47 RX5 yX5_seats wsX5_seats) := goodIn_app (goodIn_of _ (by decide +kernel)) ggL_law_X5_seats
set_option maxRecDepth 20000 in
theorem ggL_law_X4_withdraw : GoodIn wsL_law wsX4_withdraw := goodIn_r _ [359, 19, 24, 360, 361, 362, 2, 363, 364, 18, 365, 366, 117, 162, 163, 296, 23, 297, 298, 44, 299, 281, 300, 301, 302, 303, 271, 272, 273, 114, 115, 116, 37, 274, 275, 276, 277, 38, 39, 367, 368, 369, 370, 371, 372, 373, 683, 684, 685, 686, 687, 709, 710, 711, 712, 713, 714, 715, 716, 717, 718] rfl (by decide +kernel)
set_option maxRecDepth 20000 in
theorem gL_law_X4_withdraw : GoodIn wsL_law (wsV RL 48 RX4 yX4_withdraw wsX4_withdraw) := goodIn_app (goodIn_of _ (by decide +kernel)) ggL_law_X4_withdraw
set_option maxRecDepth 20000 in
theorem ggL_law_X5_withdraw : GoodIn wsL_law wsX5_withdraw := goodIn_r _ [377, 171, 378, 379, 380, 5, 381, 195, 196, 197, 264, 265, 266, 336, 337, 338, 339, 316, 317, 318, 319, 286, 173, 382, 383, 384, 688, 689, 690, 691, 692, 693, 694, 695, 696, 697, 698, 699, 700, 701, 702, 703, 704, 705, 706] rfl (by decide +kernel)
set_option maxRecDepth 20000 in
theorem gL_law_X5_withdraw : GoodIn wsL_law (wsV RL 51 RX5 yX5_withdraw wsX5_withdraw) := goodIn_app (goodIn_of _ (by decide +kernel)) ggL_law_X5_withdraw
set_option maxRecDepth 20000 in
theorem ggL_law_X4_prefer : GoodIn wsL_law wsX4_prefer := goodIn_r _ [388, 19, 24, 360, 361, 362, 2, 363, 389, 18, 390, 391, 114, 39, 296, 23, 297, 298, 44, 299, 281, 300, 301, 302, 303, 271, 272, 273, 115, 116, 117, 37, 274, 275, 276, 277, 38, 392, 393, 394, 683, 684, 685, 686, 687, 709, 710, 711, 712, 713, 714, 715, 716, 717, 718] rfl (by decide +kernel)
set_option maxRecDepth 20000 in
theorem gL_law_X4_prefer : GoodIn wsL_law (wsV RL 52 RX4 yX4_prefer wsX4_prefer) := goodIn_app (goodIn_of _ (by decide +kernel)) ggL_law_X4_prefer
set_option maxRecDepth 20000 in
theorem ggL_law_X5_prefer : GoodIn wsL_law wsX5_prefer := goodIn_r _ [398, 171, 378, 379, 380, 5, 381, 195, 196, 197, 399, 400, 401, 402, 316, 317, 318, 319, 286, 173, 688, 689, 690, 691, 692, 693, 694, 695, 696, 697, 698, 699, 700, 701, 702, 703, 704, 705, 706] rfl (by decide +kernel)
set_option maxRecDepth 20000 in
theorem gL_law_X5_prefer : GoodIn wsL_law (wsV RL 55 RX5 yX5_prefer wsX5_prefer) := goodIn_app (goodIn_of _ (by decide +kernel)) ggL_law_X5_prefer
set_option maxRecDepth 20000 in
theorem ggL_law_X4_undo : GoodIn wsL_law wsX4_undo := goodIn_r _ [406, 24, 19, 407, 23, 408, 409, 299, 281, 44, 271, 18, 272, 273, 114, 115, 116, 117, 37, 274, 275, 276, 277, 38, 39, 683, 684, 685, 686, 687, 716, 717, 718, 709, 710, 711, 712, 713, 714, 715] rfl (by decide +kernel)
set_option maxRecDepth 20000 in
theorem gL_law_X4_undo : GoodIn wsL_law (wsV RL 56 RX4 yX4_undo wsX4_undo) := goodIn_app (goodIn_of _ (by decide +kernel)) ggL_law_X4_undo
set_option maxRecDepth 20000 in
theorem ggL_law_X5_undo : GoodIn wsL_law wsX5_undo := goodIn_r _ [413, 286, 171, 173, 688, 689, 690, 691, 692, 693, 694, 695, 696, 697, 698, 699, 700, 701, 702, 703, 704, 705, 706] rfl (by decide +kernel)
set_option maxRecDepth 20000 in
theorem gL_law_X5_undo : GoodIn wsL_law (wsV RL 59 RX5 yX5_undo wsX5_undo) := goodIn_app (goodIn_of _ (by decide +kernel)) ggL_law_X5_undo
set_option maxRecDepth 20000 in
theorem ggL_law_X4_candidate : GoodIn wsL_law wsX4_candidate := goodIn_r _ [417, 19, 360, 361, 362, 2, 363, 418, 18, 419, 420, 143, 144, 145, 146, 115, 37, 147, 148, 149, 150, 38, 389, 390, 391, 114, 39, 364, 365, 366, 117, 162, 163, 421, 422, 423, 424, 28, 425, 27, 426, 427, 428, 429, 430, 431, 432, 433, 434, 54, 52, 435, 436, 437, 438, 53, 439, 440, 441, 442, 443, 444, 445, 446, 447, 368, 369, 370, 371, 372, 373, 448, 449, 450, 451, 452, 453, 454, 455, 48, 50, 51, 456, 457, 458, 459, 460, 461, 683, 684, 685, 686, 687, 709, 710, 711, 712, 713, 714, 715, 719, 720, 721, 722, 723, 724, 725, 726, 727] rfl (by decide +kernel)
set_option maxRecDepth 20000 in
theorem gL_law_X4_candidate : GoodIn wsL_law (wsV RL 60 RX4 yX4_candidate wsX4_candidate) := goodIn_app (goodIn_of _ (by decide +kernel)) ggL_law_X4_candidate
set_option maxRecDepth 20000 in
theorem ggL_law_X5_candidate : GoodIn wsL_law wsX5_candidate := goodIn_r _ [465, 378, 379, 380, 5, 381, 171, 195, 196, 197, 466, 467, 468, 469, 470, 471, 472, 473, 474, 175, 176, 177, 475, 476, 477, 478, 264, 265, 266, 399, 400, 401, 402, 479, 480, 481, 482, 483, 484, 485, 486, 487, 488, 489, 490, 491, 492, 493, 178, 180, 181, 179, 494, 495, 496, 497, 498, 499, 500, 501, 502, 503, 504, 505, 382, 383, 384, 506, 507, 508, 509, 510, 511, 512, 513, 514, 688, 689, 690, 691, 692, 693, 694, 695, 696, 697, 698, 699, 700, 701, 702, 703, 704, 705, 706] rfl (by decide +kernel)
set_option maxRecDepth 20000 in
theorem gL_law_X5_candidate : GoodIn wsL_law (wsV RL 63 RX5 yX5_candidate wsX5_candidate) := goodIn_app (goodIn_of _ (by decide +kernel)) ggL_law_X5_candidate
set_option maxRecDepth 20000 in
theorem ggL_law_X4_vote : GoodIn wsL_law wsX4_vote := goodIn_r _ [518, 19, 28, 324, 325, 326, 2, 327, 425, 27, 426, 427, 428, 429, 430, 431, 432, 433, 434, 54, 52, 418, 18, 419, 420, 143, 144, 145, 146, 115, 37, 147, 148, 149, 150, 38, 435, 436, 437, 438, 53, 162, 163, 439, 440, 441, 442, 443, 444, 445, 446, 447, 368, 369, 370, 371, 372, 373, 448, 449, 450, 451, 452, 453, 454, 455, 48, 50, 51, 456, 457, 458, 459, 460, 367, 683, 684, 685, 686, 687, 709, 710, 711, 712, 713, 714, 715, 719, 720, 721, 722, 723, 724, 725, 726, 727] rfl (by decide +kernel)
set_option maxRecDepth 20000 in
theorem gL_law_X4_vote : GoodIn wsL_law (wsV RL 64 RX4 yX4_vote wsX4_vote) := goodIn_app (goodIn_of _ (by decide +kernel)) ggL_law_X4_vote
set_option maxRecDepth 20000 in
theorem ggL_law_X5_vote : GoodIn wsL_law wsX5_vote := goodIn_r _ [522, 171, 332, 333, 334, 5, 335, 195, 196, 197, 483, 484, 485, 486, 487, 470, 471, 472, 473, 474, 175, 176, 177, 488, 489, 490, 491, 492, 493, 178, 180, 181, 179, 494, 495, 496, 497, 264, 265, 266, 475, 476, 477, 478, 498, 499, 500, 501, 502, 503, 504, 505, 382, 383, 384, 506, 507, 508, 509, 510, 511, 512, 513, 514, 688, 689, 690, 691, 692, 693, 694, 695, 696, 697, 698, 699, 700, 701, 702, 703, 704, 705, 706] rfl (by decide +kernel)
set_option maxRecDepth 20000 in
theorem gL_law_X5_vote : GoodIn wsL_law (wsV RL 67 RX5 yX5_vote wsX5_vote) := goodIn_app (goodIn_of _ (by decide +kernel)) ggL_law_X5_vote
