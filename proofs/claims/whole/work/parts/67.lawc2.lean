set_option maxRecDepth 20000 in
theorem ggL_law_X4_member : GoodIn wsL_law wsX4_member := goodIn_r _ [526, 28, 19, 527, 528, 2, 529, 425, 27, 426, 427, 428, 429, 430, 431, 432, 433, 434, 54, 52, 418, 18, 419, 420, 143, 144, 145, 146, 115, 37, 147, 148, 149, 150, 38, 435, 436, 437, 438, 53, 162, 163, 439, 440, 441, 442, 443, 444, 445, 446, 447, 368, 369, 370, 371, 372, 373, 448, 449, 450, 451, 452, 453, 454, 455, 48, 50, 51, 456, 457, 458, 459, 460, 683, 684, 685, 686, 687, 719, 720, 721, 722, 723, 724, 725, 726, 727, 709, 710, 711, 712, 713, 714, 715] rfl (by decide +kernel)
set_option maxRecDepth 20000 in
theorem gL_law_X4_member : GoodIn wsL_law (wsV RL 68 RX4 yX4_member wsX4_member) := goodIn_app (goodIn_of _ (by decide +kernel)) ggL_law_X4_member
set_option maxRecDepth 20000 in
theorem ggL_law_X5_member : GoodIn wsL_law wsX5_member := goodIn_r _ [533, 492, 179, 534, 535, 5, 536, 195, 196, 197, 483, 484, 485, 486, 487, 470, 471, 472, 473, 171, 474, 175, 176, 177, 488, 489, 490, 491, 493, 178, 180, 181, 494, 495, 496, 497, 264, 265, 266, 475, 476, 477, 478, 498, 499, 500, 501, 502, 503, 504, 505, 382, 383, 384, 506, 507, 508, 509, 510, 511, 512, 513, 514, 688, 689, 690, 691, 692, 693, 694, 695, 696, 697, 698, 699, 700, 701, 702, 703, 704, 705, 706] rfl (by decide +kernel)
set_option maxRecDepth 20000 in
theorem gL_law_X5_member : GoodIn wsL_law (wsV RL 71 RX5 yX5_member wsX5_member) := goodIn_app (goodIn_of _ (by decide +kernel)) ggL_law_X5_member
set_option maxRecDepth 20000 in
theorem ggL_law_X4_members : GoodIn wsL_law wsX4_members := goodIn_r _ [540, 28, 19, 527, 528, 2, 529, 425, 27, 426, 427, 428, 429, 430, 431, 432, 433, 434, 54, 52, 418, 18, 419, 420, 143, 144, 145, 146, 115, 37, 147, 148, 149, 150, 38, 435, 436, 437, 438, 53, 162, 163, 439, 440, 441, 442, 443, 444, 445, 446, 447, 368, 369, 370, 371, 372, 373, 448, 449, 450, 451, 452, 453, 454, 455, 48, 50, 51, 456, 457, 458, 459, 460, 683, 684, 685, 686, 687, 709, 710, 711, 712, 713, 714, 715, 719, 720, 721, 722, 723, 724, 725, 726, 727] rfl (by decide +kernel)
set_option maxRecDepth 20000 in
theorem gL_law_X4_members : GoodIn wsL_law (wsV RL 72 RX4 yX4_members wsX4_members) := goodIn_app (goodIn_of _ (by decide +kernel)) ggL_law_X4_members
set_option maxRecDepth 20000 in
theorem ggL_law_X5_members : GoodIn wsL_law wsX5_members := goodIn_r _ [544, 534, 535, 5, 536, 195, 196, 197, 483, 484, 485, 486, 487, 470, 471, 472, 473, 171, 474, 175, 176, 177, 488, 489, 490, 491, 492, 493, 178, 180, 181, 179, 494, 495, 496, 497, 264, 265, 266, 475, 476, 477, 478, 498, 499, 500, 501, 502, 503, 504, 505, 382, 383, 384, 506, 507, 508, 509, 510, 511, 512, 513, 514, 688, 689, 690, 691, 692, 693, 694, 695, 696, 697, 698, 699, 700, 701, 702, 703, 704, 705, 706] rfl (by decide +kernel)
set_option maxRecDepth 20000 in
theorem gL_law_X5_members : GoodIn wsL_law (wsV RL 75 RX5 yX5_members wsX5_members) := goodIn_app (goodIn_of _ (by decide +kernel)) ggL_law_X5_members
set_option maxRecDepth 20000 in
theorem ggL_law_X4_came : GoodIn wsL_law wsX4_came := goodIn_r _ [548, 549, 28, 19, 550, 527, 528, 2, 529, 551, 552, 553, 425, 27, 426, 427, 428, 429, 430, 431, 432, 433, 434, 54, 52, 418, 18, 419, 420, 143, 144, 145, 146, 115, 37, 147, 148, 149, 150, 38, 435, 436, 437, 438, 53, 162, 163, 439, 440, 441, 442, 443, 444, 445, 446, 447, 368, 369, 370, 371, 372, 373, 448, 449, 450, 451, 452, 453, 454, 455, 48, 50, 51, 456, 457, 458, 459, 460, 554, 555, 556, 557, 558, 302, 559, 560, 561, 562, 683, 684, 685, 686, 687, 719, 720, 721, 722, 723, 724, 725, 726, 727, 709, 710, 711, 712, 713, 714, 715] rfl (by decide +kernel)
set_option maxRecDepth 20000 in
theorem gL_law_X4_came : GoodIn wsL_law (wsV RL 76 RX4 yX4_came wsX4_came) := goodIn_app (goodIn_of _ (by decide +kernel)) ggL_law_X4_came
set_option maxRecDepth 20000 in
theorem ggL_law_X5_came : GoodIn wsL_law wsX5_came := goodIn_r _ [566, 567, 492, 181, 180, 568, 534, 535, 5, 536, 195, 196, 197, 569, 570, 571, 470, 471, 472, 473, 171, 474, 175, 176, 177, 488, 489, 490, 491, 487, 493, 178, 179, 494, 495, 496, 497, 264, 265, 266, 475, 476, 477, 478, 498, 499, 500, 501, 502, 503, 504, 505, 382, 383, 384, 506, 507, 508, 509, 510, 511, 512, 513, 514, 572, 573, 574, 688, 689, 690, 691, 692, 693, 694, 695, 696, 697, 698, 699, 700, 701, 702, 703, 704, 705, 706] rfl (by decide +kernel)
set_option maxRecDepth 20000 in
theorem gL_law_X5_came : GoodIn wsL_law (wsV RL 80 RX5 yX5_came wsX5_came) := goodIn_app (goodIn_of _ (by decide +kernel)) ggL_law_X5_came
set_option maxRecDepth 20000 in
theorem ggL_law_X4_load : GoodIn wsL_law wsX4_load := goodIn_r _ [578, 549, 28, 19, 324, 325, 326, 2, 327, 551, 552, 553, 425, 27, 426, 427, 428, 429, 430, 431, 432, 433, 434, 54, 52, 418, 18, 419, 420, 143, 144, 145, 146, 115, 37, 147, 148, 149, 150, 38, 435, 436, 437, 438, 53, 162, 163, 439, 440, 441, 442, 443, 444, 445, 446, 447, 368, 369, 370, 371, 372, 373, 448, 449, 450, 451, 452, 453, 454, 455, 48, 50, 51, 456, 457, 458, 459, 460, 554, 555, 556, 557, 558, 302, 559, 560, 561, 562, 683, 684, 685, 686, 687, 719, 720, 721, 722, 723, 724, 725, 726, 727, 709, 710, 711, 712, 713, 714, 715] rfl (by decide +kernel)
set_option maxRecDepth 20000 in
theorem gL_law_X4_load : GoodIn wsL_law (wsV RL 81 RX4 yX4_load wsX4_load) := goodIn_app (goodIn_of _ (by decide +kernel)) ggL_law_X4_load
set_option maxRecDepth 20000 in
theorem ggL_law_X5_load : GoodIn wsL_law wsX5_load := goodIn_r _ [582, 567, 178, 493, 332, 333, 334, 5, 335, 171, 195, 196, 197, 569, 570, 571, 470, 471, 472, 473, 474, 175, 176, 177, 488, 489, 490, 491, 492, 487, 180, 181, 179, 494, 495, 496, 497, 264, 265, 266, 475, 476, 477, 478, 498, 499, 500, 501, 502, 503, 504, 505, 382, 383, 384, 506, 507, 508, 509, 510, 511, 512, 513, 514, 572, 573, 574, 688, 689, 690, 691, 692, 693, 694, 695, 696, 697, 698, 699, 700, 701, 702, 703, 704, 705, 706] rfl (by decide +kernel)
set_option maxRecDepth 20000 in
theorem gL_law_X5_load : GoodIn wsL_law (wsV RL 85 RX5 yX5_load wsX5_load) := goodIn_app (goodIn_of _ (by decide +kernel)) ggL_law_X5_load
set_option maxRecDepth 20000 in
theorem ggL_law_X4_greatest : GoodIn wsL_law wsX4_greatest := goodIn_r _ [586, 549, 28, 19, 557, 558, 302, 559, 551, 552, 2, 553, 425, 27, 426, 427, 428, 429, 430, 431, 432, 433, 434, 54, 52, 418, 18, 419, 420, 143, 144, 145, 146, 115, 37, 147, 148, 149, 150, 38, 435, 436, 437, 438, 53, 162, 163, 439, 440, 441, 442, 443, 444, 445, 446, 447, 368, 369, 370, 371, 372, 373, 448, 449, 450, 451, 452, 453, 454, 455, 48, 50, 51, 456, 457, 458, 459, 460, 554, 555, 556, 560, 561, 562, 683, 684, 685, 686, 687, 709, 710, 711, 712, 713, 714, 715, 719, 720, 721, 722, 723, 724, 725, 726, 727] rfl (by decide +kernel)
set_option maxRecDepth 20000 in
theorem gL_law_X4_greatest : GoodIn wsL_law (wsV RL 86 RX4 yX4_greatest wsX4_greatest) := goodIn_app (goodIn_of _ (by decide +kernel)) ggL_law_X4_greatest
set_option maxRecDepth 20000 in
theorem ggL_law_X5_greatest : GoodIn wsL_law wsX5_greatest := goodIn_r _ [590, 567, 474, 178, 493, 569, 570, 5, 571, 195, 196, 197, 470, 471, 472, 473, 171, 175, 176, 177, 488, 489, 490, 491, 492, 487, 180, 181, 179, 494, 495, 496, 497, 264, 265, 266, 475, 476, 477, 478, 498, 499, 500, 501, 502, 503, 504, 505, 382, 383, 384, 506, 507, 508, 509, 510, 511, 512, 513, 514, 572, 573, 574, 688, 689, 690, 691, 692, 693, 694, 695, 696, 697, 698, 699, 700, 701, 702, 703, 704, 705, 706] rfl (by decide +kernel)
set_option maxRecDepth 20000 in
theorem gL_law_X5_greatest : GoodIn wsL_law (wsV RL 90 RX5 yX5_greatest wsX5_greatest) := goodIn_app (goodIn_of _ (by decide +kernel)) ggL_law_X5_greatest
set_option maxRecDepth 20000 in
theorem ggL_law_X4_agrees : GoodIn wsL_law wsX4_agrees := goodIn_r _ [594, 19, 28, 292, 293, 294, 2, 295, 144, 18, 145, 146, 115, 37, 147, 148, 149, 150, 38, 595, 596, 597, 116, 143, 598, 368, 369, 370, 371, 372, 373, 599, 140, 141, 142, 425, 27, 426, 427, 428, 429, 430, 431, 432, 433, 434, 54, 52, 418, 419, 420, 435, 436, 437, 438, 53, 162, 163, 439, 440, 441, 442, 443, 444, 445, 446, 447, 448, 449, 450, 451, 452, 453, 454, 455, 48, 50, 51, 456, 457, 458, 459, 460, 600, 601, 602, 367, 683, 684, 685, 686, 687, 709, 710, 711, 712, 713, 714, 715, 719, 720, 721, 722, 723, 724, 725, 726, 727] rfl (by decide +kernel)
set_option maxRecDepth 20000 in
theorem gL_law_X4_agrees : GoodIn wsL_law (wsV RL 91 RX4 yX4_agrees wsX4_agrees) := goodIn_app (goodIn_of _ (by decide +kernel)) ggL_law_X4_agrees
set_option maxRecDepth 20000 in
theorem ggL_law_X5_agrees : GoodIn wsL_law wsX5_agrees := goodIn_r _ [606, 308, 309, 310, 5, 311, 171, 195, 196, 197, 607, 608, 609, 610, 611, 612, 613, 614, 382, 383, 384, 312, 313, 314, 315, 615, 616, 617, 618, 483, 484, 485, 486, 487, 470, 471, 472, 473, 474, 175, 176, 177, 488, 489, 490, 491, 492, 493, 178, 180, 181, 179, 494, 495, 496, 497, 264, 265, 266, 475, 476, 477, 478, 498, 499, 500, 501, 502, 503, 504, 505, 506, 507, 508, 509, 510, 511, 512, 513, 514, 688, 689, 690, 691, 692, 693, 694, 695, 696, 697, 698, 699, 700, 701, 702, 703, 704, 705, 706] rfl (by decide +kernel)
set_option maxRecDepth 20000 in
theorem gL_law_X5_agrees : GoodIn wsL_law (wsV RL 94 RX5 yX5_agrees wsX5_agrees) := goodIn_app (goodIn_of _ (by decide +kernel)) ggL_law_X5_agrees
set_option maxRecDepth 20000 in
theorem ggL_law_X4_shorts : GoodIn wsL_law wsX4_shorts := goodIn_r _ [622, 28, 19, 527, 528, 2, 529, 425, 27, 426, 427, 428, 429, 430, 431, 432, 433, 434, 54, 52, 418, 18, 419, 420, 143, 144, 145, 146, 115, 37, 147, 148, 149, 150, 38, 435, 436, 437, 438, 53, 162, 163, 439, 440, 441, 442, 443, 444, 445, 446, 447, 368, 369, 370, 371, 372, 373, 448, 449, 450, 451, 452, 453, 454, 455, 48, 50, 51, 456, 457, 458, 459, 460, 623, 624, 625, 626, 595, 596, 597, 116, 598, 599, 140, 141, 142, 627, 600, 601, 602, 683, 684, 685, 686, 687, 709, 710, 711, 712, 713, 714, 715, 719, 720, 721, 722, 723, 724, 725, 726, 727] rfl (by decide +kernel)
set_option maxRecDepth 20000 in
theorem gL_law_X4_shorts : GoodIn wsL_law (wsV RL 95 RX4 yX4_shorts wsX4_shorts) := goodIn_app (goodIn_of _ (by decide +kernel)) ggL_law_X4_shorts
set_option maxRecDepth 20000 in
theorem ggL_law_X5_shorts : GoodIn wsL_law wsX5_shorts := goodIn_r _ [631, 171, 534, 535, 5, 536, 195, 196, 197, 483, 484, 485, 486, 487, 470, 471, 472, 473, 474, 175, 176, 177, 488, 489, 490, 491, 492, 493, 178, 180, 181, 179, 494, 495, 496, 497, 264, 265, 266, 475, 476, 477, 478, 498, 499, 500, 501, 502, 503, 504, 505, 382, 383, 384, 506, 507, 508, 509, 510, 511, 512, 513, 514, 611, 612, 613, 614, 607, 608, 609, 610, 312, 313, 314, 315, 615, 616, 617, 618, 688, 689, 690, 691, 692, 693, 694, 695, 696, 697, 698, 699, 700, 701, 702, 703, 704, 705, 706] rfl (by decide +kernel)
set_option maxRecDepth 20000 in
theorem gL_law_X5_shorts : GoodIn wsL_law (wsV RL 98 RX5 yX5_shorts wsX5_shorts) := goodIn_app (goodIn_of _ (by decide +kernel)) ggL_law_X5_shorts
