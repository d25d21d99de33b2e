set_option maxRecDepth 20000 in
theorem ggL_law_X4_init : GoodIn wsL_law wsX4_init := goodIn_r _ [8, 9, 10, 11, 12, 13, 14, 15, 16, 17, 18, 19, 20, 21, 22, 23, 24, 25, 26, 27, 28, 29, 30, 31, 32, 33, 34, 35, 36, 37, 38, 39, 40, 41, 42, 43, 44, 45, 46, 47, 48, 49, 50, 51, 52, 53, 54, 55, 56, 57, 58, 59, 60, 61, 62, 63, 64, 65, 66, 67, 68, 69, 70, 71, 72, 73, 74, 75, 76, 77, 78, 79, 80, 81, 82, 83, 84, 85, 86, 87, 88, 89, 90, 91, 92, 93, 94, 95, 96, 97, 98, 99, 100, 101, 102, 103, 104, 105, 106, 107, 108, 109, 110, 111, 112, 113, 114, 115, 116, 117, 118, 119, 120, 121, 122, 123, 124, 125, 126, 127, 128, 129, 130, 131, 132, 133, 134, 135, 136, 137, 138, 2, 139, 140, 141, 142, 143, 144, 145, 146, 147, 148, 149, 150, 151, 152, 153, 154, 155, 156, 157, 158, 159, 160, 161, 162, 163, 164, 165, 166, 707, 708, 683, 684, 685, 686, 687, 709, 710, 711, 712, 713, 714, 715, 716, 717, 718, 719, 720, 721, 722, 723, 724, 725, 726, 727] rfl (by decide +kernel)
set_option maxRecDepth 20000 in
theorem gL_law_X4_init : GoodIn wsL_law (wsX4_init) := ggL_law_X4_init
set_option maxRecDepth 20000 in
theorem ggL_law_X5_init : GoodIn wsL_law wsX5_init := goodIn_r _ [169, 170, 10, 11, 32, 171, 172, 173, 174, 175, 176, 177, 49, 178, 179, 180, 181, 182, 183, 184, 5, 185, 688, 689, 690, 691, 692, 693, 694, 695, 696, 697, 698, 699, 700, 701, 702, 703, 704, 705, 706] rfl (by decide +kernel)
set_option maxRecDepth 20000 in
theorem gL_law_X5_init : GoodIn wsL_law (wsX5_init) := ggL_law_X5_init
set_option maxRecDepth 20000 in
theorem ggL_law_X4_write : GoodIn wsL_law wsX4_write := goodIn_r _ [189, 15, 104, 14, 105, 106, 107, 33, 683, 684, 685, 686, 687, 707, 708] rfl (by decide +kernel)
set_option maxRecDepth 20000 in
theorem gL_law_X4_write : GoodIn wsL_law (wsV RL 13 RX4 yX4_write wsX4_write) := goodIn_app (goodIn_of _ (by decide +kernel)) ggL_law_X4_write
set_option maxRecDepth 20000 in
theorem ggL_law_X5_write : GoodIn wsL_law wsX5_write := goodIn_r _ [193, 194, 174, 195, 196, 5, 197, 688, 689, 690, 691, 692, 693, 694, 695, 696, 697, 698, 699, 700, 701, 702, 703, 704, 705, 706] rfl (by decide +kernel)
set_option maxRecDepth 20000 in
theorem gL_law_X5_write : GoodIn wsL_law (wsV RL 17 RX5 yX5_write wsX5_write) := goodIn_app (goodIn_of _ (by decide +kernel)) ggL_law_X5_write
set_option maxRecDepth 20000 in
theorem ggL_law_X4_wipe : GoodIn wsL_law wsX4_wipe := goodIn_r _ [201, 15, 164, 14, 165, 166, 107, 683, 684, 685, 686, 687, 707, 708] rfl (by decide +kernel)
set_option maxRecDepth 20000 in
theorem gL_law_X4_wipe : GoodIn wsL_law (wsV RL 18 RX4 yX4_wipe wsX4_wipe) := goodIn_app (goodIn_of _ (by decide +kernel)) ggL_law_X4_wipe
set_option maxRecDepth 20000 in
theorem ggL_law_X5_wipe : GoodIn wsL_law wsX5_wipe := goodIn_r _ [205, 194, 688, 689, 690, 691, 692, 693, 694, 695, 696, 697, 698, 699, 700, 701, 702, 703, 704, 705, 706] rfl (by decide +kernel)
set_option maxRecDepth 20000 in
theorem gL_law_X5_wipe : GoodIn wsL_law (wsV RL 22 RX5 yX5_wipe wsX5_wipe) := goodIn_app (goodIn_of _ (by decide +kernel)) ggL_law_X5_wipe
set_option maxRecDepth 20000 in
theorem ggL_law_X4_fault : GoodIn wsL_law wsX4_fault := goodIn_r _ [209, 15, 20, 108, 14, 109, 110, 107, 33, 111, 18, 112, 113, 114, 115, 116, 117, 39, 118, 119, 120, 121, 122, 123, 124, 125, 126, 127, 128, 129, 130, 131, 132, 133, 134, 135, 136, 137, 138, 2, 139, 140, 141, 142, 143, 144, 145, 146, 37, 147, 148, 149, 150, 38, 151, 152, 153, 154, 155, 156, 157, 158, 159, 160, 161, 162, 163, 683, 684, 685, 686, 687, 707, 708, 709, 710, 711, 712, 713, 714, 715] rfl (by decide +kernel)
set_option maxRecDepth 20000 in
theorem gL_law_X4_fault : GoodIn wsL_law (wsV RL 23 RX4 yX4_fault wsX4_fault) := goodIn_app (goodIn_of _ (by decide +kernel)) ggL_law_X4_fault
set_option maxRecDepth 20000 in
theorem ggL_law_X5_fault : GoodIn wsL_law wsX5_fault := goodIn_r _ [213, 214, 215, 216, 5, 217, 172, 218, 194, 219, 220, 221, 222, 223, 224, 225, 226, 174, 227, 228, 229, 230, 231, 232, 233, 234, 235, 195, 196, 197, 236, 237, 238, 239, 240, 241, 242, 243, 244, 245, 246, 247, 248, 249, 250, 251, 252, 253, 254, 255, 256, 257, 258, 259, 260, 261, 262, 263, 264, 265, 266, 688, 689, 690, 691, 692, 693, 694, 695, 696, 697, 698, 699, 700, 701, 702, 703, 704, 705, 706] rfl (by decide +kernel)
set_option maxRecDepth 20000 in
theorem gL_law_X5_fault : GoodIn wsL_law (wsV RL 26 RX5 yX5_fault wsX5_fault) := goodIn_app (goodIn_of _ (by decide +kernel)) ggL_law_X5_fault
set_option maxRecDepth 20000 in
theorem ggL_law_X4_lay : GoodIn wsL_law wsX4_lay := goodIn_r _ [270, 15, 20, 19, 24, 108, 14, 109, 110, 107, 33, 111, 18, 112, 113, 114, 115, 116, 117, 39, 118, 119, 120, 121, 122, 123, 124, 125, 126, 127, 128, 129, 130, 131, 132, 133, 134, 135, 136, 137, 138, 2, 139, 140, 141, 142, 143, 144, 145, 146, 37, 147, 148, 149, 150, 38, 151, 152, 153, 154, 155, 156, 157, 158, 159, 160, 161, 162, 163, 271, 272, 273, 274, 275, 276, 277, 278, 23, 279, 280, 281, 683, 684, 685, 686, 687, 709, 710, 711, 712, 713, 714, 715, 707, 708, 716, 717, 718] rfl (by decide +kernel)
set_option maxRecDepth 20000 in
theorem gL_law_X4_lay : GoodIn wsL_law (wsV RL 27 RX4 yX4_lay wsX4_lay) := goodIn_app (goodIn_of _ (by decide +kernel)) ggL_law_X4_lay
set_option maxRecDepth 20000 in
theorem ggL_law_X5_lay : GoodIn wsL_law wsX5_lay := goodIn_r _ [285, 172, 171, 286, 214, 215, 216, 5, 217, 218, 194, 219, 220, 221, 222, 223, 224, 225, 226, 174, 227, 228, 229, 230, 231, 232, 233, 234, 235, 195, 196, 197, 236, 237, 238, 239, 240, 241, 242, 243, 244, 245, 246, 247, 248, 249, 250, 251, 252, 253, 254, 255, 256, 257, 258, 259, 260, 261, 262, 263, 264, 265, 266, 688, 689, 690, 691, 692, 693, 694, 695, 696, 697, 698, 699, 700, 701, 702, 703, 704, 705, 706] rfl (by decide +kernel)
set_option maxRecDepth 20000 in
theorem gL_law_X5_lay : GoodIn wsL_law (wsV RL 30 RX5 yX5_lay wsX5_lay) := goodIn_app (goodIn_of _ (by decide +kernel)) ggL_law_X5_lay
set_option maxRecDepth 20000 in
theorem ggL_law_X4_ballot : GoodIn wsL_law wsX4_ballot := goodIn_r _ [290, 19, 24, 291, 138, 2, 139, 292, 293, 294, 295, 140, 18, 141, 142, 143, 144, 145, 146, 115, 37, 147, 148, 149, 150, 38, 296, 23, 297, 298, 44, 299, 281, 300, 301, 302, 303, 271, 272, 273, 114, 116, 117, 274, 275, 276, 277, 39, 151, 152, 153, 683, 684, 685, 686, 687, 709, 710, 711, 712, 713, 714, 715, 716, 717, 718] rfl (by decide +kernel)
set_option maxRecDepth 20000 in
theorem gL_law_X4_ballot : GoodIn wsL_law (wsV RL 31 RX4 yX4_ballot wsX4_ballot) := goodIn_app (goodIn_of _ (by decide +kernel)) ggL_law_X4_ballot
set_option maxRecDepth 20000 in
theorem ggL_law_X5_ballot : GoodIn wsL_law wsX5_ballot := goodIn_r _ [307, 171, 195, 196, 5, 197, 308, 309, 310, 311, 312, 313, 314, 315, 316, 317, 318, 319, 286, 173, 182, 183, 184, 185, 688, 689, 690, 691, 692, 693, 694, 695, 696, 697, 698, 699, 700, 701, 702, 703, 704, 705, 706] rfl (by decide +kernel)
set_option maxRecDepth 20000 in
theorem gL_law_X5_ballot : GoodIn wsL_law (wsV RL 35 RX5 yX5_ballot wsX5_ballot) := goodIn_app (goodIn_of _ (by decide +kernel)) ggL_law_X5_ballot
set_option maxRecDepth 20000 in
theorem ggL_law_X4_voters : GoodIn wsL_law wsX4_voters := goodIn_r _ [323, 19, 24, 324, 325, 326, 2, 327, 291, 138, 139, 140, 18, 141, 142, 143, 144, 145, 146, 115, 37, 147, 148, 149, 150, 38, 296, 23, 297, 298, 44, 299, 281, 300, 301, 302, 303, 271, 272, 273, 114, 116, 117, 274, 275, 276, 277, 39, 683, 684, 685, 686, 687, 709, 710, 711, 712, 713, 714, 715, 716, 717, 718] rfl (by decide +kernel)
set_option maxRecDepth 20000 in
theorem gL_law_X4_voters : GoodIn wsL_law (wsV RL 36 RX4 yX4_voters wsX4_voters) := goodIn_app (goodIn_of _ (by decide +kernel)) ggL_law_X4_voters
set_option maxRecDepth 20000 in
theorem ggL_law_X5_voters : GoodIn wsL_law wsX5_voters := goodIn_r _ [331, 171, 332, 333, 334, 5, 335, 195, 196, 197, 312, 313, 314, 315, 336, 337, 338, 339, 316, 317, 318, 319, 286, 173, 688, 689, 690, 691, 692, 693, 694, 695, 696, 697, 698, 699, 700, 701, 702, 703, 704, 705, 706] rfl (by decide +kernel)
set_option maxRecDepth 20000 in
theorem gL_law_X5_voters : GoodIn wsL_law (wsV RL 39 RX5 yX5_voters wsX5_voters) := goodIn_app (goodIn_of _ (by decide +kernel)) ggL_law_X5_voters
