set_option maxRecDepth 20000 in
theorem ggL_law_L_canBeEmpty : GoodIn wsL_law wsL_canBeEmpty := goodIn_ca (goodIn_r _ [276, 180, 277, 278, 279, 2, 280, 17, 204, 205, 206, 207, 188, 189, 208, 209, 210, 16, 211, 39, 281, 282, 283, 284, 41, 285, 286, 287, 288, 42, 289, 290, 291, 292, 36, 37, 35, 293, 294, 295, 296, 297, 298, 38, 299, 693, 694, 695, 696, 726, 727, 728, 729, 730, 731, 732, 733] (by decide +kernel) (by decide +kernel)) (goodIn_sub (fun _ h => List.mem_append_right _ h) (by decide +kernel))
set_option maxRecDepth 20000 in
theorem gL_law_L_canBeEmpty : GoodIn wsL_law (va_wsS RL 94 yL_canBeEmpty wsL_canBeEmpty) := goodIn_app (goodIn_of _ (by decide +kernel)) ggL_law_L_canBeEmpty
set_option maxRecDepth 20000 in
theorem ggL_law_X6_canBeEmpty : GoodIn wsL_law wsX6_canBeEmpty := goodIn_r _ [303, 146, 114, 216, 217, 218, 5, 219, 147, 304, 305, 306, 307, 113, 99, 115, 308, 309, 310, 311, 96, 97, 98, 312, 313, 314, 315, 697, 698, 699, 700, 701, 702, 703, 704, 705, 706, 707, 708, 709, 710, 711, 712, 713, 714, 715, 716, 717, 718, 719, 720, 721, 722, 723, 724, 725] (by decide +kernel) (by decide +kernel)
set_option maxRecDepth 20000 in
theorem gL_law_X6_canBeEmpty : GoodIn wsL_law (wsV RL 96 RX6 yX6_canBeEmpty wsX6_canBeEmpty) := goodIn_app (goodIn_of _ (by decide +kernel)) ggL_law_X6_canBeEmpty
set_option maxRecDepth 20000 in
theorem ggL_law_L_isLeftRecursive : GoodIn wsL_law wsL_isLeftRecursive := goodIn_ca (goodIn_r _ [318, 180, 319, 320, 321, 2, 322, 17, 185, 186, 187, 188, 189, 323, 324, 325, 16, 326, 285, 286, 287, 288, 42, 39, 41, 289, 290, 291, 292, 36, 37, 35, 293, 294, 295, 296, 297, 298, 38, 299, 209, 210, 211, 327, 328, 329, 330, 43, 331, 332, 333, 334, 335, 336, 337, 338, 693, 694, 695, 696, 726, 727, 728, 729, 730, 731, 732, 733] (by decide +kernel) (by decide +kernel)) (goodIn_sub (fun _ h => List.mem_append_right _ h) (by decide +kernel))
set_option maxRecDepth 20000 in
theorem gL_law_L_isLeftRecursive : GoodIn wsL_law (va_wsS RL 97 yL_isLeftRecursive wsL_isLeftRecursive) := goodIn_app (goodIn_of _ (by decide +kernel)) ggL_law_L_isLeftRecursive
set_option maxRecDepth 20000 in
theorem ggL_law_X6_isLeftRecursive : GoodIn wsL_law wsX6_isLeftRecursive := goodIn_r _ [342, 146, 99, 115, 194, 195, 5, 196, 304, 305, 306, 307, 113, 147, 114, 308, 309, 310, 311, 96, 97, 98, 312, 313, 314, 315, 697, 698, 699, 700, 701, 702, 703, 704, 705, 706, 707, 708, 709, 710, 711, 712, 713, 714, 715, 716, 717, 718, 719, 720, 721, 722, 723, 724, 725] (by decide +kernel) (by decide +kernel)
set_option maxRecDepth 20000 in
theorem gL_law_X6_isLeftRecursive : GoodIn wsL_law (wsV RL 99 RX6 yX6_isLeftRecursive wsX6_isLeftRecursive) := goodIn_app (goodIn_of _ (by decide +kernel)) ggL_law_X6_isLeftRecursive
set_option maxRecDepth 20000 in
theorem ggL_law_L_replace : GoodIn wsL_law wsL_replace := goodIn_ca (goodIn_ca (goodIn_ca (goodIn_r _ [345, 180, 120, 121, 346, 347, 348, 2, 349, 188, 189, 126, 127, 132, 133, 21, 25, 350, 351, 352, 353, 354, 355, 167, 168, 169, 356, 357, 358, 359, 360, 361, 24, 362, 58, 363, 364, 365, 366, 57, 242, 243, 244, 245, 246, 247, 248, 249, 59, 367, 368, 369, 370, 371, 372, 373, 374, 375, 376, 377, 20, 378, 51, 52, 379, 380, 381, 382, 693, 694, 695, 696, 734, 735, 736, 737, 738] (by decide +kernel) (by decide +kernel)) (goodIn_sub (fun _ h => List.mem_append_right _ h) (by decide +kernel))) (goodIn_sub (fun _ h => List.mem_append_left _ (List.mem_append_left _ (List.mem_append_right _ h))) (by decide +kernel))) (goodIn_sub (fun _ h => List.mem_append_left _ (List.mem_append_right _ h)) (by decide +kernel))
set_option maxRecDepth 20000 in
theorem gL_law_L_replace : GoodIn wsL_law (va_wsS RL 102 yL_replace wsL_replace) := goodIn_app (goodIn_of _ (by decide +kernel)) ggL_law_L_replace
set_option maxRecDepth 20000 in
theorem ggL_law_X6_replace : GoodIn wsL_law wsX6_replace := goodIn_r _ [386, 146, 387, 34, 100, 148, 149, 150, 5, 151, 388, 389, 390, 391, 174, 175, 176, 392, 393, 394, 395, 40, 101, 103, 102, 104, 697, 698, 699, 700, 701, 702, 703, 704, 705, 706, 707, 708, 709, 710, 711, 712, 713, 714, 715, 716, 717, 718, 719, 720, 721, 722, 723, 724, 725] (by decide +kernel) (by decide +kernel)
set_option maxRecDepth 20000 in
theorem gL_law_X6_replace : GoodIn wsL_law (wsV RL 105 RX6 yX6_replace wsX6_replace) := goodIn_app (goodIn_of _ (by decide +kernel)) ggL_law_X6_replace
set_option maxRecDepth 20000 in
theorem ggL_law_X5_size : GoodIn wsL_law wsX5_size := goodIn_r _ [399, 21, 693, 694, 695, 696, 734, 735] (by decide +kernel) (by decide +kernel)
set_option maxRecDepth 20000 in
theorem gL_law_X5_size : GoodIn wsL_law (wsV RL 106 RX5 yX5_size wsX5_size) := goodIn_app (goodIn_of _ (by decide +kernel)) ggL_law_X5_size
set_option maxRecDepth 20000 in
theorem ggL_law_X6_size : GoodIn wsL_law wsX6_size := goodIn_r _ [403, 146, 387, 697, 698, 699, 700, 701, 702, 703, 704, 705, 706, 707, 708, 709, 710, 711, 712, 713, 714, 715, 716, 717, 718, 719, 720, 721, 722, 723, 724, 725] (by decide +kernel) (by decide +kernel)
set_option maxRecDepth 20000 in
theorem gL_law_X6_size : GoodIn wsL_law (wsV RL 109 RX6 yX6_size wsX6_size) := goodIn_app (goodIn_of _ (by decide +kernel)) ggL_law_X6_size
set_option maxRecDepth 20000 in
theorem ggL_law_L_byteAt : GoodIn wsL_law wsL_byteAt := goodIn_ca (goodIn_r _ [406, 180, 407, 408, 409, 2, 410, 188, 189, 21, 411, 412, 413, 20, 414, 52, 415, 416, 417, 418, 51, 419, 693, 694, 695, 696, 734, 735] (by decide +kernel) (by decide +kernel)) (goodIn_sub (fun _ h => List.mem_append_right _ h) (by decide +kernel))
set_option maxRecDepth 20000 in
theorem gL_law_L_byteAt : GoodIn wsL_law (va_wsS RL 110 yL_byteAt wsL_byteAt) := goodIn_app (goodIn_of _ (by decide +kernel)) ggL_law_L_byteAt
set_option maxRecDepth 20000 in
theorem ggL_law_X6_byteAt : GoodIn wsL_law wsX6_byteAt := goodIn_r _ [423, 146, 387, 100, 148, 149, 150, 5, 151, 697, 698, 699, 700, 701, 702, 703, 704, 705, 706, 707, 708, 709, 710, 711, 712, 713, 714, 715, 716, 717, 718, 719, 720, 721, 722, 723, 724, 725] (by decide +kernel) (by decide +kernel)
set_option maxRecDepth 20000 in
theorem gL_law_X6_byteAt : GoodIn wsL_law (wsV RL 112 RX6 yX6_byteAt wsX6_byteAt) := goodIn_app (goodIn_of _ (by decide +kernel)) ggL_law_X6_byteAt
