set_option maxRecDepth 20000 in
theorem ggL_law_L_canBeEmpty : GoodIn wsL_law wsL_canBeEmpty := goodIn_ca (goodIn_r _ [276, 180, 277, 278, 279, 2, 280, 17, 204, 205, 206, 207, 188, 189, 208, 209, 210, 16, 211, 39, 281, 282, 283, 284, 41, 285, 286, 287, 288, 42, 289, 290, 46, 291, 292, 293, 294, 295, 36, 37, 35, 296, 297, 298, 299, 38, 300, 696, 697, 698, 699, 729, 730, 731, 732, 733, 734, 735, 736] (by decide +kernel) (by decide +kernel)) (goodIn_sub (fun _ h => List.mem_append_right _ h) (by decide +kernel))
set_option maxRecDepth 20000 in
theorem gL_law_L_canBeEmpty : GoodIn wsL_law (va_wsS RL 94 yL_canBeEmpty wsL_canBeEmpty) := goodIn_app (goodIn_of _ (by decide +kernel)) ggL_law_L_canBeEmpty
set_option maxRecDepth 20000 in
theorem ggL_law_X6_canBeEmpty : GoodIn wsL_law wsX6_canBeEmpty := goodIn_r _ [304, 146, 114, 216, 217, 218, 5, 219, 147, 305, 306, 307, 308, 113, 99, 115, 309, 310, 311, 312, 96, 97, 98, 313, 314, 315, 316, 700, 701, 702, 703, 704, 705, 706, 707, 708, 709, 710, 711, 712, 713, 714, 715, 716, 717, 718, 719, 720, 721, 722, 723, 724, 725, 726, 727, 728] (by decide +kernel) (by decide +kernel)
set_option maxRecDepth 20000 in
theorem gL_law_X6_canBeEmpty : GoodIn wsL_law (wsV RL 96 RX6 yX6_canBeEmpty wsX6_canBeEmpty) := goodIn_app (goodIn_of _ (by decide +kernel)) ggL_law_X6_canBeEmpty
set_option maxRecDepth 20000 in
theorem ggL_law_L_isLeftRecursive : GoodIn wsL_law wsL_isLeftRecursive := goodIn_ca (goodIn_r _ [319, 180, 320, 321, 322, 2, 323, 17, 185, 186, 187, 188, 189, 324, 325, 326, 16, 327, 285, 286, 287, 288, 42, 39, 41, 289, 290, 46, 291, 292, 293, 294, 295, 36, 37, 35, 296, 297, 298, 299, 38, 300, 209, 210, 211, 328, 329, 330, 331, 43, 332, 333, 334, 335, 336, 337, 338, 339, 340, 341, 696, 697, 698, 699, 729, 730, 731, 732, 733, 734, 735, 736] (by decide +kernel) (by decide +kernel)) (goodIn_sub (fun _ h => List.mem_append_right _ h) (by decide +kernel))
set_option maxRecDepth 20000 in
theorem gL_law_L_isLeftRecursive : GoodIn wsL_law (va_wsS RL 97 yL_isLeftRecursive wsL_isLeftRecursive) := goodIn_app (goodIn_of _ (by decide +kernel)) ggL_law_L_isLeftRecursive
set_option maxRecDepth 20000 in
theorem ggL_law_X6_isLeftRecursive : GoodIn wsL_law wsX6_isLeftRecursive := goodIn_r _ [345, 146, 99, 115, 194, 195, 5, 196, 305, 306, 307, 308, 113, 147, 114, 309, 310, 311, 312, 96, 97, 98, 313, 314, 315, 316, 700, 701, 702, 703, 704, 705, 706, 707, 708, 709, 710, 711, 712, 713, 714, 715, 716, 717, 718, 719, 720, 721, 722, 723, 724, 725, 726, 727, 728] (by decide +kernel) (by decide +kernel)
set_option maxRecDepth 20000 in
theorem gL_law_X6_isLeftRecursive : GoodIn wsL_law (wsV RL 99 RX6 yX6_isLeftRecursive wsX6_isLeftRecursive) := goodIn_app (goodIn_of _ (by decide +kernel)) ggL_law_X6_isLeftRecursive
set_option maxRecDepth 20000 in
theorem ggL_law_L_replace : GoodIn wsL_law wsL_replace := goodIn_ca (goodIn_ca (goodIn_ca (goodIn_r _ [348, 180, 120, 121, 349, 350, 351, 2, 352, 188, 189, 126, 127, 132, 133, 21, 25, 353, 354, 355, 356, 357, 358, 167, 168, 169, 359, 360, 361, 362, 363, 364, 24, 365, 58, 366, 367, 368, 369, 57, 242, 243, 244, 245, 246, 247, 248, 249, 59, 370, 371, 372, 373, 374, 375, 376, 377, 378, 379, 380, 20, 381, 51, 52, 382, 383, 384, 385, 696, 697, 698, 699, 737, 738, 739, 740, 741] (by decide +kernel) (by decide +kernel)) (goodIn_sub (fun _ h => List.mem_append_right _ h) (by decide +kernel))) (goodIn_sub (fun _ h => List.mem_append_left _ (List.mem_append_left _ (List.mem_append_right _ h))) (by decide +kernel))) (goodIn_sub (fun _ h => List.mem_append_left _ (List.mem_append_right _ h)) (by decide +kernel))
set_option maxRecDepth 20000 in
theorem gL_law_L_replace : GoodIn wsL_law (va_wsS RL 102 yL_replace wsL_replace) := goodIn_app (goodIn_of _ (by decide +kernel)) ggL_law_L_replace
set_option maxRecDepth 20000 in
theorem ggL_law_X6_replace : GoodIn wsL_law wsX6_replace := goodIn_r _ [389, 146, 390, 34, 100, 148, 149, 150, 5, 151, 391, 392, 393, 394, 174, 175, 176, 395, 396, 397, 398, 40, 101, 103, 102, 104, 700, 701, 702, 703, 704, 705, 706, 707, 708, 709, 710, 711, 712, 713, 714, 715, 716, 717, 718, 719, 720, 721, 722, 723, 724, 725, 726, 727, 728] (by decide +kernel) (by decide +kernel)
set_option maxRecDepth 20000 in
theorem gL_law_X6_replace : GoodIn wsL_law (wsV RL 105 RX6 yX6_replace wsX6_replace) := goodIn_app (goodIn_of _ (by decide +kernel)) ggL_law_X6_replace
set_option maxRecDepth 20000 in
theorem ggL_law_X5_size : GoodIn wsL_law wsX5_size := goodIn_r _ [402, 21, 696, 697, 698, 699, 737, 738] (by decide +kernel) (by decide +kernel)
set_option maxRecDepth 20000 in
theorem gL_law_X5_size : GoodIn wsL_law (wsV RL 106 RX5 yX5_size wsX5_size) := goodIn_app (goodIn_of _ (by decide +kernel)) ggL_law_X5_size
set_option maxRecDepth 20000 in
theorem ggL_law_X6_size : GoodIn wsL_law wsX6_size := goodIn_r _ [406, 146, 390, 700, 701, 702, 703, 704, 705, 706, 707, 708, 709, 710, 711, 712, 713, 714, 715, 716, 717, 718, 719, 720, 721, 722, 723, 724, 725, 726, 727, 728] (by decide +kernel) (by decide +kernel)
set_option maxRecDepth 20000 in
theorem gL_law_X6_size : GoodIn wsL_law (wsV RL 109 RX6 yX6_size wsX6_size) := goodIn_app (goodIn_of _ (by decide +kernel)) ggL_law_X6_size
set_option maxRecDepth 20000 in
theorem ggL_law_L_byteAt : GoodIn wsL_law wsL_byteAt := goodIn_ca (goodIn_r _ [409, 180, 410, 411, 412, 2, 413, 188, 189, 21, 414, 415, 416, 20, 417, 52, 418, 419, 420, 421, 51, 422, 696, 697, 698, 699, 737, 738] (by decide +kernel) (by decide +kernel)) (goodIn_sub (fun _ h => List.mem_append_right _ h) (by decide +kernel))
set_option maxRecDepth 20000 in
theorem gL_law_L_byteAt : GoodIn wsL_law (va_wsS RL 110 yL_byteAt wsL_byteAt) := goodIn_app (goodIn_of _ (by decide +kernel)) ggL_law_L_byteAt
set_option maxRecDepth 20000 in
theorem ggL_law_X6_byteAt : GoodIn wsL_law wsX6_byteAt := goodIn_r _ [426, 146, 390, 100, 148, 149, 150, 5, 151, 700, 701, 702, 703, 704, 705, 706, 707, 708, 709, 710, 711, 712, 713, 714, 715, 716, 717, 718, 719, 720, 721, 722, 723, 724, 725, 726, 727, 728] (by decide +kernel) (by decide +kernel)
set_option maxRecDepth 20000 in
theorem gL_law_X6_byteAt : GoodIn wsL_law (wsV RL 112 RX6 yX6_byteAt wsX6_byteAt) := goodIn_app (goodIn_of _ (by decide +kernel)) ggL_law_X6_byteAt
