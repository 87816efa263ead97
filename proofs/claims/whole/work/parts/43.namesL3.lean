set_option maxRecDepth 20000 in
theorem ggL_law_L_canBeEmpty : GoodIn wsL_law wsL_canBeEmpty := goodIn_ca (goodIn_r _ [276, 180, 277, 278, 279, 2, 280, 17, 204, 205, 206, 207, 188, 189, 208, 209, 210, 16, 211, 39, 281, 282, 283, 284, 41, 285, 286, 287, 288, 42, 289, 290, 46, 291, 292, 293, 294, 295, 36, 37, 35, 296, 297, 298, 299, 38, 300, 696, 697, 698, 699, 729, 730, 731, 732, 733, 734, 735, 736] (by decide +kernel) (by decide +kernel)) (goodIn_sub (fun _ h => List.mem_append_right _ h) (by decide +kernel))
set_option maxRecDepth 20000 in
theorem gL_law_L_canBeEmpty : GoodIn wsL_law (va_wsS RL 94 yL_canBeEmpty wsL_canBeEmpty) := goodIn_app (goodIn_of _ (by decide +kernel)) ggL_law_L_canBeEmpty
set_option maxRecDepth 20000 in
theorem ggL_law_X6_canBeEmpty : GoodIn wsL_law wsX6_canBeEmpty := goodIn_r _ [304, 146, 114, 216, 217, 218, 5, 219, 147, 305, 306, 307, 308, 113, 99, 115, 309, 310, 311, 312, 96, 97, 98, 313, 314, 315, 316, 700, 701, 702, 703, 704, 705, 706, 707, 708, 709, 710, 711, 712, 713, 714, 715, 716, 717, 718, 719, 720, 721, 722, 723, 724, 725, 726, 727, 728] (by decide +kernel) (by decide +kernel)
set_option maxRecDepth 20000 in
theorem gL_law_X6_canBeEmpty : GoodIn wsL_law (wsV RL 96 RX6 yX6_canBeEmpty wsX6_canBeEmpty) := goodIn_app (goodIn_of _ (by decide +kernel)) ggL_law_X6_canBeEmpty
set_option maxRecDepth 20000 in
theorem ggL_law_L_isLeftRecursive : GoodIn wsL_law wsL_isLeftRecursive := goodIn_ca (goodIn_r _ [319, 180, 320, 321, 322, 2, 323, 17, 185, 186, 187, 188, 189, 324, 325, 326, 16, 327, 285, 286, 287, 288, 42, 39, 41, 289, 290, 46, 291, 292, 293, 294, 295, 36, 37, 35, 296, 297, 298, 299, 38, 300, 209, 210, 211, 328, 329, 330, 331, 43, 332, 333, 334, 335, 336, 337, 338, 339, 340, 341, 696, 697, 698, 699, 729, 730, 731, 732, 733, 734, 735, 736] (by decide +kernel) (by decide +kernel)) (goodIn_sub (fun _ h => List.mem_append_right _ h) (by decide +kernel))
set_option maxRecDepth 20000 in
theorem gL_law_L_isLeftRecursive : GoodIn wsL_law (va_wsS RL 97 yL_isLeftRecursive wsL_isLeftRecursive) := goodIn_app (goodIn_of _ (by decide +kernel)) ggL_law_L_isLeftRecursive
set_option maxRecDepth 20000 in
theorem ggL_law_X6_isLeftRecursive : GoodIn wsL_law wsX6_isLeftRecursive := goodIn_r _ [345, 146, 99, 115, 194, 195, 5, 196, 305, 306, 307, 308, 113, 147, 114, 309, 310, 311, 312, 96, 97, 98, 313, 314, 315, 316, 700, 701, 702, 703, 704, 705, 706, 707, 708, 709, 710, 711, 712, 713, 714, 715, 716, 717, 718, 719, 720, 721, 722, 723, 724, 725, 726, 727, 728] (by decide +kernel) (by decide +kernel)
set_option maxRecDepth 20000 in
theorem gL_law_X6_isLeftRecursive : GoodIn wsL_law (wsV RL 99 RX6 yX6_isLeftRecursive wsX6_isLeftRecursive) := goodIn_app (goodIn_of _ (by decide +kernel)) ggL_law_X6_isLeftRecursive
set_option maxRecDepth 20000 in
theorem ggL_law_L_replace : GoodIn wsL_law wsL_replace := goodIn_ca (goodIn_ca (goodIn_ca (goodIn_r _ [348, 180, 120, 121, 349, 350, 351, 2, 352, 188, 189, 126, 127, 132, 133, 21, 25, 353, 354, 355, 356, 357, 358, 167, 168, 169, 359, 360, 361, 362, 363, 364, 24, 365, 58, 366, 367, 368, 369, 57, 242, 243, 244, 245, 246, 247, 248, 249, 59, 370, 371, 372, 373, 374, 375, 376, 377, 378, 379, 380, 20, 381, 51, 52, 382, 383, 384, 385, 696, 697, 698, 699, 737, 738, 739, 740, 741] (by decide +kernel) (by decide +kernel)) (goodIn_sub (fun _ h => List.mem_append_right _ h) (by decide +kernel))) (goodIn_sub (fun _ h => List.mem_append_left _ (List.mem_append_left _ (List.mem_append_right _ h))) (by decide +kernel))) (goodIn_sub (fun _ h => List.mem_append_left _ (List.mem_append_right _ h)) (by decide +kernel))
set_option maxRecDepth 20000 in
theorem gL_law_L_replace : GoodIn wsL_law (va_wsS RL 102 yL_replace wsL_replace) := goodIn_app (goodIn_of _ (by decide +kernel)) ggL_law_L_replace
set_option maxRecDepth 20000 in
theorem ggL_law_X6_replace : GoodIn wsL_law wsX6_replace := goodIn_r _ [389, 146, 390, 34, 100, 148, 149, 150, 5, 151, 391, 392, 393, 394, 174, 175, 176, 395, 396, 397, 398, 40, 101, 103, 102, 104, 700, 701, 702, 703, 704, 705, 706, 707, 708, 709, 710, 711, 712, 713, 714, 715, 716, 717, 718, 719, 720, 721, 722, 723, 724, 725, 726, 727, 728] (by decide +kernel) (by decide +kernel)
set_option maxRecDepth 20000 in
theorem gL_law_X6_replace : GoodIn wsL_law (wsV RL 105 RX6 yX6_replace wsX6_replace) := goodIn_app (goodIn_of _ (by decide +kernel)) ggL_law_X6_replace
set_option maxRecDepth 20000 in
theorem ggL_law_X5_size : GoodIn wsL_law wsX5_size := goodIn_r _ [402, 21, 696, 697, 698, 699, 737, 738] (by decide +kernel) (by decide +kernel)
set_option maxRecDepth 20000 in
theorem gL_law_X5_size : GoodIn wsL_law (wsV RL 106 RX5 yX5_size wsX5_size) := goodIn_app (goodIn_of _ (by decide +kernel)) ggL_law_X5_size
set_option maxRecDepth 20000 in
theorem ggL_law_X6_size : GoodIn wsL_law wsX6_size := goodIn_r _ [406, 146, 390, 700, 701, 702, 703, 704, 705, 706, 707, 708, 709, 710, 711, 712, 713, 714, 715, 716, 717, 718, 719, 720, 721, 722, 723, 724, 725, 726, 727, 728] (by decide +kernel) (by decide +kernel)
set_option maxRecDepth 20000 in
theorem gL_law_X6_size : GoodIn wsL_law (wsV RL 109 RX6 yX6_size wsX6_size) := goodIn_app (goodIn_of _ (by decide +kernel)) ggL_law_X6_size
set_option maxRecDepth 20000 in
theorem ggL_law_L_byteAt : GoodIn wsL_law wsL_byteAt := goodIn_ca (goodIn_r _ [409, 180, 410, 411, 412, 2, 413, 188, 189, 21, 414, 415, 416, 20, 417, 52, 418, 419, 420, 421, 51, 422, 696, 697, 698, 699, 737, 738] (by decide +kernel) (by decide +kernel)) (goodIn_sub (fun _ h => List.mem_append_right _ h) (by decide +kernel))
set_option maxRecDepth 20000 in
theorem gL_law_L_byteAt : GoodIn wsL_law (va_wsS RL 110 yL_byteAt wsL_byteAt) := goodIn_app (goodIn_of _ (by decide +kernel)) ggL_law_L_byteAt
set_option maxRecDepth 20000 in
theorem ggL_law_X6_byteAt : GoodIn wsL_law wsX6_byteAt := goodIn_r _ [426, 146, 390, 100, 148, 149, 150, 5, 151, 700, 701, 702, 703, 704, 705, 706, 707, 708, 709, 710, 711, 712, 713, 714, 715, 716, 717, 718, 719, 720, 721, 722, 723, 724, 725, 726, 727, 728] (by decide +kernel) (by decide +kernel)
set_option maxRecDepth 20000 in
theorem gL_law_X6_byteAt : GoodIn wsL_law (wsV RL 112 RX6 yX6_byteAt wsX6_byteAt) := goodIn_app (goodIn_of _ (by decide +kernel)) ggL_law_X6_byteAt
set_option maxRecDepth 20000 in
theorem ggL_law_L_parse : GoodIn wsL_law wsL_parse := goodIn_ca (goodIn_r _ [429, 180, 430, 431, 432, 2, 433, 29, 185, 186, 187, 188, 189, 434, 435, 436, 437, 21, 438, 439, 440, 28, 441, 69, 70, 71, 72, 76, 442, 443, 444, 445, 68, 74, 73, 446, 447, 448, 449, 450, 209, 210, 16, 211, 39, 451, 452, 453, 367, 368, 24, 369, 57, 454, 455, 456, 67, 457, 89, 458, 459, 460, 461, 90, 85, 462, 463, 464, 465, 466, 467, 468, 469, 82, 86, 470, 471, 472, 473, 84, 83, 474, 475, 476, 477, 87, 478, 479, 480, 481, 482, 483, 484, 485, 486, 487, 488, 81, 88, 336, 337, 489, 490, 491, 492, 493, 494, 495, 496, 497, 498, 499, 500, 247, 248, 249, 58, 59, 501, 502, 503, 504, 505, 506, 507, 508, 509, 510, 511, 75, 512, 513, 419, 420, 20, 421, 51, 422, 415, 416, 417, 52, 514, 515, 516, 517, 518, 519, 520, 521, 522, 523, 524, 525, 526, 527, 528, 529, 530, 531, 532, 533, 534, 535, 536, 537, 538, 239, 240, 241, 242, 243, 244, 245, 246, 696, 697, 698, 699, 737, 738, 742, 743, 744, 745, 746, 747, 748, 749, 750, 729, 730, 731, 732, 733, 734, 735, 736, 751, 752, 753, 754, 755, 756, 757, 758, 759, 760, 739, 740, 741] (by decide +kernel) (by decide +kernel)) (goodIn_sub (fun _ h => List.mem_append_right _ h) (by decide +kernel))
set_option maxRecDepth 20000 in
theorem gL_law_L_parse : GoodIn wsL_law (va_wsS RL 113 yL_parse wsL_parse) := goodIn_app (goodIn_of _ (by decide +kernel)) ggL_law_L_parse
set_option maxRecDepth 20000 in
theorem ggL_law_X6_parse : GoodIn wsL_law wsX6_parse := goodIn_r _ [542, 146, 543, 544, 545, 112, 546, 547, 194, 195, 5, 196, 548, 549, 550, 551, 390, 148, 149, 150, 151, 552, 553, 554, 555, 99, 101, 104, 110, 103, 556, 463, 464, 465, 102, 105, 106, 107, 108, 109, 111, 557, 558, 559, 560, 561, 562, 563, 564, 565, 566, 567, 568, 569, 570, 571, 572, 573, 574, 575, 576, 97, 96, 577, 98, 578, 579, 580, 581, 582, 583, 584, 585, 586, 587, 588, 589, 100, 590, 591, 592, 593, 258, 259, 260, 261, 262, 263, 264, 265, 700, 701, 702, 703, 704, 705, 706, 707, 708, 709, 710, 711, 712, 713, 714, 715, 716, 717, 718, 719, 720, 721, 722, 723, 724, 725, 726, 727, 728] (by decide +kernel) (by decide +kernel)
set_option maxRecDepth 20000 in
theorem gL_law_X6_parse : GoodIn wsL_law (wsV RL 115 RX6 yX6_parse wsX6_parse) := goodIn_app (goodIn_of _ (by decide +kernel)) ggL_law_X6_parse
set_option maxRecDepth 20000 in
theorem ggL_law_X5_work : GoodIn wsL_law wsX5_work := goodIn_r _ [597, 29, 696, 697, 698, 699, 742, 743, 744, 745, 746, 747, 748, 749, 750] (by decide +kernel) (by decide +kernel)
set_option maxRecDepth 20000 in
theorem gL_law_X5_work : GoodIn wsL_law (wsV RL 116 RX5 yX5_work wsX5_work) := goodIn_app (goodIn_of _ (by decide +kernel)) ggL_law_X5_work
set_option maxRecDepth 20000 in
theorem ggL_law_X6_work : GoodIn wsL_law wsX6_work := goodIn_r _ [601, 146, 543, 700, 701, 702, 703, 704, 705, 706, 707, 708, 709, 710, 711, 712, 713, 714, 715, 716, 717, 718, 719, 720, 721, 722, 723, 724, 725, 726, 727, 728] (by decide +kernel) (by decide +kernel)
set_option maxRecDepth 20000 in
theorem gL_law_X6_work : GoodIn wsL_law (wsV RL 119 RX6 yX6_work wsX6_work) := goodIn_app (goodIn_of _ (by decide +kernel)) ggL_law_X6_work
set_option maxRecDepth 20000 in
theorem ggL_law_X5_hits : GoodIn wsL_law wsX5_hits := goodIn_r _ [605, 29, 696, 697, 698, 699, 742, 743, 744, 745, 746, 747, 748, 749, 750] (by decide +kernel) (by decide +kernel)
set_option maxRecDepth 20000 in
theorem gL_law_X5_hits : GoodIn wsL_law (wsV RL 120 RX5 yX5_hits wsX5_hits) := goodIn_app (goodIn_of _ (by decide +kernel)) ggL_law_X5_hits
set_option maxRecDepth 20000 in
theorem ggL_law_X6_hits : GoodIn wsL_law wsX6_hits := goodIn_r _ [609, 146, 544, 700, 701, 702, 703, 704, 705, 706, 707, 708, 709, 710, 711, 712, 713, 714, 715, 716, 717, 718, 719, 720, 721, 722, 723, 724, 725, 726, 727, 728] (by decide +kernel) (by decide +kernel)
set_option maxRecDepth 20000 in
theorem gL_law_X6_hits : GoodIn wsL_law (wsV RL 123 RX6 yX6_hits wsX6_hits) := goodIn_app (goodIn_of _ (by decide +kernel)) ggL_law_X6_hits
set_option maxRecDepth 20000 in
theorem ggL_law_X5_growths : GoodIn wsL_law wsX5_growths := goodIn_r _ [613, 29, 696, 697, 698, 699, 742, 743, 744, 745, 746, 747, 748, 749, 750] (by decide +kernel) (by decide +kernel)
set_option maxRecDepth 20000 in
theorem gL_law_X5_growths : GoodIn wsL_law (wsV RL 124 RX5 yX5_growths wsX5_growths) := goodIn_app (goodIn_of _ (by decide +kernel)) ggL_law_X5_growths
set_option maxRecDepth 20000 in
theorem ggL_law_X6_growths : GoodIn wsL_law wsX6_growths := goodIn_r _ [617, 146, 545, 700, 701, 702, 703, 704, 705, 706, 707, 708, 709, 710, 711, 712, 713, 714, 715, 716, 717, 718, 719, 720, 721, 722, 723, 724, 725, 726, 727, 728] (by decide +kernel) (by decide +kernel)
set_option maxRecDepth 20000 in
theorem gL_law_X6_growths : GoodIn wsL_law (wsV RL 127 RX6 yX6_growths wsX6_growths) := goodIn_app (goodIn_of _ (by decide +kernel)) ggL_law_X6_growths
set_option maxRecDepth 20000 in
theorem ggL_law_X5_farthest : GoodIn wsL_law wsX5_farthest := goodIn_r _ [621, 29, 696, 697, 698, 699, 742, 743, 744, 745, 746, 747, 748, 749, 750] (by decide +kernel) (by decide +kernel)
set_option maxRecDepth 20000 in
theorem gL_law_X5_farthest : GoodIn wsL_law (wsV RL 128 RX5 yX5_farthest wsX5_farthest) := goodIn_app (goodIn_of _ (by decide +kernel)) ggL_law_X5_farthest
set_option maxRecDepth 20000 in
theorem ggL_law_X6_farthest : GoodIn wsL_law wsX6_farthest := goodIn_r _ [625, 146, 112, 700, 701, 702, 703, 704, 705, 706, 707, 708, 709, 710, 711, 712, 713, 714, 715, 716, 717, 718, 719, 720, 721, 722, 723, 724, 725, 726, 727, 728] (by decide +kernel) (by decide +kernel)
set_option maxRecDepth 20000 in
theorem gL_law_X6_farthest : GoodIn wsL_law (wsV RL 131 RX6 yX6_farthest wsX6_farthest) := goodIn_app (goodIn_of _ (by decide +kernel)) ggL_law_X6_farthest
set_option maxRecDepth 20000 in
theorem ggL_law_X5_remembered : GoodIn wsL_law wsX5_remembered := goodIn_r _ [629, 25, 630, 631, 632, 24, 633, 366, 367, 368, 369, 57, 696, 697, 698, 699, 739, 740, 741] (by decide +kernel) (by decide +kernel)
set_option maxRecDepth 20000 in
theorem gL_law_X5_remembered : GoodIn wsL_law (wsV RL 132 RX5 yX5_remembered wsX5_remembered) := goodIn_app (goodIn_of _ (by decide +kernel)) ggL_law_X5_remembered
set_option maxRecDepth 20000 in
theorem ggL_law_X6_remembered : GoodIn wsL_law wsX6_remembered := goodIn_r _ [637, 146, 262, 263, 264, 5, 265, 101, 700, 701, 702, 703, 704, 705, 706, 707, 708, 709, 710, 711, 712, 713, 714, 715, 716, 717, 718, 719, 720, 721, 722, 723, 724, 725, 726, 727, 728] (by decide +kernel) (by decide +kernel)
set_option maxRecDepth 20000 in
theorem gL_law_X6_remembered : GoodIn wsL_law (wsV RL 135 RX6 yX6_remembered wsX6_remembered) := goodIn_app (goodIn_of _ (by decide +kernel)) ggL_law_X6_remembered
set_option maxRecDepth 20000 in
theorem ggL_law_L_result : GoodIn wsL_law wsL_result := goodIn_ca (goodIn_r _ [640, 180, 641, 642, 643, 2, 644, 25, 185, 186, 187, 188, 189, 434, 435, 436, 437, 21, 645, 451, 452, 696, 697, 698, 699, 739, 740, 741, 737, 738] (by decide +kernel) (by decide +kernel)) (goodIn_sub (fun _ h => List.mem_append_right _ h) (by decide +kernel))
set_option maxRecDepth 20000 in
theorem gL_law_L_result : GoodIn wsL_law (va_wsS RL 136 yL_result wsL_result) := goodIn_app (goodIn_of _ (by decide +kernel)) ggL_law_L_result
set_option maxRecDepth 20000 in
theorem ggL_law_X6_result : GoodIn wsL_law wsX6_result := goodIn_r _ [649, 146, 101, 102, 194, 195, 5, 196, 548, 549, 550, 551, 390, 148, 149, 150, 151, 700, 701, 702, 703, 704, 705, 706, 707, 708, 709, 710, 711, 712, 713, 714, 715, 716, 717, 718, 719, 720, 721, 722, 723, 724, 725, 726, 727, 728] (by decide +kernel) (by decide +kernel)
set_option maxRecDepth 20000 in
theorem gL_law_X6_result : GoodIn wsL_law (wsV RL 138 RX6 yX6_result wsX6_result) := goodIn_app (goodIn_of _ (by decide +kernel)) ggL_law_X6_result
set_option maxRecDepth 20000 in
theorem ggL_law_L_reach : GoodIn wsL_law wsL_reach := goodIn_ca (goodIn_r _ [652, 180, 653, 654, 655, 2, 656, 25, 185, 186, 187, 188, 189, 434, 435, 436, 437, 21, 645, 451, 452, 696, 697, 698, 699, 739, 740, 741, 737, 738] (by decide +kernel) (by decide +kernel)) (goodIn_sub (fun _ h => List.mem_append_right _ h) (by decide +kernel))
set_option maxRecDepth 20000 in
theorem gL_law_L_reach : GoodIn wsL_law (va_wsS RL 139 yL_reach wsL_reach) := goodIn_app (goodIn_of _ (by decide +kernel)) ggL_law_L_reach
set_option maxRecDepth 20000 in
theorem ggL_law_X6_reach : GoodIn wsL_law wsX6_reach := goodIn_r _ [660, 146, 101, 103, 194, 195, 5, 196, 548, 549, 550, 551, 390, 148, 149, 150, 151, 700, 701, 702, 703, 704, 705, 706, 707, 708, 709, 710, 711, 712, 713, 714, 715, 716, 717, 718, 719, 720, 721, 722, 723, 724, 725, 726, 727, 728] (by decide +kernel) (by decide +kernel)
set_option maxRecDepth 20000 in
theorem gL_law_X6_reach : GoodIn wsL_law (wsV RL 141 RX6 yX6_reach wsX6_reach) := goodIn_app (goodIn_of _ (by decide +kernel)) ggL_law_X6_reach
set_option maxRecDepth 20000 in
theorem ggL_law_X5_forget : GoodIn wsL_law wsX5_forget := goodIn_r _ [664, 25, 630, 631, 632, 24, 633, 366, 367, 368, 369, 57, 238, 239, 240, 241, 242, 243, 244, 245, 246, 247, 248, 249, 58, 59, 696, 697, 698, 699, 739, 740, 741] (by decide +kernel) (by decide +kernel)
set_option maxRecDepth 20000 in
theorem gL_law_X5_forget : GoodIn wsL_law (wsV RL 142 RX5 yX5_forget wsX5_forget) := goodIn_app (goodIn_of _ (by decide +kernel)) ggL_law_X5_forget
set_option maxRecDepth 20000 in
theorem ggL_law_X6_forget : GoodIn wsL_law wsX6_forget := goodIn_r _ [668, 146, 258, 259, 260, 5, 261, 101, 262, 263, 264, 265, 700, 701, 702, 703, 704, 705, 706, 707, 708, 709, 710, 711, 712, 713, 714, 715, 716, 717, 718, 719, 720, 721, 722, 723, 724, 725, 726, 727, 728] (by decide +kernel) (by decide +kernel)
set_option maxRecDepth 20000 in
theorem gL_law_X6_forget : GoodIn wsL_law (wsV RL 145 RX6 yX6_forget wsX6_forget) := goodIn_app (goodIn_of _ (by decide +kernel)) ggL_law_X6_forget
set_option maxRecDepth 20000 in
theorem ggL_law_X5_digest : GoodIn wsL_law wsX5_digest := goodIn_r _ [672, 17, 673, 21, 25, 29, 674, 675, 676, 16, 677, 39, 38, 678, 2, 679, 680, 681, 682, 683, 20, 684, 52, 51, 685, 686, 687, 24, 688, 57, 58, 366, 367, 368, 369, 689, 696, 697, 698, 699, 742, 743, 744, 745, 746, 747, 748, 749, 750, 729, 730, 731, 732, 733, 734, 735, 736, 737, 738, 739, 740, 741] (by decide +kernel) (by decide +kernel)
set_option maxRecDepth 20000 in
theorem gL_law_X5_digest : GoodIn wsL_law (wsV RL 146 RX5 yX5_digest wsX5_digest) := goodIn_app (goodIn_of _ (by decide +kernel)) ggL_law_X5_digest
set_option maxRecDepth 20000 in
theorem ggL_law_X6_digest : GoodIn wsL_law wsX6_digest := goodIn_r _ [693, 146, 694, 147, 695, 99, 390, 100, 101, 102, 103, 543, 544, 545, 700, 701, 702, 703, 704, 705, 706, 707, 708, 709, 710, 711, 712, 713, 714, 715, 716, 717, 718, 719, 720, 721, 722, 723, 724, 725, 726, 727, 728] (by decide +kernel) (by decide +kernel)
set_option maxRecDepth 20000 in
theorem gL_law_X6_digest : GoodIn wsL_law (wsV RL 150 RX6 yX6_digest wsX6_digest) := goodIn_app (goodIn_of _ (by decide +kernel)) ggL_law_X6_digest

