set_option maxRecDepth 20000 in
theorem ggL_law_X5_remembered : GoodIn wsL_law wsX5_remembered := goodIn_r _ [626, 25, 627, 628, 629, 24, 630, 363, 364, 365, 366, 57, 693, 694, 695, 696, 736, 737, 738] (by decide +kernel) (by decide +kernel)
set_option maxRecDepth 20000 in
theorem gL_law_X5_remembered : GoodIn wsL_law (wsV RL 132 RX5 yX5_remembered wsX5_remembered) := goodIn_app (goodIn_of _ (by decide +kernel)) ggL_law_X5_remembered
set_option maxRecDepth 20000 in
theorem ggL_law_X6_remembered : GoodIn wsL_law wsX6_remembered := goodIn_r _ [634, 146, 262, 263, 264, 5, 265, 101, 697, 698, 699, 700, 701, 702, 703, 704, 705, 706, 707, 708, 709, 710, 711, 712, 713, 714, 715, 716, 717, 718, 719, 720, 721, 722, 723, 724, 725] (by decide +kernel) (by decide +kernel)
set_option maxRecDepth 20000 in
theorem gL_law_X6_remembered : GoodIn wsL_law (wsV RL 135 RX6 yX6_remembered wsX6_remembered) := goodIn_app (goodIn_of _ (by decide +kernel)) ggL_law_X6_remembered
set_option maxRecDepth 20000 in
theorem ggL_law_L_result : GoodIn wsL_law wsL_result := goodIn_ca (goodIn_r _ [637, 180, 638, 639, 640, 2, 641, 25, 185, 186, 187, 188, 189, 431, 432, 433, 434, 21, 642, 448, 449, 693, 694, 695, 696, 736, 737, 738, 734, 735] (by decide +kernel) (by decide +kernel)) (goodIn_sub (fun _ h => List.mem_append_right _ h) (by decide +kernel))
set_option maxRecDepth 20000 in
theorem gL_law_L_result : GoodIn wsL_law (va_wsS RL 136 yL_result wsL_result) := goodIn_app (goodIn_of _ (by decide +kernel)) ggL_law_L_result
set_option maxRecDepth 20000 in
theorem ggL_law_X6_result : GoodIn wsL_law wsX6_result := goodIn_r _ [646, 146, 101, 102, 194, 195, 5, 196, 545, 546, 547, 548, 387, 148, 149, 150, 151, 697, 698, 699, 700, 701, 702, 703, 704, 705, 706, 707, 708, 709, 710, 711, 712, 713, 714, 715, 716, 717, 718, 719, 720, 721, 722, 723, 724, 725] (by decide +kernel) (by decide +kernel)
set_option maxRecDepth 20000 in
theorem gL_law_X6_result : GoodIn wsL_law (wsV RL 138 RX6 yX6_result wsX6_result) := goodIn_app (goodIn_of _ (by decide +kernel)) ggL_law_X6_result
set_option maxRecDepth 20000 in
theorem ggL_law_L_reach : GoodIn wsL_law wsL_reach := goodIn_ca (goodIn_r _ [649, 180, 650, 651, 652, 2, 653, 25, 185, 186, 187, 188, 189, 431, 432, 433, 434, 21, 642, 448, 449, 693, 694, 695, 696, 736, 737, 738, 734, 735] (by decide +kernel) (by decide +kernel)) (goodIn_sub (fun _ h => List.mem_append_right _ h) (by decide +kernel))
set_option maxRecDepth 20000 in
theorem gL_law_L_reach : GoodIn wsL_law (va_wsS RL 139 yL_reach wsL_reach) := goodIn_app (goodIn_of _ (by decide +kernel)) ggL_law_L_reach
set_option maxRecDepth 20000 in
theorem ggL_law_X6_reach : GoodIn wsL_law wsX6_reach := goodIn_r _ [657, 146, 101, 103, 194, 195, 5, 196, 545, 546, 547, 548, 387, 148, 149, 150, 151, 697, 698, 699, 700, 701, 702, 703, 704, 705, 706, 707, 708, 709, 710, 711, 712, 713, 714, 715, 716, 717, 718, 719, 720, 721, 722, 723, 724, 725] (by decide +kernel) (by decide +kernel)
set_option maxRecDepth 20000 in
theorem gL_law_X6_reach : GoodIn wsL_law (wsV RL 141 RX6 yX6_reach wsX6_reach) := goodIn_app (goodIn_of _ (by decide +kernel)) ggL_law_X6_reach
set_option maxRecDepth 20000 in
theorem ggL_law_X5_forget : GoodIn wsL_law wsX5_forget := goodIn_r _ [661, 25, 627, 628, 629, 24, 630, 363, 364, 365, 366, 57, 238, 239, 240, 241, 242, 243, 244, 245, 246, 247, 248, 249, 58, 59, 693, 694, 695, 696, 736, 737, 738] (by decide +kernel) (by decide +kernel)
set_option maxRecDepth 20000 in
theorem gL_law_X5_forget : GoodIn wsL_law (wsV RL 142 RX5 yX5_forget wsX5_forget) := goodIn_app (goodIn_of _ (by decide +kernel)) ggL_law_X5_forget
set_option maxRecDepth 20000 in
theorem ggL_law_X6_forget : GoodIn wsL_law wsX6_forget := goodIn_r _ [665, 146, 258, 259, 260, 5, 261, 101, 262, 263, 264, 265, 697, 698, 699, 700, 701, 702, 703, 704, 705, 706, 707, 708, 709, 710, 711, 712, 713, 714, 715, 716, 717, 718, 719, 720, 721, 722, 723, 724, 725] (by decide +kernel) (by decide +kernel)
set_option maxRecDepth 20000 in
theorem gL_law_X6_forget : GoodIn wsL_law (wsV RL 145 RX6 yX6_forget wsX6_forget) := goodIn_app (goodIn_of _ (by decide +kernel)) ggL_law_X6_forget
set_option maxRecDepth 20000 in
theorem ggL_law_X5_digest : GoodIn wsL_law wsX5_digest := goodIn_r _ [669, 17, 670, 21, 25, 29, 671, 672, 673, 16, 674, 39, 38, 675, 2, 676, 677, 678, 679, 680, 20, 681, 52, 51, 682, 683, 684, 24, 685, 57, 58, 363, 364, 365, 366, 686, 693, 694, 695, 696, 739, 740, 741, 742, 743, 744, 745, 746, 747, 726, 727, 728, 729, 730, 731, 732, 733, 734, 735, 736, 737, 738] (by decide +kernel) (by decide +kernel)
set_option maxRecDepth 20000 in
theorem gL_law_X5_digest : GoodIn wsL_law (wsV RL 146 RX5 yX5_digest wsX5_digest) := goodIn_app (goodIn_of _ (by decide +kernel)) ggL_law_X5_digest
set_option maxRecDepth 20000 in
theorem ggL_law_X6_digest : GoodIn wsL_law wsX6_digest := goodIn_r _ [690, 146, 691, 147, 692, 99, 387, 100, 101, 102, 103, 540, 541, 542, 697, 698, 699, 700, 701, 702, 703, 704, 705, 706, 707, 708, 709, 710, 711, 712, 713, 714, 715, 716, 717, 718, 719, 720, 721, 722, 723, 724, 725] (by decide +kernel) (by decide +kernel)
set_option maxRecDepth 20000 in
theorem gL_law_X6_digest : GoodIn wsL_law (wsV RL 150 RX6 yX6_digest wsX6_digest) := goodIn_app (goodIn_of _ (by decide +kernel)) ggL_law_X6_digest

