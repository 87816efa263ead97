set_option maxRecDepth 20000 in
theorem ggL_law_L_rule : GoodIn wsL_law wsL_rule := goodIn_ca (goodIn_ca (goodIn_r _ [179, 180, 121, 181, 182, 183, 2, 184, 17, 185, 186, 187, 188, 189, 128, 129, 130, 131, 132, 133, 134, 135, 136, 16, 137, 39, 138, 139, 140, 141, 35, 36, 37, 693, 694, 695, 696, 726, 727, 728, 729, 730, 731, 732, 733] (by decide +kernel) (by decide +kernel)) (goodIn_sub (fun _ h => List.mem_append_right _ h) (by decide +kernel))) (goodIn_sub (fun _ h => List.mem_append_left _ (List.mem_append_right _ h)) (by decide +kernel))
set_option maxRecDepth 20000 in
theorem gL_law_L_rule : GoodIn wsL_law (va_wsS RL 77 yL_rule wsL_rule) := goodIn_app (goodIn_of _ (by decide +kernel)) ggL_law_L_rule
set_option maxRecDepth 20000 in
theorem ggL_law_X6_rule : GoodIn wsL_law wsX6_rule := goodIn_r _ [193, 146, 147, 194, 195, 5, 196, 148, 149, 150, 151, 152, 153, 154, 155, 96, 97, 98, 697, 698, 699, 700, 701, 702, 703, 704, 705, 706, 707, 708, 709, 710, 711, 712, 713, 714, 715, 716, 717, 718, 719, 720, 721, 722, 723, 724, 725] (by decide +kernel) (by decide +kernel)
set_option maxRecDepth 20000 in
theorem gL_law_X6_rule : GoodIn wsL_law (wsV RL 79 RX6 yX6_rule wsX6_rule) := goodIn_app (goodIn_of _ (by decide +kernel)) ggL_law_X6_rule
set_option maxRecDepth 20000 in
theorem ggL_law_L_join : GoodIn wsL_law wsL_join := goodIn_ca (goodIn_ca (goodIn_ca (goodIn_r _ [199, 180, 120, 121, 200, 201, 202, 2, 203, 126, 127, 17, 204, 205, 206, 207, 188, 189, 208, 209, 210, 16, 211, 39, 128, 129, 130, 131, 132, 133, 134, 135, 136, 137, 138, 139, 140, 141, 35, 36, 37, 693, 694, 695, 696, 726, 727, 728, 729, 730, 731, 732, 733] (by decide +kernel) (by decide +kernel)) (goodIn_sub (fun _ h => List.mem_append_left _ (List.mem_append_left _ (List.mem_append_right _ h))) (by decide +kernel))) (goodIn_sub (fun _ h => List.mem_append_right _ h) (by decide +kernel))) (goodIn_sub (fun _ h => List.mem_append_left _ (List.mem_append_right _ h)) (by decide +kernel))
set_option maxRecDepth 20000 in
theorem gL_law_L_join : GoodIn wsL_law (va_wsS RL 80 yL_join wsL_join) := goodIn_app (goodIn_of _ (by decide +kernel)) ggL_law_L_join
set_option maxRecDepth 20000 in
theorem ggL_law_X6_join : GoodIn wsL_law wsX6_join := goodIn_r _ [215, 146, 147, 216, 217, 218, 5, 219, 148, 149, 150, 151, 152, 153, 154, 155, 96, 97, 98, 697, 698, 699, 700, 701, 702, 703, 704, 705, 706, 707, 708, 709, 710, 711, 712, 713, 714, 715, 716, 717, 718, 719, 720, 721, 722, 723, 724, 725] (by decide +kernel) (by decide +kernel)
set_option maxRecDepth 20000 in
theorem gL_law_X6_join : GoodIn wsL_law (wsV RL 83 RX6 yX6_join wsX6_join) := goodIn_app (goodIn_of _ (by decide +kernel)) ggL_law_X6_join
set_option maxRecDepth 20000 in
theorem ggL_law_L_wrap : GoodIn wsL_law wsL_wrap := goodIn_ca (goodIn_ca (goodIn_ca (goodIn_r _ [222, 180, 120, 121, 223, 224, 225, 2, 226, 126, 127, 17, 204, 205, 206, 207, 188, 189, 208, 209, 210, 16, 211, 39, 128, 129, 130, 131, 132, 133, 134, 135, 136, 137, 138, 139, 140, 141, 35, 36, 37, 693, 694, 695, 696, 726, 727, 728, 729, 730, 731, 732, 733] (by decide +kernel) (by decide +kernel)) (goodIn_sub (fun _ h => List.mem_append_left _ (List.mem_append_left _ (List.mem_append_right _ h))) (by decide +kernel))) (goodIn_sub (fun _ h => List.mem_append_right _ h) (by decide +kernel))) (goodIn_sub (fun _ h => List.mem_append_left _ (List.mem_append_right _ h)) (by decide +kernel))
set_option maxRecDepth 20000 in
theorem gL_law_L_wrap : GoodIn wsL_law (va_wsS RL 84 yL_wrap wsL_wrap) := goodIn_app (goodIn_of _ (by decide +kernel)) ggL_law_L_wrap
set_option maxRecDepth 20000 in
theorem ggL_law_X6_wrap : GoodIn wsL_law wsX6_wrap := goodIn_r _ [230, 146, 147, 216, 217, 218, 5, 219, 148, 149, 150, 151, 152, 153, 154, 155, 96, 97, 98, 697, 698, 699, 700, 701, 702, 703, 704, 705, 706, 707, 708, 709, 710, 711, 712, 713, 714, 715, 716, 717, 718, 719, 720, 721, 722, 723, 724, 725] (by decide +kernel) (by decide +kernel)
set_option maxRecDepth 20000 in
theorem gL_law_X6_wrap : GoodIn wsL_law (wsV RL 86 RX6 yX6_wrap wsX6_wrap) := goodIn_app (goodIn_of _ (by decide +kernel)) ggL_law_X6_wrap
set_option maxRecDepth 20000 in
theorem ggL_law_L_define : GoodIn wsL_law wsL_define := goodIn_ca (goodIn_r _ [233, 180, 234, 235, 236, 2, 237, 25, 17, 185, 186, 187, 188, 189, 204, 205, 206, 207, 208, 209, 210, 16, 211, 39, 238, 239, 240, 24, 241, 242, 243, 244, 245, 246, 247, 248, 249, 57, 58, 59, 250, 251, 252, 253, 38, 693, 694, 695, 696, 726, 727, 728, 729, 730, 731, 732, 733, 736, 737, 738] (by decide +kernel) (by decide +kernel)) (goodIn_sub (fun _ h => List.mem_append_right _ h) (by decide +kernel))
set_option maxRecDepth 20000 in
theorem gL_law_L_define : GoodIn wsL_law (va_wsS RL 87 yL_define wsL_define) := goodIn_app (goodIn_of _ (by decide +kernel)) ggL_law_L_define
set_option maxRecDepth 20000 in
theorem ggL_law_X6_define : GoodIn wsL_law wsX6_define := goodIn_r _ [257, 146, 99, 194, 195, 5, 196, 216, 217, 218, 219, 147, 148, 149, 150, 151, 258, 259, 260, 261, 101, 262, 263, 264, 265, 697, 698, 699, 700, 701, 702, 703, 704, 705, 706, 707, 708, 709, 710, 711, 712, 713, 714, 715, 716, 717, 718, 719, 720, 721, 722, 723, 724, 725] (by decide +kernel) (by decide +kernel)
set_option maxRecDepth 20000 in
theorem gL_law_X6_define : GoodIn wsL_law (wsV RL 89 RX6 yX6_define wsX6_define) := goodIn_app (goodIn_of _ (by decide +kernel)) ggL_law_X6_define
set_option maxRecDepth 20000 in
theorem ggL_law_X5_expressionCount : GoodIn wsL_law wsX5_expressionCount := goodIn_r _ [269, 17, 693, 694, 695, 696, 726, 727, 728, 729, 730, 731, 732, 733] (by decide +kernel) (by decide +kernel)
set_option maxRecDepth 20000 in
theorem gL_law_X5_expressionCount : GoodIn wsL_law (wsV RL 90 RX5 yX5_expressionCount wsX5_expressionCount) := goodIn_app (goodIn_of _ (by decide +kernel)) ggL_law_X5_expressionCount
set_option maxRecDepth 20000 in
theorem ggL_law_X6_expressionCount : GoodIn wsL_law wsX6_expressionCount := goodIn_r _ [273, 146, 147, 697, 698, 699, 700, 701, 702, 703, 704, 705, 706, 707, 708, 709, 710, 711, 712, 713, 714, 715, 716, 717, 718, 719, 720, 721, 722, 723, 724, 725] (by decide +kernel) (by decide +kernel)
set_option maxRecDepth 20000 in
theorem gL_law_X6_expressionCount : GoodIn wsL_law (wsV RL 93 RX6 yX6_expressionCount wsX6_expressionCount) := goodIn_app (goodIn_of _ (by decide +kernel)) ggL_law_X6_expressionCount
