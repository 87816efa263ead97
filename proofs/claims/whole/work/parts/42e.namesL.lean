set_option maxRecDepth 20000 in
theorem ggL_law_L_parse : GoodIn wsL_law wsL_parse := goodIn_ca (goodIn_r _ [429, 180, 430, 431, 432, 2, 433, 29, 185, 186, 187, 188, 189, 434, 435, 436, 437, 21, 438, 439, 440, 28, 441, 69, 70, 71, 72, 76, 442, 443, 444, 445, 68, 74, 73, 446, 447, 448, 449, 450, 209, 210, 16, 211, 39, 451, 452, 453, 367, 368, 24, 369, 57, 454, 455, 456, 67, 457, 89, 458, 459, 460, 461, 90, 85, 462, 463, 464, 465, 466, 467, 468, 469, 82, 86, 470, 471, 472, 473, 84, 83, 474, 475, 476, 477, 87, 478, 479, 480, 481, 482, 483, 484, 485, 486, 487, 488, 81, 88, 336, 337, 489, 490, 491, 492, 493, 494, 495, 496, 497, 498, 499, 500, 247, 248, 249, 58, 59, 501, 502, 503, 504, 505, 506, 507, 508, 509, 510, 511, 75, 512, 513, 419, 420, 20, 421, 51, 422, 415, 416, 417, 52, 514, 515, 516, 517, 518, 519, 520, 521, 522, 523, 524, 525, 526, 527, 528, 529, 530, 531, 532, 533, 534, 535, 536, 537, 538, 239, 240, 241, 242, 243, 244, 245, 246, 696, 697, 698, 699, 737, 738, 742, 743, 744, 745, 746, 747, 748, 749, 750, 729, 730, 731, 732, 733, 734, 735, 736, 751, 752, 753, 754, 755, 756, 757, 758, 759, 760, 739, 740, 741] (by decide +kernel) (by decide +kernel)) (goodIn_sub (fun _ h => List.mem_append_right _ h) (by decide +kernel))
set_option maxRecDepth 20000 in
theorem gL_law_L_parse : GoodIn wsL_law (va_wsS RL 113 yL_parse wsL_parse) := goodIn_app (goodIn_of _ (by decide +kernel)) ggL_law_L_parse
set_option maxRecDepth 20000 in
theorem ggL_law_X6_parse : GoodIn wsL_law wsX6_parse := goodIn_r _ [542, 146, 543, 544, 545, 112, 546, 547, 194, 195, 5, 196, 548, 549, 550, 551, 390, 148, 149, 150, 151, 552, 553, 554, 555, 99, 101, 104, 110, 103, 556, 463, 464, 465, 102, 105, 106, 107, 108, 109, 111, 557, 558, 559, 560, 561, 562, 563, 564, 565, 566, 567, 568, 569, 570, 571, 572, 573, 574, 575, 576, 97, 96, 577, 98, 578, 579, 580, 581, 582, 583, 584, 585, 586, 587, 588, 589, 100, 590, 591, 592, 593, 258, 259, 260, 261, 262, 263, 264, 265, 700, 701, 702, 703, 704, 705, 706, 707, 708, 709, 710, 711, 712, 713, 714, 715, 716, 717, 718, 719, 720, 721, 722, 723, 724, 725, 726, 727, 728] (by decide +kernel) (by decide +kernel)
set_option maxRecDepth 20000 in
theorem gL_law_X6_parse : GoodIn wsL_law (wsV RL 115 RX6 yX6_parse wsX6_parse) := goodIn_app (goodIn_of _ (by decide +kernel)) ggL_law_X6_parse
set_option maxRecDepth 20000 in
theorem ggL_law_X5_work : GoodIn wsL_law wsX5_work := goodIn_r _ [597, 29, 696, 697, 698, 699, 742, 743, 744, 745, 746, 747, 748, 749, 750] (by decide +kernel) (by decide +kernel)
set_option maxRecDepth 20000 in
theorem gL_law_X5_work : GoodIn wsL_law (wsV RL 116 RX5 yX5_work wsX5_work) := goodIn_app (goodIn_of _ (by decide +kernel)) ggL_law_X5_work
set_option maxRecDepth 20000 in
theorem ggL_law_X6_work : GoodIn wsL_law wsX6_work := goodIn_r _ [601, 146, 543, 700, 701, 702, 703, 704, 705, 706, 707, 708, 709, 710, 711, 712, 713, 714, 715, 716, 717, 718, 719, 720, 721, 722, 723, 724, 725, 726, 727, 728] (by decide +kernel) (by decide +kernel)
set_option maxRecDepth 20000 in
theorem gL_law_X6_work : GoodIn wsL_law (wsV RL 119 RX6 yX6_work wsX6_work) := goodIn_app (goodIn_of _ (by decide +kernel)) ggL_law_X6_work
set_option maxRecDepth 20000 in
theorem ggL_law_X5_hits : GoodIn wsL_law wsX5_hits := goodIn_r _ [605, 29, 696, 697, 698, 699, 742, 743, 744, 745, 746, 747, 748, 749, 750] (by decide +kernel) (by decide +kernel)
set_option maxRecDepth 20000 in
theorem gL_law_X5_hits : GoodIn wsL_law (wsV RL 120 RX5 yX5_hits wsX5_hits) := goodIn_app (goodIn_of _ (by decide +kernel)) ggL_law_X5_hits
set_option maxRecDepth 20000 in
theorem ggL_law_X6_hits : GoodIn wsL_law wsX6_hits := goodIn_r _ [609, 146, 544, 700, 701, 702, 703, 704, 705, 706, 707, 708, 709, 710, 711, 712, 713, 714, 715, 716, 717, 718, 719, 720, 721, 722, 723, 724, 725, 726, 727, 728] (by decide +kernel) (by decide +kernel)
set_option maxRecDepth 20000 in
theorem gL_law_X6_hits : GoodIn wsL_law (wsV RL 123 RX6 yX6_hits wsX6_hits) := goodIn_app (goodIn_of _ (by decide +kernel)) ggL_law_X6_hits
set_option maxRecDepth 20000 in
theorem ggL_law_X5_growths : GoodIn wsL_law wsX5_growths := goodIn_r _ [613, 29, 696, 697, 698, 699, 742, 743, 744, 745, 746, 747, 748, 749, 750] (by decide +kernel) (by decide +kernel)
set_option maxRecDepth 20000 in
theorem gL_law_X5_growths : GoodIn wsL_law (wsV RL 124 RX5 yX5_growths wsX5_growths) := goodIn_app (goodIn_of _ (by decide +kernel)) ggL_law_X5_growths
set_option maxRecDepth 20000 in
theorem ggL_law_X6_growths : GoodIn wsL_law wsX6_growths := goodIn_r _ [617, 146, 545, 700, 701, 702, 703, 704, 705, 706, 707, 708, 709, 710, 711, 712, 713, 714, 715, 716, 717, 718, 719, 720, 721, 722, 723, 724, 725, 726, 727, 728] (by decide +kernel) (by decide +kernel)
set_option maxRecDepth 20000 in
theorem gL_law_X6_growths : GoodIn wsL_law (wsV RL 127 RX6 yX6_growths wsX6_growths) := goodIn_app (goodIn_of _ (by decide +kernel)) ggL_law_X6_growths
set_option maxRecDepth 20000 in
theorem ggL_law_X5_farthest : GoodIn wsL_law wsX5_farthest := goodIn_r _ [621, 29, 696, 697, 698, 699, 742, 743, 744, 745, 746, 747, 748, 749, 750] (by decide +kernel) (by decide +kernel)
set_option maxRecDepth 20000 in
theorem gL_law_X5_farthest : GoodIn wsL_law (wsV RL 128 RX5 yX5_farthest wsX5_farthest) := goodIn_app (goodIn_of _ (by decide +kernel)) ggL_law_X5_farthest
set_option maxRecDepth 20000 in
theorem ggL_law_X6_farthest : GoodIn wsL_law wsX6_farthest := goodIn_r _ [625, 146, 112, 700, 701, 702, 703, 704, 705, 706, 707, 708, 709, 710, 711, 712, 713, 714, 715, 716, 717, 718, 719, 720, 721, 722, 723, 724, 725, 726, 727, 728] (by decide +kernel) (by decide +kernel)
set_option maxRecDepth 20000 in
theorem gL_law_X6_farthest : GoodIn wsL_law (wsV RL 131 RX6 yX6_farthest wsX6_farthest) := goodIn_app (goodIn_of _ (by decide +kernel)) ggL_law_X6_farthest
