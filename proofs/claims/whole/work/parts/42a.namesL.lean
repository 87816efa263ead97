set_option maxRecDepth 20000 in
theorem ggL_plain_X5_plain : GoodIn wsL_plain wsX5_plain := goodIn_ca (goodIn_ca (goodIn_r _ [7, 8, 9, 10, 11, 12, 13, 6, 14, 15, 16, 17, 18, 19, 20, 21, 22, 23, 24, 25, 26, 27, 28, 29, 30, 31, 32, 33, 34, 35, 36, 37, 38, 39, 40, 41] (by decide +kernel) (by decide +kernel)) (goodIn_sub (fun _ h => List.mem_cons_of_mem _ (List.mem_append_left _ (List.mem_append_right _ h))) (by decide +kernel))) (goodIn_sub (fun _ h => List.mem_cons_of_mem _ (List.mem_append_right _ h)) (by decide +kernel))
set_option maxRecDepth 20000 in
theorem gL_plain_X5_plain : GoodIn wsL_plain (wsV RL 7 RX5 yX5_plain wsX5_plain) := goodIn_app (goodIn_of _ (by decide +kernel)) ggL_plain_X5_plain
set_option maxRecDepth 20000 in
theorem ggL_range_X5_range : GoodIn wsL_range wsX5_range := goodIn_ca (goodIn_ca (goodIn_r _ [7, 8, 9, 10, 11, 12, 6, 13, 14, 15, 16, 17, 18, 19, 20, 21, 22, 23, 24, 25, 26, 27, 28, 29, 30, 31, 32, 33, 34, 35, 36, 37, 38, 39, 40, 41, 42, 43, 44] (by decide +kernel) (by decide +kernel)) (goodIn_sub (fun _ h => List.mem_cons_of_mem _ (List.mem_append_left _ (List.mem_append_right _ h))) (by decide +kernel))) (goodIn_sub (fun _ h => List.mem_cons_of_mem _ (List.mem_append_right _ h)) (by decide +kernel))
set_option maxRecDepth 20000 in
theorem gL_range_X5_range : GoodIn wsL_range (wsV RL 17 RX5 yX5_range wsX5_range) := goodIn_app (goodIn_of _ (by decide +kernel)) ggL_range_X5_range
set_option maxRecDepth 20000 in
theorem ggL_rule_X5_rule : GoodIn wsL_rule wsX5_rule := goodIn_ca (goodIn_ca (goodIn_r _ [7, 8, 9, 10, 6, 11, 12, 13, 14, 15, 16, 17, 18, 19, 20, 21, 22, 23, 24, 25, 26, 27, 28, 29, 30, 31, 32, 33, 34, 35, 36, 37, 38, 39, 40, 41, 42, 43, 44] (by decide +kernel) (by decide +kernel)) (goodIn_sub (fun _ h => List.mem_cons_of_mem _ (List.mem_append_left _ (List.mem_append_right _ h))) (by decide +kernel))) (goodIn_sub (fun _ h => List.mem_cons_of_mem _ (List.mem_append_right _ h)) (by decide +kernel))
set_option maxRecDepth 20000 in
theorem gL_rule_X5_rule : GoodIn wsL_rule (wsV RL 21 RX5 yX5_rule wsX5_rule) := goodIn_app (goodIn_of _ (by decide +kernel)) ggL_rule_X5_rule
set_option maxRecDepth 20000 in
theorem ggL_join_X5_join : GoodIn wsL_join wsX5_join := goodIn_ca (goodIn_ca (goodIn_ca (goodIn_r _ [8, 9, 10, 11, 12, 13, 14, 7, 15, 16, 17, 18, 19, 20, 21, 22, 23, 24, 25, 26, 27, 28, 29, 30, 31, 32, 33, 34, 35, 36, 37, 38, 39, 40, 41, 42, 43, 44, 45, 46, 47, 48, 49, 50, 51, 52] (by decide +kernel) (by decide +kernel)) (goodIn_sub (fun _ h => List.mem_cons_of_mem _ (List.mem_append_left _ (List.mem_append_left _ (List.mem_append_right _ h)))) (by decide +kernel))) (goodIn_sub (fun _ h => List.mem_cons_of_mem _ (List.mem_append_left _ (List.mem_append_right _ h))) (by decide +kernel))) (goodIn_sub (fun _ h => List.mem_cons_of_mem _ (List.mem_append_right _ h)) (by decide +kernel))
set_option maxRecDepth 20000 in
theorem gL_join_X5_join : GoodIn wsL_join (wsV RL 26 RX5 yX5_join wsX5_join) := goodIn_app (goodIn_of _ (by decide +kernel)) ggL_join_X5_join
set_option maxRecDepth 20000 in
theorem ggL_wrap_X5_wrap : GoodIn wsL_wrap wsX5_wrap := goodIn_ca (goodIn_ca (goodIn_ca (goodIn_r _ [8, 9, 10, 11, 12, 13, 14, 7, 15, 16, 17, 18, 19, 20, 21, 22, 23, 24, 25, 26, 27, 28, 29, 30, 31, 32, 33, 34, 35, 36, 37, 38, 39, 40, 41, 42, 43, 44, 45, 46, 47, 48, 49, 50, 51, 52] (by decide +kernel) (by decide +kernel)) (goodIn_sub (fun _ h => List.mem_cons_of_mem _ (List.mem_append_left _ (List.mem_append_left _ (List.mem_append_right _ h)))) (by decide +kernel))) (goodIn_sub (fun _ h => List.mem_cons_of_mem _ (List.mem_append_left _ (List.mem_append_right _ h))) (by decide +kernel))) (goodIn_sub (fun _ h => List.mem_cons_of_mem _ (List.mem_append_right _ h)) (by decide +kernel))
set_option maxRecDepth 20000 in
theorem gL_wrap_X5_wrap : GoodIn wsL_wrap (wsV RL 30 RX5 yX5_wrap wsX5_wrap) := goodIn_app (goodIn_of _ (by decide +kernel)) ggL_wrap_X5_wrap
set_option maxRecDepth 20000 in
theorem ggL_define_X5_define : GoodIn wsL_define wsX5_define := goodIn_ca (goodIn_r _ [6, 7, 8, 9, 10, 5, 11, 12, 13, 14, 15, 16, 17, 18, 19, 20, 21, 22, 23, 24, 25, 26, 27, 28, 29, 30, 31, 32, 33, 34, 35, 36, 37, 38, 39, 40, 41, 42, 43, 44, 45, 46, 47, 48, 49, 50, 51, 52, 53, 54, 55, 56, 57, 58, 59] (by decide +kernel) (by decide +kernel)) (goodIn_sub (fun _ h => List.mem_cons_of_mem _ (List.mem_append_right _ h)) (by decide +kernel))
set_option maxRecDepth 20000 in
theorem gL_define_X5_define : GoodIn wsL_define (wsV RL 33 RX5 yX5_define wsX5_define) := goodIn_app (goodIn_of _ (by decide +kernel)) ggL_define_X5_define
set_option maxRecDepth 20000 in
theorem ggL_canBeEmpty_X5_canBeEmpty : GoodIn wsL_canBeEmpty wsX5_canBeEmpty := goodIn_ca (goodIn_r _ [6, 7, 8, 9, 10, 5, 11, 12, 13, 14, 15, 16, 17, 18, 19, 20, 21, 22, 23, 24, 25, 26, 27, 28, 29, 30, 31, 32, 33, 34, 35, 36, 37, 38, 39, 40, 41, 42, 43, 44, 45, 46, 47, 48, 49, 50, 51, 52, 53, 54, 55, 56] (by decide +kernel) (by decide +kernel)) (goodIn_sub (fun _ h => List.mem_cons_of_mem _ (List.mem_append_right _ h)) (by decide +kernel))
set_option maxRecDepth 20000 in
theorem gL_canBeEmpty_X5_canBeEmpty : GoodIn wsL_canBeEmpty (wsV RL 36 RX5 yX5_canBeEmpty wsX5_canBeEmpty) := goodIn_app (goodIn_of _ (by decide +kernel)) ggL_canBeEmpty_X5_canBeEmpty
set_option maxRecDepth 20000 in
theorem ggL_isLeftRecursive_X5_isLeftRecursive : GoodIn wsL_isLeftRecursive wsX5_isLeftRecursive := goodIn_ca (goodIn_r _ [6, 7, 8, 9, 5, 10, 11, 12, 13, 14, 15, 16, 17, 18, 19, 20, 21, 22, 23, 24, 25, 26, 27, 28, 29, 30, 31, 32, 33, 34, 35, 36, 37, 38, 39, 40, 41, 42, 43, 44, 45, 46, 47, 48, 49, 50, 51, 52, 53, 54, 55, 56, 57, 58, 59, 60, 61, 62, 63, 64, 65, 66, 67] (by decide +kernel) (by decide +kernel)) (goodIn_sub (fun _ h => List.mem_cons_of_mem _ (List.mem_append_right _ h)) (by decide +kernel))
set_option maxRecDepth 20000 in
theorem gL_isLeftRecursive_X5_isLeftRecursive : GoodIn wsL_isLeftRecursive (wsV RL 40 RX5 yX5_isLeftRecursive wsX5_isLeftRecursive) := goodIn_app (goodIn_of _ (by decide +kernel)) ggL_isLeftRecursive_X5_isLeftRecursive
set_option maxRecDepth 20000 in
theorem ggL_replace_X5_replace : GoodIn wsL_replace wsX5_replace := goodIn_ca (goodIn_ca (goodIn_ca (goodIn_r _ [8, 9, 10, 11, 12, 13, 14, 15, 16, 17, 18, 7, 19, 20, 21, 22, 23, 24, 25, 26, 27, 28, 29, 30, 31, 32, 33, 34, 35, 36, 37, 38, 39, 40, 41, 42, 43, 44, 45, 46, 47, 48, 49, 50, 51, 52, 53, 54, 55, 56, 57, 58, 59, 60, 61, 62, 63, 64, 65, 66, 67, 68, 69, 70, 71, 72, 73, 74, 75, 76] (by decide +kernel) (by decide +kernel)) (goodIn_sub (fun _ h => List.mem_cons_of_mem _ (List.mem_append_left _ (List.mem_append_left _ (List.mem_append_right _ h)))) (by decide +kernel))) (goodIn_sub (fun _ h => List.mem_cons_of_mem _ (List.mem_append_left _ (List.mem_append_right _ h))) (by decide +kernel))) (goodIn_sub (fun _ h => List.mem_cons_of_mem _ (List.mem_append_right _ h)) (by decide +kernel))
set_option maxRecDepth 20000 in
theorem gL_replace_X5_replace : GoodIn wsL_replace (wsV RL 43 RX5 yX5_replace wsX5_replace) := goodIn_app (goodIn_of _ (by decide +kernel)) ggL_replace_X5_replace
set_option maxRecDepth 20000 in
theorem ggL_byteAt_X5_byteAt : GoodIn wsL_byteAt wsX5_byteAt := goodIn_ca (goodIn_r _ [6, 7, 8, 9, 10, 11, 12, 13, 14, 15, 16, 17, 18, 19, 20, 21, 22, 23, 24, 25, 26, 27] (by decide +kernel) (by decide +kernel)) (goodIn_sub (fun _ h => List.mem_cons_of_mem _ (List.mem_append_right _ h)) (by decide +kernel))
set_option maxRecDepth 20000 in
theorem gL_byteAt_X5_byteAt : GoodIn wsL_byteAt (wsV RL 47 RX5 yX5_byteAt wsX5_byteAt) := goodIn_app (goodIn_of _ (by decide +kernel)) ggL_byteAt_X5_byteAt
