theorem dL_plain_0 : decode cL_plain 0 = .ok (.aload_n 2, 1) := by decide +kernel
theorem dL_plain_1 : decode cL_plain 1 = .ok (.iconst 0, 1) := by decide +kernel
theorem dL_plain_2 : decode cL_plain 2 = .ok (.aload_n 0, 1) := by decide +kernel
theorem dL_plain_3 : decode cL_plain 3 = .ok (.iload_n 1, 1) := by decide +kernel
theorem dL_plain_4 : decode cL_plain 4 = .ok (.invokevirtual 7, 3) := by decide +kernel
theorem dL_plain_7 : decode cL_plain 7 = .ok (.i2l, 1) := by decide +kernel
theorem dL_plain_8 : decode cL_plain 8 = .ok (.lastore, 1) := by decide +kernel
theorem dL_plain_9 : decode cL_plain 9 = .ok (.goto 9, 3) := by decide +kernel
theorem dL_plain_12 : decode cL_plain 12 = .ok (.astore_n 3, 1) := by decide +kernel
theorem dL_plain_13 : decode cL_plain 13 = .ok (.iconst 1, 1) := by decide +kernel
theorem dL_plain_14 : decode cL_plain 14 = .ok (.ireturn, 1) := by decide +kernel
theorem dL_plain_15 : decode cL_plain 15 = .ok (.astore_n 3, 1) := by decide +kernel
theorem dL_plain_16 : decode cL_plain 16 = .ok (.iconst 2, 1) := by decide +kernel
theorem dL_plain_17 : decode cL_plain 17 = .ok (.ireturn, 1) := by decide +kernel
theorem dL_plain_18 : decode cL_plain 18 = .ok (.iconst 0, 1) := by decide +kernel
theorem dL_plain_19 : decode cL_plain 19 = .ok (.ireturn, 1) := by decide +kernel
theorem dL_range_0 : decode cL_range 0 = .ok (.aload_n 3, 1) := by decide +kernel
theorem dL_range_1 : decode cL_range 1 = .ok (.iconst 0, 1) := by decide +kernel
theorem dL_range_2 : decode cL_range 2 = .ok (.aload_n 0, 1) := by decide +kernel
theorem dL_range_3 : decode cL_range 3 = .ok (.iload_n 1, 1) := by decide +kernel
theorem dL_range_4 : decode cL_range 4 = .ok (.iload_n 2, 1) := by decide +kernel
theorem dL_range_5 : decode cL_range 5 = .ok (.invokevirtual 17, 3) := by decide +kernel
theorem dL_range_8 : decode cL_range 8 = .ok (.i2l, 1) := by decide +kernel
theorem dL_range_9 : decode cL_range 9 = .ok (.lastore, 1) := by decide +kernel
theorem dL_range_10 : decode cL_range 10 = .ok (.goto 11, 3) := by decide +kernel
theorem dL_range_13 : decode cL_range 13 = .ok (.astore 4, 2) := by decide +kernel
theorem dL_range_15 : decode cL_range 15 = .ok (.iconst 1, 1) := by decide +kernel
theorem dL_range_16 : decode cL_range 16 = .ok (.ireturn, 1) := by decide +kernel
theorem dL_range_17 : decode cL_range 17 = .ok (.astore 4, 2) := by decide +kernel
theorem dL_range_19 : decode cL_range 19 = .ok (.iconst 2, 1) := by decide +kernel
theorem dL_range_20 : decode cL_range 20 = .ok (.ireturn, 1) := by decide +kernel
theorem dL_range_21 : decode cL_range 21 = .ok (.iconst 0, 1) := by decide +kernel
theorem dL_range_22 : decode cL_range 22 = .ok (.ireturn, 1) := by decide +kernel
theorem dL_rule_0 : decode cL_rule 0 = .ok (.aload_n 2, 1) := by decide +kernel
theorem dL_rule_1 : decode cL_rule 1 = .ok (.iconst 0, 1) := by decide +kernel
theorem dL_rule_2 : decode cL_rule 2 = .ok (.aload_n 0, 1) := by decide +kernel
theorem dL_rule_3 : decode cL_rule 3 = .ok (.iload_n 1, 1) := by decide +kernel
theorem dL_rule_4 : decode cL_rule 4 = .ok (.invokevirtual 21, 3) := by decide +kernel
theorem dL_rule_7 : decode cL_rule 7 = .ok (.i2l, 1) := by decide +kernel
theorem dL_rule_8 : decode cL_rule 8 = .ok (.lastore, 1) := by decide +kernel
theorem dL_rule_9 : decode cL_rule 9 = .ok (.goto 9, 3) := by decide +kernel
theorem dL_rule_12 : decode cL_rule 12 = .ok (.astore_n 3, 1) := by decide +kernel
theorem dL_rule_13 : decode cL_rule 13 = .ok (.iconst 1, 1) := by decide +kernel
theorem dL_rule_14 : decode cL_rule 14 = .ok (.ireturn, 1) := by decide +kernel
theorem dL_rule_15 : decode cL_rule 15 = .ok (.astore_n 3, 1) := by decide +kernel
theorem dL_rule_16 : decode cL_rule 16 = .ok (.iconst 2, 1) := by decide +kernel
theorem dL_rule_17 : decode cL_rule 17 = .ok (.ireturn, 1) := by decide +kernel
theorem dL_rule_18 : decode cL_rule 18 = .ok (.iconst 0, 1) := by decide +kernel
theorem dL_rule_19 : decode cL_rule 19 = .ok (.ireturn, 1) := by decide +kernel
theorem dL_join_0 : decode cL_join 0 = .ok (.aload 4, 2) := by decide +kernel
theorem dL_join_2 : decode cL_join 2 = .ok (.iconst 0, 1) := by decide +kernel
theorem dL_join_3 : decode cL_join 3 = .ok (.aload_n 0, 1) := by decide +kernel
theorem dL_join_4 : decode cL_join 4 = .ok (.iload_n 1, 1) := by decide +kernel
theorem dL_join_5 : decode cL_join 5 = .ok (.iload_n 2, 1) := by decide +kernel
theorem dL_join_6 : decode cL_join 6 = .ok (.iload_n 3, 1) := by decide +kernel
theorem dL_join_7 : decode cL_join 7 = .ok (.invokevirtual 26, 3) := by decide +kernel
theorem dL_join_10 : decode cL_join 10 = .ok (.i2l, 1) := by decide +kernel
theorem dL_join_11 : decode cL_join 11 = .ok (.lastore, 1) := by decide +kernel
theorem dL_join_12 : decode cL_join 12 = .ok (.goto 15, 3) := by decide +kernel
theorem dL_join_15 : decode cL_join 15 = .ok (.astore 5, 2) := by decide +kernel
theorem dL_join_17 : decode cL_join 17 = .ok (.iconst 1, 1) := by decide +kernel
theorem dL_join_18 : decode cL_join 18 = .ok (.ireturn, 1) := by decide +kernel
theorem dL_join_19 : decode cL_join 19 = .ok (.astore 5, 2) := by decide +kernel
theorem dL_join_21 : decode cL_join 21 = .ok (.iconst 2, 1) := by decide +kernel
theorem dL_join_22 : decode cL_join 22 = .ok (.ireturn, 1) := by decide +kernel
theorem dL_join_23 : decode cL_join 23 = .ok (.astore 5, 2) := by decide +kernel
theorem dL_join_25 : decode cL_join 25 = .ok (.iconst 3, 1) := by decide +kernel
theorem dL_join_26 : decode cL_join 26 = .ok (.ireturn, 1) := by decide +kernel
theorem dL_join_27 : decode cL_join 27 = .ok (.iconst 0, 1) := by decide +kernel
theorem dL_join_28 : decode cL_join 28 = .ok (.ireturn, 1) := by decide +kernel
theorem dL_wrap_0 : decode cL_wrap 0 = .ok (.aload_n 3, 1) := by decide +kernel
theorem dL_wrap_1 : decode cL_wrap 1 = .ok (.iconst 0, 1) := by decide +kernel
theorem dL_wrap_2 : decode cL_wrap 2 = .ok (.aload_n 0, 1) := by decide +kernel
theorem dL_wrap_3 : decode cL_wrap 3 = .ok (.iload_n 1, 1) := by decide +kernel
theorem dL_wrap_4 : decode cL_wrap 4 = .ok (.iload_n 2, 1) := by decide +kernel
theorem dL_wrap_5 : decode cL_wrap 5 = .ok (.invokevirtual 30, 3) := by decide +kernel
theorem dL_wrap_8 : decode cL_wrap 8 = .ok (.i2l, 1) := by decide +kernel
theorem dL_wrap_9 : decode cL_wrap 9 = .ok (.lastore, 1) := by decide +kernel
theorem dL_wrap_10 : decode cL_wrap 10 = .ok (.goto 15, 3) := by decide +kernel
theorem dL_wrap_13 : decode cL_wrap 13 = .ok (.astore 4, 2) := by decide +kernel
theorem dL_wrap_15 : decode cL_wrap 15 = .ok (.iconst 1, 1) := by decide +kernel
theorem dL_wrap_16 : decode cL_wrap 16 = .ok (.ireturn, 1) := by decide +kernel
theorem dL_wrap_17 : decode cL_wrap 17 = .ok (.astore 4, 2) := by decide +kernel
theorem dL_wrap_19 : decode cL_wrap 19 = .ok (.iconst 2, 1) := by decide +kernel
theorem dL_wrap_20 : decode cL_wrap 20 = .ok (.ireturn, 1) := by decide +kernel
theorem dL_wrap_21 : decode cL_wrap 21 = .ok (.astore 4, 2) := by decide +kernel
theorem dL_wrap_23 : decode cL_wrap 23 = .ok (.iconst 3, 1) := by decide +kernel
theorem dL_wrap_24 : decode cL_wrap 24 = .ok (.ireturn, 1) := by decide +kernel
theorem dL_wrap_25 : decode cL_wrap 25 = .ok (.iconst 0, 1) := by decide +kernel
theorem dL_wrap_26 : decode cL_wrap 26 = .ok (.ireturn, 1) := by decide +kernel
theorem dL_define_0 : decode cL_define 0 = .ok (.aload_n 3, 1) := by decide +kernel
theorem dL_define_1 : decode cL_define 1 = .ok (.iconst 0, 1) := by decide +kernel
theorem dL_define_2 : decode cL_define 2 = .ok (.aload_n 0, 1) := by decide +kernel
theorem dL_define_3 : decode cL_define 3 = .ok (.iload_n 1, 1) := by decide +kernel
theorem dL_define_4 : decode cL_define 4 = .ok (.iload_n 2, 1) := by decide +kernel
theorem dL_define_5 : decode cL_define 5 = .ok (.invokevirtual 33, 3) := by decide +kernel
theorem dL_define_8 : decode cL_define 8 = .ok (.i2l, 1) := by decide +kernel
theorem dL_define_9 : decode cL_define 9 = .ok (.lastore, 1) := by decide +kernel
theorem dL_define_10 : decode cL_define 10 = .ok (.goto 7, 3) := by decide +kernel
theorem dL_define_13 : decode cL_define 13 = .ok (.astore 4, 2) := by decide +kernel
theorem dL_define_15 : decode cL_define 15 = .ok (.iconst 1, 1) := by decide +kernel
theorem dL_define_16 : decode cL_define 16 = .ok (.ireturn, 1) := by decide +kernel
theorem dL_define_17 : decode cL_define 17 = .ok (.iconst 0, 1) := by decide +kernel
theorem dL_define_18 : decode cL_define 18 = .ok (.ireturn, 1) := by decide +kernel
theorem dL_canBeEmpty_0 : decode cL_canBeEmpty 0 = .ok (.aload_n 2, 1) := by decide +kernel
theorem dL_canBeEmpty_1 : decode cL_canBeEmpty 1 = .ok (.iconst 0, 1) := by decide +kernel
theorem dL_canBeEmpty_2 : decode cL_canBeEmpty 2 = .ok (.aload_n 0, 1) := by decide +kernel
theorem dL_canBeEmpty_3 : decode cL_canBeEmpty 3 = .ok (.iload_n 1, 1) := by decide +kernel
theorem dL_canBeEmpty_4 : decode cL_canBeEmpty 4 = .ok (.invokevirtual 36, 3) := by decide +kernel
theorem dL_canBeEmpty_7 : decode cL_canBeEmpty 7 = .ok (.ifCond .eq 7, 3) := by decide +kernel
theorem dL_canBeEmpty_10 : decode cL_canBeEmpty 10 = .ok (.lconst 1, 1) := by decide +kernel
theorem dL_canBeEmpty_11 : decode cL_canBeEmpty 11 = .ok (.goto 4, 3) := by decide +kernel
theorem dL_canBeEmpty_14 : decode cL_canBeEmpty 14 = .ok (.lconst 0, 1) := by decide +kernel
theorem dL_canBeEmpty_15 : decode cL_canBeEmpty 15 = .ok (.lastore, 1) := by decide +kernel
theorem dL_canBeEmpty_16 : decode cL_canBeEmpty 16 = .ok (.goto 6, 3) := by decide +kernel
theorem dL_canBeEmpty_19 : decode cL_canBeEmpty 19 = .ok (.astore_n 3, 1) := by decide +kernel
theorem dL_canBeEmpty_20 : decode cL_canBeEmpty 20 = .ok (.iconst 1, 1) := by decide +kernel
theorem dL_canBeEmpty_21 : decode cL_canBeEmpty 21 = .ok (.ireturn, 1) := by decide +kernel
theorem dL_canBeEmpty_22 : decode cL_canBeEmpty 22 = .ok (.iconst 0, 1) := by decide +kernel
theorem dL_canBeEmpty_23 : decode cL_canBeEmpty 23 = .ok (.ireturn, 1) := by decide +kernel
theorem dL_isLeftRecursive_0 : decode cL_isLeftRecursive 0 = .ok (.aload_n 2, 1) := by decide +kernel
theorem dL_isLeftRecursive_1 : decode cL_isLeftRecursive 1 = .ok (.iconst 0, 1) := by decide +kernel
theorem dL_isLeftRecursive_2 : decode cL_isLeftRecursive 2 = .ok (.aload_n 0, 1) := by decide +kernel
theorem dL_isLeftRecursive_3 : decode cL_isLeftRecursive 3 = .ok (.iload_n 1, 1) := by decide +kernel
theorem dL_isLeftRecursive_4 : decode cL_isLeftRecursive 4 = .ok (.invokevirtual 40, 3) := by decide +kernel
theorem dL_isLeftRecursive_7 : decode cL_isLeftRecursive 7 = .ok (.ifCond .eq 7, 3) := by decide +kernel
theorem dL_isLeftRecursive_10 : decode cL_isLeftRecursive 10 = .ok (.lconst 1, 1) := by decide +kernel
theorem dL_isLeftRecursive_11 : decode cL_isLeftRecursive 11 = .ok (.goto 4, 3) := by decide +kernel
theorem dL_isLeftRecursive_14 : decode cL_isLeftRecursive 14 = .ok (.lconst 0, 1) := by decide +kernel
theorem dL_isLeftRecursive_15 : decode cL_isLeftRecursive 15 = .ok (.lastore, 1) := by decide +kernel
theorem dL_isLeftRecursive_16 : decode cL_isLeftRecursive 16 = .ok (.goto 6, 3) := by decide +kernel
theorem dL_isLeftRecursive_19 : decode cL_isLeftRecursive 19 = .ok (.astore_n 3, 1) := by decide +kernel
theorem dL_isLeftRecursive_20 : decode cL_isLeftRecursive 20 = .ok (.iconst 1, 1) := by decide +kernel
theorem dL_isLeftRecursive_21 : decode cL_isLeftRecursive 21 = .ok (.ireturn, 1) := by decide +kernel
theorem dL_isLeftRecursive_22 : decode cL_isLeftRecursive 22 = .ok (.iconst 0, 1) := by decide +kernel
theorem dL_isLeftRecursive_23 : decode cL_isLeftRecursive 23 = .ok (.ireturn, 1) := by decide +kernel
theorem dL_replace_0 : decode cL_replace 0 = .ok (.aload 5, 2) := by decide +kernel
theorem dL_replace_2 : decode cL_replace 2 = .ok (.iconst 0, 1) := by decide +kernel
theorem dL_replace_3 : decode cL_replace 3 = .ok (.aload_n 0, 1) := by decide +kernel
theorem dL_replace_4 : decode cL_replace 4 = .ok (.iload_n 1, 1) := by decide +kernel
theorem dL_replace_5 : decode cL_replace 5 = .ok (.iload_n 2, 1) := by decide +kernel
theorem dL_replace_6 : decode cL_replace 6 = .ok (.lload_n 3, 1) := by decide +kernel
theorem dL_replace_7 : decode cL_replace 7 = .ok (.invokevirtual 43, 3) := by decide +kernel
theorem dL_replace_10 : decode cL_replace 10 = .ok (.i2l, 1) := by decide +kernel
theorem dL_replace_11 : decode cL_replace 11 = .ok (.lastore, 1) := by decide +kernel
theorem dL_replace_12 : decode cL_replace 12 = .ok (.goto 15, 3) := by decide +kernel
theorem dL_replace_15 : decode cL_replace 15 = .ok (.astore 6, 2) := by decide +kernel
theorem dL_replace_17 : decode cL_replace 17 = .ok (.iconst 1, 1) := by decide +kernel
theorem dL_replace_18 : decode cL_replace 18 = .ok (.ireturn, 1) := by decide +kernel
theorem dL_replace_19 : decode cL_replace 19 = .ok (.astore 6, 2) := by decide +kernel
theorem dL_replace_21 : decode cL_replace 21 = .ok (.iconst 2, 1) := by decide +kernel
theorem dL_replace_22 : decode cL_replace 22 = .ok (.ireturn, 1) := by decide +kernel
theorem dL_replace_23 : decode cL_replace 23 = .ok (.astore 6, 2) := by decide +kernel
theorem dL_replace_25 : decode cL_replace 25 = .ok (.iconst 3, 1) := by decide +kernel
theorem dL_replace_26 : decode cL_replace 26 = .ok (.ireturn, 1) := by decide +kernel
theorem dL_replace_27 : decode cL_replace 27 = .ok (.iconst 0, 1) := by decide +kernel
theorem dL_replace_28 : decode cL_replace 28 = .ok (.ireturn, 1) := by decide +kernel
theorem dL_byteAt_0 : decode cL_byteAt 0 = .ok (.aload_n 2, 1) := by decide +kernel
theorem dL_byteAt_1 : decode cL_byteAt 1 = .ok (.iconst 0, 1) := by decide +kernel
theorem dL_byteAt_2 : decode cL_byteAt 2 = .ok (.aload_n 0, 1) := by decide +kernel
theorem dL_byteAt_3 : decode cL_byteAt 3 = .ok (.iload_n 1, 1) := by decide +kernel
theorem dL_byteAt_4 : decode cL_byteAt 4 = .ok (.invokevirtual 47, 3) := by decide +kernel
theorem dL_byteAt_7 : decode cL_byteAt 7 = .ok (.i2l, 1) := by decide +kernel
theorem dL_byteAt_8 : decode cL_byteAt 8 = .ok (.lastore, 1) := by decide +kernel
theorem dL_byteAt_9 : decode cL_byteAt 9 = .ok (.goto 6, 3) := by decide +kernel
theorem dL_byteAt_12 : decode cL_byteAt 12 = .ok (.astore_n 3, 1) := by decide +kernel
theorem dL_byteAt_13 : decode cL_byteAt 13 = .ok (.iconst 1, 1) := by decide +kernel
theorem dL_byteAt_14 : decode cL_byteAt 14 = .ok (.ireturn, 1) := by decide +kernel
theorem dL_byteAt_15 : decode cL_byteAt 15 = .ok (.iconst 0, 1) := by decide +kernel
theorem dL_byteAt_16 : decode cL_byteAt 16 = .ok (.ireturn, 1) := by decide +kernel
theorem dL_parse_0 : decode cL_parse 0 = .ok (.aload_n 3, 1) := by decide +kernel
theorem dL_parse_1 : decode cL_parse 1 = .ok (.iconst 0, 1) := by decide +kernel
theorem dL_parse_2 : decode cL_parse 2 = .ok (.aload_n 0, 1) := by decide +kernel
theorem dL_parse_3 : decode cL_parse 3 = .ok (.iload_n 1, 1) := by decide +kernel
theorem dL_parse_4 : decode cL_parse 4 = .ok (.iload_n 2, 1) := by decide +kernel
theorem dL_parse_5 : decode cL_parse 5 = .ok (.invokevirtual 50, 3) := by decide +kernel
theorem dL_parse_8 : decode cL_parse 8 = .ok (.i2l, 1) := by decide +kernel
theorem dL_parse_9 : decode cL_parse 9 = .ok (.lastore, 1) := by decide +kernel
theorem dL_parse_10 : decode cL_parse 10 = .ok (.goto 7, 3) := by decide +kernel
theorem dL_parse_13 : decode cL_parse 13 = .ok (.astore 4, 2) := by decide +kernel
theorem dL_parse_15 : decode cL_parse 15 = .ok (.iconst 1, 1) := by decide +kernel
theorem dL_parse_16 : decode cL_parse 16 = .ok (.ireturn, 1) := by decide +kernel
theorem dL_parse_17 : decode cL_parse 17 = .ok (.iconst 0, 1) := by decide +kernel
theorem dL_parse_18 : decode cL_parse 18 = .ok (.ireturn, 1) := by decide +kernel
theorem dL_result_0 : decode cL_result 0 = .ok (.aload_n 3, 1) := by decide +kernel
theorem dL_result_1 : decode cL_result 1 = .ok (.iconst 0, 1) := by decide +kernel
theorem dL_result_2 : decode cL_result 2 = .ok (.aload_n 0, 1) := by decide +kernel
theorem dL_result_3 : decode cL_result 3 = .ok (.iload_n 1, 1) := by decide +kernel
theorem dL_result_4 : decode cL_result 4 = .ok (.iload_n 2, 1) := by decide +kernel
theorem dL_result_5 : decode cL_result 5 = .ok (.invokevirtual 53, 3) := by decide +kernel
theorem dL_result_8 : decode cL_result 8 = .ok (.i2l, 1) := by decide +kernel
theorem dL_result_9 : decode cL_result 9 = .ok (.lastore, 1) := by decide +kernel
theorem dL_result_10 : decode cL_result 10 = .ok (.goto 7, 3) := by decide +kernel
theorem dL_result_13 : decode cL_result 13 = .ok (.astore 4, 2) := by decide +kernel
theorem dL_result_15 : decode cL_result 15 = .ok (.iconst 1, 1) := by decide +kernel
theorem dL_result_16 : decode cL_result 16 = .ok (.ireturn, 1) := by decide +kernel
theorem dL_result_17 : decode cL_result 17 = .ok (.iconst 0, 1) := by decide +kernel
theorem dL_result_18 : decode cL_result 18 = .ok (.ireturn, 1) := by decide +kernel
theorem dL_reach_0 : decode cL_reach 0 = .ok (.aload_n 3, 1) := by decide +kernel
theorem dL_reach_1 : decode cL_reach 1 = .ok (.iconst 0, 1) := by decide +kernel
theorem dL_reach_2 : decode cL_reach 2 = .ok (.aload_n 0, 1) := by decide +kernel
theorem dL_reach_3 : decode cL_reach 3 = .ok (.iload_n 1, 1) := by decide +kernel
theorem dL_reach_4 : decode cL_reach 4 = .ok (.iload_n 2, 1) := by decide +kernel
theorem dL_reach_5 : decode cL_reach 5 = .ok (.invokevirtual 56, 3) := by decide +kernel
theorem dL_reach_8 : decode cL_reach 8 = .ok (.i2l, 1) := by decide +kernel
theorem dL_reach_9 : decode cL_reach 9 = .ok (.lastore, 1) := by decide +kernel
theorem dL_reach_10 : decode cL_reach 10 = .ok (.goto 7, 3) := by decide +kernel
theorem dL_reach_13 : decode cL_reach 13 = .ok (.astore 4, 2) := by decide +kernel
theorem dL_reach_15 : decode cL_reach 15 = .ok (.iconst 1, 1) := by decide +kernel
theorem dL_reach_16 : decode cL_reach 16 = .ok (.ireturn, 1) := by decide +kernel
theorem dL_reach_17 : decode cL_reach 17 = .ok (.iconst 0, 1) := by decide +kernel
theorem dL_reach_18 : decode cL_reach 18 = .ok (.ireturn, 1) := by decide +kernel
theorem dL_law_0 : decode cL_law 0 = .ok (.new 8, 3) := by decide +kernel
theorem dL_law_3 : decode cL_law 3 = .ok (.dup, 1) := by decide +kernel
theorem dL_law_4 : decode cL_law 4 = .ok (.invokespecial 59, 3) := by decide +kernel
theorem dL_law_7 : decode cL_law 7 = .ok (.astore_n 1, 1) := by decide +kernel
theorem dL_law_8 : decode cL_law 8 = .ok (.new 60, 3) := by decide +kernel
theorem dL_law_11 : decode cL_law 11 = .ok (.dup, 1) := by decide +kernel
theorem dL_law_12 : decode cL_law 12 = .ok (.invokespecial 62, 3) := by decide +kernel
theorem dL_law_15 : decode cL_law 15 = .ok (.astore_n 2, 1) := by decide +kernel
theorem dL_law_16 : decode cL_law 16 = .ok (.iconst 1, 1) := by decide +kernel
theorem dL_law_17 : decode cL_law 17 = .ok (.newarray .long, 2) := by decide +kernel
theorem dL_law_19 : decode cL_law 19 = .ok (.astore_n 3, 1) := by decide +kernel
theorem dL_law_20 : decode cL_law 20 = .ok (.iconst 0, 1) := by decide +kernel
theorem dL_law_21 : decode cL_law 21 = .ok (.istore 4, 2) := by decide +kernel
theorem dL_law_23 : decode cL_law 23 = .ok (.iload 4, 2) := by decide +kernel
theorem dL_law_25 : decode cL_law 25 = .ok (.aload_n 0, 1) := by decide +kernel
theorem dL_law_26 : decode cL_law 26 = .ok (.arraylength, 1) := by decide +kernel
theorem dL_law_27 : decode cL_law 27 = .ok (.iconst 5, 1) := by decide +kernel
theorem dL_law_28 : decode cL_law 28 = .ok (.isub, 1) := by decide +kernel
theorem dL_law_29 : decode cL_law 29 = .ok (.if_icmp .gt 1129, 3) := by decide +kernel
theorem dL_law_32 : decode cL_law 32 = .ok (.aload_n 0, 1) := by decide +kernel
theorem dL_law_33 : decode cL_law 33 = .ok (.iload 4, 2) := by decide +kernel
theorem dL_law_35 : decode cL_law 35 = .ok (.iaload, 1) := by decide +kernel
theorem dL_law_36 : decode cL_law 36 = .ok (.bipush 31, 2) := by decide +kernel
theorem dL_law_38 : decode cL_law 38 = .ok (.iand, 1) := by decide +kernel
theorem dL_law_39 : decode cL_law 39 = .ok (.tableswitch 1113 0 21 #[101, 157, 225, 281, 361, 429, 497, 510, 573, 636, 748, 761, 817, 885, 898, 911, 924, 937, 950, 1018, 1086, 1099], 101) := by decide +kernel
theorem dL_law_140 : decode cL_law 140 = .ok (.aload_n 1, 1) := by decide +kernel
theorem dL_law_141 : decode cL_law 141 = .ok (.aload_n 0, 1) := by decide +kernel
theorem dL_law_142 : decode cL_law 142 = .ok (.iload 4, 2) := by decide +kernel
theorem dL_law_144 : decode cL_law 144 = .ok (.iconst 1, 1) := by decide +kernel
theorem dL_law_145 : decode cL_law 145 = .ok (.iadd, 1) := by decide +kernel
theorem dL_law_146 : decode cL_law 146 = .ok (.iaload, 1) := by decide +kernel
theorem dL_law_147 : decode cL_law 147 = .ok (.aload_n 3, 1) := by decide +kernel
theorem dL_law_148 : decode cL_law 148 = .ok (.invokestatic 63, 3) := by decide +kernel
theorem dL_law_151 : decode cL_law 151 = .ok (.istore 5, 2) := by decide +kernel
theorem dL_law_153 : decode cL_law 153 = .ok (.aload_n 2, 1) := by decide +kernel
theorem dL_law_154 : decode cL_law 154 = .ok (.aload_n 0, 1) := by decide +kernel
theorem dL_law_155 : decode cL_law 155 = .ok (.iload 4, 2) := by decide +kernel
theorem dL_law_157 : decode cL_law 157 = .ok (.iconst 1, 1) := by decide +kernel
theorem dL_law_158 : decode cL_law 158 = .ok (.iadd, 1) := by decide +kernel
theorem dL_law_159 : decode cL_law 159 = .ok (.iaload, 1) := by decide +kernel
theorem dL_law_160 : decode cL_law 160 = .ok (.invokevirtual 68, 3) := by decide +kernel
theorem dL_law_163 : decode cL_law 163 = .ok (.istore 6, 2) := by decide +kernel
theorem dL_law_165 : decode cL_law 165 = .ok (.aload_n 2, 1) := by decide +kernel
theorem dL_law_166 : decode cL_law 166 = .ok (.invokevirtual 69, 3) := by decide +kernel
theorem dL_law_169 : decode cL_law 169 = .ok (.iload 5, 2) := by decide +kernel
theorem dL_law_171 : decode cL_law 171 = .ok (.if_icmp .eq 5, 3) := by decide +kernel
theorem dL_law_174 : decode cL_law 174 = .ok (.iconst 0, 1) := by decide +kernel
theorem dL_law_175 : decode cL_law 175 = .ok (.ireturn, 1) := by decide +kernel
theorem dL_law_176 : decode cL_law 176 = .ok (.iload 5, 2) := by decide +kernel
theorem dL_law_178 : decode cL_law 178 = .ok (.ifCond .ne 15, 3) := by decide +kernel
theorem dL_law_181 : decode cL_law 181 = .ok (.aload_n 3, 1) := by decide +kernel
theorem dL_law_182 : decode cL_law 182 = .ok (.iconst 0, 1) := by decide +kernel
theorem dL_law_183 : decode cL_law 183 = .ok (.laload, 1) := by decide +kernel
theorem dL_law_184 : decode cL_law 184 = .ok (.iload 6, 2) := by decide +kernel
theorem dL_law_186 : decode cL_law 186 = .ok (.i2l, 1) := by decide +kernel
theorem dL_law_187 : decode cL_law 187 = .ok (.lcmp, 1) := by decide +kernel
theorem dL_law_188 : decode cL_law 188 = .ok (.ifCond .eq 5, 3) := by decide +kernel
theorem dL_law_191 : decode cL_law 191 = .ok (.iconst 0, 1) := by decide +kernel
theorem dL_law_192 : decode cL_law 192 = .ok (.ireturn, 1) := by decide +kernel
theorem dL_law_193 : decode cL_law 193 = .ok (.goto 959, 3) := by decide +kernel
theorem dL_law_196 : decode cL_law 196 = .ok (.aload_n 1, 1) := by decide +kernel
theorem dL_law_197 : decode cL_law 197 = .ok (.aload_n 0, 1) := by decide +kernel
theorem dL_law_198 : decode cL_law 198 = .ok (.iload 4, 2) := by decide +kernel
theorem dL_law_200 : decode cL_law 200 = .ok (.iconst 1, 1) := by decide +kernel
theorem dL_law_201 : decode cL_law 201 = .ok (.iadd, 1) := by decide +kernel
theorem dL_law_202 : decode cL_law 202 = .ok (.iaload, 1) := by decide +kernel
theorem dL_law_203 : decode cL_law 203 = .ok (.aload_n 0, 1) := by decide +kernel
theorem dL_law_204 : decode cL_law 204 = .ok (.iload 4, 2) := by decide +kernel
theorem dL_law_206 : decode cL_law 206 = .ok (.iconst 2, 1) := by decide +kernel
theorem dL_law_207 : decode cL_law 207 = .ok (.iadd, 1) := by decide +kernel
theorem dL_law_208 : decode cL_law 208 = .ok (.iaload, 1) := by decide +kernel
theorem dL_law_209 : decode cL_law 209 = .ok (.aload_n 3, 1) := by decide +kernel
theorem dL_law_210 : decode cL_law 210 = .ok (.invokestatic 73, 3) := by decide +kernel
theorem dL_law_213 : decode cL_law 213 = .ok (.istore 5, 2) := by decide +kernel
theorem dL_law_215 : decode cL_law 215 = .ok (.aload_n 2, 1) := by decide +kernel
theorem dL_law_216 : decode cL_law 216 = .ok (.aload_n 0, 1) := by decide +kernel
theorem dL_law_217 : decode cL_law 217 = .ok (.iload 4, 2) := by decide +kernel
theorem dL_law_219 : decode cL_law 219 = .ok (.iconst 1, 1) := by decide +kernel
theorem dL_law_220 : decode cL_law 220 = .ok (.iadd, 1) := by decide +kernel
theorem dL_law_221 : decode cL_law 221 = .ok (.iaload, 1) := by decide +kernel
theorem dL_law_222 : decode cL_law 222 = .ok (.aload_n 0, 1) := by decide +kernel
theorem dL_law_223 : decode cL_law 223 = .ok (.iload 4, 2) := by decide +kernel
theorem dL_law_225 : decode cL_law 225 = .ok (.iconst 2, 1) := by decide +kernel
theorem dL_law_226 : decode cL_law 226 = .ok (.iadd, 1) := by decide +kernel
theorem dL_law_227 : decode cL_law 227 = .ok (.iaload, 1) := by decide +kernel
theorem dL_law_228 : decode cL_law 228 = .ok (.invokevirtual 76, 3) := by decide +kernel
theorem dL_law_231 : decode cL_law 231 = .ok (.istore 6, 2) := by decide +kernel
theorem dL_law_233 : decode cL_law 233 = .ok (.aload_n 2, 1) := by decide +kernel
theorem dL_law_234 : decode cL_law 234 = .ok (.invokevirtual 69, 3) := by decide +kernel
theorem dL_law_237 : decode cL_law 237 = .ok (.iload 5, 2) := by decide +kernel
theorem dL_law_239 : decode cL_law 239 = .ok (.if_icmp .eq 5, 3) := by decide +kernel
theorem dL_law_242 : decode cL_law 242 = .ok (.iconst 0, 1) := by decide +kernel
theorem dL_law_243 : decode cL_law 243 = .ok (.ireturn, 1) := by decide +kernel
theorem dL_law_244 : decode cL_law 244 = .ok (.iload 5, 2) := by decide +kernel
theorem dL_law_246 : decode cL_law 246 = .ok (.ifCond .ne 15, 3) := by decide +kernel
theorem dL_law_249 : decode cL_law 249 = .ok (.aload_n 3, 1) := by decide +kernel
theorem dL_law_250 : decode cL_law 250 = .ok (.iconst 0, 1) := by decide +kernel
theorem dL_law_251 : decode cL_law 251 = .ok (.laload, 1) := by decide +kernel
theorem dL_law_252 : decode cL_law 252 = .ok (.iload 6, 2) := by decide +kernel
theorem dL_law_254 : decode cL_law 254 = .ok (.i2l, 1) := by decide +kernel
theorem dL_law_255 : decode cL_law 255 = .ok (.lcmp, 1) := by decide +kernel
theorem dL_law_256 : decode cL_law 256 = .ok (.ifCond .eq 5, 3) := by decide +kernel
theorem dL_law_259 : decode cL_law 259 = .ok (.iconst 0, 1) := by decide +kernel
theorem dL_law_260 : decode cL_law 260 = .ok (.ireturn, 1) := by decide +kernel
theorem dL_law_261 : decode cL_law 261 = .ok (.goto 891, 3) := by decide +kernel
theorem dL_law_264 : decode cL_law 264 = .ok (.aload_n 1, 1) := by decide +kernel
theorem dL_law_265 : decode cL_law 265 = .ok (.aload_n 0, 1) := by decide +kernel
theorem dL_law_266 : decode cL_law 266 = .ok (.iload 4, 2) := by decide +kernel
theorem dL_law_268 : decode cL_law 268 = .ok (.iconst 1, 1) := by decide +kernel
theorem dL_law_269 : decode cL_law 269 = .ok (.iadd, 1) := by decide +kernel
theorem dL_law_270 : decode cL_law 270 = .ok (.iaload, 1) := by decide +kernel
theorem dL_law_271 : decode cL_law 271 = .ok (.aload_n 3, 1) := by decide +kernel
theorem dL_law_272 : decode cL_law 272 = .ok (.invokestatic 77, 3) := by decide +kernel
theorem dL_law_275 : decode cL_law 275 = .ok (.istore 5, 2) := by decide +kernel
theorem dL_law_277 : decode cL_law 277 = .ok (.aload_n 2, 1) := by decide +kernel
theorem dL_law_278 : decode cL_law 278 = .ok (.aload_n 0, 1) := by decide +kernel
theorem dL_law_279 : decode cL_law 279 = .ok (.iload 4, 2) := by decide +kernel
theorem dL_law_281 : decode cL_law 281 = .ok (.iconst 1, 1) := by decide +kernel
theorem dL_law_282 : decode cL_law 282 = .ok (.iadd, 1) := by decide +kernel
theorem dL_law_283 : decode cL_law 283 = .ok (.iaload, 1) := by decide +kernel
theorem dL_law_284 : decode cL_law 284 = .ok (.invokevirtual 79, 3) := by decide +kernel
theorem dL_law_287 : decode cL_law 287 = .ok (.istore 6, 2) := by decide +kernel
theorem dL_law_289 : decode cL_law 289 = .ok (.aload_n 2, 1) := by decide +kernel
theorem dL_law_290 : decode cL_law 290 = .ok (.invokevirtual 69, 3) := by decide +kernel
theorem dL_law_293 : decode cL_law 293 = .ok (.iload 5, 2) := by decide +kernel
theorem dL_law_295 : decode cL_law 295 = .ok (.if_icmp .eq 5, 3) := by decide +kernel
theorem dL_law_298 : decode cL_law 298 = .ok (.iconst 0, 1) := by decide +kernel
theorem dL_law_299 : decode cL_law 299 = .ok (.ireturn, 1) := by decide +kernel
theorem dL_law_300 : decode cL_law 300 = .ok (.iload 5, 2) := by decide +kernel
theorem dL_law_302 : decode cL_law 302 = .ok (.ifCond .ne 15, 3) := by decide +kernel
theorem dL_law_305 : decode cL_law 305 = .ok (.aload_n 3, 1) := by decide +kernel
theorem dL_law_306 : decode cL_law 306 = .ok (.iconst 0, 1) := by decide +kernel
theorem dL_law_307 : decode cL_law 307 = .ok (.laload, 1) := by decide +kernel
theorem dL_law_308 : decode cL_law 308 = .ok (.iload 6, 2) := by decide +kernel
theorem dL_law_310 : decode cL_law 310 = .ok (.i2l, 1) := by decide +kernel
theorem dL_law_311 : decode cL_law 311 = .ok (.lcmp, 1) := by decide +kernel
theorem dL_law_312 : decode cL_law 312 = .ok (.ifCond .eq 5, 3) := by decide +kernel
theorem dL_law_315 : decode cL_law 315 = .ok (.iconst 0, 1) := by decide +kernel
theorem dL_law_316 : decode cL_law 316 = .ok (.ireturn, 1) := by decide +kernel
theorem dL_law_317 : decode cL_law 317 = .ok (.goto 835, 3) := by decide +kernel
theorem dL_law_320 : decode cL_law 320 = .ok (.aload_n 1, 1) := by decide +kernel
theorem dL_law_321 : decode cL_law 321 = .ok (.aload_n 0, 1) := by decide +kernel
theorem dL_law_322 : decode cL_law 322 = .ok (.iload 4, 2) := by decide +kernel
theorem dL_law_324 : decode cL_law 324 = .ok (.iconst 1, 1) := by decide +kernel
theorem dL_law_325 : decode cL_law 325 = .ok (.iadd, 1) := by decide +kernel
theorem dL_law_326 : decode cL_law 326 = .ok (.iaload, 1) := by decide +kernel
theorem dL_law_327 : decode cL_law 327 = .ok (.aload_n 0, 1) := by decide +kernel
theorem dL_law_328 : decode cL_law 328 = .ok (.iload 4, 2) := by decide +kernel
theorem dL_law_330 : decode cL_law 330 = .ok (.iconst 2, 1) := by decide +kernel
theorem dL_law_331 : decode cL_law 331 = .ok (.iadd, 1) := by decide +kernel
theorem dL_law_332 : decode cL_law 332 = .ok (.iaload, 1) := by decide +kernel
theorem dL_law_333 : decode cL_law 333 = .ok (.aload_n 0, 1) := by decide +kernel
theorem dL_law_334 : decode cL_law 334 = .ok (.iload 4, 2) := by decide +kernel
theorem dL_law_336 : decode cL_law 336 = .ok (.iconst 3, 1) := by decide +kernel
theorem dL_law_337 : decode cL_law 337 = .ok (.iadd, 1) := by decide +kernel
theorem dL_law_338 : decode cL_law 338 = .ok (.iaload, 1) := by decide +kernel
theorem dL_law_339 : decode cL_law 339 = .ok (.aload_n 3, 1) := by decide +kernel
theorem dL_law_340 : decode cL_law 340 = .ok (.invokestatic 80, 3) := by decide +kernel
theorem dL_law_343 : decode cL_law 343 = .ok (.istore 5, 2) := by decide +kernel
theorem dL_law_345 : decode cL_law 345 = .ok (.aload_n 2, 1) := by decide +kernel
theorem dL_law_346 : decode cL_law 346 = .ok (.aload_n 0, 1) := by decide +kernel
theorem dL_law_347 : decode cL_law 347 = .ok (.iload 4, 2) := by decide +kernel
theorem dL_law_349 : decode cL_law 349 = .ok (.iconst 1, 1) := by decide +kernel
theorem dL_law_350 : decode cL_law 350 = .ok (.iadd, 1) := by decide +kernel
theorem dL_law_351 : decode cL_law 351 = .ok (.iaload, 1) := by decide +kernel
theorem dL_law_352 : decode cL_law 352 = .ok (.aload_n 0, 1) := by decide +kernel
theorem dL_law_353 : decode cL_law 353 = .ok (.iload 4, 2) := by decide +kernel
theorem dL_law_355 : decode cL_law 355 = .ok (.iconst 2, 1) := by decide +kernel
theorem dL_law_356 : decode cL_law 356 = .ok (.iadd, 1) := by decide +kernel
theorem dL_law_357 : decode cL_law 357 = .ok (.iaload, 1) := by decide +kernel
theorem dL_law_358 : decode cL_law 358 = .ok (.aload_n 0, 1) := by decide +kernel
theorem dL_law_359 : decode cL_law 359 = .ok (.iload 4, 2) := by decide +kernel
theorem dL_law_361 : decode cL_law 361 = .ok (.iconst 3, 1) := by decide +kernel
theorem dL_law_362 : decode cL_law 362 = .ok (.iadd, 1) := by decide +kernel
theorem dL_law_363 : decode cL_law 363 = .ok (.iaload, 1) := by decide +kernel
theorem dL_law_364 : decode cL_law 364 = .ok (.invokevirtual 83, 3) := by decide +kernel
theorem dL_law_367 : decode cL_law 367 = .ok (.istore 6, 2) := by decide +kernel
theorem dL_law_369 : decode cL_law 369 = .ok (.aload_n 2, 1) := by decide +kernel
theorem dL_law_370 : decode cL_law 370 = .ok (.invokevirtual 69, 3) := by decide +kernel
theorem dL_law_373 : decode cL_law 373 = .ok (.iload 5, 2) := by decide +kernel
theorem dL_law_375 : decode cL_law 375 = .ok (.if_icmp .eq 5, 3) := by decide +kernel
theorem dL_law_378 : decode cL_law 378 = .ok (.iconst 0, 1) := by decide +kernel
theorem dL_law_379 : decode cL_law 379 = .ok (.ireturn, 1) := by decide +kernel
theorem dL_law_380 : decode cL_law 380 = .ok (.iload 5, 2) := by decide +kernel
theorem dL_law_382 : decode cL_law 382 = .ok (.ifCond .ne 15, 3) := by decide +kernel
theorem dL_law_385 : decode cL_law 385 = .ok (.aload_n 3, 1) := by decide +kernel
theorem dL_law_386 : decode cL_law 386 = .ok (.iconst 0, 1) := by decide +kernel
theorem dL_law_387 : decode cL_law 387 = .ok (.laload, 1) := by decide +kernel
theorem dL_law_388 : decode cL_law 388 = .ok (.iload 6, 2) := by decide +kernel
theorem dL_law_390 : decode cL_law 390 = .ok (.i2l, 1) := by decide +kernel
theorem dL_law_391 : decode cL_law 391 = .ok (.lcmp, 1) := by decide +kernel
theorem dL_law_392 : decode cL_law 392 = .ok (.ifCond .eq 5, 3) := by decide +kernel
theorem dL_law_395 : decode cL_law 395 = .ok (.iconst 0, 1) := by decide +kernel
theorem dL_law_396 : decode cL_law 396 = .ok (.ireturn, 1) := by decide +kernel
theorem dL_law_397 : decode cL_law 397 = .ok (.goto 755, 3) := by decide +kernel
theorem dL_law_400 : decode cL_law 400 = .ok (.aload_n 1, 1) := by decide +kernel
theorem dL_law_401 : decode cL_law 401 = .ok (.aload_n 0, 1) := by decide +kernel
theorem dL_law_402 : decode cL_law 402 = .ok (.iload 4, 2) := by decide +kernel
theorem dL_law_404 : decode cL_law 404 = .ok (.iconst 1, 1) := by decide +kernel
theorem dL_law_405 : decode cL_law 405 = .ok (.iadd, 1) := by decide +kernel
theorem dL_law_406 : decode cL_law 406 = .ok (.iaload, 1) := by decide +kernel
theorem dL_law_407 : decode cL_law 407 = .ok (.aload_n 0, 1) := by decide +kernel
theorem dL_law_408 : decode cL_law 408 = .ok (.iload 4, 2) := by decide +kernel
theorem dL_law_410 : decode cL_law 410 = .ok (.iconst 2, 1) := by decide +kernel
theorem dL_law_411 : decode cL_law 411 = .ok (.iadd, 1) := by decide +kernel
theorem dL_law_412 : decode cL_law 412 = .ok (.iaload, 1) := by decide +kernel
theorem dL_law_413 : decode cL_law 413 = .ok (.aload_n 3, 1) := by decide +kernel
theorem dL_law_414 : decode cL_law 414 = .ok (.invokestatic 84, 3) := by decide +kernel
theorem dL_law_417 : decode cL_law 417 = .ok (.istore 5, 2) := by decide +kernel
theorem dL_law_419 : decode cL_law 419 = .ok (.aload_n 2, 1) := by decide +kernel
theorem dL_law_420 : decode cL_law 420 = .ok (.aload_n 0, 1) := by decide +kernel
theorem dL_law_421 : decode cL_law 421 = .ok (.iload 4, 2) := by decide +kernel
theorem dL_law_423 : decode cL_law 423 = .ok (.iconst 1, 1) := by decide +kernel
theorem dL_law_424 : decode cL_law 424 = .ok (.iadd, 1) := by decide +kernel
theorem dL_law_425 : decode cL_law 425 = .ok (.iaload, 1) := by decide +kernel
theorem dL_law_426 : decode cL_law 426 = .ok (.aload_n 0, 1) := by decide +kernel
theorem dL_law_427 : decode cL_law 427 = .ok (.iload 4, 2) := by decide +kernel
theorem dL_law_429 : decode cL_law 429 = .ok (.iconst 2, 1) := by decide +kernel
theorem dL_law_430 : decode cL_law 430 = .ok (.iadd, 1) := by decide +kernel
theorem dL_law_431 : decode cL_law 431 = .ok (.iaload, 1) := by decide +kernel
theorem dL_law_432 : decode cL_law 432 = .ok (.invokevirtual 86, 3) := by decide +kernel
theorem dL_law_435 : decode cL_law 435 = .ok (.istore 6, 2) := by decide +kernel
theorem dL_law_437 : decode cL_law 437 = .ok (.aload_n 2, 1) := by decide +kernel
theorem dL_law_438 : decode cL_law 438 = .ok (.invokevirtual 69, 3) := by decide +kernel
theorem dL_law_441 : decode cL_law 441 = .ok (.iload 5, 2) := by decide +kernel
theorem dL_law_443 : decode cL_law 443 = .ok (.if_icmp .eq 5, 3) := by decide +kernel
theorem dL_law_446 : decode cL_law 446 = .ok (.iconst 0, 1) := by decide +kernel
theorem dL_law_447 : decode cL_law 447 = .ok (.ireturn, 1) := by decide +kernel
theorem dL_law_448 : decode cL_law 448 = .ok (.iload 5, 2) := by decide +kernel
theorem dL_law_450 : decode cL_law 450 = .ok (.ifCond .ne 15, 3) := by decide +kernel
theorem dL_law_453 : decode cL_law 453 = .ok (.aload_n 3, 1) := by decide +kernel
theorem dL_law_454 : decode cL_law 454 = .ok (.iconst 0, 1) := by decide +kernel
theorem dL_law_455 : decode cL_law 455 = .ok (.laload, 1) := by decide +kernel
theorem dL_law_456 : decode cL_law 456 = .ok (.iload 6, 2) := by decide +kernel
theorem dL_law_458 : decode cL_law 458 = .ok (.i2l, 1) := by decide +kernel
theorem dL_law_459 : decode cL_law 459 = .ok (.lcmp, 1) := by decide +kernel
theorem dL_law_460 : decode cL_law 460 = .ok (.ifCond .eq 5, 3) := by decide +kernel
theorem dL_law_463 : decode cL_law 463 = .ok (.iconst 0, 1) := by decide +kernel
theorem dL_law_464 : decode cL_law 464 = .ok (.ireturn, 1) := by decide +kernel
theorem dL_law_465 : decode cL_law 465 = .ok (.goto 687, 3) := by decide +kernel
theorem dL_law_468 : decode cL_law 468 = .ok (.aload_n 1, 1) := by decide +kernel
theorem dL_law_469 : decode cL_law 469 = .ok (.aload_n 0, 1) := by decide +kernel
theorem dL_law_470 : decode cL_law 470 = .ok (.iload 4, 2) := by decide +kernel
theorem dL_law_472 : decode cL_law 472 = .ok (.iconst 1, 1) := by decide +kernel
theorem dL_law_473 : decode cL_law 473 = .ok (.iadd, 1) := by decide +kernel
theorem dL_law_474 : decode cL_law 474 = .ok (.iaload, 1) := by decide +kernel
theorem dL_law_475 : decode cL_law 475 = .ok (.aload_n 0, 1) := by decide +kernel
theorem dL_law_476 : decode cL_law 476 = .ok (.iload 4, 2) := by decide +kernel
theorem dL_law_478 : decode cL_law 478 = .ok (.iconst 2, 1) := by decide +kernel
theorem dL_law_479 : decode cL_law 479 = .ok (.iadd, 1) := by decide +kernel
theorem dL_law_480 : decode cL_law 480 = .ok (.iaload, 1) := by decide +kernel
theorem dL_law_481 : decode cL_law 481 = .ok (.aload_n 3, 1) := by decide +kernel
theorem dL_law_482 : decode cL_law 482 = .ok (.invokestatic 87, 3) := by decide +kernel
theorem dL_law_485 : decode cL_law 485 = .ok (.istore 5, 2) := by decide +kernel
theorem dL_law_487 : decode cL_law 487 = .ok (.aload_n 2, 1) := by decide +kernel
theorem dL_law_488 : decode cL_law 488 = .ok (.aload_n 0, 1) := by decide +kernel
theorem dL_law_489 : decode cL_law 489 = .ok (.iload 4, 2) := by decide +kernel
theorem dL_law_491 : decode cL_law 491 = .ok (.iconst 1, 1) := by decide +kernel
theorem dL_law_492 : decode cL_law 492 = .ok (.iadd, 1) := by decide +kernel
theorem dL_law_493 : decode cL_law 493 = .ok (.iaload, 1) := by decide +kernel
theorem dL_law_494 : decode cL_law 494 = .ok (.aload_n 0, 1) := by decide +kernel
theorem dL_law_495 : decode cL_law 495 = .ok (.iload 4, 2) := by decide +kernel
theorem dL_law_497 : decode cL_law 497 = .ok (.iconst 2, 1) := by decide +kernel
theorem dL_law_498 : decode cL_law 498 = .ok (.iadd, 1) := by decide +kernel
theorem dL_law_499 : decode cL_law 499 = .ok (.iaload, 1) := by decide +kernel
theorem dL_law_500 : decode cL_law 500 = .ok (.invokevirtual 89, 3) := by decide +kernel
theorem dL_law_503 : decode cL_law 503 = .ok (.istore 6, 2) := by decide +kernel
theorem dL_law_505 : decode cL_law 505 = .ok (.aload_n 2, 1) := by decide +kernel
theorem dL_law_506 : decode cL_law 506 = .ok (.invokevirtual 69, 3) := by decide +kernel
theorem dL_law_509 : decode cL_law 509 = .ok (.iload 5, 2) := by decide +kernel
theorem dL_law_511 : decode cL_law 511 = .ok (.if_icmp .eq 5, 3) := by decide +kernel
theorem dL_law_514 : decode cL_law 514 = .ok (.iconst 0, 1) := by decide +kernel
theorem dL_law_515 : decode cL_law 515 = .ok (.ireturn, 1) := by decide +kernel
theorem dL_law_516 : decode cL_law 516 = .ok (.iload 5, 2) := by decide +kernel
theorem dL_law_518 : decode cL_law 518 = .ok (.ifCond .ne 15, 3) := by decide +kernel
theorem dL_law_521 : decode cL_law 521 = .ok (.aload_n 3, 1) := by decide +kernel
theorem dL_law_522 : decode cL_law 522 = .ok (.iconst 0, 1) := by decide +kernel
theorem dL_law_523 : decode cL_law 523 = .ok (.laload, 1) := by decide +kernel
theorem dL_law_524 : decode cL_law 524 = .ok (.iload 6, 2) := by decide +kernel
theorem dL_law_526 : decode cL_law 526 = .ok (.i2l, 1) := by decide +kernel
theorem dL_law_527 : decode cL_law 527 = .ok (.lcmp, 1) := by decide +kernel
theorem dL_law_528 : decode cL_law 528 = .ok (.ifCond .eq 5, 3) := by decide +kernel
theorem dL_law_531 : decode cL_law 531 = .ok (.iconst 0, 1) := by decide +kernel
theorem dL_law_532 : decode cL_law 532 = .ok (.ireturn, 1) := by decide +kernel
theorem dL_law_533 : decode cL_law 533 = .ok (.goto 619, 3) := by decide +kernel
theorem dL_law_536 : decode cL_law 536 = .ok (.aload_n 1, 1) := by decide +kernel
theorem dL_law_537 : decode cL_law 537 = .ok (.invokevirtual 90, 3) := by decide +kernel
theorem dL_law_540 : decode cL_law 540 = .ok (.aload_n 2, 1) := by decide +kernel
theorem dL_law_541 : decode cL_law 541 = .ok (.invokevirtual 93, 3) := by decide +kernel
theorem dL_law_544 : decode cL_law 544 = .ok (.if_icmp .eq 608, 3) := by decide +kernel
theorem dL_law_547 : decode cL_law 547 = .ok (.iconst 0, 1) := by decide +kernel
theorem dL_law_548 : decode cL_law 548 = .ok (.ireturn, 1) := by decide +kernel
theorem dL_law_549 : decode cL_law 549 = .ok (.aload_n 1, 1) := by decide +kernel
theorem dL_law_550 : decode cL_law 550 = .ok (.aload_n 0, 1) := by decide +kernel
theorem dL_law_551 : decode cL_law 551 = .ok (.iload 4, 2) := by decide +kernel
theorem dL_law_553 : decode cL_law 553 = .ok (.iconst 1, 1) := by decide +kernel
theorem dL_law_554 : decode cL_law 554 = .ok (.iadd, 1) := by decide +kernel
theorem dL_law_555 : decode cL_law 555 = .ok (.iaload, 1) := by decide +kernel
theorem dL_law_556 : decode cL_law 556 = .ok (.aload_n 3, 1) := by decide +kernel
theorem dL_law_557 : decode cL_law 557 = .ok (.invokestatic 94, 3) := by decide +kernel
theorem dL_law_560 : decode cL_law 560 = .ok (.istore 5, 2) := by decide +kernel
theorem dL_law_562 : decode cL_law 562 = .ok (.aload_n 2, 1) := by decide +kernel
theorem dL_law_563 : decode cL_law 563 = .ok (.aload_n 0, 1) := by decide +kernel
theorem dL_law_564 : decode cL_law 564 = .ok (.iload 4, 2) := by decide +kernel
theorem dL_law_566 : decode cL_law 566 = .ok (.iconst 1, 1) := by decide +kernel
theorem dL_law_567 : decode cL_law 567 = .ok (.iadd, 1) := by decide +kernel
theorem dL_law_568 : decode cL_law 568 = .ok (.iaload, 1) := by decide +kernel
theorem dL_law_569 : decode cL_law 569 = .ok (.invokevirtual 96, 3) := by decide +kernel
theorem dL_law_572 : decode cL_law 572 = .ok (.istore 6, 2) := by decide +kernel
theorem dL_law_574 : decode cL_law 574 = .ok (.aload_n 2, 1) := by decide +kernel
theorem dL_law_575 : decode cL_law 575 = .ok (.invokevirtual 69, 3) := by decide +kernel
theorem dL_law_578 : decode cL_law 578 = .ok (.iload 5, 2) := by decide +kernel
theorem dL_law_580 : decode cL_law 580 = .ok (.if_icmp .eq 5, 3) := by decide +kernel
theorem dL_law_583 : decode cL_law 583 = .ok (.iconst 0, 1) := by decide +kernel
theorem dL_law_584 : decode cL_law 584 = .ok (.ireturn, 1) := by decide +kernel
theorem dL_law_585 : decode cL_law 585 = .ok (.iload 5, 2) := by decide +kernel
theorem dL_law_587 : decode cL_law 587 = .ok (.ifCond .ne 22, 3) := by decide +kernel
theorem dL_law_590 : decode cL_law 590 = .ok (.aload_n 3, 1) := by decide +kernel
theorem dL_law_591 : decode cL_law 591 = .ok (.iconst 0, 1) := by decide +kernel
theorem dL_law_592 : decode cL_law 592 = .ok (.laload, 1) := by decide +kernel
theorem dL_law_593 : decode cL_law 593 = .ok (.iload 6, 2) := by decide +kernel
theorem dL_law_595 : decode cL_law 595 = .ok (.ifCond .eq 7, 3) := by decide +kernel
theorem dL_law_598 : decode cL_law 598 = .ok (.lconst 1, 1) := by decide +kernel
theorem dL_law_599 : decode cL_law 599 = .ok (.goto 4, 3) := by decide +kernel
theorem dL_law_602 : decode cL_law 602 = .ok (.lconst 0, 1) := by decide +kernel
theorem dL_law_603 : decode cL_law 603 = .ok (.lcmp, 1) := by decide +kernel
theorem dL_law_604 : decode cL_law 604 = .ok (.ifCond .eq 5, 3) := by decide +kernel
theorem dL_law_607 : decode cL_law 607 = .ok (.iconst 0, 1) := by decide +kernel
theorem dL_law_608 : decode cL_law 608 = .ok (.ireturn, 1) := by decide +kernel
theorem dL_law_609 : decode cL_law 609 = .ok (.goto 543, 3) := by decide +kernel
theorem dL_law_612 : decode cL_law 612 = .ok (.aload_n 1, 1) := by decide +kernel
theorem dL_law_613 : decode cL_law 613 = .ok (.aload_n 0, 1) := by decide +kernel
theorem dL_law_614 : decode cL_law 614 = .ok (.iload 4, 2) := by decide +kernel
theorem dL_law_616 : decode cL_law 616 = .ok (.iconst 1, 1) := by decide +kernel
theorem dL_law_617 : decode cL_law 617 = .ok (.iadd, 1) := by decide +kernel
theorem dL_law_618 : decode cL_law 618 = .ok (.iaload, 1) := by decide +kernel
theorem dL_law_619 : decode cL_law 619 = .ok (.aload_n 3, 1) := by decide +kernel
theorem dL_law_620 : decode cL_law 620 = .ok (.invokestatic 97, 3) := by decide +kernel
theorem dL_law_623 : decode cL_law 623 = .ok (.istore 5, 2) := by decide +kernel
theorem dL_law_625 : decode cL_law 625 = .ok (.aload_n 2, 1) := by decide +kernel
theorem dL_law_626 : decode cL_law 626 = .ok (.aload_n 0, 1) := by decide +kernel
theorem dL_law_627 : decode cL_law 627 = .ok (.iload 4, 2) := by decide +kernel
theorem dL_law_629 : decode cL_law 629 = .ok (.iconst 1, 1) := by decide +kernel
theorem dL_law_630 : decode cL_law 630 = .ok (.iadd, 1) := by decide +kernel
theorem dL_law_631 : decode cL_law 631 = .ok (.iaload, 1) := by decide +kernel
theorem dL_law_632 : decode cL_law 632 = .ok (.invokevirtual 99, 3) := by decide +kernel
theorem dL_law_635 : decode cL_law 635 = .ok (.istore 6, 2) := by decide +kernel
theorem dL_law_637 : decode cL_law 637 = .ok (.aload_n 2, 1) := by decide +kernel
theorem dL_law_638 : decode cL_law 638 = .ok (.invokevirtual 69, 3) := by decide +kernel
theorem dL_law_641 : decode cL_law 641 = .ok (.iload 5, 2) := by decide +kernel
theorem dL_law_643 : decode cL_law 643 = .ok (.if_icmp .eq 5, 3) := by decide +kernel
theorem dL_law_646 : decode cL_law 646 = .ok (.iconst 0, 1) := by decide +kernel
theorem dL_law_647 : decode cL_law 647 = .ok (.ireturn, 1) := by decide +kernel
theorem dL_law_648 : decode cL_law 648 = .ok (.iload 5, 2) := by decide +kernel
theorem dL_law_650 : decode cL_law 650 = .ok (.ifCond .ne 22, 3) := by decide +kernel
theorem dL_law_653 : decode cL_law 653 = .ok (.aload_n 3, 1) := by decide +kernel
theorem dL_law_654 : decode cL_law 654 = .ok (.iconst 0, 1) := by decide +kernel
theorem dL_law_655 : decode cL_law 655 = .ok (.laload, 1) := by decide +kernel
theorem dL_law_656 : decode cL_law 656 = .ok (.iload 6, 2) := by decide +kernel
theorem dL_law_658 : decode cL_law 658 = .ok (.ifCond .eq 7, 3) := by decide +kernel
theorem dL_law_661 : decode cL_law 661 = .ok (.lconst 1, 1) := by decide +kernel
theorem dL_law_662 : decode cL_law 662 = .ok (.goto 4, 3) := by decide +kernel
theorem dL_law_665 : decode cL_law 665 = .ok (.lconst 0, 1) := by decide +kernel
theorem dL_law_666 : decode cL_law 666 = .ok (.lcmp, 1) := by decide +kernel
theorem dL_law_667 : decode cL_law 667 = .ok (.ifCond .eq 5, 3) := by decide +kernel
theorem dL_law_670 : decode cL_law 670 = .ok (.iconst 0, 1) := by decide +kernel
theorem dL_law_671 : decode cL_law 671 = .ok (.ireturn, 1) := by decide +kernel
theorem dL_law_672 : decode cL_law 672 = .ok (.goto 480, 3) := by decide +kernel
theorem dL_law_675 : decode cL_law 675 = .ok (.aload_n 1, 1) := by decide +kernel
theorem dL_law_676 : decode cL_law 676 = .ok (.aload_n 0, 1) := by decide +kernel
theorem dL_law_677 : decode cL_law 677 = .ok (.iload 4, 2) := by decide +kernel
theorem dL_law_679 : decode cL_law 679 = .ok (.iconst 1, 1) := by decide +kernel
theorem dL_law_680 : decode cL_law 680 = .ok (.iadd, 1) := by decide +kernel
theorem dL_law_681 : decode cL_law 681 = .ok (.iaload, 1) := by decide +kernel
theorem dL_law_682 : decode cL_law 682 = .ok (.aload_n 0, 1) := by decide +kernel
theorem dL_law_683 : decode cL_law 683 = .ok (.iload 4, 2) := by decide +kernel
theorem dL_law_685 : decode cL_law 685 = .ok (.iconst 2, 1) := by decide +kernel
theorem dL_law_686 : decode cL_law 686 = .ok (.iadd, 1) := by decide +kernel
theorem dL_law_687 : decode cL_law 687 = .ok (.iaload, 1) := by decide +kernel
theorem dL_law_688 : decode cL_law 688 = .ok (.aload_n 0, 1) := by decide +kernel
theorem dL_law_689 : decode cL_law 689 = .ok (.iload 4, 2) := by decide +kernel
theorem dL_law_691 : decode cL_law 691 = .ok (.iconst 3, 1) := by decide +kernel
theorem dL_law_692 : decode cL_law 692 = .ok (.iadd, 1) := by decide +kernel
theorem dL_law_693 : decode cL_law 693 = .ok (.iaload, 1) := by decide +kernel
theorem dL_law_694 : decode cL_law 694 = .ok (.i2l, 1) := by decide +kernel
theorem dL_law_695 : decode cL_law 695 = .ok (.bipush 32, 2) := by decide +kernel
theorem dL_law_697 : decode cL_law 697 = .ok (.lshl, 1) := by decide +kernel
theorem dL_law_698 : decode cL_law 698 = .ok (.aload_n 0, 1) := by decide +kernel
theorem dL_law_699 : decode cL_law 699 = .ok (.iload 4, 2) := by decide +kernel
theorem dL_law_701 : decode cL_law 701 = .ok (.iconst 4, 1) := by decide +kernel
theorem dL_law_702 : decode cL_law 702 = .ok (.iadd, 1) := by decide +kernel
theorem dL_law_703 : decode cL_law 703 = .ok (.iaload, 1) := by decide +kernel
theorem dL_law_704 : decode cL_law 704 = .ok (.i2l, 1) := by decide +kernel
theorem dL_law_705 : decode cL_law 705 = .ok (.ldc2_w 100, 3) := by decide +kernel
theorem dL_law_708 : decode cL_law 708 = .ok (.land, 1) := by decide +kernel
theorem dL_law_709 : decode cL_law 709 = .ok (.lor, 1) := by decide +kernel
theorem dL_law_710 : decode cL_law 710 = .ok (.aload_n 3, 1) := by decide +kernel
theorem dL_law_711 : decode cL_law 711 = .ok (.invokestatic 102, 3) := by decide +kernel
theorem dL_law_714 : decode cL_law 714 = .ok (.istore 5, 2) := by decide +kernel
theorem dL_law_716 : decode cL_law 716 = .ok (.aload_n 2, 1) := by decide +kernel
theorem dL_law_717 : decode cL_law 717 = .ok (.aload_n 0, 1) := by decide +kernel
theorem dL_law_718 : decode cL_law 718 = .ok (.iload 4, 2) := by decide +kernel
theorem dL_law_720 : decode cL_law 720 = .ok (.iconst 1, 1) := by decide +kernel
theorem dL_law_721 : decode cL_law 721 = .ok (.iadd, 1) := by decide +kernel
theorem dL_law_722 : decode cL_law 722 = .ok (.iaload, 1) := by decide +kernel
theorem dL_law_723 : decode cL_law 723 = .ok (.aload_n 0, 1) := by decide +kernel
theorem dL_law_724 : decode cL_law 724 = .ok (.iload 4, 2) := by decide +kernel
theorem dL_law_726 : decode cL_law 726 = .ok (.iconst 2, 1) := by decide +kernel
theorem dL_law_727 : decode cL_law 727 = .ok (.iadd, 1) := by decide +kernel
theorem dL_law_728 : decode cL_law 728 = .ok (.iaload, 1) := by decide +kernel
theorem dL_law_729 : decode cL_law 729 = .ok (.aload_n 0, 1) := by decide +kernel
theorem dL_law_730 : decode cL_law 730 = .ok (.iload 4, 2) := by decide +kernel
theorem dL_law_732 : decode cL_law 732 = .ok (.iconst 3, 1) := by decide +kernel
theorem dL_law_733 : decode cL_law 733 = .ok (.iadd, 1) := by decide +kernel
theorem dL_law_734 : decode cL_law 734 = .ok (.iaload, 1) := by decide +kernel
theorem dL_law_735 : decode cL_law 735 = .ok (.i2l, 1) := by decide +kernel
theorem dL_law_736 : decode cL_law 736 = .ok (.bipush 32, 2) := by decide +kernel
theorem dL_law_738 : decode cL_law 738 = .ok (.lshl, 1) := by decide +kernel
theorem dL_law_739 : decode cL_law 739 = .ok (.aload_n 0, 1) := by decide +kernel
theorem dL_law_740 : decode cL_law 740 = .ok (.iload 4, 2) := by decide +kernel
theorem dL_law_742 : decode cL_law 742 = .ok (.iconst 4, 1) := by decide +kernel
theorem dL_law_743 : decode cL_law 743 = .ok (.iadd, 1) := by decide +kernel
theorem dL_law_744 : decode cL_law 744 = .ok (.iaload, 1) := by decide +kernel
theorem dL_law_745 : decode cL_law 745 = .ok (.i2l, 1) := by decide +kernel
theorem dL_law_746 : decode cL_law 746 = .ok (.ldc2_w 100, 3) := by decide +kernel
theorem dL_law_749 : decode cL_law 749 = .ok (.land, 1) := by decide +kernel
theorem dL_law_750 : decode cL_law 750 = .ok (.lor, 1) := by decide +kernel
theorem dL_law_751 : decode cL_law 751 = .ok (.invokevirtual 105, 3) := by decide +kernel
theorem dL_law_754 : decode cL_law 754 = .ok (.istore 6, 2) := by decide +kernel
theorem dL_law_756 : decode cL_law 756 = .ok (.aload_n 2, 1) := by decide +kernel
theorem dL_law_757 : decode cL_law 757 = .ok (.invokevirtual 69, 3) := by decide +kernel
theorem dL_law_760 : decode cL_law 760 = .ok (.iload 5, 2) := by decide +kernel
theorem dL_law_762 : decode cL_law 762 = .ok (.if_icmp .eq 5, 3) := by decide +kernel
theorem dL_law_765 : decode cL_law 765 = .ok (.iconst 0, 1) := by decide +kernel
theorem dL_law_766 : decode cL_law 766 = .ok (.ireturn, 1) := by decide +kernel
theorem dL_law_767 : decode cL_law 767 = .ok (.iload 5, 2) := by decide +kernel
theorem dL_law_769 : decode cL_law 769 = .ok (.ifCond .ne 15, 3) := by decide +kernel
theorem dL_law_772 : decode cL_law 772 = .ok (.aload_n 3, 1) := by decide +kernel
theorem dL_law_773 : decode cL_law 773 = .ok (.iconst 0, 1) := by decide +kernel
theorem dL_law_774 : decode cL_law 774 = .ok (.laload, 1) := by decide +kernel
theorem dL_law_775 : decode cL_law 775 = .ok (.iload 6, 2) := by decide +kernel
theorem dL_law_777 : decode cL_law 777 = .ok (.i2l, 1) := by decide +kernel
theorem dL_law_778 : decode cL_law 778 = .ok (.lcmp, 1) := by decide +kernel
theorem dL_law_779 : decode cL_law 779 = .ok (.ifCond .eq 5, 3) := by decide +kernel
theorem dL_law_782 : decode cL_law 782 = .ok (.iconst 0, 1) := by decide +kernel
theorem dL_law_783 : decode cL_law 783 = .ok (.ireturn, 1) := by decide +kernel
theorem dL_law_784 : decode cL_law 784 = .ok (.goto 368, 3) := by decide +kernel
theorem dL_law_787 : decode cL_law 787 = .ok (.aload_n 1, 1) := by decide +kernel
theorem dL_law_788 : decode cL_law 788 = .ok (.invokevirtual 106, 3) := by decide +kernel
theorem dL_law_791 : decode cL_law 791 = .ok (.aload_n 2, 1) := by decide +kernel
theorem dL_law_792 : decode cL_law 792 = .ok (.invokevirtual 109, 3) := by decide +kernel
theorem dL_law_795 : decode cL_law 795 = .ok (.if_icmp .eq 357, 3) := by decide +kernel
theorem dL_law_798 : decode cL_law 798 = .ok (.iconst 0, 1) := by decide +kernel
theorem dL_law_799 : decode cL_law 799 = .ok (.ireturn, 1) := by decide +kernel
theorem dL_law_800 : decode cL_law 800 = .ok (.aload_n 1, 1) := by decide +kernel
theorem dL_law_801 : decode cL_law 801 = .ok (.aload_n 0, 1) := by decide +kernel
theorem dL_law_802 : decode cL_law 802 = .ok (.iload 4, 2) := by decide +kernel
theorem dL_law_804 : decode cL_law 804 = .ok (.iconst 1, 1) := by decide +kernel
theorem dL_law_805 : decode cL_law 805 = .ok (.iadd, 1) := by decide +kernel
theorem dL_law_806 : decode cL_law 806 = .ok (.iaload, 1) := by decide +kernel
theorem dL_law_807 : decode cL_law 807 = .ok (.aload_n 3, 1) := by decide +kernel
theorem dL_law_808 : decode cL_law 808 = .ok (.invokestatic 110, 3) := by decide +kernel
theorem dL_law_811 : decode cL_law 811 = .ok (.istore 5, 2) := by decide +kernel
theorem dL_law_813 : decode cL_law 813 = .ok (.aload_n 2, 1) := by decide +kernel
theorem dL_law_814 : decode cL_law 814 = .ok (.aload_n 0, 1) := by decide +kernel
theorem dL_law_815 : decode cL_law 815 = .ok (.iload 4, 2) := by decide +kernel
theorem dL_law_817 : decode cL_law 817 = .ok (.iconst 1, 1) := by decide +kernel
theorem dL_law_818 : decode cL_law 818 = .ok (.iadd, 1) := by decide +kernel
theorem dL_law_819 : decode cL_law 819 = .ok (.iaload, 1) := by decide +kernel
theorem dL_law_820 : decode cL_law 820 = .ok (.invokevirtual 112, 3) := by decide +kernel
theorem dL_law_823 : decode cL_law 823 = .ok (.istore 6, 2) := by decide +kernel
theorem dL_law_825 : decode cL_law 825 = .ok (.aload_n 2, 1) := by decide +kernel
theorem dL_law_826 : decode cL_law 826 = .ok (.invokevirtual 69, 3) := by decide +kernel
theorem dL_law_829 : decode cL_law 829 = .ok (.iload 5, 2) := by decide +kernel
theorem dL_law_831 : decode cL_law 831 = .ok (.if_icmp .eq 5, 3) := by decide +kernel
theorem dL_law_834 : decode cL_law 834 = .ok (.iconst 0, 1) := by decide +kernel
theorem dL_law_835 : decode cL_law 835 = .ok (.ireturn, 1) := by decide +kernel
theorem dL_law_836 : decode cL_law 836 = .ok (.iload 5, 2) := by decide +kernel
theorem dL_law_838 : decode cL_law 838 = .ok (.ifCond .ne 15, 3) := by decide +kernel
theorem dL_law_841 : decode cL_law 841 = .ok (.aload_n 3, 1) := by decide +kernel
theorem dL_law_842 : decode cL_law 842 = .ok (.iconst 0, 1) := by decide +kernel
theorem dL_law_843 : decode cL_law 843 = .ok (.laload, 1) := by decide +kernel
theorem dL_law_844 : decode cL_law 844 = .ok (.iload 6, 2) := by decide +kernel
theorem dL_law_846 : decode cL_law 846 = .ok (.i2l, 1) := by decide +kernel
theorem dL_law_847 : decode cL_law 847 = .ok (.lcmp, 1) := by decide +kernel
theorem dL_law_848 : decode cL_law 848 = .ok (.ifCond .eq 5, 3) := by decide +kernel
theorem dL_law_851 : decode cL_law 851 = .ok (.iconst 0, 1) := by decide +kernel
theorem dL_law_852 : decode cL_law 852 = .ok (.ireturn, 1) := by decide +kernel
theorem dL_law_853 : decode cL_law 853 = .ok (.goto 299, 3) := by decide +kernel
theorem dL_law_856 : decode cL_law 856 = .ok (.aload_n 1, 1) := by decide +kernel
theorem dL_law_857 : decode cL_law 857 = .ok (.aload_n 0, 1) := by decide +kernel
theorem dL_law_858 : decode cL_law 858 = .ok (.iload 4, 2) := by decide +kernel
theorem dL_law_860 : decode cL_law 860 = .ok (.iconst 1, 1) := by decide +kernel
theorem dL_law_861 : decode cL_law 861 = .ok (.iadd, 1) := by decide +kernel
theorem dL_law_862 : decode cL_law 862 = .ok (.iaload, 1) := by decide +kernel
theorem dL_law_863 : decode cL_law 863 = .ok (.aload_n 0, 1) := by decide +kernel
theorem dL_law_864 : decode cL_law 864 = .ok (.iload 4, 2) := by decide +kernel
theorem dL_law_866 : decode cL_law 866 = .ok (.iconst 2, 1) := by decide +kernel
theorem dL_law_867 : decode cL_law 867 = .ok (.iadd, 1) := by decide +kernel
theorem dL_law_868 : decode cL_law 868 = .ok (.iaload, 1) := by decide +kernel
theorem dL_law_869 : decode cL_law 869 = .ok (.aload_n 3, 1) := by decide +kernel
theorem dL_law_870 : decode cL_law 870 = .ok (.invokestatic 113, 3) := by decide +kernel
theorem dL_law_873 : decode cL_law 873 = .ok (.istore 5, 2) := by decide +kernel
theorem dL_law_875 : decode cL_law 875 = .ok (.aload_n 2, 1) := by decide +kernel
theorem dL_law_876 : decode cL_law 876 = .ok (.aload_n 0, 1) := by decide +kernel
theorem dL_law_877 : decode cL_law 877 = .ok (.iload 4, 2) := by decide +kernel
theorem dL_law_879 : decode cL_law 879 = .ok (.iconst 1, 1) := by decide +kernel
theorem dL_law_880 : decode cL_law 880 = .ok (.iadd, 1) := by decide +kernel
theorem dL_law_881 : decode cL_law 881 = .ok (.iaload, 1) := by decide +kernel
theorem dL_law_882 : decode cL_law 882 = .ok (.aload_n 0, 1) := by decide +kernel
theorem dL_law_883 : decode cL_law 883 = .ok (.iload 4, 2) := by decide +kernel
theorem dL_law_885 : decode cL_law 885 = .ok (.iconst 2, 1) := by decide +kernel
theorem dL_law_886 : decode cL_law 886 = .ok (.iadd, 1) := by decide +kernel
theorem dL_law_887 : decode cL_law 887 = .ok (.iaload, 1) := by decide +kernel
theorem dL_law_888 : decode cL_law 888 = .ok (.invokevirtual 115, 3) := by decide +kernel
theorem dL_law_891 : decode cL_law 891 = .ok (.istore 6, 2) := by decide +kernel
theorem dL_law_893 : decode cL_law 893 = .ok (.aload_n 2, 1) := by decide +kernel
theorem dL_law_894 : decode cL_law 894 = .ok (.invokevirtual 69, 3) := by decide +kernel
theorem dL_law_897 : decode cL_law 897 = .ok (.iload 5, 2) := by decide +kernel
theorem dL_law_899 : decode cL_law 899 = .ok (.if_icmp .eq 5, 3) := by decide +kernel
theorem dL_law_902 : decode cL_law 902 = .ok (.iconst 0, 1) := by decide +kernel
theorem dL_law_903 : decode cL_law 903 = .ok (.ireturn, 1) := by decide +kernel
theorem dL_law_904 : decode cL_law 904 = .ok (.iload 5, 2) := by decide +kernel
theorem dL_law_906 : decode cL_law 906 = .ok (.ifCond .ne 15, 3) := by decide +kernel
theorem dL_law_909 : decode cL_law 909 = .ok (.aload_n 3, 1) := by decide +kernel
theorem dL_law_910 : decode cL_law 910 = .ok (.iconst 0, 1) := by decide +kernel
theorem dL_law_911 : decode cL_law 911 = .ok (.laload, 1) := by decide +kernel
theorem dL_law_912 : decode cL_law 912 = .ok (.iload 6, 2) := by decide +kernel
theorem dL_law_914 : decode cL_law 914 = .ok (.i2l, 1) := by decide +kernel
theorem dL_law_915 : decode cL_law 915 = .ok (.lcmp, 1) := by decide +kernel
theorem dL_law_916 : decode cL_law 916 = .ok (.ifCond .eq 5, 3) := by decide +kernel
theorem dL_law_919 : decode cL_law 919 = .ok (.iconst 0, 1) := by decide +kernel
theorem dL_law_920 : decode cL_law 920 = .ok (.ireturn, 1) := by decide +kernel
theorem dL_law_921 : decode cL_law 921 = .ok (.goto 231, 3) := by decide +kernel
theorem dL_law_924 : decode cL_law 924 = .ok (.aload_n 1, 1) := by decide +kernel
theorem dL_law_925 : decode cL_law 925 = .ok (.invokevirtual 116, 3) := by decide +kernel
theorem dL_law_928 : decode cL_law 928 = .ok (.aload_n 2, 1) := by decide +kernel
theorem dL_law_929 : decode cL_law 929 = .ok (.invokevirtual 119, 3) := by decide +kernel
theorem dL_law_932 : decode cL_law 932 = .ok (.if_icmp .eq 220, 3) := by decide +kernel
theorem dL_law_935 : decode cL_law 935 = .ok (.iconst 0, 1) := by decide +kernel
theorem dL_law_936 : decode cL_law 936 = .ok (.ireturn, 1) := by decide +kernel
theorem dL_law_937 : decode cL_law 937 = .ok (.aload_n 1, 1) := by decide +kernel
theorem dL_law_938 : decode cL_law 938 = .ok (.invokevirtual 120, 3) := by decide +kernel
theorem dL_law_941 : decode cL_law 941 = .ok (.aload_n 2, 1) := by decide +kernel
theorem dL_law_942 : decode cL_law 942 = .ok (.invokevirtual 123, 3) := by decide +kernel
theorem dL_law_945 : decode cL_law 945 = .ok (.if_icmp .eq 207, 3) := by decide +kernel
theorem dL_law_948 : decode cL_law 948 = .ok (.iconst 0, 1) := by decide +kernel
theorem dL_law_949 : decode cL_law 949 = .ok (.ireturn, 1) := by decide +kernel
theorem dL_law_950 : decode cL_law 950 = .ok (.aload_n 1, 1) := by decide +kernel
theorem dL_law_951 : decode cL_law 951 = .ok (.invokevirtual 124, 3) := by decide +kernel
theorem dL_law_954 : decode cL_law 954 = .ok (.aload_n 2, 1) := by decide +kernel
theorem dL_law_955 : decode cL_law 955 = .ok (.invokevirtual 127, 3) := by decide +kernel
theorem dL_law_958 : decode cL_law 958 = .ok (.if_icmp .eq 194, 3) := by decide +kernel
theorem dL_law_961 : decode cL_law 961 = .ok (.iconst 0, 1) := by decide +kernel
theorem dL_law_962 : decode cL_law 962 = .ok (.ireturn, 1) := by decide +kernel
theorem dL_law_963 : decode cL_law 963 = .ok (.aload_n 1, 1) := by decide +kernel
theorem dL_law_964 : decode cL_law 964 = .ok (.invokevirtual 128, 3) := by decide +kernel
theorem dL_law_967 : decode cL_law 967 = .ok (.aload_n 2, 1) := by decide +kernel
theorem dL_law_968 : decode cL_law 968 = .ok (.invokevirtual 131, 3) := by decide +kernel
theorem dL_law_971 : decode cL_law 971 = .ok (.if_icmp .eq 181, 3) := by decide +kernel
theorem dL_law_974 : decode cL_law 974 = .ok (.iconst 0, 1) := by decide +kernel
theorem dL_law_975 : decode cL_law 975 = .ok (.ireturn, 1) := by decide +kernel
theorem dL_law_976 : decode cL_law 976 = .ok (.aload_n 1, 1) := by decide +kernel
theorem dL_law_977 : decode cL_law 977 = .ok (.invokevirtual 132, 3) := by decide +kernel
theorem dL_law_980 : decode cL_law 980 = .ok (.aload_n 2, 1) := by decide +kernel
theorem dL_law_981 : decode cL_law 981 = .ok (.invokevirtual 135, 3) := by decide +kernel
theorem dL_law_984 : decode cL_law 984 = .ok (.if_icmp .eq 168, 3) := by decide +kernel
theorem dL_law_987 : decode cL_law 987 = .ok (.iconst 0, 1) := by decide +kernel
theorem dL_law_988 : decode cL_law 988 = .ok (.ireturn, 1) := by decide +kernel
theorem dL_law_989 : decode cL_law 989 = .ok (.aload_n 1, 1) := by decide +kernel
theorem dL_law_990 : decode cL_law 990 = .ok (.aload_n 0, 1) := by decide +kernel
theorem dL_law_991 : decode cL_law 991 = .ok (.iload 4, 2) := by decide +kernel
theorem dL_law_993 : decode cL_law 993 = .ok (.iconst 1, 1) := by decide +kernel
theorem dL_law_994 : decode cL_law 994 = .ok (.iadd, 1) := by decide +kernel
theorem dL_law_995 : decode cL_law 995 = .ok (.iaload, 1) := by decide +kernel
theorem dL_law_996 : decode cL_law 996 = .ok (.aload_n 0, 1) := by decide +kernel
theorem dL_law_997 : decode cL_law 997 = .ok (.iload 4, 2) := by decide +kernel
theorem dL_law_999 : decode cL_law 999 = .ok (.iconst 2, 1) := by decide +kernel
theorem dL_law_1000 : decode cL_law 1000 = .ok (.iadd, 1) := by decide +kernel
theorem dL_law_1001 : decode cL_law 1001 = .ok (.iaload, 1) := by decide +kernel
theorem dL_law_1002 : decode cL_law 1002 = .ok (.aload_n 3, 1) := by decide +kernel
theorem dL_law_1003 : decode cL_law 1003 = .ok (.invokestatic 136, 3) := by decide +kernel
theorem dL_law_1006 : decode cL_law 1006 = .ok (.istore 5, 2) := by decide +kernel
theorem dL_law_1008 : decode cL_law 1008 = .ok (.aload_n 2, 1) := by decide +kernel
theorem dL_law_1009 : decode cL_law 1009 = .ok (.aload_n 0, 1) := by decide +kernel
theorem dL_law_1010 : decode cL_law 1010 = .ok (.iload 4, 2) := by decide +kernel
theorem dL_law_1012 : decode cL_law 1012 = .ok (.iconst 1, 1) := by decide +kernel
theorem dL_law_1013 : decode cL_law 1013 = .ok (.iadd, 1) := by decide +kernel
theorem dL_law_1014 : decode cL_law 1014 = .ok (.iaload, 1) := by decide +kernel
theorem dL_law_1015 : decode cL_law 1015 = .ok (.aload_n 0, 1) := by decide +kernel
theorem dL_law_1016 : decode cL_law 1016 = .ok (.iload 4, 2) := by decide +kernel
theorem dL_law_1018 : decode cL_law 1018 = .ok (.iconst 2, 1) := by decide +kernel
theorem dL_law_1019 : decode cL_law 1019 = .ok (.iadd, 1) := by decide +kernel
theorem dL_law_1020 : decode cL_law 1020 = .ok (.iaload, 1) := by decide +kernel
theorem dL_law_1021 : decode cL_law 1021 = .ok (.invokevirtual 138, 3) := by decide +kernel
theorem dL_law_1024 : decode cL_law 1024 = .ok (.istore 6, 2) := by decide +kernel
theorem dL_law_1026 : decode cL_law 1026 = .ok (.aload_n 2, 1) := by decide +kernel
theorem dL_law_1027 : decode cL_law 1027 = .ok (.invokevirtual 69, 3) := by decide +kernel
theorem dL_law_1030 : decode cL_law 1030 = .ok (.iload 5, 2) := by decide +kernel
theorem dL_law_1032 : decode cL_law 1032 = .ok (.if_icmp .eq 5, 3) := by decide +kernel
theorem dL_law_1035 : decode cL_law 1035 = .ok (.iconst 0, 1) := by decide +kernel
theorem dL_law_1036 : decode cL_law 1036 = .ok (.ireturn, 1) := by decide +kernel
theorem dL_law_1037 : decode cL_law 1037 = .ok (.iload 5, 2) := by decide +kernel
theorem dL_law_1039 : decode cL_law 1039 = .ok (.ifCond .ne 15, 3) := by decide +kernel
theorem dL_law_1042 : decode cL_law 1042 = .ok (.aload_n 3, 1) := by decide +kernel
theorem dL_law_1043 : decode cL_law 1043 = .ok (.iconst 0, 1) := by decide +kernel
theorem dL_law_1044 : decode cL_law 1044 = .ok (.laload, 1) := by decide +kernel
theorem dL_law_1045 : decode cL_law 1045 = .ok (.iload 6, 2) := by decide +kernel
theorem dL_law_1047 : decode cL_law 1047 = .ok (.i2l, 1) := by decide +kernel
theorem dL_law_1048 : decode cL_law 1048 = .ok (.lcmp, 1) := by decide +kernel
theorem dL_law_1049 : decode cL_law 1049 = .ok (.ifCond .eq 5, 3) := by decide +kernel
theorem dL_law_1052 : decode cL_law 1052 = .ok (.iconst 0, 1) := by decide +kernel
theorem dL_law_1053 : decode cL_law 1053 = .ok (.ireturn, 1) := by decide +kernel
theorem dL_law_1054 : decode cL_law 1054 = .ok (.goto 98, 3) := by decide +kernel
theorem dL_law_1057 : decode cL_law 1057 = .ok (.aload_n 1, 1) := by decide +kernel
theorem dL_law_1058 : decode cL_law 1058 = .ok (.aload_n 0, 1) := by decide +kernel
theorem dL_law_1059 : decode cL_law 1059 = .ok (.iload 4, 2) := by decide +kernel
theorem dL_law_1061 : decode cL_law 1061 = .ok (.iconst 1, 1) := by decide +kernel
theorem dL_law_1062 : decode cL_law 1062 = .ok (.iadd, 1) := by decide +kernel
theorem dL_law_1063 : decode cL_law 1063 = .ok (.iaload, 1) := by decide +kernel
theorem dL_law_1064 : decode cL_law 1064 = .ok (.aload_n 0, 1) := by decide +kernel
theorem dL_law_1065 : decode cL_law 1065 = .ok (.iload 4, 2) := by decide +kernel
theorem dL_law_1067 : decode cL_law 1067 = .ok (.iconst 2, 1) := by decide +kernel
theorem dL_law_1068 : decode cL_law 1068 = .ok (.iadd, 1) := by decide +kernel
theorem dL_law_1069 : decode cL_law 1069 = .ok (.iaload, 1) := by decide +kernel
theorem dL_law_1070 : decode cL_law 1070 = .ok (.aload_n 3, 1) := by decide +kernel
theorem dL_law_1071 : decode cL_law 1071 = .ok (.invokestatic 139, 3) := by decide +kernel
theorem dL_law_1074 : decode cL_law 1074 = .ok (.istore 5, 2) := by decide +kernel
theorem dL_law_1076 : decode cL_law 1076 = .ok (.aload_n 2, 1) := by decide +kernel
theorem dL_law_1077 : decode cL_law 1077 = .ok (.aload_n 0, 1) := by decide +kernel
theorem dL_law_1078 : decode cL_law 1078 = .ok (.iload 4, 2) := by decide +kernel
theorem dL_law_1080 : decode cL_law 1080 = .ok (.iconst 1, 1) := by decide +kernel
theorem dL_law_1081 : decode cL_law 1081 = .ok (.iadd, 1) := by decide +kernel
theorem dL_law_1082 : decode cL_law 1082 = .ok (.iaload, 1) := by decide +kernel
theorem dL_law_1083 : decode cL_law 1083 = .ok (.aload_n 0, 1) := by decide +kernel
theorem dL_law_1084 : decode cL_law 1084 = .ok (.iload 4, 2) := by decide +kernel
theorem dL_law_1086 : decode cL_law 1086 = .ok (.iconst 2, 1) := by decide +kernel
theorem dL_law_1087 : decode cL_law 1087 = .ok (.iadd, 1) := by decide +kernel
theorem dL_law_1088 : decode cL_law 1088 = .ok (.iaload, 1) := by decide +kernel
theorem dL_law_1089 : decode cL_law 1089 = .ok (.invokevirtual 141, 3) := by decide +kernel
theorem dL_law_1092 : decode cL_law 1092 = .ok (.istore 6, 2) := by decide +kernel
theorem dL_law_1094 : decode cL_law 1094 = .ok (.aload_n 2, 1) := by decide +kernel
theorem dL_law_1095 : decode cL_law 1095 = .ok (.invokevirtual 69, 3) := by decide +kernel
theorem dL_law_1098 : decode cL_law 1098 = .ok (.iload 5, 2) := by decide +kernel
theorem dL_law_1100 : decode cL_law 1100 = .ok (.if_icmp .eq 5, 3) := by decide +kernel
theorem dL_law_1103 : decode cL_law 1103 = .ok (.iconst 0, 1) := by decide +kernel
theorem dL_law_1104 : decode cL_law 1104 = .ok (.ireturn, 1) := by decide +kernel
theorem dL_law_1105 : decode cL_law 1105 = .ok (.iload 5, 2) := by decide +kernel
theorem dL_law_1107 : decode cL_law 1107 = .ok (.ifCond .ne 15, 3) := by decide +kernel
theorem dL_law_1110 : decode cL_law 1110 = .ok (.aload_n 3, 1) := by decide +kernel
theorem dL_law_1111 : decode cL_law 1111 = .ok (.iconst 0, 1) := by decide +kernel
theorem dL_law_1112 : decode cL_law 1112 = .ok (.laload, 1) := by decide +kernel
theorem dL_law_1113 : decode cL_law 1113 = .ok (.iload 6, 2) := by decide +kernel
theorem dL_law_1115 : decode cL_law 1115 = .ok (.i2l, 1) := by decide +kernel
theorem dL_law_1116 : decode cL_law 1116 = .ok (.lcmp, 1) := by decide +kernel
theorem dL_law_1117 : decode cL_law 1117 = .ok (.ifCond .eq 5, 3) := by decide +kernel
theorem dL_law_1120 : decode cL_law 1120 = .ok (.iconst 0, 1) := by decide +kernel
theorem dL_law_1121 : decode cL_law 1121 = .ok (.ireturn, 1) := by decide +kernel
theorem dL_law_1122 : decode cL_law 1122 = .ok (.goto 30, 3) := by decide +kernel
theorem dL_law_1125 : decode cL_law 1125 = .ok (.aload_n 1, 1) := by decide +kernel
theorem dL_law_1126 : decode cL_law 1126 = .ok (.invokevirtual 142, 3) := by decide +kernel
theorem dL_law_1129 : decode cL_law 1129 = .ok (.aload_n 2, 1) := by decide +kernel
theorem dL_law_1130 : decode cL_law 1130 = .ok (.invokevirtual 145, 3) := by decide +kernel
theorem dL_law_1133 : decode cL_law 1133 = .ok (.if_icmp .eq 19, 3) := by decide +kernel
theorem dL_law_1136 : decode cL_law 1136 = .ok (.iconst 0, 1) := by decide +kernel
theorem dL_law_1137 : decode cL_law 1137 = .ok (.ireturn, 1) := by decide +kernel
theorem dL_law_1138 : decode cL_law 1138 = .ok (.aload_n 1, 1) := by decide +kernel
theorem dL_law_1139 : decode cL_law 1139 = .ok (.invokevirtual 146, 3) := by decide +kernel
theorem dL_law_1142 : decode cL_law 1142 = .ok (.aload_n 2, 1) := by decide +kernel
theorem dL_law_1143 : decode cL_law 1143 = .ok (.invokevirtual 150, 3) := by decide +kernel
theorem dL_law_1146 : decode cL_law 1146 = .ok (.lcmp, 1) := by decide +kernel
theorem dL_law_1147 : decode cL_law 1147 = .ok (.ifCond .eq 5, 3) := by decide +kernel
theorem dL_law_1150 : decode cL_law 1150 = .ok (.iconst 0, 1) := by decide +kernel
theorem dL_law_1151 : decode cL_law 1151 = .ok (.ireturn, 1) := by decide +kernel
theorem dL_law_1152 : decode cL_law 1152 = .ok (.iinc 4 5, 3) := by decide +kernel
theorem dL_law_1155 : decode cL_law 1155 = .ok (.goto (-1132), 3) := by decide +kernel
theorem dL_law_1158 : decode cL_law 1158 = .ok (.iconst 1, 1) := by decide +kernel
theorem dL_law_1159 : decode cL_law 1159 = .ok (.ireturn, 1) := by decide +kernel
