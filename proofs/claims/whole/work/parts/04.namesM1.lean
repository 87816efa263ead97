theorem dX6_init_0 : decode cX6_init 0 = .ok (.aload_n 0, 1) := by decide +kernel
theorem dX6_init_1 : decode cX6_init 1 = .ok (.invokespecial 3, 3) := by decide +kernel
theorem dX6_init_4 : decode cX6_init 4 = .ok (.aload_n 0, 1) := by decide +kernel
theorem dX6_init_5 : decode cX6_init 5 = .ok (.bipush 80, 2) := by decide +kernel
theorem dX6_init_7 : decode cX6_init 7 = .ok (.newarray .int, 2) := by decide +kernel
theorem dX6_init_9 : decode cX6_init 9 = .ok (.putfield 9, 3) := by decide +kernel
theorem dX6_init_12 : decode cX6_init 12 = .ok (.aload_n 0, 1) := by decide +kernel
theorem dX6_init_13 : decode cX6_init 13 = .ok (.bipush 80, 2) := by decide +kernel
theorem dX6_init_15 : decode cX6_init 15 = .ok (.newarray .int, 2) := by decide +kernel
theorem dX6_init_17 : decode cX6_init 17 = .ok (.putfield 13, 3) := by decide +kernel
theorem dX6_init_20 : decode cX6_init 20 = .ok (.aload_n 0, 1) := by decide +kernel
theorem dX6_init_21 : decode cX6_init 21 = .ok (.bipush 80, 2) := by decide +kernel
theorem dX6_init_23 : decode cX6_init 23 = .ok (.newarray .int, 2) := by decide +kernel
theorem dX6_init_25 : decode cX6_init 25 = .ok (.putfield 16, 3) := by decide +kernel
theorem dX6_init_28 : decode cX6_init 28 = .ok (.aload_n 0, 1) := by decide +kernel
theorem dX6_init_29 : decode cX6_init 29 = .ok (.bipush 10, 2) := by decide +kernel
theorem dX6_init_31 : decode cX6_init 31 = .ok (.newarray .int, 2) := by decide +kernel
theorem dX6_init_33 : decode cX6_init 33 = .ok (.putfield 19, 3) := by decide +kernel
theorem dX6_init_36 : decode cX6_init 36 = .ok (.aload_n 0, 1) := by decide +kernel
theorem dX6_init_37 : decode cX6_init 37 = .ok (.bipush 40, 2) := by decide +kernel
theorem dX6_init_39 : decode cX6_init 39 = .ok (.newarray .int, 2) := by decide +kernel
theorem dX6_init_41 : decode cX6_init 41 = .ok (.putfield 22, 3) := by decide +kernel
theorem dX6_init_44 : decode cX6_init 44 = .ok (.aload_n 0, 1) := by decide +kernel
theorem dX6_init_45 : decode cX6_init 45 = .ok (.sipush 410, 3) := by decide +kernel
theorem dX6_init_48 : decode cX6_init 48 = .ok (.newarray .boolean, 2) := by decide +kernel
theorem dX6_init_50 : decode cX6_init 50 = .ok (.putfield 25, 3) := by decide +kernel
theorem dX6_init_53 : decode cX6_init 53 = .ok (.aload_n 0, 1) := by decide +kernel
theorem dX6_init_54 : decode cX6_init 54 = .ok (.sipush 410, 3) := by decide +kernel
theorem dX6_init_57 : decode cX6_init 57 = .ok (.newarray .int, 2) := by decide +kernel
theorem dX6_init_59 : decode cX6_init 59 = .ok (.putfield 29, 3) := by decide +kernel
theorem dX6_init_62 : decode cX6_init 62 = .ok (.aload_n 0, 1) := by decide +kernel
theorem dX6_init_63 : decode cX6_init 63 = .ok (.sipush 410, 3) := by decide +kernel
theorem dX6_init_66 : decode cX6_init 66 = .ok (.newarray .int, 2) := by decide +kernel
theorem dX6_init_68 : decode cX6_init 68 = .ok (.putfield 32, 3) := by decide +kernel
theorem dX6_init_71 : decode cX6_init 71 = .ok (.aload_n 0, 1) := by decide +kernel
theorem dX6_init_72 : decode cX6_init 72 = .ok (.sipush 410, 3) := by decide +kernel
theorem dX6_init_75 : decode cX6_init 75 = .ok (.newarray .int, 2) := by decide +kernel
theorem dX6_init_77 : decode cX6_init 77 = .ok (.putfield 35, 3) := by decide +kernel
theorem dX6_init_80 : decode cX6_init 80 = .ok (.aload_n 0, 1) := by decide +kernel
theorem dX6_init_81 : decode cX6_init 81 = .ok (.bipush 102, 2) := by decide +kernel
theorem dX6_init_83 : decode cX6_init 83 = .ok (.newarray .int, 2) := by decide +kernel
theorem dX6_init_85 : decode cX6_init 85 = .ok (.putfield 38, 3) := by decide +kernel
theorem dX6_init_88 : decode cX6_init 88 = .ok (.aload_n 0, 1) := by decide +kernel
theorem dX6_init_89 : decode cX6_init 89 = .ok (.bipush 102, 2) := by decide +kernel
theorem dX6_init_91 : decode cX6_init 91 = .ok (.newarray .int, 2) := by decide +kernel
theorem dX6_init_93 : decode cX6_init 93 = .ok (.putfield 41, 3) := by decide +kernel
theorem dX6_init_96 : decode cX6_init 96 = .ok (.aload_n 0, 1) := by decide +kernel
theorem dX6_init_97 : decode cX6_init 97 = .ok (.bipush 102, 2) := by decide +kernel
theorem dX6_init_99 : decode cX6_init 99 = .ok (.newarray .int, 2) := by decide +kernel
theorem dX6_init_101 : decode cX6_init 101 = .ok (.putfield 44, 3) := by decide +kernel
theorem dX6_init_104 : decode cX6_init 104 = .ok (.aload_n 0, 1) := by decide +kernel
theorem dX6_init_105 : decode cX6_init 105 = .ok (.bipush 102, 2) := by decide +kernel
theorem dX6_init_107 : decode cX6_init 107 = .ok (.newarray .boolean, 2) := by decide +kernel
theorem dX6_init_109 : decode cX6_init 109 = .ok (.putfield 47, 3) := by decide +kernel
theorem dX6_init_112 : decode cX6_init 112 = .ok (.aload_n 0, 1) := by decide +kernel
theorem dX6_init_113 : decode cX6_init 113 = .ok (.bipush 102, 2) := by decide +kernel
theorem dX6_init_115 : decode cX6_init 115 = .ok (.newarray .boolean, 2) := by decide +kernel
theorem dX6_init_117 : decode cX6_init 117 = .ok (.putfield 50, 3) := by decide +kernel
theorem dX6_init_120 : decode cX6_init 120 = .ok (.aload_n 0, 1) := by decide +kernel
theorem dX6_init_121 : decode cX6_init 121 = .ok (.bipush 102, 2) := by decide +kernel
theorem dX6_init_123 : decode cX6_init 123 = .ok (.newarray .int, 2) := by decide +kernel
theorem dX6_init_125 : decode cX6_init 125 = .ok (.putfield 53, 3) := by decide +kernel
theorem dX6_init_128 : decode cX6_init 128 = .ok (.aload_n 0, 1) := by decide +kernel
theorem dX6_init_129 : decode cX6_init 129 = .ok (.bipush 102, 2) := by decide +kernel
theorem dX6_init_131 : decode cX6_init 131 = .ok (.newarray .int, 2) := by decide +kernel
theorem dX6_init_133 : decode cX6_init 133 = .ok (.putfield 56, 3) := by decide +kernel
theorem dX6_init_136 : decode cX6_init 136 = .ok (.aload_n 0, 1) := by decide +kernel
theorem dX6_init_137 : decode cX6_init 137 = .ok (.iconst (-1), 1) := by decide +kernel
theorem dX6_init_138 : decode cX6_init 138 = .ok (.putfield 59, 3) := by decide +kernel
theorem dX6_init_141 : decode cX6_init 141 = .ok (.aload_n 0, 1) := by decide +kernel
theorem dX6_init_142 : decode cX6_init 142 = .ok (.bipush 10, 2) := by decide +kernel
theorem dX6_init_144 : decode cX6_init 144 = .ok (.newarray .boolean, 2) := by decide +kernel
theorem dX6_init_146 : decode cX6_init 146 = .ok (.putfield 63, 3) := by decide +kernel
theorem dX6_init_149 : decode cX6_init 149 = .ok (.aload_n 0, 1) := by decide +kernel
theorem dX6_init_150 : decode cX6_init 150 = .ok (.bipush 80, 2) := by decide +kernel
theorem dX6_init_152 : decode cX6_init 152 = .ok (.newarray .boolean, 2) := by decide +kernel
theorem dX6_init_154 : decode cX6_init 154 = .ok (.putfield 66, 3) := by decide +kernel
theorem dX6_init_157 : decode cX6_init 157 = .ok (.aload_n 0, 1) := by decide +kernel
theorem dX6_init_158 : decode cX6_init 158 = .ok (.bipush 80, 2) := by decide +kernel
theorem dX6_init_160 : decode cX6_init 160 = .ok (.newarray .int, 2) := by decide +kernel
theorem dX6_init_162 : decode cX6_init 162 = .ok (.putfield 69, 3) := by decide +kernel
theorem dX6_init_165 : decode cX6_init 165 = .ok (.iconst 0, 1) := by decide +kernel
theorem dX6_init_166 : decode cX6_init 166 = .ok (.istore_n 1, 1) := by decide +kernel
theorem dX6_init_167 : decode cX6_init 167 = .ok (.iload_n 1, 1) := by decide +kernel
theorem dX6_init_168 : decode cX6_init 168 = .ok (.bipush 10, 2) := by decide +kernel
theorem dX6_init_170 : decode cX6_init 170 = .ok (.if_icmp .ge 16, 3) := by decide +kernel
theorem dX6_init_173 : decode cX6_init 173 = .ok (.aload_n 0, 1) := by decide +kernel
theorem dX6_init_174 : decode cX6_init 174 = .ok (.getfield 19, 3) := by decide +kernel
theorem dX6_init_177 : decode cX6_init 177 = .ok (.iload_n 1, 1) := by decide +kernel
theorem dX6_init_178 : decode cX6_init 178 = .ok (.iconst (-1), 1) := by decide +kernel
theorem dX6_init_179 : decode cX6_init 179 = .ok (.iastore, 1) := by decide +kernel
theorem dX6_init_180 : decode cX6_init 180 = .ok (.iinc 1 1, 3) := by decide +kernel
theorem dX6_init_183 : decode cX6_init 183 = .ok (.goto (-16), 3) := by decide +kernel
theorem dX6_init_186 : decode cX6_init 186 = .ok (.return_, 1) := by decide +kernel
theorem dX6_thrown_0 : decode cX6_thrown 0 = .ok (.aload_n 0, 1) := by decide +kernel
theorem dX6_thrown_1 : decode cX6_thrown 1 = .ok (.getfield 72, 3) := by decide +kernel
theorem dX6_thrown_4 : decode cX6_thrown 4 = .ok (.ireturn, 1) := by decide +kernel
theorem dX6_fail_0 : decode cX6_fail 0 = .ok (.aload_n 0, 1) := by decide +kernel
theorem dX6_fail_1 : decode cX6_fail 1 = .ok (.iload_n 1, 1) := by decide +kernel
theorem dX6_fail_2 : decode cX6_fail 2 = .ok (.putfield 72, 3) := by decide +kernel
theorem dX6_fail_5 : decode cX6_fail 5 = .ok (.iconst 0, 1) := by decide +kernel
theorem dX6_fail_6 : decode cX6_fail 6 = .ok (.ireturn, 1) := by decide +kernel
theorem dX6_isExpression_0 : decode cX6_isExpression 0 = .ok (.iload_n 1, 1) := by decide +kernel
theorem dX6_isExpression_1 : decode cX6_isExpression 1 = .ok (.ifCond .lt 15, 3) := by decide +kernel
theorem dX6_isExpression_4 : decode cX6_isExpression 4 = .ok (.iload_n 1, 1) := by decide +kernel
theorem dX6_isExpression_5 : decode cX6_isExpression 5 = .ok (.aload_n 0, 1) := by decide +kernel
theorem dX6_isExpression_6 : decode cX6_isExpression 6 = .ok (.getfield 75, 3) := by decide +kernel
theorem dX6_isExpression_9 : decode cX6_isExpression 9 = .ok (.if_icmp .ge 7, 3) := by decide +kernel
theorem dX6_isExpression_12 : decode cX6_isExpression 12 = .ok (.iconst 1, 1) := by decide +kernel
theorem dX6_isExpression_13 : decode cX6_isExpression 13 = .ok (.goto 4, 3) := by decide +kernel
theorem dX6_isExpression_16 : decode cX6_isExpression 16 = .ok (.iconst 0, 1) := by decide +kernel
theorem dX6_isExpression_17 : decode cX6_isExpression 17 = .ok (.ireturn, 1) := by decide +kernel
theorem dX6_isRule_0 : decode cX6_isRule 0 = .ok (.iload_n 0, 1) := by decide +kernel
theorem dX6_isRule_1 : decode cX6_isRule 1 = .ok (.ifCond .lt 13, 3) := by decide +kernel
theorem dX6_isRule_4 : decode cX6_isRule 4 = .ok (.iload_n 0, 1) := by decide +kernel
theorem dX6_isRule_5 : decode cX6_isRule 5 = .ok (.bipush 10, 2) := by decide +kernel
theorem dX6_isRule_7 : decode cX6_isRule 7 = .ok (.if_icmp .ge 7, 3) := by decide +kernel
theorem dX6_isRule_10 : decode cX6_isRule 10 = .ok (.iconst 1, 1) := by decide +kernel
theorem dX6_isRule_11 : decode cX6_isRule 11 = .ok (.goto 4, 3) := by decide +kernel
theorem dX6_isRule_14 : decode cX6_isRule 14 = .ok (.iconst 0, 1) := by decide +kernel
theorem dX6_isRule_15 : decode cX6_isRule 15 = .ok (.ireturn, 1) := by decide +kernel
theorem dX6_isByte_0 : decode cX6_isByte 0 = .ok (.iload_n 0, 1) := by decide +kernel
theorem dX6_isByte_1 : decode cX6_isByte 1 = .ok (.bipush 32, 2) := by decide +kernel
theorem dX6_isByte_3 : decode cX6_isByte 3 = .ok (.if_icmp .lt 13, 3) := by decide +kernel
theorem dX6_isByte_6 : decode cX6_isByte 6 = .ok (.iload_n 0, 1) := by decide +kernel
theorem dX6_isByte_7 : decode cX6_isByte 7 = .ok (.bipush 126, 2) := by decide +kernel
theorem dX6_isByte_9 : decode cX6_isByte 9 = .ok (.if_icmp .gt 7, 3) := by decide +kernel
theorem dX6_isByte_12 : decode cX6_isByte 12 = .ok (.iconst 1, 1) := by decide +kernel
theorem dX6_isByte_13 : decode cX6_isByte 13 = .ok (.goto 4, 3) := by decide +kernel
theorem dX6_isByte_16 : decode cX6_isByte 16 = .ok (.iconst 0, 1) := by decide +kernel
theorem dX6_isByte_17 : decode cX6_isByte 17 = .ok (.ireturn, 1) := by decide +kernel
theorem dX6_add_0 : decode cX6_add 0 = .ok (.aload_n 0, 1) := by decide +kernel
theorem dX6_add_1 : decode cX6_add 1 = .ok (.getfield 9, 3) := by decide +kernel
theorem dX6_add_4 : decode cX6_add 4 = .ok (.aload_n 0, 1) := by decide +kernel
theorem dX6_add_5 : decode cX6_add 5 = .ok (.getfield 75, 3) := by decide +kernel
theorem dX6_add_8 : decode cX6_add 8 = .ok (.iload_n 1, 1) := by decide +kernel
theorem dX6_add_9 : decode cX6_add 9 = .ok (.iastore, 1) := by decide +kernel
theorem dX6_add_10 : decode cX6_add 10 = .ok (.aload_n 0, 1) := by decide +kernel
theorem dX6_add_11 : decode cX6_add 11 = .ok (.getfield 13, 3) := by decide +kernel
theorem dX6_add_14 : decode cX6_add 14 = .ok (.aload_n 0, 1) := by decide +kernel
theorem dX6_add_15 : decode cX6_add 15 = .ok (.getfield 75, 3) := by decide +kernel
theorem dX6_add_18 : decode cX6_add 18 = .ok (.iload_n 2, 1) := by decide +kernel
theorem dX6_add_19 : decode cX6_add 19 = .ok (.iastore, 1) := by decide +kernel
theorem dX6_add_20 : decode cX6_add 20 = .ok (.aload_n 0, 1) := by decide +kernel
theorem dX6_add_21 : decode cX6_add 21 = .ok (.getfield 16, 3) := by decide +kernel
theorem dX6_add_24 : decode cX6_add 24 = .ok (.aload_n 0, 1) := by decide +kernel
theorem dX6_add_25 : decode cX6_add 25 = .ok (.getfield 75, 3) := by decide +kernel
theorem dX6_add_28 : decode cX6_add 28 = .ok (.iload_n 3, 1) := by decide +kernel
theorem dX6_add_29 : decode cX6_add 29 = .ok (.iastore, 1) := by decide +kernel
theorem dX6_add_30 : decode cX6_add 30 = .ok (.aload_n 0, 1) := by decide +kernel
theorem dX6_add_31 : decode cX6_add 31 = .ok (.dup, 1) := by decide +kernel
theorem dX6_add_32 : decode cX6_add 32 = .ok (.getfield 75, 3) := by decide +kernel
theorem dX6_add_35 : decode cX6_add 35 = .ok (.iconst 1, 1) := by decide +kernel
theorem dX6_add_36 : decode cX6_add 36 = .ok (.iadd, 1) := by decide +kernel
theorem dX6_add_37 : decode cX6_add 37 = .ok (.putfield 75, 3) := by decide +kernel
theorem dX6_add_40 : decode cX6_add 40 = .ok (.aload_n 0, 1) := by decide +kernel
theorem dX6_add_41 : decode cX6_add 41 = .ok (.getfield 75, 3) := by decide +kernel
theorem dX6_add_44 : decode cX6_add 44 = .ok (.iconst 1, 1) := by decide +kernel
theorem dX6_add_45 : decode cX6_add 45 = .ok (.isub, 1) := by decide +kernel
theorem dX6_add_46 : decode cX6_add 46 = .ok (.ireturn, 1) := by decide +kernel
set_option maxRecDepth 20000 in
theorem ggX6_plain_X6_fail : GoodIn wsX6_plain wsX6_fail := goodIn_r _ [7, 1, 15, 16, 17, 18, 19, 20, 21, 22, 23, 24, 25, 26, 27, 28, 29, 30, 31, 32, 33, 34, 35, 36, 37, 38, 39, 40, 41, 42, 43] (by decide +kernel) (by decide +kernel)
set_option maxRecDepth 20000 in
theorem gX6_plain_X6_fail : GoodIn wsX6_plain (wsV RX6 78 RX6 yX6_fail wsX6_fail) := goodIn_app (goodIn_of _ (by decide +kernel)) ggX6_plain_X6_fail
set_option maxRecDepth 20000 in
theorem ggX6_plain_X6_add : GoodIn wsX6_plain wsX6_add := goodIn_r _ [11, 12, 2, 13, 14, 15, 16, 17, 18, 19, 20, 21, 22, 23, 24, 25, 26, 27, 28, 29, 30, 31, 32, 33, 34, 35, 36, 37, 38, 39, 40, 41, 42, 43] (by decide +kernel) (by decide +kernel)
set_option maxRecDepth 20000 in
theorem gX6_plain_X6_add : GoodIn wsX6_plain (wsV RX6 82 RX6 yX6_add wsX6_add) := goodIn_app (goodIn_of _ (by decide +kernel)) ggX6_plain_X6_add
theorem dX6_plain_0 : decode cX6_plain 0 = .ok (.aload_n 0, 1) := by decide +kernel
theorem dX6_plain_1 : decode cX6_plain 1 = .ok (.iconst 0, 1) := by decide +kernel
theorem dX6_plain_2 : decode cX6_plain 2 = .ok (.putfield 72, 3) := by decide +kernel
theorem dX6_plain_5 : decode cX6_plain 5 = .ok (.iload_n 1, 1) := by decide +kernel
theorem dX6_plain_6 : decode cX6_plain 6 = .ok (.ifCond .eq 14, 3) := by decide +kernel
theorem dX6_plain_9 : decode cX6_plain 9 = .ok (.iload_n 1, 1) := by decide +kernel
theorem dX6_plain_10 : decode cX6_plain 10 = .ok (.iconst 1, 1) := by decide +kernel
theorem dX6_plain_11 : decode cX6_plain 11 = .ok (.if_icmp .eq 9, 3) := by decide +kernel
theorem dX6_plain_14 : decode cX6_plain 14 = .ok (.aload_n 0, 1) := by decide +kernel
theorem dX6_plain_15 : decode cX6_plain 15 = .ok (.iconst 1, 1) := by decide +kernel
theorem dX6_plain_16 : decode cX6_plain 16 = .ok (.invokevirtual 78, 3) := by decide +kernel
theorem dX6_plain_19 : decode cX6_plain 19 = .ok (.ireturn, 1) := by decide +kernel
theorem dX6_plain_20 : decode cX6_plain 20 = .ok (.aload_n 0, 1) := by decide +kernel
theorem dX6_plain_21 : decode cX6_plain 21 = .ok (.getfield 75, 3) := by decide +kernel
theorem dX6_plain_24 : decode cX6_plain 24 = .ok (.bipush 80, 2) := by decide +kernel
theorem dX6_plain_26 : decode cX6_plain 26 = .ok (.if_icmp .ne 11, 3) := by decide +kernel
theorem dX6_plain_29 : decode cX6_plain 29 = .ok (.aload_n 0, 1) := by decide +kernel
theorem dX6_plain_30 : decode cX6_plain 30 = .ok (.iconst 2, 1) := by decide +kernel
theorem dX6_plain_31 : decode cX6_plain 31 = .ok (.invokevirtual 78, 3) := by decide +kernel
theorem dX6_plain_34 : decode cX6_plain 34 = .ok (.goto 10, 3) := by decide +kernel
theorem dX6_plain_37 : decode cX6_plain 37 = .ok (.aload_n 0, 1) := by decide +kernel
theorem dX6_plain_38 : decode cX6_plain 38 = .ok (.iload_n 1, 1) := by decide +kernel
theorem dX6_plain_39 : decode cX6_plain 39 = .ok (.iconst 0, 1) := by decide +kernel
theorem dX6_plain_40 : decode cX6_plain 40 = .ok (.iconst 0, 1) := by decide +kernel
theorem dX6_plain_41 : decode cX6_plain 41 = .ok (.invokevirtual 82, 3) := by decide +kernel
theorem dX6_plain_44 : decode cX6_plain 44 = .ok (.ireturn, 1) := by decide +kernel
set_option maxRecDepth 20000 in
theorem ggX6_range_X6_isByte : GoodIn wsX6_range wsX6_isByte := goodIn_r _ [6] (by decide +kernel) (by decide +kernel)
set_option maxRecDepth 20000 in
theorem gX6_range_X6_isByte : GoodIn wsX6_range (va_wsS RX6 86 yX6_isByte wsX6_isByte) := goodIn_app (goodIn_of _ (by decide +kernel)) ggX6_range_X6_isByte
set_option maxRecDepth 20000 in
theorem ggX6_range_X6_fail : GoodIn wsX6_range wsX6_fail := goodIn_r _ [10, 1, 18, 19, 20, 21, 22, 23, 24, 25, 26, 27, 28, 29, 30, 31, 32, 33, 34, 35, 36, 37, 38, 39, 40, 41, 42, 43, 44, 45, 46] (by decide +kernel) (by decide +kernel)
set_option maxRecDepth 20000 in
theorem gX6_range_X6_fail : GoodIn wsX6_range (wsV RX6 78 RX6 yX6_fail wsX6_fail) := goodIn_app (goodIn_of _ (by decide +kernel)) ggX6_range_X6_fail
set_option maxRecDepth 20000 in
theorem ggX6_range_X6_add : GoodIn wsX6_range wsX6_add := goodIn_r _ [14, 15, 2, 16, 17, 18, 19, 20, 21, 22, 23, 24, 25, 26, 27, 28, 29, 30, 31, 32, 33, 34, 35, 36, 37, 38, 39, 40, 41, 42, 43, 44, 45, 46] (by decide +kernel) (by decide +kernel)
set_option maxRecDepth 20000 in
theorem gX6_range_X6_add : GoodIn wsX6_range (wsV RX6 82 RX6 yX6_add wsX6_add) := goodIn_app (goodIn_of _ (by decide +kernel)) ggX6_range_X6_add
theorem dX6_range_0 : decode cX6_range 0 = .ok (.aload_n 0, 1) := by decide +kernel
theorem dX6_range_1 : decode cX6_range 1 = .ok (.iconst 0, 1) := by decide +kernel
theorem dX6_range_2 : decode cX6_range 2 = .ok (.putfield 72, 3) := by decide +kernel
theorem dX6_range_5 : decode cX6_range 5 = .ok (.iload_n 1, 1) := by decide +kernel
theorem dX6_range_6 : decode cX6_range 6 = .ok (.invokestatic 86, 3) := by decide +kernel
theorem dX6_range_9 : decode cX6_range 9 = .ok (.ifCond .eq 15, 3) := by decide +kernel
theorem dX6_range_12 : decode cX6_range 12 = .ok (.iload_n 2, 1) := by decide +kernel
theorem dX6_range_13 : decode cX6_range 13 = .ok (.invokestatic 86, 3) := by decide +kernel
theorem dX6_range_16 : decode cX6_range 16 = .ok (.ifCond .eq 8, 3) := by decide +kernel
theorem dX6_range_19 : decode cX6_range 19 = .ok (.iload_n 1, 1) := by decide +kernel
theorem dX6_range_20 : decode cX6_range 20 = .ok (.iload_n 2, 1) := by decide +kernel
theorem dX6_range_21 : decode cX6_range 21 = .ok (.if_icmp .le 9, 3) := by decide +kernel
theorem dX6_range_24 : decode cX6_range 24 = .ok (.aload_n 0, 1) := by decide +kernel
theorem dX6_range_25 : decode cX6_range 25 = .ok (.iconst 1, 1) := by decide +kernel
theorem dX6_range_26 : decode cX6_range 26 = .ok (.invokevirtual 78, 3) := by decide +kernel
theorem dX6_range_29 : decode cX6_range 29 = .ok (.ireturn, 1) := by decide +kernel
theorem dX6_range_30 : decode cX6_range 30 = .ok (.aload_n 0, 1) := by decide +kernel
theorem dX6_range_31 : decode cX6_range 31 = .ok (.getfield 75, 3) := by decide +kernel
theorem dX6_range_34 : decode cX6_range 34 = .ok (.bipush 80, 2) := by decide +kernel
theorem dX6_range_36 : decode cX6_range 36 = .ok (.if_icmp .ne 11, 3) := by decide +kernel
theorem dX6_range_39 : decode cX6_range 39 = .ok (.aload_n 0, 1) := by decide +kernel
theorem dX6_range_40 : decode cX6_range 40 = .ok (.iconst 2, 1) := by decide +kernel
theorem dX6_range_41 : decode cX6_range 41 = .ok (.invokevirtual 78, 3) := by decide +kernel
theorem dX6_range_44 : decode cX6_range 44 = .ok (.goto 10, 3) := by decide +kernel
theorem dX6_range_47 : decode cX6_range 47 = .ok (.aload_n 0, 1) := by decide +kernel
theorem dX6_range_48 : decode cX6_range 48 = .ok (.iconst 2, 1) := by decide +kernel
theorem dX6_range_49 : decode cX6_range 49 = .ok (.iload_n 1, 1) := by decide +kernel
theorem dX6_range_50 : decode cX6_range 50 = .ok (.iload_n 2, 1) := by decide +kernel
theorem dX6_range_51 : decode cX6_range 51 = .ok (.invokevirtual 82, 3) := by decide +kernel
theorem dX6_range_54 : decode cX6_range 54 = .ok (.ireturn, 1) := by decide +kernel
set_option maxRecDepth 20000 in
theorem ggX6_rule_X6_isRule : GoodIn wsX6_rule wsX6_isRule := goodIn_r _ [6] (by decide +kernel) (by decide +kernel)
set_option maxRecDepth 20000 in
theorem gX6_rule_X6_isRule : GoodIn wsX6_rule (va_wsS RX6 90 yX6_isRule wsX6_isRule) := goodIn_app (goodIn_of _ (by decide +kernel)) ggX6_rule_X6_isRule
set_option maxRecDepth 20000 in
theorem ggX6_rule_X6_fail : GoodIn wsX6_rule wsX6_fail := goodIn_r _ [10, 1, 18, 19, 20, 21, 22, 23, 24, 25, 26, 27, 28, 29, 30, 31, 32, 33, 34, 35, 36, 37, 38, 39, 40, 41, 42, 43, 44, 45, 46] (by decide +kernel) (by decide +kernel)
set_option maxRecDepth 20000 in
theorem gX6_rule_X6_fail : GoodIn wsX6_rule (wsV RX6 78 RX6 yX6_fail wsX6_fail) := goodIn_app (goodIn_of _ (by decide +kernel)) ggX6_rule_X6_fail
set_option maxRecDepth 20000 in
theorem ggX6_rule_X6_add : GoodIn wsX6_rule wsX6_add := goodIn_r _ [14, 15, 2, 16, 17, 18, 19, 20, 21, 22, 23, 24, 25, 26, 27, 28, 29, 30, 31, 32, 33, 34, 35, 36, 37, 38, 39, 40, 41, 42, 43, 44, 45, 46] (by decide +kernel) (by decide +kernel)
set_option maxRecDepth 20000 in
theorem gX6_rule_X6_add : GoodIn wsX6_rule (wsV RX6 82 RX6 yX6_add wsX6_add) := goodIn_app (goodIn_of _ (by decide +kernel)) ggX6_rule_X6_add
theorem dX6_rule_0 : decode cX6_rule 0 = .ok (.aload_n 0, 1) := by decide +kernel
theorem dX6_rule_1 : decode cX6_rule 1 = .ok (.iconst 0, 1) := by decide +kernel
theorem dX6_rule_2 : decode cX6_rule 2 = .ok (.putfield 72, 3) := by decide +kernel
theorem dX6_rule_5 : decode cX6_rule 5 = .ok (.iload_n 1, 1) := by decide +kernel
theorem dX6_rule_6 : decode cX6_rule 6 = .ok (.invokestatic 90, 3) := by decide +kernel
theorem dX6_rule_9 : decode cX6_rule 9 = .ok (.ifCond .ne 9, 3) := by decide +kernel
theorem dX6_rule_12 : decode cX6_rule 12 = .ok (.aload_n 0, 1) := by decide +kernel
theorem dX6_rule_13 : decode cX6_rule 13 = .ok (.iconst 1, 1) := by decide +kernel
theorem dX6_rule_14 : decode cX6_rule 14 = .ok (.invokevirtual 78, 3) := by decide +kernel
theorem dX6_rule_17 : decode cX6_rule 17 = .ok (.ireturn, 1) := by decide +kernel
theorem dX6_rule_18 : decode cX6_rule 18 = .ok (.aload_n 0, 1) := by decide +kernel
theorem dX6_rule_19 : decode cX6_rule 19 = .ok (.getfield 75, 3) := by decide +kernel
theorem dX6_rule_22 : decode cX6_rule 22 = .ok (.bipush 80, 2) := by decide +kernel
theorem dX6_rule_24 : decode cX6_rule 24 = .ok (.if_icmp .ne 11, 3) := by decide +kernel
theorem dX6_rule_27 : decode cX6_rule 27 = .ok (.aload_n 0, 1) := by decide +kernel
theorem dX6_rule_28 : decode cX6_rule 28 = .ok (.iconst 2, 1) := by decide +kernel
theorem dX6_rule_29 : decode cX6_rule 29 = .ok (.invokevirtual 78, 3) := by decide +kernel
theorem dX6_rule_32 : decode cX6_rule 32 = .ok (.goto 10, 3) := by decide +kernel
theorem dX6_rule_35 : decode cX6_rule 35 = .ok (.aload_n 0, 1) := by decide +kernel
theorem dX6_rule_36 : decode cX6_rule 36 = .ok (.iconst 3, 1) := by decide +kernel
theorem dX6_rule_37 : decode cX6_rule 37 = .ok (.iload_n 1, 1) := by decide +kernel
theorem dX6_rule_38 : decode cX6_rule 38 = .ok (.iconst 0, 1) := by decide +kernel
theorem dX6_rule_39 : decode cX6_rule 39 = .ok (.invokevirtual 82, 3) := by decide +kernel
theorem dX6_rule_42 : decode cX6_rule 42 = .ok (.ireturn, 1) := by decide +kernel
set_option maxRecDepth 20000 in
theorem ggX6_join_X6_isExpression : GoodIn wsX6_join wsX6_isExpression := goodIn_r _ [7, 2, 19, 20, 21, 22, 23, 24, 25, 26, 27, 28, 29, 30, 31, 32, 33, 34, 35, 36, 37, 38, 39, 40, 41, 42, 43, 44, 45, 46, 47] (by decide +kernel) (by decide +kernel)
set_option maxRecDepth 20000 in
theorem gX6_join_X6_isExpression : GoodIn wsX6_join (wsV RX6 93 RX6 yX6_isExpression wsX6_isExpression) := goodIn_app (goodIn_of _ (by decide +kernel)) ggX6_join_X6_isExpression
set_option maxRecDepth 20000 in
theorem ggX6_join_X6_fail : GoodIn wsX6_join wsX6_fail := goodIn_r _ [11, 1, 19, 20, 21, 22, 23, 24, 25, 26, 27, 28, 29, 30, 31, 32, 33, 34, 35, 36, 37, 38, 39, 40, 41, 42, 43, 44, 45, 46, 47] (by decide +kernel) (by decide +kernel)
set_option maxRecDepth 20000 in
theorem gX6_join_X6_fail : GoodIn wsX6_join (wsV RX6 78 RX6 yX6_fail wsX6_fail) := goodIn_app (goodIn_of _ (by decide +kernel)) ggX6_join_X6_fail
set_option maxRecDepth 20000 in
theorem ggX6_join_X6_add : GoodIn wsX6_join wsX6_add := goodIn_r _ [15, 16, 2, 17, 18, 19, 20, 21, 22, 23, 24, 25, 26, 27, 28, 29, 30, 31, 32, 33, 34, 35, 36, 37, 38, 39, 40, 41, 42, 43, 44, 45, 46, 47] (by decide +kernel) (by decide +kernel)
set_option maxRecDepth 20000 in
theorem gX6_join_X6_add : GoodIn wsX6_join (wsV RX6 82 RX6 yX6_add wsX6_add) := goodIn_app (goodIn_of _ (by decide +kernel)) ggX6_join_X6_add
theorem dX6_join_0 : decode cX6_join 0 = .ok (.aload_n 0, 1) := by decide +kernel
theorem dX6_join_1 : decode cX6_join 1 = .ok (.iconst 0, 1) := by decide +kernel
theorem dX6_join_2 : decode cX6_join 2 = .ok (.putfield 72, 3) := by decide +kernel
theorem dX6_join_5 : decode cX6_join 5 = .ok (.aload_n 0, 1) := by decide +kernel
theorem dX6_join_6 : decode cX6_join 6 = .ok (.iload_n 2, 1) := by decide +kernel
theorem dX6_join_7 : decode cX6_join 7 = .ok (.invokevirtual 93, 3) := by decide +kernel
theorem dX6_join_10 : decode cX6_join 10 = .ok (.ifCond .eq 11, 3) := by decide +kernel
theorem dX6_join_13 : decode cX6_join 13 = .ok (.aload_n 0, 1) := by decide +kernel
theorem dX6_join_14 : decode cX6_join 14 = .ok (.iload_n 3, 1) := by decide +kernel
theorem dX6_join_15 : decode cX6_join 15 = .ok (.invokevirtual 93, 3) := by decide +kernel
theorem dX6_join_18 : decode cX6_join 18 = .ok (.ifCond .ne 9, 3) := by decide +kernel
theorem dX6_join_21 : decode cX6_join 21 = .ok (.aload_n 0, 1) := by decide +kernel
theorem dX6_join_22 : decode cX6_join 22 = .ok (.iconst 1, 1) := by decide +kernel
theorem dX6_join_23 : decode cX6_join 23 = .ok (.invokevirtual 78, 3) := by decide +kernel
theorem dX6_join_26 : decode cX6_join 26 = .ok (.ireturn, 1) := by decide +kernel
theorem dX6_join_27 : decode cX6_join 27 = .ok (.iload_n 1, 1) := by decide +kernel
theorem dX6_join_28 : decode cX6_join 28 = .ok (.iconst 4, 1) := by decide +kernel
theorem dX6_join_29 : decode cX6_join 29 = .ok (.if_icmp .eq 14, 3) := by decide +kernel
theorem dX6_join_32 : decode cX6_join 32 = .ok (.iload_n 1, 1) := by decide +kernel
theorem dX6_join_33 : decode cX6_join 33 = .ok (.iconst 5, 1) := by decide +kernel
theorem dX6_join_34 : decode cX6_join 34 = .ok (.if_icmp .eq 9, 3) := by decide +kernel
theorem dX6_join_37 : decode cX6_join 37 = .ok (.aload_n 0, 1) := by decide +kernel
theorem dX6_join_38 : decode cX6_join 38 = .ok (.iconst 2, 1) := by decide +kernel
theorem dX6_join_39 : decode cX6_join 39 = .ok (.invokevirtual 78, 3) := by decide +kernel
theorem dX6_join_42 : decode cX6_join 42 = .ok (.ireturn, 1) := by decide +kernel
theorem dX6_join_43 : decode cX6_join 43 = .ok (.aload_n 0, 1) := by decide +kernel
theorem dX6_join_44 : decode cX6_join 44 = .ok (.getfield 75, 3) := by decide +kernel
theorem dX6_join_47 : decode cX6_join 47 = .ok (.bipush 80, 2) := by decide +kernel
theorem dX6_join_49 : decode cX6_join 49 = .ok (.if_icmp .ne 11, 3) := by decide +kernel
theorem dX6_join_52 : decode cX6_join 52 = .ok (.aload_n 0, 1) := by decide +kernel
theorem dX6_join_53 : decode cX6_join 53 = .ok (.iconst 3, 1) := by decide +kernel
theorem dX6_join_54 : decode cX6_join 54 = .ok (.invokevirtual 78, 3) := by decide +kernel
theorem dX6_join_57 : decode cX6_join 57 = .ok (.goto 10, 3) := by decide +kernel
theorem dX6_join_60 : decode cX6_join 60 = .ok (.aload_n 0, 1) := by decide +kernel
theorem dX6_join_61 : decode cX6_join 61 = .ok (.iload_n 1, 1) := by decide +kernel
theorem dX6_join_62 : decode cX6_join 62 = .ok (.iload_n 2, 1) := by decide +kernel
theorem dX6_join_63 : decode cX6_join 63 = .ok (.iload_n 3, 1) := by decide +kernel
theorem dX6_join_64 : decode cX6_join 64 = .ok (.invokevirtual 82, 3) := by decide +kernel
theorem dX6_join_67 : decode cX6_join 67 = .ok (.ireturn, 1) := by decide +kernel
set_option maxRecDepth 20000 in
theorem ggX6_wrap_X6_isExpression : GoodIn wsX6_wrap wsX6_isExpression := goodIn_r _ [7, 2, 19, 20, 21, 22, 23, 24, 25, 26, 27, 28, 29, 30, 31, 32, 33, 34, 35, 36, 37, 38, 39, 40, 41, 42, 43, 44, 45, 46, 47] (by decide +kernel) (by decide +kernel)
set_option maxRecDepth 20000 in
theorem gX6_wrap_X6_isExpression : GoodIn wsX6_wrap (wsV RX6 93 RX6 yX6_isExpression wsX6_isExpression) := goodIn_app (goodIn_of _ (by decide +kernel)) ggX6_wrap_X6_isExpression
set_option maxRecDepth 20000 in
theorem ggX6_wrap_X6_fail : GoodIn wsX6_wrap wsX6_fail := goodIn_r _ [11, 1, 19, 20, 21, 22, 23, 24, 25, 26, 27, 28, 29, 30, 31, 32, 33, 34, 35, 36, 37, 38, 39, 40, 41, 42, 43, 44, 45, 46, 47] (by decide +kernel) (by decide +kernel)
set_option maxRecDepth 20000 in
theorem gX6_wrap_X6_fail : GoodIn wsX6_wrap (wsV RX6 78 RX6 yX6_fail wsX6_fail) := goodIn_app (goodIn_of _ (by decide +kernel)) ggX6_wrap_X6_fail
set_option maxRecDepth 20000 in
theorem ggX6_wrap_X6_add : GoodIn wsX6_wrap wsX6_add := goodIn_r _ [15, 16, 2, 17, 18, 19, 20, 21, 22, 23, 24, 25, 26, 27, 28, 29, 30, 31, 32, 33, 34, 35, 36, 37, 38, 39, 40, 41, 42, 43, 44, 45, 46, 47] (by decide +kernel) (by decide +kernel)
set_option maxRecDepth 20000 in
theorem gX6_wrap_X6_add : GoodIn wsX6_wrap (wsV RX6 82 RX6 yX6_add wsX6_add) := goodIn_app (goodIn_of _ (by decide +kernel)) ggX6_wrap_X6_add
theorem dX6_wrap_0 : decode cX6_wrap 0 = .ok (.aload_n 0, 1) := by decide +kernel
theorem dX6_wrap_1 : decode cX6_wrap 1 = .ok (.iconst 0, 1) := by decide +kernel
theorem dX6_wrap_2 : decode cX6_wrap 2 = .ok (.putfield 72, 3) := by decide +kernel
theorem dX6_wrap_5 : decode cX6_wrap 5 = .ok (.aload_n 0, 1) := by decide +kernel
theorem dX6_wrap_6 : decode cX6_wrap 6 = .ok (.iload_n 2, 1) := by decide +kernel
theorem dX6_wrap_7 : decode cX6_wrap 7 = .ok (.invokevirtual 93, 3) := by decide +kernel
theorem dX6_wrap_10 : decode cX6_wrap 10 = .ok (.ifCond .ne 9, 3) := by decide +kernel
theorem dX6_wrap_13 : decode cX6_wrap 13 = .ok (.aload_n 0, 1) := by decide +kernel
theorem dX6_wrap_14 : decode cX6_wrap 14 = .ok (.iconst 1, 1) := by decide +kernel
theorem dX6_wrap_15 : decode cX6_wrap 15 = .ok (.invokevirtual 78, 3) := by decide +kernel
theorem dX6_wrap_18 : decode cX6_wrap 18 = .ok (.ireturn, 1) := by decide +kernel
theorem dX6_wrap_19 : decode cX6_wrap 19 = .ok (.iload_n 1, 1) := by decide +kernel
theorem dX6_wrap_20 : decode cX6_wrap 20 = .ok (.bipush 6, 2) := by decide +kernel
theorem dX6_wrap_22 : decode cX6_wrap 22 = .ok (.if_icmp .lt 9, 3) := by decide +kernel
theorem dX6_wrap_25 : decode cX6_wrap 25 = .ok (.iload_n 1, 1) := by decide +kernel
theorem dX6_wrap_26 : decode cX6_wrap 26 = .ok (.bipush 9, 2) := by decide +kernel
theorem dX6_wrap_28 : decode cX6_wrap 28 = .ok (.if_icmp .le 9, 3) := by decide +kernel
theorem dX6_wrap_31 : decode cX6_wrap 31 = .ok (.aload_n 0, 1) := by decide +kernel
theorem dX6_wrap_32 : decode cX6_wrap 32 = .ok (.iconst 2, 1) := by decide +kernel
theorem dX6_wrap_33 : decode cX6_wrap 33 = .ok (.invokevirtual 78, 3) := by decide +kernel
theorem dX6_wrap_36 : decode cX6_wrap 36 = .ok (.ireturn, 1) := by decide +kernel
theorem dX6_wrap_37 : decode cX6_wrap 37 = .ok (.aload_n 0, 1) := by decide +kernel
theorem dX6_wrap_38 : decode cX6_wrap 38 = .ok (.getfield 75, 3) := by decide +kernel
theorem dX6_wrap_41 : decode cX6_wrap 41 = .ok (.bipush 80, 2) := by decide +kernel
theorem dX6_wrap_43 : decode cX6_wrap 43 = .ok (.if_icmp .ne 11, 3) := by decide +kernel
theorem dX6_wrap_46 : decode cX6_wrap 46 = .ok (.aload_n 0, 1) := by decide +kernel
theorem dX6_wrap_47 : decode cX6_wrap 47 = .ok (.iconst 3, 1) := by decide +kernel
theorem dX6_wrap_48 : decode cX6_wrap 48 = .ok (.invokevirtual 78, 3) := by decide +kernel
theorem dX6_wrap_51 : decode cX6_wrap 51 = .ok (.goto 10, 3) := by decide +kernel
theorem dX6_wrap_54 : decode cX6_wrap 54 = .ok (.aload_n 0, 1) := by decide +kernel
theorem dX6_wrap_55 : decode cX6_wrap 55 = .ok (.iload_n 1, 1) := by decide +kernel
theorem dX6_wrap_56 : decode cX6_wrap 56 = .ok (.iload_n 2, 1) := by decide +kernel
theorem dX6_wrap_57 : decode cX6_wrap 57 = .ok (.iconst 0, 1) := by decide +kernel
theorem dX6_wrap_58 : decode cX6_wrap 58 = .ok (.invokevirtual 82, 3) := by decide +kernel
theorem dX6_wrap_61 : decode cX6_wrap 61 = .ok (.ireturn, 1) := by decide +kernel
set_option maxRecDepth 20000 in
theorem ggX6_define_X6_isRule : GoodIn wsX6_define wsX6_isRule := goodIn_r _ [6] (by decide +kernel) (by decide +kernel)
set_option maxRecDepth 20000 in
theorem gX6_define_X6_isRule : GoodIn wsX6_define (va_wsS RX6 90 yX6_isRule wsX6_isRule) := goodIn_app (goodIn_of _ (by decide +kernel)) ggX6_define_X6_isRule
set_option maxRecDepth 20000 in
theorem ggX6_define_X6_isExpression : GoodIn wsX6_define wsX6_isExpression := goodIn_r _ [10, 11, 25, 26, 27, 28, 29, 30, 31, 32, 33, 34, 35, 36, 37, 38, 39, 40, 41, 42, 43, 44, 45, 46, 47, 48, 49, 50, 51, 52, 53] (by decide +kernel) (by decide +kernel)
set_option maxRecDepth 20000 in
theorem gX6_define_X6_isExpression : GoodIn wsX6_define (wsV RX6 93 RX6 yX6_isExpression wsX6_isExpression) := goodIn_app (goodIn_of _ (by decide +kernel)) ggX6_define_X6_isExpression
set_option maxRecDepth 20000 in
theorem ggX6_define_X6_fail : GoodIn wsX6_define wsX6_fail := goodIn_r _ [15, 1, 25, 26, 27, 28, 29, 30, 31, 32, 33, 34, 35, 36, 37, 38, 39, 40, 41, 42, 43, 44, 45, 46, 47, 48, 49, 50, 51, 52, 53] (by decide +kernel) (by decide +kernel)
set_option maxRecDepth 20000 in
theorem gX6_define_X6_fail : GoodIn wsX6_define (wsV RX6 78 RX6 yX6_fail wsX6_fail) := goodIn_app (goodIn_of _ (by decide +kernel)) ggX6_define_X6_fail
set_option maxRecDepth 20000 in
theorem ggX6_define_X6_forgetAll : GoodIn wsX6_define wsX6_forgetAll := goodIn_r _ [19, 20, 21, 22, 23, 5, 24, 25, 26, 27, 28, 29, 30, 31, 32, 33, 34, 35, 36, 37, 38, 39, 40, 41, 42, 43, 44, 45, 46, 47, 48, 49, 50, 51, 52, 53] (by decide +kernel) (by decide +kernel)
set_option maxRecDepth 20000 in
theorem gX6_define_X6_forgetAll : GoodIn wsX6_define (wsV RX6 96 RX6 yX6_forgetAll wsX6_forgetAll) := goodIn_app (goodIn_of _ (by decide +kernel)) ggX6_define_X6_forgetAll
theorem dX6_define_0 : decode cX6_define 0 = .ok (.aload_n 0, 1) := by decide +kernel
theorem dX6_define_1 : decode cX6_define 1 = .ok (.iconst 0, 1) := by decide +kernel
theorem dX6_define_2 : decode cX6_define 2 = .ok (.putfield 72, 3) := by decide +kernel
theorem dX6_define_5 : decode cX6_define 5 = .ok (.iload_n 1, 1) := by decide +kernel
theorem dX6_define_6 : decode cX6_define 6 = .ok (.invokestatic 90, 3) := by decide +kernel
theorem dX6_define_9 : decode cX6_define 9 = .ok (.ifCond .eq 16, 3) := by decide +kernel
theorem dX6_define_12 : decode cX6_define 12 = .ok (.iload_n 2, 1) := by decide +kernel
theorem dX6_define_13 : decode cX6_define 13 = .ok (.iconst (-1), 1) := by decide +kernel
theorem dX6_define_14 : decode cX6_define 14 = .ok (.if_icmp .eq 17, 3) := by decide +kernel
theorem dX6_define_17 : decode cX6_define 17 = .ok (.aload_n 0, 1) := by decide +kernel
theorem dX6_define_18 : decode cX6_define 18 = .ok (.iload_n 2, 1) := by decide +kernel
theorem dX6_define_19 : decode cX6_define 19 = .ok (.invokevirtual 93, 3) := by decide +kernel
theorem dX6_define_22 : decode cX6_define 22 = .ok (.ifCond .ne 9, 3) := by decide +kernel
theorem dX6_define_25 : decode cX6_define 25 = .ok (.aload_n 0, 1) := by decide +kernel
theorem dX6_define_26 : decode cX6_define 26 = .ok (.iconst 1, 1) := by decide +kernel
theorem dX6_define_27 : decode cX6_define 27 = .ok (.invokevirtual 78, 3) := by decide +kernel
theorem dX6_define_30 : decode cX6_define 30 = .ok (.ireturn, 1) := by decide +kernel
theorem dX6_define_31 : decode cX6_define 31 = .ok (.aload_n 0, 1) := by decide +kernel
theorem dX6_define_32 : decode cX6_define 32 = .ok (.getfield 19, 3) := by decide +kernel
theorem dX6_define_35 : decode cX6_define 35 = .ok (.iload_n 1, 1) := by decide +kernel
theorem dX6_define_36 : decode cX6_define 36 = .ok (.iaload, 1) := by decide +kernel
theorem dX6_define_37 : decode cX6_define 37 = .ok (.istore_n 3, 1) := by decide +kernel
theorem dX6_define_38 : decode cX6_define 38 = .ok (.aload_n 0, 1) := by decide +kernel
theorem dX6_define_39 : decode cX6_define 39 = .ok (.getfield 19, 3) := by decide +kernel
theorem dX6_define_42 : decode cX6_define 42 = .ok (.iload_n 1, 1) := by decide +kernel
theorem dX6_define_43 : decode cX6_define 43 = .ok (.iload_n 2, 1) := by decide +kernel
theorem dX6_define_44 : decode cX6_define 44 = .ok (.iastore, 1) := by decide +kernel
theorem dX6_define_45 : decode cX6_define 45 = .ok (.aload_n 0, 1) := by decide +kernel
theorem dX6_define_46 : decode cX6_define 46 = .ok (.invokevirtual 96, 3) := by decide +kernel
theorem dX6_define_49 : decode cX6_define 49 = .ok (.pop, 1) := by decide +kernel
theorem dX6_define_50 : decode cX6_define 50 = .ok (.iload_n 3, 1) := by decide +kernel
theorem dX6_define_51 : decode cX6_define 51 = .ok (.ireturn, 1) := by decide +kernel
theorem dX6_expressionCount_0 : decode cX6_expressionCount 0 = .ok (.aload_n 0, 1) := by decide +kernel
theorem dX6_expressionCount_1 : decode cX6_expressionCount 1 = .ok (.iconst 0, 1) := by decide +kernel
theorem dX6_expressionCount_2 : decode cX6_expressionCount 2 = .ok (.putfield 72, 3) := by decide +kernel
theorem dX6_expressionCount_5 : decode cX6_expressionCount 5 = .ok (.aload_n 0, 1) := by decide +kernel
theorem dX6_expressionCount_6 : decode cX6_expressionCount 6 = .ok (.getfield 75, 3) := by decide +kernel
theorem dX6_expressionCount_9 : decode cX6_expressionCount 9 = .ok (.ireturn, 1) := by decide +kernel
theorem dX6_can_0 : decode cX6_can 0 = .ok (.aload_n 0, 1) := by decide +kernel
theorem dX6_can_1 : decode cX6_can 1 = .ok (.getfield 9, 3) := by decide +kernel
theorem dX6_can_4 : decode cX6_can 4 = .ok (.iload_n 1, 1) := by decide +kernel
theorem dX6_can_5 : decode cX6_can 5 = .ok (.iaload, 1) := by decide +kernel
theorem dX6_can_6 : decode cX6_can 6 = .ok (.tableswitch 112 2 5 #[30, 32, 44, 78], 30) := by decide +kernel
theorem dX6_can_36 : decode cX6_can 36 = .ok (.iconst 0, 1) := by decide +kernel
theorem dX6_can_37 : decode cX6_can 37 = .ok (.ireturn, 1) := by decide +kernel
theorem dX6_can_38 : decode cX6_can 38 = .ok (.aload_n 0, 1) := by decide +kernel
theorem dX6_can_39 : decode cX6_can 39 = .ok (.getfield 63, 3) := by decide +kernel
theorem dX6_can_42 : decode cX6_can 42 = .ok (.aload_n 0, 1) := by decide +kernel
theorem dX6_can_43 : decode cX6_can 43 = .ok (.getfield 13, 3) := by decide +kernel
theorem dX6_can_46 : decode cX6_can 46 = .ok (.iload_n 1, 1) := by decide +kernel
theorem dX6_can_47 : decode cX6_can 47 = .ok (.iaload, 1) := by decide +kernel
theorem dX6_can_48 : decode cX6_can 48 = .ok (.baload, 1) := by decide +kernel
theorem dX6_can_49 : decode cX6_can 49 = .ok (.ireturn, 1) := by decide +kernel
theorem dX6_can_50 : decode cX6_can 50 = .ok (.aload_n 0, 1) := by decide +kernel
theorem dX6_can_51 : decode cX6_can 51 = .ok (.getfield 66, 3) := by decide +kernel
theorem dX6_can_54 : decode cX6_can 54 = .ok (.aload_n 0, 1) := by decide +kernel
theorem dX6_can_55 : decode cX6_can 55 = .ok (.getfield 13, 3) := by decide +kernel
theorem dX6_can_58 : decode cX6_can 58 = .ok (.iload_n 1, 1) := by decide +kernel
theorem dX6_can_59 : decode cX6_can 59 = .ok (.iaload, 1) := by decide +kernel
theorem dX6_can_60 : decode cX6_can 60 = .ok (.baload, 1) := by decide +kernel
theorem dX6_can_61 : decode cX6_can 61 = .ok (.ifCond .eq 21, 3) := by decide +kernel
theorem dX6_can_64 : decode cX6_can 64 = .ok (.aload_n 0, 1) := by decide +kernel
theorem dX6_can_65 : decode cX6_can 65 = .ok (.getfield 66, 3) := by decide +kernel
theorem dX6_can_68 : decode cX6_can 68 = .ok (.aload_n 0, 1) := by decide +kernel
theorem dX6_can_69 : decode cX6_can 69 = .ok (.getfield 16, 3) := by decide +kernel
theorem dX6_can_72 : decode cX6_can 72 = .ok (.iload_n 1, 1) := by decide +kernel
theorem dX6_can_73 : decode cX6_can 73 = .ok (.iaload, 1) := by decide +kernel
theorem dX6_can_74 : decode cX6_can 74 = .ok (.baload, 1) := by decide +kernel
theorem dX6_can_75 : decode cX6_can 75 = .ok (.ifCond .eq 7, 3) := by decide +kernel
theorem dX6_can_78 : decode cX6_can 78 = .ok (.iconst 1, 1) := by decide +kernel
theorem dX6_can_79 : decode cX6_can 79 = .ok (.goto 4, 3) := by decide +kernel
theorem dX6_can_82 : decode cX6_can 82 = .ok (.iconst 0, 1) := by decide +kernel
theorem dX6_can_83 : decode cX6_can 83 = .ok (.ireturn, 1) := by decide +kernel
theorem dX6_can_84 : decode cX6_can 84 = .ok (.aload_n 0, 1) := by decide +kernel
theorem dX6_can_85 : decode cX6_can 85 = .ok (.getfield 66, 3) := by decide +kernel
theorem dX6_can_88 : decode cX6_can 88 = .ok (.aload_n 0, 1) := by decide +kernel
theorem dX6_can_89 : decode cX6_can 89 = .ok (.getfield 13, 3) := by decide +kernel
theorem dX6_can_92 : decode cX6_can 92 = .ok (.iload_n 1, 1) := by decide +kernel
theorem dX6_can_93 : decode cX6_can 93 = .ok (.iaload, 1) := by decide +kernel
theorem dX6_can_94 : decode cX6_can 94 = .ok (.baload, 1) := by decide +kernel
theorem dX6_can_95 : decode cX6_can 95 = .ok (.ifCond .ne 17, 3) := by decide +kernel
theorem dX6_can_98 : decode cX6_can 98 = .ok (.aload_n 0, 1) := by decide +kernel
theorem dX6_can_99 : decode cX6_can 99 = .ok (.getfield 66, 3) := by decide +kernel
theorem dX6_can_102 : decode cX6_can 102 = .ok (.aload_n 0, 1) := by decide +kernel
theorem dX6_can_103 : decode cX6_can 103 = .ok (.getfield 16, 3) := by decide +kernel
theorem dX6_can_106 : decode cX6_can 106 = .ok (.iload_n 1, 1) := by decide +kernel
theorem dX6_can_107 : decode cX6_can 107 = .ok (.iaload, 1) := by decide +kernel
theorem dX6_can_108 : decode cX6_can 108 = .ok (.baload, 1) := by decide +kernel
theorem dX6_can_109 : decode cX6_can 109 = .ok (.ifCond .eq 7, 3) := by decide +kernel
theorem dX6_can_112 : decode cX6_can 112 = .ok (.iconst 1, 1) := by decide +kernel
theorem dX6_can_113 : decode cX6_can 113 = .ok (.goto 4, 3) := by decide +kernel
theorem dX6_can_116 : decode cX6_can 116 = .ok (.iconst 0, 1) := by decide +kernel
theorem dX6_can_117 : decode cX6_can 117 = .ok (.ireturn, 1) := by decide +kernel
theorem dX6_can_118 : decode cX6_can 118 = .ok (.iconst 1, 1) := by decide +kernel
theorem dX6_can_119 : decode cX6_can 119 = .ok (.ireturn, 1) := by decide +kernel
theorem dX6_beginsWith_0 : decode cX6_beginsWith 0 = .ok (.aload_n 0, 1) := by decide +kernel
theorem dX6_beginsWith_1 : decode cX6_beginsWith 1 = .ok (.getfield 9, 3) := by decide +kernel
theorem dX6_beginsWith_4 : decode cX6_beginsWith 4 = .ok (.iload_n 1, 1) := by decide +kernel
theorem dX6_beginsWith_5 : decode cX6_beginsWith 5 = .ok (.iaload, 1) := by decide +kernel
theorem dX6_beginsWith_6 : decode cX6_beginsWith 6 = .ok (.tableswitch 115 0 5 #[38, 38, 38, 40, 49, 91], 38) := by decide +kernel
theorem dX6_beginsWith_44 : decode cX6_beginsWith 44 = .ok (.iconst 0, 1) := by decide +kernel
theorem dX6_beginsWith_45 : decode cX6_beginsWith 45 = .ok (.ireturn, 1) := by decide +kernel
theorem dX6_beginsWith_46 : decode cX6_beginsWith 46 = .ok (.iconst 1, 1) := by decide +kernel
theorem dX6_beginsWith_47 : decode cX6_beginsWith 47 = .ok (.aload_n 0, 1) := by decide +kernel
theorem dX6_beginsWith_48 : decode cX6_beginsWith 48 = .ok (.getfield 13, 3) := by decide +kernel
theorem dX6_beginsWith_51 : decode cX6_beginsWith 51 = .ok (.iload_n 1, 1) := by decide +kernel
theorem dX6_beginsWith_52 : decode cX6_beginsWith 52 = .ok (.iaload, 1) := by decide +kernel
theorem dX6_beginsWith_53 : decode cX6_beginsWith 53 = .ok (.ishl, 1) := by decide +kernel
theorem dX6_beginsWith_54 : decode cX6_beginsWith 54 = .ok (.ireturn, 1) := by decide +kernel
theorem dX6_beginsWith_55 : decode cX6_beginsWith 55 = .ok (.aload_n 0, 1) := by decide +kernel
theorem dX6_beginsWith_56 : decode cX6_beginsWith 56 = .ok (.getfield 69, 3) := by decide +kernel
theorem dX6_beginsWith_59 : decode cX6_beginsWith 59 = .ok (.aload_n 0, 1) := by decide +kernel
theorem dX6_beginsWith_60 : decode cX6_beginsWith 60 = .ok (.getfield 13, 3) := by decide +kernel
theorem dX6_beginsWith_63 : decode cX6_beginsWith 63 = .ok (.iload_n 1, 1) := by decide +kernel
theorem dX6_beginsWith_64 : decode cX6_beginsWith 64 = .ok (.iaload, 1) := by decide +kernel
theorem dX6_beginsWith_65 : decode cX6_beginsWith 65 = .ok (.iaload, 1) := by decide +kernel
theorem dX6_beginsWith_66 : decode cX6_beginsWith 66 = .ok (.aload_n 0, 1) := by decide +kernel
theorem dX6_beginsWith_67 : decode cX6_beginsWith 67 = .ok (.getfield 66, 3) := by decide +kernel
theorem dX6_beginsWith_70 : decode cX6_beginsWith 70 = .ok (.aload_n 0, 1) := by decide +kernel
theorem dX6_beginsWith_71 : decode cX6_beginsWith 71 = .ok (.getfield 13, 3) := by decide +kernel
theorem dX6_beginsWith_74 : decode cX6_beginsWith 74 = .ok (.iload_n 1, 1) := by decide +kernel
theorem dX6_beginsWith_75 : decode cX6_beginsWith 75 = .ok (.iaload, 1) := by decide +kernel
theorem dX6_beginsWith_76 : decode cX6_beginsWith 76 = .ok (.baload, 1) := by decide +kernel
theorem dX6_beginsWith_77 : decode cX6_beginsWith 77 = .ok (.ifCond .eq 17, 3) := by decide +kernel
theorem dX6_beginsWith_80 : decode cX6_beginsWith 80 = .ok (.aload_n 0, 1) := by decide +kernel
theorem dX6_beginsWith_81 : decode cX6_beginsWith 81 = .ok (.getfield 69, 3) := by decide +kernel
theorem dX6_beginsWith_84 : decode cX6_beginsWith 84 = .ok (.aload_n 0, 1) := by decide +kernel
theorem dX6_beginsWith_85 : decode cX6_beginsWith 85 = .ok (.getfield 16, 3) := by decide +kernel
theorem dX6_beginsWith_88 : decode cX6_beginsWith 88 = .ok (.iload_n 1, 1) := by decide +kernel
theorem dX6_beginsWith_89 : decode cX6_beginsWith 89 = .ok (.iaload, 1) := by decide +kernel
theorem dX6_beginsWith_90 : decode cX6_beginsWith 90 = .ok (.iaload, 1) := by decide +kernel
theorem dX6_beginsWith_91 : decode cX6_beginsWith 91 = .ok (.goto 4, 3) := by decide +kernel
theorem dX6_beginsWith_94 : decode cX6_beginsWith 94 = .ok (.iconst 0, 1) := by decide +kernel
theorem dX6_beginsWith_95 : decode cX6_beginsWith 95 = .ok (.ior, 1) := by decide +kernel
theorem dX6_beginsWith_96 : decode cX6_beginsWith 96 = .ok (.ireturn, 1) := by decide +kernel
theorem dX6_beginsWith_97 : decode cX6_beginsWith 97 = .ok (.aload_n 0, 1) := by decide +kernel
theorem dX6_beginsWith_98 : decode cX6_beginsWith 98 = .ok (.getfield 69, 3) := by decide +kernel
theorem dX6_beginsWith_101 : decode cX6_beginsWith 101 = .ok (.aload_n 0, 1) := by decide +kernel
theorem dX6_beginsWith_102 : decode cX6_beginsWith 102 = .ok (.getfield 13, 3) := by decide +kernel
theorem dX6_beginsWith_105 : decode cX6_beginsWith 105 = .ok (.iload_n 1, 1) := by decide +kernel
theorem dX6_beginsWith_106 : decode cX6_beginsWith 106 = .ok (.iaload, 1) := by decide +kernel
theorem dX6_beginsWith_107 : decode cX6_beginsWith 107 = .ok (.iaload, 1) := by decide +kernel
theorem dX6_beginsWith_108 : decode cX6_beginsWith 108 = .ok (.aload_n 0, 1) := by decide +kernel
theorem dX6_beginsWith_109 : decode cX6_beginsWith 109 = .ok (.getfield 69, 3) := by decide +kernel
theorem dX6_beginsWith_112 : decode cX6_beginsWith 112 = .ok (.aload_n 0, 1) := by decide +kernel
theorem dX6_beginsWith_113 : decode cX6_beginsWith 113 = .ok (.getfield 16, 3) := by decide +kernel
theorem dX6_beginsWith_116 : decode cX6_beginsWith 116 = .ok (.iload_n 1, 1) := by decide +kernel
theorem dX6_beginsWith_117 : decode cX6_beginsWith 117 = .ok (.iaload, 1) := by decide +kernel
theorem dX6_beginsWith_118 : decode cX6_beginsWith 118 = .ok (.iaload, 1) := by decide +kernel
theorem dX6_beginsWith_119 : decode cX6_beginsWith 119 = .ok (.ior, 1) := by decide +kernel
theorem dX6_beginsWith_120 : decode cX6_beginsWith 120 = .ok (.ireturn, 1) := by decide +kernel
theorem dX6_beginsWith_121 : decode cX6_beginsWith 121 = .ok (.aload_n 0, 1) := by decide +kernel
theorem dX6_beginsWith_122 : decode cX6_beginsWith 122 = .ok (.getfield 69, 3) := by decide +kernel
theorem dX6_beginsWith_125 : decode cX6_beginsWith 125 = .ok (.aload_n 0, 1) := by decide +kernel
theorem dX6_beginsWith_126 : decode cX6_beginsWith 126 = .ok (.getfield 13, 3) := by decide +kernel
theorem dX6_beginsWith_129 : decode cX6_beginsWith 129 = .ok (.iload_n 1, 1) := by decide +kernel
theorem dX6_beginsWith_130 : decode cX6_beginsWith 130 = .ok (.iaload, 1) := by decide +kernel
theorem dX6_beginsWith_131 : decode cX6_beginsWith 131 = .ok (.iaload, 1) := by decide +kernel
theorem dX6_beginsWith_132 : decode cX6_beginsWith 132 = .ok (.ireturn, 1) := by decide +kernel
set_option maxRecDepth 20000 in
theorem ggX6_findForms_X6_can : GoodIn wsX6_findForms wsX6_can := goodIn_r _ [10, 11, 1, 12, 3, 13, 18, 19, 20, 21, 22, 23, 24, 25, 26, 27, 28, 29, 30, 31, 32, 33, 34, 35, 36, 37, 38, 39, 40, 41, 42, 43, 44, 45, 46] (by decide +kernel) (by decide +kernel)
set_option maxRecDepth 20000 in
theorem gX6_findForms_X6_can : GoodIn wsX6_findForms (wsV RX6 100 RX6 yX6_can wsX6_can) := goodIn_app (goodIn_of _ (by decide +kernel)) ggX6_findForms_X6_can
set_option maxRecDepth 20000 in
theorem ggX6_findForms_X6_beginsWith : GoodIn wsX6_findForms wsX6_beginsWith := goodIn_r _ [17, 11, 12, 5, 3, 13, 18, 19, 20, 21, 22, 23, 24, 25, 26, 27, 28, 29, 30, 31, 32, 33, 34, 35, 36, 37, 38, 39, 40, 41, 42, 43, 44, 45, 46] (by decide +kernel) (by decide +kernel)
set_option maxRecDepth 20000 in
theorem gX6_findForms_X6_beginsWith : GoodIn wsX6_findForms (wsV RX6 103 RX6 yX6_beginsWith wsX6_beginsWith) := goodIn_app (goodIn_of _ (by decide +kernel)) ggX6_findForms_X6_beginsWith
theorem dX6_findForms_0 : decode cX6_findForms 0 = .ok (.iconst 0, 1) := by decide +kernel
theorem dX6_findForms_1 : decode cX6_findForms 1 = .ok (.istore_n 1, 1) := by decide +kernel
theorem dX6_findForms_2 : decode cX6_findForms 2 = .ok (.iload_n 1, 1) := by decide +kernel
theorem dX6_findForms_3 : decode cX6_findForms 3 = .ok (.bipush 10, 2) := by decide +kernel
theorem dX6_findForms_5 : decode cX6_findForms 5 = .ok (.if_icmp .ge 16, 3) := by decide +kernel
theorem dX6_findForms_8 : decode cX6_findForms 8 = .ok (.aload_n 0, 1) := by decide +kernel
theorem dX6_findForms_9 : decode cX6_findForms 9 = .ok (.getfield 63, 3) := by decide +kernel
theorem dX6_findForms_12 : decode cX6_findForms 12 = .ok (.iload_n 1, 1) := by decide +kernel
theorem dX6_findForms_13 : decode cX6_findForms 13 = .ok (.iconst 0, 1) := by decide +kernel
theorem dX6_findForms_14 : decode cX6_findForms 14 = .ok (.bastore, 1) := by decide +kernel
theorem dX6_findForms_15 : decode cX6_findForms 15 = .ok (.iinc 1 1, 3) := by decide +kernel
theorem dX6_findForms_18 : decode cX6_findForms 18 = .ok (.goto (-16), 3) := by decide +kernel
theorem dX6_findForms_21 : decode cX6_findForms 21 = .ok (.iconst 0, 1) := by decide +kernel
theorem dX6_findForms_22 : decode cX6_findForms 22 = .ok (.istore_n 1, 1) := by decide +kernel
theorem dX6_findForms_23 : decode cX6_findForms 23 = .ok (.iload_n 1, 1) := by decide +kernel
theorem dX6_findForms_24 : decode cX6_findForms 24 = .ok (.bipush 10, 2) := by decide +kernel
theorem dX6_findForms_26 : decode cX6_findForms 26 = .ok (.if_icmp .gt 85, 3) := by decide +kernel
theorem dX6_findForms_29 : decode cX6_findForms 29 = .ok (.iconst 0, 1) := by decide +kernel
theorem dX6_findForms_30 : decode cX6_findForms 30 = .ok (.istore_n 2, 1) := by decide +kernel
theorem dX6_findForms_31 : decode cX6_findForms 31 = .ok (.iload_n 2, 1) := by decide +kernel
theorem dX6_findForms_32 : decode cX6_findForms 32 = .ok (.aload_n 0, 1) := by decide +kernel
theorem dX6_findForms_33 : decode cX6_findForms 33 = .ok (.getfield 75, 3) := by decide +kernel
theorem dX6_findForms_36 : decode cX6_findForms 36 = .ok (.if_icmp .ge 20, 3) := by decide +kernel
theorem dX6_findForms_39 : decode cX6_findForms 39 = .ok (.aload_n 0, 1) := by decide +kernel
theorem dX6_findForms_40 : decode cX6_findForms 40 = .ok (.getfield 66, 3) := by decide +kernel
theorem dX6_findForms_43 : decode cX6_findForms 43 = .ok (.iload_n 2, 1) := by decide +kernel
theorem dX6_findForms_44 : decode cX6_findForms 44 = .ok (.aload_n 0, 1) := by decide +kernel
theorem dX6_findForms_45 : decode cX6_findForms 45 = .ok (.iload_n 2, 1) := by decide +kernel
theorem dX6_findForms_46 : decode cX6_findForms 46 = .ok (.invokevirtual 100, 3) := by decide +kernel
theorem dX6_findForms_49 : decode cX6_findForms 49 = .ok (.bastore, 1) := by decide +kernel
theorem dX6_findForms_50 : decode cX6_findForms 50 = .ok (.iinc 2 1, 3) := by decide +kernel
theorem dX6_findForms_53 : decode cX6_findForms 53 = .ok (.goto (-22), 3) := by decide +kernel
theorem dX6_findForms_56 : decode cX6_findForms 56 = .ok (.iconst 0, 1) := by decide +kernel
theorem dX6_findForms_57 : decode cX6_findForms 57 = .ok (.istore_n 2, 1) := by decide +kernel
theorem dX6_findForms_58 : decode cX6_findForms 58 = .ok (.iload_n 2, 1) := by decide +kernel
theorem dX6_findForms_59 : decode cX6_findForms 59 = .ok (.bipush 10, 2) := by decide +kernel
theorem dX6_findForms_61 : decode cX6_findForms 61 = .ok (.if_icmp .ge 44, 3) := by decide +kernel
theorem dX6_findForms_64 : decode cX6_findForms 64 = .ok (.aload_n 0, 1) := by decide +kernel
theorem dX6_findForms_65 : decode cX6_findForms 65 = .ok (.getfield 63, 3) := by decide +kernel
theorem dX6_findForms_68 : decode cX6_findForms 68 = .ok (.iload_n 2, 1) := by decide +kernel
theorem dX6_findForms_69 : decode cX6_findForms 69 = .ok (.aload_n 0, 1) := by decide +kernel
theorem dX6_findForms_70 : decode cX6_findForms 70 = .ok (.getfield 19, 3) := by decide +kernel
theorem dX6_findForms_73 : decode cX6_findForms 73 = .ok (.iload_n 2, 1) := by decide +kernel
theorem dX6_findForms_74 : decode cX6_findForms 74 = .ok (.iaload, 1) := by decide +kernel
theorem dX6_findForms_75 : decode cX6_findForms 75 = .ok (.iconst (-1), 1) := by decide +kernel
theorem dX6_findForms_76 : decode cX6_findForms 76 = .ok (.if_icmp .eq 21, 3) := by decide +kernel
theorem dX6_findForms_79 : decode cX6_findForms 79 = .ok (.aload_n 0, 1) := by decide +kernel
theorem dX6_findForms_80 : decode cX6_findForms 80 = .ok (.getfield 66, 3) := by decide +kernel
theorem dX6_findForms_83 : decode cX6_findForms 83 = .ok (.aload_n 0, 1) := by decide +kernel
theorem dX6_findForms_84 : decode cX6_findForms 84 = .ok (.getfield 19, 3) := by decide +kernel
theorem dX6_findForms_87 : decode cX6_findForms 87 = .ok (.iload_n 2, 1) := by decide +kernel
theorem dX6_findForms_88 : decode cX6_findForms 88 = .ok (.iaload, 1) := by decide +kernel
theorem dX6_findForms_89 : decode cX6_findForms 89 = .ok (.baload, 1) := by decide +kernel
theorem dX6_findForms_90 : decode cX6_findForms 90 = .ok (.ifCond .eq 7, 3) := by decide +kernel
theorem dX6_findForms_93 : decode cX6_findForms 93 = .ok (.iconst 1, 1) := by decide +kernel
theorem dX6_findForms_94 : decode cX6_findForms 94 = .ok (.goto 4, 3) := by decide +kernel
theorem dX6_findForms_97 : decode cX6_findForms 97 = .ok (.iconst 0, 1) := by decide +kernel
theorem dX6_findForms_98 : decode cX6_findForms 98 = .ok (.bastore, 1) := by decide +kernel
theorem dX6_findForms_99 : decode cX6_findForms 99 = .ok (.iinc 2 1, 3) := by decide +kernel
theorem dX6_findForms_102 : decode cX6_findForms 102 = .ok (.goto (-44), 3) := by decide +kernel
theorem dX6_findForms_105 : decode cX6_findForms 105 = .ok (.iinc 1 1, 3) := by decide +kernel
theorem dX6_findForms_108 : decode cX6_findForms 108 = .ok (.goto (-85), 3) := by decide +kernel
theorem dX6_findForms_111 : decode cX6_findForms 111 = .ok (.iconst 0, 1) := by decide +kernel
theorem dX6_findForms_112 : decode cX6_findForms 112 = .ok (.istore_n 1, 1) := by decide +kernel
theorem dX6_findForms_113 : decode cX6_findForms 113 = .ok (.iload_n 1, 1) := by decide +kernel
theorem dX6_findForms_114 : decode cX6_findForms 114 = .ok (.aload_n 0, 1) := by decide +kernel
theorem dX6_findForms_115 : decode cX6_findForms 115 = .ok (.getfield 75, 3) := by decide +kernel
theorem dX6_findForms_118 : decode cX6_findForms 118 = .ok (.if_icmp .ge 20, 3) := by decide +kernel
theorem dX6_findForms_121 : decode cX6_findForms 121 = .ok (.aload_n 0, 1) := by decide +kernel
theorem dX6_findForms_122 : decode cX6_findForms 122 = .ok (.getfield 69, 3) := by decide +kernel
theorem dX6_findForms_125 : decode cX6_findForms 125 = .ok (.iload_n 1, 1) := by decide +kernel
theorem dX6_findForms_126 : decode cX6_findForms 126 = .ok (.aload_n 0, 1) := by decide +kernel
theorem dX6_findForms_127 : decode cX6_findForms 127 = .ok (.iload_n 1, 1) := by decide +kernel
theorem dX6_findForms_128 : decode cX6_findForms 128 = .ok (.invokevirtual 103, 3) := by decide +kernel
theorem dX6_findForms_131 : decode cX6_findForms 131 = .ok (.iastore, 1) := by decide +kernel
theorem dX6_findForms_132 : decode cX6_findForms 132 = .ok (.iinc 1 1, 3) := by decide +kernel
theorem dX6_findForms_135 : decode cX6_findForms 135 = .ok (.goto (-22), 3) := by decide +kernel
theorem dX6_findForms_138 : decode cX6_findForms 138 = .ok (.return_, 1) := by decide +kernel
set_option maxRecDepth 20000 in
theorem ggX6_canBeEmpty_X6_isExpression : GoodIn wsX6_canBeEmpty wsX6_isExpression := goodIn_r _ [7, 8, 27, 28, 29, 30, 31, 32, 33, 34, 35, 36, 37, 38, 39, 40, 41, 42, 43, 44, 45, 46, 47, 48, 49, 50, 51, 52, 53, 54, 55] (by decide +kernel) (by decide +kernel)
set_option maxRecDepth 20000 in
theorem gX6_canBeEmpty_X6_isExpression : GoodIn wsX6_canBeEmpty (wsV RX6 93 RX6 yX6_isExpression wsX6_isExpression) := goodIn_app (goodIn_of _ (by decide +kernel)) ggX6_canBeEmpty_X6_isExpression
set_option maxRecDepth 20000 in
theorem ggX6_canBeEmpty_X6_findForms : GoodIn wsX6_canBeEmpty wsX6_findForms := goodIn_r _ [12, 13, 8, 2, 14, 15, 16, 17, 18, 6, 19, 20, 21, 22, 23, 24, 25, 26, 27, 28, 29, 30, 31, 32, 33, 34, 35, 36, 37, 38, 39, 40, 41, 42, 43, 44, 45, 46, 47, 48, 49, 50, 51, 52, 53, 54, 55] (by decide +kernel) (by decide +kernel)
set_option maxRecDepth 20000 in
theorem gX6_canBeEmpty_X6_findForms : GoodIn wsX6_canBeEmpty (wsV RX6 106 RX6 yX6_findForms wsX6_findForms) := goodIn_app (goodIn_of _ (by decide +kernel)) ggX6_canBeEmpty_X6_findForms
theorem dX6_canBeEmpty_0 : decode cX6_canBeEmpty 0 = .ok (.aload_n 0, 1) := by decide +kernel
theorem dX6_canBeEmpty_1 : decode cX6_canBeEmpty 1 = .ok (.aload_n 0, 1) := by decide +kernel
theorem dX6_canBeEmpty_2 : decode cX6_canBeEmpty 2 = .ok (.iload_n 1, 1) := by decide +kernel
theorem dX6_canBeEmpty_3 : decode cX6_canBeEmpty 3 = .ok (.invokevirtual 93, 3) := by decide +kernel
theorem dX6_canBeEmpty_6 : decode cX6_canBeEmpty 6 = .ok (.ifCond .eq 7, 3) := by decide +kernel
theorem dX6_canBeEmpty_9 : decode cX6_canBeEmpty 9 = .ok (.iconst 0, 1) := by decide +kernel
theorem dX6_canBeEmpty_10 : decode cX6_canBeEmpty 10 = .ok (.goto 4, 3) := by decide +kernel
theorem dX6_canBeEmpty_13 : decode cX6_canBeEmpty 13 = .ok (.iconst 1, 1) := by decide +kernel
theorem dX6_canBeEmpty_14 : decode cX6_canBeEmpty 14 = .ok (.putfield 72, 3) := by decide +kernel
theorem dX6_canBeEmpty_17 : decode cX6_canBeEmpty 17 = .ok (.aload_n 0, 1) := by decide +kernel
theorem dX6_canBeEmpty_18 : decode cX6_canBeEmpty 18 = .ok (.getfield 72, 3) := by decide +kernel
theorem dX6_canBeEmpty_21 : decode cX6_canBeEmpty 21 = .ok (.ifCond .eq 5, 3) := by decide +kernel
theorem dX6_canBeEmpty_24 : decode cX6_canBeEmpty 24 = .ok (.iconst 0, 1) := by decide +kernel
theorem dX6_canBeEmpty_25 : decode cX6_canBeEmpty 25 = .ok (.ireturn, 1) := by decide +kernel
theorem dX6_canBeEmpty_26 : decode cX6_canBeEmpty 26 = .ok (.aload_n 0, 1) := by decide +kernel
theorem dX6_canBeEmpty_27 : decode cX6_canBeEmpty 27 = .ok (.invokevirtual 106, 3) := by decide +kernel
theorem dX6_canBeEmpty_30 : decode cX6_canBeEmpty 30 = .ok (.aload_n 0, 1) := by decide +kernel
theorem dX6_canBeEmpty_31 : decode cX6_canBeEmpty 31 = .ok (.getfield 66, 3) := by decide +kernel
theorem dX6_canBeEmpty_34 : decode cX6_canBeEmpty 34 = .ok (.iload_n 1, 1) := by decide +kernel
theorem dX6_canBeEmpty_35 : decode cX6_canBeEmpty 35 = .ok (.baload, 1) := by decide +kernel
theorem dX6_canBeEmpty_36 : decode cX6_canBeEmpty 36 = .ok (.ireturn, 1) := by decide +kernel
set_option maxRecDepth 20000 in
theorem ggX6_isLeftRecursive_X6_isRule : GoodIn wsX6_isLeftRecursive wsX6_isRule := goodIn_r _ [7] (by decide +kernel) (by decide +kernel)
set_option maxRecDepth 20000 in
theorem gX6_isLeftRecursive_X6_isRule : GoodIn wsX6_isLeftRecursive (va_wsS RX6 90 yX6_isRule wsX6_isRule) := goodIn_app (goodIn_of _ (by decide +kernel)) ggX6_isLeftRecursive_X6_isRule
set_option maxRecDepth 20000 in
theorem ggX6_isLeftRecursive_X6_findForms : GoodIn wsX6_isLeftRecursive wsX6_findForms := goodIn_r _ [11, 12, 13, 14, 2, 3, 15, 16, 17, 6, 18, 19, 20, 21, 22, 23, 24, 25, 26, 27, 28, 29, 30, 31, 32, 33, 34, 35, 36, 37, 38, 39, 40, 41, 42, 43, 44, 45, 46, 47, 48, 49, 50, 51, 52, 53, 54] (by decide +kernel) (by decide +kernel)
set_option maxRecDepth 20000 in
theorem gX6_isLeftRecursive_X6_findForms : GoodIn wsX6_isLeftRecursive (wsV RX6 106 RX6 yX6_findForms wsX6_findForms) := goodIn_app (goodIn_of _ (by decide +kernel)) ggX6_isLeftRecursive_X6_findForms
theorem dX6_isLeftRecursive_0 : decode cX6_isLeftRecursive 0 = .ok (.aload_n 0, 1) := by decide +kernel
theorem dX6_isLeftRecursive_1 : decode cX6_isLeftRecursive 1 = .ok (.iload_n 1, 1) := by decide +kernel
theorem dX6_isLeftRecursive_2 : decode cX6_isLeftRecursive 2 = .ok (.invokestatic 90, 3) := by decide +kernel
theorem dX6_isLeftRecursive_5 : decode cX6_isLeftRecursive 5 = .ok (.ifCond .eq 7, 3) := by decide +kernel
theorem dX6_isLeftRecursive_8 : decode cX6_isLeftRecursive 8 = .ok (.iconst 0, 1) := by decide +kernel
theorem dX6_isLeftRecursive_9 : decode cX6_isLeftRecursive 9 = .ok (.goto 4, 3) := by decide +kernel
theorem dX6_isLeftRecursive_12 : decode cX6_isLeftRecursive 12 = .ok (.iconst 1, 1) := by decide +kernel
theorem dX6_isLeftRecursive_13 : decode cX6_isLeftRecursive 13 = .ok (.putfield 72, 3) := by decide +kernel
theorem dX6_isLeftRecursive_16 : decode cX6_isLeftRecursive 16 = .ok (.aload_n 0, 1) := by decide +kernel
theorem dX6_isLeftRecursive_17 : decode cX6_isLeftRecursive 17 = .ok (.getfield 72, 3) := by decide +kernel
theorem dX6_isLeftRecursive_20 : decode cX6_isLeftRecursive 20 = .ok (.ifCond .ne 13, 3) := by decide +kernel
theorem dX6_isLeftRecursive_23 : decode cX6_isLeftRecursive 23 = .ok (.aload_n 0, 1) := by decide +kernel
theorem dX6_isLeftRecursive_24 : decode cX6_isLeftRecursive 24 = .ok (.getfield 19, 3) := by decide +kernel
theorem dX6_isLeftRecursive_27 : decode cX6_isLeftRecursive 27 = .ok (.iload_n 1, 1) := by decide +kernel
theorem dX6_isLeftRecursive_28 : decode cX6_isLeftRecursive 28 = .ok (.iaload, 1) := by decide +kernel
theorem dX6_isLeftRecursive_29 : decode cX6_isLeftRecursive 29 = .ok (.iconst (-1), 1) := by decide +kernel
theorem dX6_isLeftRecursive_30 : decode cX6_isLeftRecursive 30 = .ok (.if_icmp .ne 5, 3) := by decide +kernel
theorem dX6_isLeftRecursive_33 : decode cX6_isLeftRecursive 33 = .ok (.iconst 0, 1) := by decide +kernel
theorem dX6_isLeftRecursive_34 : decode cX6_isLeftRecursive 34 = .ok (.ireturn, 1) := by decide +kernel
theorem dX6_isLeftRecursive_35 : decode cX6_isLeftRecursive 35 = .ok (.aload_n 0, 1) := by decide +kernel
theorem dX6_isLeftRecursive_36 : decode cX6_isLeftRecursive 36 = .ok (.invokevirtual 106, 3) := by decide +kernel
theorem dX6_isLeftRecursive_39 : decode cX6_isLeftRecursive 39 = .ok (.aload_n 0, 1) := by decide +kernel
theorem dX6_isLeftRecursive_40 : decode cX6_isLeftRecursive 40 = .ok (.getfield 69, 3) := by decide +kernel
theorem dX6_isLeftRecursive_43 : decode cX6_isLeftRecursive 43 = .ok (.aload_n 0, 1) := by decide +kernel
theorem dX6_isLeftRecursive_44 : decode cX6_isLeftRecursive 44 = .ok (.getfield 19, 3) := by decide +kernel
theorem dX6_isLeftRecursive_47 : decode cX6_isLeftRecursive 47 = .ok (.iload_n 1, 1) := by decide +kernel
theorem dX6_isLeftRecursive_48 : decode cX6_isLeftRecursive 48 = .ok (.iaload, 1) := by decide +kernel
theorem dX6_isLeftRecursive_49 : decode cX6_isLeftRecursive 49 = .ok (.iaload, 1) := by decide +kernel
theorem dX6_isLeftRecursive_50 : decode cX6_isLeftRecursive 50 = .ok (.istore_n 2, 1) := by decide +kernel
theorem dX6_isLeftRecursive_51 : decode cX6_isLeftRecursive 51 = .ok (.iconst 0, 1) := by decide +kernel
theorem dX6_isLeftRecursive_52 : decode cX6_isLeftRecursive 52 = .ok (.istore_n 3, 1) := by decide +kernel
theorem dX6_isLeftRecursive_53 : decode cX6_isLeftRecursive 53 = .ok (.iload_n 3, 1) := by decide +kernel
theorem dX6_isLeftRecursive_54 : decode cX6_isLeftRecursive 54 = .ok (.bipush 10, 2) := by decide +kernel
theorem dX6_isLeftRecursive_56 : decode cX6_isLeftRecursive 56 = .ok (.if_icmp .ge 61, 3) := by decide +kernel
theorem dX6_isLeftRecursive_59 : decode cX6_isLeftRecursive 59 = .ok (.iconst 0, 1) := by decide +kernel
theorem dX6_isLeftRecursive_60 : decode cX6_isLeftRecursive 60 = .ok (.istore 4, 2) := by decide +kernel
theorem dX6_isLeftRecursive_62 : decode cX6_isLeftRecursive 62 = .ok (.iload 4, 2) := by decide +kernel
theorem dX6_isLeftRecursive_64 : decode cX6_isLeftRecursive 64 = .ok (.bipush 10, 2) := by decide +kernel
theorem dX6_isLeftRecursive_66 : decode cX6_isLeftRecursive 66 = .ok (.if_icmp .ge 45, 3) := by decide +kernel
theorem dX6_isLeftRecursive_69 : decode cX6_isLeftRecursive 69 = .ok (.iload_n 2, 1) := by decide +kernel
theorem dX6_isLeftRecursive_70 : decode cX6_isLeftRecursive 70 = .ok (.iload 4, 2) := by decide +kernel
theorem dX6_isLeftRecursive_72 : decode cX6_isLeftRecursive 72 = .ok (.ishr, 1) := by decide +kernel
theorem dX6_isLeftRecursive_73 : decode cX6_isLeftRecursive 73 = .ok (.iconst 1, 1) := by decide +kernel
theorem dX6_isLeftRecursive_74 : decode cX6_isLeftRecursive 74 = .ok (.iand, 1) := by decide +kernel
theorem dX6_isLeftRecursive_75 : decode cX6_isLeftRecursive 75 = .ok (.iconst 1, 1) := by decide +kernel
theorem dX6_isLeftRecursive_76 : decode cX6_isLeftRecursive 76 = .ok (.if_icmp .ne 29, 3) := by decide +kernel
theorem dX6_isLeftRecursive_79 : decode cX6_isLeftRecursive 79 = .ok (.aload_n 0, 1) := by decide +kernel
theorem dX6_isLeftRecursive_80 : decode cX6_isLeftRecursive 80 = .ok (.getfield 19, 3) := by decide +kernel
theorem dX6_isLeftRecursive_83 : decode cX6_isLeftRecursive 83 = .ok (.iload 4, 2) := by decide +kernel
theorem dX6_isLeftRecursive_85 : decode cX6_isLeftRecursive 85 = .ok (.iaload, 1) := by decide +kernel
theorem dX6_isLeftRecursive_86 : decode cX6_isLeftRecursive 86 = .ok (.iconst (-1), 1) := by decide +kernel
theorem dX6_isLeftRecursive_87 : decode cX6_isLeftRecursive 87 = .ok (.if_icmp .eq 18, 3) := by decide +kernel
theorem dX6_isLeftRecursive_90 : decode cX6_isLeftRecursive 90 = .ok (.iload_n 2, 1) := by decide +kernel
theorem dX6_isLeftRecursive_91 : decode cX6_isLeftRecursive 91 = .ok (.aload_n 0, 1) := by decide +kernel
theorem dX6_isLeftRecursive_92 : decode cX6_isLeftRecursive 92 = .ok (.getfield 69, 3) := by decide +kernel
theorem dX6_isLeftRecursive_95 : decode cX6_isLeftRecursive 95 = .ok (.aload_n 0, 1) := by decide +kernel
theorem dX6_isLeftRecursive_96 : decode cX6_isLeftRecursive 96 = .ok (.getfield 19, 3) := by decide +kernel
theorem dX6_isLeftRecursive_99 : decode cX6_isLeftRecursive 99 = .ok (.iload 4, 2) := by decide +kernel
theorem dX6_isLeftRecursive_101 : decode cX6_isLeftRecursive 101 = .ok (.iaload, 1) := by decide +kernel
theorem dX6_isLeftRecursive_102 : decode cX6_isLeftRecursive 102 = .ok (.iaload, 1) := by decide +kernel
theorem dX6_isLeftRecursive_103 : decode cX6_isLeftRecursive 103 = .ok (.ior, 1) := by decide +kernel
