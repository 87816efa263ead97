set_option maxRecDepth 20000 in
theorem ggX6_isShut_X6_isInProgress : GoodIn wsX6_isShut wsX6_isInProgress := goodIn_r _ [6, 7, 8, 9, 10, 11, 12, 13, 14, 15, 16, 17, 18, 19, 20, 21, 22, 23, 24, 25, 26, 27, 28, 29, 30, 31, 32, 33, 34, 35, 36, 37, 38] (by decide +kernel) (by decide +kernel)
set_option maxRecDepth 20000 in
theorem gX6_isShut_X6_isInProgress : GoodIn wsX6_isShut (wsV RX6 159 RX6 yX6_isInProgress wsX6_isInProgress) := goodIn_app (goodIn_of _ (by decide +kernel)) ggX6_isShut_X6_isInProgress
theorem dX6_isShut_0 : decode cX6_isShut 0 = .ok (.iconst 0, 1) := by decide +kernel
theorem dX6_isShut_1 : decode cX6_isShut 1 = .ok (.istore_n 3, 1) := by decide +kernel
theorem dX6_isShut_2 : decode cX6_isShut 2 = .ok (.iconst 0, 1) := by decide +kernel
theorem dX6_isShut_3 : decode cX6_isShut 3 = .ok (.istore 4, 2) := by decide +kernel
theorem dX6_isShut_5 : decode cX6_isShut 5 = .ok (.iload 4, 2) := by decide +kernel
theorem dX6_isShut_7 : decode cX6_isShut 7 = .ok (.bipush 10, 2) := by decide +kernel
theorem dX6_isShut_9 : decode cX6_isShut 9 = .ok (.if_icmp .ge 44, 3) := by decide +kernel
theorem dX6_isShut_12 : decode cX6_isShut 12 = .ok (.iload_n 3, 1) := by decide +kernel
theorem dX6_isShut_13 : decode cX6_isShut 13 = .ok (.ifCond .ne 28, 3) := by decide +kernel
theorem dX6_isShut_16 : decode cX6_isShut 16 = .ok (.aload_n 0, 1) := by decide +kernel
theorem dX6_isShut_17 : decode cX6_isShut 17 = .ok (.getfield 35, 3) := by decide +kernel
theorem dX6_isShut_20 : decode cX6_isShut 20 = .ok (.iload_n 1, 1) := by decide +kernel
theorem dX6_isShut_21 : decode cX6_isShut 21 = .ok (.iaload, 1) := by decide +kernel
theorem dX6_isShut_22 : decode cX6_isShut 22 = .ok (.iload 4, 2) := by decide +kernel
theorem dX6_isShut_24 : decode cX6_isShut 24 = .ok (.ishr, 1) := by decide +kernel
theorem dX6_isShut_25 : decode cX6_isShut 25 = .ok (.iconst 1, 1) := by decide +kernel
theorem dX6_isShut_26 : decode cX6_isShut 26 = .ok (.iand, 1) := by decide +kernel
theorem dX6_isShut_27 : decode cX6_isShut 27 = .ok (.iconst 1, 1) := by decide +kernel
theorem dX6_isShut_28 : decode cX6_isShut 28 = .ok (.if_icmp .ne 17, 3) := by decide +kernel
theorem dX6_isShut_31 : decode cX6_isShut 31 = .ok (.aload_n 0, 1) := by decide +kernel
theorem dX6_isShut_32 : decode cX6_isShut 32 = .ok (.iload 4, 2) := by decide +kernel
theorem dX6_isShut_34 : decode cX6_isShut 34 = .ok (.iload_n 2, 1) := by decide +kernel
theorem dX6_isShut_35 : decode cX6_isShut 35 = .ok (.invokevirtual 159, 3) := by decide +kernel
theorem dX6_isShut_38 : decode cX6_isShut 38 = .ok (.ifCond .eq 7, 3) := by decide +kernel
theorem dX6_isShut_41 : decode cX6_isShut 41 = .ok (.iconst 1, 1) := by decide +kernel
theorem dX6_isShut_42 : decode cX6_isShut 42 = .ok (.goto 4, 3) := by decide +kernel
theorem dX6_isShut_45 : decode cX6_isShut 45 = .ok (.iconst 0, 1) := by decide +kernel
theorem dX6_isShut_46 : decode cX6_isShut 46 = .ok (.istore_n 3, 1) := by decide +kernel
theorem dX6_isShut_47 : decode cX6_isShut 47 = .ok (.iinc 4 1, 3) := by decide +kernel
theorem dX6_isShut_50 : decode cX6_isShut 50 = .ok (.goto (-45), 3) := by decide +kernel
theorem dX6_isShut_53 : decode cX6_isShut 53 = .ok (.iload_n 3, 1) := by decide +kernel
theorem dX6_isShut_54 : decode cX6_isShut 54 = .ok (.ireturn, 1) := by decide +kernel
theorem dX6_name_0 : decode cX6_name 0 = .ok (.iconst 0, 1) := by decide +kernel
theorem dX6_name_1 : decode cX6_name 1 = .ok (.istore_n 3, 1) := by decide +kernel
theorem dX6_name_2 : decode cX6_name 2 = .ok (.iload_n 3, 1) := by decide +kernel
theorem dX6_name_3 : decode cX6_name 3 = .ok (.aload_n 0, 1) := by decide +kernel
theorem dX6_name_4 : decode cX6_name 4 = .ok (.getfield 150, 3) := by decide +kernel
theorem dX6_name_7 : decode cX6_name 7 = .ok (.if_icmp .ge 29, 3) := by decide +kernel
theorem dX6_name_10 : decode cX6_name 10 = .ok (.aload_n 0, 1) := by decide +kernel
theorem dX6_name_11 : decode cX6_name 11 = .ok (.getfield 41, 3) := by decide +kernel
theorem dX6_name_14 : decode cX6_name 14 = .ok (.iload_n 3, 1) := by decide +kernel
theorem dX6_name_15 : decode cX6_name 15 = .ok (.iaload, 1) := by decide +kernel
theorem dX6_name_16 : decode cX6_name 16 = .ok (.iload_n 2, 1) := by decide +kernel
theorem dX6_name_17 : decode cX6_name 17 = .ok (.if_icmp .ne 13, 3) := by decide +kernel
theorem dX6_name_20 : decode cX6_name 20 = .ok (.aload_n 0, 1) := by decide +kernel
theorem dX6_name_21 : decode cX6_name 21 = .ok (.getfield 56, 3) := by decide +kernel
theorem dX6_name_24 : decode cX6_name 24 = .ok (.iload_n 3, 1) := by decide +kernel
theorem dX6_name_25 : decode cX6_name 25 = .ok (.dup2, 1) := by decide +kernel
theorem dX6_name_26 : decode cX6_name 26 = .ok (.iaload, 1) := by decide +kernel
theorem dX6_name_27 : decode cX6_name 27 = .ok (.iload_n 1, 1) := by decide +kernel
theorem dX6_name_28 : decode cX6_name 28 = .ok (.ior, 1) := by decide +kernel
theorem dX6_name_29 : decode cX6_name 29 = .ok (.iastore, 1) := by decide +kernel
theorem dX6_name_30 : decode cX6_name 30 = .ok (.iinc 3 1, 3) := by decide +kernel
theorem dX6_name_33 : decode cX6_name 33 = .ok (.goto (-31), 3) := by decide +kernel
theorem dX6_name_36 : decode cX6_name 36 = .ok (.return_, 1) := by decide +kernel
set_option maxRecDepth 20000 in
theorem ggX6_lookRule_X6_isShut : GoodIn wsX6_lookRule wsX6_isShut := goodIn_r _ [25, 4, 26, 27, 28, 24, 29, 5, 13, 14, 69, 70, 71, 72, 73, 74, 75, 76, 77, 78, 79, 80, 81, 82, 83, 84, 85, 86, 87, 88, 89, 90, 91, 92, 93, 94, 95, 96, 97] (by decide +kernel) (by decide +kernel)
set_option maxRecDepth 20000 in
theorem gX6_lookRule_X6_isShut : GoodIn wsX6_lookRule (wsV RX6 163 RX6 yX6_isShut wsX6_isShut) := goodIn_app (goodIn_of _ (by decide +kernel)) ggX6_lookRule_X6_isShut
set_option maxRecDepth 20000 in
theorem ggX6_lookRule_X6_name : GoodIn wsX6_lookRule wsX6_name := goodIn_r _ [33, 5, 14, 18, 69, 70, 71, 72, 73, 74, 75, 76, 77, 78, 79, 80, 81, 82, 83, 84, 85, 86, 87, 88, 89, 90, 91, 92, 93, 94, 95, 96, 97] (by decide +kernel) (by decide +kernel)
set_option maxRecDepth 20000 in
theorem gX6_lookRule_X6_name : GoodIn wsX6_lookRule (wsV RX6 169 RX6 yX6_name wsX6_name) := goodIn_app (goodIn_of _ (by decide +kernel)) ggX6_lookRule_X6_name
set_option maxRecDepth 20000 in
theorem ggX6_lookRule_X6_ask : GoodIn wsX6_lookRule wsX6_ask := goodIn_r _ [37, 16, 5, 17, 15, 69, 70, 71, 72, 73, 74, 75, 76, 77, 78, 79, 80, 81, 82, 83, 84, 85, 86, 87, 88, 89, 90, 91, 92, 93, 94, 95, 96, 97] (by decide +kernel) (by decide +kernel)
set_option maxRecDepth 20000 in
theorem gX6_lookRule_X6_ask : GoodIn wsX6_lookRule (wsV RX6 173 RX6 yX6_ask wsX6_ask) := goodIn_app (goodIn_of _ (by decide +kernel)) ggX6_lookRule_X6_ask
set_option maxRecDepth 20000 in
theorem ggX6_lookRule_X6_look : GoodIn wsX6_lookRule wsX6_look := goodIn_r _ [41, 19, 42, 43, 44, 45, 46, 47, 48, 49, 24, 50, 51, 52, 53, 54, 55, 56, 57, 58, 5, 6, 8, 9, 10, 11, 59, 60, 61, 62, 63, 64, 38, 39, 40, 65, 66, 67, 68, 0, 1, 2, 3, 4, 7, 12, 13, 14, 15, 16, 17, 18, 20, 21, 22, 23, 25, 26, 27, 28, 29, 30, 31, 32, 33, 34, 35, 36, 37, 69, 70, 71, 72, 73, 74, 75, 76, 77, 78, 79, 80, 81, 82, 83, 84, 85, 86, 87, 88, 89, 90, 91, 92, 93, 94, 95, 96, 97] (by decide +kernel) (by decide +kernel)
set_option maxRecDepth 20000 in
theorem gX6_lookRule_X6_look : GoodIn wsX6_lookRule (wsV RX6 144 RX6 yX6_look wsX6_look) := goodIn_app (goodIn_of _ (by decide +kernel)) ggX6_lookRule_X6_look
theorem dX6_lookRule_0 : decode cX6_lookRule 0 = .ok (.aload_n 0, 1) := by decide +kernel
theorem dX6_lookRule_1 : decode cX6_lookRule 1 = .ok (.getfield 19, 3) := by decide +kernel
theorem dX6_lookRule_4 : decode cX6_lookRule 4 = .ok (.iload_n 1, 1) := by decide +kernel
theorem dX6_lookRule_5 : decode cX6_lookRule 5 = .ok (.iaload, 1) := by decide +kernel
theorem dX6_lookRule_6 : decode cX6_lookRule 6 = .ok (.iconst (-1), 1) := by decide +kernel
theorem dX6_lookRule_7 : decode cX6_lookRule 7 = .ok (.if_icmp .ne 5, 3) := by decide +kernel
theorem dX6_lookRule_10 : decode cX6_lookRule 10 = .ok (.iconst (-1), 1) := by decide +kernel
theorem dX6_lookRule_11 : decode cX6_lookRule 11 = .ok (.ireturn, 1) := by decide +kernel
theorem dX6_lookRule_12 : decode cX6_lookRule 12 = .ok (.bipush 41, 2) := by decide +kernel
theorem dX6_lookRule_14 : decode cX6_lookRule 14 = .ok (.iload_n 1, 1) := by decide +kernel
theorem dX6_lookRule_15 : decode cX6_lookRule 15 = .ok (.imul, 1) := by decide +kernel
theorem dX6_lookRule_16 : decode cX6_lookRule 16 = .ok (.iload_n 2, 1) := by decide +kernel
theorem dX6_lookRule_17 : decode cX6_lookRule 17 = .ok (.iadd, 1) := by decide +kernel
theorem dX6_lookRule_18 : decode cX6_lookRule 18 = .ok (.istore 4, 2) := by decide +kernel
theorem dX6_lookRule_20 : decode cX6_lookRule 20 = .ok (.aload_n 0, 1) := by decide +kernel
theorem dX6_lookRule_21 : decode cX6_lookRule 21 = .ok (.getfield 25, 3) := by decide +kernel
theorem dX6_lookRule_24 : decode cX6_lookRule 24 = .ok (.iload 4, 2) := by decide +kernel
theorem dX6_lookRule_26 : decode cX6_lookRule 26 = .ok (.baload, 1) := by decide +kernel
theorem dX6_lookRule_27 : decode cX6_lookRule 27 = .ok (.ifCond .eq 85, 3) := by decide +kernel
theorem dX6_lookRule_30 : decode cX6_lookRule 30 = .ok (.aload_n 0, 1) := by decide +kernel
theorem dX6_lookRule_31 : decode cX6_lookRule 31 = .ok (.iload 4, 2) := by decide +kernel
theorem dX6_lookRule_33 : decode cX6_lookRule 33 = .ok (.iload_n 2, 1) := by decide +kernel
theorem dX6_lookRule_34 : decode cX6_lookRule 34 = .ok (.invokevirtual 163, 3) := by decide +kernel
theorem dX6_lookRule_37 : decode cX6_lookRule 37 = .ok (.ifCond .ne 75, 3) := by decide +kernel
theorem dX6_lookRule_40 : decode cX6_lookRule 40 = .ok (.aload_n 0, 1) := by decide +kernel
theorem dX6_lookRule_41 : decode cX6_lookRule 41 = .ok (.dup, 1) := by decide +kernel
theorem dX6_lookRule_42 : decode cX6_lookRule 42 = .ok (.getfield 166, 3) := by decide +kernel
theorem dX6_lookRule_45 : decode cX6_lookRule 45 = .ok (.iconst 1, 1) := by decide +kernel
theorem dX6_lookRule_46 : decode cX6_lookRule 46 = .ok (.iadd, 1) := by decide +kernel
theorem dX6_lookRule_47 : decode cX6_lookRule 47 = .ok (.putfield 166, 3) := by decide +kernel
theorem dX6_lookRule_50 : decode cX6_lookRule 50 = .ok (.aload_n 0, 1) := by decide +kernel
theorem dX6_lookRule_51 : decode cX6_lookRule 51 = .ok (.aload_n 0, 1) := by decide +kernel
theorem dX6_lookRule_52 : decode cX6_lookRule 52 = .ok (.getfield 35, 3) := by decide +kernel
theorem dX6_lookRule_55 : decode cX6_lookRule 55 = .ok (.iload 4, 2) := by decide +kernel
theorem dX6_lookRule_57 : decode cX6_lookRule 57 = .ok (.iaload, 1) := by decide +kernel
theorem dX6_lookRule_58 : decode cX6_lookRule 58 = .ok (.iload_n 2, 1) := by decide +kernel
theorem dX6_lookRule_59 : decode cX6_lookRule 59 = .ok (.invokevirtual 169, 3) := by decide +kernel
theorem dX6_lookRule_62 : decode cX6_lookRule 62 = .ok (.iconst 0, 1) := by decide +kernel
theorem dX6_lookRule_63 : decode cX6_lookRule 63 = .ok (.istore 5, 2) := by decide +kernel
theorem dX6_lookRule_65 : decode cX6_lookRule 65 = .ok (.iload 5, 2) := by decide +kernel
theorem dX6_lookRule_67 : decode cX6_lookRule 67 = .ok (.aload_n 0, 1) := by decide +kernel
theorem dX6_lookRule_68 : decode cX6_lookRule 68 = .ok (.getfield 150, 3) := by decide +kernel
theorem dX6_lookRule_71 : decode cX6_lookRule 71 = .ok (.if_icmp .ge 33, 3) := by decide +kernel
theorem dX6_lookRule_74 : decode cX6_lookRule 74 = .ok (.aload_n 0, 1) := by decide +kernel
theorem dX6_lookRule_75 : decode cX6_lookRule 75 = .ok (.getfield 53, 3) := by decide +kernel
theorem dX6_lookRule_78 : decode cX6_lookRule 78 = .ok (.iload 5, 2) := by decide +kernel
theorem dX6_lookRule_80 : decode cX6_lookRule 80 = .ok (.aload_n 0, 1) := by decide +kernel
theorem dX6_lookRule_81 : decode cX6_lookRule 81 = .ok (.getfield 53, 3) := by decide +kernel
theorem dX6_lookRule_84 : decode cX6_lookRule 84 = .ok (.iload 5, 2) := by decide +kernel
theorem dX6_lookRule_86 : decode cX6_lookRule 86 = .ok (.iaload, 1) := by decide +kernel
theorem dX6_lookRule_87 : decode cX6_lookRule 87 = .ok (.aload_n 0, 1) := by decide +kernel
theorem dX6_lookRule_88 : decode cX6_lookRule 88 = .ok (.getfield 32, 3) := by decide +kernel
theorem dX6_lookRule_91 : decode cX6_lookRule 91 = .ok (.iload 4, 2) := by decide +kernel
theorem dX6_lookRule_93 : decode cX6_lookRule 93 = .ok (.iaload, 1) := by decide +kernel
theorem dX6_lookRule_94 : decode cX6_lookRule 94 = .ok (.invokestatic 153, 3) := by decide +kernel
theorem dX6_lookRule_97 : decode cX6_lookRule 97 = .ok (.iastore, 1) := by decide +kernel
theorem dX6_lookRule_98 : decode cX6_lookRule 98 = .ok (.iinc 5 1, 3) := by decide +kernel
theorem dX6_lookRule_101 : decode cX6_lookRule 101 = .ok (.goto (-36), 3) := by decide +kernel
theorem dX6_lookRule_104 : decode cX6_lookRule 104 = .ok (.aload_n 0, 1) := by decide +kernel
theorem dX6_lookRule_105 : decode cX6_lookRule 105 = .ok (.getfield 29, 3) := by decide +kernel
theorem dX6_lookRule_108 : decode cX6_lookRule 108 = .ok (.iload 4, 2) := by decide +kernel
theorem dX6_lookRule_110 : decode cX6_lookRule 110 = .ok (.iaload, 1) := by decide +kernel
theorem dX6_lookRule_111 : decode cX6_lookRule 111 = .ok (.ireturn, 1) := by decide +kernel
theorem dX6_lookRule_112 : decode cX6_lookRule 112 = .ok (.iconst 0, 1) := by decide +kernel
theorem dX6_lookRule_113 : decode cX6_lookRule 113 = .ok (.istore 5, 2) := by decide +kernel
theorem dX6_lookRule_115 : decode cX6_lookRule 115 = .ok (.iload 5, 2) := by decide +kernel
theorem dX6_lookRule_117 : decode cX6_lookRule 117 = .ok (.aload_n 0, 1) := by decide +kernel
theorem dX6_lookRule_118 : decode cX6_lookRule 118 = .ok (.getfield 150, 3) := by decide +kernel
theorem dX6_lookRule_121 : decode cX6_lookRule 121 = .ok (.if_icmp .ge 38, 3) := by decide +kernel
theorem dX6_lookRule_124 : decode cX6_lookRule 124 = .ok (.aload_n 0, 1) := by decide +kernel
theorem dX6_lookRule_125 : decode cX6_lookRule 125 = .ok (.getfield 38, 3) := by decide +kernel
theorem dX6_lookRule_128 : decode cX6_lookRule 128 = .ok (.iload 5, 2) := by decide +kernel
theorem dX6_lookRule_130 : decode cX6_lookRule 130 = .ok (.iaload, 1) := by decide +kernel
theorem dX6_lookRule_131 : decode cX6_lookRule 131 = .ok (.iload_n 1, 1) := by decide +kernel
theorem dX6_lookRule_132 : decode cX6_lookRule 132 = .ok (.if_icmp .ne 21, 3) := by decide +kernel
theorem dX6_lookRule_135 : decode cX6_lookRule 135 = .ok (.aload_n 0, 1) := by decide +kernel
theorem dX6_lookRule_136 : decode cX6_lookRule 136 = .ok (.getfield 41, 3) := by decide +kernel
theorem dX6_lookRule_139 : decode cX6_lookRule 139 = .ok (.iload 5, 2) := by decide +kernel
theorem dX6_lookRule_141 : decode cX6_lookRule 141 = .ok (.iaload, 1) := by decide +kernel
theorem dX6_lookRule_142 : decode cX6_lookRule 142 = .ok (.iload_n 2, 1) := by decide +kernel
theorem dX6_lookRule_143 : decode cX6_lookRule 143 = .ok (.if_icmp .ne 10, 3) := by decide +kernel
theorem dX6_lookRule_146 : decode cX6_lookRule 146 = .ok (.aload_n 0, 1) := by decide +kernel
theorem dX6_lookRule_147 : decode cX6_lookRule 147 = .ok (.iload 5, 2) := by decide +kernel
theorem dX6_lookRule_149 : decode cX6_lookRule 149 = .ok (.invokevirtual 173, 3) := by decide +kernel
theorem dX6_lookRule_152 : decode cX6_lookRule 152 = .ok (.ireturn, 1) := by decide +kernel
theorem dX6_lookRule_153 : decode cX6_lookRule 153 = .ok (.iinc 5 1, 3) := by decide +kernel
theorem dX6_lookRule_156 : decode cX6_lookRule 156 = .ok (.goto (-41), 3) := by decide +kernel
theorem dX6_lookRule_159 : decode cX6_lookRule 159 = .ok (.aload_n 0, 1) := by decide +kernel
theorem dX6_lookRule_160 : decode cX6_lookRule 160 = .ok (.getfield 150, 3) := by decide +kernel
theorem dX6_lookRule_163 : decode cX6_lookRule 163 = .ok (.istore 5, 2) := by decide +kernel
theorem dX6_lookRule_165 : decode cX6_lookRule 165 = .ok (.aload_n 0, 1) := by decide +kernel
theorem dX6_lookRule_166 : decode cX6_lookRule 166 = .ok (.dup, 1) := by decide +kernel
theorem dX6_lookRule_167 : decode cX6_lookRule 167 = .ok (.getfield 150, 3) := by decide +kernel
theorem dX6_lookRule_170 : decode cX6_lookRule 170 = .ok (.iconst 1, 1) := by decide +kernel
theorem dX6_lookRule_171 : decode cX6_lookRule 171 = .ok (.iadd, 1) := by decide +kernel
theorem dX6_lookRule_172 : decode cX6_lookRule 172 = .ok (.putfield 150, 3) := by decide +kernel
theorem dX6_lookRule_175 : decode cX6_lookRule 175 = .ok (.aload_n 0, 1) := by decide +kernel
theorem dX6_lookRule_176 : decode cX6_lookRule 176 = .ok (.getfield 38, 3) := by decide +kernel
theorem dX6_lookRule_179 : decode cX6_lookRule 179 = .ok (.iload 5, 2) := by decide +kernel
theorem dX6_lookRule_181 : decode cX6_lookRule 181 = .ok (.iload_n 1, 1) := by decide +kernel
theorem dX6_lookRule_182 : decode cX6_lookRule 182 = .ok (.iastore, 1) := by decide +kernel
theorem dX6_lookRule_183 : decode cX6_lookRule 183 = .ok (.aload_n 0, 1) := by decide +kernel
theorem dX6_lookRule_184 : decode cX6_lookRule 184 = .ok (.getfield 41, 3) := by decide +kernel
theorem dX6_lookRule_187 : decode cX6_lookRule 187 = .ok (.iload 5, 2) := by decide +kernel
theorem dX6_lookRule_189 : decode cX6_lookRule 189 = .ok (.iload_n 2, 1) := by decide +kernel
theorem dX6_lookRule_190 : decode cX6_lookRule 190 = .ok (.iastore, 1) := by decide +kernel
theorem dX6_lookRule_191 : decode cX6_lookRule 191 = .ok (.aload_n 0, 1) := by decide +kernel
theorem dX6_lookRule_192 : decode cX6_lookRule 192 = .ok (.getfield 44, 3) := by decide +kernel
theorem dX6_lookRule_195 : decode cX6_lookRule 195 = .ok (.iload 5, 2) := by decide +kernel
theorem dX6_lookRule_197 : decode cX6_lookRule 197 = .ok (.iconst (-1), 1) := by decide +kernel
theorem dX6_lookRule_198 : decode cX6_lookRule 198 = .ok (.iastore, 1) := by decide +kernel
theorem dX6_lookRule_199 : decode cX6_lookRule 199 = .ok (.aload_n 0, 1) := by decide +kernel
theorem dX6_lookRule_200 : decode cX6_lookRule 200 = .ok (.getfield 47, 3) := by decide +kernel
theorem dX6_lookRule_203 : decode cX6_lookRule 203 = .ok (.iload 5, 2) := by decide +kernel
theorem dX6_lookRule_205 : decode cX6_lookRule 205 = .ok (.iconst 0, 1) := by decide +kernel
theorem dX6_lookRule_206 : decode cX6_lookRule 206 = .ok (.bastore, 1) := by decide +kernel
theorem dX6_lookRule_207 : decode cX6_lookRule 207 = .ok (.aload_n 0, 1) := by decide +kernel
theorem dX6_lookRule_208 : decode cX6_lookRule 208 = .ok (.getfield 50, 3) := by decide +kernel
theorem dX6_lookRule_211 : decode cX6_lookRule 211 = .ok (.iload 5, 2) := by decide +kernel
theorem dX6_lookRule_213 : decode cX6_lookRule 213 = .ok (.iconst 0, 1) := by decide +kernel
theorem dX6_lookRule_214 : decode cX6_lookRule 214 = .ok (.bastore, 1) := by decide +kernel
theorem dX6_lookRule_215 : decode cX6_lookRule 215 = .ok (.aload_n 0, 1) := by decide +kernel
theorem dX6_lookRule_216 : decode cX6_lookRule 216 = .ok (.getfield 53, 3) := by decide +kernel
theorem dX6_lookRule_219 : decode cX6_lookRule 219 = .ok (.iload 5, 2) := by decide +kernel
theorem dX6_lookRule_221 : decode cX6_lookRule 221 = .ok (.iload_n 2, 1) := by decide +kernel
theorem dX6_lookRule_222 : decode cX6_lookRule 222 = .ok (.iastore, 1) := by decide +kernel
theorem dX6_lookRule_223 : decode cX6_lookRule 223 = .ok (.aload_n 0, 1) := by decide +kernel
theorem dX6_lookRule_224 : decode cX6_lookRule 224 = .ok (.getfield 56, 3) := by decide +kernel
theorem dX6_lookRule_227 : decode cX6_lookRule 227 = .ok (.iload 5, 2) := by decide +kernel
theorem dX6_lookRule_229 : decode cX6_lookRule 229 = .ok (.iconst 0, 1) := by decide +kernel
theorem dX6_lookRule_230 : decode cX6_lookRule 230 = .ok (.iastore, 1) := by decide +kernel
theorem dX6_lookRule_231 : decode cX6_lookRule 231 = .ok (.aload_n 0, 1) := by decide +kernel
theorem dX6_lookRule_232 : decode cX6_lookRule 232 = .ok (.iconst 1, 1) := by decide +kernel
theorem dX6_lookRule_233 : decode cX6_lookRule 233 = .ok (.iload_n 1, 1) := by decide +kernel
theorem dX6_lookRule_234 : decode cX6_lookRule 234 = .ok (.ishl, 1) := by decide +kernel
theorem dX6_lookRule_235 : decode cX6_lookRule 235 = .ok (.iload_n 2, 1) := by decide +kernel
theorem dX6_lookRule_236 : decode cX6_lookRule 236 = .ok (.invokevirtual 169, 3) := by decide +kernel
theorem dX6_lookRule_239 : decode cX6_lookRule 239 = .ok (.aload_n 0, 1) := by decide +kernel
theorem dX6_lookRule_240 : decode cX6_lookRule 240 = .ok (.aload_n 0, 1) := by decide +kernel
theorem dX6_lookRule_241 : decode cX6_lookRule 241 = .ok (.getfield 19, 3) := by decide +kernel
theorem dX6_lookRule_244 : decode cX6_lookRule 244 = .ok (.iload_n 1, 1) := by decide +kernel
theorem dX6_lookRule_245 : decode cX6_lookRule 245 = .ok (.iaload, 1) := by decide +kernel
theorem dX6_lookRule_246 : decode cX6_lookRule 246 = .ok (.iload_n 2, 1) := by decide +kernel
theorem dX6_lookRule_247 : decode cX6_lookRule 247 = .ok (.iload_n 3, 1) := by decide +kernel
theorem dX6_lookRule_248 : decode cX6_lookRule 248 = .ok (.iconst 1, 1) := by decide +kernel
theorem dX6_lookRule_249 : decode cX6_lookRule 249 = .ok (.iadd, 1) := by decide +kernel
theorem dX6_lookRule_250 : decode cX6_lookRule 250 = .ok (.invokevirtual 144, 3) := by decide +kernel
theorem dX6_lookRule_253 : decode cX6_lookRule 253 = .ok (.istore 6, 2) := by decide +kernel
theorem dX6_lookRule_255 : decode cX6_lookRule 255 = .ok (.aload_n 0, 1) := by decide +kernel
theorem dX6_lookRule_256 : decode cX6_lookRule 256 = .ok (.getfield 47, 3) := by decide +kernel
theorem dX6_lookRule_259 : decode cX6_lookRule 259 = .ok (.iload 5, 2) := by decide +kernel
theorem dX6_lookRule_261 : decode cX6_lookRule 261 = .ok (.baload, 1) := by decide +kernel
theorem dX6_lookRule_262 : decode cX6_lookRule 262 = .ok (.ifCond .eq 86, 3) := by decide +kernel
theorem dX6_lookRule_265 : decode cX6_lookRule 265 = .ok (.iload 6, 2) := by decide +kernel
theorem dX6_lookRule_267 : decode cX6_lookRule 267 = .ok (.iconst (-1), 1) := by decide +kernel
theorem dX6_lookRule_268 : decode cX6_lookRule 268 = .ok (.if_icmp .eq 71, 3) := by decide +kernel
theorem dX6_lookRule_271 : decode cX6_lookRule 271 = .ok (.aload_n 0, 1) := by decide +kernel
theorem dX6_lookRule_272 : decode cX6_lookRule 272 = .ok (.getfield 125, 3) := by decide +kernel
theorem dX6_lookRule_275 : decode cX6_lookRule 275 = .ok (.ifCond .ne 64, 3) := by decide +kernel
theorem dX6_lookRule_278 : decode cX6_lookRule 278 = .ok (.aload_n 0, 1) := by decide +kernel
theorem dX6_lookRule_279 : decode cX6_lookRule 279 = .ok (.getfield 44, 3) := by decide +kernel
theorem dX6_lookRule_282 : decode cX6_lookRule 282 = .ok (.iload 5, 2) := by decide +kernel
theorem dX6_lookRule_284 : decode cX6_lookRule 284 = .ok (.iaload, 1) := by decide +kernel
theorem dX6_lookRule_285 : decode cX6_lookRule 285 = .ok (.iconst (-1), 1) := by decide +kernel
theorem dX6_lookRule_286 : decode cX6_lookRule 286 = .ok (.if_icmp .eq 15, 3) := by decide +kernel
theorem dX6_lookRule_289 : decode cX6_lookRule 289 = .ok (.aload_n 0, 1) := by decide +kernel
theorem dX6_lookRule_290 : decode cX6_lookRule 290 = .ok (.getfield 44, 3) := by decide +kernel
theorem dX6_lookRule_293 : decode cX6_lookRule 293 = .ok (.iload 5, 2) := by decide +kernel
theorem dX6_lookRule_295 : decode cX6_lookRule 295 = .ok (.iaload, 1) := by decide +kernel
theorem dX6_lookRule_296 : decode cX6_lookRule 296 = .ok (.iload 6, 2) := by decide +kernel
theorem dX6_lookRule_298 : decode cX6_lookRule 298 = .ok (.if_icmp .ge 41, 3) := by decide +kernel
theorem dX6_lookRule_301 : decode cX6_lookRule 301 = .ok (.aload_n 0, 1) := by decide +kernel
theorem dX6_lookRule_302 : decode cX6_lookRule 302 = .ok (.getfield 44, 3) := by decide +kernel
theorem dX6_lookRule_305 : decode cX6_lookRule 305 = .ok (.iload 5, 2) := by decide +kernel
theorem dX6_lookRule_307 : decode cX6_lookRule 307 = .ok (.iload 6, 2) := by decide +kernel
theorem dX6_lookRule_309 : decode cX6_lookRule 309 = .ok (.iastore, 1) := by decide +kernel
theorem dX6_lookRule_310 : decode cX6_lookRule 310 = .ok (.aload_n 0, 1) := by decide +kernel
theorem dX6_lookRule_311 : decode cX6_lookRule 311 = .ok (.dup, 1) := by decide +kernel
theorem dX6_lookRule_312 : decode cX6_lookRule 312 = .ok (.getfield 176, 3) := by decide +kernel
theorem dX6_lookRule_315 : decode cX6_lookRule 315 = .ok (.iconst 1, 1) := by decide +kernel
theorem dX6_lookRule_316 : decode cX6_lookRule 316 = .ok (.iadd, 1) := by decide +kernel
theorem dX6_lookRule_317 : decode cX6_lookRule 317 = .ok (.putfield 176, 3) := by decide +kernel
theorem dX6_lookRule_320 : decode cX6_lookRule 320 = .ok (.aload_n 0, 1) := by decide +kernel
theorem dX6_lookRule_321 : decode cX6_lookRule 321 = .ok (.aload_n 0, 1) := by decide +kernel
theorem dX6_lookRule_322 : decode cX6_lookRule 322 = .ok (.getfield 19, 3) := by decide +kernel
theorem dX6_lookRule_325 : decode cX6_lookRule 325 = .ok (.iload_n 1, 1) := by decide +kernel
theorem dX6_lookRule_326 : decode cX6_lookRule 326 = .ok (.iaload, 1) := by decide +kernel
theorem dX6_lookRule_327 : decode cX6_lookRule 327 = .ok (.iload_n 2, 1) := by decide +kernel
theorem dX6_lookRule_328 : decode cX6_lookRule 328 = .ok (.iload_n 3, 1) := by decide +kernel
theorem dX6_lookRule_329 : decode cX6_lookRule 329 = .ok (.iconst 1, 1) := by decide +kernel
theorem dX6_lookRule_330 : decode cX6_lookRule 330 = .ok (.iadd, 1) := by decide +kernel
theorem dX6_lookRule_331 : decode cX6_lookRule 331 = .ok (.invokevirtual 144, 3) := by decide +kernel
theorem dX6_lookRule_334 : decode cX6_lookRule 334 = .ok (.istore 6, 2) := by decide +kernel
theorem dX6_lookRule_336 : decode cX6_lookRule 336 = .ok (.goto (-71), 3) := by decide +kernel
theorem dX6_lookRule_339 : decode cX6_lookRule 339 = .ok (.aload_n 0, 1) := by decide +kernel
theorem dX6_lookRule_340 : decode cX6_lookRule 340 = .ok (.getfield 44, 3) := by decide +kernel
theorem dX6_lookRule_343 : decode cX6_lookRule 343 = .ok (.iload 5, 2) := by decide +kernel
theorem dX6_lookRule_345 : decode cX6_lookRule 345 = .ok (.iaload, 1) := by decide +kernel
theorem dX6_lookRule_346 : decode cX6_lookRule 346 = .ok (.istore 6, 2) := by decide +kernel
theorem dX6_lookRule_348 : decode cX6_lookRule 348 = .ok (.aload_n 0, 1) := by decide +kernel
theorem dX6_lookRule_349 : decode cX6_lookRule 349 = .ok (.iload 5, 2) := by decide +kernel
theorem dX6_lookRule_351 : decode cX6_lookRule 351 = .ok (.putfield 150, 3) := by decide +kernel
theorem dX6_lookRule_354 : decode cX6_lookRule 354 = .ok (.aload_n 0, 1) := by decide +kernel
theorem dX6_lookRule_355 : decode cX6_lookRule 355 = .ok (.getfield 50, 3) := by decide +kernel
theorem dX6_lookRule_358 : decode cX6_lookRule 358 = .ok (.iload 5, 2) := by decide +kernel
theorem dX6_lookRule_360 : decode cX6_lookRule 360 = .ok (.baload, 1) := by decide +kernel
theorem dX6_lookRule_361 : decode cX6_lookRule 361 = .ok (.ifCond .ne 55, 3) := by decide +kernel
theorem dX6_lookRule_364 : decode cX6_lookRule 364 = .ok (.aload_n 0, 1) := by decide +kernel
theorem dX6_lookRule_365 : decode cX6_lookRule 365 = .ok (.getfield 125, 3) := by decide +kernel
theorem dX6_lookRule_368 : decode cX6_lookRule 368 = .ok (.ifCond .ne 48, 3) := by decide +kernel
theorem dX6_lookRule_371 : decode cX6_lookRule 371 = .ok (.aload_n 0, 1) := by decide +kernel
theorem dX6_lookRule_372 : decode cX6_lookRule 372 = .ok (.getfield 25, 3) := by decide +kernel
theorem dX6_lookRule_375 : decode cX6_lookRule 375 = .ok (.iload 4, 2) := by decide +kernel
theorem dX6_lookRule_377 : decode cX6_lookRule 377 = .ok (.iconst 1, 1) := by decide +kernel
theorem dX6_lookRule_378 : decode cX6_lookRule 378 = .ok (.bastore, 1) := by decide +kernel
theorem dX6_lookRule_379 : decode cX6_lookRule 379 = .ok (.aload_n 0, 1) := by decide +kernel
theorem dX6_lookRule_380 : decode cX6_lookRule 380 = .ok (.getfield 29, 3) := by decide +kernel
theorem dX6_lookRule_383 : decode cX6_lookRule 383 = .ok (.iload 4, 2) := by decide +kernel
theorem dX6_lookRule_385 : decode cX6_lookRule 385 = .ok (.iload 6, 2) := by decide +kernel
theorem dX6_lookRule_387 : decode cX6_lookRule 387 = .ok (.iastore, 1) := by decide +kernel
theorem dX6_lookRule_388 : decode cX6_lookRule 388 = .ok (.aload_n 0, 1) := by decide +kernel
theorem dX6_lookRule_389 : decode cX6_lookRule 389 = .ok (.getfield 32, 3) := by decide +kernel
theorem dX6_lookRule_392 : decode cX6_lookRule 392 = .ok (.iload 4, 2) := by decide +kernel
theorem dX6_lookRule_394 : decode cX6_lookRule 394 = .ok (.aload_n 0, 1) := by decide +kernel
theorem dX6_lookRule_395 : decode cX6_lookRule 395 = .ok (.getfield 53, 3) := by decide +kernel
theorem dX6_lookRule_398 : decode cX6_lookRule 398 = .ok (.iload 5, 2) := by decide +kernel
theorem dX6_lookRule_400 : decode cX6_lookRule 400 = .ok (.iaload, 1) := by decide +kernel
theorem dX6_lookRule_401 : decode cX6_lookRule 401 = .ok (.iastore, 1) := by decide +kernel
theorem dX6_lookRule_402 : decode cX6_lookRule 402 = .ok (.aload_n 0, 1) := by decide +kernel
theorem dX6_lookRule_403 : decode cX6_lookRule 403 = .ok (.getfield 35, 3) := by decide +kernel
theorem dX6_lookRule_406 : decode cX6_lookRule 406 = .ok (.iload 4, 2) := by decide +kernel
theorem dX6_lookRule_408 : decode cX6_lookRule 408 = .ok (.aload_n 0, 1) := by decide +kernel
theorem dX6_lookRule_409 : decode cX6_lookRule 409 = .ok (.getfield 56, 3) := by decide +kernel
theorem dX6_lookRule_412 : decode cX6_lookRule 412 = .ok (.iload 5, 2) := by decide +kernel
theorem dX6_lookRule_414 : decode cX6_lookRule 414 = .ok (.iaload, 1) := by decide +kernel
theorem dX6_lookRule_415 : decode cX6_lookRule 415 = .ok (.iastore, 1) := by decide +kernel
theorem dX6_lookRule_416 : decode cX6_lookRule 416 = .ok (.iload 6, 2) := by decide +kernel
theorem dX6_lookRule_418 : decode cX6_lookRule 418 = .ok (.ireturn, 1) := by decide +kernel
theorem dX6_ask_0 : decode cX6_ask 0 = .ok (.aload_n 0, 1) := by decide +kernel
theorem dX6_ask_1 : decode cX6_ask 1 = .ok (.getfield 47, 3) := by decide +kernel
theorem dX6_ask_4 : decode cX6_ask 4 = .ok (.iload_n 1, 1) := by decide +kernel
theorem dX6_ask_5 : decode cX6_ask 5 = .ok (.iconst 1, 1) := by decide +kernel
theorem dX6_ask_6 : decode cX6_ask 6 = .ok (.bastore, 1) := by decide +kernel
theorem dX6_ask_7 : decode cX6_ask 7 = .ok (.iload_n 1, 1) := by decide +kernel
theorem dX6_ask_8 : decode cX6_ask 8 = .ok (.iconst 1, 1) := by decide +kernel
theorem dX6_ask_9 : decode cX6_ask 9 = .ok (.iadd, 1) := by decide +kernel
theorem dX6_ask_10 : decode cX6_ask 10 = .ok (.istore_n 2, 1) := by decide +kernel
theorem dX6_ask_11 : decode cX6_ask 11 = .ok (.iload_n 2, 1) := by decide +kernel
theorem dX6_ask_12 : decode cX6_ask 12 = .ok (.aload_n 0, 1) := by decide +kernel
theorem dX6_ask_13 : decode cX6_ask 13 = .ok (.getfield 150, 3) := by decide +kernel
theorem dX6_ask_16 : decode cX6_ask 16 = .ok (.if_icmp .ge 16, 3) := by decide +kernel
theorem dX6_ask_19 : decode cX6_ask 19 = .ok (.aload_n 0, 1) := by decide +kernel
theorem dX6_ask_20 : decode cX6_ask 20 = .ok (.getfield 50, 3) := by decide +kernel
theorem dX6_ask_23 : decode cX6_ask 23 = .ok (.iload_n 2, 1) := by decide +kernel
theorem dX6_ask_24 : decode cX6_ask 24 = .ok (.iconst 1, 1) := by decide +kernel
theorem dX6_ask_25 : decode cX6_ask 25 = .ok (.bastore, 1) := by decide +kernel
theorem dX6_ask_26 : decode cX6_ask 26 = .ok (.iinc 2 1, 3) := by decide +kernel
theorem dX6_ask_29 : decode cX6_ask 29 = .ok (.goto (-18), 3) := by decide +kernel
theorem dX6_ask_32 : decode cX6_ask 32 = .ok (.aload_n 0, 1) := by decide +kernel
theorem dX6_ask_33 : decode cX6_ask 33 = .ok (.getfield 44, 3) := by decide +kernel
theorem dX6_ask_36 : decode cX6_ask 36 = .ok (.iload_n 1, 1) := by decide +kernel
theorem dX6_ask_37 : decode cX6_ask 37 = .ok (.iaload, 1) := by decide +kernel
theorem dX6_ask_38 : decode cX6_ask 38 = .ok (.ireturn, 1) := by decide +kernel
theorem dX6_isPlace_0 : decode cX6_isPlace 0 = .ok (.iload_n 1, 1) := by decide +kernel
theorem dX6_isPlace_1 : decode cX6_isPlace 1 = .ok (.ifCond .lt 15, 3) := by decide +kernel
theorem dX6_isPlace_4 : decode cX6_isPlace 4 = .ok (.iload_n 1, 1) := by decide +kernel
theorem dX6_isPlace_5 : decode cX6_isPlace 5 = .ok (.aload_n 0, 1) := by decide +kernel
theorem dX6_isPlace_6 : decode cX6_isPlace 6 = .ok (.getfield 111, 3) := by decide +kernel
theorem dX6_isPlace_9 : decode cX6_isPlace 9 = .ok (.if_icmp .gt 7, 3) := by decide +kernel
theorem dX6_isPlace_12 : decode cX6_isPlace 12 = .ok (.iconst 1, 1) := by decide +kernel
theorem dX6_isPlace_13 : decode cX6_isPlace 13 = .ok (.goto 4, 3) := by decide +kernel
theorem dX6_isPlace_16 : decode cX6_isPlace 16 = .ok (.iconst 0, 1) := by decide +kernel
theorem dX6_isPlace_17 : decode cX6_isPlace 17 = .ok (.ireturn, 1) := by decide +kernel
set_option maxRecDepth 20000 in
theorem ggX6_parse_X6_isRule : GoodIn wsX6_parse wsX6_isRule := goodIn_r _ [11] (by decide +kernel) (by decide +kernel)
set_option maxRecDepth 20000 in
theorem gX6_parse_X6_isRule : GoodIn wsX6_parse (va_wsS RX6 90 yX6_isRule wsX6_isRule) := goodIn_app (goodIn_of _ (by decide +kernel)) ggX6_parse_X6_isRule
set_option maxRecDepth 20000 in
theorem ggX6_parse_X6_isPlace : GoodIn wsX6_parse wsX6_isPlace := goodIn_r _ [15, 16, 90, 91, 92, 93, 94, 95, 96, 97, 98, 99, 100, 101, 102, 103, 104, 105, 106, 107, 108, 109, 110, 111, 112, 113, 114, 115, 116, 117, 118] (by decide +kernel) (by decide +kernel)
set_option maxRecDepth 20000 in
theorem gX6_parse_X6_isPlace : GoodIn wsX6_parse (wsV RX6 179 RX6 yX6_isPlace wsX6_isPlace) := goodIn_app (goodIn_of _ (by decide +kernel)) ggX6_parse_X6_isPlace
set_option maxRecDepth 20000 in
theorem ggX6_parse_X6_fail : GoodIn wsX6_parse wsX6_fail := goodIn_r _ [20, 1, 90, 91, 92, 93, 94, 95, 96, 97, 98, 99, 100, 101, 102, 103, 104, 105, 106, 107, 108, 109, 110, 111, 112, 113, 114, 115, 116, 117, 118] (by decide +kernel) (by decide +kernel)
set_option maxRecDepth 20000 in
theorem gX6_parse_X6_fail : GoodIn wsX6_parse (wsV RX6 78 RX6 yX6_fail wsX6_fail) := goodIn_app (goodIn_of _ (by decide +kernel)) ggX6_parse_X6_fail
set_option maxRecDepth 20000 in
theorem ggX6_parse_X6_lookRule : GoodIn wsX6_parse wsX6_lookRule := goodIn_r _ [24, 25, 26, 3, 27, 7, 28, 29, 30, 31, 32, 33, 34, 35, 36, 37, 38, 39, 40, 6, 4, 41, 42, 43, 10, 44, 45, 46, 47, 48, 49, 50, 51, 52, 53, 54, 55, 56, 57, 58, 59, 60, 2, 61, 62, 63, 64, 65, 66, 67, 68, 69, 70, 71, 72, 73, 74, 75, 76, 16, 77, 5, 21, 22, 23, 78, 79, 80, 81, 90, 91, 92, 93, 94, 95, 96, 97, 98, 99, 100, 101, 102, 103, 104, 105, 106, 107, 108, 109, 110, 111, 112, 113, 114, 115, 116, 117, 118] (by decide +kernel) (by decide +kernel)
set_option maxRecDepth 20000 in
theorem gX6_parse_X6_lookRule : GoodIn wsX6_parse (wsV RX6 141 RX6 yX6_lookRule wsX6_lookRule) := goodIn_app (goodIn_of _ (by decide +kernel)) ggX6_parse_X6_lookRule
set_option maxRecDepth 20000 in
theorem ggX6_parse_X6_forgetAll : GoodIn wsX6_parse wsX6_forgetAll := goodIn_r _ [85, 26, 86, 87, 88, 10, 89, 90, 91, 92, 93, 94, 95, 96, 97, 98, 99, 100, 101, 102, 103, 104, 105, 106, 107, 108, 109, 110, 111, 112, 113, 114, 115, 116, 117, 118] (by decide +kernel) (by decide +kernel)
set_option maxRecDepth 20000 in
theorem gX6_parse_X6_forgetAll : GoodIn wsX6_parse (wsV RX6 96 RX6 yX6_forgetAll wsX6_forgetAll) := goodIn_app (goodIn_of _ (by decide +kernel)) ggX6_parse_X6_forgetAll
theorem dX6_parse_0 : decode cX6_parse 0 = .ok (.aload_n 0, 1) := by decide +kernel
theorem dX6_parse_1 : decode cX6_parse 1 = .ok (.iconst 0, 1) := by decide +kernel
theorem dX6_parse_2 : decode cX6_parse 2 = .ok (.putfield 72, 3) := by decide +kernel
theorem dX6_parse_5 : decode cX6_parse 5 = .ok (.iload_n 1, 1) := by decide +kernel
theorem dX6_parse_6 : decode cX6_parse 6 = .ok (.invokestatic 90, 3) := by decide +kernel
theorem dX6_parse_9 : decode cX6_parse 9 = .ok (.ifCond .eq 11, 3) := by decide +kernel
theorem dX6_parse_12 : decode cX6_parse 12 = .ok (.aload_n 0, 1) := by decide +kernel
theorem dX6_parse_13 : decode cX6_parse 13 = .ok (.iload_n 2, 1) := by decide +kernel
theorem dX6_parse_14 : decode cX6_parse 14 = .ok (.invokevirtual 179, 3) := by decide +kernel
theorem dX6_parse_17 : decode cX6_parse 17 = .ok (.ifCond .ne 9, 3) := by decide +kernel
theorem dX6_parse_20 : decode cX6_parse 20 = .ok (.aload_n 0, 1) := by decide +kernel
theorem dX6_parse_21 : decode cX6_parse 21 = .ok (.iconst 1, 1) := by decide +kernel
theorem dX6_parse_22 : decode cX6_parse 22 = .ok (.invokevirtual 78, 3) := by decide +kernel
theorem dX6_parse_25 : decode cX6_parse 25 = .ok (.ireturn, 1) := by decide +kernel
theorem dX6_parse_26 : decode cX6_parse 26 = .ok (.aload_n 0, 1) := by decide +kernel
theorem dX6_parse_27 : decode cX6_parse 27 = .ok (.iconst 0, 1) := by decide +kernel
theorem dX6_parse_28 : decode cX6_parse 28 = .ok (.putfield 128, 3) := by decide +kernel
theorem dX6_parse_31 : decode cX6_parse 31 = .ok (.aload_n 0, 1) := by decide +kernel
theorem dX6_parse_32 : decode cX6_parse 32 = .ok (.iconst 0, 1) := by decide +kernel
theorem dX6_parse_33 : decode cX6_parse 33 = .ok (.putfield 166, 3) := by decide +kernel
theorem dX6_parse_36 : decode cX6_parse 36 = .ok (.aload_n 0, 1) := by decide +kernel
theorem dX6_parse_37 : decode cX6_parse 37 = .ok (.iconst 0, 1) := by decide +kernel
theorem dX6_parse_38 : decode cX6_parse 38 = .ok (.putfield 176, 3) := by decide +kernel
theorem dX6_parse_41 : decode cX6_parse 41 = .ok (.aload_n 0, 1) := by decide +kernel
theorem dX6_parse_42 : decode cX6_parse 42 = .ok (.iconst (-1), 1) := by decide +kernel
theorem dX6_parse_43 : decode cX6_parse 43 = .ok (.putfield 59, 3) := by decide +kernel
theorem dX6_parse_46 : decode cX6_parse 46 = .ok (.aload_n 0, 1) := by decide +kernel
theorem dX6_parse_47 : decode cX6_parse 47 = .ok (.iconst 0, 1) := by decide +kernel
theorem dX6_parse_48 : decode cX6_parse 48 = .ok (.putfield 125, 3) := by decide +kernel
theorem dX6_parse_51 : decode cX6_parse 51 = .ok (.aload_n 0, 1) := by decide +kernel
theorem dX6_parse_52 : decode cX6_parse 52 = .ok (.iconst 0, 1) := by decide +kernel
theorem dX6_parse_53 : decode cX6_parse 53 = .ok (.putfield 150, 3) := by decide +kernel
theorem dX6_parse_56 : decode cX6_parse 56 = .ok (.aload_n 0, 1) := by decide +kernel
theorem dX6_parse_57 : decode cX6_parse 57 = .ok (.iload_n 1, 1) := by decide +kernel
theorem dX6_parse_58 : decode cX6_parse 58 = .ok (.iload_n 2, 1) := by decide +kernel
theorem dX6_parse_59 : decode cX6_parse 59 = .ok (.iconst 0, 1) := by decide +kernel
theorem dX6_parse_60 : decode cX6_parse 60 = .ok (.invokevirtual 141, 3) := by decide +kernel
theorem dX6_parse_63 : decode cX6_parse 63 = .ok (.istore_n 3, 1) := by decide +kernel
theorem dX6_parse_64 : decode cX6_parse 64 = .ok (.aload_n 0, 1) := by decide +kernel
theorem dX6_parse_65 : decode cX6_parse 65 = .ok (.getfield 125, 3) := by decide +kernel
theorem dX6_parse_68 : decode cX6_parse 68 = .ok (.ifCond .ne 5, 3) := by decide +kernel
theorem dX6_parse_71 : decode cX6_parse 71 = .ok (.iload_n 3, 1) := by decide +kernel
theorem dX6_parse_72 : decode cX6_parse 72 = .ok (.ireturn, 1) := by decide +kernel
theorem dX6_parse_73 : decode cX6_parse 73 = .ok (.aload_n 0, 1) := by decide +kernel
theorem dX6_parse_74 : decode cX6_parse 74 = .ok (.invokevirtual 96, 3) := by decide +kernel
theorem dX6_parse_77 : decode cX6_parse 77 = .ok (.pop, 1) := by decide +kernel
theorem dX6_parse_78 : decode cX6_parse 78 = .ok (.bipush (-2), 2) := by decide +kernel
theorem dX6_parse_80 : decode cX6_parse 80 = .ok (.ireturn, 1) := by decide +kernel
theorem dX6_work_0 : decode cX6_work 0 = .ok (.aload_n 0, 1) := by decide +kernel
theorem dX6_work_1 : decode cX6_work 1 = .ok (.iconst 0, 1) := by decide +kernel
theorem dX6_work_2 : decode cX6_work 2 = .ok (.putfield 72, 3) := by decide +kernel
theorem dX6_work_5 : decode cX6_work 5 = .ok (.aload_n 0, 1) := by decide +kernel
theorem dX6_work_6 : decode cX6_work 6 = .ok (.getfield 128, 3) := by decide +kernel
theorem dX6_work_9 : decode cX6_work 9 = .ok (.ireturn, 1) := by decide +kernel
theorem dX6_hits_0 : decode cX6_hits 0 = .ok (.aload_n 0, 1) := by decide +kernel
theorem dX6_hits_1 : decode cX6_hits 1 = .ok (.iconst 0, 1) := by decide +kernel
theorem dX6_hits_2 : decode cX6_hits 2 = .ok (.putfield 72, 3) := by decide +kernel
theorem dX6_hits_5 : decode cX6_hits 5 = .ok (.aload_n 0, 1) := by decide +kernel
theorem dX6_hits_6 : decode cX6_hits 6 = .ok (.getfield 166, 3) := by decide +kernel
theorem dX6_hits_9 : decode cX6_hits 9 = .ok (.ireturn, 1) := by decide +kernel
theorem dX6_growths_0 : decode cX6_growths 0 = .ok (.aload_n 0, 1) := by decide +kernel
theorem dX6_growths_1 : decode cX6_growths 1 = .ok (.iconst 0, 1) := by decide +kernel
theorem dX6_growths_2 : decode cX6_growths 2 = .ok (.putfield 72, 3) := by decide +kernel
theorem dX6_growths_5 : decode cX6_growths 5 = .ok (.aload_n 0, 1) := by decide +kernel
theorem dX6_growths_6 : decode cX6_growths 6 = .ok (.getfield 176, 3) := by decide +kernel
theorem dX6_growths_9 : decode cX6_growths 9 = .ok (.ireturn, 1) := by decide +kernel
theorem dX6_farthest_0 : decode cX6_farthest 0 = .ok (.aload_n 0, 1) := by decide +kernel
theorem dX6_farthest_1 : decode cX6_farthest 1 = .ok (.iconst 0, 1) := by decide +kernel
theorem dX6_farthest_2 : decode cX6_farthest 2 = .ok (.putfield 72, 3) := by decide +kernel
theorem dX6_farthest_5 : decode cX6_farthest 5 = .ok (.aload_n 0, 1) := by decide +kernel
theorem dX6_farthest_6 : decode cX6_farthest 6 = .ok (.getfield 59, 3) := by decide +kernel
theorem dX6_farthest_9 : decode cX6_farthest 9 = .ok (.ireturn, 1) := by decide +kernel
theorem dX6_countAll_0 : decode cX6_countAll 0 = .ok (.iconst 0, 1) := by decide +kernel
theorem dX6_countAll_1 : decode cX6_countAll 1 = .ok (.istore_n 1, 1) := by decide +kernel
theorem dX6_countAll_2 : decode cX6_countAll 2 = .ok (.iconst 0, 1) := by decide +kernel
theorem dX6_countAll_3 : decode cX6_countAll 3 = .ok (.istore_n 2, 1) := by decide +kernel
theorem dX6_countAll_4 : decode cX6_countAll 4 = .ok (.iload_n 2, 1) := by decide +kernel
theorem dX6_countAll_5 : decode cX6_countAll 5 = .ok (.sipush 410, 3) := by decide +kernel
theorem dX6_countAll_8 : decode cX6_countAll 8 = .ok (.if_icmp .ge 26, 3) := by decide +kernel
theorem dX6_countAll_11 : decode cX6_countAll 11 = .ok (.iload_n 1, 1) := by decide +kernel
theorem dX6_countAll_12 : decode cX6_countAll 12 = .ok (.aload_n 0, 1) := by decide +kernel
theorem dX6_countAll_13 : decode cX6_countAll 13 = .ok (.getfield 25, 3) := by decide +kernel
theorem dX6_countAll_16 : decode cX6_countAll 16 = .ok (.iload_n 2, 1) := by decide +kernel
theorem dX6_countAll_17 : decode cX6_countAll 17 = .ok (.baload, 1) := by decide +kernel
theorem dX6_countAll_18 : decode cX6_countAll 18 = .ok (.ifCond .eq 7, 3) := by decide +kernel
theorem dX6_countAll_21 : decode cX6_countAll 21 = .ok (.iconst 1, 1) := by decide +kernel
theorem dX6_countAll_22 : decode cX6_countAll 22 = .ok (.goto 4, 3) := by decide +kernel
theorem dX6_countAll_25 : decode cX6_countAll 25 = .ok (.iconst 0, 1) := by decide +kernel
theorem dX6_countAll_26 : decode cX6_countAll 26 = .ok (.iadd, 1) := by decide +kernel
theorem dX6_countAll_27 : decode cX6_countAll 27 = .ok (.istore_n 1, 1) := by decide +kernel
theorem dX6_countAll_28 : decode cX6_countAll 28 = .ok (.iinc 2 1, 3) := by decide +kernel
theorem dX6_countAll_31 : decode cX6_countAll 31 = .ok (.goto (-27), 3) := by decide +kernel
theorem dX6_countAll_34 : decode cX6_countAll 34 = .ok (.iload_n 1, 1) := by decide +kernel
theorem dX6_countAll_35 : decode cX6_countAll 35 = .ok (.ireturn, 1) := by decide +kernel
set_option maxRecDepth 20000 in
theorem ggX6_forgetAll_X6_countAll : GoodIn wsX6_forgetAll wsX6_countAll := goodIn_r _ [6, 1, 7, 8, 9, 10, 11, 12, 13, 14, 15, 16, 17, 18, 19, 20, 21, 22, 23, 24, 25, 26, 27, 28, 29, 30, 31, 32, 33, 34, 35] (by decide +kernel) (by decide +kernel)
set_option maxRecDepth 20000 in
theorem gX6_forgetAll_X6_countAll : GoodIn wsX6_forgetAll (wsV RX6 182 RX6 yX6_countAll wsX6_countAll) := goodIn_app (goodIn_of _ (by decide +kernel)) ggX6_forgetAll_X6_countAll
theorem dX6_forgetAll_0 : decode cX6_forgetAll 0 = .ok (.aload_n 0, 1) := by decide +kernel
theorem dX6_forgetAll_1 : decode cX6_forgetAll 1 = .ok (.invokevirtual 182, 3) := by decide +kernel
theorem dX6_forgetAll_4 : decode cX6_forgetAll 4 = .ok (.istore_n 1, 1) := by decide +kernel
theorem dX6_forgetAll_5 : decode cX6_forgetAll 5 = .ok (.iconst 0, 1) := by decide +kernel
theorem dX6_forgetAll_6 : decode cX6_forgetAll 6 = .ok (.istore_n 2, 1) := by decide +kernel
theorem dX6_forgetAll_7 : decode cX6_forgetAll 7 = .ok (.iload_n 2, 1) := by decide +kernel
theorem dX6_forgetAll_8 : decode cX6_forgetAll 8 = .ok (.sipush 410, 3) := by decide +kernel
theorem dX6_forgetAll_11 : decode cX6_forgetAll 11 = .ok (.if_icmp .ge 16, 3) := by decide +kernel
theorem dX6_forgetAll_14 : decode cX6_forgetAll 14 = .ok (.aload_n 0, 1) := by decide +kernel
theorem dX6_forgetAll_15 : decode cX6_forgetAll 15 = .ok (.getfield 25, 3) := by decide +kernel
theorem dX6_forgetAll_18 : decode cX6_forgetAll 18 = .ok (.iload_n 2, 1) := by decide +kernel
theorem dX6_forgetAll_19 : decode cX6_forgetAll 19 = .ok (.iconst 0, 1) := by decide +kernel
theorem dX6_forgetAll_20 : decode cX6_forgetAll 20 = .ok (.bastore, 1) := by decide +kernel
theorem dX6_forgetAll_21 : decode cX6_forgetAll 21 = .ok (.iinc 2 1, 3) := by decide +kernel
theorem dX6_forgetAll_24 : decode cX6_forgetAll 24 = .ok (.goto (-17), 3) := by decide +kernel
theorem dX6_forgetAll_27 : decode cX6_forgetAll 27 = .ok (.iload_n 1, 1) := by decide +kernel
theorem dX6_forgetAll_28 : decode cX6_forgetAll 28 = .ok (.ireturn, 1) := by decide +kernel
set_option maxRecDepth 20000 in
theorem ggX6_remembered_X6_countAll : GoodIn wsX6_remembered wsX6_countAll := goodIn_r _ [6, 7, 8, 9, 10, 11, 12, 13, 14, 15, 16, 17, 18, 19, 20, 21, 22, 23, 24, 25, 26, 27, 28, 29, 30, 31, 32, 33, 34, 35, 36] (by decide +kernel) (by decide +kernel)
set_option maxRecDepth 20000 in
theorem gX6_remembered_X6_countAll : GoodIn wsX6_remembered (wsV RX6 182 RX6 yX6_countAll wsX6_countAll) := goodIn_app (goodIn_of _ (by decide +kernel)) ggX6_remembered_X6_countAll
theorem dX6_remembered_0 : decode cX6_remembered 0 = .ok (.aload_n 0, 1) := by decide +kernel
theorem dX6_remembered_1 : decode cX6_remembered 1 = .ok (.iconst 0, 1) := by decide +kernel
theorem dX6_remembered_2 : decode cX6_remembered 2 = .ok (.putfield 72, 3) := by decide +kernel
theorem dX6_remembered_5 : decode cX6_remembered 5 = .ok (.aload_n 0, 1) := by decide +kernel
theorem dX6_remembered_6 : decode cX6_remembered 6 = .ok (.invokevirtual 182, 3) := by decide +kernel
theorem dX6_remembered_9 : decode cX6_remembered 9 = .ok (.ireturn, 1) := by decide +kernel
set_option maxRecDepth 20000 in
theorem ggX6_result_X6_isRule : GoodIn wsX6_result wsX6_isRule := goodIn_r _ [7] (by decide +kernel) (by decide +kernel)
set_option maxRecDepth 20000 in
theorem gX6_result_X6_isRule : GoodIn wsX6_result (va_wsS RX6 90 yX6_isRule wsX6_isRule) := goodIn_app (goodIn_of _ (by decide +kernel)) ggX6_result_X6_isRule
set_option maxRecDepth 20000 in
theorem ggX6_result_X6_isPlace : GoodIn wsX6_result wsX6_isPlace := goodIn_r _ [11, 12, 17, 18, 19, 20, 21, 22, 23, 24, 25, 26, 27, 28, 29, 30, 31, 32, 33, 34, 35, 36, 37, 38, 39, 40, 41, 42, 43, 44, 45] (by decide +kernel) (by decide +kernel)
set_option maxRecDepth 20000 in
theorem gX6_result_X6_isPlace : GoodIn wsX6_result (wsV RX6 179 RX6 yX6_isPlace wsX6_isPlace) := goodIn_app (goodIn_of _ (by decide +kernel)) ggX6_result_X6_isPlace
set_option maxRecDepth 20000 in
theorem ggX6_result_X6_fail : GoodIn wsX6_result wsX6_fail := goodIn_r _ [16, 1, 17, 18, 19, 20, 21, 22, 23, 24, 25, 26, 27, 28, 29, 30, 31, 32, 33, 34, 35, 36, 37, 38, 39, 40, 41, 42, 43, 44, 45] (by decide +kernel) (by decide +kernel)
set_option maxRecDepth 20000 in
theorem gX6_result_X6_fail : GoodIn wsX6_result (wsV RX6 78 RX6 yX6_fail wsX6_fail) := goodIn_app (goodIn_of _ (by decide +kernel)) ggX6_result_X6_fail
theorem dX6_result_0 : decode cX6_result 0 = .ok (.aload_n 0, 1) := by decide +kernel
theorem dX6_result_1 : decode cX6_result 1 = .ok (.iconst 0, 1) := by decide +kernel
theorem dX6_result_2 : decode cX6_result 2 = .ok (.putfield 72, 3) := by decide +kernel
theorem dX6_result_5 : decode cX6_result 5 = .ok (.iload_n 1, 1) := by decide +kernel
theorem dX6_result_6 : decode cX6_result 6 = .ok (.invokestatic 90, 3) := by decide +kernel
theorem dX6_result_9 : decode cX6_result 9 = .ok (.ifCond .eq 11, 3) := by decide +kernel
theorem dX6_result_12 : decode cX6_result 12 = .ok (.aload_n 0, 1) := by decide +kernel
theorem dX6_result_13 : decode cX6_result 13 = .ok (.iload_n 2, 1) := by decide +kernel
theorem dX6_result_14 : decode cX6_result 14 = .ok (.invokevirtual 179, 3) := by decide +kernel
theorem dX6_result_17 : decode cX6_result 17 = .ok (.ifCond .ne 9, 3) := by decide +kernel
theorem dX6_result_20 : decode cX6_result 20 = .ok (.aload_n 0, 1) := by decide +kernel
theorem dX6_result_21 : decode cX6_result 21 = .ok (.iconst 1, 1) := by decide +kernel
theorem dX6_result_22 : decode cX6_result 22 = .ok (.invokevirtual 78, 3) := by decide +kernel
theorem dX6_result_25 : decode cX6_result 25 = .ok (.ireturn, 1) := by decide +kernel
theorem dX6_result_26 : decode cX6_result 26 = .ok (.aload_n 0, 1) := by decide +kernel
theorem dX6_result_27 : decode cX6_result 27 = .ok (.getfield 25, 3) := by decide +kernel
theorem dX6_result_30 : decode cX6_result 30 = .ok (.bipush 41, 2) := by decide +kernel
theorem dX6_result_32 : decode cX6_result 32 = .ok (.iload_n 1, 1) := by decide +kernel
theorem dX6_result_33 : decode cX6_result 33 = .ok (.imul, 1) := by decide +kernel
theorem dX6_result_34 : decode cX6_result 34 = .ok (.iload_n 2, 1) := by decide +kernel
theorem dX6_result_35 : decode cX6_result 35 = .ok (.iadd, 1) := by decide +kernel
theorem dX6_result_36 : decode cX6_result 36 = .ok (.baload, 1) := by decide +kernel
theorem dX6_result_37 : decode cX6_result 37 = .ok (.ifCond .eq 17, 3) := by decide +kernel
theorem dX6_result_40 : decode cX6_result 40 = .ok (.aload_n 0, 1) := by decide +kernel
theorem dX6_result_41 : decode cX6_result 41 = .ok (.getfield 29, 3) := by decide +kernel
theorem dX6_result_44 : decode cX6_result 44 = .ok (.bipush 41, 2) := by decide +kernel
theorem dX6_result_46 : decode cX6_result 46 = .ok (.iload_n 1, 1) := by decide +kernel
theorem dX6_result_47 : decode cX6_result 47 = .ok (.imul, 1) := by decide +kernel
theorem dX6_result_48 : decode cX6_result 48 = .ok (.iload_n 2, 1) := by decide +kernel
theorem dX6_result_49 : decode cX6_result 49 = .ok (.iadd, 1) := by decide +kernel
theorem dX6_result_50 : decode cX6_result 50 = .ok (.iaload, 1) := by decide +kernel
theorem dX6_result_51 : decode cX6_result 51 = .ok (.goto 5, 3) := by decide +kernel
theorem dX6_result_54 : decode cX6_result 54 = .ok (.bipush (-3), 2) := by decide +kernel
theorem dX6_result_56 : decode cX6_result 56 = .ok (.ireturn, 1) := by decide +kernel
set_option maxRecDepth 20000 in
theorem ggX6_reach_X6_isRule : GoodIn wsX6_reach wsX6_isRule := goodIn_r _ [7] (by decide +kernel) (by decide +kernel)
set_option maxRecDepth 20000 in
theorem gX6_reach_X6_isRule : GoodIn wsX6_reach (va_wsS RX6 90 yX6_isRule wsX6_isRule) := goodIn_app (goodIn_of _ (by decide +kernel)) ggX6_reach_X6_isRule
set_option maxRecDepth 20000 in
theorem ggX6_reach_X6_isPlace : GoodIn wsX6_reach wsX6_isPlace := goodIn_r _ [11, 12, 17, 18, 19, 20, 21, 22, 23, 24, 25, 26, 27, 28, 29, 30, 31, 32, 33, 34, 35, 36, 37, 38, 39, 40, 41, 42, 43, 44, 45] (by decide +kernel) (by decide +kernel)
set_option maxRecDepth 20000 in
theorem gX6_reach_X6_isPlace : GoodIn wsX6_reach (wsV RX6 179 RX6 yX6_isPlace wsX6_isPlace) := goodIn_app (goodIn_of _ (by decide +kernel)) ggX6_reach_X6_isPlace
set_option maxRecDepth 20000 in
theorem ggX6_reach_X6_fail : GoodIn wsX6_reach wsX6_fail := goodIn_r _ [16, 1, 17, 18, 19, 20, 21, 22, 23, 24, 25, 26, 27, 28, 29, 30, 31, 32, 33, 34, 35, 36, 37, 38, 39, 40, 41, 42, 43, 44, 45] (by decide +kernel) (by decide +kernel)
set_option maxRecDepth 20000 in
theorem gX6_reach_X6_fail : GoodIn wsX6_reach (wsV RX6 78 RX6 yX6_fail wsX6_fail) := goodIn_app (goodIn_of _ (by decide +kernel)) ggX6_reach_X6_fail
theorem dX6_reach_0 : decode cX6_reach 0 = .ok (.aload_n 0, 1) := by decide +kernel
theorem dX6_reach_1 : decode cX6_reach 1 = .ok (.iconst 0, 1) := by decide +kernel
theorem dX6_reach_2 : decode cX6_reach 2 = .ok (.putfield 72, 3) := by decide +kernel
theorem dX6_reach_5 : decode cX6_reach 5 = .ok (.iload_n 1, 1) := by decide +kernel
theorem dX6_reach_6 : decode cX6_reach 6 = .ok (.invokestatic 90, 3) := by decide +kernel
theorem dX6_reach_9 : decode cX6_reach 9 = .ok (.ifCond .eq 11, 3) := by decide +kernel
theorem dX6_reach_12 : decode cX6_reach 12 = .ok (.aload_n 0, 1) := by decide +kernel
theorem dX6_reach_13 : decode cX6_reach 13 = .ok (.iload_n 2, 1) := by decide +kernel
theorem dX6_reach_14 : decode cX6_reach 14 = .ok (.invokevirtual 179, 3) := by decide +kernel
theorem dX6_reach_17 : decode cX6_reach 17 = .ok (.ifCond .ne 9, 3) := by decide +kernel
theorem dX6_reach_20 : decode cX6_reach 20 = .ok (.aload_n 0, 1) := by decide +kernel
theorem dX6_reach_21 : decode cX6_reach 21 = .ok (.iconst 1, 1) := by decide +kernel
theorem dX6_reach_22 : decode cX6_reach 22 = .ok (.invokevirtual 78, 3) := by decide +kernel
theorem dX6_reach_25 : decode cX6_reach 25 = .ok (.ireturn, 1) := by decide +kernel
theorem dX6_reach_26 : decode cX6_reach 26 = .ok (.aload_n 0, 1) := by decide +kernel
theorem dX6_reach_27 : decode cX6_reach 27 = .ok (.getfield 25, 3) := by decide +kernel
theorem dX6_reach_30 : decode cX6_reach 30 = .ok (.bipush 41, 2) := by decide +kernel
theorem dX6_reach_32 : decode cX6_reach 32 = .ok (.iload_n 1, 1) := by decide +kernel
theorem dX6_reach_33 : decode cX6_reach 33 = .ok (.imul, 1) := by decide +kernel
theorem dX6_reach_34 : decode cX6_reach 34 = .ok (.iload_n 2, 1) := by decide +kernel
theorem dX6_reach_35 : decode cX6_reach 35 = .ok (.iadd, 1) := by decide +kernel
theorem dX6_reach_36 : decode cX6_reach 36 = .ok (.baload, 1) := by decide +kernel
theorem dX6_reach_37 : decode cX6_reach 37 = .ok (.ifCond .eq 17, 3) := by decide +kernel
theorem dX6_reach_40 : decode cX6_reach 40 = .ok (.aload_n 0, 1) := by decide +kernel
theorem dX6_reach_41 : decode cX6_reach 41 = .ok (.getfield 32, 3) := by decide +kernel
theorem dX6_reach_44 : decode cX6_reach 44 = .ok (.bipush 41, 2) := by decide +kernel
theorem dX6_reach_46 : decode cX6_reach 46 = .ok (.iload_n 1, 1) := by decide +kernel
theorem dX6_reach_47 : decode cX6_reach 47 = .ok (.imul, 1) := by decide +kernel
theorem dX6_reach_48 : decode cX6_reach 48 = .ok (.iload_n 2, 1) := by decide +kernel
theorem dX6_reach_49 : decode cX6_reach 49 = .ok (.iadd, 1) := by decide +kernel
theorem dX6_reach_50 : decode cX6_reach 50 = .ok (.iaload, 1) := by decide +kernel
theorem dX6_reach_51 : decode cX6_reach 51 = .ok (.goto 4, 3) := by decide +kernel
theorem dX6_reach_54 : decode cX6_reach 54 = .ok (.iconst (-1), 1) := by decide +kernel
theorem dX6_reach_55 : decode cX6_reach 55 = .ok (.ireturn, 1) := by decide +kernel
set_option maxRecDepth 20000 in
theorem ggX6_forget_X6_forgetAll : GoodIn wsX6_forget wsX6_forgetAll := goodIn_r _ [6, 7, 8, 9, 10, 5, 11, 12, 13, 14, 15, 16, 17, 18, 19, 20, 21, 22, 23, 24, 25, 26, 27, 28, 29, 30, 31, 32, 33, 34, 35, 36, 37, 38, 39, 40] (by decide +kernel) (by decide +kernel)
set_option maxRecDepth 20000 in
theorem gX6_forget_X6_forgetAll : GoodIn wsX6_forget (wsV RX6 96 RX6 yX6_forgetAll wsX6_forgetAll) := goodIn_app (goodIn_of _ (by decide +kernel)) ggX6_forget_X6_forgetAll
theorem dX6_forget_0 : decode cX6_forget 0 = .ok (.aload_n 0, 1) := by decide +kernel
theorem dX6_forget_1 : decode cX6_forget 1 = .ok (.iconst 0, 1) := by decide +kernel
theorem dX6_forget_2 : decode cX6_forget 2 = .ok (.putfield 72, 3) := by decide +kernel
theorem dX6_forget_5 : decode cX6_forget 5 = .ok (.aload_n 0, 1) := by decide +kernel
theorem dX6_forget_6 : decode cX6_forget 6 = .ok (.invokevirtual 96, 3) := by decide +kernel
theorem dX6_forget_9 : decode cX6_forget 9 = .ok (.ireturn, 1) := by decide +kernel
theorem dX6_digest_0 : decode cX6_digest 0 = .ok (.aload_n 0, 1) := by decide +kernel
theorem dX6_digest_1 : decode cX6_digest 1 = .ok (.iconst 0, 1) := by decide +kernel
theorem dX6_digest_2 : decode cX6_digest 2 = .ok (.putfield 72, 3) := by decide +kernel
theorem dX6_digest_5 : decode cX6_digest 5 = .ok (.ldc2_w 185, 3) := by decide +kernel
theorem dX6_digest_8 : decode cX6_digest 8 = .ok (.aload_n 0, 1) := by decide +kernel
theorem dX6_digest_9 : decode cX6_digest 9 = .ok (.getfield 75, 3) := by decide +kernel
theorem dX6_digest_12 : decode cX6_digest 12 = .ok (.i2l, 1) := by decide +kernel
theorem dX6_digest_13 : decode cX6_digest 13 = .ok (.ladd, 1) := by decide +kernel
theorem dX6_digest_14 : decode cX6_digest 14 = .ok (.lstore_n 1, 1) := by decide +kernel
theorem dX6_digest_15 : decode cX6_digest 15 = .ok (.iconst 0, 1) := by decide +kernel
theorem dX6_digest_16 : decode cX6_digest 16 = .ok (.istore_n 3, 1) := by decide +kernel
theorem dX6_digest_17 : decode cX6_digest 17 = .ok (.iload_n 3, 1) := by decide +kernel
theorem dX6_digest_18 : decode cX6_digest 18 = .ok (.bipush 10, 2) := by decide +kernel
theorem dX6_digest_20 : decode cX6_digest 20 = .ok (.if_icmp .ge 23, 3) := by decide +kernel
theorem dX6_digest_23 : decode cX6_digest 23 = .ok (.lload_n 1, 1) := by decide +kernel
theorem dX6_digest_24 : decode cX6_digest 24 = .ok (.ldc2_w 187, 3) := by decide +kernel
theorem dX6_digest_27 : decode cX6_digest 27 = .ok (.lmul, 1) := by decide +kernel
theorem dX6_digest_28 : decode cX6_digest 28 = .ok (.aload_n 0, 1) := by decide +kernel
theorem dX6_digest_29 : decode cX6_digest 29 = .ok (.getfield 19, 3) := by decide +kernel
theorem dX6_digest_32 : decode cX6_digest 32 = .ok (.iload_n 3, 1) := by decide +kernel
theorem dX6_digest_33 : decode cX6_digest 33 = .ok (.iaload, 1) := by decide +kernel
theorem dX6_digest_34 : decode cX6_digest 34 = .ok (.i2l, 1) := by decide +kernel
theorem dX6_digest_35 : decode cX6_digest 35 = .ok (.ladd, 1) := by decide +kernel
theorem dX6_digest_36 : decode cX6_digest 36 = .ok (.lstore_n 1, 1) := by decide +kernel
theorem dX6_digest_37 : decode cX6_digest 37 = .ok (.iinc 3 1, 3) := by decide +kernel
theorem dX6_digest_40 : decode cX6_digest 40 = .ok (.goto (-23), 3) := by decide +kernel
theorem dX6_digest_43 : decode cX6_digest 43 = .ok (.lload_n 1, 1) := by decide +kernel
theorem dX6_digest_44 : decode cX6_digest 44 = .ok (.ldc2_w 187, 3) := by decide +kernel
theorem dX6_digest_47 : decode cX6_digest 47 = .ok (.lmul, 1) := by decide +kernel
theorem dX6_digest_48 : decode cX6_digest 48 = .ok (.aload_n 0, 1) := by decide +kernel
theorem dX6_digest_49 : decode cX6_digest 49 = .ok (.getfield 111, 3) := by decide +kernel
theorem dX6_digest_52 : decode cX6_digest 52 = .ok (.i2l, 1) := by decide +kernel
theorem dX6_digest_53 : decode cX6_digest 53 = .ok (.ladd, 1) := by decide +kernel
theorem dX6_digest_54 : decode cX6_digest 54 = .ok (.lstore_n 1, 1) := by decide +kernel
theorem dX6_digest_55 : decode cX6_digest 55 = .ok (.iconst 0, 1) := by decide +kernel
theorem dX6_digest_56 : decode cX6_digest 56 = .ok (.istore_n 3, 1) := by decide +kernel
theorem dX6_digest_57 : decode cX6_digest 57 = .ok (.iload_n 3, 1) := by decide +kernel
theorem dX6_digest_58 : decode cX6_digest 58 = .ok (.aload_n 0, 1) := by decide +kernel
theorem dX6_digest_59 : decode cX6_digest 59 = .ok (.getfield 111, 3) := by decide +kernel
theorem dX6_digest_62 : decode cX6_digest 62 = .ok (.if_icmp .ge 23, 3) := by decide +kernel
theorem dX6_digest_65 : decode cX6_digest 65 = .ok (.lload_n 1, 1) := by decide +kernel
theorem dX6_digest_66 : decode cX6_digest 66 = .ok (.ldc2_w 187, 3) := by decide +kernel
theorem dX6_digest_69 : decode cX6_digest 69 = .ok (.lmul, 1) := by decide +kernel
theorem dX6_digest_70 : decode cX6_digest 70 = .ok (.aload_n 0, 1) := by decide +kernel
theorem dX6_digest_71 : decode cX6_digest 71 = .ok (.getfield 22, 3) := by decide +kernel
theorem dX6_digest_74 : decode cX6_digest 74 = .ok (.iload_n 3, 1) := by decide +kernel
theorem dX6_digest_75 : decode cX6_digest 75 = .ok (.iaload, 1) := by decide +kernel
theorem dX6_digest_76 : decode cX6_digest 76 = .ok (.i2l, 1) := by decide +kernel
theorem dX6_digest_77 : decode cX6_digest 77 = .ok (.ladd, 1) := by decide +kernel
theorem dX6_digest_78 : decode cX6_digest 78 = .ok (.lstore_n 1, 1) := by decide +kernel
theorem dX6_digest_79 : decode cX6_digest 79 = .ok (.iinc 3 1, 3) := by decide +kernel
theorem dX6_digest_82 : decode cX6_digest 82 = .ok (.goto (-25), 3) := by decide +kernel
theorem dX6_digest_85 : decode cX6_digest 85 = .ok (.iconst 0, 1) := by decide +kernel
theorem dX6_digest_86 : decode cX6_digest 86 = .ok (.istore_n 3, 1) := by decide +kernel
theorem dX6_digest_87 : decode cX6_digest 87 = .ok (.iload_n 3, 1) := by decide +kernel
theorem dX6_digest_88 : decode cX6_digest 88 = .ok (.aload_n 0, 1) := by decide +kernel
theorem dX6_digest_89 : decode cX6_digest 89 = .ok (.getfield 111, 3) := by decide +kernel
theorem dX6_digest_92 : decode cX6_digest 92 = .ok (.if_icmp .gt 87, 3) := by decide +kernel
theorem dX6_digest_95 : decode cX6_digest 95 = .ok (.iconst 0, 1) := by decide +kernel
theorem dX6_digest_96 : decode cX6_digest 96 = .ok (.istore 4, 2) := by decide +kernel
theorem dX6_digest_98 : decode cX6_digest 98 = .ok (.iload 4, 2) := by decide +kernel
theorem dX6_digest_100 : decode cX6_digest 100 = .ok (.bipush 10, 2) := by decide +kernel
theorem dX6_digest_102 : decode cX6_digest 102 = .ok (.if_icmp .ge 71, 3) := by decide +kernel
theorem dX6_digest_105 : decode cX6_digest 105 = .ok (.bipush 41, 2) := by decide +kernel
theorem dX6_digest_107 : decode cX6_digest 107 = .ok (.iload 4, 2) := by decide +kernel
theorem dX6_digest_109 : decode cX6_digest 109 = .ok (.imul, 1) := by decide +kernel
theorem dX6_digest_110 : decode cX6_digest 110 = .ok (.iload_n 3, 1) := by decide +kernel
theorem dX6_digest_111 : decode cX6_digest 111 = .ok (.iadd, 1) := by decide +kernel
theorem dX6_digest_112 : decode cX6_digest 112 = .ok (.istore 5, 2) := by decide +kernel
theorem dX6_digest_114 : decode cX6_digest 114 = .ok (.aload_n 0, 1) := by decide +kernel
theorem dX6_digest_115 : decode cX6_digest 115 = .ok (.getfield 25, 3) := by decide +kernel
theorem dX6_digest_118 : decode cX6_digest 118 = .ok (.iload 5, 2) := by decide +kernel
theorem dX6_digest_120 : decode cX6_digest 120 = .ok (.baload, 1) := by decide +kernel
theorem dX6_digest_121 : decode cX6_digest 121 = .ok (.ifCond .eq 46, 3) := by decide +kernel
theorem dX6_digest_124 : decode cX6_digest 124 = .ok (.lload_n 1, 1) := by decide +kernel
theorem dX6_digest_125 : decode cX6_digest 125 = .ok (.ldc2_w 187, 3) := by decide +kernel
theorem dX6_digest_128 : decode cX6_digest 128 = .ok (.lmul, 1) := by decide +kernel
theorem dX6_digest_129 : decode cX6_digest 129 = .ok (.iload_n 3, 1) := by decide +kernel
theorem dX6_digest_130 : decode cX6_digest 130 = .ok (.i2l, 1) := by decide +kernel
theorem dX6_digest_131 : decode cX6_digest 131 = .ok (.ladd, 1) := by decide +kernel
theorem dX6_digest_132 : decode cX6_digest 132 = .ok (.ldc2_w 187, 3) := by decide +kernel
theorem dX6_digest_135 : decode cX6_digest 135 = .ok (.lmul, 1) := by decide +kernel
theorem dX6_digest_136 : decode cX6_digest 136 = .ok (.iload 4, 2) := by decide +kernel
theorem dX6_digest_138 : decode cX6_digest 138 = .ok (.i2l, 1) := by decide +kernel
theorem dX6_digest_139 : decode cX6_digest 139 = .ok (.ladd, 1) := by decide +kernel
theorem dX6_digest_140 : decode cX6_digest 140 = .ok (.ldc2_w 187, 3) := by decide +kernel
theorem dX6_digest_143 : decode cX6_digest 143 = .ok (.lmul, 1) := by decide +kernel
theorem dX6_digest_144 : decode cX6_digest 144 = .ok (.aload_n 0, 1) := by decide +kernel
theorem dX6_digest_145 : decode cX6_digest 145 = .ok (.getfield 29, 3) := by decide +kernel
theorem dX6_digest_148 : decode cX6_digest 148 = .ok (.iload 5, 2) := by decide +kernel
theorem dX6_digest_150 : decode cX6_digest 150 = .ok (.iaload, 1) := by decide +kernel
theorem dX6_digest_151 : decode cX6_digest 151 = .ok (.i2l, 1) := by decide +kernel
theorem dX6_digest_152 : decode cX6_digest 152 = .ok (.ladd, 1) := by decide +kernel
theorem dX6_digest_153 : decode cX6_digest 153 = .ok (.ldc2_w 187, 3) := by decide +kernel
theorem dX6_digest_156 : decode cX6_digest 156 = .ok (.lmul, 1) := by decide +kernel
theorem dX6_digest_157 : decode cX6_digest 157 = .ok (.aload_n 0, 1) := by decide +kernel
theorem dX6_digest_158 : decode cX6_digest 158 = .ok (.getfield 32, 3) := by decide +kernel
theorem dX6_digest_161 : decode cX6_digest 161 = .ok (.iload 5, 2) := by decide +kernel
theorem dX6_digest_163 : decode cX6_digest 163 = .ok (.iaload, 1) := by decide +kernel
theorem dX6_digest_164 : decode cX6_digest 164 = .ok (.i2l, 1) := by decide +kernel
theorem dX6_digest_165 : decode cX6_digest 165 = .ok (.ladd, 1) := by decide +kernel
theorem dX6_digest_166 : decode cX6_digest 166 = .ok (.lstore_n 1, 1) := by decide +kernel
theorem dX6_digest_167 : decode cX6_digest 167 = .ok (.iinc 4 1, 3) := by decide +kernel
theorem dX6_digest_170 : decode cX6_digest 170 = .ok (.goto (-72), 3) := by decide +kernel
theorem dX6_digest_173 : decode cX6_digest 173 = .ok (.iinc 3 1, 3) := by decide +kernel
theorem dX6_digest_176 : decode cX6_digest 176 = .ok (.goto (-89), 3) := by decide +kernel
theorem dX6_digest_179 : decode cX6_digest 179 = .ok (.lload_n 1, 1) := by decide +kernel
theorem dX6_digest_180 : decode cX6_digest 180 = .ok (.ldc2_w 187, 3) := by decide +kernel
theorem dX6_digest_183 : decode cX6_digest 183 = .ok (.lmul, 1) := by decide +kernel
theorem dX6_digest_184 : decode cX6_digest 184 = .ok (.aload_n 0, 1) := by decide +kernel
theorem dX6_digest_185 : decode cX6_digest 185 = .ok (.getfield 128, 3) := by decide +kernel
theorem dX6_digest_188 : decode cX6_digest 188 = .ok (.i2l, 1) := by decide +kernel
theorem dX6_digest_189 : decode cX6_digest 189 = .ok (.ladd, 1) := by decide +kernel
theorem dX6_digest_190 : decode cX6_digest 190 = .ok (.ldc2_w 187, 3) := by decide +kernel
theorem dX6_digest_193 : decode cX6_digest 193 = .ok (.lmul, 1) := by decide +kernel
theorem dX6_digest_194 : decode cX6_digest 194 = .ok (.aload_n 0, 1) := by decide +kernel
theorem dX6_digest_195 : decode cX6_digest 195 = .ok (.getfield 166, 3) := by decide +kernel
theorem dX6_digest_198 : decode cX6_digest 198 = .ok (.i2l, 1) := by decide +kernel
theorem dX6_digest_199 : decode cX6_digest 199 = .ok (.ladd, 1) := by decide +kernel
theorem dX6_digest_200 : decode cX6_digest 200 = .ok (.ldc2_w 187, 3) := by decide +kernel
theorem dX6_digest_203 : decode cX6_digest 203 = .ok (.lmul, 1) := by decide +kernel
theorem dX6_digest_204 : decode cX6_digest 204 = .ok (.aload_n 0, 1) := by decide +kernel
theorem dX6_digest_205 : decode cX6_digest 205 = .ok (.getfield 176, 3) := by decide +kernel
theorem dX6_digest_208 : decode cX6_digest 208 = .ok (.i2l, 1) := by decide +kernel
theorem dX6_digest_209 : decode cX6_digest 209 = .ok (.ladd, 1) := by decide +kernel
theorem dX6_digest_210 : decode cX6_digest 210 = .ok (.lreturn, 1) := by decide +kernel
