theorem dX6_isLeftRecursive_104 : decode cX6_isLeftRecursive 104 = .ok (.istore_n 2, 1) := by decide +kernel
theorem dX6_isLeftRecursive_105 : decode cX6_isLeftRecursive 105 = .ok (.iinc 4 1, 3) := by decide +kernel
theorem dX6_isLeftRecursive_108 : decode cX6_isLeftRecursive 108 = .ok (.goto (-46), 3) := by decide +kernel
theorem dX6_isLeftRecursive_111 : decode cX6_isLeftRecursive 111 = .ok (.iinc 3 1, 3) := by decide +kernel
theorem dX6_isLeftRecursive_114 : decode cX6_isLeftRecursive 114 = .ok (.goto (-61), 3) := by decide +kernel
theorem dX6_isLeftRecursive_117 : decode cX6_isLeftRecursive 117 = .ok (.iload_n 2, 1) := by decide +kernel
theorem dX6_isLeftRecursive_118 : decode cX6_isLeftRecursive 118 = .ok (.iload_n 1, 1) := by decide +kernel
theorem dX6_isLeftRecursive_119 : decode cX6_isLeftRecursive 119 = .ok (.ishr, 1) := by decide +kernel
theorem dX6_isLeftRecursive_120 : decode cX6_isLeftRecursive 120 = .ok (.iconst 1, 1) := by decide +kernel
theorem dX6_isLeftRecursive_121 : decode cX6_isLeftRecursive 121 = .ok (.iand, 1) := by decide +kernel
theorem dX6_isLeftRecursive_122 : decode cX6_isLeftRecursive 122 = .ok (.iconst 1, 1) := by decide +kernel
theorem dX6_isLeftRecursive_123 : decode cX6_isLeftRecursive 123 = .ok (.if_icmp .ne 7, 3) := by decide +kernel
theorem dX6_isLeftRecursive_126 : decode cX6_isLeftRecursive 126 = .ok (.iconst 1, 1) := by decide +kernel
theorem dX6_isLeftRecursive_127 : decode cX6_isLeftRecursive 127 = .ok (.goto 4, 3) := by decide +kernel
theorem dX6_isLeftRecursive_130 : decode cX6_isLeftRecursive 130 = .ok (.iconst 0, 1) := by decide +kernel
theorem dX6_isLeftRecursive_131 : decode cX6_isLeftRecursive 131 = .ok (.ireturn, 1) := by decide +kernel
theorem dX6_byteOf_0 : decode cX6_byteOf 0 = .ok (.lload_n 0, 1) := by decide +kernel
theorem dX6_byteOf_1 : decode cX6_byteOf 1 = .ok (.bipush 56, 2) := by decide +kernel
theorem dX6_byteOf_3 : decode cX6_byteOf 3 = .ok (.bipush 8, 2) := by decide +kernel
theorem dX6_byteOf_5 : decode cX6_byteOf 5 = .ok (.iload_n 2, 1) := by decide +kernel
theorem dX6_byteOf_6 : decode cX6_byteOf 6 = .ok (.imul, 1) := by decide +kernel
theorem dX6_byteOf_7 : decode cX6_byteOf 7 = .ok (.isub, 1) := by decide +kernel
theorem dX6_byteOf_8 : decode cX6_byteOf 8 = .ok (.lshr, 1) := by decide +kernel
theorem dX6_byteOf_9 : decode cX6_byteOf 9 = .ok (.ldc2_w 109, 3) := by decide +kernel
theorem dX6_byteOf_12 : decode cX6_byteOf 12 = .ok (.land, 1) := by decide +kernel
theorem dX6_byteOf_13 : decode cX6_byteOf 13 = .ok (.l2i, 1) := by decide +kernel
theorem dX6_byteOf_14 : decode cX6_byteOf 14 = .ok (.ireturn, 1) := by decide +kernel
set_option maxRecDepth 20000 in
theorem ggX6_replace_X6_fail : GoodIn wsX6_replace wsX6_fail := goodIn_r _ [9, 1, 26, 27, 28, 29, 30, 31, 32, 33, 34, 35, 36, 37, 38, 39, 40, 41, 42, 43, 44, 45, 46, 47, 48, 49, 50, 51, 52, 53, 54] (by decide +kernel) (by decide +kernel)
set_option maxRecDepth 20000 in
theorem gX6_replace_X6_fail : GoodIn wsX6_replace (wsV RX6 78 RX6 yX6_fail wsX6_fail) := goodIn_app (goodIn_of _ (by decide +kernel)) ggX6_replace_X6_fail
set_option maxRecDepth 20000 in
theorem ggX6_replace_X6_byteOf : GoodIn wsX6_replace wsX6_byteOf := goodIn_r _ [12, 13] (by decide +kernel) (by decide +kernel)
set_option maxRecDepth 20000 in
theorem gX6_replace_X6_byteOf : GoodIn wsX6_replace (va_wsS RX6 114 yX6_byteOf wsX6_byteOf) := goodIn_app (goodIn_of _ (by decide +kernel)) ggX6_replace_X6_byteOf
set_option maxRecDepth 20000 in
theorem ggX6_replace_X6_isByte : GoodIn wsX6_replace wsX6_isByte := goodIn_r _ [16] (by decide +kernel) (by decide +kernel)
set_option maxRecDepth 20000 in
theorem gX6_replace_X6_isByte : GoodIn wsX6_replace (va_wsS RX6 86 yX6_isByte wsX6_isByte) := goodIn_app (goodIn_of _ (by decide +kernel)) ggX6_replace_X6_isByte
set_option maxRecDepth 20000 in
theorem ggX6_replace_X6_keep : GoodIn wsX6_replace wsX6_keep := goodIn_r _ [20, 21, 3, 2, 22, 23, 24, 25, 26, 27, 28, 29, 30, 31, 32, 33, 34, 35, 36, 37, 38, 39, 40, 41, 42, 43, 44, 45, 46, 47, 48, 49, 50, 51, 52, 53, 54] (by decide +kernel) (by decide +kernel)
set_option maxRecDepth 20000 in
theorem gX6_replace_X6_keep : GoodIn wsX6_replace (wsV RX6 118 RX6 yX6_keep wsX6_keep) := goodIn_app (goodIn_of _ (by decide +kernel)) ggX6_replace_X6_keep
theorem dX6_replace_0 : decode cX6_replace 0 = .ok (.aload_n 0, 1) := by decide +kernel
theorem dX6_replace_1 : decode cX6_replace 1 = .ok (.iconst 0, 1) := by decide +kernel
theorem dX6_replace_2 : decode cX6_replace 2 = .ok (.putfield 72, 3) := by decide +kernel
theorem dX6_replace_5 : decode cX6_replace 5 = .ok (.iload_n 1, 1) := by decide +kernel
theorem dX6_replace_6 : decode cX6_replace 6 = .ok (.ifCond .lt 21, 3) := by decide +kernel
theorem dX6_replace_9 : decode cX6_replace 9 = .ok (.iload_n 2, 1) := by decide +kernel
theorem dX6_replace_10 : decode cX6_replace 10 = .ok (.ifCond .lt 17, 3) := by decide +kernel
theorem dX6_replace_13 : decode cX6_replace 13 = .ok (.iload_n 1, 1) := by decide +kernel
theorem dX6_replace_14 : decode cX6_replace 14 = .ok (.i2l, 1) := by decide +kernel
theorem dX6_replace_15 : decode cX6_replace 15 = .ok (.iload_n 2, 1) := by decide +kernel
theorem dX6_replace_16 : decode cX6_replace 16 = .ok (.i2l, 1) := by decide +kernel
theorem dX6_replace_17 : decode cX6_replace 17 = .ok (.ladd, 1) := by decide +kernel
theorem dX6_replace_18 : decode cX6_replace 18 = .ok (.aload_n 0, 1) := by decide +kernel
theorem dX6_replace_19 : decode cX6_replace 19 = .ok (.getfield 111, 3) := by decide +kernel
theorem dX6_replace_22 : decode cX6_replace 22 = .ok (.i2l, 1) := by decide +kernel
theorem dX6_replace_23 : decode cX6_replace 23 = .ok (.lcmp, 1) := by decide +kernel
theorem dX6_replace_24 : decode cX6_replace 24 = .ok (.ifCond .le 9, 3) := by decide +kernel
theorem dX6_replace_27 : decode cX6_replace 27 = .ok (.aload_n 0, 1) := by decide +kernel
theorem dX6_replace_28 : decode cX6_replace 28 = .ok (.iconst 1, 1) := by decide +kernel
theorem dX6_replace_29 : decode cX6_replace 29 = .ok (.invokevirtual 78, 3) := by decide +kernel
theorem dX6_replace_32 : decode cX6_replace 32 = .ok (.ireturn, 1) := by decide +kernel
theorem dX6_replace_33 : decode cX6_replace 33 = .ok (.iconst 0, 1) := by decide +kernel
theorem dX6_replace_34 : decode cX6_replace 34 = .ok (.istore 5, 2) := by decide +kernel
theorem dX6_replace_36 : decode cX6_replace 36 = .ok (.iconst 0, 1) := by decide +kernel
theorem dX6_replace_37 : decode cX6_replace 37 = .ok (.istore 6, 2) := by decide +kernel
theorem dX6_replace_39 : decode cX6_replace 39 = .ok (.iload 6, 2) := by decide +kernel
theorem dX6_replace_41 : decode cX6_replace 41 = .ok (.bipush 8, 2) := by decide +kernel
theorem dX6_replace_43 : decode cX6_replace 43 = .ok (.if_icmp .ge 51, 3) := by decide +kernel
theorem dX6_replace_46 : decode cX6_replace 46 = .ok (.lload_n 3, 1) := by decide +kernel
theorem dX6_replace_47 : decode cX6_replace 47 = .ok (.iload 6, 2) := by decide +kernel
theorem dX6_replace_49 : decode cX6_replace 49 = .ok (.invokestatic 114, 3) := by decide +kernel
theorem dX6_replace_52 : decode cX6_replace 52 = .ok (.istore 7, 2) := by decide +kernel
theorem dX6_replace_54 : decode cX6_replace 54 = .ok (.iload 7, 2) := by decide +kernel
theorem dX6_replace_56 : decode cX6_replace 56 = .ok (.ifCond .eq 17, 3) := by decide +kernel
theorem dX6_replace_59 : decode cX6_replace 59 = .ok (.iload 7, 2) := by decide +kernel
theorem dX6_replace_61 : decode cX6_replace 61 = .ok (.invokestatic 86, 3) := by decide +kernel
theorem dX6_replace_64 : decode cX6_replace 64 = .ok (.ifCond .ne 9, 3) := by decide +kernel
theorem dX6_replace_67 : decode cX6_replace 67 = .ok (.aload_n 0, 1) := by decide +kernel
theorem dX6_replace_68 : decode cX6_replace 68 = .ok (.iconst 2, 1) := by decide +kernel
theorem dX6_replace_69 : decode cX6_replace 69 = .ok (.invokevirtual 78, 3) := by decide +kernel
theorem dX6_replace_72 : decode cX6_replace 72 = .ok (.ireturn, 1) := by decide +kernel
theorem dX6_replace_73 : decode cX6_replace 73 = .ok (.iload 5, 2) := by decide +kernel
theorem dX6_replace_75 : decode cX6_replace 75 = .ok (.iload 7, 2) := by decide +kernel
theorem dX6_replace_77 : decode cX6_replace 77 = .ok (.ifCond .ne 7, 3) := by decide +kernel
theorem dX6_replace_80 : decode cX6_replace 80 = .ok (.iconst 0, 1) := by decide +kernel
theorem dX6_replace_81 : decode cX6_replace 81 = .ok (.goto 4, 3) := by decide +kernel
theorem dX6_replace_84 : decode cX6_replace 84 = .ok (.iconst 1, 1) := by decide +kernel
theorem dX6_replace_85 : decode cX6_replace 85 = .ok (.iadd, 1) := by decide +kernel
theorem dX6_replace_86 : decode cX6_replace 86 = .ok (.istore 5, 2) := by decide +kernel
theorem dX6_replace_88 : decode cX6_replace 88 = .ok (.iinc 6 1, 3) := by decide +kernel
theorem dX6_replace_91 : decode cX6_replace 91 = .ok (.goto (-52), 3) := by decide +kernel
theorem dX6_replace_94 : decode cX6_replace 94 = .ok (.aload_n 0, 1) := by decide +kernel
theorem dX6_replace_95 : decode cX6_replace 95 = .ok (.getfield 111, 3) := by decide +kernel
theorem dX6_replace_98 : decode cX6_replace 98 = .ok (.iload_n 2, 1) := by decide +kernel
theorem dX6_replace_99 : decode cX6_replace 99 = .ok (.isub, 1) := by decide +kernel
theorem dX6_replace_100 : decode cX6_replace 100 = .ok (.iload 5, 2) := by decide +kernel
theorem dX6_replace_102 : decode cX6_replace 102 = .ok (.iadd, 1) := by decide +kernel
theorem dX6_replace_103 : decode cX6_replace 103 = .ok (.bipush 40, 2) := by decide +kernel
theorem dX6_replace_105 : decode cX6_replace 105 = .ok (.if_icmp .le 9, 3) := by decide +kernel
theorem dX6_replace_108 : decode cX6_replace 108 = .ok (.aload_n 0, 1) := by decide +kernel
theorem dX6_replace_109 : decode cX6_replace 109 = .ok (.iconst 3, 1) := by decide +kernel
theorem dX6_replace_110 : decode cX6_replace 110 = .ok (.invokevirtual 78, 3) := by decide +kernel
theorem dX6_replace_113 : decode cX6_replace 113 = .ok (.ireturn, 1) := by decide +kernel
theorem dX6_replace_114 : decode cX6_replace 114 = .ok (.bipush 40, 2) := by decide +kernel
theorem dX6_replace_116 : decode cX6_replace 116 = .ok (.newarray .int, 2) := by decide +kernel
theorem dX6_replace_118 : decode cX6_replace 118 = .ok (.astore 6, 2) := by decide +kernel
theorem dX6_replace_120 : decode cX6_replace 120 = .ok (.iconst 0, 1) := by decide +kernel
theorem dX6_replace_121 : decode cX6_replace 121 = .ok (.istore 7, 2) := by decide +kernel
theorem dX6_replace_123 : decode cX6_replace 123 = .ok (.iload 7, 2) := by decide +kernel
theorem dX6_replace_125 : decode cX6_replace 125 = .ok (.iload_n 1, 1) := by decide +kernel
theorem dX6_replace_126 : decode cX6_replace 126 = .ok (.if_icmp .ge 21, 3) := by decide +kernel
theorem dX6_replace_129 : decode cX6_replace 129 = .ok (.aload 6, 2) := by decide +kernel
theorem dX6_replace_131 : decode cX6_replace 131 = .ok (.iload 7, 2) := by decide +kernel
theorem dX6_replace_133 : decode cX6_replace 133 = .ok (.aload_n 0, 1) := by decide +kernel
theorem dX6_replace_134 : decode cX6_replace 134 = .ok (.getfield 22, 3) := by decide +kernel
theorem dX6_replace_137 : decode cX6_replace 137 = .ok (.iload 7, 2) := by decide +kernel
theorem dX6_replace_139 : decode cX6_replace 139 = .ok (.iaload, 1) := by decide +kernel
theorem dX6_replace_140 : decode cX6_replace 140 = .ok (.iastore, 1) := by decide +kernel
theorem dX6_replace_141 : decode cX6_replace 141 = .ok (.iinc 7 1, 3) := by decide +kernel
theorem dX6_replace_144 : decode cX6_replace 144 = .ok (.goto (-21), 3) := by decide +kernel
theorem dX6_replace_147 : decode cX6_replace 147 = .ok (.iload_n 1, 1) := by decide +kernel
theorem dX6_replace_148 : decode cX6_replace 148 = .ok (.istore 7, 2) := by decide +kernel
theorem dX6_replace_150 : decode cX6_replace 150 = .ok (.iconst 0, 1) := by decide +kernel
theorem dX6_replace_151 : decode cX6_replace 151 = .ok (.istore 8, 2) := by decide +kernel
theorem dX6_replace_153 : decode cX6_replace 153 = .ok (.iload 8, 2) := by decide +kernel
theorem dX6_replace_155 : decode cX6_replace 155 = .ok (.bipush 8, 2) := by decide +kernel
theorem dX6_replace_157 : decode cX6_replace 157 = .ok (.if_icmp .ge 35, 3) := by decide +kernel
theorem dX6_replace_160 : decode cX6_replace 160 = .ok (.lload_n 3, 1) := by decide +kernel
theorem dX6_replace_161 : decode cX6_replace 161 = .ok (.iload 8, 2) := by decide +kernel
theorem dX6_replace_163 : decode cX6_replace 163 = .ok (.invokestatic 114, 3) := by decide +kernel
theorem dX6_replace_166 : decode cX6_replace 166 = .ok (.ifCond .ne 6, 3) := by decide +kernel
theorem dX6_replace_169 : decode cX6_replace 169 = .ok (.goto 17, 3) := by decide +kernel
theorem dX6_replace_172 : decode cX6_replace 172 = .ok (.aload 6, 2) := by decide +kernel
theorem dX6_replace_174 : decode cX6_replace 174 = .ok (.iload 7, 2) := by decide +kernel
theorem dX6_replace_176 : decode cX6_replace 176 = .ok (.lload_n 3, 1) := by decide +kernel
theorem dX6_replace_177 : decode cX6_replace 177 = .ok (.iload 8, 2) := by decide +kernel
theorem dX6_replace_179 : decode cX6_replace 179 = .ok (.invokestatic 114, 3) := by decide +kernel
theorem dX6_replace_182 : decode cX6_replace 182 = .ok (.iastore, 1) := by decide +kernel
theorem dX6_replace_183 : decode cX6_replace 183 = .ok (.iinc 7 1, 3) := by decide +kernel
theorem dX6_replace_186 : decode cX6_replace 186 = .ok (.iinc 8 1, 3) := by decide +kernel
theorem dX6_replace_189 : decode cX6_replace 189 = .ok (.goto (-36), 3) := by decide +kernel
theorem dX6_replace_192 : decode cX6_replace 192 = .ok (.iload_n 1, 1) := by decide +kernel
theorem dX6_replace_193 : decode cX6_replace 193 = .ok (.iload_n 2, 1) := by decide +kernel
theorem dX6_replace_194 : decode cX6_replace 194 = .ok (.iadd, 1) := by decide +kernel
theorem dX6_replace_195 : decode cX6_replace 195 = .ok (.istore 8, 2) := by decide +kernel
theorem dX6_replace_197 : decode cX6_replace 197 = .ok (.iload 8, 2) := by decide +kernel
theorem dX6_replace_199 : decode cX6_replace 199 = .ok (.aload_n 0, 1) := by decide +kernel
theorem dX6_replace_200 : decode cX6_replace 200 = .ok (.getfield 111, 3) := by decide +kernel
theorem dX6_replace_203 : decode cX6_replace 203 = .ok (.if_icmp .ge 26, 3) := by decide +kernel
theorem dX6_replace_206 : decode cX6_replace 206 = .ok (.aload 6, 2) := by decide +kernel
theorem dX6_replace_208 : decode cX6_replace 208 = .ok (.iload 8, 2) := by decide +kernel
theorem dX6_replace_210 : decode cX6_replace 210 = .ok (.iload 5, 2) := by decide +kernel
theorem dX6_replace_212 : decode cX6_replace 212 = .ok (.iadd, 1) := by decide +kernel
theorem dX6_replace_213 : decode cX6_replace 213 = .ok (.iload_n 2, 1) := by decide +kernel
theorem dX6_replace_214 : decode cX6_replace 214 = .ok (.isub, 1) := by decide +kernel
theorem dX6_replace_215 : decode cX6_replace 215 = .ok (.aload_n 0, 1) := by decide +kernel
theorem dX6_replace_216 : decode cX6_replace 216 = .ok (.getfield 22, 3) := by decide +kernel
theorem dX6_replace_219 : decode cX6_replace 219 = .ok (.iload 8, 2) := by decide +kernel
theorem dX6_replace_221 : decode cX6_replace 221 = .ok (.iaload, 1) := by decide +kernel
theorem dX6_replace_222 : decode cX6_replace 222 = .ok (.iastore, 1) := by decide +kernel
theorem dX6_replace_223 : decode cX6_replace 223 = .ok (.iinc 8 1, 3) := by decide +kernel
theorem dX6_replace_226 : decode cX6_replace 226 = .ok (.goto (-29), 3) := by decide +kernel
theorem dX6_replace_229 : decode cX6_replace 229 = .ok (.aload_n 0, 1) := by decide +kernel
theorem dX6_replace_230 : decode cX6_replace 230 = .ok (.aload 6, 2) := by decide +kernel
theorem dX6_replace_232 : decode cX6_replace 232 = .ok (.putfield 22, 3) := by decide +kernel
theorem dX6_replace_235 : decode cX6_replace 235 = .ok (.aload_n 0, 1) := by decide +kernel
theorem dX6_replace_236 : decode cX6_replace 236 = .ok (.iload_n 1, 1) := by decide +kernel
theorem dX6_replace_237 : decode cX6_replace 237 = .ok (.iload_n 2, 1) := by decide +kernel
theorem dX6_replace_238 : decode cX6_replace 238 = .ok (.iload 5, 2) := by decide +kernel
theorem dX6_replace_240 : decode cX6_replace 240 = .ok (.iload_n 2, 1) := by decide +kernel
theorem dX6_replace_241 : decode cX6_replace 241 = .ok (.isub, 1) := by decide +kernel
theorem dX6_replace_242 : decode cX6_replace 242 = .ok (.invokevirtual 118, 3) := by decide +kernel
theorem dX6_replace_245 : decode cX6_replace 245 = .ok (.istore 8, 2) := by decide +kernel
theorem dX6_replace_247 : decode cX6_replace 247 = .ok (.aload_n 0, 1) := by decide +kernel
theorem dX6_replace_248 : decode cX6_replace 248 = .ok (.dup, 1) := by decide +kernel
theorem dX6_replace_249 : decode cX6_replace 249 = .ok (.getfield 111, 3) := by decide +kernel
theorem dX6_replace_252 : decode cX6_replace 252 = .ok (.iload 5, 2) := by decide +kernel
theorem dX6_replace_254 : decode cX6_replace 254 = .ok (.iload_n 2, 1) := by decide +kernel
theorem dX6_replace_255 : decode cX6_replace 255 = .ok (.isub, 1) := by decide +kernel
theorem dX6_replace_256 : decode cX6_replace 256 = .ok (.iadd, 1) := by decide +kernel
theorem dX6_replace_257 : decode cX6_replace 257 = .ok (.putfield 111, 3) := by decide +kernel
theorem dX6_replace_260 : decode cX6_replace 260 = .ok (.iload 8, 2) := by decide +kernel
theorem dX6_replace_262 : decode cX6_replace 262 = .ok (.ireturn, 1) := by decide +kernel
theorem dX6_keep_0 : decode cX6_keep 0 = .ok (.sipush 410, 3) := by decide +kernel
theorem dX6_keep_3 : decode cX6_keep 3 = .ok (.newarray .boolean, 2) := by decide +kernel
theorem dX6_keep_5 : decode cX6_keep 5 = .ok (.astore 4, 2) := by decide +kernel
theorem dX6_keep_7 : decode cX6_keep 7 = .ok (.sipush 410, 3) := by decide +kernel
theorem dX6_keep_10 : decode cX6_keep 10 = .ok (.newarray .int, 2) := by decide +kernel
theorem dX6_keep_12 : decode cX6_keep 12 = .ok (.astore 5, 2) := by decide +kernel
theorem dX6_keep_14 : decode cX6_keep 14 = .ok (.sipush 410, 3) := by decide +kernel
theorem dX6_keep_17 : decode cX6_keep 17 = .ok (.newarray .int, 2) := by decide +kernel
theorem dX6_keep_19 : decode cX6_keep 19 = .ok (.astore 6, 2) := by decide +kernel
theorem dX6_keep_21 : decode cX6_keep 21 = .ok (.sipush 410, 3) := by decide +kernel
theorem dX6_keep_24 : decode cX6_keep 24 = .ok (.newarray .int, 2) := by decide +kernel
theorem dX6_keep_26 : decode cX6_keep 26 = .ok (.astore 7, 2) := by decide +kernel
theorem dX6_keep_28 : decode cX6_keep 28 = .ok (.iconst 0, 1) := by decide +kernel
theorem dX6_keep_29 : decode cX6_keep 29 = .ok (.istore 8, 2) := by decide +kernel
theorem dX6_keep_31 : decode cX6_keep 31 = .ok (.iconst 0, 1) := by decide +kernel
theorem dX6_keep_32 : decode cX6_keep 32 = .ok (.istore 9, 2) := by decide +kernel
theorem dX6_keep_34 : decode cX6_keep 34 = .ok (.iload 9, 2) := by decide +kernel
theorem dX6_keep_36 : decode cX6_keep 36 = .ok (.aload_n 0, 1) := by decide +kernel
theorem dX6_keep_37 : decode cX6_keep 37 = .ok (.getfield 111, 3) := by decide +kernel
theorem dX6_keep_40 : decode cX6_keep 40 = .ok (.if_icmp .gt 188, 3) := by decide +kernel
theorem dX6_keep_43 : decode cX6_keep 43 = .ok (.iconst 0, 1) := by decide +kernel
theorem dX6_keep_44 : decode cX6_keep 44 = .ok (.istore 10, 2) := by decide +kernel
theorem dX6_keep_46 : decode cX6_keep 46 = .ok (.iload 10, 2) := by decide +kernel
theorem dX6_keep_48 : decode cX6_keep 48 = .ok (.bipush 10, 2) := by decide +kernel
theorem dX6_keep_50 : decode cX6_keep 50 = .ok (.if_icmp .ge 172, 3) := by decide +kernel
theorem dX6_keep_53 : decode cX6_keep 53 = .ok (.bipush 41, 2) := by decide +kernel
theorem dX6_keep_55 : decode cX6_keep 55 = .ok (.iload 10, 2) := by decide +kernel
theorem dX6_keep_57 : decode cX6_keep 57 = .ok (.imul, 1) := by decide +kernel
theorem dX6_keep_58 : decode cX6_keep 58 = .ok (.iload 9, 2) := by decide +kernel
theorem dX6_keep_60 : decode cX6_keep 60 = .ok (.iadd, 1) := by decide +kernel
theorem dX6_keep_61 : decode cX6_keep 61 = .ok (.istore 11, 2) := by decide +kernel
theorem dX6_keep_63 : decode cX6_keep 63 = .ok (.aload_n 0, 1) := by decide +kernel
theorem dX6_keep_64 : decode cX6_keep 64 = .ok (.getfield 25, 3) := by decide +kernel
theorem dX6_keep_67 : decode cX6_keep 67 = .ok (.iload 11, 2) := by decide +kernel
theorem dX6_keep_69 : decode cX6_keep 69 = .ok (.baload, 1) := by decide +kernel
theorem dX6_keep_70 : decode cX6_keep 70 = .ok (.ifCond .ne 6, 3) := by decide +kernel
theorem dX6_keep_73 : decode cX6_keep 73 = .ok (.goto 143, 3) := by decide +kernel
theorem dX6_keep_76 : decode cX6_keep 76 = .ok (.iload 9, 2) := by decide +kernel
theorem dX6_keep_78 : decode cX6_keep 78 = .ok (.iload_n 1, 1) := by decide +kernel
theorem dX6_keep_79 : decode cX6_keep 79 = .ok (.iload_n 2, 1) := by decide +kernel
theorem dX6_keep_80 : decode cX6_keep 80 = .ok (.iadd, 1) := by decide +kernel
theorem dX6_keep_81 : decode cX6_keep 81 = .ok (.if_icmp .lt 7, 3) := by decide +kernel
theorem dX6_keep_84 : decode cX6_keep 84 = .ok (.iconst 1, 1) := by decide +kernel
theorem dX6_keep_85 : decode cX6_keep 85 = .ok (.goto 4, 3) := by decide +kernel
theorem dX6_keep_88 : decode cX6_keep 88 = .ok (.iconst 0, 1) := by decide +kernel
theorem dX6_keep_89 : decode cX6_keep 89 = .ok (.istore 12, 2) := by decide +kernel
theorem dX6_keep_91 : decode cX6_keep 91 = .ok (.iload 12, 2) := by decide +kernel
theorem dX6_keep_93 : decode cX6_keep 93 = .ok (.ifCond .ne 20, 3) := by decide +kernel
theorem dX6_keep_96 : decode cX6_keep 96 = .ok (.aload_n 0, 1) := by decide +kernel
theorem dX6_keep_97 : decode cX6_keep 97 = .ok (.getfield 32, 3) := by decide +kernel
theorem dX6_keep_100 : decode cX6_keep 100 = .ok (.iload 11, 2) := by decide +kernel
theorem dX6_keep_102 : decode cX6_keep 102 = .ok (.iaload, 1) := by decide +kernel
theorem dX6_keep_103 : decode cX6_keep 103 = .ok (.iload_n 1, 1) := by decide +kernel
theorem dX6_keep_104 : decode cX6_keep 104 = .ok (.if_icmp .le 9, 3) := by decide +kernel
theorem dX6_keep_107 : decode cX6_keep 107 = .ok (.iinc 8 1, 3) := by decide +kernel
theorem dX6_keep_110 : decode cX6_keep 110 = .ok (.goto 106, 3) := by decide +kernel
theorem dX6_keep_113 : decode cX6_keep 113 = .ok (.iload 12, 2) := by decide +kernel
theorem dX6_keep_115 : decode cX6_keep 115 = .ok (.ifCond .eq 10, 3) := by decide +kernel
theorem dX6_keep_118 : decode cX6_keep 118 = .ok (.iload 11, 2) := by decide +kernel
theorem dX6_keep_120 : decode cX6_keep 120 = .ok (.iload_n 3, 1) := by decide +kernel
theorem dX6_keep_121 : decode cX6_keep 121 = .ok (.iadd, 1) := by decide +kernel
theorem dX6_keep_122 : decode cX6_keep 122 = .ok (.goto 5, 3) := by decide +kernel
theorem dX6_keep_125 : decode cX6_keep 125 = .ok (.iload 11, 2) := by decide +kernel
theorem dX6_keep_127 : decode cX6_keep 127 = .ok (.istore 13, 2) := by decide +kernel
theorem dX6_keep_129 : decode cX6_keep 129 = .ok (.aload 4, 2) := by decide +kernel
theorem dX6_keep_131 : decode cX6_keep 131 = .ok (.iload 13, 2) := by decide +kernel
theorem dX6_keep_133 : decode cX6_keep 133 = .ok (.iconst 1, 1) := by decide +kernel
theorem dX6_keep_134 : decode cX6_keep 134 = .ok (.bastore, 1) := by decide +kernel
theorem dX6_keep_135 : decode cX6_keep 135 = .ok (.aload 5, 2) := by decide +kernel
theorem dX6_keep_137 : decode cX6_keep 137 = .ok (.iload 13, 2) := by decide +kernel
theorem dX6_keep_139 : decode cX6_keep 139 = .ok (.iload 12, 2) := by decide +kernel
theorem dX6_keep_141 : decode cX6_keep 141 = .ok (.ifCond .eq 26, 3) := by decide +kernel
theorem dX6_keep_144 : decode cX6_keep 144 = .ok (.aload_n 0, 1) := by decide +kernel
theorem dX6_keep_145 : decode cX6_keep 145 = .ok (.getfield 29, 3) := by decide +kernel
theorem dX6_keep_148 : decode cX6_keep 148 = .ok (.iload 11, 2) := by decide +kernel
theorem dX6_keep_150 : decode cX6_keep 150 = .ok (.iaload, 1) := by decide +kernel
theorem dX6_keep_151 : decode cX6_keep 151 = .ok (.iconst (-1), 1) := by decide +kernel
theorem dX6_keep_152 : decode cX6_keep 152 = .ok (.if_icmp .eq 15, 3) := by decide +kernel
theorem dX6_keep_155 : decode cX6_keep 155 = .ok (.aload_n 0, 1) := by decide +kernel
theorem dX6_keep_156 : decode cX6_keep 156 = .ok (.getfield 29, 3) := by decide +kernel
theorem dX6_keep_159 : decode cX6_keep 159 = .ok (.iload 11, 2) := by decide +kernel
theorem dX6_keep_161 : decode cX6_keep 161 = .ok (.iaload, 1) := by decide +kernel
theorem dX6_keep_162 : decode cX6_keep 162 = .ok (.iload_n 3, 1) := by decide +kernel
theorem dX6_keep_163 : decode cX6_keep 163 = .ok (.iadd, 1) := by decide +kernel
theorem dX6_keep_164 : decode cX6_keep 164 = .ok (.goto 10, 3) := by decide +kernel
theorem dX6_keep_167 : decode cX6_keep 167 = .ok (.aload_n 0, 1) := by decide +kernel
theorem dX6_keep_168 : decode cX6_keep 168 = .ok (.getfield 29, 3) := by decide +kernel
theorem dX6_keep_171 : decode cX6_keep 171 = .ok (.iload 11, 2) := by decide +kernel
theorem dX6_keep_173 : decode cX6_keep 173 = .ok (.iaload, 1) := by decide +kernel
theorem dX6_keep_174 : decode cX6_keep 174 = .ok (.iastore, 1) := by decide +kernel
theorem dX6_keep_175 : decode cX6_keep 175 = .ok (.aload 6, 2) := by decide +kernel
theorem dX6_keep_177 : decode cX6_keep 177 = .ok (.iload 13, 2) := by decide +kernel
theorem dX6_keep_179 : decode cX6_keep 179 = .ok (.iload 12, 2) := by decide +kernel
theorem dX6_keep_181 : decode cX6_keep 181 = .ok (.ifCond .eq 15, 3) := by decide +kernel
theorem dX6_keep_184 : decode cX6_keep 184 = .ok (.aload_n 0, 1) := by decide +kernel
theorem dX6_keep_185 : decode cX6_keep 185 = .ok (.getfield 32, 3) := by decide +kernel
theorem dX6_keep_188 : decode cX6_keep 188 = .ok (.iload 11, 2) := by decide +kernel
theorem dX6_keep_190 : decode cX6_keep 190 = .ok (.iaload, 1) := by decide +kernel
theorem dX6_keep_191 : decode cX6_keep 191 = .ok (.iload_n 3, 1) := by decide +kernel
theorem dX6_keep_192 : decode cX6_keep 192 = .ok (.iadd, 1) := by decide +kernel
theorem dX6_keep_193 : decode cX6_keep 193 = .ok (.goto 10, 3) := by decide +kernel
theorem dX6_keep_196 : decode cX6_keep 196 = .ok (.aload_n 0, 1) := by decide +kernel
theorem dX6_keep_197 : decode cX6_keep 197 = .ok (.getfield 32, 3) := by decide +kernel
theorem dX6_keep_200 : decode cX6_keep 200 = .ok (.iload 11, 2) := by decide +kernel
theorem dX6_keep_202 : decode cX6_keep 202 = .ok (.iaload, 1) := by decide +kernel
theorem dX6_keep_203 : decode cX6_keep 203 = .ok (.iastore, 1) := by decide +kernel
theorem dX6_keep_204 : decode cX6_keep 204 = .ok (.aload 7, 2) := by decide +kernel
theorem dX6_keep_206 : decode cX6_keep 206 = .ok (.iload 13, 2) := by decide +kernel
theorem dX6_keep_208 : decode cX6_keep 208 = .ok (.aload_n 0, 1) := by decide +kernel
theorem dX6_keep_209 : decode cX6_keep 209 = .ok (.getfield 35, 3) := by decide +kernel
theorem dX6_keep_212 : decode cX6_keep 212 = .ok (.iload 11, 2) := by decide +kernel
theorem dX6_keep_214 : decode cX6_keep 214 = .ok (.iaload, 1) := by decide +kernel
theorem dX6_keep_215 : decode cX6_keep 215 = .ok (.iastore, 1) := by decide +kernel
theorem dX6_keep_216 : decode cX6_keep 216 = .ok (.iinc 10 1, 3) := by decide +kernel
theorem dX6_keep_219 : decode cX6_keep 219 = .ok (.goto (-173), 3) := by decide +kernel
theorem dX6_keep_222 : decode cX6_keep 222 = .ok (.iinc 9 1, 3) := by decide +kernel
theorem dX6_keep_225 : decode cX6_keep 225 = .ok (.goto (-191), 3) := by decide +kernel
theorem dX6_keep_228 : decode cX6_keep 228 = .ok (.aload_n 0, 1) := by decide +kernel
theorem dX6_keep_229 : decode cX6_keep 229 = .ok (.aload 4, 2) := by decide +kernel
theorem dX6_keep_231 : decode cX6_keep 231 = .ok (.putfield 25, 3) := by decide +kernel
theorem dX6_keep_234 : decode cX6_keep 234 = .ok (.aload_n 0, 1) := by decide +kernel
theorem dX6_keep_235 : decode cX6_keep 235 = .ok (.aload 5, 2) := by decide +kernel
theorem dX6_keep_237 : decode cX6_keep 237 = .ok (.putfield 29, 3) := by decide +kernel
theorem dX6_keep_240 : decode cX6_keep 240 = .ok (.aload_n 0, 1) := by decide +kernel
theorem dX6_keep_241 : decode cX6_keep 241 = .ok (.aload 6, 2) := by decide +kernel
theorem dX6_keep_243 : decode cX6_keep 243 = .ok (.putfield 32, 3) := by decide +kernel
theorem dX6_keep_246 : decode cX6_keep 246 = .ok (.aload_n 0, 1) := by decide +kernel
theorem dX6_keep_247 : decode cX6_keep 247 = .ok (.aload 7, 2) := by decide +kernel
theorem dX6_keep_249 : decode cX6_keep 249 = .ok (.putfield 35, 3) := by decide +kernel
theorem dX6_keep_252 : decode cX6_keep 252 = .ok (.iload 8, 2) := by decide +kernel
theorem dX6_keep_254 : decode cX6_keep 254 = .ok (.ireturn, 1) := by decide +kernel
theorem dX6_size_0 : decode cX6_size 0 = .ok (.aload_n 0, 1) := by decide +kernel
theorem dX6_size_1 : decode cX6_size 1 = .ok (.iconst 0, 1) := by decide +kernel
theorem dX6_size_2 : decode cX6_size 2 = .ok (.putfield 72, 3) := by decide +kernel
theorem dX6_size_5 : decode cX6_size 5 = .ok (.aload_n 0, 1) := by decide +kernel
theorem dX6_size_6 : decode cX6_size 6 = .ok (.getfield 111, 3) := by decide +kernel
theorem dX6_size_9 : decode cX6_size 9 = .ok (.ireturn, 1) := by decide +kernel
set_option maxRecDepth 20000 in
theorem ggX6_byteAt_X6_fail : GoodIn wsX6_byteAt wsX6_fail := goodIn_r _ [8, 1, 9, 10, 11, 12, 13, 14, 15, 16, 17, 18, 19, 20, 21, 22, 23, 24, 25, 26, 27, 28, 29, 30, 31, 32, 33, 34, 35, 36, 37] (by decide +kernel) (by decide +kernel)
set_option maxRecDepth 20000 in
theorem gX6_byteAt_X6_fail : GoodIn wsX6_byteAt (wsV RX6 78 RX6 yX6_fail wsX6_fail) := goodIn_app (goodIn_of _ (by decide +kernel)) ggX6_byteAt_X6_fail
theorem dX6_byteAt_0 : decode cX6_byteAt 0 = .ok (.aload_n 0, 1) := by decide +kernel
theorem dX6_byteAt_1 : decode cX6_byteAt 1 = .ok (.iconst 0, 1) := by decide +kernel
theorem dX6_byteAt_2 : decode cX6_byteAt 2 = .ok (.putfield 72, 3) := by decide +kernel
theorem dX6_byteAt_5 : decode cX6_byteAt 5 = .ok (.iload_n 1, 1) := by decide +kernel
theorem dX6_byteAt_6 : decode cX6_byteAt 6 = .ok (.ifCond .lt 20, 3) := by decide +kernel
theorem dX6_byteAt_9 : decode cX6_byteAt 9 = .ok (.iload_n 1, 1) := by decide +kernel
theorem dX6_byteAt_10 : decode cX6_byteAt 10 = .ok (.aload_n 0, 1) := by decide +kernel
theorem dX6_byteAt_11 : decode cX6_byteAt 11 = .ok (.getfield 111, 3) := by decide +kernel
theorem dX6_byteAt_14 : decode cX6_byteAt 14 = .ok (.if_icmp .ge 12, 3) := by decide +kernel
theorem dX6_byteAt_17 : decode cX6_byteAt 17 = .ok (.aload_n 0, 1) := by decide +kernel
theorem dX6_byteAt_18 : decode cX6_byteAt 18 = .ok (.getfield 22, 3) := by decide +kernel
theorem dX6_byteAt_21 : decode cX6_byteAt 21 = .ok (.iload_n 1, 1) := by decide +kernel
theorem dX6_byteAt_22 : decode cX6_byteAt 22 = .ok (.iaload, 1) := by decide +kernel
theorem dX6_byteAt_23 : decode cX6_byteAt 23 = .ok (.goto 8, 3) := by decide +kernel
theorem dX6_byteAt_26 : decode cX6_byteAt 26 = .ok (.aload_n 0, 1) := by decide +kernel
theorem dX6_byteAt_27 : decode cX6_byteAt 27 = .ok (.iconst 1, 1) := by decide +kernel
theorem dX6_byteAt_28 : decode cX6_byteAt 28 = .ok (.invokevirtual 78, 3) := by decide +kernel
theorem dX6_byteAt_31 : decode cX6_byteAt 31 = .ok (.ireturn, 1) := by decide +kernel
theorem dX6_succeed_0 : decode cX6_succeed 0 = .ok (.aload_n 0, 1) := by decide +kernel
theorem dX6_succeed_1 : decode cX6_succeed 1 = .ok (.iconst 0, 1) := by decide +kernel
theorem dX6_succeed_2 : decode cX6_succeed 2 = .ok (.putfield 121, 3) := by decide +kernel
theorem dX6_succeed_5 : decode cX6_succeed 5 = .ok (.iload_n 1, 1) := by decide +kernel
theorem dX6_succeed_6 : decode cX6_succeed 6 = .ok (.ireturn, 1) := by decide +kernel
theorem dX6_miss_0 : decode cX6_miss 0 = .ok (.aload_n 0, 1) := by decide +kernel
theorem dX6_miss_1 : decode cX6_miss 1 = .ok (.iload_n 1, 1) := by decide +kernel
theorem dX6_miss_2 : decode cX6_miss 2 = .ok (.putfield 121, 3) := by decide +kernel
theorem dX6_miss_5 : decode cX6_miss 5 = .ok (.iconst (-1), 1) := by decide +kernel
theorem dX6_miss_6 : decode cX6_miss 6 = .ok (.ireturn, 1) := by decide +kernel
set_option maxRecDepth 20000 in
theorem ggX6_look_X6_miss : GoodIn wsX6_look wsX6_miss := goodIn_r _ [11, 5, 69, 70, 71, 72, 73, 74, 75, 76, 77, 78, 79, 80, 81, 82, 83, 84, 85, 86, 87, 88, 89, 90, 91, 92, 93, 94, 95, 96, 97] (by decide +kernel) (by decide +kernel)
set_option maxRecDepth 20000 in
theorem gX6_look_X6_miss : GoodIn wsX6_look (wsV RX6 131 RX6 yX6_miss wsX6_miss) := goodIn_app (goodIn_of _ (by decide +kernel)) ggX6_look_X6_miss
set_option maxRecDepth 20000 in
theorem ggX6_look_X6_succeed : GoodIn wsX6_look wsX6_succeed := goodIn_r _ [15, 5, 69, 70, 71, 72, 73, 74, 75, 76, 77, 78, 79, 80, 81, 82, 83, 84, 85, 86, 87, 88, 89, 90, 91, 92, 93, 94, 95, 96, 97] (by decide +kernel) (by decide +kernel)
set_option maxRecDepth 20000 in
theorem gX6_look_X6_succeed : GoodIn wsX6_look (wsV RX6 135 RX6 yX6_succeed wsX6_succeed) := goodIn_app (goodIn_of _ (by decide +kernel)) ggX6_look_X6_succeed
set_option maxRecDepth 20000 in
theorem ggX6_look_X6_lookAt : GoodIn wsX6_look wsX6_lookAt := goodIn_r _ [19, 20, 21, 22, 23, 24, 25, 26, 27, 28, 12, 13, 14, 10, 15, 5, 7, 8, 9, 11, 69, 70, 71, 72, 73, 74, 75, 76, 77, 78, 79, 80, 81, 82, 83, 84, 85, 86, 87, 88, 89, 90, 91, 92, 93, 94, 95, 96, 97] (by decide +kernel) (by decide +kernel)
set_option maxRecDepth 20000 in
theorem gX6_look_X6_lookAt : GoodIn wsX6_look (wsV RX6 138 RX6 yX6_lookAt wsX6_lookAt) := goodIn_app (goodIn_of _ (by decide +kernel)) ggX6_look_X6_lookAt
set_option maxRecDepth 20000 in
theorem ggX6_look_X6_lookRule : GoodIn wsX6_look wsX6_lookRule := goodIn_r _ [39, 40, 41, 42, 43, 20, 21, 44, 22, 23, 24, 25, 45, 46, 47, 48, 49, 50, 51, 1, 52, 53, 54, 55, 10, 56, 57, 58, 59, 60, 61, 62, 63, 64, 65, 66, 67, 68, 32, 33, 34, 0, 2, 3, 4, 5, 6, 7, 8, 9, 11, 12, 13, 14, 15, 16, 17, 18, 19, 26, 27, 28, 29, 30, 31, 35, 36, 37, 38, 69, 70, 71, 72, 73, 74, 75, 76, 77, 78, 79, 80, 81, 82, 83, 84, 85, 86, 87, 88, 89, 90, 91, 92, 93, 94, 95, 96, 97] (by decide +kernel) (by decide +kernel)
set_option maxRecDepth 20000 in
theorem gX6_look_X6_lookRule : GoodIn wsX6_look (wsV RX6 141 RX6 yX6_lookRule wsX6_lookRule) := goodIn_app (goodIn_of _ (by decide +kernel)) ggX6_look_X6_lookRule
set_option maxRecDepth 20000 in
theorem ggX6_look_X6_look : GoodIn wsX6_look wsX6_look := goodIn_r _ [0, 1, 2, 3, 4, 5, 6, 7, 8, 9, 10, 11, 12, 13, 14, 15, 16, 17, 18, 19, 20, 21, 22, 23, 24, 25, 26, 27, 28, 29, 30, 31, 32, 33, 34, 35, 36, 37, 38, 39, 40, 41, 42, 43, 44, 45, 46, 47, 48, 49, 50, 51, 52, 53, 54, 55, 56, 57, 58, 59, 60, 61, 62, 63, 64, 65, 66, 67, 68, 69, 70, 71, 72, 73, 74, 75, 76, 77, 78, 79, 80, 81, 82, 83, 84, 85, 86, 87, 88, 89, 90, 91, 92, 93, 94, 95, 96, 97] (by decide +kernel) (by decide +kernel)
set_option maxRecDepth 20000 in
theorem gX6_look_X6_look : GoodIn wsX6_look (wsV RX6 144 RX6 yX6_look wsX6_look) := goodIn_app (goodIn_of _ (by decide +kernel)) ggX6_look_X6_look
set_option maxRecDepth 20000 in
theorem ggX6_look_X6_lookAgain : GoodIn wsX6_look wsX6_lookAgain := goodIn_r _ [38, 1, 5, 32, 33, 34, 10, 7, 8, 9, 11, 12, 13, 14, 15, 0, 2, 3, 4, 6, 16, 17, 18, 19, 20, 21, 22, 23, 24, 25, 26, 27, 28, 29, 30, 31, 35, 36, 37, 39, 40, 41, 42, 43, 44, 45, 46, 47, 48, 49, 50, 51, 52, 53, 54, 55, 56, 57, 58, 59, 60, 61, 62, 63, 64, 65, 66, 67, 68, 69, 70, 71, 72, 73, 74, 75, 76, 77, 78, 79, 80, 81, 82, 83, 84, 85, 86, 87, 88, 89, 90, 91, 92, 93, 94, 95, 96, 97] (by decide +kernel) (by decide +kernel)
set_option maxRecDepth 20000 in
theorem gX6_look_X6_lookAgain : GoodIn wsX6_look (wsV RX6 147 RX6 yX6_lookAgain wsX6_lookAgain) := goodIn_app (goodIn_of _ (by decide +kernel)) ggX6_look_X6_lookAgain
theorem dX6_look_0 : decode cX6_look 0 = .ok (.aload_n 0, 1) := by decide +kernel
theorem dX6_look_1 : decode cX6_look 1 = .ok (.getfield 125, 3) := by decide +kernel
theorem dX6_look_4 : decode cX6_look 4 = .ok (.ifCond .ne 19, 3) := by decide +kernel
theorem dX6_look_7 : decode cX6_look 7 = .ok (.aload_n 0, 1) := by decide +kernel
theorem dX6_look_8 : decode cX6_look 8 = .ok (.getfield 128, 3) := by decide +kernel
theorem dX6_look_11 : decode cX6_look 11 = .ok (.sipush 5000, 3) := by decide +kernel
theorem dX6_look_14 : decode cX6_look 14 = .ok (.if_icmp .eq 9, 3) := by decide +kernel
theorem dX6_look_17 : decode cX6_look 17 = .ok (.iload_n 3, 1) := by decide +kernel
theorem dX6_look_18 : decode cX6_look 18 = .ok (.bipush 100, 2) := by decide +kernel
theorem dX6_look_20 : decode cX6_look 20 = .ok (.if_icmp .le 14, 3) := by decide +kernel
theorem dX6_look_23 : decode cX6_look 23 = .ok (.aload_n 0, 1) := by decide +kernel
theorem dX6_look_24 : decode cX6_look 24 = .ok (.iconst 1, 1) := by decide +kernel
theorem dX6_look_25 : decode cX6_look 25 = .ok (.putfield 125, 3) := by decide +kernel
theorem dX6_look_28 : decode cX6_look 28 = .ok (.aload_n 0, 1) := by decide +kernel
theorem dX6_look_29 : decode cX6_look 29 = .ok (.iconst 0, 1) := by decide +kernel
theorem dX6_look_30 : decode cX6_look 30 = .ok (.invokevirtual 131, 3) := by decide +kernel
theorem dX6_look_33 : decode cX6_look 33 = .ok (.ireturn, 1) := by decide +kernel
theorem dX6_look_34 : decode cX6_look 34 = .ok (.aload_n 0, 1) := by decide +kernel
theorem dX6_look_35 : decode cX6_look 35 = .ok (.dup, 1) := by decide +kernel
theorem dX6_look_36 : decode cX6_look 36 = .ok (.getfield 128, 3) := by decide +kernel
theorem dX6_look_39 : decode cX6_look 39 = .ok (.iconst 1, 1) := by decide +kernel
theorem dX6_look_40 : decode cX6_look 40 = .ok (.iadd, 1) := by decide +kernel
theorem dX6_look_41 : decode cX6_look 41 = .ok (.putfield 128, 3) := by decide +kernel
theorem dX6_look_44 : decode cX6_look 44 = .ok (.aload_n 0, 1) := by decide +kernel
theorem dX6_look_45 : decode cX6_look 45 = .ok (.getfield 13, 3) := by decide +kernel
theorem dX6_look_48 : decode cX6_look 48 = .ok (.iload_n 1, 1) := by decide +kernel
theorem dX6_look_49 : decode cX6_look 49 = .ok (.iaload, 1) := by decide +kernel
theorem dX6_look_50 : decode cX6_look 50 = .ok (.istore 4, 2) := by decide +kernel
theorem dX6_look_52 : decode cX6_look 52 = .ok (.aload_n 0, 1) := by decide +kernel
theorem dX6_look_53 : decode cX6_look 53 = .ok (.getfield 9, 3) := by decide +kernel
theorem dX6_look_56 : decode cX6_look 56 = .ok (.iload_n 1, 1) := by decide +kernel
theorem dX6_look_57 : decode cX6_look 57 = .ok (.iaload, 1) := by decide +kernel
theorem dX6_look_58 : decode cX6_look 58 = .ok (.tableswitch 257 0 7 #[46, 52, 59, 73, 91, 163, 212, 221], 46) := by decide +kernel
theorem dX6_look_104 : decode cX6_look 104 = .ok (.aload_n 0, 1) := by decide +kernel
theorem dX6_look_105 : decode cX6_look 105 = .ok (.iload_n 2, 1) := by decide +kernel
theorem dX6_look_106 : decode cX6_look 106 = .ok (.invokevirtual 135, 3) := by decide +kernel
theorem dX6_look_109 : decode cX6_look 109 = .ok (.ireturn, 1) := by decide +kernel
theorem dX6_look_110 : decode cX6_look 110 = .ok (.aload_n 0, 1) := by decide +kernel
theorem dX6_look_111 : decode cX6_look 111 = .ok (.iconst 1, 1) := by decide +kernel
theorem dX6_look_112 : decode cX6_look 112 = .ok (.putfield 121, 3) := by decide +kernel
theorem dX6_look_115 : decode cX6_look 115 = .ok (.iload_n 2, 1) := by decide +kernel
theorem dX6_look_116 : decode cX6_look 116 = .ok (.ireturn, 1) := by decide +kernel
theorem dX6_look_117 : decode cX6_look 117 = .ok (.aload_n 0, 1) := by decide +kernel
theorem dX6_look_118 : decode cX6_look 118 = .ok (.iload 4, 2) := by decide +kernel
theorem dX6_look_120 : decode cX6_look 120 = .ok (.aload_n 0, 1) := by decide +kernel
theorem dX6_look_121 : decode cX6_look 121 = .ok (.getfield 16, 3) := by decide +kernel
theorem dX6_look_124 : decode cX6_look 124 = .ok (.iload_n 1, 1) := by decide +kernel
theorem dX6_look_125 : decode cX6_look 125 = .ok (.iaload, 1) := by decide +kernel
theorem dX6_look_126 : decode cX6_look 126 = .ok (.iload_n 2, 1) := by decide +kernel
theorem dX6_look_127 : decode cX6_look 127 = .ok (.invokevirtual 138, 3) := by decide +kernel
theorem dX6_look_130 : decode cX6_look 130 = .ok (.ireturn, 1) := by decide +kernel
theorem dX6_look_131 : decode cX6_look 131 = .ok (.aload_n 0, 1) := by decide +kernel
theorem dX6_look_132 : decode cX6_look 132 = .ok (.iload 4, 2) := by decide +kernel
theorem dX6_look_134 : decode cX6_look 134 = .ok (.iload_n 2, 1) := by decide +kernel
theorem dX6_look_135 : decode cX6_look 135 = .ok (.iload_n 3, 1) := by decide +kernel
theorem dX6_look_136 : decode cX6_look 136 = .ok (.invokevirtual 141, 3) := by decide +kernel
theorem dX6_look_139 : decode cX6_look 139 = .ok (.istore 5, 2) := by decide +kernel
theorem dX6_look_141 : decode cX6_look 141 = .ok (.aload_n 0, 1) := by decide +kernel
theorem dX6_look_142 : decode cX6_look 142 = .ok (.iconst 0, 1) := by decide +kernel
theorem dX6_look_143 : decode cX6_look 143 = .ok (.putfield 121, 3) := by decide +kernel
theorem dX6_look_146 : decode cX6_look 146 = .ok (.iload 5, 2) := by decide +kernel
theorem dX6_look_148 : decode cX6_look 148 = .ok (.ireturn, 1) := by decide +kernel
theorem dX6_look_149 : decode cX6_look 149 = .ok (.aload_n 0, 1) := by decide +kernel
theorem dX6_look_150 : decode cX6_look 150 = .ok (.iload 4, 2) := by decide +kernel
theorem dX6_look_152 : decode cX6_look 152 = .ok (.iload_n 2, 1) := by decide +kernel
theorem dX6_look_153 : decode cX6_look 153 = .ok (.iload_n 3, 1) := by decide +kernel
theorem dX6_look_154 : decode cX6_look 154 = .ok (.iconst 1, 1) := by decide +kernel
theorem dX6_look_155 : decode cX6_look 155 = .ok (.iadd, 1) := by decide +kernel
theorem dX6_look_156 : decode cX6_look 156 = .ok (.invokevirtual 144, 3) := by decide +kernel
theorem dX6_look_159 : decode cX6_look 159 = .ok (.istore 5, 2) := by decide +kernel
theorem dX6_look_161 : decode cX6_look 161 = .ok (.aload_n 0, 1) := by decide +kernel
theorem dX6_look_162 : decode cX6_look 162 = .ok (.getfield 121, 3) := by decide +kernel
theorem dX6_look_165 : decode cX6_look 165 = .ok (.istore 6, 2) := by decide +kernel
theorem dX6_look_167 : decode cX6_look 167 = .ok (.iload 5, 2) := by decide +kernel
theorem dX6_look_169 : decode cX6_look 169 = .ok (.iconst (-1), 1) := by decide +kernel
theorem dX6_look_170 : decode cX6_look 170 = .ok (.if_icmp .ne 10, 3) := by decide +kernel
theorem dX6_look_173 : decode cX6_look 173 = .ok (.aload_n 0, 1) := by decide +kernel
theorem dX6_look_174 : decode cX6_look 174 = .ok (.iload 6, 2) := by decide +kernel
theorem dX6_look_176 : decode cX6_look 176 = .ok (.invokevirtual 131, 3) := by decide +kernel
theorem dX6_look_179 : decode cX6_look 179 = .ok (.ireturn, 1) := by decide +kernel
theorem dX6_look_180 : decode cX6_look 180 = .ok (.aload_n 0, 1) := by decide +kernel
theorem dX6_look_181 : decode cX6_look 181 = .ok (.aload_n 0, 1) := by decide +kernel
theorem dX6_look_182 : decode cX6_look 182 = .ok (.getfield 16, 3) := by decide +kernel
theorem dX6_look_185 : decode cX6_look 185 = .ok (.iload_n 1, 1) := by decide +kernel
theorem dX6_look_186 : decode cX6_look 186 = .ok (.iaload, 1) := by decide +kernel
theorem dX6_look_187 : decode cX6_look 187 = .ok (.iload 5, 2) := by decide +kernel
theorem dX6_look_189 : decode cX6_look 189 = .ok (.iload_n 3, 1) := by decide +kernel
theorem dX6_look_190 : decode cX6_look 190 = .ok (.iconst 1, 1) := by decide +kernel
theorem dX6_look_191 : decode cX6_look 191 = .ok (.iadd, 1) := by decide +kernel
theorem dX6_look_192 : decode cX6_look 192 = .ok (.invokevirtual 144, 3) := by decide +kernel
theorem dX6_look_195 : decode cX6_look 195 = .ok (.istore 5, 2) := by decide +kernel
theorem dX6_look_197 : decode cX6_look 197 = .ok (.aload_n 0, 1) := by decide +kernel
theorem dX6_look_198 : decode cX6_look 198 = .ok (.aload_n 0, 1) := by decide +kernel
theorem dX6_look_199 : decode cX6_look 199 = .ok (.getfield 121, 3) := by decide +kernel
theorem dX6_look_202 : decode cX6_look 202 = .ok (.ifCond .ne 8, 3) := by decide +kernel
theorem dX6_look_205 : decode cX6_look 205 = .ok (.iload 6, 2) := by decide +kernel
theorem dX6_look_207 : decode cX6_look 207 = .ok (.ifCond .eq 7, 3) := by decide +kernel
theorem dX6_look_210 : decode cX6_look 210 = .ok (.iconst 1, 1) := by decide +kernel
theorem dX6_look_211 : decode cX6_look 211 = .ok (.goto 4, 3) := by decide +kernel
theorem dX6_look_214 : decode cX6_look 214 = .ok (.iconst 0, 1) := by decide +kernel
theorem dX6_look_215 : decode cX6_look 215 = .ok (.putfield 121, 3) := by decide +kernel
theorem dX6_look_218 : decode cX6_look 218 = .ok (.iload 5, 2) := by decide +kernel
theorem dX6_look_220 : decode cX6_look 220 = .ok (.ireturn, 1) := by decide +kernel
theorem dX6_look_221 : decode cX6_look 221 = .ok (.aload_n 0, 1) := by decide +kernel
theorem dX6_look_222 : decode cX6_look 222 = .ok (.iload 4, 2) := by decide +kernel
theorem dX6_look_224 : decode cX6_look 224 = .ok (.iload_n 2, 1) := by decide +kernel
theorem dX6_look_225 : decode cX6_look 225 = .ok (.iload_n 3, 1) := by decide +kernel
theorem dX6_look_226 : decode cX6_look 226 = .ok (.iconst 1, 1) := by decide +kernel
theorem dX6_look_227 : decode cX6_look 227 = .ok (.iadd, 1) := by decide +kernel
theorem dX6_look_228 : decode cX6_look 228 = .ok (.invokevirtual 144, 3) := by decide +kernel
theorem dX6_look_231 : decode cX6_look 231 = .ok (.istore 5, 2) := by decide +kernel
theorem dX6_look_233 : decode cX6_look 233 = .ok (.iload 5, 2) := by decide +kernel
theorem dX6_look_235 : decode cX6_look 235 = .ok (.iconst (-1), 1) := by decide +kernel
theorem dX6_look_236 : decode cX6_look 236 = .ok (.if_icmp .ne 26, 3) := by decide +kernel
theorem dX6_look_239 : decode cX6_look 239 = .ok (.aload_n 0, 1) := by decide +kernel
theorem dX6_look_240 : decode cX6_look 240 = .ok (.getfield 121, 3) := by decide +kernel
theorem dX6_look_243 : decode cX6_look 243 = .ok (.ifCond .ne 19, 3) := by decide +kernel
theorem dX6_look_246 : decode cX6_look 246 = .ok (.aload_n 0, 1) := by decide +kernel
theorem dX6_look_247 : decode cX6_look 247 = .ok (.aload_n 0, 1) := by decide +kernel
theorem dX6_look_248 : decode cX6_look 248 = .ok (.getfield 16, 3) := by decide +kernel
theorem dX6_look_251 : decode cX6_look 251 = .ok (.iload_n 1, 1) := by decide +kernel
theorem dX6_look_252 : decode cX6_look 252 = .ok (.iaload, 1) := by decide +kernel
theorem dX6_look_253 : decode cX6_look 253 = .ok (.iload_n 2, 1) := by decide +kernel
theorem dX6_look_254 : decode cX6_look 254 = .ok (.iload_n 3, 1) := by decide +kernel
theorem dX6_look_255 : decode cX6_look 255 = .ok (.iconst 1, 1) := by decide +kernel
theorem dX6_look_256 : decode cX6_look 256 = .ok (.iadd, 1) := by decide +kernel
theorem dX6_look_257 : decode cX6_look 257 = .ok (.invokevirtual 144, 3) := by decide +kernel
theorem dX6_look_260 : decode cX6_look 260 = .ok (.istore 5, 2) := by decide +kernel
theorem dX6_look_262 : decode cX6_look 262 = .ok (.aload_n 0, 1) := by decide +kernel
theorem dX6_look_263 : decode cX6_look 263 = .ok (.iconst 0, 1) := by decide +kernel
theorem dX6_look_264 : decode cX6_look 264 = .ok (.putfield 121, 3) := by decide +kernel
theorem dX6_look_267 : decode cX6_look 267 = .ok (.iload 5, 2) := by decide +kernel
theorem dX6_look_269 : decode cX6_look 269 = .ok (.ireturn, 1) := by decide +kernel
theorem dX6_look_270 : decode cX6_look 270 = .ok (.aload_n 0, 1) := by decide +kernel
theorem dX6_look_271 : decode cX6_look 271 = .ok (.iload 4, 2) := by decide +kernel
theorem dX6_look_273 : decode cX6_look 273 = .ok (.iload_n 2, 1) := by decide +kernel
theorem dX6_look_274 : decode cX6_look 274 = .ok (.iload_n 3, 1) := by decide +kernel
theorem dX6_look_275 : decode cX6_look 275 = .ok (.invokevirtual 147, 3) := by decide +kernel
theorem dX6_look_278 : decode cX6_look 278 = .ok (.ireturn, 1) := by decide +kernel
theorem dX6_look_279 : decode cX6_look 279 = .ok (.aload_n 0, 1) := by decide +kernel
theorem dX6_look_280 : decode cX6_look 280 = .ok (.iload 4, 2) := by decide +kernel
theorem dX6_look_282 : decode cX6_look 282 = .ok (.iload_n 2, 1) := by decide +kernel
theorem dX6_look_283 : decode cX6_look 283 = .ok (.iload_n 3, 1) := by decide +kernel
theorem dX6_look_284 : decode cX6_look 284 = .ok (.iconst 1, 1) := by decide +kernel
theorem dX6_look_285 : decode cX6_look 285 = .ok (.iadd, 1) := by decide +kernel
theorem dX6_look_286 : decode cX6_look 286 = .ok (.invokevirtual 144, 3) := by decide +kernel
theorem dX6_look_289 : decode cX6_look 289 = .ok (.istore 5, 2) := by decide +kernel
theorem dX6_look_291 : decode cX6_look 291 = .ok (.iload 5, 2) := by decide +kernel
theorem dX6_look_293 : decode cX6_look 293 = .ok (.iconst (-1), 1) := by decide +kernel
theorem dX6_look_294 : decode cX6_look 294 = .ok (.if_icmp .ne 13, 3) := by decide +kernel
theorem dX6_look_297 : decode cX6_look 297 = .ok (.aload_n 0, 1) := by decide +kernel
theorem dX6_look_298 : decode cX6_look 298 = .ok (.getfield 121, 3) := by decide +kernel
theorem dX6_look_301 : decode cX6_look 301 = .ok (.ifCond .ne 6, 3) := by decide +kernel
theorem dX6_look_304 : decode cX6_look 304 = .ok (.iload_n 2, 1) := by decide +kernel
theorem dX6_look_305 : decode cX6_look 305 = .ok (.istore 5, 2) := by decide +kernel
theorem dX6_look_307 : decode cX6_look 307 = .ok (.aload_n 0, 1) := by decide +kernel
theorem dX6_look_308 : decode cX6_look 308 = .ok (.iconst 0, 1) := by decide +kernel
theorem dX6_look_309 : decode cX6_look 309 = .ok (.putfield 121, 3) := by decide +kernel
theorem dX6_look_312 : decode cX6_look 312 = .ok (.iload 5, 2) := by decide +kernel
theorem dX6_look_314 : decode cX6_look 314 = .ok (.ireturn, 1) := by decide +kernel
theorem dX6_look_315 : decode cX6_look 315 = .ok (.aload_n 0, 1) := by decide +kernel
theorem dX6_look_316 : decode cX6_look 316 = .ok (.iload 4, 2) := by decide +kernel
theorem dX6_look_318 : decode cX6_look 318 = .ok (.iload_n 2, 1) := by decide +kernel
theorem dX6_look_319 : decode cX6_look 319 = .ok (.iload_n 3, 1) := by decide +kernel
theorem dX6_look_320 : decode cX6_look 320 = .ok (.iconst 1, 1) := by decide +kernel
theorem dX6_look_321 : decode cX6_look 321 = .ok (.iadd, 1) := by decide +kernel
theorem dX6_look_322 : decode cX6_look 322 = .ok (.invokevirtual 144, 3) := by decide +kernel
theorem dX6_look_325 : decode cX6_look 325 = .ok (.istore 5, 2) := by decide +kernel
theorem dX6_look_327 : decode cX6_look 327 = .ok (.iload 5, 2) := by decide +kernel
theorem dX6_look_329 : decode cX6_look 329 = .ok (.iconst (-1), 1) := by decide +kernel
theorem dX6_look_330 : decode cX6_look 330 = .ok (.if_icmp .eq 7, 3) := by decide +kernel
theorem dX6_look_333 : decode cX6_look 333 = .ok (.iconst 1, 1) := by decide +kernel
theorem dX6_look_334 : decode cX6_look 334 = .ok (.goto 4, 3) := by decide +kernel
theorem dX6_look_337 : decode cX6_look 337 = .ok (.iconst 0, 1) := by decide +kernel
theorem dX6_look_338 : decode cX6_look 338 = .ok (.aload_n 0, 1) := by decide +kernel
theorem dX6_look_339 : decode cX6_look 339 = .ok (.getfield 9, 3) := by decide +kernel
theorem dX6_look_342 : decode cX6_look 342 = .ok (.iload_n 1, 1) := by decide +kernel
theorem dX6_look_343 : decode cX6_look 343 = .ok (.iaload, 1) := by decide +kernel
theorem dX6_look_344 : decode cX6_look 344 = .ok (.bipush 8, 2) := by decide +kernel
theorem dX6_look_346 : decode cX6_look 346 = .ok (.if_icmp .ne 7, 3) := by decide +kernel
theorem dX6_look_349 : decode cX6_look 349 = .ok (.iconst 1, 1) := by decide +kernel
theorem dX6_look_350 : decode cX6_look 350 = .ok (.goto 4, 3) := by decide +kernel
theorem dX6_look_353 : decode cX6_look 353 = .ok (.iconst 0, 1) := by decide +kernel
theorem dX6_look_354 : decode cX6_look 354 = .ok (.if_icmp .ne 11, 3) := by decide +kernel
theorem dX6_look_357 : decode cX6_look 357 = .ok (.aload_n 0, 1) := by decide +kernel
theorem dX6_look_358 : decode cX6_look 358 = .ok (.iload_n 2, 1) := by decide +kernel
theorem dX6_look_359 : decode cX6_look 359 = .ok (.invokevirtual 135, 3) := by decide +kernel
theorem dX6_look_362 : decode cX6_look 362 = .ok (.goto 8, 3) := by decide +kernel
theorem dX6_look_365 : decode cX6_look 365 = .ok (.aload_n 0, 1) := by decide +kernel
theorem dX6_look_366 : decode cX6_look 366 = .ok (.iconst 0, 1) := by decide +kernel
theorem dX6_look_367 : decode cX6_look 367 = .ok (.invokevirtual 131, 3) := by decide +kernel
theorem dX6_look_370 : decode cX6_look 370 = .ok (.ireturn, 1) := by decide +kernel
set_option maxRecDepth 20000 in
theorem ggX6_lookAt_X6_succeed : GoodIn wsX6_lookAt wsX6_succeed := goodIn_r _ [14, 15, 20, 21, 22, 23, 24, 25, 26, 27, 28, 29, 30, 31, 32, 33, 34, 35, 36, 37, 38, 39, 40, 41, 42, 43, 44, 45, 46, 47, 48] (by decide +kernel) (by decide +kernel)
set_option maxRecDepth 20000 in
theorem gX6_lookAt_X6_succeed : GoodIn wsX6_lookAt (wsV RX6 135 RX6 yX6_succeed wsX6_succeed) := goodIn_app (goodIn_of _ (by decide +kernel)) ggX6_lookAt_X6_succeed
set_option maxRecDepth 20000 in
theorem ggX6_lookAt_X6_miss : GoodIn wsX6_lookAt wsX6_miss := goodIn_r _ [19, 15, 20, 21, 22, 23, 24, 25, 26, 27, 28, 29, 30, 31, 32, 33, 34, 35, 36, 37, 38, 39, 40, 41, 42, 43, 44, 45, 46, 47, 48] (by decide +kernel) (by decide +kernel)
set_option maxRecDepth 20000 in
theorem gX6_lookAt_X6_miss : GoodIn wsX6_lookAt (wsV RX6 131 RX6 yX6_miss wsX6_miss) := goodIn_app (goodIn_of _ (by decide +kernel)) ggX6_lookAt_X6_miss
theorem dX6_lookAt_0 : decode cX6_lookAt 0 = .ok (.iconst 0, 1) := by decide +kernel
theorem dX6_lookAt_1 : decode cX6_lookAt 1 = .ok (.istore 4, 2) := by decide +kernel
theorem dX6_lookAt_3 : decode cX6_lookAt 3 = .ok (.iload 4, 2) := by decide +kernel
theorem dX6_lookAt_5 : decode cX6_lookAt 5 = .ok (.aload_n 0, 1) := by decide +kernel
theorem dX6_lookAt_6 : decode cX6_lookAt 6 = .ok (.getfield 150, 3) := by decide +kernel
theorem dX6_lookAt_9 : decode cX6_lookAt 9 = .ok (.if_icmp .ge 29, 3) := by decide +kernel
theorem dX6_lookAt_12 : decode cX6_lookAt 12 = .ok (.aload_n 0, 1) := by decide +kernel
theorem dX6_lookAt_13 : decode cX6_lookAt 13 = .ok (.getfield 53, 3) := by decide +kernel
theorem dX6_lookAt_16 : decode cX6_lookAt 16 = .ok (.iload 4, 2) := by decide +kernel
theorem dX6_lookAt_18 : decode cX6_lookAt 18 = .ok (.aload_n 0, 1) := by decide +kernel
theorem dX6_lookAt_19 : decode cX6_lookAt 19 = .ok (.getfield 53, 3) := by decide +kernel
theorem dX6_lookAt_22 : decode cX6_lookAt 22 = .ok (.iload 4, 2) := by decide +kernel
theorem dX6_lookAt_24 : decode cX6_lookAt 24 = .ok (.iaload, 1) := by decide +kernel
theorem dX6_lookAt_25 : decode cX6_lookAt 25 = .ok (.iload_n 3, 1) := by decide +kernel
theorem dX6_lookAt_26 : decode cX6_lookAt 26 = .ok (.iconst 1, 1) := by decide +kernel
theorem dX6_lookAt_27 : decode cX6_lookAt 27 = .ok (.iadd, 1) := by decide +kernel
theorem dX6_lookAt_28 : decode cX6_lookAt 28 = .ok (.invokestatic 153, 3) := by decide +kernel
theorem dX6_lookAt_31 : decode cX6_lookAt 31 = .ok (.iastore, 1) := by decide +kernel
theorem dX6_lookAt_32 : decode cX6_lookAt 32 = .ok (.iinc 4 1, 3) := by decide +kernel
theorem dX6_lookAt_35 : decode cX6_lookAt 35 = .ok (.goto (-32), 3) := by decide +kernel
theorem dX6_lookAt_38 : decode cX6_lookAt 38 = .ok (.iload_n 3, 1) := by decide +kernel
theorem dX6_lookAt_39 : decode cX6_lookAt 39 = .ok (.aload_n 0, 1) := by decide +kernel
theorem dX6_lookAt_40 : decode cX6_lookAt 40 = .ok (.getfield 111, 3) := by decide +kernel
theorem dX6_lookAt_43 : decode cX6_lookAt 43 = .ok (.if_icmp .ge 31, 3) := by decide +kernel
theorem dX6_lookAt_46 : decode cX6_lookAt 46 = .ok (.aload_n 0, 1) := by decide +kernel
theorem dX6_lookAt_47 : decode cX6_lookAt 47 = .ok (.getfield 22, 3) := by decide +kernel
theorem dX6_lookAt_50 : decode cX6_lookAt 50 = .ok (.iload_n 3, 1) := by decide +kernel
theorem dX6_lookAt_51 : decode cX6_lookAt 51 = .ok (.iaload, 1) := by decide +kernel
theorem dX6_lookAt_52 : decode cX6_lookAt 52 = .ok (.iload_n 1, 1) := by decide +kernel
theorem dX6_lookAt_53 : decode cX6_lookAt 53 = .ok (.if_icmp .lt 21, 3) := by decide +kernel
theorem dX6_lookAt_56 : decode cX6_lookAt 56 = .ok (.aload_n 0, 1) := by decide +kernel
theorem dX6_lookAt_57 : decode cX6_lookAt 57 = .ok (.getfield 22, 3) := by decide +kernel
theorem dX6_lookAt_60 : decode cX6_lookAt 60 = .ok (.iload_n 3, 1) := by decide +kernel
theorem dX6_lookAt_61 : decode cX6_lookAt 61 = .ok (.iaload, 1) := by decide +kernel
theorem dX6_lookAt_62 : decode cX6_lookAt 62 = .ok (.iload_n 2, 1) := by decide +kernel
theorem dX6_lookAt_63 : decode cX6_lookAt 63 = .ok (.if_icmp .gt 11, 3) := by decide +kernel
theorem dX6_lookAt_66 : decode cX6_lookAt 66 = .ok (.aload_n 0, 1) := by decide +kernel
theorem dX6_lookAt_67 : decode cX6_lookAt 67 = .ok (.iload_n 3, 1) := by decide +kernel
theorem dX6_lookAt_68 : decode cX6_lookAt 68 = .ok (.iconst 1, 1) := by decide +kernel
theorem dX6_lookAt_69 : decode cX6_lookAt 69 = .ok (.iadd, 1) := by decide +kernel
theorem dX6_lookAt_70 : decode cX6_lookAt 70 = .ok (.invokevirtual 135, 3) := by decide +kernel
theorem dX6_lookAt_73 : decode cX6_lookAt 73 = .ok (.ireturn, 1) := by decide +kernel
theorem dX6_lookAt_74 : decode cX6_lookAt 74 = .ok (.aload_n 0, 1) := by decide +kernel
theorem dX6_lookAt_75 : decode cX6_lookAt 75 = .ok (.aload_n 0, 1) := by decide +kernel
theorem dX6_lookAt_76 : decode cX6_lookAt 76 = .ok (.getfield 59, 3) := by decide +kernel
theorem dX6_lookAt_79 : decode cX6_lookAt 79 = .ok (.iload_n 3, 1) := by decide +kernel
theorem dX6_lookAt_80 : decode cX6_lookAt 80 = .ok (.invokestatic 153, 3) := by decide +kernel
theorem dX6_lookAt_83 : decode cX6_lookAt 83 = .ok (.putfield 59, 3) := by decide +kernel
theorem dX6_lookAt_86 : decode cX6_lookAt 86 = .ok (.aload_n 0, 1) := by decide +kernel
theorem dX6_lookAt_87 : decode cX6_lookAt 87 = .ok (.iconst 0, 1) := by decide +kernel
theorem dX6_lookAt_88 : decode cX6_lookAt 88 = .ok (.invokevirtual 131, 3) := by decide +kernel
theorem dX6_lookAt_91 : decode cX6_lookAt 91 = .ok (.ireturn, 1) := by decide +kernel
set_option maxRecDepth 20000 in
theorem ggX6_lookAgain_X6_look : GoodIn wsX6_lookAgain wsX6_look := goodIn_r _ [15, 1, 16, 17, 18, 2, 19, 7, 8, 9, 6, 10, 11, 12, 13, 14, 20, 21, 22, 23, 24, 25, 26, 27, 28, 29, 30, 31, 32, 33, 34, 35, 3, 4, 5, 36, 37, 38, 0, 39, 40, 41, 42, 43, 44, 45, 46, 47, 48, 49, 50, 51, 52, 53, 54, 55, 56, 57, 58, 59, 60, 61, 62, 63, 64, 65, 66, 67, 68, 69, 70, 71, 72, 73, 74, 75, 76, 77, 78, 79, 80, 81, 82, 83, 84, 85, 86, 87, 88, 89, 90, 91, 92, 93, 94, 95, 96, 97] (by decide +kernel) (by decide +kernel)
set_option maxRecDepth 20000 in
theorem gX6_lookAgain_X6_look : GoodIn wsX6_lookAgain (wsV RX6 144 RX6 yX6_look wsX6_look) := goodIn_app (goodIn_of _ (by decide +kernel)) ggX6_lookAgain_X6_look
set_option maxRecDepth 20000 in
theorem ggX6_lookAgain_X6_miss : GoodIn wsX6_lookAgain wsX6_miss := goodIn_r _ [10, 2, 69, 70, 71, 72, 73, 74, 75, 76, 77, 78, 79, 80, 81, 82, 83, 84, 85, 86, 87, 88, 89, 90, 91, 92, 93, 94, 95, 96, 97] (by decide +kernel) (by decide +kernel)
set_option maxRecDepth 20000 in
theorem gX6_lookAgain_X6_miss : GoodIn wsX6_lookAgain (wsV RX6 131 RX6 yX6_miss wsX6_miss) := goodIn_app (goodIn_of _ (by decide +kernel)) ggX6_lookAgain_X6_miss
set_option maxRecDepth 20000 in
theorem ggX6_lookAgain_X6_succeed : GoodIn wsX6_lookAgain wsX6_succeed := goodIn_r _ [14, 2, 69, 70, 71, 72, 73, 74, 75, 76, 77, 78, 79, 80, 81, 82, 83, 84, 85, 86, 87, 88, 89, 90, 91, 92, 93, 94, 95, 96, 97] (by decide +kernel) (by decide +kernel)
set_option maxRecDepth 20000 in
theorem gX6_lookAgain_X6_succeed : GoodIn wsX6_lookAgain (wsV RX6 135 RX6 yX6_succeed wsX6_succeed) := goodIn_app (goodIn_of _ (by decide +kernel)) ggX6_lookAgain_X6_succeed
theorem dX6_lookAgain_0 : decode cX6_lookAgain 0 = .ok (.iload_n 2, 1) := by decide +kernel
theorem dX6_lookAgain_1 : decode cX6_lookAgain 1 = .ok (.istore 4, 2) := by decide +kernel
theorem dX6_lookAgain_3 : decode cX6_lookAgain 3 = .ok (.aload_n 0, 1) := by decide +kernel
theorem dX6_lookAgain_4 : decode cX6_lookAgain 4 = .ok (.getfield 125, 3) := by decide +kernel
theorem dX6_lookAgain_7 : decode cX6_lookAgain 7 = .ok (.ifCond .ne 61, 3) := by decide +kernel
theorem dX6_lookAgain_10 : decode cX6_lookAgain 10 = .ok (.aload_n 0, 1) := by decide +kernel
theorem dX6_lookAgain_11 : decode cX6_lookAgain 11 = .ok (.iload_n 1, 1) := by decide +kernel
theorem dX6_lookAgain_12 : decode cX6_lookAgain 12 = .ok (.iload 4, 2) := by decide +kernel
theorem dX6_lookAgain_14 : decode cX6_lookAgain 14 = .ok (.iload_n 3, 1) := by decide +kernel
theorem dX6_lookAgain_15 : decode cX6_lookAgain 15 = .ok (.iconst 1, 1) := by decide +kernel
theorem dX6_lookAgain_16 : decode cX6_lookAgain 16 = .ok (.iadd, 1) := by decide +kernel
theorem dX6_lookAgain_17 : decode cX6_lookAgain 17 = .ok (.invokevirtual 144, 3) := by decide +kernel
theorem dX6_lookAgain_20 : decode cX6_lookAgain 20 = .ok (.istore 5, 2) := by decide +kernel
theorem dX6_lookAgain_22 : decode cX6_lookAgain 22 = .ok (.iload 5, 2) := by decide +kernel
theorem dX6_lookAgain_24 : decode cX6_lookAgain 24 = .ok (.iconst (-1), 1) := by decide +kernel
theorem dX6_lookAgain_25 : decode cX6_lookAgain 25 = .ok (.if_icmp .ne 16, 3) := by decide +kernel
theorem dX6_lookAgain_28 : decode cX6_lookAgain 28 = .ok (.aload_n 0, 1) := by decide +kernel
theorem dX6_lookAgain_29 : decode cX6_lookAgain 29 = .ok (.getfield 121, 3) := by decide +kernel
theorem dX6_lookAgain_32 : decode cX6_lookAgain 32 = .ok (.ifCond .eq 9, 3) := by decide +kernel
theorem dX6_lookAgain_35 : decode cX6_lookAgain 35 = .ok (.aload_n 0, 1) := by decide +kernel
theorem dX6_lookAgain_36 : decode cX6_lookAgain 36 = .ok (.iconst 0, 1) := by decide +kernel
theorem dX6_lookAgain_37 : decode cX6_lookAgain 37 = .ok (.invokevirtual 131, 3) := by decide +kernel
theorem dX6_lookAgain_40 : decode cX6_lookAgain 40 = .ok (.ireturn, 1) := by decide +kernel
theorem dX6_lookAgain_41 : decode cX6_lookAgain 41 = .ok (.iload 5, 2) := by decide +kernel
theorem dX6_lookAgain_43 : decode cX6_lookAgain 43 = .ok (.iconst (-1), 1) := by decide +kernel
theorem dX6_lookAgain_44 : decode cX6_lookAgain 44 = .ok (.if_icmp .eq 10, 3) := by decide +kernel
theorem dX6_lookAgain_47 : decode cX6_lookAgain 47 = .ok (.iload 5, 2) := by decide +kernel
theorem dX6_lookAgain_49 : decode cX6_lookAgain 49 = .ok (.iload 4, 2) := by decide +kernel
theorem dX6_lookAgain_51 : decode cX6_lookAgain 51 = .ok (.if_icmp .ne 10, 3) := by decide +kernel
theorem dX6_lookAgain_54 : decode cX6_lookAgain 54 = .ok (.aload_n 0, 1) := by decide +kernel
theorem dX6_lookAgain_55 : decode cX6_lookAgain 55 = .ok (.iload 4, 2) := by decide +kernel
theorem dX6_lookAgain_57 : decode cX6_lookAgain 57 = .ok (.invokevirtual 135, 3) := by decide +kernel
theorem dX6_lookAgain_60 : decode cX6_lookAgain 60 = .ok (.ireturn, 1) := by decide +kernel
theorem dX6_lookAgain_61 : decode cX6_lookAgain 61 = .ok (.iload 5, 2) := by decide +kernel
theorem dX6_lookAgain_63 : decode cX6_lookAgain 63 = .ok (.istore 4, 2) := by decide +kernel
theorem dX6_lookAgain_65 : decode cX6_lookAgain 65 = .ok (.goto (-62), 3) := by decide +kernel
theorem dX6_lookAgain_68 : decode cX6_lookAgain 68 = .ok (.aload_n 0, 1) := by decide +kernel
theorem dX6_lookAgain_69 : decode cX6_lookAgain 69 = .ok (.iconst 0, 1) := by decide +kernel
theorem dX6_lookAgain_70 : decode cX6_lookAgain 70 = .ok (.invokevirtual 131, 3) := by decide +kernel
theorem dX6_lookAgain_73 : decode cX6_lookAgain 73 = .ok (.ireturn, 1) := by decide +kernel
theorem dX6_isInProgress_0 : decode cX6_isInProgress 0 = .ok (.iconst 0, 1) := by decide +kernel
theorem dX6_isInProgress_1 : decode cX6_isInProgress 1 = .ok (.istore_n 3, 1) := by decide +kernel
theorem dX6_isInProgress_2 : decode cX6_isInProgress 2 = .ok (.iconst 0, 1) := by decide +kernel
theorem dX6_isInProgress_3 : decode cX6_isInProgress 3 = .ok (.istore 4, 2) := by decide +kernel
theorem dX6_isInProgress_5 : decode cX6_isInProgress 5 = .ok (.iload 4, 2) := by decide +kernel
theorem dX6_isInProgress_7 : decode cX6_isInProgress 7 = .ok (.aload_n 0, 1) := by decide +kernel
theorem dX6_isInProgress_8 : decode cX6_isInProgress 8 = .ok (.getfield 150, 3) := by decide +kernel
theorem dX6_isInProgress_11 : decode cX6_isInProgress 11 = .ok (.if_icmp .ge 41, 3) := by decide +kernel
theorem dX6_isInProgress_14 : decode cX6_isInProgress 14 = .ok (.iload_n 3, 1) := by decide +kernel
theorem dX6_isInProgress_15 : decode cX6_isInProgress 15 = .ok (.ifCond .ne 25, 3) := by decide +kernel
theorem dX6_isInProgress_18 : decode cX6_isInProgress 18 = .ok (.aload_n 0, 1) := by decide +kernel
theorem dX6_isInProgress_19 : decode cX6_isInProgress 19 = .ok (.getfield 38, 3) := by decide +kernel
theorem dX6_isInProgress_22 : decode cX6_isInProgress 22 = .ok (.iload 4, 2) := by decide +kernel
theorem dX6_isInProgress_24 : decode cX6_isInProgress 24 = .ok (.iaload, 1) := by decide +kernel
theorem dX6_isInProgress_25 : decode cX6_isInProgress 25 = .ok (.iload_n 1, 1) := by decide +kernel
theorem dX6_isInProgress_26 : decode cX6_isInProgress 26 = .ok (.if_icmp .ne 18, 3) := by decide +kernel
theorem dX6_isInProgress_29 : decode cX6_isInProgress 29 = .ok (.aload_n 0, 1) := by decide +kernel
theorem dX6_isInProgress_30 : decode cX6_isInProgress 30 = .ok (.getfield 41, 3) := by decide +kernel
theorem dX6_isInProgress_33 : decode cX6_isInProgress 33 = .ok (.iload 4, 2) := by decide +kernel
theorem dX6_isInProgress_35 : decode cX6_isInProgress 35 = .ok (.iaload, 1) := by decide +kernel
theorem dX6_isInProgress_36 : decode cX6_isInProgress 36 = .ok (.iload_n 2, 1) := by decide +kernel
theorem dX6_isInProgress_37 : decode cX6_isInProgress 37 = .ok (.if_icmp .ne 7, 3) := by decide +kernel
theorem dX6_isInProgress_40 : decode cX6_isInProgress 40 = .ok (.iconst 1, 1) := by decide +kernel
theorem dX6_isInProgress_41 : decode cX6_isInProgress 41 = .ok (.goto 4, 3) := by decide +kernel
theorem dX6_isInProgress_44 : decode cX6_isInProgress 44 = .ok (.iconst 0, 1) := by decide +kernel
theorem dX6_isInProgress_45 : decode cX6_isInProgress 45 = .ok (.istore_n 3, 1) := by decide +kernel
theorem dX6_isInProgress_46 : decode cX6_isInProgress 46 = .ok (.iinc 4 1, 3) := by decide +kernel
theorem dX6_isInProgress_49 : decode cX6_isInProgress 49 = .ok (.goto (-44), 3) := by decide +kernel
theorem dX6_isInProgress_52 : decode cX6_isInProgress 52 = .ok (.iload_n 3, 1) := by decide +kernel
theorem dX6_isInProgress_53 : decode cX6_isInProgress 53 = .ok (.ireturn, 1) := by decide +kernel
