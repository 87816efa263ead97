theorem dX3_lookForRange_29 : decode cX3_lookForRange 29 = .ok (.if_icmp .gt 7, 3) := by decide +kernel
theorem dX3_lookForRange_32 : decode cX3_lookForRange 32 = .ok (.iload_n 3, 1) := by decide +kernel
theorem dX3_lookForRange_33 : decode cX3_lookForRange 33 = .ok (.iconst 1, 1) := by decide +kernel
theorem dX3_lookForRange_34 : decode cX3_lookForRange 34 = .ok (.iadd, 1) := by decide +kernel
theorem dX3_lookForRange_35 : decode cX3_lookForRange 35 = .ok (.ireturn, 1) := by decide +kernel
theorem dX3_lookForRange_36 : decode cX3_lookForRange 36 = .ok (.aload_n 0, 1) := by decide +kernel
theorem dX3_lookForRange_37 : decode cX3_lookForRange 37 = .ok (.aload_n 0, 1) := by decide +kernel
theorem dX3_lookForRange_38 : decode cX3_lookForRange 38 = .ok (.getfield 28, 3) := by decide +kernel
theorem dX3_lookForRange_41 : decode cX3_lookForRange 41 = .ok (.iload_n 3, 1) := by decide +kernel
theorem dX3_lookForRange_42 : decode cX3_lookForRange 42 = .ok (.invokestatic 100, 3) := by decide +kernel
theorem dX3_lookForRange_45 : decode cX3_lookForRange 45 = .ok (.putfield 28, 3) := by decide +kernel
theorem dX3_lookForRange_48 : decode cX3_lookForRange 48 = .ok (.iconst (-1), 1) := by decide +kernel
theorem dX3_lookForRange_49 : decode cX3_lookForRange 49 = .ok (.ireturn, 1) := by decide +kernel
set_option maxRecDepth 20000 in
theorem ggX3_lookForSequence_X3_look : GoodIn wsX3_lookForSequence wsX3_look := goodIn_r _ [6, 7, 1, 8, 9, 10, 11, 5, 12, 13, 14, 15, 16, 17, 18, 19, 20, 21, 22, 23, 24, 25, 26, 27, 28, 29, 30, 31, 32, 33, 34, 35, 36, 37, 38, 39, 40, 41, 42, 43, 44, 45, 46, 47, 48, 49, 50, 51, 52, 53, 54, 55, 56, 57, 58, 59, 60, 2, 3, 4, 61, 62, 63, 64, 65, 66, 67, 68, 69, 70, 71, 72, 73, 74, 75, 76, 77, 78, 79, 80, 81, 82, 83, 84, 85, 86, 87, 88, 89, 90, 91, 92, 93, 94, 95, 96, 97, 98, 99, 100, 101, 102, 103, 104, 105, 106, 107, 108, 109, 110, 111, 112, 113, 114, 115, 116, 117, 118, 119, 120, 121, 122, 123, 124, 125, 126, 127, 128, 129, 130, 131, 132, 133, 134, 135, 136, 137, 138, 139, 140, 141, 142, 143, 0, 144, 145, 146, 147, 148, 149, 150, 151, 152, 153, 154, 155, 156, 157, 158, 159, 160, 161, 162, 163, 164, 165, 166, 167, 168, 169, 170, 171, 172, 173, 174, 175, 176] (by decide +kernel) (by decide +kernel)
set_option maxRecDepth 20000 in
theorem gX3_lookForSequence_X3_look : GoodIn wsX3_lookForSequence (wsV RX3 106 RX3 yX3_look wsX3_look) := goodIn_app (goodIn_of _ (by decide +kernel)) ggX3_lookForSequence_X3_look
theorem dX3_lookForSequence_0 : decode cX3_lookForSequence 0 = .ok (.aload_n 0, 1) := by decide +kernel
theorem dX3_lookForSequence_1 : decode cX3_lookForSequence 1 = .ok (.iload_n 1, 1) := by decide +kernel
theorem dX3_lookForSequence_2 : decode cX3_lookForSequence 2 = .ok (.iload_n 3, 1) := by decide +kernel
theorem dX3_lookForSequence_3 : decode cX3_lookForSequence 3 = .ok (.iload 4, 2) := by decide +kernel
theorem dX3_lookForSequence_5 : decode cX3_lookForSequence 5 = .ok (.iconst 1, 1) := by decide +kernel
theorem dX3_lookForSequence_6 : decode cX3_lookForSequence 6 = .ok (.iadd, 1) := by decide +kernel
theorem dX3_lookForSequence_7 : decode cX3_lookForSequence 7 = .ok (.invokevirtual 106, 3) := by decide +kernel
theorem dX3_lookForSequence_10 : decode cX3_lookForSequence 10 = .ok (.istore 5, 2) := by decide +kernel
theorem dX3_lookForSequence_12 : decode cX3_lookForSequence 12 = .ok (.iload 5, 2) := by decide +kernel
theorem dX3_lookForSequence_14 : decode cX3_lookForSequence 14 = .ok (.ifCond .ge 6, 3) := by decide +kernel
theorem dX3_lookForSequence_17 : decode cX3_lookForSequence 17 = .ok (.iload 5, 2) := by decide +kernel
theorem dX3_lookForSequence_19 : decode cX3_lookForSequence 19 = .ok (.ireturn, 1) := by decide +kernel
theorem dX3_lookForSequence_20 : decode cX3_lookForSequence 20 = .ok (.aload_n 0, 1) := by decide +kernel
theorem dX3_lookForSequence_21 : decode cX3_lookForSequence 21 = .ok (.getfield 31, 3) := by decide +kernel
theorem dX3_lookForSequence_24 : decode cX3_lookForSequence 24 = .ok (.istore 6, 2) := by decide +kernel
theorem dX3_lookForSequence_26 : decode cX3_lookForSequence 26 = .ok (.aload_n 0, 1) := by decide +kernel
theorem dX3_lookForSequence_27 : decode cX3_lookForSequence 27 = .ok (.iload_n 2, 1) := by decide +kernel
theorem dX3_lookForSequence_28 : decode cX3_lookForSequence 28 = .ok (.iload 5, 2) := by decide +kernel
theorem dX3_lookForSequence_30 : decode cX3_lookForSequence 30 = .ok (.iload 4, 2) := by decide +kernel
theorem dX3_lookForSequence_32 : decode cX3_lookForSequence 32 = .ok (.iconst 1, 1) := by decide +kernel
theorem dX3_lookForSequence_33 : decode cX3_lookForSequence 33 = .ok (.iadd, 1) := by decide +kernel
theorem dX3_lookForSequence_34 : decode cX3_lookForSequence 34 = .ok (.invokevirtual 106, 3) := by decide +kernel
theorem dX3_lookForSequence_37 : decode cX3_lookForSequence 37 = .ok (.istore 7, 2) := by decide +kernel
theorem dX3_lookForSequence_39 : decode cX3_lookForSequence 39 = .ok (.aload_n 0, 1) := by decide +kernel
theorem dX3_lookForSequence_40 : decode cX3_lookForSequence 40 = .ok (.aload_n 0, 1) := by decide +kernel
theorem dX3_lookForSequence_41 : decode cX3_lookForSequence 41 = .ok (.getfield 31, 3) := by decide +kernel
theorem dX3_lookForSequence_44 : decode cX3_lookForSequence 44 = .ok (.ifCond .ne 8, 3) := by decide +kernel
theorem dX3_lookForSequence_47 : decode cX3_lookForSequence 47 = .ok (.iload 6, 2) := by decide +kernel
theorem dX3_lookForSequence_49 : decode cX3_lookForSequence 49 = .ok (.ifCond .eq 7, 3) := by decide +kernel
theorem dX3_lookForSequence_52 : decode cX3_lookForSequence 52 = .ok (.iconst 1, 1) := by decide +kernel
theorem dX3_lookForSequence_53 : decode cX3_lookForSequence 53 = .ok (.goto 4, 3) := by decide +kernel
theorem dX3_lookForSequence_56 : decode cX3_lookForSequence 56 = .ok (.iconst 0, 1) := by decide +kernel
theorem dX3_lookForSequence_57 : decode cX3_lookForSequence 57 = .ok (.putfield 31, 3) := by decide +kernel
theorem dX3_lookForSequence_60 : decode cX3_lookForSequence 60 = .ok (.iload 7, 2) := by decide +kernel
theorem dX3_lookForSequence_62 : decode cX3_lookForSequence 62 = .ok (.ireturn, 1) := by decide +kernel
set_option maxRecDepth 20000 in
theorem ggX3_lookForChoice_X3_look : GoodIn wsX3_lookForChoice wsX3_look := goodIn_r _ [6, 7, 1, 8, 9, 10, 11, 5, 12, 13, 14, 15, 16, 17, 18, 19, 20, 21, 22, 23, 24, 25, 26, 27, 28, 29, 30, 31, 32, 33, 34, 35, 36, 37, 38, 39, 40, 41, 42, 43, 44, 45, 46, 47, 48, 49, 50, 51, 52, 53, 54, 55, 56, 57, 58, 59, 60, 2, 3, 4, 0, 61, 62, 63, 64, 65, 66, 67, 68, 69, 70, 71, 72, 73, 74, 75, 76, 77, 78, 79, 80, 81, 82, 83, 84, 85, 86, 87, 88, 89, 90, 91, 92, 93, 94, 95, 96, 97, 98, 99, 100, 101, 102, 103, 104, 105, 106, 107, 108, 109, 110, 111, 112, 113, 114, 115, 116, 117, 118, 119, 120, 121, 122, 123, 124, 125, 126, 127, 128, 129, 130, 131, 132, 133, 134, 135, 136, 137, 138, 139, 140, 141, 142, 143, 144, 145, 146, 147, 148, 149, 150, 151, 152, 153, 154, 155, 156, 157, 158, 159, 160, 161, 162, 163, 164, 165, 166, 167, 168, 169, 170, 171, 172, 173, 174, 175, 176] (by decide +kernel) (by decide +kernel)
set_option maxRecDepth 20000 in
theorem gX3_lookForChoice_X3_look : GoodIn wsX3_lookForChoice (wsV RX3 106 RX3 yX3_look wsX3_look) := goodIn_app (goodIn_of _ (by decide +kernel)) ggX3_lookForChoice_X3_look
theorem dX3_lookForChoice_0 : decode cX3_lookForChoice 0 = .ok (.aload_n 0, 1) := by decide +kernel
theorem dX3_lookForChoice_1 : decode cX3_lookForChoice 1 = .ok (.iload_n 1, 1) := by decide +kernel
theorem dX3_lookForChoice_2 : decode cX3_lookForChoice 2 = .ok (.iload_n 3, 1) := by decide +kernel
theorem dX3_lookForChoice_3 : decode cX3_lookForChoice 3 = .ok (.iload 4, 2) := by decide +kernel
theorem dX3_lookForChoice_5 : decode cX3_lookForChoice 5 = .ok (.iconst 1, 1) := by decide +kernel
theorem dX3_lookForChoice_6 : decode cX3_lookForChoice 6 = .ok (.iadd, 1) := by decide +kernel
theorem dX3_lookForChoice_7 : decode cX3_lookForChoice 7 = .ok (.invokevirtual 106, 3) := by decide +kernel
theorem dX3_lookForChoice_10 : decode cX3_lookForChoice 10 = .ok (.istore 5, 2) := by decide +kernel
theorem dX3_lookForChoice_12 : decode cX3_lookForChoice 12 = .ok (.iload 5, 2) := by decide +kernel
theorem dX3_lookForChoice_14 : decode cX3_lookForChoice 14 = .ok (.iconst (-1), 1) := by decide +kernel
theorem dX3_lookForChoice_15 : decode cX3_lookForChoice 15 = .ok (.if_icmp .ne 22, 3) := by decide +kernel
theorem dX3_lookForChoice_18 : decode cX3_lookForChoice 18 = .ok (.aload_n 0, 1) := by decide +kernel
theorem dX3_lookForChoice_19 : decode cX3_lookForChoice 19 = .ok (.getfield 31, 3) := by decide +kernel
theorem dX3_lookForChoice_22 : decode cX3_lookForChoice 22 = .ok (.ifCond .ne 15, 3) := by decide +kernel
theorem dX3_lookForChoice_25 : decode cX3_lookForChoice 25 = .ok (.aload_n 0, 1) := by decide +kernel
theorem dX3_lookForChoice_26 : decode cX3_lookForChoice 26 = .ok (.iload_n 2, 1) := by decide +kernel
theorem dX3_lookForChoice_27 : decode cX3_lookForChoice 27 = .ok (.iload_n 3, 1) := by decide +kernel
theorem dX3_lookForChoice_28 : decode cX3_lookForChoice 28 = .ok (.iload 4, 2) := by decide +kernel
theorem dX3_lookForChoice_30 : decode cX3_lookForChoice 30 = .ok (.iconst 1, 1) := by decide +kernel
theorem dX3_lookForChoice_31 : decode cX3_lookForChoice 31 = .ok (.iadd, 1) := by decide +kernel
theorem dX3_lookForChoice_32 : decode cX3_lookForChoice 32 = .ok (.invokevirtual 106, 3) := by decide +kernel
theorem dX3_lookForChoice_35 : decode cX3_lookForChoice 35 = .ok (.istore 5, 2) := by decide +kernel
theorem dX3_lookForChoice_37 : decode cX3_lookForChoice 37 = .ok (.aload_n 0, 1) := by decide +kernel
theorem dX3_lookForChoice_38 : decode cX3_lookForChoice 38 = .ok (.iconst 0, 1) := by decide +kernel
theorem dX3_lookForChoice_39 : decode cX3_lookForChoice 39 = .ok (.putfield 31, 3) := by decide +kernel
theorem dX3_lookForChoice_42 : decode cX3_lookForChoice 42 = .ok (.iload 5, 2) := by decide +kernel
theorem dX3_lookForChoice_44 : decode cX3_lookForChoice 44 = .ok (.ireturn, 1) := by decide +kernel
set_option maxRecDepth 20000 in
theorem ggX3_lookForStar_X3_look : GoodIn wsX3_lookForStar wsX3_look := goodIn_r _ [6, 7, 1, 8, 9, 10, 11, 5, 12, 13, 14, 15, 16, 17, 18, 19, 20, 21, 22, 23, 24, 25, 26, 27, 28, 29, 30, 31, 32, 33, 34, 35, 36, 37, 38, 39, 40, 41, 42, 43, 44, 45, 46, 47, 48, 49, 50, 51, 52, 53, 54, 55, 56, 57, 58, 59, 60, 2, 3, 4, 61, 62, 63, 64, 65, 66, 67, 68, 69, 70, 71, 72, 73, 74, 75, 76, 77, 78, 79, 80, 81, 82, 83, 84, 85, 86, 87, 88, 89, 90, 91, 92, 93, 94, 95, 96, 97, 98, 99, 100, 101, 102, 103, 104, 105, 106, 107, 108, 109, 110, 111, 112, 113, 114, 115, 116, 117, 118, 119, 120, 121, 122, 123, 124, 125, 126, 127, 128, 129, 130, 131, 132, 133, 134, 135, 136, 137, 138, 139, 140, 141, 142, 143, 144, 0, 145, 146, 147, 148, 149, 150, 151, 152, 153, 154, 155, 156, 157, 158, 159, 160, 161, 162, 163, 164, 165, 166, 167, 168, 169, 170, 171, 172, 173, 174, 175, 176] (by decide +kernel) (by decide +kernel)
set_option maxRecDepth 20000 in
theorem gX3_lookForStar_X3_look : GoodIn wsX3_lookForStar (wsV RX3 106 RX3 yX3_look wsX3_look) := goodIn_app (goodIn_of _ (by decide +kernel)) ggX3_lookForStar_X3_look
theorem dX3_lookForStar_0 : decode cX3_lookForStar 0 = .ok (.iload_n 2, 1) := by decide +kernel
theorem dX3_lookForStar_1 : decode cX3_lookForStar 1 = .ok (.istore 4, 2) := by decide +kernel
theorem dX3_lookForStar_3 : decode cX3_lookForStar 3 = .ok (.iload_n 2, 1) := by decide +kernel
theorem dX3_lookForStar_4 : decode cX3_lookForStar 4 = .ok (.istore 5, 2) := by decide +kernel
theorem dX3_lookForStar_6 : decode cX3_lookForStar 6 = .ok (.iconst 0, 1) := by decide +kernel
theorem dX3_lookForStar_7 : decode cX3_lookForStar 7 = .ok (.istore 6, 2) := by decide +kernel
theorem dX3_lookForStar_9 : decode cX3_lookForStar 9 = .ok (.iload 6, 2) := by decide +kernel
theorem dX3_lookForStar_11 : decode cX3_lookForStar 11 = .ok (.bipush 40, 2) := by decide +kernel
theorem dX3_lookForStar_13 : decode cX3_lookForStar 13 = .ok (.if_icmp .gt 35, 3) := by decide +kernel
theorem dX3_lookForStar_16 : decode cX3_lookForStar 16 = .ok (.aload_n 0, 1) := by decide +kernel
theorem dX3_lookForStar_17 : decode cX3_lookForStar 17 = .ok (.iload_n 1, 1) := by decide +kernel
theorem dX3_lookForStar_18 : decode cX3_lookForStar 18 = .ok (.iload 4, 2) := by decide +kernel
theorem dX3_lookForStar_20 : decode cX3_lookForStar 20 = .ok (.iload_n 3, 1) := by decide +kernel
theorem dX3_lookForStar_21 : decode cX3_lookForStar 21 = .ok (.iconst 1, 1) := by decide +kernel
theorem dX3_lookForStar_22 : decode cX3_lookForStar 22 = .ok (.iadd, 1) := by decide +kernel
theorem dX3_lookForStar_23 : decode cX3_lookForStar 23 = .ok (.invokevirtual 106, 3) := by decide +kernel
theorem dX3_lookForStar_26 : decode cX3_lookForStar 26 = .ok (.istore 5, 2) := by decide +kernel
theorem dX3_lookForStar_28 : decode cX3_lookForStar 28 = .ok (.iload 5, 2) := by decide +kernel
theorem dX3_lookForStar_30 : decode cX3_lookForStar 30 = .ok (.iload 4, 2) := by decide +kernel
theorem dX3_lookForStar_32 : decode cX3_lookForStar 32 = .ok (.if_icmp .gt 6, 3) := by decide +kernel
theorem dX3_lookForStar_35 : decode cX3_lookForStar 35 = .ok (.goto 13, 3) := by decide +kernel
theorem dX3_lookForStar_38 : decode cX3_lookForStar 38 = .ok (.iload 5, 2) := by decide +kernel
theorem dX3_lookForStar_40 : decode cX3_lookForStar 40 = .ok (.istore 4, 2) := by decide +kernel
theorem dX3_lookForStar_42 : decode cX3_lookForStar 42 = .ok (.iinc 6 1, 3) := by decide +kernel
theorem dX3_lookForStar_45 : decode cX3_lookForStar 45 = .ok (.goto (-36), 3) := by decide +kernel
theorem dX3_lookForStar_48 : decode cX3_lookForStar 48 = .ok (.iload 5, 2) := by decide +kernel
theorem dX3_lookForStar_50 : decode cX3_lookForStar 50 = .ok (.iconst (-1), 1) := by decide +kernel
theorem dX3_lookForStar_51 : decode cX3_lookForStar 51 = .ok (.if_icmp .ne 14, 3) := by decide +kernel
theorem dX3_lookForStar_54 : decode cX3_lookForStar 54 = .ok (.aload_n 0, 1) := by decide +kernel
theorem dX3_lookForStar_55 : decode cX3_lookForStar 55 = .ok (.getfield 31, 3) := by decide +kernel
theorem dX3_lookForStar_58 : decode cX3_lookForStar 58 = .ok (.ifCond .ne 7, 3) := by decide +kernel
theorem dX3_lookForStar_61 : decode cX3_lookForStar 61 = .ok (.iload 4, 2) := by decide +kernel
theorem dX3_lookForStar_63 : decode cX3_lookForStar 63 = .ok (.istore 5, 2) := by decide +kernel
theorem dX3_lookForStar_65 : decode cX3_lookForStar 65 = .ok (.aload_n 0, 1) := by decide +kernel
theorem dX3_lookForStar_66 : decode cX3_lookForStar 66 = .ok (.iconst 0, 1) := by decide +kernel
theorem dX3_lookForStar_67 : decode cX3_lookForStar 67 = .ok (.putfield 31, 3) := by decide +kernel
theorem dX3_lookForStar_70 : decode cX3_lookForStar 70 = .ok (.iload 5, 2) := by decide +kernel
theorem dX3_lookForStar_72 : decode cX3_lookForStar 72 = .ok (.ireturn, 1) := by decide +kernel
set_option maxRecDepth 20000 in
theorem ggX3_lookForOptional_X3_look : GoodIn wsX3_lookForOptional wsX3_look := goodIn_r _ [6, 7, 1, 8, 9, 10, 11, 5, 12, 13, 14, 15, 16, 17, 18, 19, 20, 21, 22, 23, 24, 25, 26, 27, 28, 29, 30, 31, 32, 33, 34, 35, 36, 37, 38, 39, 40, 41, 42, 43, 44, 45, 46, 47, 48, 49, 50, 51, 52, 53, 54, 55, 56, 57, 58, 59, 60, 2, 3, 4, 61, 62, 0, 63, 64, 65, 66, 67, 68, 69, 70, 71, 72, 73, 74, 75, 76, 77, 78, 79, 80, 81, 82, 83, 84, 85, 86, 87, 88, 89, 90, 91, 92, 93, 94, 95, 96, 97, 98, 99, 100, 101, 102, 103, 104, 105, 106, 107, 108, 109, 110, 111, 112, 113, 114, 115, 116, 117, 118, 119, 120, 121, 122, 123, 124, 125, 126, 127, 128, 129, 130, 131, 132, 133, 134, 135, 136, 137, 138, 139, 140, 141, 142, 143, 144, 145, 146, 147, 148, 149, 150, 151, 152, 153, 154, 155, 156, 157, 158, 159, 160, 161, 162, 163, 164, 165, 166, 167, 168, 169, 170, 171, 172, 173, 174, 175, 176] (by decide +kernel) (by decide +kernel)
set_option maxRecDepth 20000 in
theorem gX3_lookForOptional_X3_look : GoodIn wsX3_lookForOptional (wsV RX3 106 RX3 yX3_look wsX3_look) := goodIn_app (goodIn_of _ (by decide +kernel)) ggX3_lookForOptional_X3_look
theorem dX3_lookForOptional_0 : decode cX3_lookForOptional 0 = .ok (.aload_n 0, 1) := by decide +kernel
theorem dX3_lookForOptional_1 : decode cX3_lookForOptional 1 = .ok (.iload_n 1, 1) := by decide +kernel
theorem dX3_lookForOptional_2 : decode cX3_lookForOptional 2 = .ok (.iload_n 2, 1) := by decide +kernel
theorem dX3_lookForOptional_3 : decode cX3_lookForOptional 3 = .ok (.iload_n 3, 1) := by decide +kernel
theorem dX3_lookForOptional_4 : decode cX3_lookForOptional 4 = .ok (.iconst 1, 1) := by decide +kernel
theorem dX3_lookForOptional_5 : decode cX3_lookForOptional 5 = .ok (.iadd, 1) := by decide +kernel
theorem dX3_lookForOptional_6 : decode cX3_lookForOptional 6 = .ok (.invokevirtual 106, 3) := by decide +kernel
theorem dX3_lookForOptional_9 : decode cX3_lookForOptional 9 = .ok (.istore 4, 2) := by decide +kernel
theorem dX3_lookForOptional_11 : decode cX3_lookForOptional 11 = .ok (.iload 4, 2) := by decide +kernel
theorem dX3_lookForOptional_13 : decode cX3_lookForOptional 13 = .ok (.iconst (-1), 1) := by decide +kernel
theorem dX3_lookForOptional_14 : decode cX3_lookForOptional 14 = .ok (.if_icmp .ne 13, 3) := by decide +kernel
theorem dX3_lookForOptional_17 : decode cX3_lookForOptional 17 = .ok (.aload_n 0, 1) := by decide +kernel
theorem dX3_lookForOptional_18 : decode cX3_lookForOptional 18 = .ok (.getfield 31, 3) := by decide +kernel
theorem dX3_lookForOptional_21 : decode cX3_lookForOptional 21 = .ok (.ifCond .ne 6, 3) := by decide +kernel
theorem dX3_lookForOptional_24 : decode cX3_lookForOptional 24 = .ok (.iload_n 2, 1) := by decide +kernel
theorem dX3_lookForOptional_25 : decode cX3_lookForOptional 25 = .ok (.istore 4, 2) := by decide +kernel
theorem dX3_lookForOptional_27 : decode cX3_lookForOptional 27 = .ok (.aload_n 0, 1) := by decide +kernel
theorem dX3_lookForOptional_28 : decode cX3_lookForOptional 28 = .ok (.iconst 0, 1) := by decide +kernel
theorem dX3_lookForOptional_29 : decode cX3_lookForOptional 29 = .ok (.putfield 31, 3) := by decide +kernel
theorem dX3_lookForOptional_32 : decode cX3_lookForOptional 32 = .ok (.iload 4, 2) := by decide +kernel
theorem dX3_lookForOptional_34 : decode cX3_lookForOptional 34 = .ok (.ireturn, 1) := by decide +kernel
set_option maxRecDepth 20000 in
theorem ggX3_lookForAnd_X3_look : GoodIn wsX3_lookForAnd wsX3_look := goodIn_r _ [6, 7, 1, 8, 9, 10, 11, 5, 12, 13, 14, 15, 16, 17, 18, 19, 20, 21, 22, 23, 24, 25, 26, 27, 28, 29, 30, 31, 32, 33, 34, 35, 36, 37, 38, 39, 40, 41, 42, 43, 44, 45, 46, 47, 48, 49, 50, 51, 52, 53, 54, 55, 56, 57, 58, 59, 0, 2, 3, 4, 60, 61, 62, 63, 64, 65, 66, 67, 68, 69, 70, 71, 72, 73, 74, 75, 76, 77, 78, 79, 80, 81, 82, 83, 84, 85, 86, 87, 88, 89, 90, 91, 92, 93, 94, 95, 96, 97, 98, 99, 100, 101, 102, 103, 104, 105, 106, 107, 108, 109, 110, 111, 112, 113, 114, 115, 116, 117, 118, 119, 120, 121, 122, 123, 124, 125, 126, 127, 128, 129, 130, 131, 132, 133, 134, 135, 136, 137, 138, 139, 140, 141, 142, 143, 144, 145, 146, 147, 148, 149, 150, 151, 152, 153, 154, 155, 156, 157, 158, 159, 160, 161, 162, 163, 164, 165, 166, 167, 168, 169, 170, 171, 172, 173, 174, 175, 176] (by decide +kernel) (by decide +kernel)
set_option maxRecDepth 20000 in
theorem gX3_lookForAnd_X3_look : GoodIn wsX3_lookForAnd (wsV RX3 106 RX3 yX3_look wsX3_look) := goodIn_app (goodIn_of _ (by decide +kernel)) ggX3_lookForAnd_X3_look
theorem dX3_lookForAnd_0 : decode cX3_lookForAnd 0 = .ok (.aload_n 0, 1) := by decide +kernel
theorem dX3_lookForAnd_1 : decode cX3_lookForAnd 1 = .ok (.iload_n 1, 1) := by decide +kernel
theorem dX3_lookForAnd_2 : decode cX3_lookForAnd 2 = .ok (.iload_n 2, 1) := by decide +kernel
theorem dX3_lookForAnd_3 : decode cX3_lookForAnd 3 = .ok (.iload_n 3, 1) := by decide +kernel
theorem dX3_lookForAnd_4 : decode cX3_lookForAnd 4 = .ok (.iconst 1, 1) := by decide +kernel
theorem dX3_lookForAnd_5 : decode cX3_lookForAnd 5 = .ok (.iadd, 1) := by decide +kernel
theorem dX3_lookForAnd_6 : decode cX3_lookForAnd 6 = .ok (.invokevirtual 106, 3) := by decide +kernel
theorem dX3_lookForAnd_9 : decode cX3_lookForAnd 9 = .ok (.istore 4, 2) := by decide +kernel
theorem dX3_lookForAnd_11 : decode cX3_lookForAnd 11 = .ok (.aload_n 0, 1) := by decide +kernel
theorem dX3_lookForAnd_12 : decode cX3_lookForAnd 12 = .ok (.iconst 0, 1) := by decide +kernel
theorem dX3_lookForAnd_13 : decode cX3_lookForAnd 13 = .ok (.putfield 31, 3) := by decide +kernel
theorem dX3_lookForAnd_16 : decode cX3_lookForAnd 16 = .ok (.iload 4, 2) := by decide +kernel
theorem dX3_lookForAnd_18 : decode cX3_lookForAnd 18 = .ok (.ifCond .ge 8, 3) := by decide +kernel
theorem dX3_lookForAnd_21 : decode cX3_lookForAnd 21 = .ok (.iload 4, 2) := by decide +kernel
theorem dX3_lookForAnd_23 : decode cX3_lookForAnd 23 = .ok (.goto 4, 3) := by decide +kernel
theorem dX3_lookForAnd_26 : decode cX3_lookForAnd 26 = .ok (.iload_n 2, 1) := by decide +kernel
theorem dX3_lookForAnd_27 : decode cX3_lookForAnd 27 = .ok (.ireturn, 1) := by decide +kernel
set_option maxRecDepth 20000 in
theorem ggX3_lookForNot_X3_look : GoodIn wsX3_lookForNot wsX3_look := goodIn_r _ [6, 7, 1, 8, 9, 10, 11, 5, 12, 13, 14, 15, 16, 17, 18, 19, 20, 21, 22, 23, 24, 25, 26, 27, 28, 29, 30, 31, 32, 33, 34, 35, 36, 37, 38, 39, 40, 41, 42, 43, 44, 45, 46, 47, 48, 49, 50, 51, 52, 53, 54, 55, 56, 57, 58, 59, 60, 2, 3, 4, 61, 0, 62, 63, 64, 65, 66, 67, 68, 69, 70, 71, 72, 73, 74, 75, 76, 77, 78, 79, 80, 81, 82, 83, 84, 85, 86, 87, 88, 89, 90, 91, 92, 93, 94, 95, 96, 97, 98, 99, 100, 101, 102, 103, 104, 105, 106, 107, 108, 109, 110, 111, 112, 113, 114, 115, 116, 117, 118, 119, 120, 121, 122, 123, 124, 125, 126, 127, 128, 129, 130, 131, 132, 133, 134, 135, 136, 137, 138, 139, 140, 141, 142, 143, 144, 145, 146, 147, 148, 149, 150, 151, 152, 153, 154, 155, 156, 157, 158, 159, 160, 161, 162, 163, 164, 165, 166, 167, 168, 169, 170, 171, 172, 173, 174, 175, 176] (by decide +kernel) (by decide +kernel)
set_option maxRecDepth 20000 in
theorem gX3_lookForNot_X3_look : GoodIn wsX3_lookForNot (wsV RX3 106 RX3 yX3_look wsX3_look) := goodIn_app (goodIn_of _ (by decide +kernel)) ggX3_lookForNot_X3_look
theorem dX3_lookForNot_0 : decode cX3_lookForNot 0 = .ok (.aload_n 0, 1) := by decide +kernel
theorem dX3_lookForNot_1 : decode cX3_lookForNot 1 = .ok (.iload_n 1, 1) := by decide +kernel
theorem dX3_lookForNot_2 : decode cX3_lookForNot 2 = .ok (.iload_n 2, 1) := by decide +kernel
theorem dX3_lookForNot_3 : decode cX3_lookForNot 3 = .ok (.iload_n 3, 1) := by decide +kernel
theorem dX3_lookForNot_4 : decode cX3_lookForNot 4 = .ok (.iconst 1, 1) := by decide +kernel
theorem dX3_lookForNot_5 : decode cX3_lookForNot 5 = .ok (.iadd, 1) := by decide +kernel
theorem dX3_lookForNot_6 : decode cX3_lookForNot 6 = .ok (.invokevirtual 106, 3) := by decide +kernel
theorem dX3_lookForNot_9 : decode cX3_lookForNot 9 = .ok (.istore 4, 2) := by decide +kernel
theorem dX3_lookForNot_11 : decode cX3_lookForNot 11 = .ok (.aload_n 0, 1) := by decide +kernel
theorem dX3_lookForNot_12 : decode cX3_lookForNot 12 = .ok (.iconst 0, 1) := by decide +kernel
theorem dX3_lookForNot_13 : decode cX3_lookForNot 13 = .ok (.putfield 31, 3) := by decide +kernel
theorem dX3_lookForNot_16 : decode cX3_lookForNot 16 = .ok (.iload 4, 2) := by decide +kernel
theorem dX3_lookForNot_18 : decode cX3_lookForNot 18 = .ok (.bipush (-2), 2) := by decide +kernel
theorem dX3_lookForNot_20 : decode cX3_lookForNot 20 = .ok (.if_icmp .ne 6, 3) := by decide +kernel
theorem dX3_lookForNot_23 : decode cX3_lookForNot 23 = .ok (.bipush (-2), 2) := by decide +kernel
theorem dX3_lookForNot_25 : decode cX3_lookForNot 25 = .ok (.ireturn, 1) := by decide +kernel
theorem dX3_lookForNot_26 : decode cX3_lookForNot 26 = .ok (.iload 4, 2) := by decide +kernel
theorem dX3_lookForNot_28 : decode cX3_lookForNot 28 = .ok (.iconst (-1), 1) := by decide +kernel
theorem dX3_lookForNot_29 : decode cX3_lookForNot 29 = .ok (.if_icmp .ne 7, 3) := by decide +kernel
theorem dX3_lookForNot_32 : decode cX3_lookForNot 32 = .ok (.iload_n 2, 1) := by decide +kernel
theorem dX3_lookForNot_33 : decode cX3_lookForNot 33 = .ok (.goto 4, 3) := by decide +kernel
theorem dX3_lookForNot_36 : decode cX3_lookForNot 36 = .ok (.iconst (-1), 1) := by decide +kernel
theorem dX3_lookForNot_37 : decode cX3_lookForNot 37 = .ok (.ireturn, 1) := by decide +kernel
set_option maxRecDepth 20000 in
theorem ggX3_lookForRule_X3_knownResult : GoodIn wsX3_lookForRule wsX3_knownResult := goodIn_r _ [9, 2, 10, 1, 11, 12, 13, 14, 15, 16, 17, 18, 19, 20, 21, 22, 23, 24, 25, 26, 27, 28, 29, 30, 31, 32, 33, 34, 35, 36, 37, 38, 39, 40, 41, 42, 43, 44, 45, 46, 47, 48, 49, 50, 51, 52, 53, 54, 55, 56, 57, 58, 59, 60, 61, 62, 145, 146, 147, 148, 149, 150, 151, 152, 153, 154, 155, 156, 157, 158, 159, 160, 161, 174, 175, 176, 162, 163, 164, 165, 166, 167, 168, 169, 170, 171] (by decide +kernel) (by decide +kernel)
set_option maxRecDepth 20000 in
theorem gX3_lookForRule_X3_knownResult : GoodIn wsX3_lookForRule (wsV RX3 109 RX3 yX3_knownResult wsX3_knownResult) := goodIn_app (goodIn_of _ (by decide +kernel)) ggX3_lookForRule_X3_knownResult
set_option maxRecDepth 20000 in
theorem ggX3_lookForRule_X2_isFull : GoodIn wsX3_lookForRule wsX2_isFull := goodIn_r _ [66, 37, 162, 163, 164, 165, 166, 167, 168, 169, 170, 171] (by decide +kernel) (by decide +kernel)
set_option maxRecDepth 20000 in
theorem gX3_lookForRule_X2_isFull : GoodIn wsX3_lookForRule (wsV RX3 112 RX2 yX2_isFull wsX2_isFull) := goodIn_app (goodIn_of _ (by decide +kernel)) ggX3_lookForRule_X2_isFull
set_option maxRecDepth 20000 in
theorem ggX3_lookForRule_X2_begin : GoodIn wsX3_lookForRule wsX2_begin := goodIn_r _ [70, 37, 71, 47, 54, 53, 38, 48, 59, 72, 32, 73, 19, 74, 18, 20, 162, 163, 164, 165, 166, 167, 168, 169, 170, 171] (by decide +kernel) (by decide +kernel)
set_option maxRecDepth 20000 in
theorem gX3_lookForRule_X2_begin : GoodIn wsX3_lookForRule (wsV RX3 119 RX2 yX2_begin wsX2_begin) := goodIn_app (goodIn_of _ (by decide +kernel)) ggX3_lookForRule_X2_begin
set_option maxRecDepth 20000 in
theorem ggX3_lookForRule_X3_look : GoodIn wsX3_lookForRule wsX3_look := goodIn_r _ [98, 99, 4, 2, 100, 101, 102, 8, 103, 1, 104, 105, 106, 40, 41, 42, 33, 34, 35, 30, 36, 37, 38, 39, 107, 108, 109, 110, 111, 112, 113, 114, 115, 116, 117, 118, 119, 120, 121, 122, 123, 124, 125, 126, 127, 128, 129, 130, 131, 132, 133, 134, 135, 136, 137, 138, 139, 75, 76, 77, 140, 141, 142, 0, 3, 5, 6, 7, 9, 10, 11, 12, 13, 14, 15, 16, 17, 18, 19, 20, 21, 22, 23, 24, 25, 26, 27, 28, 29, 31, 32, 43, 44, 45, 46, 47, 48, 49, 50, 51, 52, 53, 54, 55, 56, 57, 58, 59, 60, 61, 62, 63, 64, 65, 66, 67, 68, 69, 70, 71, 72, 73, 74, 78, 79, 80, 81, 82, 83, 84, 85, 86, 87, 88, 89, 90, 91, 92, 93, 94, 95, 96, 97, 143, 144, 145, 146, 147, 148, 149, 150, 151, 152, 153, 154, 155, 156, 157, 158, 159, 160, 161, 162, 163, 164, 165, 166, 167, 168, 169, 170, 171, 172, 173, 174, 175, 176] (by decide +kernel) (by decide +kernel)
set_option maxRecDepth 20000 in
theorem gX3_lookForRule_X3_look : GoodIn wsX3_lookForRule (wsV RX3 106 RX3 yX3_look wsX3_look) := goodIn_app (goodIn_of _ (by decide +kernel)) ggX3_lookForRule_X3_look
set_option maxRecDepth 20000 in
theorem ggX3_lookForRule_X3_finish : GoodIn wsX3_lookForRule wsX3_finish := goodIn_r _ [81, 1, 10, 82, 83, 84, 30, 85, 59, 18, 19, 20, 86, 87, 88, 24, 89, 26, 90, 91, 92, 93, 94, 95, 37, 47, 72, 71, 32, 38, 48, 73, 74, 96, 34, 35, 36, 39, 40, 41, 42, 97, 44, 45, 46, 55, 56, 57, 58, 60, 61, 62, 145, 146, 147, 148, 149, 150, 151, 152, 153, 162, 163, 164, 165, 166, 167, 168, 169, 170, 171, 174, 175, 176] (by decide +kernel) (by decide +kernel)
set_option maxRecDepth 20000 in
theorem gX3_lookForRule_X3_finish : GoodIn wsX3_lookForRule (wsV RX3 129 RX3 yX3_finish wsX3_finish) := goodIn_app (goodIn_of _ (by decide +kernel)) ggX3_lookForRule_X3_finish
theorem dX3_lookForRule_0 : decode cX3_lookForRule 0 = .ok (.aload_n 0, 1) := by decide +kernel
theorem dX3_lookForRule_1 : decode cX3_lookForRule 1 = .ok (.iload_n 1, 1) := by decide +kernel
theorem dX3_lookForRule_2 : decode cX3_lookForRule 2 = .ok (.iload_n 2, 1) := by decide +kernel
theorem dX3_lookForRule_3 : decode cX3_lookForRule 3 = .ok (.invokevirtual 109, 3) := by decide +kernel
theorem dX3_lookForRule_6 : decode cX3_lookForRule 6 = .ok (.istore 4, 2) := by decide +kernel
theorem dX3_lookForRule_8 : decode cX3_lookForRule 8 = .ok (.iload 4, 2) := by decide +kernel
theorem dX3_lookForRule_10 : decode cX3_lookForRule 10 = .ok (.bipush (-4), 2) := by decide +kernel
theorem dX3_lookForRule_12 : decode cX3_lookForRule 12 = .ok (.if_icmp .eq 6, 3) := by decide +kernel
theorem dX3_lookForRule_15 : decode cX3_lookForRule 15 = .ok (.iload 4, 2) := by decide +kernel
theorem dX3_lookForRule_17 : decode cX3_lookForRule 17 = .ok (.ireturn, 1) := by decide +kernel
theorem dX3_lookForRule_18 : decode cX3_lookForRule 18 = .ok (.aload_n 0, 1) := by decide +kernel
theorem dX3_lookForRule_19 : decode cX3_lookForRule 19 = .ok (.getfield 12, 3) := by decide +kernel
theorem dX3_lookForRule_22 : decode cX3_lookForRule 22 = .ok (.invokevirtual 112, 3) := by decide +kernel
theorem dX3_lookForRule_25 : decode cX3_lookForRule 25 = .ok (.ifCond .eq 6, 3) := by decide +kernel
theorem dX3_lookForRule_28 : decode cX3_lookForRule 28 = .ok (.bipush (-2), 2) := by decide +kernel
theorem dX3_lookForRule_30 : decode cX3_lookForRule 30 = .ok (.ireturn, 1) := by decide +kernel
theorem dX3_lookForRule_31 : decode cX3_lookForRule 31 = .ok (.aload_n 0, 1) := by decide +kernel
theorem dX3_lookForRule_32 : decode cX3_lookForRule 32 = .ok (.getfield 35, 3) := by decide +kernel
theorem dX3_lookForRule_35 : decode cX3_lookForRule 35 = .ok (.getfield 116, 3) := by decide +kernel
theorem dX3_lookForRule_38 : decode cX3_lookForRule 38 = .ok (.iload_n 1, 1) := by decide +kernel
theorem dX3_lookForRule_39 : decode cX3_lookForRule 39 = .ok (.iaload, 1) := by decide +kernel
theorem dX3_lookForRule_40 : decode cX3_lookForRule 40 = .ok (.istore 5, 2) := by decide +kernel
theorem dX3_lookForRule_42 : decode cX3_lookForRule 42 = .ok (.aload_n 0, 1) := by decide +kernel
theorem dX3_lookForRule_43 : decode cX3_lookForRule 43 = .ok (.getfield 12, 3) := by decide +kernel
theorem dX3_lookForRule_46 : decode cX3_lookForRule 46 = .ok (.iload_n 1, 1) := by decide +kernel
theorem dX3_lookForRule_47 : decode cX3_lookForRule 47 = .ok (.iload_n 2, 1) := by decide +kernel
theorem dX3_lookForRule_48 : decode cX3_lookForRule 48 = .ok (.invokevirtual 119, 3) := by decide +kernel
theorem dX3_lookForRule_51 : decode cX3_lookForRule 51 = .ok (.istore 6, 2) := by decide +kernel
theorem dX3_lookForRule_53 : decode cX3_lookForRule 53 = .ok (.aload_n 0, 1) := by decide +kernel
theorem dX3_lookForRule_54 : decode cX3_lookForRule 54 = .ok (.iload 5, 2) := by decide +kernel
theorem dX3_lookForRule_56 : decode cX3_lookForRule 56 = .ok (.iload_n 2, 1) := by decide +kernel
theorem dX3_lookForRule_57 : decode cX3_lookForRule 57 = .ok (.iload_n 3, 1) := by decide +kernel
theorem dX3_lookForRule_58 : decode cX3_lookForRule 58 = .ok (.iconst 1, 1) := by decide +kernel
theorem dX3_lookForRule_59 : decode cX3_lookForRule 59 = .ok (.iadd, 1) := by decide +kernel
theorem dX3_lookForRule_60 : decode cX3_lookForRule 60 = .ok (.invokevirtual 106, 3) := by decide +kernel
theorem dX3_lookForRule_63 : decode cX3_lookForRule 63 = .ok (.istore 7, 2) := by decide +kernel
theorem dX3_lookForRule_65 : decode cX3_lookForRule 65 = .ok (.aload_n 0, 1) := by decide +kernel
theorem dX3_lookForRule_66 : decode cX3_lookForRule 66 = .ok (.getfield 12, 3) := by decide +kernel
theorem dX3_lookForRule_69 : decode cX3_lookForRule 69 = .ok (.getfield 122, 3) := by decide +kernel
theorem dX3_lookForRule_72 : decode cX3_lookForRule 72 = .ok (.iload 6, 2) := by decide +kernel
theorem dX3_lookForRule_74 : decode cX3_lookForRule 74 = .ok (.baload, 1) := by decide +kernel
theorem dX3_lookForRule_75 : decode cX3_lookForRule 75 = .ok (.ifCond .eq 92, 3) := by decide +kernel
theorem dX3_lookForRule_78 : decode cX3_lookForRule 78 = .ok (.iconst 0, 1) := by decide +kernel
theorem dX3_lookForRule_79 : decode cX3_lookForRule 79 = .ok (.istore 8, 2) := by decide +kernel
theorem dX3_lookForRule_81 : decode cX3_lookForRule 81 = .ok (.iload 8, 2) := by decide +kernel
theorem dX3_lookForRule_83 : decode cX3_lookForRule 83 = .ok (.bipush 40, 2) := by decide +kernel
theorem dX3_lookForRule_85 : decode cX3_lookForRule 85 = .ok (.if_icmp .gt 58, 3) := by decide +kernel
theorem dX3_lookForRule_88 : decode cX3_lookForRule 88 = .ok (.iload 7, 2) := by decide +kernel
theorem dX3_lookForRule_90 : decode cX3_lookForRule 90 = .ok (.aload_n 0, 1) := by decide +kernel
theorem dX3_lookForRule_91 : decode cX3_lookForRule 91 = .ok (.getfield 12, 3) := by decide +kernel
theorem dX3_lookForRule_94 : decode cX3_lookForRule 94 = .ok (.getfield 126, 3) := by decide +kernel
theorem dX3_lookForRule_97 : decode cX3_lookForRule 97 = .ok (.iload 6, 2) := by decide +kernel
theorem dX3_lookForRule_99 : decode cX3_lookForRule 99 = .ok (.iaload, 1) := by decide +kernel
theorem dX3_lookForRule_100 : decode cX3_lookForRule 100 = .ok (.if_icmp .le 43, 3) := by decide +kernel
theorem dX3_lookForRule_103 : decode cX3_lookForRule 103 = .ok (.aload_n 0, 1) := by decide +kernel
theorem dX3_lookForRule_104 : decode cX3_lookForRule 104 = .ok (.getfield 12, 3) := by decide +kernel
theorem dX3_lookForRule_107 : decode cX3_lookForRule 107 = .ok (.getfield 126, 3) := by decide +kernel
theorem dX3_lookForRule_110 : decode cX3_lookForRule 110 = .ok (.iload 6, 2) := by decide +kernel
theorem dX3_lookForRule_112 : decode cX3_lookForRule 112 = .ok (.iload 7, 2) := by decide +kernel
theorem dX3_lookForRule_114 : decode cX3_lookForRule 114 = .ok (.iastore, 1) := by decide +kernel
theorem dX3_lookForRule_115 : decode cX3_lookForRule 115 = .ok (.aload_n 0, 1) := by decide +kernel
theorem dX3_lookForRule_116 : decode cX3_lookForRule 116 = .ok (.dup, 1) := by decide +kernel
theorem dX3_lookForRule_117 : decode cX3_lookForRule 117 = .ok (.getfield 25, 3) := by decide +kernel
theorem dX3_lookForRule_120 : decode cX3_lookForRule 120 = .ok (.iconst 1, 1) := by decide +kernel
theorem dX3_lookForRule_121 : decode cX3_lookForRule 121 = .ok (.iadd, 1) := by decide +kernel
theorem dX3_lookForRule_122 : decode cX3_lookForRule 122 = .ok (.putfield 25, 3) := by decide +kernel
theorem dX3_lookForRule_125 : decode cX3_lookForRule 125 = .ok (.aload_n 0, 1) := by decide +kernel
theorem dX3_lookForRule_126 : decode cX3_lookForRule 126 = .ok (.iload 5, 2) := by decide +kernel
theorem dX3_lookForRule_128 : decode cX3_lookForRule 128 = .ok (.iload_n 2, 1) := by decide +kernel
theorem dX3_lookForRule_129 : decode cX3_lookForRule 129 = .ok (.iload_n 3, 1) := by decide +kernel
theorem dX3_lookForRule_130 : decode cX3_lookForRule 130 = .ok (.iconst 1, 1) := by decide +kernel
theorem dX3_lookForRule_131 : decode cX3_lookForRule 131 = .ok (.iadd, 1) := by decide +kernel
theorem dX3_lookForRule_132 : decode cX3_lookForRule 132 = .ok (.invokevirtual 106, 3) := by decide +kernel
theorem dX3_lookForRule_135 : decode cX3_lookForRule 135 = .ok (.istore 7, 2) := by decide +kernel
theorem dX3_lookForRule_137 : decode cX3_lookForRule 137 = .ok (.iinc 8 1, 3) := by decide +kernel
theorem dX3_lookForRule_140 : decode cX3_lookForRule 140 = .ok (.goto (-59), 3) := by decide +kernel
theorem dX3_lookForRule_143 : decode cX3_lookForRule 143 = .ok (.iload 7, 2) := by decide +kernel
theorem dX3_lookForRule_145 : decode cX3_lookForRule 145 = .ok (.bipush (-2), 2) := by decide +kernel
theorem dX3_lookForRule_147 : decode cX3_lookForRule 147 = .ok (.if_icmp .ne 8, 3) := by decide +kernel
theorem dX3_lookForRule_150 : decode cX3_lookForRule 150 = .ok (.bipush (-2), 2) := by decide +kernel
theorem dX3_lookForRule_152 : decode cX3_lookForRule 152 = .ok (.goto 13, 3) := by decide +kernel
theorem dX3_lookForRule_155 : decode cX3_lookForRule 155 = .ok (.aload_n 0, 1) := by decide +kernel
theorem dX3_lookForRule_156 : decode cX3_lookForRule 156 = .ok (.getfield 12, 3) := by decide +kernel
theorem dX3_lookForRule_159 : decode cX3_lookForRule 159 = .ok (.getfield 126, 3) := by decide +kernel
theorem dX3_lookForRule_162 : decode cX3_lookForRule 162 = .ok (.iload 6, 2) := by decide +kernel
theorem dX3_lookForRule_164 : decode cX3_lookForRule 164 = .ok (.iaload, 1) := by decide +kernel
theorem dX3_lookForRule_165 : decode cX3_lookForRule 165 = .ok (.istore 7, 2) := by decide +kernel
theorem dX3_lookForRule_167 : decode cX3_lookForRule 167 = .ok (.aload_n 0, 1) := by decide +kernel
theorem dX3_lookForRule_168 : decode cX3_lookForRule 168 = .ok (.iload 6, 2) := by decide +kernel
theorem dX3_lookForRule_170 : decode cX3_lookForRule 170 = .ok (.iload 7, 2) := by decide +kernel
theorem dX3_lookForRule_172 : decode cX3_lookForRule 172 = .ok (.invokevirtual 129, 3) := by decide +kernel
theorem dX3_lookForRule_175 : decode cX3_lookForRule 175 = .ok (.aload_n 0, 1) := by decide +kernel
theorem dX3_lookForRule_176 : decode cX3_lookForRule 176 = .ok (.iconst 0, 1) := by decide +kernel
theorem dX3_lookForRule_177 : decode cX3_lookForRule 177 = .ok (.putfield 31, 3) := by decide +kernel
theorem dX3_lookForRule_180 : decode cX3_lookForRule 180 = .ok (.iload 7, 2) := by decide +kernel
theorem dX3_lookForRule_182 : decode cX3_lookForRule 182 = .ok (.ireturn, 1) := by decide +kernel
set_option maxRecDepth 20000 in
theorem ggX3_knownResult_X0_has : GoodIn wsX3_knownResult wsX0_has := goodIn_r _ [9, 10, 65, 66, 67, 68, 69, 70, 71, 72] (by decide +kernel) (by decide +kernel)
set_option maxRecDepth 20000 in
theorem gX3_knownResult_X0_has : GoodIn wsX3_knownResult (wsV RX3 133 RX0 yX0_has wsX0_has) := goodIn_app (goodIn_of _ (by decide +kernel)) ggX3_knownResult_X0_has
set_option maxRecDepth 20000 in
theorem ggX3_knownResult_X5_cell : GoodIn wsX3_knownResult wsX5_cell := goodIn_r _ [13] (by decide +kernel) (by decide +kernel)
set_option maxRecDepth 20000 in
theorem gX3_knownResult_X5_cell_n137 : GoodIn wsX3_knownResult (wsX5_cell) := ggX3_knownResult_X5_cell
set_option maxRecDepth 20000 in
theorem ggX3_knownResult_X1_holds : GoodIn wsX3_knownResult wsX1_holds := goodIn_r _ [18, 19, 73, 74, 75] (by decide +kernel) (by decide +kernel)
set_option maxRecDepth 20000 in
theorem gX3_knownResult_X1_holds : GoodIn wsX3_knownResult (wsV RX3 140 RX1 yX1_holds wsX1_holds) := goodIn_app (goodIn_of _ (by decide +kernel)) ggX3_knownResult_X1_holds
set_option maxRecDepth 20000 in
theorem ggX3_knownResult_X2_hasOneOf : GoodIn wsX3_knownResult wsX2_hasOneOf := goodIn_r _ [24, 25, 76, 77, 78, 79, 80, 81, 82, 83, 84, 85] (by decide +kernel) (by decide +kernel)
set_option maxRecDepth 20000 in
theorem gX3_knownResult_X2_hasOneOf : GoodIn wsX3_knownResult (wsV RX3 146 RX2 yX2_hasOneOf wsX2_hasOneOf) := goodIn_app (goodIn_of _ (by decide +kernel)) ggX3_knownResult_X2_hasOneOf
set_option maxRecDepth 20000 in
theorem ggX3_knownResult_X2_countLook : GoodIn wsX3_knownResult wsX2_countLook := goodIn_r _ [29, 30, 31, 32, 33, 34, 35, 76, 77, 78, 79, 80, 81, 82, 83, 84, 85] (by decide +kernel) (by decide +kernel)
set_option maxRecDepth 20000 in
theorem gX3_knownResult_X2_countLook : GoodIn wsX3_knownResult (wsV RX3 90 RX2 yX2_countLook wsX2_countLook) := goodIn_app (goodIn_of _ (by decide +kernel)) ggX3_knownResult_X2_countLook
set_option maxRecDepth 20000 in
theorem ggX3_knownResult_X2_countNames : GoodIn wsX3_knownResult wsX2_countNames := goodIn_r _ [39, 30, 40, 41, 76, 77, 78, 79, 80, 81, 82, 83, 84, 85] (by decide +kernel) (by decide +kernel)
set_option maxRecDepth 20000 in
theorem gX3_knownResult_X2_countNames : GoodIn wsX3_knownResult (wsV RX3 153 RX2 yX2_countNames wsX2_countNames) := goodIn_app (goodIn_of _ (by decide +kernel)) ggX3_knownResult_X2_countNames
set_option maxRecDepth 20000 in
theorem ggX3_knownResult_X2_askSeed : GoodIn wsX3_knownResult wsX2_askSeed := goodIn_r _ [45, 46, 47, 48, 49, 50, 23, 51, 30, 52, 53, 54, 34, 55, 76, 77, 78, 79, 80, 81, 82, 83, 84, 85] (by decide +kernel) (by decide +kernel)
set_option maxRecDepth 20000 in
theorem gX3_knownResult_X2_askSeed : GoodIn wsX3_knownResult (wsV RX3 162 RX2 yX2_askSeed wsX2_askSeed) := goodIn_app (goodIn_of _ (by decide +kernel)) ggX3_knownResult_X2_askSeed
theorem dX3_knownResult_0 : decode cX3_knownResult 0 = .ok (.aload_n 0, 1) := by decide +kernel
theorem dX3_knownResult_1 : decode cX3_knownResult 1 = .ok (.getfield 35, 3) := by decide +kernel
theorem dX3_knownResult_4 : decode cX3_knownResult 4 = .ok (.aload_n 0, 1) := by decide +kernel
theorem dX3_knownResult_5 : decode cX3_knownResult 5 = .ok (.getfield 35, 3) := by decide +kernel
theorem dX3_knownResult_8 : decode cX3_knownResult 8 = .ok (.getfield 116, 3) := by decide +kernel
theorem dX3_knownResult_11 : decode cX3_knownResult 11 = .ok (.iload_n 1, 1) := by decide +kernel
theorem dX3_knownResult_12 : decode cX3_knownResult 12 = .ok (.iaload, 1) := by decide +kernel
theorem dX3_knownResult_13 : decode cX3_knownResult 13 = .ok (.invokevirtual 133, 3) := by decide +kernel
theorem dX3_knownResult_16 : decode cX3_knownResult 16 = .ok (.ifCond .ne 5, 3) := by decide +kernel
theorem dX3_knownResult_19 : decode cX3_knownResult 19 = .ok (.iconst (-1), 1) := by decide +kernel
theorem dX3_knownResult_20 : decode cX3_knownResult 20 = .ok (.ireturn, 1) := by decide +kernel
theorem dX3_knownResult_21 : decode cX3_knownResult 21 = .ok (.iload_n 1, 1) := by decide +kernel
theorem dX3_knownResult_22 : decode cX3_knownResult 22 = .ok (.iload_n 2, 1) := by decide +kernel
theorem dX3_knownResult_23 : decode cX3_knownResult 23 = .ok (.invokestatic 137, 3) := by decide +kernel
theorem dX3_knownResult_26 : decode cX3_knownResult 26 = .ok (.istore_n 3, 1) := by decide +kernel
theorem dX3_knownResult_27 : decode cX3_knownResult 27 = .ok (.aload_n 0, 1) := by decide +kernel
theorem dX3_knownResult_28 : decode cX3_knownResult 28 = .ok (.getfield 43, 3) := by decide +kernel
theorem dX3_knownResult_31 : decode cX3_knownResult 31 = .ok (.iload_n 3, 1) := by decide +kernel
theorem dX3_knownResult_32 : decode cX3_knownResult 32 = .ok (.invokevirtual 140, 3) := by decide +kernel
theorem dX3_knownResult_35 : decode cX3_knownResult 35 = .ok (.ifCond .eq 76, 3) := by decide +kernel
theorem dX3_knownResult_38 : decode cX3_knownResult 38 = .ok (.aload_n 0, 1) := by decide +kernel
theorem dX3_knownResult_39 : decode cX3_knownResult 39 = .ok (.getfield 12, 3) := by decide +kernel
theorem dX3_knownResult_42 : decode cX3_knownResult 42 = .ok (.aload_n 0, 1) := by decide +kernel
theorem dX3_knownResult_43 : decode cX3_knownResult 43 = .ok (.getfield 43, 3) := by decide +kernel
theorem dX3_knownResult_46 : decode cX3_knownResult 46 = .ok (.getfield 143, 3) := by decide +kernel
theorem dX3_knownResult_49 : decode cX3_knownResult 49 = .ok (.iload_n 3, 1) := by decide +kernel
theorem dX3_knownResult_50 : decode cX3_knownResult 50 = .ok (.iaload, 1) := by decide +kernel
theorem dX3_knownResult_51 : decode cX3_knownResult 51 = .ok (.iload_n 2, 1) := by decide +kernel
theorem dX3_knownResult_52 : decode cX3_knownResult 52 = .ok (.invokevirtual 146, 3) := by decide +kernel
theorem dX3_knownResult_55 : decode cX3_knownResult 55 = .ok (.ifCond .ne 56, 3) := by decide +kernel
theorem dX3_knownResult_58 : decode cX3_knownResult 58 = .ok (.aload_n 0, 1) := by decide +kernel
theorem dX3_knownResult_59 : decode cX3_knownResult 59 = .ok (.dup, 1) := by decide +kernel
theorem dX3_knownResult_60 : decode cX3_knownResult 60 = .ok (.getfield 22, 3) := by decide +kernel
theorem dX3_knownResult_63 : decode cX3_knownResult 63 = .ok (.iconst 1, 1) := by decide +kernel
theorem dX3_knownResult_64 : decode cX3_knownResult 64 = .ok (.iadd, 1) := by decide +kernel
theorem dX3_knownResult_65 : decode cX3_knownResult 65 = .ok (.putfield 22, 3) := by decide +kernel
theorem dX3_knownResult_68 : decode cX3_knownResult 68 = .ok (.aload_n 0, 1) := by decide +kernel
theorem dX3_knownResult_69 : decode cX3_knownResult 69 = .ok (.getfield 12, 3) := by decide +kernel
theorem dX3_knownResult_72 : decode cX3_knownResult 72 = .ok (.aload_n 0, 1) := by decide +kernel
theorem dX3_knownResult_73 : decode cX3_knownResult 73 = .ok (.getfield 43, 3) := by decide +kernel
theorem dX3_knownResult_76 : decode cX3_knownResult 76 = .ok (.getfield 150, 3) := by decide +kernel
theorem dX3_knownResult_79 : decode cX3_knownResult 79 = .ok (.iload_n 3, 1) := by decide +kernel
theorem dX3_knownResult_80 : decode cX3_knownResult 80 = .ok (.iaload, 1) := by decide +kernel
theorem dX3_knownResult_81 : decode cX3_knownResult 81 = .ok (.invokevirtual 90, 3) := by decide +kernel
theorem dX3_knownResult_84 : decode cX3_knownResult 84 = .ok (.aload_n 0, 1) := by decide +kernel
theorem dX3_knownResult_85 : decode cX3_knownResult 85 = .ok (.getfield 12, 3) := by decide +kernel
theorem dX3_knownResult_88 : decode cX3_knownResult 88 = .ok (.aload_n 0, 1) := by decide +kernel
theorem dX3_knownResult_89 : decode cX3_knownResult 89 = .ok (.getfield 43, 3) := by decide +kernel
theorem dX3_knownResult_92 : decode cX3_knownResult 92 = .ok (.getfield 143, 3) := by decide +kernel
theorem dX3_knownResult_95 : decode cX3_knownResult 95 = .ok (.iload_n 3, 1) := by decide +kernel
theorem dX3_knownResult_96 : decode cX3_knownResult 96 = .ok (.iaload, 1) := by decide +kernel
theorem dX3_knownResult_97 : decode cX3_knownResult 97 = .ok (.iload_n 2, 1) := by decide +kernel
theorem dX3_knownResult_98 : decode cX3_knownResult 98 = .ok (.invokevirtual 153, 3) := by decide +kernel
theorem dX3_knownResult_101 : decode cX3_knownResult 101 = .ok (.aload_n 0, 1) := by decide +kernel
theorem dX3_knownResult_102 : decode cX3_knownResult 102 = .ok (.getfield 43, 3) := by decide +kernel
theorem dX3_knownResult_105 : decode cX3_knownResult 105 = .ok (.getfield 156, 3) := by decide +kernel
theorem dX3_knownResult_108 : decode cX3_knownResult 108 = .ok (.iload_n 3, 1) := by decide +kernel
theorem dX3_knownResult_109 : decode cX3_knownResult 109 = .ok (.iaload, 1) := by decide +kernel
theorem dX3_knownResult_110 : decode cX3_knownResult 110 = .ok (.ireturn, 1) := by decide +kernel
theorem dX3_knownResult_111 : decode cX3_knownResult 111 = .ok (.aload_n 0, 1) := by decide +kernel
theorem dX3_knownResult_112 : decode cX3_knownResult 112 = .ok (.getfield 12, 3) := by decide +kernel
theorem dX3_knownResult_115 : decode cX3_knownResult 115 = .ok (.getfield 159, 3) := by decide +kernel
theorem dX3_knownResult_118 : decode cX3_knownResult 118 = .ok (.iload_n 3, 1) := by decide +kernel
theorem dX3_knownResult_119 : decode cX3_knownResult 119 = .ok (.iaload, 1) := by decide +kernel
theorem dX3_knownResult_120 : decode cX3_knownResult 120 = .ok (.istore 4, 2) := by decide +kernel
theorem dX3_knownResult_122 : decode cX3_knownResult 122 = .ok (.iload 4, 2) := by decide +kernel
theorem dX3_knownResult_124 : decode cX3_knownResult 124 = .ok (.iconst (-1), 1) := by decide +kernel
theorem dX3_knownResult_125 : decode cX3_knownResult 125 = .ok (.if_icmp .ne 8, 3) := by decide +kernel
theorem dX3_knownResult_128 : decode cX3_knownResult 128 = .ok (.bipush (-4), 2) := by decide +kernel
theorem dX3_knownResult_130 : decode cX3_knownResult 130 = .ok (.goto 12, 3) := by decide +kernel
theorem dX3_knownResult_133 : decode cX3_knownResult 133 = .ok (.aload_n 0, 1) := by decide +kernel
theorem dX3_knownResult_134 : decode cX3_knownResult 134 = .ok (.getfield 12, 3) := by decide +kernel
theorem dX3_knownResult_137 : decode cX3_knownResult 137 = .ok (.iload 4, 2) := by decide +kernel
theorem dX3_knownResult_139 : decode cX3_knownResult 139 = .ok (.invokevirtual 162, 3) := by decide +kernel
theorem dX3_knownResult_142 : decode cX3_knownResult 142 = .ok (.ireturn, 1) := by decide +kernel
set_option maxRecDepth 20000 in
theorem ggX3_finish_X2_askedEarlierOne : GoodIn wsX3_finish wsX2_askedEarlierOne := goodIn_r _ [7, 8, 61, 62, 63, 64, 65, 66, 67, 68, 69, 70] (by decide +kernel) (by decide +kernel)
set_option maxRecDepth 20000 in
theorem gX3_finish_X2_askedEarlierOne : GoodIn wsX3_finish (wsV RX3 165 RX2 yX2_askedEarlierOne wsX2_askedEarlierOne) := goodIn_app (goodIn_of _ (by decide +kernel)) ggX3_finish_X2_askedEarlierOne
set_option maxRecDepth 20000 in
theorem ggX3_finish_X5_cell : GoodIn wsX3_finish wsX5_cell := goodIn_r _ [11] (by decide +kernel) (by decide +kernel)
set_option maxRecDepth 20000 in
theorem gX3_finish_X5_cell_n137 : GoodIn wsX3_finish (wsX5_cell) := ggX3_finish_X5_cell
set_option maxRecDepth 20000 in
theorem ggX3_finish_X1_put : GoodIn wsX3_finish wsX1_put := goodIn_r _ [16, 17, 18, 19, 71, 72, 73] (by decide +kernel) (by decide +kernel)
set_option maxRecDepth 20000 in
theorem gX3_finish_X1_put : GoodIn wsX3_finish (wsV RX3 176 RX1 yX1_put wsX1_put) := goodIn_app (goodIn_of _ (by decide +kernel)) ggX3_finish_X1_put
set_option maxRecDepth 20000 in
theorem ggX3_finish_X2_end : GoodIn wsX3_finish wsX2_end := goodIn_r _ [23, 24, 25, 26, 27, 28, 29, 30, 8, 9, 10, 11, 31, 32, 33, 34, 35, 6, 36, 37, 38, 39, 40, 41, 42, 43, 44, 45, 46, 47, 48, 49, 50, 51, 61, 62, 63, 64, 65, 66, 67, 68, 69, 70] (by decide +kernel) (by decide +kernel)
set_option maxRecDepth 20000 in
theorem gX3_finish_X2_end : GoodIn wsX3_finish (wsV RX3 180 RX2 yX2_end wsX2_end) := goodIn_app (goodIn_of _ (by decide +kernel)) ggX3_finish_X2_end
theorem dX3_finish_0 : decode cX3_finish 0 = .ok (.iload_n 2, 1) := by decide +kernel
theorem dX3_finish_1 : decode cX3_finish 1 = .ok (.bipush (-2), 2) := by decide +kernel
theorem dX3_finish_3 : decode cX3_finish 3 = .ok (.if_icmp .eq 63, 3) := by decide +kernel
theorem dX3_finish_6 : decode cX3_finish 6 = .ok (.aload_n 0, 1) := by decide +kernel
theorem dX3_finish_7 : decode cX3_finish 7 = .ok (.getfield 12, 3) := by decide +kernel
theorem dX3_finish_10 : decode cX3_finish 10 = .ok (.iload_n 1, 1) := by decide +kernel
theorem dX3_finish_11 : decode cX3_finish 11 = .ok (.invokevirtual 165, 3) := by decide +kernel
theorem dX3_finish_14 : decode cX3_finish 14 = .ok (.ifCond .ne 52, 3) := by decide +kernel
theorem dX3_finish_17 : decode cX3_finish 17 = .ok (.aload_n 0, 1) := by decide +kernel
theorem dX3_finish_18 : decode cX3_finish 18 = .ok (.getfield 12, 3) := by decide +kernel
theorem dX3_finish_21 : decode cX3_finish 21 = .ok (.getfield 168, 3) := by decide +kernel
theorem dX3_finish_24 : decode cX3_finish 24 = .ok (.iload_n 1, 1) := by decide +kernel
theorem dX3_finish_25 : decode cX3_finish 25 = .ok (.iaload, 1) := by decide +kernel
theorem dX3_finish_26 : decode cX3_finish 26 = .ok (.aload_n 0, 1) := by decide +kernel
theorem dX3_finish_27 : decode cX3_finish 27 = .ok (.getfield 12, 3) := by decide +kernel
theorem dX3_finish_30 : decode cX3_finish 30 = .ok (.getfield 171, 3) := by decide +kernel
theorem dX3_finish_33 : decode cX3_finish 33 = .ok (.iload_n 1, 1) := by decide +kernel
theorem dX3_finish_34 : decode cX3_finish 34 = .ok (.iaload, 1) := by decide +kernel
theorem dX3_finish_35 : decode cX3_finish 35 = .ok (.invokestatic 137, 3) := by decide +kernel
theorem dX3_finish_38 : decode cX3_finish 38 = .ok (.istore_n 3, 1) := by decide +kernel
theorem dX3_finish_39 : decode cX3_finish 39 = .ok (.aload_n 0, 1) := by decide +kernel
theorem dX3_finish_40 : decode cX3_finish 40 = .ok (.getfield 43, 3) := by decide +kernel
theorem dX3_finish_43 : decode cX3_finish 43 = .ok (.iload_n 3, 1) := by decide +kernel
theorem dX3_finish_44 : decode cX3_finish 44 = .ok (.iload_n 2, 1) := by decide +kernel
theorem dX3_finish_45 : decode cX3_finish 45 = .ok (.aload_n 0, 1) := by decide +kernel
theorem dX3_finish_46 : decode cX3_finish 46 = .ok (.getfield 12, 3) := by decide +kernel
theorem dX3_finish_49 : decode cX3_finish 49 = .ok (.getfield 174, 3) := by decide +kernel
theorem dX3_finish_52 : decode cX3_finish 52 = .ok (.iload_n 1, 1) := by decide +kernel
theorem dX3_finish_53 : decode cX3_finish 53 = .ok (.iaload, 1) := by decide +kernel
theorem dX3_finish_54 : decode cX3_finish 54 = .ok (.aload_n 0, 1) := by decide +kernel
theorem dX3_finish_55 : decode cX3_finish 55 = .ok (.getfield 12, 3) := by decide +kernel
theorem dX3_finish_58 : decode cX3_finish 58 = .ok (.getfield 175, 3) := by decide +kernel
theorem dX3_finish_61 : decode cX3_finish 61 = .ok (.iload_n 1, 1) := by decide +kernel
theorem dX3_finish_62 : decode cX3_finish 62 = .ok (.iaload, 1) := by decide +kernel
theorem dX3_finish_63 : decode cX3_finish 63 = .ok (.invokevirtual 176, 3) := by decide +kernel
theorem dX3_finish_66 : decode cX3_finish 66 = .ok (.aload_n 0, 1) := by decide +kernel
theorem dX3_finish_67 : decode cX3_finish 67 = .ok (.getfield 12, 3) := by decide +kernel
theorem dX3_finish_70 : decode cX3_finish 70 = .ok (.invokevirtual 180, 3) := by decide +kernel
theorem dX3_finish_73 : decode cX3_finish 73 = .ok (.return_, 1) := by decide +kernel
theorem dX4_init_0 : decode cX4_init 0 = .ok (.aload_n 0, 1) := by decide +kernel
theorem dX4_init_1 : decode cX4_init 1 = .ok (.invokespecial 3, 3) := by decide +kernel
theorem dX4_init_4 : decode cX4_init 4 = .ok (.aload_n 0, 1) := by decide +kernel
theorem dX4_init_5 : decode cX4_init 5 = .ok (.bipush 40, 2) := by decide +kernel
theorem dX4_init_7 : decode cX4_init 7 = .ok (.newarray .int, 2) := by decide +kernel
theorem dX4_init_9 : decode cX4_init 9 = .ok (.putfield 9, 3) := by decide +kernel
theorem dX4_init_12 : decode cX4_init 12 = .ok (.aload_n 0, 1) := by decide +kernel
theorem dX4_init_13 : decode cX4_init 13 = .ok (.iconst 0, 1) := by decide +kernel
theorem dX4_init_14 : decode cX4_init 14 = .ok (.putfield 15, 3) := by decide +kernel
theorem dX4_init_17 : decode cX4_init 17 = .ok (.return_, 1) := by decide +kernel
theorem dX4_hasByte_0 : decode cX4_hasByte 0 = .ok (.iload_n 1, 1) := by decide +kernel
theorem dX4_hasByte_1 : decode cX4_hasByte 1 = .ok (.ifCond .lt 15, 3) := by decide +kernel
theorem dX4_hasByte_4 : decode cX4_hasByte 4 = .ok (.iload_n 1, 1) := by decide +kernel
theorem dX4_hasByte_5 : decode cX4_hasByte 5 = .ok (.aload_n 0, 1) := by decide +kernel
theorem dX4_hasByte_6 : decode cX4_hasByte 6 = .ok (.getfield 15, 3) := by decide +kernel
theorem dX4_hasByte_9 : decode cX4_hasByte 9 = .ok (.if_icmp .ge 7, 3) := by decide +kernel
theorem dX4_hasByte_12 : decode cX4_hasByte 12 = .ok (.iconst 1, 1) := by decide +kernel
theorem dX4_hasByte_13 : decode cX4_hasByte 13 = .ok (.goto 4, 3) := by decide +kernel
theorem dX4_hasByte_16 : decode cX4_hasByte 16 = .ok (.iconst 0, 1) := by decide +kernel
theorem dX4_hasByte_17 : decode cX4_hasByte 17 = .ok (.ireturn, 1) := by decide +kernel
set_option maxRecDepth 20000 in
theorem ggX4_byteOrNone_X4_hasByte : GoodIn wsX4_byteOrNone wsX4_hasByte := goodIn_r _ [6, 7, 8, 9] (by decide +kernel) (by decide +kernel)
set_option maxRecDepth 20000 in
theorem gX4_byteOrNone_X4_hasByte : GoodIn wsX4_byteOrNone (wsV RX4 19 RX4 yX4_hasByte wsX4_hasByte) := goodIn_app (goodIn_of _ (by decide +kernel)) ggX4_byteOrNone_X4_hasByte
theorem dX4_byteOrNone_0 : decode cX4_byteOrNone 0 = .ok (.aload_n 0, 1) := by decide +kernel
theorem dX4_byteOrNone_1 : decode cX4_byteOrNone 1 = .ok (.iload_n 1, 1) := by decide +kernel
theorem dX4_byteOrNone_2 : decode cX4_byteOrNone 2 = .ok (.invokevirtual 19, 3) := by decide +kernel
theorem dX4_byteOrNone_5 : decode cX4_byteOrNone 5 = .ok (.ifCond .eq 12, 3) := by decide +kernel
theorem dX4_byteOrNone_8 : decode cX4_byteOrNone 8 = .ok (.aload_n 0, 1) := by decide +kernel
theorem dX4_byteOrNone_9 : decode cX4_byteOrNone 9 = .ok (.getfield 9, 3) := by decide +kernel
theorem dX4_byteOrNone_12 : decode cX4_byteOrNone 12 = .ok (.iload_n 1, 1) := by decide +kernel
theorem dX4_byteOrNone_13 : decode cX4_byteOrNone 13 = .ok (.iaload, 1) := by decide +kernel
theorem dX4_byteOrNone_14 : decode cX4_byteOrNone 14 = .ok (.goto 4, 3) := by decide +kernel
theorem dX4_byteOrNone_17 : decode cX4_byteOrNone 17 = .ok (.iconst (-1), 1) := by decide +kernel
theorem dX4_byteOrNone_18 : decode cX4_byteOrNone 18 = .ok (.ireturn, 1) := by decide +kernel
set_option maxRecDepth 20000 in
theorem ggX4_splice_X5_countBytes : GoodIn wsX4_splice wsX5_countBytes := goodIn_r _ [9, 10, 11, 8, 12] (by decide +kernel) (by decide +kernel)
set_option maxRecDepth 20000 in
theorem gX4_splice_X5_countBytes_n23 : GoodIn wsX4_splice (wsX5_countBytes) := ggX4_splice_X5_countBytes
set_option maxRecDepth 20000 in
theorem ggX4_splice_X5_packedByte : GoodIn wsX4_splice wsX5_packedByte := goodIn_r _ [12] (by decide +kernel) (by decide +kernel)
set_option maxRecDepth 20000 in
theorem gX4_splice_X5_packedByte_n33 : GoodIn wsX4_splice (wsX5_packedByte) := ggX4_splice_X5_packedByte
theorem dX4_splice_0 : decode cX4_splice 0 = .ok (.lload_n 3, 1) := by decide +kernel
theorem dX4_splice_1 : decode cX4_splice 1 = .ok (.invokestatic 23, 3) := by decide +kernel
theorem dX4_splice_4 : decode cX4_splice 4 = .ok (.istore 5, 2) := by decide +kernel
theorem dX4_splice_6 : decode cX4_splice 6 = .ok (.iload_n 1, 1) := by decide +kernel
theorem dX4_splice_7 : decode cX4_splice 7 = .ok (.iload_n 2, 1) := by decide +kernel
theorem dX4_splice_8 : decode cX4_splice 8 = .ok (.iadd, 1) := by decide +kernel
theorem dX4_splice_9 : decode cX4_splice 9 = .ok (.istore 6, 2) := by decide +kernel
theorem dX4_splice_11 : decode cX4_splice 11 = .ok (.aload_n 0, 1) := by decide +kernel
theorem dX4_splice_12 : decode cX4_splice 12 = .ok (.getfield 9, 3) := by decide +kernel
theorem dX4_splice_15 : decode cX4_splice 15 = .ok (.iload 6, 2) := by decide +kernel
theorem dX4_splice_17 : decode cX4_splice 17 = .ok (.aload_n 0, 1) := by decide +kernel
theorem dX4_splice_18 : decode cX4_splice 18 = .ok (.getfield 9, 3) := by decide +kernel
theorem dX4_splice_21 : decode cX4_splice 21 = .ok (.iload_n 1, 1) := by decide +kernel
theorem dX4_splice_22 : decode cX4_splice 22 = .ok (.iload 5, 2) := by decide +kernel
theorem dX4_splice_24 : decode cX4_splice 24 = .ok (.iadd, 1) := by decide +kernel
theorem dX4_splice_25 : decode cX4_splice 25 = .ok (.aload_n 0, 1) := by decide +kernel
theorem dX4_splice_26 : decode cX4_splice 26 = .ok (.getfield 15, 3) := by decide +kernel
theorem dX4_splice_29 : decode cX4_splice 29 = .ok (.iload 6, 2) := by decide +kernel
theorem dX4_splice_31 : decode cX4_splice 31 = .ok (.isub, 1) := by decide +kernel
theorem dX4_splice_32 : decode cX4_splice 32 = .ok (.invokestatic 27, 3) := by decide +kernel
theorem dX4_splice_35 : decode cX4_splice 35 = .ok (.iload_n 1, 1) := by decide +kernel
theorem dX4_splice_36 : decode cX4_splice 36 = .ok (.istore 7, 2) := by decide +kernel
theorem dX4_splice_38 : decode cX4_splice 38 = .ok (.iconst 0, 1) := by decide +kernel
theorem dX4_splice_39 : decode cX4_splice 39 = .ok (.istore 8, 2) := by decide +kernel
theorem dX4_splice_41 : decode cX4_splice 41 = .ok (.iload 8, 2) := by decide +kernel
theorem dX4_splice_43 : decode cX4_splice 43 = .ok (.bipush 8, 2) := by decide +kernel
theorem dX4_splice_45 : decode cX4_splice 45 = .ok (.if_icmp .ge 34, 3) := by decide +kernel
theorem dX4_splice_48 : decode cX4_splice 48 = .ok (.lload_n 3, 1) := by decide +kernel
theorem dX4_splice_49 : decode cX4_splice 49 = .ok (.iload 8, 2) := by decide +kernel
theorem dX4_splice_51 : decode cX4_splice 51 = .ok (.invokestatic 33, 3) := by decide +kernel
theorem dX4_splice_54 : decode cX4_splice 54 = .ok (.istore 9, 2) := by decide +kernel
theorem dX4_splice_56 : decode cX4_splice 56 = .ok (.iload 9, 2) := by decide +kernel
theorem dX4_splice_58 : decode cX4_splice 58 = .ok (.ifCond .eq 15, 3) := by decide +kernel
theorem dX4_splice_61 : decode cX4_splice 61 = .ok (.aload_n 0, 1) := by decide +kernel
theorem dX4_splice_62 : decode cX4_splice 62 = .ok (.getfield 9, 3) := by decide +kernel
theorem dX4_splice_65 : decode cX4_splice 65 = .ok (.iload 7, 2) := by decide +kernel
theorem dX4_splice_67 : decode cX4_splice 67 = .ok (.iload 9, 2) := by decide +kernel
theorem dX4_splice_69 : decode cX4_splice 69 = .ok (.iastore, 1) := by decide +kernel
theorem dX4_splice_70 : decode cX4_splice 70 = .ok (.iinc 7 1, 3) := by decide +kernel
theorem dX4_splice_73 : decode cX4_splice 73 = .ok (.iinc 8 1, 3) := by decide +kernel
theorem dX4_splice_76 : decode cX4_splice 76 = .ok (.goto (-35), 3) := by decide +kernel
theorem dX4_splice_79 : decode cX4_splice 79 = .ok (.aload_n 0, 1) := by decide +kernel
theorem dX4_splice_80 : decode cX4_splice 80 = .ok (.dup, 1) := by decide +kernel
theorem dX4_splice_81 : decode cX4_splice 81 = .ok (.getfield 15, 3) := by decide +kernel
theorem dX4_splice_84 : decode cX4_splice 84 = .ok (.iload 5, 2) := by decide +kernel
theorem dX4_splice_86 : decode cX4_splice 86 = .ok (.iload_n 2, 1) := by decide +kernel
theorem dX4_splice_87 : decode cX4_splice 87 = .ok (.isub, 1) := by decide +kernel
theorem dX4_splice_88 : decode cX4_splice 88 = .ok (.iadd, 1) := by decide +kernel
theorem dX4_splice_89 : decode cX4_splice 89 = .ok (.putfield 15, 3) := by decide +kernel
theorem dX4_splice_92 : decode cX4_splice 92 = .ok (.return_, 1) := by decide +kernel
set_option maxRecDepth 20000 in
theorem ggX4_addToDigest_X5_mix : GoodIn wsX4_addToDigest wsX5_mix := goodIn_r _ [5, 6] (by decide +kernel) (by decide +kernel)
set_option maxRecDepth 20000 in
theorem gX4_addToDigest_X5_mix_n37 : GoodIn wsX4_addToDigest (wsX5_mix) := ggX4_addToDigest_X5_mix
theorem dX4_addToDigest_0 : decode cX4_addToDigest 0 = .ok (.lload_n 1, 1) := by decide +kernel
theorem dX4_addToDigest_1 : decode cX4_addToDigest 1 = .ok (.aload_n 0, 1) := by decide +kernel
theorem dX4_addToDigest_2 : decode cX4_addToDigest 2 = .ok (.getfield 15, 3) := by decide +kernel
theorem dX4_addToDigest_5 : decode cX4_addToDigest 5 = .ok (.invokestatic 37, 3) := by decide +kernel
theorem dX4_addToDigest_8 : decode cX4_addToDigest 8 = .ok (.lstore_n 3, 1) := by decide +kernel
theorem dX4_addToDigest_9 : decode cX4_addToDigest 9 = .ok (.iconst 0, 1) := by decide +kernel
theorem dX4_addToDigest_10 : decode cX4_addToDigest 10 = .ok (.istore 5, 2) := by decide +kernel
theorem dX4_addToDigest_12 : decode cX4_addToDigest 12 = .ok (.iload 5, 2) := by decide +kernel
theorem dX4_addToDigest_14 : decode cX4_addToDigest 14 = .ok (.aload_n 0, 1) := by decide +kernel
theorem dX4_addToDigest_15 : decode cX4_addToDigest 15 = .ok (.getfield 15, 3) := by decide +kernel
theorem dX4_addToDigest_18 : decode cX4_addToDigest 18 = .ok (.if_icmp .ge 21, 3) := by decide +kernel
theorem dX4_addToDigest_21 : decode cX4_addToDigest 21 = .ok (.lload_n 3, 1) := by decide +kernel
theorem dX4_addToDigest_22 : decode cX4_addToDigest 22 = .ok (.aload_n 0, 1) := by decide +kernel
theorem dX4_addToDigest_23 : decode cX4_addToDigest 23 = .ok (.getfield 9, 3) := by decide +kernel
theorem dX4_addToDigest_26 : decode cX4_addToDigest 26 = .ok (.iload 5, 2) := by decide +kernel
theorem dX4_addToDigest_28 : decode cX4_addToDigest 28 = .ok (.iaload, 1) := by decide +kernel
theorem dX4_addToDigest_29 : decode cX4_addToDigest 29 = .ok (.invokestatic 37, 3) := by decide +kernel
theorem dX4_addToDigest_32 : decode cX4_addToDigest 32 = .ok (.lstore_n 3, 1) := by decide +kernel
theorem dX4_addToDigest_33 : decode cX4_addToDigest 33 = .ok (.iinc 5 1, 3) := by decide +kernel
theorem dX4_addToDigest_36 : decode cX4_addToDigest 36 = .ok (.goto (-24), 3) := by decide +kernel
theorem dX4_addToDigest_39 : decode cX4_addToDigest 39 = .ok (.lload_n 3, 1) := by decide +kernel
theorem dX4_addToDigest_40 : decode cX4_addToDigest 40 = .ok (.lreturn, 1) := by decide +kernel
set_option maxRecDepth 20000 in
theorem ggX5_init_X0_init : GoodIn wsX5_init wsX0_init := goodIn_r _ [22, 23, 2, 3, 24, 25, 26, 27, 28, 29, 30, 31, 32, 33, 34, 35, 36, 37, 82, 83, 84, 85, 86, 87, 88, 89] (by decide +kernel) (by decide +kernel)
set_option maxRecDepth 20000 in
theorem gX5_init_X0_init : GoodIn wsX5_init (wsX0_init) := ggX5_init_X0_init
set_option maxRecDepth 20000 in
theorem ggX5_init_X4_init : GoodIn wsX5_init wsX4_init := goodIn_r _ [39, 40, 2, 3, 24, 41, 42, 94, 95] (by decide +kernel) (by decide +kernel)
set_option maxRecDepth 20000 in
theorem gX5_init_X4_init_n18 : GoodIn wsX5_init (wsX4_init) := ggX5_init_X4_init
set_option maxRecDepth 20000 in
theorem ggX5_init_X1_init : GoodIn wsX5_init wsX1_init := goodIn_r _ [45, 46, 2, 3, 24, 47, 48, 49, 50, 35, 36, 37, 96, 97, 98] (by decide +kernel) (by decide +kernel)
set_option maxRecDepth 20000 in
theorem gX5_init_X1_init : GoodIn wsX5_init (wsX1_init) := ggX5_init_X1_init
set_option maxRecDepth 20000 in
theorem ggX5_init_X3_init : GoodIn wsX5_init wsX3_init := goodIn_r _ [53, 54, 2, 3, 55, 56, 57, 58, 59, 60, 61, 62, 63, 64, 65, 66, 67, 68, 69, 70, 24, 71, 72, 73, 30, 74, 75, 76, 77, 78, 79, 80, 81, 35, 36, 37, 108, 109, 110, 111, 112, 113, 114, 115, 116, 117, 99, 100, 101, 102, 103, 104, 105, 106, 107] (by decide +kernel) (by decide +kernel)
set_option maxRecDepth 20000 in
theorem gX5_init_X3_init : GoodIn wsX5_init (wsX3_init) := ggX5_init_X3_init
theorem dX5_init_0 : decode cX5_init 0 = .ok (.aload_n 0, 1) := by decide +kernel
theorem dX5_init_1 : decode cX5_init 1 = .ok (.invokespecial 3, 3) := by decide +kernel
theorem dX5_init_4 : decode cX5_init 4 = .ok (.aload_n 0, 1) := by decide +kernel
theorem dX5_init_5 : decode cX5_init 5 = .ok (.new 9, 3) := by decide +kernel
theorem dX5_init_8 : decode cX5_init 8 = .ok (.dup, 1) := by decide +kernel
theorem dX5_init_9 : decode cX5_init 9 = .ok (.invokespecial 11, 3) := by decide +kernel
theorem dX5_init_12 : decode cX5_init 12 = .ok (.putfield 12, 3) := by decide +kernel
theorem dX5_init_15 : decode cX5_init 15 = .ok (.aload_n 0, 1) := by decide +kernel
theorem dX5_init_16 : decode cX5_init 16 = .ok (.new 16, 3) := by decide +kernel
theorem dX5_init_19 : decode cX5_init 19 = .ok (.dup, 1) := by decide +kernel
theorem dX5_init_20 : decode cX5_init 20 = .ok (.invokespecial 18, 3) := by decide +kernel
theorem dX5_init_23 : decode cX5_init 23 = .ok (.putfield 19, 3) := by decide +kernel
theorem dX5_init_26 : decode cX5_init 26 = .ok (.aload_n 0, 1) := by decide +kernel
theorem dX5_init_27 : decode cX5_init 27 = .ok (.new 23, 3) := by decide +kernel
theorem dX5_init_30 : decode cX5_init 30 = .ok (.dup, 1) := by decide +kernel
theorem dX5_init_31 : decode cX5_init 31 = .ok (.invokespecial 25, 3) := by decide +kernel
theorem dX5_init_34 : decode cX5_init 34 = .ok (.putfield 26, 3) := by decide +kernel
theorem dX5_init_37 : decode cX5_init 37 = .ok (.aload_n 0, 1) := by decide +kernel
theorem dX5_init_38 : decode cX5_init 38 = .ok (.new 30, 3) := by decide +kernel
theorem dX5_init_41 : decode cX5_init 41 = .ok (.dup, 1) := by decide +kernel
theorem dX5_init_42 : decode cX5_init 42 = .ok (.aload_n 0, 1) := by decide +kernel
theorem dX5_init_43 : decode cX5_init 43 = .ok (.getfield 12, 3) := by decide +kernel
theorem dX5_init_46 : decode cX5_init 46 = .ok (.aload_n 0, 1) := by decide +kernel
theorem dX5_init_47 : decode cX5_init 47 = .ok (.getfield 19, 3) := by decide +kernel
theorem dX5_init_50 : decode cX5_init 50 = .ok (.aload_n 0, 1) := by decide +kernel
theorem dX5_init_51 : decode cX5_init 51 = .ok (.getfield 26, 3) := by decide +kernel
theorem dX5_init_54 : decode cX5_init 54 = .ok (.invokespecial 32, 3) := by decide +kernel
theorem dX5_init_57 : decode cX5_init 57 = .ok (.putfield 35, 3) := by decide +kernel
theorem dX5_init_60 : decode cX5_init 60 = .ok (.return_, 1) := by decide +kernel
set_option maxRecDepth 20000 in
theorem ggX5_plain_X5_refuseIfFull : GoodIn wsX5_plain wsX5_refuseIfFull := goodIn_ca (goodIn_r _ [8, 9, 10, 3, 11, 12, 13, 14, 15, 16, 24, 25, 26, 27, 28, 29, 30, 31, 32, 33, 34, 35] (by decide +kernel) (by decide +kernel)) (goodIn_sub (fun _ h => List.mem_cons_of_mem _ (List.mem_append_right _ h)) (by decide +kernel))
set_option maxRecDepth 20000 in
theorem gX5_plain_X5_refuseIfFull : GoodIn wsX5_plain (wsV RX5 46 RX5 yX5_refuseIfFull wsX5_refuseIfFull) := goodIn_app (goodIn_of _ (by decide +kernel)) ggX5_plain_X5_refuseIfFull
set_option maxRecDepth 20000 in
theorem ggX5_plain_X0_add : GoodIn wsX5_plain wsX0_add := goodIn_r _ [20, 16, 21, 22, 23, 28, 29, 30, 31, 32, 33, 34, 35] (by decide +kernel) (by decide +kernel)
set_option maxRecDepth 20000 in
theorem gX5_plain_X0_add : GoodIn wsX5_plain (wsV RX5 49 RX0 yX0_add wsX0_add) := goodIn_app (goodIn_of _ (by decide +kernel)) ggX5_plain_X0_add
theorem dX5_plain_0 : decode cX5_plain 0 = .ok (.iload_n 1, 1) := by decide +kernel
theorem dX5_plain_1 : decode cX5_plain 1 = .ok (.ifCond .eq 18, 3) := by decide +kernel
theorem dX5_plain_4 : decode cX5_plain 4 = .ok (.iload_n 1, 1) := by decide +kernel
theorem dX5_plain_5 : decode cX5_plain 5 = .ok (.iconst 1, 1) := by decide +kernel
theorem dX5_plain_6 : decode cX5_plain 6 = .ok (.if_icmp .eq 13, 3) := by decide +kernel
theorem dX5_plain_9 : decode cX5_plain 9 = .ok (.new 39, 3) := by decide +kernel
theorem dX5_plain_12 : decode cX5_plain 12 = .ok (.dup, 1) := by decide +kernel
theorem dX5_plain_13 : decode cX5_plain 13 = .ok (.ldc 41, 2) := by decide +kernel
theorem dX5_plain_15 : decode cX5_plain 15 = .ok (.invokespecial 43, 3) := by decide +kernel
theorem dX5_plain_18 : decode cX5_plain 18 = .ok (.athrow, 1) := by decide +kernel
theorem dX5_plain_19 : decode cX5_plain 19 = .ok (.aload_n 0, 1) := by decide +kernel
theorem dX5_plain_20 : decode cX5_plain 20 = .ok (.invokevirtual 46, 3) := by decide +kernel
theorem dX5_plain_23 : decode cX5_plain 23 = .ok (.aload_n 0, 1) := by decide +kernel
theorem dX5_plain_24 : decode cX5_plain 24 = .ok (.getfield 12, 3) := by decide +kernel
theorem dX5_plain_27 : decode cX5_plain 27 = .ok (.iload_n 1, 1) := by decide +kernel
theorem dX5_plain_28 : decode cX5_plain 28 = .ok (.iconst (-1), 1) := by decide +kernel
theorem dX5_plain_29 : decode cX5_plain 29 = .ok (.iconst (-1), 1) := by decide +kernel
theorem dX5_plain_30 : decode cX5_plain 30 = .ok (.invokevirtual 49, 3) := by decide +kernel
theorem dX5_plain_33 : decode cX5_plain 33 = .ok (.ireturn, 1) := by decide +kernel
set_option maxRecDepth 20000 in
theorem ggX5_range_X5_isByte : GoodIn wsX5_range wsX5_isByte := goodIn_r _ [7] (by decide +kernel) (by decide +kernel)
set_option maxRecDepth 20000 in
theorem gX5_range_X5_isByte : GoodIn wsX5_range (va_wsS RX5 53 yX5_isByte wsX5_isByte) := goodIn_app (goodIn_of _ (by decide +kernel)) ggX5_range_X5_isByte
set_option maxRecDepth 20000 in
theorem ggX5_range_X5_refuseIfFull : GoodIn wsX5_range wsX5_refuseIfFull := goodIn_ca (goodIn_r _ [11, 12, 13, 3, 14, 15, 16, 17, 18, 19, 27, 28, 29, 30, 31, 32, 33, 34, 35, 36, 37, 38] (by decide +kernel) (by decide +kernel)) (goodIn_sub (fun _ h => List.mem_cons_of_mem _ (List.mem_append_right _ h)) (by decide +kernel))
set_option maxRecDepth 20000 in
theorem gX5_range_X5_refuseIfFull : GoodIn wsX5_range (wsV RX5 46 RX5 yX5_refuseIfFull wsX5_refuseIfFull) := goodIn_app (goodIn_of _ (by decide +kernel)) ggX5_range_X5_refuseIfFull
set_option maxRecDepth 20000 in
theorem ggX5_range_X0_add : GoodIn wsX5_range wsX0_add := goodIn_r _ [23, 19, 24, 25, 26, 31, 32, 33, 34, 35, 36, 37, 38] (by decide +kernel) (by decide +kernel)
set_option maxRecDepth 20000 in
theorem gX5_range_X0_add : GoodIn wsX5_range (wsV RX5 49 RX0 yX0_add wsX0_add) := goodIn_app (goodIn_of _ (by decide +kernel)) ggX5_range_X0_add
theorem dX5_range_0 : decode cX5_range 0 = .ok (.iload_n 1, 1) := by decide +kernel
theorem dX5_range_1 : decode cX5_range 1 = .ok (.invokestatic 53, 3) := by decide +kernel
theorem dX5_range_4 : decode cX5_range 4 = .ok (.ifCond .eq 15, 3) := by decide +kernel
theorem dX5_range_7 : decode cX5_range 7 = .ok (.iload_n 2, 1) := by decide +kernel
theorem dX5_range_8 : decode cX5_range 8 = .ok (.invokestatic 53, 3) := by decide +kernel
theorem dX5_range_11 : decode cX5_range 11 = .ok (.ifCond .eq 8, 3) := by decide +kernel
theorem dX5_range_14 : decode cX5_range 14 = .ok (.iload_n 1, 1) := by decide +kernel
theorem dX5_range_15 : decode cX5_range 15 = .ok (.iload_n 2, 1) := by decide +kernel
theorem dX5_range_16 : decode cX5_range 16 = .ok (.if_icmp .le 13, 3) := by decide +kernel
theorem dX5_range_19 : decode cX5_range 19 = .ok (.new 39, 3) := by decide +kernel
theorem dX5_range_22 : decode cX5_range 22 = .ok (.dup, 1) := by decide +kernel
theorem dX5_range_23 : decode cX5_range 23 = .ok (.ldc 57, 2) := by decide +kernel
theorem dX5_range_25 : decode cX5_range 25 = .ok (.invokespecial 43, 3) := by decide +kernel
theorem dX5_range_28 : decode cX5_range 28 = .ok (.athrow, 1) := by decide +kernel
theorem dX5_range_29 : decode cX5_range 29 = .ok (.aload_n 0, 1) := by decide +kernel
theorem dX5_range_30 : decode cX5_range 30 = .ok (.invokevirtual 46, 3) := by decide +kernel
theorem dX5_range_33 : decode cX5_range 33 = .ok (.aload_n 0, 1) := by decide +kernel
theorem dX5_range_34 : decode cX5_range 34 = .ok (.getfield 12, 3) := by decide +kernel
theorem dX5_range_37 : decode cX5_range 37 = .ok (.iconst 2, 1) := by decide +kernel
theorem dX5_range_38 : decode cX5_range 38 = .ok (.iload_n 1, 1) := by decide +kernel
theorem dX5_range_39 : decode cX5_range 39 = .ok (.iload_n 2, 1) := by decide +kernel
theorem dX5_range_40 : decode cX5_range 40 = .ok (.invokevirtual 49, 3) := by decide +kernel
theorem dX5_range_43 : decode cX5_range 43 = .ok (.ireturn, 1) := by decide +kernel
set_option maxRecDepth 20000 in
theorem ggX5_rule_X5_refuseUnknownRule : GoodIn wsX5_rule wsX5_refuseUnknownRule := goodIn_ca (goodIn_r _ [5, 6, 7] (by decide +kernel) (by decide +kernel)) (goodIn_sub (fun _ h => List.mem_cons_of_mem _ (List.mem_append_left _ (List.mem_append_right _ h))) (by decide +kernel))
set_option maxRecDepth 20000 in
theorem gX5_rule_X5_refuseUnknownRule : GoodIn wsX5_rule (va_wsS RX5 59 yX5_refuseUnknownRule wsX5_refuseUnknownRule) := goodIn_app (goodIn_of _ (by decide +kernel)) ggX5_rule_X5_refuseUnknownRule
set_option maxRecDepth 20000 in
theorem ggX5_rule_X5_refuseIfFull : GoodIn wsX5_rule wsX5_refuseIfFull := goodIn_ca (goodIn_r _ [11, 12, 13, 1, 14, 15, 16, 17, 18, 19, 27, 28, 29, 30, 31, 32, 33, 34, 35, 36, 37, 38] (by decide +kernel) (by decide +kernel)) (goodIn_sub (fun _ h => List.mem_cons_of_mem _ (List.mem_append_right _ h)) (by decide +kernel))
set_option maxRecDepth 20000 in
theorem gX5_rule_X5_refuseIfFull : GoodIn wsX5_rule (wsV RX5 46 RX5 yX5_refuseIfFull wsX5_refuseIfFull) := goodIn_app (goodIn_of _ (by decide +kernel)) ggX5_rule_X5_refuseIfFull
set_option maxRecDepth 20000 in
theorem ggX5_rule_X0_add : GoodIn wsX5_rule wsX0_add := goodIn_r _ [23, 19, 24, 25, 26, 31, 32, 33, 34, 35, 36, 37, 38] (by decide +kernel) (by decide +kernel)
set_option maxRecDepth 20000 in
theorem gX5_rule_X0_add : GoodIn wsX5_rule (wsV RX5 49 RX0 yX0_add wsX0_add) := goodIn_app (goodIn_of _ (by decide +kernel)) ggX5_rule_X0_add
theorem dX5_rule_0 : decode cX5_rule 0 = .ok (.iload_n 1, 1) := by decide +kernel
theorem dX5_rule_1 : decode cX5_rule 1 = .ok (.invokestatic 59, 3) := by decide +kernel
theorem dX5_rule_4 : decode cX5_rule 4 = .ok (.aload_n 0, 1) := by decide +kernel
theorem dX5_rule_5 : decode cX5_rule 5 = .ok (.invokevirtual 46, 3) := by decide +kernel
theorem dX5_rule_8 : decode cX5_rule 8 = .ok (.aload_n 0, 1) := by decide +kernel
theorem dX5_rule_9 : decode cX5_rule 9 = .ok (.getfield 12, 3) := by decide +kernel
theorem dX5_rule_12 : decode cX5_rule 12 = .ok (.iconst 3, 1) := by decide +kernel
theorem dX5_rule_13 : decode cX5_rule 13 = .ok (.iload_n 1, 1) := by decide +kernel
theorem dX5_rule_14 : decode cX5_rule 14 = .ok (.iconst (-1), 1) := by decide +kernel
theorem dX5_rule_15 : decode cX5_rule 15 = .ok (.invokevirtual 49, 3) := by decide +kernel
theorem dX5_rule_18 : decode cX5_rule 18 = .ok (.ireturn, 1) := by decide +kernel
set_option maxRecDepth 20000 in
theorem ggX5_join_X5_refuseUnknownExpression : GoodIn wsX5_join wsX5_refuseUnknownExpression := goodIn_ca (goodIn_r _ [8, 9, 10, 3, 11, 12, 13, 14, 15, 16, 34, 35, 36, 37, 38, 39, 40, 41, 42, 43, 44, 45] (by decide +kernel) (by decide +kernel)) (goodIn_sub (fun _ h => List.mem_cons_of_mem _ (List.mem_append_left _ (List.mem_append_right _ h))) (by decide +kernel))
set_option maxRecDepth 20000 in
theorem gX5_join_X5_refuseUnknownExpression : GoodIn wsX5_join (wsV RX5 63 RX5 yX5_refuseUnknownExpression wsX5_refuseUnknownExpression) := goodIn_app (goodIn_of _ (by decide +kernel)) ggX5_join_X5_refuseUnknownExpression
set_option maxRecDepth 20000 in
theorem ggX5_join_X5_refuseIfFull : GoodIn wsX5_join wsX5_refuseIfFull := goodIn_ca (goodIn_r _ [20, 21, 22, 3, 23, 24, 25, 14, 26, 16, 34, 35, 36, 37, 38, 39, 40, 41, 42, 43, 44, 45] (by decide +kernel) (by decide +kernel)) (goodIn_sub (fun _ h => List.mem_cons_of_mem _ (List.mem_append_right _ h)) (by decide +kernel))
set_option maxRecDepth 20000 in
theorem gX5_join_X5_refuseIfFull : GoodIn wsX5_join (wsV RX5 46 RX5 yX5_refuseIfFull wsX5_refuseIfFull) := goodIn_app (goodIn_of _ (by decide +kernel)) ggX5_join_X5_refuseIfFull
set_option maxRecDepth 20000 in
theorem ggX5_join_X0_add : GoodIn wsX5_join wsX0_add := goodIn_r _ [30, 16, 31, 32, 33, 38, 39, 40, 41, 42, 43, 44, 45] (by decide +kernel) (by decide +kernel)
set_option maxRecDepth 20000 in
theorem gX5_join_X0_add : GoodIn wsX5_join (wsV RX5 49 RX0 yX0_add wsX0_add) := goodIn_app (goodIn_of _ (by decide +kernel)) ggX5_join_X0_add
theorem dX5_join_0 : decode cX5_join 0 = .ok (.aload_n 0, 1) := by decide +kernel
theorem dX5_join_1 : decode cX5_join 1 = .ok (.iload_n 2, 1) := by decide +kernel
theorem dX5_join_2 : decode cX5_join 2 = .ok (.invokevirtual 63, 3) := by decide +kernel
theorem dX5_join_5 : decode cX5_join 5 = .ok (.aload_n 0, 1) := by decide +kernel
theorem dX5_join_6 : decode cX5_join 6 = .ok (.iload_n 3, 1) := by decide +kernel
theorem dX5_join_7 : decode cX5_join 7 = .ok (.invokevirtual 63, 3) := by decide +kernel
theorem dX5_join_10 : decode cX5_join 10 = .ok (.iload_n 1, 1) := by decide +kernel
theorem dX5_join_11 : decode cX5_join 11 = .ok (.iconst 4, 1) := by decide +kernel
theorem dX5_join_12 : decode cX5_join 12 = .ok (.if_icmp .eq 18, 3) := by decide +kernel
theorem dX5_join_15 : decode cX5_join 15 = .ok (.iload_n 1, 1) := by decide +kernel
theorem dX5_join_16 : decode cX5_join 16 = .ok (.iconst 5, 1) := by decide +kernel
theorem dX5_join_17 : decode cX5_join 17 = .ok (.if_icmp .eq 13, 3) := by decide +kernel
theorem dX5_join_20 : decode cX5_join 20 = .ok (.new 39, 3) := by decide +kernel
theorem dX5_join_23 : decode cX5_join 23 = .ok (.dup, 1) := by decide +kernel
theorem dX5_join_24 : decode cX5_join 24 = .ok (.ldc 66, 2) := by decide +kernel
theorem dX5_join_26 : decode cX5_join 26 = .ok (.invokespecial 43, 3) := by decide +kernel
theorem dX5_join_29 : decode cX5_join 29 = .ok (.athrow, 1) := by decide +kernel
theorem dX5_join_30 : decode cX5_join 30 = .ok (.aload_n 0, 1) := by decide +kernel
theorem dX5_join_31 : decode cX5_join 31 = .ok (.invokevirtual 46, 3) := by decide +kernel
theorem dX5_join_34 : decode cX5_join 34 = .ok (.aload_n 0, 1) := by decide +kernel
theorem dX5_join_35 : decode cX5_join 35 = .ok (.getfield 12, 3) := by decide +kernel
theorem dX5_join_38 : decode cX5_join 38 = .ok (.iload_n 1, 1) := by decide +kernel
theorem dX5_join_39 : decode cX5_join 39 = .ok (.iload_n 2, 1) := by decide +kernel
theorem dX5_join_40 : decode cX5_join 40 = .ok (.iload_n 3, 1) := by decide +kernel
theorem dX5_join_41 : decode cX5_join 41 = .ok (.invokevirtual 49, 3) := by decide +kernel
theorem dX5_join_44 : decode cX5_join 44 = .ok (.ireturn, 1) := by decide +kernel
set_option maxRecDepth 20000 in
theorem ggX5_wrap_X5_refuseUnknownExpression : GoodIn wsX5_wrap wsX5_refuseUnknownExpression := goodIn_ca (goodIn_r _ [8, 9, 10, 3, 11, 12, 13, 14, 15, 16, 34, 35, 36, 37, 38, 39, 40, 41, 42, 43, 44, 45] (by decide +kernel) (by decide +kernel)) (goodIn_sub (fun _ h => List.mem_cons_of_mem _ (List.mem_append_left _ (List.mem_append_right _ h))) (by decide +kernel))
set_option maxRecDepth 20000 in
theorem gX5_wrap_X5_refuseUnknownExpression : GoodIn wsX5_wrap (wsV RX5 63 RX5 yX5_refuseUnknownExpression wsX5_refuseUnknownExpression) := goodIn_app (goodIn_of _ (by decide +kernel)) ggX5_wrap_X5_refuseUnknownExpression
set_option maxRecDepth 20000 in
theorem ggX5_wrap_X5_refuseIfFull : GoodIn wsX5_wrap wsX5_refuseIfFull := goodIn_ca (goodIn_r _ [20, 21, 22, 3, 23, 24, 25, 14, 26, 16, 34, 35, 36, 37, 38, 39, 40, 41, 42, 43, 44, 45] (by decide +kernel) (by decide +kernel)) (goodIn_sub (fun _ h => List.mem_cons_of_mem _ (List.mem_append_right _ h)) (by decide +kernel))
set_option maxRecDepth 20000 in
theorem gX5_wrap_X5_refuseIfFull : GoodIn wsX5_wrap (wsV RX5 46 RX5 yX5_refuseIfFull wsX5_refuseIfFull) := goodIn_app (goodIn_of _ (by decide +kernel)) ggX5_wrap_X5_refuseIfFull
set_option maxRecDepth 20000 in
theorem ggX5_wrap_X0_add : GoodIn wsX5_wrap wsX0_add := goodIn_r _ [30, 16, 31, 32, 33, 38, 39, 40, 41, 42, 43, 44, 45] (by decide +kernel) (by decide +kernel)
set_option maxRecDepth 20000 in
theorem gX5_wrap_X0_add : GoodIn wsX5_wrap (wsV RX5 49 RX0 yX0_add wsX0_add) := goodIn_app (goodIn_of _ (by decide +kernel)) ggX5_wrap_X0_add
theorem dX5_wrap_0 : decode cX5_wrap 0 = .ok (.aload_n 0, 1) := by decide +kernel
theorem dX5_wrap_1 : decode cX5_wrap 1 = .ok (.iload_n 2, 1) := by decide +kernel
theorem dX5_wrap_2 : decode cX5_wrap 2 = .ok (.invokevirtual 63, 3) := by decide +kernel
theorem dX5_wrap_5 : decode cX5_wrap 5 = .ok (.iload_n 1, 1) := by decide +kernel
theorem dX5_wrap_6 : decode cX5_wrap 6 = .ok (.bipush 6, 2) := by decide +kernel
theorem dX5_wrap_8 : decode cX5_wrap 8 = .ok (.if_icmp .lt 9, 3) := by decide +kernel
theorem dX5_wrap_11 : decode cX5_wrap 11 = .ok (.iload_n 1, 1) := by decide +kernel
theorem dX5_wrap_12 : decode cX5_wrap 12 = .ok (.bipush 9, 2) := by decide +kernel
theorem dX5_wrap_14 : decode cX5_wrap 14 = .ok (.if_icmp .le 13, 3) := by decide +kernel
theorem dX5_wrap_17 : decode cX5_wrap 17 = .ok (.new 39, 3) := by decide +kernel
theorem dX5_wrap_20 : decode cX5_wrap 20 = .ok (.dup, 1) := by decide +kernel
theorem dX5_wrap_21 : decode cX5_wrap 21 = .ok (.ldc 68, 2) := by decide +kernel
theorem dX5_wrap_23 : decode cX5_wrap 23 = .ok (.invokespecial 43, 3) := by decide +kernel
theorem dX5_wrap_26 : decode cX5_wrap 26 = .ok (.athrow, 1) := by decide +kernel
theorem dX5_wrap_27 : decode cX5_wrap 27 = .ok (.aload_n 0, 1) := by decide +kernel
theorem dX5_wrap_28 : decode cX5_wrap 28 = .ok (.invokevirtual 46, 3) := by decide +kernel
theorem dX5_wrap_31 : decode cX5_wrap 31 = .ok (.aload_n 0, 1) := by decide +kernel
theorem dX5_wrap_32 : decode cX5_wrap 32 = .ok (.getfield 12, 3) := by decide +kernel
theorem dX5_wrap_35 : decode cX5_wrap 35 = .ok (.iload_n 1, 1) := by decide +kernel
theorem dX5_wrap_36 : decode cX5_wrap 36 = .ok (.iload_n 2, 1) := by decide +kernel
theorem dX5_wrap_37 : decode cX5_wrap 37 = .ok (.iconst (-1), 1) := by decide +kernel
theorem dX5_wrap_38 : decode cX5_wrap 38 = .ok (.invokevirtual 49, 3) := by decide +kernel
theorem dX5_wrap_41 : decode cX5_wrap 41 = .ok (.ireturn, 1) := by decide +kernel
set_option maxRecDepth 20000 in
theorem ggX5_define_X5_refuseUnknownRule : GoodIn wsX5_define wsX5_refuseUnknownRule := goodIn_ca (goodIn_r _ [6, 7, 8] (by decide +kernel) (by decide +kernel)) (goodIn_sub (fun _ h => List.mem_cons_of_mem _ (List.mem_append_right _ h)) (by decide +kernel))
set_option maxRecDepth 20000 in
theorem gX5_define_X5_refuseUnknownRule : GoodIn wsX5_define (va_wsS RX5 59 yX5_refuseUnknownRule wsX5_refuseUnknownRule) := goodIn_app (goodIn_of _ (by decide +kernel)) ggX5_define_X5_refuseUnknownRule
set_option maxRecDepth 20000 in
theorem ggX5_define_X5_refuseUnknownExpression : GoodIn wsX5_define wsX5_refuseUnknownExpression := goodIn_ca (goodIn_r _ [12, 7, 8, 2, 13, 14, 15, 16, 17, 18, 40, 41, 42, 43, 44, 45, 46, 47, 48, 49, 50, 51] (by decide +kernel) (by decide +kernel)) (goodIn_sub (fun _ h => List.mem_cons_of_mem _ (List.mem_append_right _ h)) (by decide +kernel))
set_option maxRecDepth 20000 in
theorem gX5_define_X5_refuseUnknownExpression : GoodIn wsX5_define (wsV RX5 63 RX5 yX5_refuseUnknownExpression wsX5_refuseUnknownExpression) := goodIn_app (goodIn_of _ (by decide +kernel)) ggX5_define_X5_refuseUnknownExpression
set_option maxRecDepth 20000 in
theorem ggX5_define_X1_clear : GoodIn wsX5_define wsX1_clear := goodIn_r _ [23, 24, 25, 26, 22, 27, 28, 29, 30, 31, 32, 33, 34, 52, 53, 54] (by decide +kernel) (by decide +kernel)
set_option maxRecDepth 20000 in
theorem gX5_define_X1_clear : GoodIn wsX5_define (wsV RX5 70 RX1 yX1_clear wsX1_clear) := goodIn_app (goodIn_of _ (by decide +kernel)) ggX5_define_X1_clear
set_option maxRecDepth 20000 in
theorem ggX5_define_X0_give : GoodIn wsX5_define wsX0_give := goodIn_r _ [38, 39, 44, 45, 46, 47, 48, 49, 50, 51] (by decide +kernel) (by decide +kernel)
set_option maxRecDepth 20000 in
theorem gX5_define_X0_give : GoodIn wsX5_define (wsV RX5 73 RX0 yX0_give wsX0_give) := goodIn_app (goodIn_of _ (by decide +kernel)) ggX5_define_X0_give
theorem dX5_define_0 : decode cX5_define 0 = .ok (.iload_n 1, 1) := by decide +kernel
theorem dX5_define_1 : decode cX5_define 1 = .ok (.invokestatic 59, 3) := by decide +kernel
theorem dX5_define_4 : decode cX5_define 4 = .ok (.iload_n 2, 1) := by decide +kernel
theorem dX5_define_5 : decode cX5_define 5 = .ok (.iconst (-1), 1) := by decide +kernel
theorem dX5_define_6 : decode cX5_define 6 = .ok (.if_icmp .eq 8, 3) := by decide +kernel
theorem dX5_define_9 : decode cX5_define 9 = .ok (.aload_n 0, 1) := by decide +kernel
theorem dX5_define_10 : decode cX5_define 10 = .ok (.iload_n 2, 1) := by decide +kernel
theorem dX5_define_11 : decode cX5_define 11 = .ok (.invokevirtual 63, 3) := by decide +kernel
theorem dX5_define_14 : decode cX5_define 14 = .ok (.aload_n 0, 1) := by decide +kernel
theorem dX5_define_15 : decode cX5_define 15 = .ok (.getfield 26, 3) := by decide +kernel
theorem dX5_define_18 : decode cX5_define 18 = .ok (.invokevirtual 70, 3) := by decide +kernel
theorem dX5_define_21 : decode cX5_define 21 = .ok (.aload_n 0, 1) := by decide +kernel
theorem dX5_define_22 : decode cX5_define 22 = .ok (.getfield 12, 3) := by decide +kernel
theorem dX5_define_25 : decode cX5_define 25 = .ok (.iload_n 1, 1) := by decide +kernel
theorem dX5_define_26 : decode cX5_define 26 = .ok (.iload_n 2, 1) := by decide +kernel
theorem dX5_define_27 : decode cX5_define 27 = .ok (.invokevirtual 73, 3) := by decide +kernel
theorem dX5_define_30 : decode cX5_define 30 = .ok (.ireturn, 1) := by decide +kernel
theorem dX5_expressionCount_0 : decode cX5_expressionCount 0 = .ok (.aload_n 0, 1) := by decide +kernel
theorem dX5_expressionCount_1 : decode cX5_expressionCount 1 = .ok (.getfield 12, 3) := by decide +kernel
theorem dX5_expressionCount_4 : decode cX5_expressionCount 4 = .ok (.getfield 77, 3) := by decide +kernel
theorem dX5_expressionCount_7 : decode cX5_expressionCount 7 = .ok (.ireturn, 1) := by decide +kernel
set_option maxRecDepth 20000 in
theorem ggX5_canBeEmpty_X5_refuseUnknownExpression : GoodIn wsX5_canBeEmpty wsX5_refuseUnknownExpression := goodIn_ca (goodIn_r _ [6, 7, 8, 1, 9, 10, 11, 12, 13, 14, 40, 41, 42, 43, 44, 45, 46, 47, 48, 49, 50, 51] (by decide +kernel) (by decide +kernel)) (goodIn_sub (fun _ h => List.mem_cons_of_mem _ (List.mem_append_right _ h)) (by decide +kernel))
set_option maxRecDepth 20000 in
theorem gX5_canBeEmpty_X5_refuseUnknownExpression : GoodIn wsX5_canBeEmpty (wsV RX5 63 RX5 yX5_refuseUnknownExpression wsX5_refuseUnknownExpression) := goodIn_app (goodIn_of _ (by decide +kernel)) ggX5_canBeEmpty_X5_refuseUnknownExpression
set_option maxRecDepth 20000 in
theorem ggX5_canBeEmpty_X0_succeedsInPlace : GoodIn wsX5_canBeEmpty wsX0_succeedsInPlace := goodIn_r _ [18, 19, 20, 21, 22, 12, 23, 24, 14, 25, 26, 27, 28, 29, 30, 31, 32, 5, 33, 34, 35, 36, 37, 38, 39, 10, 11, 13, 44, 45, 46, 47, 48, 49, 50, 51] (by decide +kernel) (by decide +kernel)
set_option maxRecDepth 20000 in
theorem gX5_canBeEmpty_X0_succeedsInPlace : GoodIn wsX5_canBeEmpty (wsV RX5 81 RX0 yX0_succeedsInPlace wsX0_succeedsInPlace) := goodIn_app (goodIn_of _ (by decide +kernel)) ggX5_canBeEmpty_X0_succeedsInPlace
theorem dX5_canBeEmpty_0 : decode cX5_canBeEmpty 0 = .ok (.aload_n 0, 1) := by decide +kernel
theorem dX5_canBeEmpty_1 : decode cX5_canBeEmpty 1 = .ok (.iload_n 1, 1) := by decide +kernel
theorem dX5_canBeEmpty_2 : decode cX5_canBeEmpty 2 = .ok (.invokevirtual 63, 3) := by decide +kernel
theorem dX5_canBeEmpty_5 : decode cX5_canBeEmpty 5 = .ok (.aload_n 0, 1) := by decide +kernel
theorem dX5_canBeEmpty_6 : decode cX5_canBeEmpty 6 = .ok (.getfield 12, 3) := by decide +kernel
theorem dX5_canBeEmpty_9 : decode cX5_canBeEmpty 9 = .ok (.iload_n 1, 1) := by decide +kernel
theorem dX5_canBeEmpty_10 : decode cX5_canBeEmpty 10 = .ok (.invokevirtual 81, 3) := by decide +kernel
theorem dX5_canBeEmpty_13 : decode cX5_canBeEmpty 13 = .ok (.ireturn, 1) := by decide +kernel
set_option maxRecDepth 20000 in
theorem ggX5_isLeftRecursive_X5_refuseUnknownRule : GoodIn wsX5_isLeftRecursive wsX5_refuseUnknownRule := goodIn_ca (goodIn_r _ [5, 6, 7] (by decide +kernel) (by decide +kernel)) (goodIn_sub (fun _ h => List.mem_cons_of_mem _ (List.mem_append_right _ h)) (by decide +kernel))
set_option maxRecDepth 20000 in
theorem gX5_isLeftRecursive_X5_refuseUnknownRule : GoodIn wsX5_isLeftRecursive (va_wsS RX5 59 yX5_refuseUnknownRule wsX5_refuseUnknownRule) := goodIn_app (goodIn_of _ (by decide +kernel)) ggX5_isLeftRecursive_X5_refuseUnknownRule
set_option maxRecDepth 20000 in
theorem ggX5_isLeftRecursive_X0_beginsWithItself : GoodIn wsX5_isLeftRecursive wsX0_beginsWithItself := goodIn_r _ [12, 13, 14, 15, 11, 16, 17, 18, 19, 20, 21, 22, 23, 24, 25, 26, 27, 4, 28, 29, 30, 31, 32, 33, 34, 35, 36, 37, 38, 39, 40, 41, 42, 43, 44, 45, 46, 47, 48, 49, 50, 55, 56, 57, 58, 59, 60, 61, 62] (by decide +kernel) (by decide +kernel)
set_option maxRecDepth 20000 in
theorem gX5_isLeftRecursive_X0_beginsWithItself : GoodIn wsX5_isLeftRecursive (wsV RX5 84 RX0 yX0_beginsWithItself wsX0_beginsWithItself) := goodIn_app (goodIn_of _ (by decide +kernel)) ggX5_isLeftRecursive_X0_beginsWithItself
theorem dX5_isLeftRecursive_0 : decode cX5_isLeftRecursive 0 = .ok (.iload_n 1, 1) := by decide +kernel
theorem dX5_isLeftRecursive_1 : decode cX5_isLeftRecursive 1 = .ok (.invokestatic 59, 3) := by decide +kernel
theorem dX5_isLeftRecursive_4 : decode cX5_isLeftRecursive 4 = .ok (.aload_n 0, 1) := by decide +kernel
theorem dX5_isLeftRecursive_5 : decode cX5_isLeftRecursive 5 = .ok (.getfield 12, 3) := by decide +kernel
theorem dX5_isLeftRecursive_8 : decode cX5_isLeftRecursive 8 = .ok (.iload_n 1, 1) := by decide +kernel
theorem dX5_isLeftRecursive_9 : decode cX5_isLeftRecursive 9 = .ok (.invokevirtual 84, 3) := by decide +kernel
theorem dX5_isLeftRecursive_12 : decode cX5_isLeftRecursive 12 = .ok (.ireturn, 1) := by decide +kernel
set_option maxRecDepth 20000 in
theorem ggX5_replace_X5_areBytes : GoodIn wsX5_replace wsX5_areBytes := goodIn_r _ [12, 13, 14, 11, 15, 16, 17, 18] (by decide +kernel) (by decide +kernel)
set_option maxRecDepth 20000 in
theorem gX5_replace_X5_areBytes : GoodIn wsX5_replace (va_wsS RX5 95 yX5_areBytes wsX5_areBytes) := goodIn_app (goodIn_of _ (by decide +kernel)) ggX5_replace_X5_areBytes
set_option maxRecDepth 20000 in
theorem ggX5_replace_X5_countBytes : GoodIn wsX5_replace wsX5_countBytes := goodIn_r _ [21, 13, 14, 11, 15] (by decide +kernel) (by decide +kernel)
set_option maxRecDepth 20000 in
theorem gX5_replace_X5_countBytes : GoodIn wsX5_replace (va_wsS RX5 101 yX5_countBytes wsX5_countBytes) := goodIn_app (goodIn_of _ (by decide +kernel)) ggX5_replace_X5_countBytes
set_option maxRecDepth 20000 in
theorem ggX5_replace_X1_keepUnchanged : GoodIn wsX5_replace wsX1_keepUnchanged := goodIn_r _ [26, 27, 28, 29, 30, 25, 31, 32, 33, 34, 35, 36, 37, 38, 39, 40, 41, 67, 68, 69] (by decide +kernel) (by decide +kernel)
set_option maxRecDepth 20000 in
theorem gX5_replace_X1_keepUnchanged : GoodIn wsX5_replace (wsV RX5 110 RX1 yX1_keepUnchanged wsX1_keepUnchanged) := goodIn_app (goodIn_of _ (by decide +kernel)) ggX5_replace_X1_keepUnchanged
set_option maxRecDepth 20000 in
theorem ggX5_replace_X1_shift : GoodIn wsX5_replace wsX1_shift := goodIn_r _ [45, 46, 47, 48, 25, 49, 32, 27, 41, 28, 29, 30, 31, 37, 38, 39, 40, 33, 34, 35, 36, 67, 68, 69] (by decide +kernel) (by decide +kernel)
set_option maxRecDepth 20000 in
theorem gX5_replace_X1_shift : GoodIn wsX5_replace (wsV RX5 113 RX1 yX1_shift wsX1_shift) := goodIn_app (goodIn_of _ (by decide +kernel)) ggX5_replace_X1_shift
set_option maxRecDepth 20000 in
theorem ggX5_replace_X4_splice : GoodIn wsX5_replace wsX4_splice := goodIn_r _ [54, 55, 56, 57, 58, 59, 60, 20, 11, 21, 13, 14, 15, 65, 66] (by decide +kernel) (by decide +kernel)
set_option maxRecDepth 20000 in
theorem gX5_replace_X4_splice : GoodIn wsX5_replace (wsV RX5 117 RX4 yX4_splice wsX4_splice) := goodIn_app (goodIn_of _ (by decide +kernel)) ggX5_replace_X4_splice
theorem dX5_replace_0 : decode cX5_replace 0 = .ok (.iload_n 1, 1) := by decide +kernel
theorem dX5_replace_1 : decode cX5_replace 1 = .ok (.ifCond .lt 31, 3) := by decide +kernel
theorem dX5_replace_4 : decode cX5_replace 4 = .ok (.iload_n 2, 1) := by decide +kernel
theorem dX5_replace_5 : decode cX5_replace 5 = .ok (.ifCond .lt 27, 3) := by decide +kernel
theorem dX5_replace_8 : decode cX5_replace 8 = .ok (.iload_n 1, 1) := by decide +kernel
theorem dX5_replace_9 : decode cX5_replace 9 = .ok (.aload_n 0, 1) := by decide +kernel
theorem dX5_replace_10 : decode cX5_replace 10 = .ok (.getfield 19, 3) := by decide +kernel
theorem dX5_replace_13 : decode cX5_replace 13 = .ok (.getfield 87, 3) := by decide +kernel
theorem dX5_replace_16 : decode cX5_replace 16 = .ok (.if_icmp .gt 16, 3) := by decide +kernel
theorem dX5_replace_19 : decode cX5_replace 19 = .ok (.iload_n 2, 1) := by decide +kernel
theorem dX5_replace_20 : decode cX5_replace 20 = .ok (.aload_n 0, 1) := by decide +kernel
theorem dX5_replace_21 : decode cX5_replace 21 = .ok (.getfield 19, 3) := by decide +kernel
theorem dX5_replace_24 : decode cX5_replace 24 = .ok (.getfield 87, 3) := by decide +kernel
theorem dX5_replace_27 : decode cX5_replace 27 = .ok (.iload_n 1, 1) := by decide +kernel
theorem dX5_replace_28 : decode cX5_replace 28 = .ok (.isub, 1) := by decide +kernel
theorem dX5_replace_29 : decode cX5_replace 29 = .ok (.if_icmp .le 13, 3) := by decide +kernel
theorem dX5_replace_32 : decode cX5_replace 32 = .ok (.new 90, 3) := by decide +kernel
theorem dX5_replace_35 : decode cX5_replace 35 = .ok (.dup, 1) := by decide +kernel
theorem dX5_replace_36 : decode cX5_replace 36 = .ok (.ldc 92, 2) := by decide +kernel
theorem dX5_replace_38 : decode cX5_replace 38 = .ok (.invokespecial 94, 3) := by decide +kernel
theorem dX5_replace_41 : decode cX5_replace 41 = .ok (.athrow, 1) := by decide +kernel
theorem dX5_replace_42 : decode cX5_replace 42 = .ok (.lload_n 3, 1) := by decide +kernel
theorem dX5_replace_43 : decode cX5_replace 43 = .ok (.invokestatic 95, 3) := by decide +kernel
theorem dX5_replace_46 : decode cX5_replace 46 = .ok (.ifCond .ne 13, 3) := by decide +kernel
theorem dX5_replace_49 : decode cX5_replace 49 = .ok (.new 39, 3) := by decide +kernel
theorem dX5_replace_52 : decode cX5_replace 52 = .ok (.dup, 1) := by decide +kernel
theorem dX5_replace_53 : decode cX5_replace 53 = .ok (.ldc 99, 2) := by decide +kernel
theorem dX5_replace_55 : decode cX5_replace 55 = .ok (.invokespecial 43, 3) := by decide +kernel
theorem dX5_replace_58 : decode cX5_replace 58 = .ok (.athrow, 1) := by decide +kernel
theorem dX5_replace_59 : decode cX5_replace 59 = .ok (.lload_n 3, 1) := by decide +kernel
theorem dX5_replace_60 : decode cX5_replace 60 = .ok (.invokestatic 101, 3) := by decide +kernel
theorem dX5_replace_63 : decode cX5_replace 63 = .ok (.istore 5, 2) := by decide +kernel
theorem dX5_replace_65 : decode cX5_replace 65 = .ok (.aload_n 0, 1) := by decide +kernel
theorem dX5_replace_66 : decode cX5_replace 66 = .ok (.getfield 19, 3) := by decide +kernel
theorem dX5_replace_69 : decode cX5_replace 69 = .ok (.getfield 87, 3) := by decide +kernel
theorem dX5_replace_72 : decode cX5_replace 72 = .ok (.iload_n 2, 1) := by decide +kernel
theorem dX5_replace_73 : decode cX5_replace 73 = .ok (.isub, 1) := by decide +kernel
theorem dX5_replace_74 : decode cX5_replace 74 = .ok (.iload 5, 2) := by decide +kernel
theorem dX5_replace_76 : decode cX5_replace 76 = .ok (.iadd, 1) := by decide +kernel
theorem dX5_replace_77 : decode cX5_replace 77 = .ok (.bipush 40, 2) := by decide +kernel
theorem dX5_replace_79 : decode cX5_replace 79 = .ok (.if_icmp .le 13, 3) := by decide +kernel
theorem dX5_replace_82 : decode cX5_replace 82 = .ok (.new 105, 3) := by decide +kernel
theorem dX5_replace_85 : decode cX5_replace 85 = .ok (.dup, 1) := by decide +kernel
theorem dX5_replace_86 : decode cX5_replace 86 = .ok (.ldc 107, 2) := by decide +kernel
theorem dX5_replace_88 : decode cX5_replace 88 = .ok (.invokespecial 109, 3) := by decide +kernel
theorem dX5_replace_91 : decode cX5_replace 91 = .ok (.athrow, 1) := by decide +kernel
theorem dX5_replace_92 : decode cX5_replace 92 = .ok (.aload_n 0, 1) := by decide +kernel
theorem dX5_replace_93 : decode cX5_replace 93 = .ok (.getfield 26, 3) := by decide +kernel
theorem dX5_replace_96 : decode cX5_replace 96 = .ok (.iload_n 1, 1) := by decide +kernel
theorem dX5_replace_97 : decode cX5_replace 97 = .ok (.iload_n 1, 1) := by decide +kernel
theorem dX5_replace_98 : decode cX5_replace 98 = .ok (.iload_n 2, 1) := by decide +kernel
theorem dX5_replace_99 : decode cX5_replace 99 = .ok (.iadd, 1) := by decide +kernel
theorem dX5_replace_100 : decode cX5_replace 100 = .ok (.invokevirtual 110, 3) := by decide +kernel
theorem dX5_replace_103 : decode cX5_replace 103 = .ok (.istore 6, 2) := by decide +kernel
theorem dX5_replace_105 : decode cX5_replace 105 = .ok (.aload_n 0, 1) := by decide +kernel
theorem dX5_replace_106 : decode cX5_replace 106 = .ok (.getfield 26, 3) := by decide +kernel
theorem dX5_replace_109 : decode cX5_replace 109 = .ok (.iload_n 1, 1) := by decide +kernel
theorem dX5_replace_110 : decode cX5_replace 110 = .ok (.iload_n 2, 1) := by decide +kernel
theorem dX5_replace_111 : decode cX5_replace 111 = .ok (.iadd, 1) := by decide +kernel
theorem dX5_replace_112 : decode cX5_replace 112 = .ok (.iload 5, 2) := by decide +kernel
theorem dX5_replace_114 : decode cX5_replace 114 = .ok (.iload_n 2, 1) := by decide +kernel
theorem dX5_replace_115 : decode cX5_replace 115 = .ok (.isub, 1) := by decide +kernel
theorem dX5_replace_116 : decode cX5_replace 116 = .ok (.invokevirtual 113, 3) := by decide +kernel
theorem dX5_replace_119 : decode cX5_replace 119 = .ok (.aload_n 0, 1) := by decide +kernel
theorem dX5_replace_120 : decode cX5_replace 120 = .ok (.getfield 19, 3) := by decide +kernel
theorem dX5_replace_123 : decode cX5_replace 123 = .ok (.iload_n 1, 1) := by decide +kernel
theorem dX5_replace_124 : decode cX5_replace 124 = .ok (.iload_n 2, 1) := by decide +kernel
theorem dX5_replace_125 : decode cX5_replace 125 = .ok (.lload_n 3, 1) := by decide +kernel
theorem dX5_replace_126 : decode cX5_replace 126 = .ok (.invokevirtual 117, 3) := by decide +kernel
theorem dX5_replace_129 : decode cX5_replace 129 = .ok (.iload 6, 2) := by decide +kernel
theorem dX5_replace_131 : decode cX5_replace 131 = .ok (.ireturn, 1) := by decide +kernel
theorem dX5_size_0 : decode cX5_size 0 = .ok (.aload_n 0, 1) := by decide +kernel
theorem dX5_size_1 : decode cX5_size 1 = .ok (.getfield 19, 3) := by decide +kernel
theorem dX5_size_4 : decode cX5_size 4 = .ok (.getfield 87, 3) := by decide +kernel
theorem dX5_size_7 : decode cX5_size 7 = .ok (.ireturn, 1) := by decide +kernel
set_option maxRecDepth 20000 in
theorem ggX5_byteAt_X4_hasByte : GoodIn wsX5_byteAt wsX4_hasByte := goodIn_r _ [8, 9, 20, 21] (by decide +kernel) (by decide +kernel)
set_option maxRecDepth 20000 in
theorem gX5_byteAt_X4_hasByte : GoodIn wsX5_byteAt (wsV RX5 121 RX4 yX4_hasByte wsX4_hasByte) := goodIn_app (goodIn_of _ (by decide +kernel)) ggX5_byteAt_X4_hasByte
set_option maxRecDepth 20000 in
theorem ggX5_byteAt_X4_byteOrNone : GoodIn wsX5_byteAt wsX4_byteOrNone := goodIn_r _ [13, 14, 15, 5, 6, 7, 8, 9, 20, 21] (by decide +kernel) (by decide +kernel)
set_option maxRecDepth 20000 in
theorem gX5_byteAt_X4_byteOrNone : GoodIn wsX5_byteAt (wsV RX5 126 RX4 yX4_byteOrNone wsX4_byteOrNone) := goodIn_app (goodIn_of _ (by decide +kernel)) ggX5_byteAt_X4_byteOrNone
theorem dX5_byteAt_0 : decode cX5_byteAt 0 = .ok (.aload_n 0, 1) := by decide +kernel
theorem dX5_byteAt_1 : decode cX5_byteAt 1 = .ok (.getfield 19, 3) := by decide +kernel
theorem dX5_byteAt_4 : decode cX5_byteAt 4 = .ok (.iload_n 1, 1) := by decide +kernel
theorem dX5_byteAt_5 : decode cX5_byteAt 5 = .ok (.invokevirtual 121, 3) := by decide +kernel
theorem dX5_byteAt_8 : decode cX5_byteAt 8 = .ok (.ifCond .ne 13, 3) := by decide +kernel
theorem dX5_byteAt_11 : decode cX5_byteAt 11 = .ok (.new 90, 3) := by decide +kernel
theorem dX5_byteAt_14 : decode cX5_byteAt 14 = .ok (.dup, 1) := by decide +kernel
theorem dX5_byteAt_15 : decode cX5_byteAt 15 = .ok (.ldc 124, 2) := by decide +kernel
theorem dX5_byteAt_17 : decode cX5_byteAt 17 = .ok (.invokespecial 94, 3) := by decide +kernel
theorem dX5_byteAt_20 : decode cX5_byteAt 20 = .ok (.athrow, 1) := by decide +kernel
theorem dX5_byteAt_21 : decode cX5_byteAt 21 = .ok (.aload_n 0, 1) := by decide +kernel
theorem dX5_byteAt_22 : decode cX5_byteAt 22 = .ok (.getfield 19, 3) := by decide +kernel
theorem dX5_byteAt_25 : decode cX5_byteAt 25 = .ok (.iload_n 1, 1) := by decide +kernel
theorem dX5_byteAt_26 : decode cX5_byteAt 26 = .ok (.invokevirtual 126, 3) := by decide +kernel
theorem dX5_byteAt_29 : decode cX5_byteAt 29 = .ok (.ireturn, 1) := by decide +kernel
set_option maxRecDepth 20000 in
theorem ggX5_parse_X5_refuseUnknownRule : GoodIn wsX5_parse wsX5_refuseUnknownRule := goodIn_ca (goodIn_r _ [5, 6, 7] (by decide +kernel) (by decide +kernel)) (goodIn_sub (fun _ h => List.mem_cons_of_mem _ (List.mem_append_right _ h)) (by decide +kernel))
set_option maxRecDepth 20000 in
theorem gX5_parse_X5_refuseUnknownRule : GoodIn wsX5_parse (va_wsS RX5 59 yX5_refuseUnknownRule wsX5_refuseUnknownRule) := goodIn_app (goodIn_of _ (by decide +kernel)) ggX5_parse_X5_refuseUnknownRule
set_option maxRecDepth 20000 in
theorem ggX5_parse_X5_refuseUnknownPlace : GoodIn wsX5_parse wsX5_refuseUnknownPlace := goodIn_ca (goodIn_r _ [11, 6, 7, 12, 170, 171, 172, 173, 174, 175] (by decide +kernel) (by decide +kernel)) (goodIn_sub (fun _ h => List.mem_cons_of_mem _ (List.mem_append_right _ h)) (by decide +kernel))
set_option maxRecDepth 20000 in
theorem gX5_parse_X5_refuseUnknownPlace : GoodIn wsX5_parse (wsV RX5 130 RX5 yX5_refuseUnknownPlace wsX5_refuseUnknownPlace) := goodIn_app (goodIn_of _ (by decide +kernel)) ggX5_parse_X5_refuseUnknownPlace
set_option maxRecDepth 20000 in
theorem ggX5_parse_X3_run : GoodIn wsX5_parse wsX3_run := goodIn_r _ [17, 18, 19, 20, 21, 22, 23, 24, 25, 16, 26, 27, 28, 29, 30, 31, 32, 33, 34, 35, 36, 37, 38, 39, 40, 4, 41, 42, 43, 44, 45, 46, 47, 48, 49, 50, 51, 52, 53, 54, 55, 56, 57, 58, 59, 60, 61, 62, 63, 64, 65, 66, 67, 68, 69, 70, 71, 72, 73, 74, 75, 76, 77, 78, 79, 80, 81, 82, 83, 84, 85, 86, 87, 88, 89, 90, 91, 92, 93, 94, 95, 96, 97, 98, 99, 100, 101, 102, 103, 104, 105, 106, 107, 108, 109, 110, 111, 112, 113, 114, 115, 116, 117, 118, 119, 120, 121, 122, 123, 124, 125, 126, 127, 128, 129, 130, 131, 132, 133, 134, 135, 136, 137, 138, 139, 140, 141, 142, 143, 144, 145, 146, 147, 148, 149, 150, 151, 152, 153, 154, 155, 156, 157, 158, 159, 160, 161, 162, 163, 164, 165, 166, 167, 168, 169, 176, 177, 178, 179, 180, 181, 182, 183, 184, 185, 186, 187, 188, 189, 190, 191, 192, 193, 194, 195, 196, 197, 198, 199, 200, 201, 202, 174, 175, 203, 204, 205] (by decide +kernel) (by decide +kernel)
set_option maxRecDepth 20000 in
theorem gX5_parse_X3_run : GoodIn wsX5_parse (wsV RX5 133 RX3 yX3_run wsX3_run) := goodIn_app (goodIn_of _ (by decide +kernel)) ggX5_parse_X3_run
theorem dX5_parse_0 : decode cX5_parse 0 = .ok (.iload_n 1, 1) := by decide +kernel
theorem dX5_parse_1 : decode cX5_parse 1 = .ok (.invokestatic 59, 3) := by decide +kernel
theorem dX5_parse_4 : decode cX5_parse 4 = .ok (.aload_n 0, 1) := by decide +kernel
theorem dX5_parse_5 : decode cX5_parse 5 = .ok (.iload_n 2, 1) := by decide +kernel
theorem dX5_parse_6 : decode cX5_parse 6 = .ok (.invokevirtual 130, 3) := by decide +kernel
theorem dX5_parse_9 : decode cX5_parse 9 = .ok (.aload_n 0, 1) := by decide +kernel
theorem dX5_parse_10 : decode cX5_parse 10 = .ok (.getfield 35, 3) := by decide +kernel
theorem dX5_parse_13 : decode cX5_parse 13 = .ok (.iload_n 1, 1) := by decide +kernel
theorem dX5_parse_14 : decode cX5_parse 14 = .ok (.iload_n 2, 1) := by decide +kernel
theorem dX5_parse_15 : decode cX5_parse 15 = .ok (.invokevirtual 133, 3) := by decide +kernel
theorem dX5_parse_18 : decode cX5_parse 18 = .ok (.ireturn, 1) := by decide +kernel
theorem dX5_work_0 : decode cX5_work 0 = .ok (.aload_n 0, 1) := by decide +kernel
theorem dX5_work_1 : decode cX5_work 1 = .ok (.getfield 35, 3) := by decide +kernel
theorem dX5_work_4 : decode cX5_work 4 = .ok (.getfield 136, 3) := by decide +kernel
theorem dX5_work_7 : decode cX5_work 7 = .ok (.ireturn, 1) := by decide +kernel
theorem dX5_hits_0 : decode cX5_hits 0 = .ok (.aload_n 0, 1) := by decide +kernel
theorem dX5_hits_1 : decode cX5_hits 1 = .ok (.getfield 35, 3) := by decide +kernel
theorem dX5_hits_4 : decode cX5_hits 4 = .ok (.getfield 139, 3) := by decide +kernel
theorem dX5_hits_7 : decode cX5_hits 7 = .ok (.ireturn, 1) := by decide +kernel
theorem dX5_growths_0 : decode cX5_growths 0 = .ok (.aload_n 0, 1) := by decide +kernel
theorem dX5_growths_1 : decode cX5_growths 1 = .ok (.getfield 35, 3) := by decide +kernel
theorem dX5_growths_4 : decode cX5_growths 4 = .ok (.getfield 142, 3) := by decide +kernel
theorem dX5_growths_7 : decode cX5_growths 7 = .ok (.ireturn, 1) := by decide +kernel
theorem dX5_farthest_0 : decode cX5_farthest 0 = .ok (.aload_n 0, 1) := by decide +kernel
theorem dX5_farthest_1 : decode cX5_farthest 1 = .ok (.getfield 35, 3) := by decide +kernel
theorem dX5_farthest_4 : decode cX5_farthest 4 = .ok (.getfield 145, 3) := by decide +kernel
theorem dX5_farthest_7 : decode cX5_farthest 7 = .ok (.ireturn, 1) := by decide +kernel
set_option maxRecDepth 20000 in
theorem ggX5_remembered_X1_count : GoodIn wsX5_remembered wsX1_count := goodIn_r _ [6, 7, 8, 9, 5, 10, 11, 16, 17, 18] (by decide +kernel) (by decide +kernel)
set_option maxRecDepth 20000 in
theorem gX5_remembered_X1_count : GoodIn wsX5_remembered (wsV RX5 148 RX1 yX1_count wsX1_count) := goodIn_app (goodIn_of _ (by decide +kernel)) ggX5_remembered_X1_count
theorem dX5_remembered_0 : decode cX5_remembered 0 = .ok (.aload_n 0, 1) := by decide +kernel
theorem dX5_remembered_1 : decode cX5_remembered 1 = .ok (.getfield 26, 3) := by decide +kernel
theorem dX5_remembered_4 : decode cX5_remembered 4 = .ok (.invokevirtual 148, 3) := by decide +kernel
theorem dX5_remembered_7 : decode cX5_remembered 7 = .ok (.ireturn, 1) := by decide +kernel
set_option maxRecDepth 20000 in
theorem ggX5_result_X5_refuseUnknownRule : GoodIn wsX5_result wsX5_refuseUnknownRule := goodIn_ca (goodIn_r _ [5, 6, 7] (by decide +kernel) (by decide +kernel)) (goodIn_sub (fun _ h => List.mem_cons_of_mem _ (List.mem_append_right _ h)) (by decide +kernel))
set_option maxRecDepth 20000 in
theorem gX5_result_X5_refuseUnknownRule : GoodIn wsX5_result (va_wsS RX5 59 yX5_refuseUnknownRule wsX5_refuseUnknownRule) := goodIn_app (goodIn_of _ (by decide +kernel)) ggX5_result_X5_refuseUnknownRule
set_option maxRecDepth 20000 in
theorem ggX5_result_X5_refuseUnknownPlace : GoodIn wsX5_result wsX5_refuseUnknownPlace := goodIn_ca (goodIn_r _ [11, 6, 7, 12, 16, 17, 18, 19, 23, 24] (by decide +kernel) (by decide +kernel)) (goodIn_sub (fun _ h => List.mem_cons_of_mem _ (List.mem_append_right _ h)) (by decide +kernel))
set_option maxRecDepth 20000 in
theorem gX5_result_X5_refuseUnknownPlace : GoodIn wsX5_result (wsV RX5 130 RX5 yX5_refuseUnknownPlace wsX5_refuseUnknownPlace) := goodIn_app (goodIn_of _ (by decide +kernel)) ggX5_result_X5_refuseUnknownPlace
set_option maxRecDepth 20000 in
theorem ggX5_result_X5_cell : GoodIn wsX5_result wsX5_cell := goodIn_r _ [15] (by decide +kernel) (by decide +kernel)
set_option maxRecDepth 20000 in
theorem gX5_result_X5_cell : GoodIn wsX5_result (va_wsS RX5 155 yX5_cell wsX5_cell) := goodIn_app (goodIn_of _ (by decide +kernel)) ggX5_result_X5_cell
theorem dX5_result_0 : decode cX5_result 0 = .ok (.iload_n 1, 1) := by decide +kernel
theorem dX5_result_1 : decode cX5_result 1 = .ok (.invokestatic 59, 3) := by decide +kernel
theorem dX5_result_4 : decode cX5_result 4 = .ok (.aload_n 0, 1) := by decide +kernel
theorem dX5_result_5 : decode cX5_result 5 = .ok (.iload_n 2, 1) := by decide +kernel
theorem dX5_result_6 : decode cX5_result 6 = .ok (.invokevirtual 130, 3) := by decide +kernel
theorem dX5_result_9 : decode cX5_result 9 = .ok (.aload_n 0, 1) := by decide +kernel
theorem dX5_result_10 : decode cX5_result 10 = .ok (.getfield 26, 3) := by decide +kernel
theorem dX5_result_13 : decode cX5_result 13 = .ok (.getfield 151, 3) := by decide +kernel
theorem dX5_result_16 : decode cX5_result 16 = .ok (.iload_n 1, 1) := by decide +kernel
theorem dX5_result_17 : decode cX5_result 17 = .ok (.iload_n 2, 1) := by decide +kernel
theorem dX5_result_18 : decode cX5_result 18 = .ok (.invokestatic 155, 3) := by decide +kernel
theorem dX5_result_21 : decode cX5_result 21 = .ok (.iaload, 1) := by decide +kernel
theorem dX5_result_22 : decode cX5_result 22 = .ok (.ireturn, 1) := by decide +kernel
set_option maxRecDepth 20000 in
theorem ggX5_reach_X5_refuseUnknownRule : GoodIn wsX5_reach wsX5_refuseUnknownRule := goodIn_ca (goodIn_r _ [5, 6, 7] (by decide +kernel) (by decide +kernel)) (goodIn_sub (fun _ h => List.mem_cons_of_mem _ (List.mem_append_right _ h)) (by decide +kernel))
set_option maxRecDepth 20000 in
theorem gX5_reach_X5_refuseUnknownRule : GoodIn wsX5_reach (va_wsS RX5 59 yX5_refuseUnknownRule wsX5_refuseUnknownRule) := goodIn_app (goodIn_of _ (by decide +kernel)) ggX5_reach_X5_refuseUnknownRule
set_option maxRecDepth 20000 in
theorem ggX5_reach_X5_refuseUnknownPlace : GoodIn wsX5_reach wsX5_refuseUnknownPlace := goodIn_ca (goodIn_r _ [11, 6, 7, 12, 16, 17, 18, 19, 23, 24] (by decide +kernel) (by decide +kernel)) (goodIn_sub (fun _ h => List.mem_cons_of_mem _ (List.mem_append_right _ h)) (by decide +kernel))
set_option maxRecDepth 20000 in
theorem gX5_reach_X5_refuseUnknownPlace : GoodIn wsX5_reach (wsV RX5 130 RX5 yX5_refuseUnknownPlace wsX5_refuseUnknownPlace) := goodIn_app (goodIn_of _ (by decide +kernel)) ggX5_reach_X5_refuseUnknownPlace
set_option maxRecDepth 20000 in
theorem ggX5_reach_X5_cell : GoodIn wsX5_reach wsX5_cell := goodIn_r _ [15] (by decide +kernel) (by decide +kernel)
set_option maxRecDepth 20000 in
theorem gX5_reach_X5_cell : GoodIn wsX5_reach (va_wsS RX5 155 yX5_cell wsX5_cell) := goodIn_app (goodIn_of _ (by decide +kernel)) ggX5_reach_X5_cell
theorem dX5_reach_0 : decode cX5_reach 0 = .ok (.iload_n 1, 1) := by decide +kernel
theorem dX5_reach_1 : decode cX5_reach 1 = .ok (.invokestatic 59, 3) := by decide +kernel
theorem dX5_reach_4 : decode cX5_reach 4 = .ok (.aload_n 0, 1) := by decide +kernel
theorem dX5_reach_5 : decode cX5_reach 5 = .ok (.iload_n 2, 1) := by decide +kernel
theorem dX5_reach_6 : decode cX5_reach 6 = .ok (.invokevirtual 130, 3) := by decide +kernel
theorem dX5_reach_9 : decode cX5_reach 9 = .ok (.aload_n 0, 1) := by decide +kernel
theorem dX5_reach_10 : decode cX5_reach 10 = .ok (.getfield 26, 3) := by decide +kernel
theorem dX5_reach_13 : decode cX5_reach 13 = .ok (.getfield 158, 3) := by decide +kernel
theorem dX5_reach_16 : decode cX5_reach 16 = .ok (.iload_n 1, 1) := by decide +kernel
theorem dX5_reach_17 : decode cX5_reach 17 = .ok (.iload_n 2, 1) := by decide +kernel
theorem dX5_reach_18 : decode cX5_reach 18 = .ok (.invokestatic 155, 3) := by decide +kernel
theorem dX5_reach_21 : decode cX5_reach 21 = .ok (.iaload, 1) := by decide +kernel
theorem dX5_reach_22 : decode cX5_reach 22 = .ok (.ireturn, 1) := by decide +kernel
set_option maxRecDepth 20000 in
theorem ggX5_forget_X1_count : GoodIn wsX5_forget wsX1_count := goodIn_r _ [6, 7, 8, 9, 5, 10, 11, 30, 31, 32] (by decide +kernel) (by decide +kernel)
set_option maxRecDepth 20000 in
theorem gX5_forget_X1_count : GoodIn wsX5_forget (wsV RX5 148 RX1 yX1_count wsX1_count) := goodIn_app (goodIn_of _ (by decide +kernel)) ggX5_forget_X1_count
set_option maxRecDepth 20000 in
theorem ggX5_forget_X1_clear : GoodIn wsX5_forget wsX1_clear := goodIn_r _ [15, 16, 17, 18, 5, 19, 20, 21, 22, 23, 11, 24, 25, 30, 31, 32] (by decide +kernel) (by decide +kernel)
set_option maxRecDepth 20000 in
theorem gX5_forget_X1_clear : GoodIn wsX5_forget (wsV RX5 70 RX1 yX1_clear wsX1_clear) := goodIn_app (goodIn_of _ (by decide +kernel)) ggX5_forget_X1_clear
theorem dX5_forget_0 : decode cX5_forget 0 = .ok (.aload_n 0, 1) := by decide +kernel
theorem dX5_forget_1 : decode cX5_forget 1 = .ok (.getfield 26, 3) := by decide +kernel
theorem dX5_forget_4 : decode cX5_forget 4 = .ok (.invokevirtual 148, 3) := by decide +kernel
theorem dX5_forget_7 : decode cX5_forget 7 = .ok (.istore_n 1, 1) := by decide +kernel
theorem dX5_forget_8 : decode cX5_forget 8 = .ok (.aload_n 0, 1) := by decide +kernel
theorem dX5_forget_9 : decode cX5_forget 9 = .ok (.getfield 26, 3) := by decide +kernel
theorem dX5_forget_12 : decode cX5_forget 12 = .ok (.invokevirtual 70, 3) := by decide +kernel
theorem dX5_forget_15 : decode cX5_forget 15 = .ok (.iload_n 1, 1) := by decide +kernel
theorem dX5_forget_16 : decode cX5_forget 16 = .ok (.ireturn, 1) := by decide +kernel
set_option maxRecDepth 20000 in
theorem ggX5_digest_X0_addToDigest : GoodIn wsX5_digest wsX0_addToDigest := goodIn_r _ [10, 11, 12, 13, 14, 15, 16, 49, 50, 51, 52, 53, 54, 55, 56] (by decide +kernel) (by decide +kernel)
set_option maxRecDepth 20000 in
theorem gX5_digest_X0_addToDigest : GoodIn wsX5_digest (wsV RX5 163 RX0 yX0_addToDigest wsX0_addToDigest) := goodIn_app (goodIn_of _ (by decide +kernel)) ggX5_digest_X0_addToDigest
set_option maxRecDepth 20000 in
theorem ggX5_digest_X4_addToDigest : GoodIn wsX5_digest wsX4_addToDigest := goodIn_r _ [21, 22, 23, 13, 14, 15, 16, 57, 58] (by decide +kernel) (by decide +kernel)
set_option maxRecDepth 20000 in
theorem gX5_digest_X4_addToDigest : GoodIn wsX5_digest (wsV RX5 167 RX4 yX4_addToDigest wsX4_addToDigest) := goodIn_app (goodIn_of _ (by decide +kernel)) ggX5_digest_X4_addToDigest
set_option maxRecDepth 20000 in
theorem ggX5_digest_X1_addToDigest : GoodIn wsX5_digest wsX1_addToDigest := goodIn_r _ [28, 29, 30, 31, 32, 33, 27, 34, 13, 14, 15, 16, 59, 60, 61] (by decide +kernel) (by decide +kernel)
set_option maxRecDepth 20000 in
theorem gX5_digest_X1_addToDigest : GoodIn wsX5_digest (wsV RX5 168 RX1 yX1_addToDigest wsX1_addToDigest) := goodIn_app (goodIn_of _ (by decide +kernel)) ggX5_digest_X1_addToDigest
set_option maxRecDepth 20000 in
theorem ggX5_digest_X5_mix : GoodIn wsX5_digest wsX5_mix := goodIn_r _ [15, 16] (by decide +kernel) (by decide +kernel)
set_option maxRecDepth 20000 in
theorem gX5_digest_X5_mix : GoodIn wsX5_digest (va_wsS RX5 169 yX5_mix wsX5_mix) := goodIn_app (goodIn_of _ (by decide +kernel)) ggX5_digest_X5_mix
theorem dX5_digest_0 : decode cX5_digest 0 = .ok (.aload_n 0, 1) := by decide +kernel
theorem dX5_digest_1 : decode cX5_digest 1 = .ok (.getfield 12, 3) := by decide +kernel
theorem dX5_digest_4 : decode cX5_digest 4 = .ok (.ldc2_w 161, 3) := by decide +kernel
theorem dX5_digest_7 : decode cX5_digest 7 = .ok (.invokevirtual 163, 3) := by decide +kernel
theorem dX5_digest_10 : decode cX5_digest 10 = .ok (.lstore_n 1, 1) := by decide +kernel
theorem dX5_digest_11 : decode cX5_digest 11 = .ok (.aload_n 0, 1) := by decide +kernel
theorem dX5_digest_12 : decode cX5_digest 12 = .ok (.getfield 19, 3) := by decide +kernel
theorem dX5_digest_15 : decode cX5_digest 15 = .ok (.lload_n 1, 1) := by decide +kernel
theorem dX5_digest_16 : decode cX5_digest 16 = .ok (.invokevirtual 167, 3) := by decide +kernel
theorem dX5_digest_19 : decode cX5_digest 19 = .ok (.lstore_n 1, 1) := by decide +kernel
theorem dX5_digest_20 : decode cX5_digest 20 = .ok (.aload_n 0, 1) := by decide +kernel
theorem dX5_digest_21 : decode cX5_digest 21 = .ok (.getfield 26, 3) := by decide +kernel
theorem dX5_digest_24 : decode cX5_digest 24 = .ok (.lload_n 1, 1) := by decide +kernel
theorem dX5_digest_25 : decode cX5_digest 25 = .ok (.invokevirtual 168, 3) := by decide +kernel
theorem dX5_digest_28 : decode cX5_digest 28 = .ok (.lstore_n 1, 1) := by decide +kernel
theorem dX5_digest_29 : decode cX5_digest 29 = .ok (.lload_n 1, 1) := by decide +kernel
theorem dX5_digest_30 : decode cX5_digest 30 = .ok (.aload_n 0, 1) := by decide +kernel
theorem dX5_digest_31 : decode cX5_digest 31 = .ok (.getfield 35, 3) := by decide +kernel
theorem dX5_digest_34 : decode cX5_digest 34 = .ok (.getfield 136, 3) := by decide +kernel
theorem dX5_digest_37 : decode cX5_digest 37 = .ok (.invokestatic 169, 3) := by decide +kernel
theorem dX5_digest_40 : decode cX5_digest 40 = .ok (.lstore_n 1, 1) := by decide +kernel
theorem dX5_digest_41 : decode cX5_digest 41 = .ok (.lload_n 1, 1) := by decide +kernel
theorem dX5_digest_42 : decode cX5_digest 42 = .ok (.aload_n 0, 1) := by decide +kernel
theorem dX5_digest_43 : decode cX5_digest 43 = .ok (.getfield 35, 3) := by decide +kernel
theorem dX5_digest_46 : decode cX5_digest 46 = .ok (.getfield 139, 3) := by decide +kernel
theorem dX5_digest_49 : decode cX5_digest 49 = .ok (.invokestatic 169, 3) := by decide +kernel
theorem dX5_digest_52 : decode cX5_digest 52 = .ok (.lstore_n 1, 1) := by decide +kernel
theorem dX5_digest_53 : decode cX5_digest 53 = .ok (.lload_n 1, 1) := by decide +kernel
theorem dX5_digest_54 : decode cX5_digest 54 = .ok (.aload_n 0, 1) := by decide +kernel
theorem dX5_digest_55 : decode cX5_digest 55 = .ok (.getfield 35, 3) := by decide +kernel
theorem dX5_digest_58 : decode cX5_digest 58 = .ok (.getfield 142, 3) := by decide +kernel
theorem dX5_digest_61 : decode cX5_digest 61 = .ok (.invokestatic 169, 3) := by decide +kernel
theorem dX5_digest_64 : decode cX5_digest 64 = .ok (.lreturn, 1) := by decide +kernel
set_option maxRecDepth 20000 in
theorem ggX5_refuseIfFull_X0_isFull : GoodIn wsX5_refuseIfFull wsX0_isFull := goodIn_r _ [8, 9, 14, 15, 16, 17, 18, 19, 20, 21] (by decide +kernel) (by decide +kernel)
set_option maxRecDepth 20000 in
theorem gX5_refuseIfFull_X0_isFull : GoodIn wsX5_refuseIfFull (wsV RX5 173 RX0 yX0_isFull wsX0_isFull) := goodIn_app (goodIn_of _ (by decide +kernel)) ggX5_refuseIfFull_X0_isFull
theorem dX5_refuseIfFull_0 : decode cX5_refuseIfFull 0 = .ok (.aload_n 0, 1) := by decide +kernel
theorem dX5_refuseIfFull_1 : decode cX5_refuseIfFull 1 = .ok (.getfield 12, 3) := by decide +kernel
theorem dX5_refuseIfFull_4 : decode cX5_refuseIfFull 4 = .ok (.invokevirtual 173, 3) := by decide +kernel
theorem dX5_refuseIfFull_7 : decode cX5_refuseIfFull 7 = .ok (.ifCond .eq 13, 3) := by decide +kernel
theorem dX5_refuseIfFull_10 : decode cX5_refuseIfFull 10 = .ok (.new 105, 3) := by decide +kernel
theorem dX5_refuseIfFull_13 : decode cX5_refuseIfFull 13 = .ok (.dup, 1) := by decide +kernel
theorem dX5_refuseIfFull_14 : decode cX5_refuseIfFull 14 = .ok (.ldc 177, 2) := by decide +kernel
theorem dX5_refuseIfFull_16 : decode cX5_refuseIfFull 16 = .ok (.invokespecial 109, 3) := by decide +kernel
theorem dX5_refuseIfFull_19 : decode cX5_refuseIfFull 19 = .ok (.athrow, 1) := by decide +kernel
theorem dX5_refuseIfFull_20 : decode cX5_refuseIfFull 20 = .ok (.return_, 1) := by decide +kernel
set_option maxRecDepth 20000 in
theorem ggX5_refuseUnknownExpression_X0_has : GoodIn wsX5_refuseUnknownExpression wsX0_has := goodIn_r _ [8, 9, 14, 15, 16, 17, 18, 19, 20, 21] (by decide +kernel) (by decide +kernel)
set_option maxRecDepth 20000 in
theorem gX5_refuseUnknownExpression_X0_has : GoodIn wsX5_refuseUnknownExpression (wsV RX5 179 RX0 yX0_has wsX0_has) := goodIn_app (goodIn_of _ (by decide +kernel)) ggX5_refuseUnknownExpression_X0_has
theorem dX5_refuseUnknownExpression_0 : decode cX5_refuseUnknownExpression 0 = .ok (.aload_n 0, 1) := by decide +kernel
theorem dX5_refuseUnknownExpression_1 : decode cX5_refuseUnknownExpression 1 = .ok (.getfield 12, 3) := by decide +kernel
theorem dX5_refuseUnknownExpression_4 : decode cX5_refuseUnknownExpression 4 = .ok (.iload_n 1, 1) := by decide +kernel
theorem dX5_refuseUnknownExpression_5 : decode cX5_refuseUnknownExpression 5 = .ok (.invokevirtual 179, 3) := by decide +kernel
theorem dX5_refuseUnknownExpression_8 : decode cX5_refuseUnknownExpression 8 = .ok (.ifCond .ne 13, 3) := by decide +kernel
theorem dX5_refuseUnknownExpression_11 : decode cX5_refuseUnknownExpression 11 = .ok (.new 90, 3) := by decide +kernel
theorem dX5_refuseUnknownExpression_14 : decode cX5_refuseUnknownExpression 14 = .ok (.dup, 1) := by decide +kernel
theorem dX5_refuseUnknownExpression_15 : decode cX5_refuseUnknownExpression 15 = .ok (.ldc 182, 2) := by decide +kernel
theorem dX5_refuseUnknownExpression_17 : decode cX5_refuseUnknownExpression 17 = .ok (.invokespecial 94, 3) := by decide +kernel
theorem dX5_refuseUnknownExpression_20 : decode cX5_refuseUnknownExpression 20 = .ok (.athrow, 1) := by decide +kernel
theorem dX5_refuseUnknownExpression_21 : decode cX5_refuseUnknownExpression 21 = .ok (.return_, 1) := by decide +kernel
theorem dX5_refuseUnknownPlace_0 : decode cX5_refuseUnknownPlace 0 = .ok (.iload_n 1, 1) := by decide +kernel
theorem dX5_refuseUnknownPlace_1 : decode cX5_refuseUnknownPlace 1 = .ok (.ifCond .lt 14, 3) := by decide +kernel
theorem dX5_refuseUnknownPlace_4 : decode cX5_refuseUnknownPlace 4 = .ok (.iload_n 1, 1) := by decide +kernel
theorem dX5_refuseUnknownPlace_5 : decode cX5_refuseUnknownPlace 5 = .ok (.aload_n 0, 1) := by decide +kernel
theorem dX5_refuseUnknownPlace_6 : decode cX5_refuseUnknownPlace 6 = .ok (.getfield 19, 3) := by decide +kernel
theorem dX5_refuseUnknownPlace_9 : decode cX5_refuseUnknownPlace 9 = .ok (.getfield 87, 3) := by decide +kernel
theorem dX5_refuseUnknownPlace_12 : decode cX5_refuseUnknownPlace 12 = .ok (.if_icmp .le 13, 3) := by decide +kernel
theorem dX5_refuseUnknownPlace_15 : decode cX5_refuseUnknownPlace 15 = .ok (.new 90, 3) := by decide +kernel
theorem dX5_refuseUnknownPlace_18 : decode cX5_refuseUnknownPlace 18 = .ok (.dup, 1) := by decide +kernel
theorem dX5_refuseUnknownPlace_19 : decode cX5_refuseUnknownPlace 19 = .ok (.ldc 124, 2) := by decide +kernel
theorem dX5_refuseUnknownPlace_21 : decode cX5_refuseUnknownPlace 21 = .ok (.invokespecial 94, 3) := by decide +kernel
theorem dX5_refuseUnknownPlace_24 : decode cX5_refuseUnknownPlace 24 = .ok (.athrow, 1) := by decide +kernel
theorem dX5_refuseUnknownPlace_25 : decode cX5_refuseUnknownPlace 25 = .ok (.return_, 1) := by decide +kernel
theorem dX5_refuseUnknownRule_0 : decode cX5_refuseUnknownRule 0 = .ok (.iload_n 0, 1) := by decide +kernel
theorem dX5_refuseUnknownRule_1 : decode cX5_refuseUnknownRule 1 = .ok (.ifCond .lt 9, 3) := by decide +kernel
theorem dX5_refuseUnknownRule_4 : decode cX5_refuseUnknownRule 4 = .ok (.iload_n 0, 1) := by decide +kernel
theorem dX5_refuseUnknownRule_5 : decode cX5_refuseUnknownRule 5 = .ok (.bipush 10, 2) := by decide +kernel
theorem dX5_refuseUnknownRule_7 : decode cX5_refuseUnknownRule 7 = .ok (.if_icmp .lt 13, 3) := by decide +kernel
theorem dX5_refuseUnknownRule_10 : decode cX5_refuseUnknownRule 10 = .ok (.new 90, 3) := by decide +kernel
theorem dX5_refuseUnknownRule_13 : decode cX5_refuseUnknownRule 13 = .ok (.dup, 1) := by decide +kernel
theorem dX5_refuseUnknownRule_14 : decode cX5_refuseUnknownRule 14 = .ok (.ldc 184, 2) := by decide +kernel
theorem dX5_refuseUnknownRule_16 : decode cX5_refuseUnknownRule 16 = .ok (.invokespecial 94, 3) := by decide +kernel
theorem dX5_refuseUnknownRule_19 : decode cX5_refuseUnknownRule 19 = .ok (.athrow, 1) := by decide +kernel
theorem dX5_refuseUnknownRule_20 : decode cX5_refuseUnknownRule 20 = .ok (.return_, 1) := by decide +kernel
theorem dX5_isByte_0 : decode cX5_isByte 0 = .ok (.iload_n 0, 1) := by decide +kernel
theorem dX5_isByte_1 : decode cX5_isByte 1 = .ok (.bipush 32, 2) := by decide +kernel
theorem dX5_isByte_3 : decode cX5_isByte 3 = .ok (.if_icmp .lt 13, 3) := by decide +kernel
theorem dX5_isByte_6 : decode cX5_isByte 6 = .ok (.iload_n 0, 1) := by decide +kernel
theorem dX5_isByte_7 : decode cX5_isByte 7 = .ok (.bipush 126, 2) := by decide +kernel
theorem dX5_isByte_9 : decode cX5_isByte 9 = .ok (.if_icmp .gt 7, 3) := by decide +kernel
theorem dX5_isByte_12 : decode cX5_isByte 12 = .ok (.iconst 1, 1) := by decide +kernel
theorem dX5_isByte_13 : decode cX5_isByte 13 = .ok (.goto 4, 3) := by decide +kernel
theorem dX5_isByte_16 : decode cX5_isByte 16 = .ok (.iconst 0, 1) := by decide +kernel
theorem dX5_isByte_17 : decode cX5_isByte 17 = .ok (.ireturn, 1) := by decide +kernel
theorem dX5_packedByte_0 : decode cX5_packedByte 0 = .ok (.lload_n 0, 1) := by decide +kernel
theorem dX5_packedByte_1 : decode cX5_packedByte 1 = .ok (.bipush 8, 2) := by decide +kernel
theorem dX5_packedByte_3 : decode cX5_packedByte 3 = .ok (.bipush 7, 2) := by decide +kernel
theorem dX5_packedByte_5 : decode cX5_packedByte 5 = .ok (.iload_n 2, 1) := by decide +kernel
theorem dX5_packedByte_6 : decode cX5_packedByte 6 = .ok (.isub, 1) := by decide +kernel
theorem dX5_packedByte_7 : decode cX5_packedByte 7 = .ok (.imul, 1) := by decide +kernel
theorem dX5_packedByte_8 : decode cX5_packedByte 8 = .ok (.lushr, 1) := by decide +kernel
theorem dX5_packedByte_9 : decode cX5_packedByte 9 = .ok (.l2i, 1) := by decide +kernel
theorem dX5_packedByte_10 : decode cX5_packedByte 10 = .ok (.sipush 255, 3) := by decide +kernel
theorem dX5_packedByte_13 : decode cX5_packedByte 13 = .ok (.iand, 1) := by decide +kernel
theorem dX5_packedByte_14 : decode cX5_packedByte 14 = .ok (.ireturn, 1) := by decide +kernel
set_option maxRecDepth 20000 in
theorem ggX5_areBytes_X5_packedByte : GoodIn wsX5_areBytes wsX5_packedByte := goodIn_r _ [4] (by decide +kernel) (by decide +kernel)
set_option maxRecDepth 20000 in
theorem gX5_areBytes_X5_packedByte : GoodIn wsX5_areBytes (va_wsS RX5 186 yX5_packedByte wsX5_packedByte) := goodIn_app (goodIn_of _ (by decide +kernel)) ggX5_areBytes_X5_packedByte
set_option maxRecDepth 20000 in
theorem ggX5_areBytes_X5_isByte : GoodIn wsX5_areBytes wsX5_isByte := goodIn_r _ [7] (by decide +kernel) (by decide +kernel)
set_option maxRecDepth 20000 in
theorem gX5_areBytes_X5_isByte : GoodIn wsX5_areBytes (va_wsS RX5 53 yX5_isByte wsX5_isByte) := goodIn_app (goodIn_of _ (by decide +kernel)) ggX5_areBytes_X5_isByte
theorem dX5_areBytes_0 : decode cX5_areBytes 0 = .ok (.iconst 0, 1) := by decide +kernel
theorem dX5_areBytes_1 : decode cX5_areBytes 1 = .ok (.istore_n 2, 1) := by decide +kernel
theorem dX5_areBytes_2 : decode cX5_areBytes 2 = .ok (.iload_n 2, 1) := by decide +kernel
theorem dX5_areBytes_3 : decode cX5_areBytes 3 = .ok (.bipush 8, 2) := by decide +kernel
theorem dX5_areBytes_5 : decode cX5_areBytes 5 = .ok (.if_icmp .ge 28, 3) := by decide +kernel
theorem dX5_areBytes_8 : decode cX5_areBytes 8 = .ok (.lload_n 0, 1) := by decide +kernel
theorem dX5_areBytes_9 : decode cX5_areBytes 9 = .ok (.iload_n 2, 1) := by decide +kernel
theorem dX5_areBytes_10 : decode cX5_areBytes 10 = .ok (.invokestatic 186, 3) := by decide +kernel
theorem dX5_areBytes_13 : decode cX5_areBytes 13 = .ok (.istore_n 3, 1) := by decide +kernel
theorem dX5_areBytes_14 : decode cX5_areBytes 14 = .ok (.iload_n 3, 1) := by decide +kernel
theorem dX5_areBytes_15 : decode cX5_areBytes 15 = .ok (.ifCond .eq 12, 3) := by decide +kernel
theorem dX5_areBytes_18 : decode cX5_areBytes 18 = .ok (.iload_n 3, 1) := by decide +kernel
theorem dX5_areBytes_19 : decode cX5_areBytes 19 = .ok (.invokestatic 53, 3) := by decide +kernel
theorem dX5_areBytes_22 : decode cX5_areBytes 22 = .ok (.ifCond .ne 5, 3) := by decide +kernel
theorem dX5_areBytes_25 : decode cX5_areBytes 25 = .ok (.iconst 0, 1) := by decide +kernel
theorem dX5_areBytes_26 : decode cX5_areBytes 26 = .ok (.ireturn, 1) := by decide +kernel
theorem dX5_areBytes_27 : decode cX5_areBytes 27 = .ok (.iinc 2 1, 3) := by decide +kernel
theorem dX5_areBytes_30 : decode cX5_areBytes 30 = .ok (.goto (-28), 3) := by decide +kernel
theorem dX5_areBytes_33 : decode cX5_areBytes 33 = .ok (.iconst 1, 1) := by decide +kernel
theorem dX5_areBytes_34 : decode cX5_areBytes 34 = .ok (.ireturn, 1) := by decide +kernel
set_option maxRecDepth 20000 in
theorem ggX5_countBytes_X5_packedByte : GoodIn wsX5_countBytes wsX5_packedByte := goodIn_r _ [4] (by decide +kernel) (by decide +kernel)
set_option maxRecDepth 20000 in
theorem gX5_countBytes_X5_packedByte : GoodIn wsX5_countBytes (va_wsS RX5 186 yX5_packedByte wsX5_packedByte) := goodIn_app (goodIn_of _ (by decide +kernel)) ggX5_countBytes_X5_packedByte
theorem dX5_countBytes_0 : decode cX5_countBytes 0 = .ok (.iconst 0, 1) := by decide +kernel
theorem dX5_countBytes_1 : decode cX5_countBytes 1 = .ok (.istore_n 2, 1) := by decide +kernel
theorem dX5_countBytes_2 : decode cX5_countBytes 2 = .ok (.iconst 0, 1) := by decide +kernel
theorem dX5_countBytes_3 : decode cX5_countBytes 3 = .ok (.istore_n 3, 1) := by decide +kernel
theorem dX5_countBytes_4 : decode cX5_countBytes 4 = .ok (.iload_n 3, 1) := by decide +kernel
theorem dX5_countBytes_5 : decode cX5_countBytes 5 = .ok (.bipush 8, 2) := by decide +kernel
theorem dX5_countBytes_7 : decode cX5_countBytes 7 = .ok (.if_icmp .ge 20, 3) := by decide +kernel
theorem dX5_countBytes_10 : decode cX5_countBytes 10 = .ok (.lload_n 0, 1) := by decide +kernel
theorem dX5_countBytes_11 : decode cX5_countBytes 11 = .ok (.iload_n 3, 1) := by decide +kernel
theorem dX5_countBytes_12 : decode cX5_countBytes 12 = .ok (.invokestatic 186, 3) := by decide +kernel
theorem dX5_countBytes_15 : decode cX5_countBytes 15 = .ok (.ifCond .eq 6, 3) := by decide +kernel
theorem dX5_countBytes_18 : decode cX5_countBytes 18 = .ok (.iinc 2 1, 3) := by decide +kernel
theorem dX5_countBytes_21 : decode cX5_countBytes 21 = .ok (.iinc 3 1, 3) := by decide +kernel
theorem dX5_countBytes_24 : decode cX5_countBytes 24 = .ok (.goto (-20), 3) := by decide +kernel
theorem dX5_countBytes_27 : decode cX5_countBytes 27 = .ok (.iload_n 2, 1) := by decide +kernel
theorem dX5_countBytes_28 : decode cX5_countBytes 28 = .ok (.ireturn, 1) := by decide +kernel
theorem dX5_cell_0 : decode cX5_cell 0 = .ok (.iload_n 1, 1) := by decide +kernel
theorem dX5_cell_1 : decode cX5_cell 1 = .ok (.bipush 10, 2) := by decide +kernel
theorem dX5_cell_3 : decode cX5_cell 3 = .ok (.imul, 1) := by decide +kernel
theorem dX5_cell_4 : decode cX5_cell 4 = .ok (.iload_n 0, 1) := by decide +kernel
theorem dX5_cell_5 : decode cX5_cell 5 = .ok (.iadd, 1) := by decide +kernel
theorem dX5_cell_6 : decode cX5_cell 6 = .ok (.ireturn, 1) := by decide +kernel
theorem dX5_bit_0 : decode cX5_bit 0 = .ok (.iconst 1, 1) := by decide +kernel
theorem dX5_bit_1 : decode cX5_bit 1 = .ok (.iload_n 0, 1) := by decide +kernel
theorem dX5_bit_2 : decode cX5_bit 2 = .ok (.ishl, 1) := by decide +kernel
theorem dX5_bit_3 : decode cX5_bit 3 = .ok (.ireturn, 1) := by decide +kernel
theorem dX5_mix_0 : decode cX5_mix 0 = .ok (.lload_n 0, 1) := by decide +kernel
theorem dX5_mix_1 : decode cX5_mix 1 = .ok (.ldc2_w 190, 3) := by decide +kernel
theorem dX5_mix_4 : decode cX5_mix 4 = .ok (.lmul, 1) := by decide +kernel
theorem dX5_mix_5 : decode cX5_mix 5 = .ok (.iload_n 2, 1) := by decide +kernel
theorem dX5_mix_6 : decode cX5_mix 6 = .ok (.i2l, 1) := by decide +kernel
theorem dX5_mix_7 : decode cX5_mix 7 = .ok (.ladd, 1) := by decide +kernel
theorem dX5_mix_8 : decode cX5_mix 8 = .ok (.lreturn, 1) := by decide +kernel
theorem dJ9_max_7cf53_0 : decode cJ9_max_7cf53 0 = .ok (.iload_n 0, 1) := by decide +kernel
theorem dJ9_max_7cf53_1 : decode cJ9_max_7cf53 1 = .ok (.iload_n 1, 1) := by decide +kernel
theorem dJ9_max_7cf53_2 : decode cJ9_max_7cf53 2 = .ok (.if_icmp .lt 7, 3) := by decide +kernel
theorem dJ9_max_7cf53_5 : decode cJ9_max_7cf53 5 = .ok (.iload_n 0, 1) := by decide +kernel
theorem dJ9_max_7cf53_6 : decode cJ9_max_7cf53 6 = .ok (.goto 4, 3) := by decide +kernel
theorem dJ9_max_7cf53_9 : decode cJ9_max_7cf53 9 = .ok (.iload_n 1, 1) := by decide +kernel
theorem dJ9_max_7cf53_10 : decode cJ9_max_7cf53 10 = .ok (.ireturn, 1) := by decide +kernel
theorem dJ9_min_7cf53_0 : decode cJ9_min_7cf53 0 = .ok (.iload_n 0, 1) := by decide +kernel
theorem dJ9_min_7cf53_1 : decode cJ9_min_7cf53 1 = .ok (.iload_n 1, 1) := by decide +kernel
theorem dJ9_min_7cf53_2 : decode cJ9_min_7cf53 2 = .ok (.if_icmp .gt 7, 3) := by decide +kernel
theorem dJ9_min_7cf53_5 : decode cJ9_min_7cf53 5 = .ok (.iload_n 0, 1) := by decide +kernel
theorem dJ9_min_7cf53_6 : decode cJ9_min_7cf53 6 = .ok (.goto 4, 3) := by decide +kernel
theorem dJ9_min_7cf53_9 : decode cJ9_min_7cf53 9 = .ok (.iload_n 1, 1) := by decide +kernel
theorem dJ9_min_7cf53_10 : decode cJ9_min_7cf53 10 = .ok (.ireturn, 1) := by decide +kernel
theorem dJ7_fill_53178_0 : decode cJ7_fill_53178 0 = .ok (.iconst 0, 1) := by decide +kernel
theorem dJ7_fill_53178_1 : decode cJ7_fill_53178 1 = .ok (.istore_n 2, 1) := by decide +kernel
theorem dJ7_fill_53178_2 : decode cJ7_fill_53178 2 = .ok (.aload_n 0, 1) := by decide +kernel
theorem dJ7_fill_53178_3 : decode cJ7_fill_53178 3 = .ok (.arraylength, 1) := by decide +kernel
theorem dJ7_fill_53178_4 : decode cJ7_fill_53178 4 = .ok (.istore_n 3, 1) := by decide +kernel
theorem dJ7_fill_53178_5 : decode cJ7_fill_53178 5 = .ok (.iload_n 2, 1) := by decide +kernel
theorem dJ7_fill_53178_6 : decode cJ7_fill_53178 6 = .ok (.iload_n 3, 1) := by decide +kernel
theorem dJ7_fill_53178_7 : decode cJ7_fill_53178 7 = .ok (.if_icmp .ge 13, 3) := by decide +kernel
theorem dJ7_fill_53178_10 : decode cJ7_fill_53178 10 = .ok (.aload_n 0, 1) := by decide +kernel
theorem dJ7_fill_53178_11 : decode cJ7_fill_53178 11 = .ok (.iload_n 2, 1) := by decide +kernel
theorem dJ7_fill_53178_12 : decode cJ7_fill_53178 12 = .ok (.iload_n 1, 1) := by decide +kernel
theorem dJ7_fill_53178_13 : decode cJ7_fill_53178 13 = .ok (.iastore, 1) := by decide +kernel
theorem dJ7_fill_53178_14 : decode cJ7_fill_53178 14 = .ok (.iinc 2 1, 3) := by decide +kernel
theorem dJ7_fill_53178_17 : decode cJ7_fill_53178 17 = .ok (.goto (-12), 3) := by decide +kernel
theorem dJ7_fill_53178_20 : decode cJ7_fill_53178 20 = .ok (.return_, 1) := by decide +kernel
