set_option maxRecDepth 20000 in
theorem ggX0_init_J7_fill_53178 : GoodIn wsX0_init wsJ7_fill_53178 := goodIn_r _ [17] (by decide +kernel) (by decide +kernel)
set_option maxRecDepth 20000 in
theorem gX0_init_J7_fill_53178 : GoodIn wsX0_init (va_wsS RX0 38 yJ7_fill_53178 wsJ7_fill_53178) := goodIn_app (goodIn_of _ (by decide +kernel)) ggX0_init_J7_fill_53178
theorem dX0_init_0 : decode cX0_init 0 = .ok (.aload_n 0, 1) := by decide +kernel
theorem dX0_init_1 : decode cX0_init 1 = .ok (.invokespecial 3, 3) := by decide +kernel
theorem dX0_init_4 : decode cX0_init 4 = .ok (.aload_n 0, 1) := by decide +kernel
theorem dX0_init_5 : decode cX0_init 5 = .ok (.bipush 80, 2) := by decide +kernel
theorem dX0_init_7 : decode cX0_init 7 = .ok (.newarray .int, 2) := by decide +kernel
theorem dX0_init_9 : decode cX0_init 9 = .ok (.putfield 9, 3) := by decide +kernel
theorem dX0_init_12 : decode cX0_init 12 = .ok (.aload_n 0, 1) := by decide +kernel
theorem dX0_init_13 : decode cX0_init 13 = .ok (.bipush 80, 2) := by decide +kernel
theorem dX0_init_15 : decode cX0_init 15 = .ok (.newarray .int, 2) := by decide +kernel
theorem dX0_init_17 : decode cX0_init 17 = .ok (.putfield 15, 3) := by decide +kernel
theorem dX0_init_20 : decode cX0_init 20 = .ok (.aload_n 0, 1) := by decide +kernel
theorem dX0_init_21 : decode cX0_init 21 = .ok (.bipush 80, 2) := by decide +kernel
theorem dX0_init_23 : decode cX0_init 23 = .ok (.newarray .int, 2) := by decide +kernel
theorem dX0_init_25 : decode cX0_init 25 = .ok (.putfield 18, 3) := by decide +kernel
theorem dX0_init_28 : decode cX0_init 28 = .ok (.aload_n 0, 1) := by decide +kernel
theorem dX0_init_29 : decode cX0_init 29 = .ok (.bipush 10, 2) := by decide +kernel
theorem dX0_init_31 : decode cX0_init 31 = .ok (.newarray .int, 2) := by decide +kernel
theorem dX0_init_33 : decode cX0_init 33 = .ok (.putfield 21, 3) := by decide +kernel
theorem dX0_init_36 : decode cX0_init 36 = .ok (.aload_n 0, 1) := by decide +kernel
theorem dX0_init_37 : decode cX0_init 37 = .ok (.iconst 0, 1) := by decide +kernel
theorem dX0_init_38 : decode cX0_init 38 = .ok (.putfield 24, 3) := by decide +kernel
theorem dX0_init_41 : decode cX0_init 41 = .ok (.aload_n 0, 1) := by decide +kernel
theorem dX0_init_42 : decode cX0_init 42 = .ok (.bipush 80, 2) := by decide +kernel
theorem dX0_init_44 : decode cX0_init 44 = .ok (.newarray .boolean, 2) := by decide +kernel
theorem dX0_init_46 : decode cX0_init 46 = .ok (.putfield 28, 3) := by decide +kernel
theorem dX0_init_49 : decode cX0_init 49 = .ok (.aload_n 0, 1) := by decide +kernel
theorem dX0_init_50 : decode cX0_init 50 = .ok (.iconst 0, 1) := by decide +kernel
theorem dX0_init_51 : decode cX0_init 51 = .ok (.putfield 32, 3) := by decide +kernel
theorem dX0_init_54 : decode cX0_init 54 = .ok (.aload_n 0, 1) := by decide +kernel
theorem dX0_init_55 : decode cX0_init 55 = .ok (.bipush 80, 2) := by decide +kernel
theorem dX0_init_57 : decode cX0_init 57 = .ok (.newarray .int, 2) := by decide +kernel
theorem dX0_init_59 : decode cX0_init 59 = .ok (.putfield 35, 3) := by decide +kernel
theorem dX0_init_62 : decode cX0_init 62 = .ok (.aload_n 0, 1) := by decide +kernel
theorem dX0_init_63 : decode cX0_init 63 = .ok (.getfield 21, 3) := by decide +kernel
theorem dX0_init_66 : decode cX0_init 66 = .ok (.iconst (-1), 1) := by decide +kernel
theorem dX0_init_67 : decode cX0_init 67 = .ok (.invokestatic 38, 3) := by decide +kernel
theorem dX0_init_70 : decode cX0_init 70 = .ok (.return_, 1) := by decide +kernel
theorem dX0_isFull_0 : decode cX0_isFull 0 = .ok (.aload_n 0, 1) := by decide +kernel
theorem dX0_isFull_1 : decode cX0_isFull 1 = .ok (.getfield 24, 3) := by decide +kernel
theorem dX0_isFull_4 : decode cX0_isFull 4 = .ok (.bipush 80, 2) := by decide +kernel
theorem dX0_isFull_6 : decode cX0_isFull 6 = .ok (.if_icmp .lt 7, 3) := by decide +kernel
theorem dX0_isFull_9 : decode cX0_isFull 9 = .ok (.iconst 1, 1) := by decide +kernel
theorem dX0_isFull_10 : decode cX0_isFull 10 = .ok (.goto 4, 3) := by decide +kernel
theorem dX0_isFull_13 : decode cX0_isFull 13 = .ok (.iconst 0, 1) := by decide +kernel
theorem dX0_isFull_14 : decode cX0_isFull 14 = .ok (.ireturn, 1) := by decide +kernel
theorem dX0_has_0 : decode cX0_has 0 = .ok (.iload_n 1, 1) := by decide +kernel
theorem dX0_has_1 : decode cX0_has 1 = .ok (.ifCond .lt 15, 3) := by decide +kernel
theorem dX0_has_4 : decode cX0_has 4 = .ok (.iload_n 1, 1) := by decide +kernel
theorem dX0_has_5 : decode cX0_has 5 = .ok (.aload_n 0, 1) := by decide +kernel
theorem dX0_has_6 : decode cX0_has 6 = .ok (.getfield 24, 3) := by decide +kernel
theorem dX0_has_9 : decode cX0_has 9 = .ok (.if_icmp .ge 7, 3) := by decide +kernel
theorem dX0_has_12 : decode cX0_has 12 = .ok (.iconst 1, 1) := by decide +kernel
theorem dX0_has_13 : decode cX0_has 13 = .ok (.goto 4, 3) := by decide +kernel
theorem dX0_has_16 : decode cX0_has 16 = .ok (.iconst 0, 1) := by decide +kernel
theorem dX0_has_17 : decode cX0_has 17 = .ok (.ireturn, 1) := by decide +kernel
theorem dX0_add_0 : decode cX0_add 0 = .ok (.aload_n 0, 1) := by decide +kernel
theorem dX0_add_1 : decode cX0_add 1 = .ok (.getfield 24, 3) := by decide +kernel
theorem dX0_add_4 : decode cX0_add 4 = .ok (.istore 4, 2) := by decide +kernel
theorem dX0_add_6 : decode cX0_add 6 = .ok (.aload_n 0, 1) := by decide +kernel
theorem dX0_add_7 : decode cX0_add 7 = .ok (.getfield 9, 3) := by decide +kernel
theorem dX0_add_10 : decode cX0_add 10 = .ok (.iload 4, 2) := by decide +kernel
theorem dX0_add_12 : decode cX0_add 12 = .ok (.iload_n 1, 1) := by decide +kernel
theorem dX0_add_13 : decode cX0_add 13 = .ok (.iastore, 1) := by decide +kernel
theorem dX0_add_14 : decode cX0_add 14 = .ok (.aload_n 0, 1) := by decide +kernel
theorem dX0_add_15 : decode cX0_add 15 = .ok (.getfield 15, 3) := by decide +kernel
theorem dX0_add_18 : decode cX0_add 18 = .ok (.iload 4, 2) := by decide +kernel
theorem dX0_add_20 : decode cX0_add 20 = .ok (.iload_n 2, 1) := by decide +kernel
theorem dX0_add_21 : decode cX0_add 21 = .ok (.iastore, 1) := by decide +kernel
theorem dX0_add_22 : decode cX0_add 22 = .ok (.aload_n 0, 1) := by decide +kernel
theorem dX0_add_23 : decode cX0_add 23 = .ok (.getfield 18, 3) := by decide +kernel
theorem dX0_add_26 : decode cX0_add 26 = .ok (.iload 4, 2) := by decide +kernel
theorem dX0_add_28 : decode cX0_add 28 = .ok (.iload_n 3, 1) := by decide +kernel
theorem dX0_add_29 : decode cX0_add 29 = .ok (.iastore, 1) := by decide +kernel
theorem dX0_add_30 : decode cX0_add 30 = .ok (.aload_n 0, 1) := by decide +kernel
theorem dX0_add_31 : decode cX0_add 31 = .ok (.dup, 1) := by decide +kernel
theorem dX0_add_32 : decode cX0_add 32 = .ok (.getfield 24, 3) := by decide +kernel
theorem dX0_add_35 : decode cX0_add 35 = .ok (.iconst 1, 1) := by decide +kernel
theorem dX0_add_36 : decode cX0_add 36 = .ok (.iadd, 1) := by decide +kernel
theorem dX0_add_37 : decode cX0_add 37 = .ok (.putfield 24, 3) := by decide +kernel
theorem dX0_add_40 : decode cX0_add 40 = .ok (.iload 4, 2) := by decide +kernel
theorem dX0_add_42 : decode cX0_add 42 = .ok (.ireturn, 1) := by decide +kernel
theorem dX0_give_0 : decode cX0_give 0 = .ok (.aload_n 0, 1) := by decide +kernel
theorem dX0_give_1 : decode cX0_give 1 = .ok (.getfield 21, 3) := by decide +kernel
theorem dX0_give_4 : decode cX0_give 4 = .ok (.iload_n 1, 1) := by decide +kernel
theorem dX0_give_5 : decode cX0_give 5 = .ok (.iaload, 1) := by decide +kernel
theorem dX0_give_6 : decode cX0_give 6 = .ok (.istore_n 3, 1) := by decide +kernel
theorem dX0_give_7 : decode cX0_give 7 = .ok (.aload_n 0, 1) := by decide +kernel
theorem dX0_give_8 : decode cX0_give 8 = .ok (.getfield 21, 3) := by decide +kernel
theorem dX0_give_11 : decode cX0_give 11 = .ok (.iload_n 1, 1) := by decide +kernel
theorem dX0_give_12 : decode cX0_give 12 = .ok (.iload_n 2, 1) := by decide +kernel
theorem dX0_give_13 : decode cX0_give 13 = .ok (.iastore, 1) := by decide +kernel
theorem dX0_give_14 : decode cX0_give 14 = .ok (.iload_n 3, 1) := by decide +kernel
theorem dX0_give_15 : decode cX0_give 15 = .ok (.ireturn, 1) := by decide +kernel
set_option maxRecDepth 20000 in
theorem ggX0_succeedsInPlace_X0_findEmpties : GoodIn wsX0_succeedsInPlace wsX0_findEmpties := goodIn_r _ [6, 7, 8, 1, 9, 10, 11, 5, 12, 13, 14, 15, 16, 17, 18, 19, 20, 21, 22, 23, 24, 25, 26, 27, 28, 29, 30, 31, 32, 33, 34, 35] (by decide +kernel) (by decide +kernel)
set_option maxRecDepth 20000 in
theorem gX0_succeedsInPlace_X0_findEmpties : GoodIn wsX0_succeedsInPlace (wsV RX0 44 RX0 yX0_findEmpties wsX0_findEmpties) := goodIn_app (goodIn_of _ (by decide +kernel)) ggX0_succeedsInPlace_X0_findEmpties
theorem dX0_succeedsInPlace_0 : decode cX0_succeedsInPlace 0 = .ok (.aload_n 0, 1) := by decide +kernel
theorem dX0_succeedsInPlace_1 : decode cX0_succeedsInPlace 1 = .ok (.invokevirtual 44, 3) := by decide +kernel
theorem dX0_succeedsInPlace_4 : decode cX0_succeedsInPlace 4 = .ok (.aload_n 0, 1) := by decide +kernel
theorem dX0_succeedsInPlace_5 : decode cX0_succeedsInPlace 5 = .ok (.getfield 28, 3) := by decide +kernel
theorem dX0_succeedsInPlace_8 : decode cX0_succeedsInPlace 8 = .ok (.iload_n 1, 1) := by decide +kernel
theorem dX0_succeedsInPlace_9 : decode cX0_succeedsInPlace 9 = .ok (.baload, 1) := by decide +kernel
theorem dX0_succeedsInPlace_10 : decode cX0_succeedsInPlace 10 = .ok (.ireturn, 1) := by decide +kernel
set_option maxRecDepth 20000 in
theorem ggX0_beginsWithItself_X0_findEmpties : GoodIn wsX0_beginsWithItself wsX0_findEmpties := goodIn_r _ [5, 6, 7, 8, 9, 10, 11, 4, 12, 13, 14, 15, 16, 17, 18, 19, 20, 21, 22, 23, 24, 25, 26, 27, 41, 42, 43, 44, 45, 46, 47, 48] (by decide +kernel) (by decide +kernel)
set_option maxRecDepth 20000 in
theorem gX0_beginsWithItself_X0_findEmpties : GoodIn wsX0_beginsWithItself (wsV RX0 44 RX0 yX0_findEmpties wsX0_findEmpties) := goodIn_app (goodIn_of _ (by decide +kernel)) ggX0_beginsWithItself_X0_findEmpties
set_option maxRecDepth 20000 in
theorem ggX0_beginsWithItself_X0_findBeginnings : GoodIn wsX0_beginsWithItself wsX0_findBeginnings := goodIn_r _ [31, 7, 32, 33, 34, 35, 4, 36, 13, 14, 15, 8, 16, 17, 18, 41, 42, 43, 44, 45, 46, 47, 48] (by decide +kernel) (by decide +kernel)
set_option maxRecDepth 20000 in
theorem gX0_beginsWithItself_X0_findBeginnings : GoodIn wsX0_beginsWithItself (wsV RX0 47 RX0 yX0_findBeginnings wsX0_findBeginnings) := goodIn_app (goodIn_of _ (by decide +kernel)) ggX0_beginsWithItself_X0_findBeginnings
set_option maxRecDepth 20000 in
theorem ggX0_beginsWithItself_X0_beginningsOfRule : GoodIn wsX0_beginsWithItself wsX0_beginningsOfRule := goodIn_r _ [40, 23, 32, 24, 25, 26, 4, 27, 7, 41, 42, 43, 44, 45, 46, 47, 48] (by decide +kernel) (by decide +kernel)
set_option maxRecDepth 20000 in
theorem gX0_beginsWithItself_X0_beginningsOfRule : GoodIn wsX0_beginsWithItself (wsV RX0 50 RX0 yX0_beginningsOfRule wsX0_beginningsOfRule) := goodIn_app (goodIn_of _ (by decide +kernel)) ggX0_beginsWithItself_X0_beginningsOfRule
set_option maxRecDepth 20000 in
theorem ggX0_beginsWithItself_X5_bit : GoodIn wsX0_beginsWithItself wsX5_bit := goodIn_r _ [18] (by decide +kernel) (by decide +kernel)
set_option maxRecDepth 20000 in
theorem gX0_beginsWithItself_X5_bit_n54 : GoodIn wsX0_beginsWithItself (wsX5_bit) := ggX0_beginsWithItself_X5_bit
theorem dX0_beginsWithItself_0 : decode cX0_beginsWithItself 0 = .ok (.aload_n 0, 1) := by decide +kernel
theorem dX0_beginsWithItself_1 : decode cX0_beginsWithItself 1 = .ok (.invokevirtual 44, 3) := by decide +kernel
theorem dX0_beginsWithItself_4 : decode cX0_beginsWithItself 4 = .ok (.aload_n 0, 1) := by decide +kernel
theorem dX0_beginsWithItself_5 : decode cX0_beginsWithItself 5 = .ok (.invokevirtual 47, 3) := by decide +kernel
theorem dX0_beginsWithItself_8 : decode cX0_beginsWithItself 8 = .ok (.aload_n 0, 1) := by decide +kernel
theorem dX0_beginsWithItself_9 : decode cX0_beginsWithItself 9 = .ok (.iload_n 1, 1) := by decide +kernel
theorem dX0_beginsWithItself_10 : decode cX0_beginsWithItself 10 = .ok (.invokevirtual 50, 3) := by decide +kernel
theorem dX0_beginsWithItself_13 : decode cX0_beginsWithItself 13 = .ok (.istore_n 2, 1) := by decide +kernel
theorem dX0_beginsWithItself_14 : decode cX0_beginsWithItself 14 = .ok (.iconst 0, 1) := by decide +kernel
theorem dX0_beginsWithItself_15 : decode cX0_beginsWithItself 15 = .ok (.istore_n 3, 1) := by decide +kernel
theorem dX0_beginsWithItself_16 : decode cX0_beginsWithItself 16 = .ok (.iload_n 3, 1) := by decide +kernel
theorem dX0_beginsWithItself_17 : decode cX0_beginsWithItself 17 = .ok (.bipush 10, 2) := by decide +kernel
theorem dX0_beginsWithItself_19 : decode cX0_beginsWithItself 19 = .ok (.if_icmp .ge 44, 3) := by decide +kernel
theorem dX0_beginsWithItself_22 : decode cX0_beginsWithItself 22 = .ok (.iconst 0, 1) := by decide +kernel
theorem dX0_beginsWithItself_23 : decode cX0_beginsWithItself 23 = .ok (.istore 4, 2) := by decide +kernel
theorem dX0_beginsWithItself_25 : decode cX0_beginsWithItself 25 = .ok (.iload 4, 2) := by decide +kernel
theorem dX0_beginsWithItself_27 : decode cX0_beginsWithItself 27 = .ok (.bipush 10, 2) := by decide +kernel
theorem dX0_beginsWithItself_29 : decode cX0_beginsWithItself 29 = .ok (.if_icmp .ge 28, 3) := by decide +kernel
theorem dX0_beginsWithItself_32 : decode cX0_beginsWithItself 32 = .ok (.iload_n 2, 1) := by decide +kernel
theorem dX0_beginsWithItself_33 : decode cX0_beginsWithItself 33 = .ok (.iload 4, 2) := by decide +kernel
theorem dX0_beginsWithItself_35 : decode cX0_beginsWithItself 35 = .ok (.invokestatic 54, 3) := by decide +kernel
theorem dX0_beginsWithItself_38 : decode cX0_beginsWithItself 38 = .ok (.iand, 1) := by decide +kernel
theorem dX0_beginsWithItself_39 : decode cX0_beginsWithItself 39 = .ok (.ifCond .eq 12, 3) := by decide +kernel
theorem dX0_beginsWithItself_42 : decode cX0_beginsWithItself 42 = .ok (.iload_n 2, 1) := by decide +kernel
theorem dX0_beginsWithItself_43 : decode cX0_beginsWithItself 43 = .ok (.aload_n 0, 1) := by decide +kernel
theorem dX0_beginsWithItself_44 : decode cX0_beginsWithItself 44 = .ok (.iload 4, 2) := by decide +kernel
theorem dX0_beginsWithItself_46 : decode cX0_beginsWithItself 46 = .ok (.invokevirtual 50, 3) := by decide +kernel
theorem dX0_beginsWithItself_49 : decode cX0_beginsWithItself 49 = .ok (.ior, 1) := by decide +kernel
theorem dX0_beginsWithItself_50 : decode cX0_beginsWithItself 50 = .ok (.istore_n 2, 1) := by decide +kernel
theorem dX0_beginsWithItself_51 : decode cX0_beginsWithItself 51 = .ok (.iinc 4 1, 3) := by decide +kernel
theorem dX0_beginsWithItself_54 : decode cX0_beginsWithItself 54 = .ok (.goto (-29), 3) := by decide +kernel
theorem dX0_beginsWithItself_57 : decode cX0_beginsWithItself 57 = .ok (.iinc 3 1, 3) := by decide +kernel
theorem dX0_beginsWithItself_60 : decode cX0_beginsWithItself 60 = .ok (.goto (-44), 3) := by decide +kernel
theorem dX0_beginsWithItself_63 : decode cX0_beginsWithItself 63 = .ok (.iload_n 2, 1) := by decide +kernel
theorem dX0_beginsWithItself_64 : decode cX0_beginsWithItself 64 = .ok (.iload_n 1, 1) := by decide +kernel
theorem dX0_beginsWithItself_65 : decode cX0_beginsWithItself 65 = .ok (.invokestatic 54, 3) := by decide +kernel
theorem dX0_beginsWithItself_68 : decode cX0_beginsWithItself 68 = .ok (.iand, 1) := by decide +kernel
theorem dX0_beginsWithItself_69 : decode cX0_beginsWithItself 69 = .ok (.ifCond .eq 7, 3) := by decide +kernel
theorem dX0_beginsWithItself_72 : decode cX0_beginsWithItself 72 = .ok (.iconst 1, 1) := by decide +kernel
theorem dX0_beginsWithItself_73 : decode cX0_beginsWithItself 73 = .ok (.goto 4, 3) := by decide +kernel
theorem dX0_beginsWithItself_76 : decode cX0_beginsWithItself 76 = .ok (.iconst 0, 1) := by decide +kernel
theorem dX0_beginsWithItself_77 : decode cX0_beginsWithItself 77 = .ok (.ireturn, 1) := by decide +kernel
set_option maxRecDepth 20000 in
theorem ggX0_addToDigest_X5_mix : GoodIn wsX0_addToDigest wsX5_mix := goodIn_r _ [5, 6] (by decide +kernel) (by decide +kernel)
set_option maxRecDepth 20000 in
theorem gX0_addToDigest_X5_mix_n57 : GoodIn wsX0_addToDigest (wsX5_mix) := ggX0_addToDigest_X5_mix
theorem dX0_addToDigest_0 : decode cX0_addToDigest 0 = .ok (.lload_n 1, 1) := by decide +kernel
theorem dX0_addToDigest_1 : decode cX0_addToDigest 1 = .ok (.aload_n 0, 1) := by decide +kernel
theorem dX0_addToDigest_2 : decode cX0_addToDigest 2 = .ok (.getfield 24, 3) := by decide +kernel
theorem dX0_addToDigest_5 : decode cX0_addToDigest 5 = .ok (.invokestatic 57, 3) := by decide +kernel
theorem dX0_addToDigest_8 : decode cX0_addToDigest 8 = .ok (.lstore_n 3, 1) := by decide +kernel
theorem dX0_addToDigest_9 : decode cX0_addToDigest 9 = .ok (.iconst 0, 1) := by decide +kernel
theorem dX0_addToDigest_10 : decode cX0_addToDigest 10 = .ok (.istore 5, 2) := by decide +kernel
theorem dX0_addToDigest_12 : decode cX0_addToDigest 12 = .ok (.iload 5, 2) := by decide +kernel
theorem dX0_addToDigest_14 : decode cX0_addToDigest 14 = .ok (.bipush 10, 2) := by decide +kernel
theorem dX0_addToDigest_16 : decode cX0_addToDigest 16 = .ok (.if_icmp .ge 21, 3) := by decide +kernel
theorem dX0_addToDigest_19 : decode cX0_addToDigest 19 = .ok (.lload_n 3, 1) := by decide +kernel
theorem dX0_addToDigest_20 : decode cX0_addToDigest 20 = .ok (.aload_n 0, 1) := by decide +kernel
theorem dX0_addToDigest_21 : decode cX0_addToDigest 21 = .ok (.getfield 21, 3) := by decide +kernel
theorem dX0_addToDigest_24 : decode cX0_addToDigest 24 = .ok (.iload 5, 2) := by decide +kernel
theorem dX0_addToDigest_26 : decode cX0_addToDigest 26 = .ok (.iaload, 1) := by decide +kernel
theorem dX0_addToDigest_27 : decode cX0_addToDigest 27 = .ok (.invokestatic 57, 3) := by decide +kernel
theorem dX0_addToDigest_30 : decode cX0_addToDigest 30 = .ok (.lstore_n 3, 1) := by decide +kernel
theorem dX0_addToDigest_31 : decode cX0_addToDigest 31 = .ok (.iinc 5 1, 3) := by decide +kernel
theorem dX0_addToDigest_34 : decode cX0_addToDigest 34 = .ok (.goto (-22), 3) := by decide +kernel
theorem dX0_addToDigest_37 : decode cX0_addToDigest 37 = .ok (.lload_n 3, 1) := by decide +kernel
theorem dX0_addToDigest_38 : decode cX0_addToDigest 38 = .ok (.lreturn, 1) := by decide +kernel
set_option maxRecDepth 20000 in
theorem ggX0_findEmpties_X0_isEmptyByForm : GoodIn wsX0_findEmpties wsX0_isEmptyByForm := goodIn_r _ [8, 9, 10, 11, 1, 3, 12, 13, 14, 24, 25, 26, 27, 28, 29, 30, 31] (by decide +kernel) (by decide +kernel)
set_option maxRecDepth 20000 in
theorem gX0_findEmpties_X0_isEmptyByForm : GoodIn wsX0_findEmpties (wsV RX0 61 RX0 yX0_isEmptyByForm wsX0_isEmptyByForm) := goodIn_app (goodIn_of _ (by decide +kernel)) ggX0_findEmpties_X0_isEmptyByForm
set_option maxRecDepth 20000 in
theorem ggX0_findEmpties_X0_addEmptyRules : GoodIn wsX0_findEmpties wsX0_addEmptyRules := goodIn_r _ [18, 1, 19, 3, 20, 21, 22, 7, 23, 2, 12, 13, 14, 24, 25, 26, 27, 28, 29, 30, 31] (by decide +kernel) (by decide +kernel)
set_option maxRecDepth 20000 in
theorem gX0_findEmpties_X0_addEmptyRules : GoodIn wsX0_findEmpties (wsV RX0 65 RX0 yX0_addEmptyRules wsX0_addEmptyRules) := goodIn_app (goodIn_of _ (by decide +kernel)) ggX0_findEmpties_X0_addEmptyRules
theorem dX0_findEmpties_0 : decode cX0_findEmpties 0 = .ok (.aload_n 0, 1) := by decide +kernel
theorem dX0_findEmpties_1 : decode cX0_findEmpties 1 = .ok (.iconst 0, 1) := by decide +kernel
theorem dX0_findEmpties_2 : decode cX0_findEmpties 2 = .ok (.putfield 32, 3) := by decide +kernel
theorem dX0_findEmpties_5 : decode cX0_findEmpties 5 = .ok (.iconst 1, 1) := by decide +kernel
theorem dX0_findEmpties_6 : decode cX0_findEmpties 6 = .ok (.istore_n 1, 1) := by decide +kernel
theorem dX0_findEmpties_7 : decode cX0_findEmpties 7 = .ok (.iconst 0, 1) := by decide +kernel
theorem dX0_findEmpties_8 : decode cX0_findEmpties 8 = .ok (.istore_n 2, 1) := by decide +kernel
theorem dX0_findEmpties_9 : decode cX0_findEmpties 9 = .ok (.iload_n 2, 1) := by decide +kernel
theorem dX0_findEmpties_10 : decode cX0_findEmpties 10 = .ok (.bipush 10, 2) := by decide +kernel
theorem dX0_findEmpties_12 : decode cX0_findEmpties 12 = .ok (.if_icmp .gt 45, 3) := by decide +kernel
theorem dX0_findEmpties_15 : decode cX0_findEmpties 15 = .ok (.iload_n 1, 1) := by decide +kernel
theorem dX0_findEmpties_16 : decode cX0_findEmpties 16 = .ok (.ifCond .eq 41, 3) := by decide +kernel
theorem dX0_findEmpties_19 : decode cX0_findEmpties 19 = .ok (.iconst 0, 1) := by decide +kernel
theorem dX0_findEmpties_20 : decode cX0_findEmpties 20 = .ok (.istore_n 3, 1) := by decide +kernel
theorem dX0_findEmpties_21 : decode cX0_findEmpties 21 = .ok (.iload_n 3, 1) := by decide +kernel
theorem dX0_findEmpties_22 : decode cX0_findEmpties 22 = .ok (.aload_n 0, 1) := by decide +kernel
theorem dX0_findEmpties_23 : decode cX0_findEmpties 23 = .ok (.getfield 24, 3) := by decide +kernel
theorem dX0_findEmpties_26 : decode cX0_findEmpties 26 = .ok (.if_icmp .ge 20, 3) := by decide +kernel
theorem dX0_findEmpties_29 : decode cX0_findEmpties 29 = .ok (.aload_n 0, 1) := by decide +kernel
theorem dX0_findEmpties_30 : decode cX0_findEmpties 30 = .ok (.getfield 28, 3) := by decide +kernel
theorem dX0_findEmpties_33 : decode cX0_findEmpties 33 = .ok (.iload_n 3, 1) := by decide +kernel
theorem dX0_findEmpties_34 : decode cX0_findEmpties 34 = .ok (.aload_n 0, 1) := by decide +kernel
theorem dX0_findEmpties_35 : decode cX0_findEmpties 35 = .ok (.iload_n 3, 1) := by decide +kernel
theorem dX0_findEmpties_36 : decode cX0_findEmpties 36 = .ok (.invokevirtual 61, 3) := by decide +kernel
theorem dX0_findEmpties_39 : decode cX0_findEmpties 39 = .ok (.bastore, 1) := by decide +kernel
theorem dX0_findEmpties_40 : decode cX0_findEmpties 40 = .ok (.iinc 3 1, 3) := by decide +kernel
theorem dX0_findEmpties_43 : decode cX0_findEmpties 43 = .ok (.goto (-22), 3) := by decide +kernel
theorem dX0_findEmpties_46 : decode cX0_findEmpties 46 = .ok (.aload_n 0, 1) := by decide +kernel
theorem dX0_findEmpties_47 : decode cX0_findEmpties 47 = .ok (.invokevirtual 65, 3) := by decide +kernel
theorem dX0_findEmpties_50 : decode cX0_findEmpties 50 = .ok (.istore_n 1, 1) := by decide +kernel
theorem dX0_findEmpties_51 : decode cX0_findEmpties 51 = .ok (.iinc 2 1, 3) := by decide +kernel
theorem dX0_findEmpties_54 : decode cX0_findEmpties 54 = .ok (.goto (-45), 3) := by decide +kernel
theorem dX0_findEmpties_57 : decode cX0_findEmpties 57 = .ok (.return_, 1) := by decide +kernel
set_option maxRecDepth 20000 in
theorem ggX0_isEmptyByForm_X5_bit : GoodIn wsX0_isEmptyByForm wsX5_bit := goodIn_r _ [8] (by decide +kernel) (by decide +kernel)
set_option maxRecDepth 20000 in
theorem gX0_isEmptyByForm_X5_bit_n54 : GoodIn wsX0_isEmptyByForm (wsX5_bit) := ggX0_isEmptyByForm_X5_bit
theorem dX0_isEmptyByForm_0 : decode cX0_isEmptyByForm 0 = .ok (.aload_n 0, 1) := by decide +kernel
theorem dX0_isEmptyByForm_1 : decode cX0_isEmptyByForm 1 = .ok (.getfield 15, 3) := by decide +kernel
theorem dX0_isEmptyByForm_4 : decode cX0_isEmptyByForm 4 = .ok (.iload_n 1, 1) := by decide +kernel
theorem dX0_isEmptyByForm_5 : decode cX0_isEmptyByForm 5 = .ok (.iaload, 1) := by decide +kernel
theorem dX0_isEmptyByForm_6 : decode cX0_isEmptyByForm 6 = .ok (.istore_n 2, 1) := by decide +kernel
theorem dX0_isEmptyByForm_7 : decode cX0_isEmptyByForm 7 = .ok (.aload_n 0, 1) := by decide +kernel
theorem dX0_isEmptyByForm_8 : decode cX0_isEmptyByForm 8 = .ok (.getfield 18, 3) := by decide +kernel
theorem dX0_isEmptyByForm_11 : decode cX0_isEmptyByForm 11 = .ok (.iload_n 1, 1) := by decide +kernel
theorem dX0_isEmptyByForm_12 : decode cX0_isEmptyByForm 12 = .ok (.iaload, 1) := by decide +kernel
theorem dX0_isEmptyByForm_13 : decode cX0_isEmptyByForm 13 = .ok (.istore_n 3, 1) := by decide +kernel
theorem dX0_isEmptyByForm_14 : decode cX0_isEmptyByForm 14 = .ok (.aload_n 0, 1) := by decide +kernel
theorem dX0_isEmptyByForm_15 : decode cX0_isEmptyByForm 15 = .ok (.getfield 9, 3) := by decide +kernel
theorem dX0_isEmptyByForm_18 : decode cX0_isEmptyByForm 18 = .ok (.iload_n 1, 1) := by decide +kernel
theorem dX0_isEmptyByForm_19 : decode cX0_isEmptyByForm 19 = .ok (.iaload, 1) := by decide +kernel
theorem dX0_isEmptyByForm_20 : decode cX0_isEmptyByForm 20 = .ok (.tableswitch 100 2 5 #[32, 34, 52, 76], 32) := by decide +kernel
theorem dX0_isEmptyByForm_52 : decode cX0_isEmptyByForm 52 = .ok (.iconst 0, 1) := by decide +kernel
theorem dX0_isEmptyByForm_53 : decode cX0_isEmptyByForm 53 = .ok (.ireturn, 1) := by decide +kernel
theorem dX0_isEmptyByForm_54 : decode cX0_isEmptyByForm 54 = .ok (.aload_n 0, 1) := by decide +kernel
theorem dX0_isEmptyByForm_55 : decode cX0_isEmptyByForm 55 = .ok (.getfield 32, 3) := by decide +kernel
theorem dX0_isEmptyByForm_58 : decode cX0_isEmptyByForm 58 = .ok (.iload_n 2, 1) := by decide +kernel
theorem dX0_isEmptyByForm_59 : decode cX0_isEmptyByForm 59 = .ok (.invokestatic 54, 3) := by decide +kernel
theorem dX0_isEmptyByForm_62 : decode cX0_isEmptyByForm 62 = .ok (.iand, 1) := by decide +kernel
theorem dX0_isEmptyByForm_63 : decode cX0_isEmptyByForm 63 = .ok (.ifCond .eq 7, 3) := by decide +kernel
theorem dX0_isEmptyByForm_66 : decode cX0_isEmptyByForm 66 = .ok (.iconst 1, 1) := by decide +kernel
theorem dX0_isEmptyByForm_67 : decode cX0_isEmptyByForm 67 = .ok (.goto 4, 3) := by decide +kernel
theorem dX0_isEmptyByForm_70 : decode cX0_isEmptyByForm 70 = .ok (.iconst 0, 1) := by decide +kernel
theorem dX0_isEmptyByForm_71 : decode cX0_isEmptyByForm 71 = .ok (.ireturn, 1) := by decide +kernel
theorem dX0_isEmptyByForm_72 : decode cX0_isEmptyByForm 72 = .ok (.aload_n 0, 1) := by decide +kernel
theorem dX0_isEmptyByForm_73 : decode cX0_isEmptyByForm 73 = .ok (.getfield 28, 3) := by decide +kernel
theorem dX0_isEmptyByForm_76 : decode cX0_isEmptyByForm 76 = .ok (.iload_n 2, 1) := by decide +kernel
theorem dX0_isEmptyByForm_77 : decode cX0_isEmptyByForm 77 = .ok (.baload, 1) := by decide +kernel
theorem dX0_isEmptyByForm_78 : decode cX0_isEmptyByForm 78 = .ok (.ifCond .eq 16, 3) := by decide +kernel
theorem dX0_isEmptyByForm_81 : decode cX0_isEmptyByForm 81 = .ok (.aload_n 0, 1) := by decide +kernel
theorem dX0_isEmptyByForm_82 : decode cX0_isEmptyByForm 82 = .ok (.getfield 28, 3) := by decide +kernel
theorem dX0_isEmptyByForm_85 : decode cX0_isEmptyByForm 85 = .ok (.iload_n 3, 1) := by decide +kernel
theorem dX0_isEmptyByForm_86 : decode cX0_isEmptyByForm 86 = .ok (.baload, 1) := by decide +kernel
theorem dX0_isEmptyByForm_87 : decode cX0_isEmptyByForm 87 = .ok (.ifCond .eq 7, 3) := by decide +kernel
theorem dX0_isEmptyByForm_90 : decode cX0_isEmptyByForm 90 = .ok (.iconst 1, 1) := by decide +kernel
theorem dX0_isEmptyByForm_91 : decode cX0_isEmptyByForm 91 = .ok (.goto 4, 3) := by decide +kernel
theorem dX0_isEmptyByForm_94 : decode cX0_isEmptyByForm 94 = .ok (.iconst 0, 1) := by decide +kernel
theorem dX0_isEmptyByForm_95 : decode cX0_isEmptyByForm 95 = .ok (.ireturn, 1) := by decide +kernel
theorem dX0_isEmptyByForm_96 : decode cX0_isEmptyByForm 96 = .ok (.aload_n 0, 1) := by decide +kernel
theorem dX0_isEmptyByForm_97 : decode cX0_isEmptyByForm 97 = .ok (.getfield 28, 3) := by decide +kernel
theorem dX0_isEmptyByForm_100 : decode cX0_isEmptyByForm 100 = .ok (.iload_n 2, 1) := by decide +kernel
theorem dX0_isEmptyByForm_101 : decode cX0_isEmptyByForm 101 = .ok (.baload, 1) := by decide +kernel
theorem dX0_isEmptyByForm_102 : decode cX0_isEmptyByForm 102 = .ok (.ifCond .ne 12, 3) := by decide +kernel
theorem dX0_isEmptyByForm_105 : decode cX0_isEmptyByForm 105 = .ok (.aload_n 0, 1) := by decide +kernel
theorem dX0_isEmptyByForm_106 : decode cX0_isEmptyByForm 106 = .ok (.getfield 28, 3) := by decide +kernel
theorem dX0_isEmptyByForm_109 : decode cX0_isEmptyByForm 109 = .ok (.iload_n 3, 1) := by decide +kernel
theorem dX0_isEmptyByForm_110 : decode cX0_isEmptyByForm 110 = .ok (.baload, 1) := by decide +kernel
theorem dX0_isEmptyByForm_111 : decode cX0_isEmptyByForm 111 = .ok (.ifCond .eq 7, 3) := by decide +kernel
theorem dX0_isEmptyByForm_114 : decode cX0_isEmptyByForm 114 = .ok (.iconst 1, 1) := by decide +kernel
theorem dX0_isEmptyByForm_115 : decode cX0_isEmptyByForm 115 = .ok (.goto 4, 3) := by decide +kernel
theorem dX0_isEmptyByForm_118 : decode cX0_isEmptyByForm 118 = .ok (.iconst 0, 1) := by decide +kernel
theorem dX0_isEmptyByForm_119 : decode cX0_isEmptyByForm 119 = .ok (.ireturn, 1) := by decide +kernel
theorem dX0_isEmptyByForm_120 : decode cX0_isEmptyByForm 120 = .ok (.iconst 1, 1) := by decide +kernel
theorem dX0_isEmptyByForm_121 : decode cX0_isEmptyByForm 121 = .ok (.ireturn, 1) := by decide +kernel
set_option maxRecDepth 20000 in
theorem ggX0_addEmptyRules_X0_has : GoodIn wsX0_addEmptyRules wsX0_has := goodIn_r _ [8, 9, 13, 14, 15, 16, 17, 18, 19, 20] (by decide +kernel) (by decide +kernel)
set_option maxRecDepth 20000 in
theorem gX0_addEmptyRules_X0_has : GoodIn wsX0_addEmptyRules (wsV RX0 69 RX0 yX0_has wsX0_has) := goodIn_app (goodIn_of _ (by decide +kernel)) ggX0_addEmptyRules_X0_has
set_option maxRecDepth 20000 in
theorem ggX0_addEmptyRules_X5_bit : GoodIn wsX0_addEmptyRules wsX5_bit := goodIn_r _ [12] (by decide +kernel) (by decide +kernel)
set_option maxRecDepth 20000 in
theorem gX0_addEmptyRules_X5_bit_n54 : GoodIn wsX0_addEmptyRules (wsX5_bit) := ggX0_addEmptyRules_X5_bit
theorem dX0_addEmptyRules_0 : decode cX0_addEmptyRules 0 = .ok (.aload_n 0, 1) := by decide +kernel
theorem dX0_addEmptyRules_1 : decode cX0_addEmptyRules 1 = .ok (.getfield 32, 3) := by decide +kernel
theorem dX0_addEmptyRules_4 : decode cX0_addEmptyRules 4 = .ok (.istore_n 1, 1) := by decide +kernel
theorem dX0_addEmptyRules_5 : decode cX0_addEmptyRules 5 = .ok (.iconst 0, 1) := by decide +kernel
theorem dX0_addEmptyRules_6 : decode cX0_addEmptyRules 6 = .ok (.istore_n 2, 1) := by decide +kernel
theorem dX0_addEmptyRules_7 : decode cX0_addEmptyRules 7 = .ok (.iload_n 2, 1) := by decide +kernel
theorem dX0_addEmptyRules_8 : decode cX0_addEmptyRules 8 = .ok (.bipush 10, 2) := by decide +kernel
theorem dX0_addEmptyRules_10 : decode cX0_addEmptyRules 10 = .ok (.if_icmp .ge 46, 3) := by decide +kernel
theorem dX0_addEmptyRules_13 : decode cX0_addEmptyRules 13 = .ok (.aload_n 0, 1) := by decide +kernel
theorem dX0_addEmptyRules_14 : decode cX0_addEmptyRules 14 = .ok (.getfield 21, 3) := by decide +kernel
theorem dX0_addEmptyRules_17 : decode cX0_addEmptyRules 17 = .ok (.iload_n 2, 1) := by decide +kernel
theorem dX0_addEmptyRules_18 : decode cX0_addEmptyRules 18 = .ok (.iaload, 1) := by decide +kernel
theorem dX0_addEmptyRules_19 : decode cX0_addEmptyRules 19 = .ok (.istore_n 3, 1) := by decide +kernel
theorem dX0_addEmptyRules_20 : decode cX0_addEmptyRules 20 = .ok (.aload_n 0, 1) := by decide +kernel
theorem dX0_addEmptyRules_21 : decode cX0_addEmptyRules 21 = .ok (.iload_n 3, 1) := by decide +kernel
theorem dX0_addEmptyRules_22 : decode cX0_addEmptyRules 22 = .ok (.invokevirtual 69, 3) := by decide +kernel
theorem dX0_addEmptyRules_25 : decode cX0_addEmptyRules 25 = .ok (.ifCond .eq 25, 3) := by decide +kernel
theorem dX0_addEmptyRules_28 : decode cX0_addEmptyRules 28 = .ok (.aload_n 0, 1) := by decide +kernel
theorem dX0_addEmptyRules_29 : decode cX0_addEmptyRules 29 = .ok (.getfield 28, 3) := by decide +kernel
theorem dX0_addEmptyRules_32 : decode cX0_addEmptyRules 32 = .ok (.iload_n 3, 1) := by decide +kernel
theorem dX0_addEmptyRules_33 : decode cX0_addEmptyRules 33 = .ok (.baload, 1) := by decide +kernel
theorem dX0_addEmptyRules_34 : decode cX0_addEmptyRules 34 = .ok (.ifCond .eq 16, 3) := by decide +kernel
theorem dX0_addEmptyRules_37 : decode cX0_addEmptyRules 37 = .ok (.aload_n 0, 1) := by decide +kernel
theorem dX0_addEmptyRules_38 : decode cX0_addEmptyRules 38 = .ok (.dup, 1) := by decide +kernel
theorem dX0_addEmptyRules_39 : decode cX0_addEmptyRules 39 = .ok (.getfield 32, 3) := by decide +kernel
theorem dX0_addEmptyRules_42 : decode cX0_addEmptyRules 42 = .ok (.iload_n 2, 1) := by decide +kernel
theorem dX0_addEmptyRules_43 : decode cX0_addEmptyRules 43 = .ok (.invokestatic 54, 3) := by decide +kernel
theorem dX0_addEmptyRules_46 : decode cX0_addEmptyRules 46 = .ok (.ior, 1) := by decide +kernel
theorem dX0_addEmptyRules_47 : decode cX0_addEmptyRules 47 = .ok (.putfield 32, 3) := by decide +kernel
theorem dX0_addEmptyRules_50 : decode cX0_addEmptyRules 50 = .ok (.iinc 2 1, 3) := by decide +kernel
theorem dX0_addEmptyRules_53 : decode cX0_addEmptyRules 53 = .ok (.goto (-46), 3) := by decide +kernel
theorem dX0_addEmptyRules_56 : decode cX0_addEmptyRules 56 = .ok (.aload_n 0, 1) := by decide +kernel
theorem dX0_addEmptyRules_57 : decode cX0_addEmptyRules 57 = .ok (.getfield 32, 3) := by decide +kernel
theorem dX0_addEmptyRules_60 : decode cX0_addEmptyRules 60 = .ok (.iload_n 1, 1) := by decide +kernel
theorem dX0_addEmptyRules_61 : decode cX0_addEmptyRules 61 = .ok (.if_icmp .eq 7, 3) := by decide +kernel
theorem dX0_addEmptyRules_64 : decode cX0_addEmptyRules 64 = .ok (.iconst 1, 1) := by decide +kernel
theorem dX0_addEmptyRules_65 : decode cX0_addEmptyRules 65 = .ok (.goto 4, 3) := by decide +kernel
theorem dX0_addEmptyRules_68 : decode cX0_addEmptyRules 68 = .ok (.iconst 0, 1) := by decide +kernel
theorem dX0_addEmptyRules_69 : decode cX0_addEmptyRules 69 = .ok (.ireturn, 1) := by decide +kernel
set_option maxRecDepth 20000 in
theorem ggX0_findBeginnings_X0_beginningsByForm : GoodIn wsX0_findBeginnings wsX0_beginningsByForm := goodIn_r _ [7, 8, 9, 10, 2, 11, 12, 13, 14, 15, 16, 17, 18, 19, 20, 21, 22] (by decide +kernel) (by decide +kernel)
set_option maxRecDepth 20000 in
theorem gX0_findBeginnings_X0_beginningsByForm : GoodIn wsX0_findBeginnings (wsV RX0 72 RX0 yX0_beginningsByForm wsX0_beginningsByForm) := goodIn_app (goodIn_of _ (by decide +kernel)) ggX0_findBeginnings_X0_beginningsByForm
theorem dX0_findBeginnings_0 : decode cX0_findBeginnings 0 = .ok (.iconst 0, 1) := by decide +kernel
theorem dX0_findBeginnings_1 : decode cX0_findBeginnings 1 = .ok (.istore_n 1, 1) := by decide +kernel
theorem dX0_findBeginnings_2 : decode cX0_findBeginnings 2 = .ok (.iload_n 1, 1) := by decide +kernel
theorem dX0_findBeginnings_3 : decode cX0_findBeginnings 3 = .ok (.aload_n 0, 1) := by decide +kernel
theorem dX0_findBeginnings_4 : decode cX0_findBeginnings 4 = .ok (.getfield 24, 3) := by decide +kernel
theorem dX0_findBeginnings_7 : decode cX0_findBeginnings 7 = .ok (.if_icmp .ge 20, 3) := by decide +kernel
theorem dX0_findBeginnings_10 : decode cX0_findBeginnings 10 = .ok (.aload_n 0, 1) := by decide +kernel
theorem dX0_findBeginnings_11 : decode cX0_findBeginnings 11 = .ok (.getfield 35, 3) := by decide +kernel
theorem dX0_findBeginnings_14 : decode cX0_findBeginnings 14 = .ok (.iload_n 1, 1) := by decide +kernel
theorem dX0_findBeginnings_15 : decode cX0_findBeginnings 15 = .ok (.aload_n 0, 1) := by decide +kernel
theorem dX0_findBeginnings_16 : decode cX0_findBeginnings 16 = .ok (.iload_n 1, 1) := by decide +kernel
theorem dX0_findBeginnings_17 : decode cX0_findBeginnings 17 = .ok (.invokevirtual 72, 3) := by decide +kernel
theorem dX0_findBeginnings_20 : decode cX0_findBeginnings 20 = .ok (.iastore, 1) := by decide +kernel
theorem dX0_findBeginnings_21 : decode cX0_findBeginnings 21 = .ok (.iinc 1 1, 3) := by decide +kernel
theorem dX0_findBeginnings_24 : decode cX0_findBeginnings 24 = .ok (.goto (-22), 3) := by decide +kernel
theorem dX0_findBeginnings_27 : decode cX0_findBeginnings 27 = .ok (.return_, 1) := by decide +kernel
set_option maxRecDepth 20000 in
theorem ggX0_beginningsByForm_X5_bit : GoodIn wsX0_beginningsByForm wsX5_bit := goodIn_r _ [8] (by decide +kernel) (by decide +kernel)
set_option maxRecDepth 20000 in
theorem gX0_beginningsByForm_X5_bit_n54 : GoodIn wsX0_beginningsByForm (wsX5_bit) := ggX0_beginningsByForm_X5_bit
theorem dX0_beginningsByForm_0 : decode cX0_beginningsByForm 0 = .ok (.aload_n 0, 1) := by decide +kernel
theorem dX0_beginningsByForm_1 : decode cX0_beginningsByForm 1 = .ok (.getfield 15, 3) := by decide +kernel
theorem dX0_beginningsByForm_4 : decode cX0_beginningsByForm 4 = .ok (.iload_n 1, 1) := by decide +kernel
theorem dX0_beginningsByForm_5 : decode cX0_beginningsByForm 5 = .ok (.iaload, 1) := by decide +kernel
theorem dX0_beginningsByForm_6 : decode cX0_beginningsByForm 6 = .ok (.istore_n 2, 1) := by decide +kernel
theorem dX0_beginningsByForm_7 : decode cX0_beginningsByForm 7 = .ok (.aload_n 0, 1) := by decide +kernel
theorem dX0_beginningsByForm_8 : decode cX0_beginningsByForm 8 = .ok (.getfield 18, 3) := by decide +kernel
theorem dX0_beginningsByForm_11 : decode cX0_beginningsByForm 11 = .ok (.iload_n 1, 1) := by decide +kernel
theorem dX0_beginningsByForm_12 : decode cX0_beginningsByForm 12 = .ok (.iaload, 1) := by decide +kernel
theorem dX0_beginningsByForm_13 : decode cX0_beginningsByForm 13 = .ok (.istore_n 3, 1) := by decide +kernel
theorem dX0_beginningsByForm_14 : decode cX0_beginningsByForm 14 = .ok (.aload_n 0, 1) := by decide +kernel
theorem dX0_beginningsByForm_15 : decode cX0_beginningsByForm 15 = .ok (.getfield 9, 3) := by decide +kernel
theorem dX0_beginningsByForm_18 : decode cX0_beginningsByForm 18 = .ok (.iload_n 1, 1) := by decide +kernel
theorem dX0_beginningsByForm_19 : decode cX0_beginningsByForm 19 = .ok (.iaload, 1) := by decide +kernel
theorem dX0_beginningsByForm_20 : decode cX0_beginningsByForm 20 = .ok (.tableswitch 88 0 5 #[40, 40, 40, 42, 47, 74], 40) := by decide +kernel
theorem dX0_beginningsByForm_60 : decode cX0_beginningsByForm 60 = .ok (.iconst 0, 1) := by decide +kernel
theorem dX0_beginningsByForm_61 : decode cX0_beginningsByForm 61 = .ok (.ireturn, 1) := by decide +kernel
theorem dX0_beginningsByForm_62 : decode cX0_beginningsByForm 62 = .ok (.iload_n 2, 1) := by decide +kernel
theorem dX0_beginningsByForm_63 : decode cX0_beginningsByForm 63 = .ok (.invokestatic 54, 3) := by decide +kernel
theorem dX0_beginningsByForm_66 : decode cX0_beginningsByForm 66 = .ok (.ireturn, 1) := by decide +kernel
theorem dX0_beginningsByForm_67 : decode cX0_beginningsByForm 67 = .ok (.aload_n 0, 1) := by decide +kernel
theorem dX0_beginningsByForm_68 : decode cX0_beginningsByForm 68 = .ok (.getfield 35, 3) := by decide +kernel
theorem dX0_beginningsByForm_71 : decode cX0_beginningsByForm 71 = .ok (.iload_n 2, 1) := by decide +kernel
theorem dX0_beginningsByForm_72 : decode cX0_beginningsByForm 72 = .ok (.iaload, 1) := by decide +kernel
theorem dX0_beginningsByForm_73 : decode cX0_beginningsByForm 73 = .ok (.aload_n 0, 1) := by decide +kernel
theorem dX0_beginningsByForm_74 : decode cX0_beginningsByForm 74 = .ok (.getfield 28, 3) := by decide +kernel
theorem dX0_beginningsByForm_77 : decode cX0_beginningsByForm 77 = .ok (.iload_n 2, 1) := by decide +kernel
theorem dX0_beginningsByForm_78 : decode cX0_beginningsByForm 78 = .ok (.baload, 1) := by decide +kernel
theorem dX0_beginningsByForm_79 : decode cX0_beginningsByForm 79 = .ok (.ifCond .eq 12, 3) := by decide +kernel
theorem dX0_beginningsByForm_82 : decode cX0_beginningsByForm 82 = .ok (.aload_n 0, 1) := by decide +kernel
theorem dX0_beginningsByForm_83 : decode cX0_beginningsByForm 83 = .ok (.getfield 35, 3) := by decide +kernel
theorem dX0_beginningsByForm_86 : decode cX0_beginningsByForm 86 = .ok (.iload_n 3, 1) := by decide +kernel
theorem dX0_beginningsByForm_87 : decode cX0_beginningsByForm 87 = .ok (.iaload, 1) := by decide +kernel
theorem dX0_beginningsByForm_88 : decode cX0_beginningsByForm 88 = .ok (.goto 4, 3) := by decide +kernel
theorem dX0_beginningsByForm_91 : decode cX0_beginningsByForm 91 = .ok (.iconst 0, 1) := by decide +kernel
theorem dX0_beginningsByForm_92 : decode cX0_beginningsByForm 92 = .ok (.ior, 1) := by decide +kernel
theorem dX0_beginningsByForm_93 : decode cX0_beginningsByForm 93 = .ok (.ireturn, 1) := by decide +kernel
theorem dX0_beginningsByForm_94 : decode cX0_beginningsByForm 94 = .ok (.aload_n 0, 1) := by decide +kernel
theorem dX0_beginningsByForm_95 : decode cX0_beginningsByForm 95 = .ok (.getfield 35, 3) := by decide +kernel
theorem dX0_beginningsByForm_98 : decode cX0_beginningsByForm 98 = .ok (.iload_n 2, 1) := by decide +kernel
theorem dX0_beginningsByForm_99 : decode cX0_beginningsByForm 99 = .ok (.iaload, 1) := by decide +kernel
theorem dX0_beginningsByForm_100 : decode cX0_beginningsByForm 100 = .ok (.aload_n 0, 1) := by decide +kernel
theorem dX0_beginningsByForm_101 : decode cX0_beginningsByForm 101 = .ok (.getfield 35, 3) := by decide +kernel
theorem dX0_beginningsByForm_104 : decode cX0_beginningsByForm 104 = .ok (.iload_n 3, 1) := by decide +kernel
theorem dX0_beginningsByForm_105 : decode cX0_beginningsByForm 105 = .ok (.iaload, 1) := by decide +kernel
theorem dX0_beginningsByForm_106 : decode cX0_beginningsByForm 106 = .ok (.ior, 1) := by decide +kernel
theorem dX0_beginningsByForm_107 : decode cX0_beginningsByForm 107 = .ok (.ireturn, 1) := by decide +kernel
theorem dX0_beginningsByForm_108 : decode cX0_beginningsByForm 108 = .ok (.aload_n 0, 1) := by decide +kernel
theorem dX0_beginningsByForm_109 : decode cX0_beginningsByForm 109 = .ok (.getfield 35, 3) := by decide +kernel
theorem dX0_beginningsByForm_112 : decode cX0_beginningsByForm 112 = .ok (.iload_n 2, 1) := by decide +kernel
theorem dX0_beginningsByForm_113 : decode cX0_beginningsByForm 113 = .ok (.iaload, 1) := by decide +kernel
theorem dX0_beginningsByForm_114 : decode cX0_beginningsByForm 114 = .ok (.ireturn, 1) := by decide +kernel
set_option maxRecDepth 20000 in
theorem ggX0_beginningsOfRule_X0_has : GoodIn wsX0_beginningsOfRule wsX0_has := goodIn_r _ [7, 8, 9, 10, 11, 12, 13, 14, 15, 16] (by decide +kernel) (by decide +kernel)
set_option maxRecDepth 20000 in
theorem gX0_beginningsOfRule_X0_has : GoodIn wsX0_beginningsOfRule (wsV RX0 69 RX0 yX0_has wsX0_has) := goodIn_app (goodIn_of _ (by decide +kernel)) ggX0_beginningsOfRule_X0_has
theorem dX0_beginningsOfRule_0 : decode cX0_beginningsOfRule 0 = .ok (.aload_n 0, 1) := by decide +kernel
theorem dX0_beginningsOfRule_1 : decode cX0_beginningsOfRule 1 = .ok (.getfield 21, 3) := by decide +kernel
theorem dX0_beginningsOfRule_4 : decode cX0_beginningsOfRule 4 = .ok (.iload_n 1, 1) := by decide +kernel
theorem dX0_beginningsOfRule_5 : decode cX0_beginningsOfRule 5 = .ok (.iaload, 1) := by decide +kernel
theorem dX0_beginningsOfRule_6 : decode cX0_beginningsOfRule 6 = .ok (.istore_n 2, 1) := by decide +kernel
theorem dX0_beginningsOfRule_7 : decode cX0_beginningsOfRule 7 = .ok (.aload_n 0, 1) := by decide +kernel
theorem dX0_beginningsOfRule_8 : decode cX0_beginningsOfRule 8 = .ok (.iload_n 2, 1) := by decide +kernel
theorem dX0_beginningsOfRule_9 : decode cX0_beginningsOfRule 9 = .ok (.invokevirtual 69, 3) := by decide +kernel
theorem dX0_beginningsOfRule_12 : decode cX0_beginningsOfRule 12 = .ok (.ifCond .eq 12, 3) := by decide +kernel
theorem dX0_beginningsOfRule_15 : decode cX0_beginningsOfRule 15 = .ok (.aload_n 0, 1) := by decide +kernel
theorem dX0_beginningsOfRule_16 : decode cX0_beginningsOfRule 16 = .ok (.getfield 35, 3) := by decide +kernel
theorem dX0_beginningsOfRule_19 : decode cX0_beginningsOfRule 19 = .ok (.iload_n 2, 1) := by decide +kernel
theorem dX0_beginningsOfRule_20 : decode cX0_beginningsOfRule 20 = .ok (.iaload, 1) := by decide +kernel
theorem dX0_beginningsOfRule_21 : decode cX0_beginningsOfRule 21 = .ok (.goto 4, 3) := by decide +kernel
theorem dX0_beginningsOfRule_24 : decode cX0_beginningsOfRule 24 = .ok (.iconst 0, 1) := by decide +kernel
theorem dX0_beginningsOfRule_25 : decode cX0_beginningsOfRule 25 = .ok (.ireturn, 1) := by decide +kernel
set_option maxRecDepth 20000 in
theorem ggX1_init_J7_fill_53178 : GoodIn wsX1_init wsJ7_fill_53178 := goodIn_r _ [11] (by decide +kernel) (by decide +kernel)
set_option maxRecDepth 20000 in
theorem gX1_init_J7_fill_53178 : GoodIn wsX1_init (va_wsS RX1 21 yJ7_fill_53178 wsJ7_fill_53178) := goodIn_app (goodIn_of _ (by decide +kernel)) ggX1_init_J7_fill_53178
theorem dX1_init_0 : decode cX1_init 0 = .ok (.aload_n 0, 1) := by decide +kernel
theorem dX1_init_1 : decode cX1_init 1 = .ok (.invokespecial 3, 3) := by decide +kernel
theorem dX1_init_4 : decode cX1_init 4 = .ok (.aload_n 0, 1) := by decide +kernel
theorem dX1_init_5 : decode cX1_init 5 = .ok (.sipush 410, 3) := by decide +kernel
theorem dX1_init_8 : decode cX1_init 8 = .ok (.newarray .int, 2) := by decide +kernel
theorem dX1_init_10 : decode cX1_init 10 = .ok (.putfield 9, 3) := by decide +kernel
theorem dX1_init_13 : decode cX1_init 13 = .ok (.aload_n 0, 1) := by decide +kernel
theorem dX1_init_14 : decode cX1_init 14 = .ok (.sipush 410, 3) := by decide +kernel
theorem dX1_init_17 : decode cX1_init 17 = .ok (.newarray .int, 2) := by decide +kernel
theorem dX1_init_19 : decode cX1_init 19 = .ok (.putfield 15, 3) := by decide +kernel
theorem dX1_init_22 : decode cX1_init 22 = .ok (.aload_n 0, 1) := by decide +kernel
theorem dX1_init_23 : decode cX1_init 23 = .ok (.sipush 410, 3) := by decide +kernel
theorem dX1_init_26 : decode cX1_init 26 = .ok (.newarray .int, 2) := by decide +kernel
theorem dX1_init_28 : decode cX1_init 28 = .ok (.putfield 18, 3) := by decide +kernel
theorem dX1_init_31 : decode cX1_init 31 = .ok (.aload_n 0, 1) := by decide +kernel
theorem dX1_init_32 : decode cX1_init 32 = .ok (.getfield 9, 3) := by decide +kernel
theorem dX1_init_35 : decode cX1_init 35 = .ok (.bipush (-3), 2) := by decide +kernel
theorem dX1_init_37 : decode cX1_init 37 = .ok (.invokestatic 21, 3) := by decide +kernel
theorem dX1_init_40 : decode cX1_init 40 = .ok (.aload_n 0, 1) := by decide +kernel
theorem dX1_init_41 : decode cX1_init 41 = .ok (.getfield 15, 3) := by decide +kernel
theorem dX1_init_44 : decode cX1_init 44 = .ok (.iconst (-1), 1) := by decide +kernel
theorem dX1_init_45 : decode cX1_init 45 = .ok (.invokestatic 21, 3) := by decide +kernel
theorem dX1_init_48 : decode cX1_init 48 = .ok (.return_, 1) := by decide +kernel
theorem dX1_holds_0 : decode cX1_holds 0 = .ok (.aload_n 0, 1) := by decide +kernel
theorem dX1_holds_1 : decode cX1_holds 1 = .ok (.getfield 9, 3) := by decide +kernel
theorem dX1_holds_4 : decode cX1_holds 4 = .ok (.iload_n 1, 1) := by decide +kernel
theorem dX1_holds_5 : decode cX1_holds 5 = .ok (.iaload, 1) := by decide +kernel
theorem dX1_holds_6 : decode cX1_holds 6 = .ok (.bipush (-3), 2) := by decide +kernel
theorem dX1_holds_8 : decode cX1_holds 8 = .ok (.if_icmp .eq 7, 3) := by decide +kernel
theorem dX1_holds_11 : decode cX1_holds 11 = .ok (.iconst 1, 1) := by decide +kernel
theorem dX1_holds_12 : decode cX1_holds 12 = .ok (.goto 4, 3) := by decide +kernel
theorem dX1_holds_15 : decode cX1_holds 15 = .ok (.iconst 0, 1) := by decide +kernel
theorem dX1_holds_16 : decode cX1_holds 16 = .ok (.ireturn, 1) := by decide +kernel
theorem dX1_put_0 : decode cX1_put 0 = .ok (.aload_n 0, 1) := by decide +kernel
theorem dX1_put_1 : decode cX1_put 1 = .ok (.getfield 9, 3) := by decide +kernel
theorem dX1_put_4 : decode cX1_put 4 = .ok (.iload_n 1, 1) := by decide +kernel
theorem dX1_put_5 : decode cX1_put 5 = .ok (.iload_n 2, 1) := by decide +kernel
theorem dX1_put_6 : decode cX1_put 6 = .ok (.iastore, 1) := by decide +kernel
theorem dX1_put_7 : decode cX1_put 7 = .ok (.aload_n 0, 1) := by decide +kernel
theorem dX1_put_8 : decode cX1_put 8 = .ok (.getfield 15, 3) := by decide +kernel
theorem dX1_put_11 : decode cX1_put 11 = .ok (.iload_n 1, 1) := by decide +kernel
theorem dX1_put_12 : decode cX1_put 12 = .ok (.iload_n 3, 1) := by decide +kernel
theorem dX1_put_13 : decode cX1_put 13 = .ok (.iastore, 1) := by decide +kernel
theorem dX1_put_14 : decode cX1_put 14 = .ok (.aload_n 0, 1) := by decide +kernel
theorem dX1_put_15 : decode cX1_put 15 = .ok (.getfield 18, 3) := by decide +kernel
theorem dX1_put_18 : decode cX1_put 18 = .ok (.iload_n 1, 1) := by decide +kernel
theorem dX1_put_19 : decode cX1_put 19 = .ok (.iload 4, 2) := by decide +kernel
theorem dX1_put_21 : decode cX1_put 21 = .ok (.iastore, 1) := by decide +kernel
theorem dX1_put_22 : decode cX1_put 22 = .ok (.return_, 1) := by decide +kernel
set_option maxRecDepth 20000 in
theorem ggX1_clear_X1_drop : GoodIn wsX1_clear wsX1_drop := goodIn_r _ [5, 6, 7, 8, 4, 9, 10, 11, 12, 13, 14, 15] (by decide +kernel) (by decide +kernel)
set_option maxRecDepth 20000 in
theorem gX1_clear_X1_drop : GoodIn wsX1_clear (wsV RX1 27 RX1 yX1_drop wsX1_drop) := goodIn_app (goodIn_of _ (by decide +kernel)) ggX1_clear_X1_drop
theorem dX1_clear_0 : decode cX1_clear 0 = .ok (.iconst 0, 1) := by decide +kernel
theorem dX1_clear_1 : decode cX1_clear 1 = .ok (.istore_n 1, 1) := by decide +kernel
theorem dX1_clear_2 : decode cX1_clear 2 = .ok (.iload_n 1, 1) := by decide +kernel
theorem dX1_clear_3 : decode cX1_clear 3 = .ok (.sipush 410, 3) := by decide +kernel
theorem dX1_clear_6 : decode cX1_clear 6 = .ok (.if_icmp .ge 14, 3) := by decide +kernel
theorem dX1_clear_9 : decode cX1_clear 9 = .ok (.aload_n 0, 1) := by decide +kernel
theorem dX1_clear_10 : decode cX1_clear 10 = .ok (.iload_n 1, 1) := by decide +kernel
theorem dX1_clear_11 : decode cX1_clear 11 = .ok (.invokevirtual 27, 3) := by decide +kernel
theorem dX1_clear_14 : decode cX1_clear 14 = .ok (.iinc 1 1, 3) := by decide +kernel
theorem dX1_clear_17 : decode cX1_clear 17 = .ok (.goto (-15), 3) := by decide +kernel
theorem dX1_clear_20 : decode cX1_clear 20 = .ok (.return_, 1) := by decide +kernel
set_option maxRecDepth 20000 in
theorem ggX1_count_X1_holds : GoodIn wsX1_count wsX1_holds := goodIn_r _ [5, 6, 7, 8, 9] (by decide +kernel) (by decide +kernel)
set_option maxRecDepth 20000 in
theorem gX1_count_X1_holds : GoodIn wsX1_count (wsV RX1 31 RX1 yX1_holds wsX1_holds) := goodIn_app (goodIn_of _ (by decide +kernel)) ggX1_count_X1_holds
theorem dX1_count_0 : decode cX1_count 0 = .ok (.iconst 0, 1) := by decide +kernel
theorem dX1_count_1 : decode cX1_count 1 = .ok (.istore_n 1, 1) := by decide +kernel
theorem dX1_count_2 : decode cX1_count 2 = .ok (.iconst 0, 1) := by decide +kernel
theorem dX1_count_3 : decode cX1_count 3 = .ok (.istore_n 2, 1) := by decide +kernel
theorem dX1_count_4 : decode cX1_count 4 = .ok (.iload_n 2, 1) := by decide +kernel
theorem dX1_count_5 : decode cX1_count 5 = .ok (.sipush 410, 3) := by decide +kernel
theorem dX1_count_8 : decode cX1_count 8 = .ok (.if_icmp .ge 20, 3) := by decide +kernel
theorem dX1_count_11 : decode cX1_count 11 = .ok (.aload_n 0, 1) := by decide +kernel
theorem dX1_count_12 : decode cX1_count 12 = .ok (.iload_n 2, 1) := by decide +kernel
theorem dX1_count_13 : decode cX1_count 13 = .ok (.invokevirtual 31, 3) := by decide +kernel
theorem dX1_count_16 : decode cX1_count 16 = .ok (.ifCond .eq 6, 3) := by decide +kernel
theorem dX1_count_19 : decode cX1_count 19 = .ok (.iinc 1 1, 3) := by decide +kernel
theorem dX1_count_22 : decode cX1_count 22 = .ok (.iinc 2 1, 3) := by decide +kernel
theorem dX1_count_25 : decode cX1_count 25 = .ok (.goto (-21), 3) := by decide +kernel
theorem dX1_count_28 : decode cX1_count 28 = .ok (.iload_n 1, 1) := by decide +kernel
theorem dX1_count_29 : decode cX1_count 29 = .ok (.ireturn, 1) := by decide +kernel
set_option maxRecDepth 20000 in
theorem ggX1_keepUnchanged_X1_holds : GoodIn wsX1_keepUnchanged wsX1_holds := goodIn_r _ [6, 7, 17, 18, 19] (by decide +kernel) (by decide +kernel)
set_option maxRecDepth 20000 in
theorem gX1_keepUnchanged_X1_holds : GoodIn wsX1_keepUnchanged (wsV RX1 31 RX1 yX1_holds wsX1_holds) := goodIn_app (goodIn_of _ (by decide +kernel)) ggX1_keepUnchanged_X1_holds
set_option maxRecDepth 20000 in
theorem ggX1_keepUnchanged_X1_drop : GoodIn wsX1_keepUnchanged wsX1_drop := goodIn_r _ [11, 12, 13, 14, 5, 15, 7, 1, 16, 17, 18, 19] (by decide +kernel) (by decide +kernel)
set_option maxRecDepth 20000 in
theorem gX1_keepUnchanged_X1_drop : GoodIn wsX1_keepUnchanged (wsV RX1 27 RX1 yX1_drop wsX1_drop) := goodIn_app (goodIn_of _ (by decide +kernel)) ggX1_keepUnchanged_X1_drop
theorem dX1_keepUnchanged_0 : decode cX1_keepUnchanged 0 = .ok (.iconst 0, 1) := by decide +kernel
theorem dX1_keepUnchanged_1 : decode cX1_keepUnchanged 1 = .ok (.istore_n 3, 1) := by decide +kernel
theorem dX1_keepUnchanged_2 : decode cX1_keepUnchanged 2 = .ok (.iconst 0, 1) := by decide +kernel
theorem dX1_keepUnchanged_3 : decode cX1_keepUnchanged 3 = .ok (.istore 4, 2) := by decide +kernel
theorem dX1_keepUnchanged_5 : decode cX1_keepUnchanged 5 = .ok (.iload 4, 2) := by decide +kernel
theorem dX1_keepUnchanged_7 : decode cX1_keepUnchanged 7 = .ok (.iload_n 2, 1) := by decide +kernel
theorem dX1_keepUnchanged_8 : decode cX1_keepUnchanged 8 = .ok (.bipush 10, 2) := by decide +kernel
theorem dX1_keepUnchanged_10 : decode cX1_keepUnchanged 10 = .ok (.imul, 1) := by decide +kernel
theorem dX1_keepUnchanged_11 : decode cX1_keepUnchanged 11 = .ok (.if_icmp .ge 38, 3) := by decide +kernel
theorem dX1_keepUnchanged_14 : decode cX1_keepUnchanged 14 = .ok (.aload_n 0, 1) := by decide +kernel
theorem dX1_keepUnchanged_15 : decode cX1_keepUnchanged 15 = .ok (.iload 4, 2) := by decide +kernel
theorem dX1_keepUnchanged_17 : decode cX1_keepUnchanged 17 = .ok (.invokevirtual 31, 3) := by decide +kernel
theorem dX1_keepUnchanged_20 : decode cX1_keepUnchanged 20 = .ok (.ifCond .eq 23, 3) := by decide +kernel
theorem dX1_keepUnchanged_23 : decode cX1_keepUnchanged 23 = .ok (.aload_n 0, 1) := by decide +kernel
theorem dX1_keepUnchanged_24 : decode cX1_keepUnchanged 24 = .ok (.getfield 15, 3) := by decide +kernel
theorem dX1_keepUnchanged_27 : decode cX1_keepUnchanged 27 = .ok (.iload 4, 2) := by decide +kernel
theorem dX1_keepUnchanged_29 : decode cX1_keepUnchanged 29 = .ok (.iaload, 1) := by decide +kernel
theorem dX1_keepUnchanged_30 : decode cX1_keepUnchanged 30 = .ok (.iload_n 1, 1) := by decide +kernel
theorem dX1_keepUnchanged_31 : decode cX1_keepUnchanged 31 = .ok (.if_icmp .le 12, 3) := by decide +kernel
theorem dX1_keepUnchanged_34 : decode cX1_keepUnchanged 34 = .ok (.aload_n 0, 1) := by decide +kernel
theorem dX1_keepUnchanged_35 : decode cX1_keepUnchanged 35 = .ok (.iload 4, 2) := by decide +kernel
theorem dX1_keepUnchanged_37 : decode cX1_keepUnchanged 37 = .ok (.invokevirtual 27, 3) := by decide +kernel
theorem dX1_keepUnchanged_40 : decode cX1_keepUnchanged 40 = .ok (.iinc 3 1, 3) := by decide +kernel
theorem dX1_keepUnchanged_43 : decode cX1_keepUnchanged 43 = .ok (.iinc 4 1, 3) := by decide +kernel
theorem dX1_keepUnchanged_46 : decode cX1_keepUnchanged 46 = .ok (.goto (-41), 3) := by decide +kernel
theorem dX1_keepUnchanged_49 : decode cX1_keepUnchanged 49 = .ok (.iload_n 3, 1) := by decide +kernel
theorem dX1_keepUnchanged_50 : decode cX1_keepUnchanged 50 = .ok (.ireturn, 1) := by decide +kernel
set_option maxRecDepth 20000 in
theorem ggX1_shift_X1_move : GoodIn wsX1_shift wsX1_move := goodIn_r _ [5, 6, 7, 8, 9, 10, 11, 4, 12, 13, 14, 15, 16, 17, 18, 19, 20, 21, 22, 23] (by decide +kernel) (by decide +kernel)
set_option maxRecDepth 20000 in
theorem gX1_shift_X1_move : GoodIn wsX1_shift (wsV RX1 35 RX1 yX1_move wsX1_move) := goodIn_app (goodIn_of _ (by decide +kernel)) ggX1_shift_X1_move
theorem dX1_shift_0 : decode cX1_shift 0 = .ok (.iload_n 1, 1) := by decide +kernel
theorem dX1_shift_1 : decode cX1_shift 1 = .ok (.bipush 10, 2) := by decide +kernel
theorem dX1_shift_3 : decode cX1_shift 3 = .ok (.imul, 1) := by decide +kernel
theorem dX1_shift_4 : decode cX1_shift 4 = .ok (.istore_n 3, 1) := by decide +kernel
theorem dX1_shift_5 : decode cX1_shift 5 = .ok (.iload_n 2, 1) := by decide +kernel
theorem dX1_shift_6 : decode cX1_shift 6 = .ok (.ifCond .ge 30, 3) := by decide +kernel
theorem dX1_shift_9 : decode cX1_shift 9 = .ok (.iload_n 3, 1) := by decide +kernel
theorem dX1_shift_10 : decode cX1_shift 10 = .ok (.istore 4, 2) := by decide +kernel
theorem dX1_shift_12 : decode cX1_shift 12 = .ok (.iload 4, 2) := by decide +kernel
theorem dX1_shift_14 : decode cX1_shift 14 = .ok (.sipush 410, 3) := by decide +kernel
theorem dX1_shift_17 : decode cX1_shift 17 = .ok (.if_icmp .ge 16, 3) := by decide +kernel
theorem dX1_shift_20 : decode cX1_shift 20 = .ok (.aload_n 0, 1) := by decide +kernel
theorem dX1_shift_21 : decode cX1_shift 21 = .ok (.iload 4, 2) := by decide +kernel
theorem dX1_shift_23 : decode cX1_shift 23 = .ok (.iload_n 2, 1) := by decide +kernel
theorem dX1_shift_24 : decode cX1_shift 24 = .ok (.invokevirtual 35, 3) := by decide +kernel
theorem dX1_shift_27 : decode cX1_shift 27 = .ok (.iinc 4 1, 3) := by decide +kernel
theorem dX1_shift_30 : decode cX1_shift 30 = .ok (.goto (-18), 3) := by decide +kernel
theorem dX1_shift_33 : decode cX1_shift 33 = .ok (.goto 31, 3) := by decide +kernel
theorem dX1_shift_36 : decode cX1_shift 36 = .ok (.iload_n 2, 1) := by decide +kernel
theorem dX1_shift_37 : decode cX1_shift 37 = .ok (.ifCond .le 27, 3) := by decide +kernel
theorem dX1_shift_40 : decode cX1_shift 40 = .ok (.sipush 409, 3) := by decide +kernel
theorem dX1_shift_43 : decode cX1_shift 43 = .ok (.istore 4, 2) := by decide +kernel
theorem dX1_shift_45 : decode cX1_shift 45 = .ok (.iload 4, 2) := by decide +kernel
theorem dX1_shift_47 : decode cX1_shift 47 = .ok (.iload_n 3, 1) := by decide +kernel
theorem dX1_shift_48 : decode cX1_shift 48 = .ok (.if_icmp .lt 16, 3) := by decide +kernel
theorem dX1_shift_51 : decode cX1_shift 51 = .ok (.aload_n 0, 1) := by decide +kernel
theorem dX1_shift_52 : decode cX1_shift 52 = .ok (.iload 4, 2) := by decide +kernel
theorem dX1_shift_54 : decode cX1_shift 54 = .ok (.iload_n 2, 1) := by decide +kernel
theorem dX1_shift_55 : decode cX1_shift 55 = .ok (.invokevirtual 35, 3) := by decide +kernel
theorem dX1_shift_58 : decode cX1_shift 58 = .ok (.iinc 4 (-1), 3) := by decide +kernel
theorem dX1_shift_61 : decode cX1_shift 61 = .ok (.goto (-16), 3) := by decide +kernel
theorem dX1_shift_64 : decode cX1_shift 64 = .ok (.return_, 1) := by decide +kernel
set_option maxRecDepth 20000 in
theorem ggX1_addToDigest_X1_holds : GoodIn wsX1_addToDigest wsX1_holds := goodIn_r _ [7, 1, 12, 13, 14] (by decide +kernel) (by decide +kernel)
set_option maxRecDepth 20000 in
theorem gX1_addToDigest_X1_holds : GoodIn wsX1_addToDigest (wsV RX1 31 RX1 yX1_holds wsX1_holds) := goodIn_app (goodIn_of _ (by decide +kernel)) ggX1_addToDigest_X1_holds
set_option maxRecDepth 20000 in
theorem ggX1_addToDigest_X5_mix : GoodIn wsX1_addToDigest wsX5_mix := goodIn_r _ [10, 11] (by decide +kernel) (by decide +kernel)
set_option maxRecDepth 20000 in
theorem gX1_addToDigest_X5_mix_n39 : GoodIn wsX1_addToDigest (wsX5_mix) := ggX1_addToDigest_X5_mix
theorem dX1_addToDigest_0 : decode cX1_addToDigest 0 = .ok (.lload_n 1, 1) := by decide +kernel
theorem dX1_addToDigest_1 : decode cX1_addToDigest 1 = .ok (.lstore_n 3, 1) := by decide +kernel
theorem dX1_addToDigest_2 : decode cX1_addToDigest 2 = .ok (.iconst 0, 1) := by decide +kernel
theorem dX1_addToDigest_3 : decode cX1_addToDigest 3 = .ok (.istore 5, 2) := by decide +kernel
theorem dX1_addToDigest_5 : decode cX1_addToDigest 5 = .ok (.iload 5, 2) := by decide +kernel
theorem dX1_addToDigest_7 : decode cX1_addToDigest 7 = .ok (.sipush 410, 3) := by decide +kernel
theorem dX1_addToDigest_10 : decode cX1_addToDigest 10 = .ok (.if_icmp .ge 62, 3) := by decide +kernel
theorem dX1_addToDigest_13 : decode cX1_addToDigest 13 = .ok (.aload_n 0, 1) := by decide +kernel
theorem dX1_addToDigest_14 : decode cX1_addToDigest 14 = .ok (.iload 5, 2) := by decide +kernel
theorem dX1_addToDigest_16 : decode cX1_addToDigest 16 = .ok (.invokevirtual 31, 3) := by decide +kernel
theorem dX1_addToDigest_19 : decode cX1_addToDigest 19 = .ok (.ifCond .eq 47, 3) := by decide +kernel
theorem dX1_addToDigest_22 : decode cX1_addToDigest 22 = .ok (.lload_n 3, 1) := by decide +kernel
theorem dX1_addToDigest_23 : decode cX1_addToDigest 23 = .ok (.iload 5, 2) := by decide +kernel
theorem dX1_addToDigest_25 : decode cX1_addToDigest 25 = .ok (.bipush 10, 2) := by decide +kernel
theorem dX1_addToDigest_27 : decode cX1_addToDigest 27 = .ok (.idiv, 1) := by decide +kernel
theorem dX1_addToDigest_28 : decode cX1_addToDigest 28 = .ok (.invokestatic 39, 3) := by decide +kernel
theorem dX1_addToDigest_31 : decode cX1_addToDigest 31 = .ok (.lstore_n 3, 1) := by decide +kernel
theorem dX1_addToDigest_32 : decode cX1_addToDigest 32 = .ok (.lload_n 3, 1) := by decide +kernel
theorem dX1_addToDigest_33 : decode cX1_addToDigest 33 = .ok (.iload 5, 2) := by decide +kernel
theorem dX1_addToDigest_35 : decode cX1_addToDigest 35 = .ok (.bipush 10, 2) := by decide +kernel
theorem dX1_addToDigest_37 : decode cX1_addToDigest 37 = .ok (.irem, 1) := by decide +kernel
theorem dX1_addToDigest_38 : decode cX1_addToDigest 38 = .ok (.invokestatic 39, 3) := by decide +kernel
theorem dX1_addToDigest_41 : decode cX1_addToDigest 41 = .ok (.lstore_n 3, 1) := by decide +kernel
theorem dX1_addToDigest_42 : decode cX1_addToDigest 42 = .ok (.lload_n 3, 1) := by decide +kernel
theorem dX1_addToDigest_43 : decode cX1_addToDigest 43 = .ok (.aload_n 0, 1) := by decide +kernel
theorem dX1_addToDigest_44 : decode cX1_addToDigest 44 = .ok (.getfield 9, 3) := by decide +kernel
theorem dX1_addToDigest_47 : decode cX1_addToDigest 47 = .ok (.iload 5, 2) := by decide +kernel
theorem dX1_addToDigest_49 : decode cX1_addToDigest 49 = .ok (.iaload, 1) := by decide +kernel
theorem dX1_addToDigest_50 : decode cX1_addToDigest 50 = .ok (.invokestatic 39, 3) := by decide +kernel
theorem dX1_addToDigest_53 : decode cX1_addToDigest 53 = .ok (.lstore_n 3, 1) := by decide +kernel
theorem dX1_addToDigest_54 : decode cX1_addToDigest 54 = .ok (.lload_n 3, 1) := by decide +kernel
theorem dX1_addToDigest_55 : decode cX1_addToDigest 55 = .ok (.aload_n 0, 1) := by decide +kernel
theorem dX1_addToDigest_56 : decode cX1_addToDigest 56 = .ok (.getfield 15, 3) := by decide +kernel
theorem dX1_addToDigest_59 : decode cX1_addToDigest 59 = .ok (.iload 5, 2) := by decide +kernel
theorem dX1_addToDigest_61 : decode cX1_addToDigest 61 = .ok (.iaload, 1) := by decide +kernel
theorem dX1_addToDigest_62 : decode cX1_addToDigest 62 = .ok (.invokestatic 39, 3) := by decide +kernel
theorem dX1_addToDigest_65 : decode cX1_addToDigest 65 = .ok (.lstore_n 3, 1) := by decide +kernel
theorem dX1_addToDigest_66 : decode cX1_addToDigest 66 = .ok (.iinc 5 1, 3) := by decide +kernel
theorem dX1_addToDigest_69 : decode cX1_addToDigest 69 = .ok (.goto (-64), 3) := by decide +kernel
theorem dX1_addToDigest_72 : decode cX1_addToDigest 72 = .ok (.lload_n 3, 1) := by decide +kernel
theorem dX1_addToDigest_73 : decode cX1_addToDigest 73 = .ok (.lreturn, 1) := by decide +kernel
set_option maxRecDepth 20000 in
theorem ggX1_move_X1_holds : GoodIn wsX1_move wsX1_holds := goodIn_r _ [8, 1, 17, 18, 19] (by decide +kernel) (by decide +kernel)
set_option maxRecDepth 20000 in
theorem gX1_move_X1_holds : GoodIn wsX1_move (wsV RX1 31 RX1 yX1_holds wsX1_holds) := goodIn_app (goodIn_of _ (by decide +kernel)) ggX1_move_X1_holds
set_option maxRecDepth 20000 in
theorem ggX1_move_X1_put : GoodIn wsX1_move wsX1_put := goodIn_r _ [12, 1, 2, 3, 17, 18, 19] (by decide +kernel) (by decide +kernel)
set_option maxRecDepth 20000 in
theorem gX1_move_X1_put : GoodIn wsX1_move (wsV RX1 43 RX1 yX1_put wsX1_put) := goodIn_app (goodIn_of _ (by decide +kernel)) ggX1_move_X1_put
set_option maxRecDepth 20000 in
theorem ggX1_move_X1_drop : GoodIn wsX1_move wsX1_drop := goodIn_r _ [16, 9, 10, 11, 7, 12, 1, 2, 3, 17, 18, 19] (by decide +kernel) (by decide +kernel)
set_option maxRecDepth 20000 in
theorem gX1_move_X1_drop : GoodIn wsX1_move (wsV RX1 27 RX1 yX1_drop wsX1_drop) := goodIn_app (goodIn_of _ (by decide +kernel)) ggX1_move_X1_drop
theorem dX1_move_0 : decode cX1_move 0 = .ok (.iload_n 1, 1) := by decide +kernel
theorem dX1_move_1 : decode cX1_move 1 = .ok (.iload_n 2, 1) := by decide +kernel
theorem dX1_move_2 : decode cX1_move 2 = .ok (.bipush 10, 2) := by decide +kernel
theorem dX1_move_4 : decode cX1_move 4 = .ok (.imul, 1) := by decide +kernel
theorem dX1_move_5 : decode cX1_move 5 = .ok (.iadd, 1) := by decide +kernel
theorem dX1_move_6 : decode cX1_move 6 = .ok (.istore_n 3, 1) := by decide +kernel
theorem dX1_move_7 : decode cX1_move 7 = .ok (.aload_n 0, 1) := by decide +kernel
theorem dX1_move_8 : decode cX1_move 8 = .ok (.iload_n 1, 1) := by decide +kernel
theorem dX1_move_9 : decode cX1_move 9 = .ok (.invokevirtual 31, 3) := by decide +kernel
theorem dX1_move_12 : decode cX1_move 12 = .ok (.ifCond .eq 14, 3) := by decide +kernel
theorem dX1_move_15 : decode cX1_move 15 = .ok (.iload_n 3, 1) := by decide +kernel
theorem dX1_move_16 : decode cX1_move 16 = .ok (.ifCond .lt 10, 3) := by decide +kernel
theorem dX1_move_19 : decode cX1_move 19 = .ok (.iload_n 3, 1) := by decide +kernel
theorem dX1_move_20 : decode cX1_move 20 = .ok (.sipush 410, 3) := by decide +kernel
theorem dX1_move_23 : decode cX1_move 23 = .ok (.if_icmp .lt 4, 3) := by decide +kernel
theorem dX1_move_26 : decode cX1_move 26 = .ok (.return_, 1) := by decide +kernel
theorem dX1_move_27 : decode cX1_move 27 = .ok (.aload_n 0, 1) := by decide +kernel
theorem dX1_move_28 : decode cX1_move 28 = .ok (.getfield 9, 3) := by decide +kernel
theorem dX1_move_31 : decode cX1_move 31 = .ok (.iload_n 1, 1) := by decide +kernel
theorem dX1_move_32 : decode cX1_move 32 = .ok (.iaload, 1) := by decide +kernel
theorem dX1_move_33 : decode cX1_move 33 = .ok (.iconst (-1), 1) := by decide +kernel
theorem dX1_move_34 : decode cX1_move 34 = .ok (.if_icmp .ne 7, 3) := by decide +kernel
theorem dX1_move_37 : decode cX1_move 37 = .ok (.iconst (-1), 1) := by decide +kernel
theorem dX1_move_38 : decode cX1_move 38 = .ok (.goto 11, 3) := by decide +kernel
theorem dX1_move_41 : decode cX1_move 41 = .ok (.aload_n 0, 1) := by decide +kernel
theorem dX1_move_42 : decode cX1_move 42 = .ok (.getfield 9, 3) := by decide +kernel
theorem dX1_move_45 : decode cX1_move 45 = .ok (.iload_n 1, 1) := by decide +kernel
theorem dX1_move_46 : decode cX1_move 46 = .ok (.iaload, 1) := by decide +kernel
theorem dX1_move_47 : decode cX1_move 47 = .ok (.iload_n 2, 1) := by decide +kernel
theorem dX1_move_48 : decode cX1_move 48 = .ok (.iadd, 1) := by decide +kernel
theorem dX1_move_49 : decode cX1_move 49 = .ok (.istore 4, 2) := by decide +kernel
theorem dX1_move_51 : decode cX1_move 51 = .ok (.aload_n 0, 1) := by decide +kernel
theorem dX1_move_52 : decode cX1_move 52 = .ok (.iload_n 3, 1) := by decide +kernel
theorem dX1_move_53 : decode cX1_move 53 = .ok (.iload 4, 2) := by decide +kernel
theorem dX1_move_55 : decode cX1_move 55 = .ok (.aload_n 0, 1) := by decide +kernel
theorem dX1_move_56 : decode cX1_move 56 = .ok (.getfield 15, 3) := by decide +kernel
theorem dX1_move_59 : decode cX1_move 59 = .ok (.iload_n 1, 1) := by decide +kernel
theorem dX1_move_60 : decode cX1_move 60 = .ok (.iaload, 1) := by decide +kernel
theorem dX1_move_61 : decode cX1_move 61 = .ok (.iload_n 2, 1) := by decide +kernel
theorem dX1_move_62 : decode cX1_move 62 = .ok (.iadd, 1) := by decide +kernel
theorem dX1_move_63 : decode cX1_move 63 = .ok (.aload_n 0, 1) := by decide +kernel
theorem dX1_move_64 : decode cX1_move 64 = .ok (.getfield 18, 3) := by decide +kernel
theorem dX1_move_67 : decode cX1_move 67 = .ok (.iload_n 1, 1) := by decide +kernel
theorem dX1_move_68 : decode cX1_move 68 = .ok (.iaload, 1) := by decide +kernel
theorem dX1_move_69 : decode cX1_move 69 = .ok (.invokevirtual 43, 3) := by decide +kernel
theorem dX1_move_72 : decode cX1_move 72 = .ok (.aload_n 0, 1) := by decide +kernel
theorem dX1_move_73 : decode cX1_move 73 = .ok (.iload_n 1, 1) := by decide +kernel
theorem dX1_move_74 : decode cX1_move 74 = .ok (.invokevirtual 27, 3) := by decide +kernel
theorem dX1_move_77 : decode cX1_move 77 = .ok (.return_, 1) := by decide +kernel
set_option maxRecDepth 20000 in
theorem ggX1_drop_X1_put : GoodIn wsX1_drop wsX1_put := goodIn_r _ [5, 6, 7, 8, 9, 10, 11] (by decide +kernel) (by decide +kernel)
set_option maxRecDepth 20000 in
theorem gX1_drop_X1_put : GoodIn wsX1_drop (wsV RX1 43 RX1 yX1_put wsX1_put) := goodIn_app (goodIn_of _ (by decide +kernel)) ggX1_drop_X1_put
theorem dX1_drop_0 : decode cX1_drop 0 = .ok (.aload_n 0, 1) := by decide +kernel
theorem dX1_drop_1 : decode cX1_drop 1 = .ok (.iload_n 1, 1) := by decide +kernel
theorem dX1_drop_2 : decode cX1_drop 2 = .ok (.bipush (-3), 2) := by decide +kernel
theorem dX1_drop_4 : decode cX1_drop 4 = .ok (.iconst (-1), 1) := by decide +kernel
theorem dX1_drop_5 : decode cX1_drop 5 = .ok (.iconst 0, 1) := by decide +kernel
theorem dX1_drop_6 : decode cX1_drop 6 = .ok (.invokevirtual 43, 3) := by decide +kernel
theorem dX1_drop_9 : decode cX1_drop 9 = .ok (.return_, 1) := by decide +kernel
set_option maxRecDepth 20000 in
theorem ggX2_init_J7_fill_53178 : GoodIn wsX2_init wsJ7_fill_53178 := goodIn_r _ [19] (by decide +kernel) (by decide +kernel)
set_option maxRecDepth 20000 in
theorem gX2_init_J7_fill_53178 : GoodIn wsX2_init (va_wsS RX2 44 yJ7_fill_53178 wsJ7_fill_53178) := goodIn_app (goodIn_of _ (by decide +kernel)) ggX2_init_J7_fill_53178
theorem dX2_init_0 : decode cX2_init 0 = .ok (.aload_n 0, 1) := by decide +kernel
theorem dX2_init_1 : decode cX2_init 1 = .ok (.invokespecial 3, 3) := by decide +kernel
theorem dX2_init_4 : decode cX2_init 4 = .ok (.aload_n 0, 1) := by decide +kernel
theorem dX2_init_5 : decode cX2_init 5 = .ok (.bipush 101, 2) := by decide +kernel
theorem dX2_init_7 : decode cX2_init 7 = .ok (.newarray .int, 2) := by decide +kernel
theorem dX2_init_9 : decode cX2_init 9 = .ok (.putfield 9, 3) := by decide +kernel
theorem dX2_init_12 : decode cX2_init 12 = .ok (.aload_n 0, 1) := by decide +kernel
theorem dX2_init_13 : decode cX2_init 13 = .ok (.bipush 101, 2) := by decide +kernel
theorem dX2_init_15 : decode cX2_init 15 = .ok (.newarray .int, 2) := by decide +kernel
theorem dX2_init_17 : decode cX2_init 17 = .ok (.putfield 15, 3) := by decide +kernel
theorem dX2_init_20 : decode cX2_init 20 = .ok (.aload_n 0, 1) := by decide +kernel
theorem dX2_init_21 : decode cX2_init 21 = .ok (.bipush 101, 2) := by decide +kernel
theorem dX2_init_23 : decode cX2_init 23 = .ok (.newarray .int, 2) := by decide +kernel
theorem dX2_init_25 : decode cX2_init 25 = .ok (.putfield 18, 3) := by decide +kernel
theorem dX2_init_28 : decode cX2_init 28 = .ok (.aload_n 0, 1) := by decide +kernel
theorem dX2_init_29 : decode cX2_init 29 = .ok (.bipush 101, 2) := by decide +kernel
theorem dX2_init_31 : decode cX2_init 31 = .ok (.newarray .boolean, 2) := by decide +kernel
theorem dX2_init_33 : decode cX2_init 33 = .ok (.putfield 21, 3) := by decide +kernel
theorem dX2_init_36 : decode cX2_init 36 = .ok (.aload_n 0, 1) := by decide +kernel
theorem dX2_init_37 : decode cX2_init 37 = .ok (.bipush 101, 2) := by decide +kernel
theorem dX2_init_39 : decode cX2_init 39 = .ok (.newarray .int, 2) := by decide +kernel
theorem dX2_init_41 : decode cX2_init 41 = .ok (.putfield 25, 3) := by decide +kernel
theorem dX2_init_44 : decode cX2_init 44 = .ok (.aload_n 0, 1) := by decide +kernel
theorem dX2_init_45 : decode cX2_init 45 = .ok (.bipush 101, 2) := by decide +kernel
theorem dX2_init_47 : decode cX2_init 47 = .ok (.newarray .int, 2) := by decide +kernel
theorem dX2_init_49 : decode cX2_init 49 = .ok (.putfield 28, 3) := by decide +kernel
theorem dX2_init_52 : decode cX2_init 52 = .ok (.aload_n 0, 1) := by decide +kernel
theorem dX2_init_53 : decode cX2_init 53 = .ok (.bipush 101, 2) := by decide +kernel
theorem dX2_init_55 : decode cX2_init 55 = .ok (.newarray .int, 2) := by decide +kernel
theorem dX2_init_57 : decode cX2_init 57 = .ok (.putfield 31, 3) := by decide +kernel
theorem dX2_init_60 : decode cX2_init 60 = .ok (.aload_n 0, 1) := by decide +kernel
theorem dX2_init_61 : decode cX2_init 61 = .ok (.sipush 410, 3) := by decide +kernel
theorem dX2_init_64 : decode cX2_init 64 = .ok (.newarray .int, 2) := by decide +kernel
theorem dX2_init_66 : decode cX2_init 66 = .ok (.putfield 34, 3) := by decide +kernel
theorem dX2_init_69 : decode cX2_init 69 = .ok (.aload_n 0, 1) := by decide +kernel
theorem dX2_init_70 : decode cX2_init 70 = .ok (.bipush 41, 2) := by decide +kernel
theorem dX2_init_72 : decode cX2_init 72 = .ok (.newarray .int, 2) := by decide +kernel
theorem dX2_init_74 : decode cX2_init 74 = .ok (.putfield 37, 3) := by decide +kernel
theorem dX2_init_77 : decode cX2_init 77 = .ok (.aload_n 0, 1) := by decide +kernel
theorem dX2_init_78 : decode cX2_init 78 = .ok (.iconst 0, 1) := by decide +kernel
theorem dX2_init_79 : decode cX2_init 79 = .ok (.putfield 40, 3) := by decide +kernel
theorem dX2_init_82 : decode cX2_init 82 = .ok (.aload_n 0, 1) := by decide +kernel
theorem dX2_init_83 : decode cX2_init 83 = .ok (.getfield 34, 3) := by decide +kernel
theorem dX2_init_86 : decode cX2_init 86 = .ok (.iconst (-1), 1) := by decide +kernel
theorem dX2_init_87 : decode cX2_init 87 = .ok (.invokestatic 44, 3) := by decide +kernel
theorem dX2_init_90 : decode cX2_init 90 = .ok (.return_, 1) := by decide +kernel
theorem dX2_isFull_0 : decode cX2_isFull 0 = .ok (.aload_n 0, 1) := by decide +kernel
theorem dX2_isFull_1 : decode cX2_isFull 1 = .ok (.getfield 40, 3) := by decide +kernel
theorem dX2_isFull_4 : decode cX2_isFull 4 = .ok (.bipush 101, 2) := by decide +kernel
theorem dX2_isFull_6 : decode cX2_isFull 6 = .ok (.if_icmp .lt 7, 3) := by decide +kernel
theorem dX2_isFull_9 : decode cX2_isFull 9 = .ok (.iconst 1, 1) := by decide +kernel
theorem dX2_isFull_10 : decode cX2_isFull 10 = .ok (.goto 4, 3) := by decide +kernel
theorem dX2_isFull_13 : decode cX2_isFull 13 = .ok (.iconst 0, 1) := by decide +kernel
theorem dX2_isFull_14 : decode cX2_isFull 14 = .ok (.ireturn, 1) := by decide +kernel
theorem dX2_hasOneOf_0 : decode cX2_hasOneOf 0 = .ok (.aload_n 0, 1) := by decide +kernel
theorem dX2_hasOneOf_1 : decode cX2_hasOneOf 1 = .ok (.getfield 37, 3) := by decide +kernel
theorem dX2_hasOneOf_4 : decode cX2_hasOneOf 4 = .ok (.iload_n 2, 1) := by decide +kernel
theorem dX2_hasOneOf_5 : decode cX2_hasOneOf 5 = .ok (.iaload, 1) := by decide +kernel
theorem dX2_hasOneOf_6 : decode cX2_hasOneOf 6 = .ok (.iload_n 1, 1) := by decide +kernel
theorem dX2_hasOneOf_7 : decode cX2_hasOneOf 7 = .ok (.iand, 1) := by decide +kernel
theorem dX2_hasOneOf_8 : decode cX2_hasOneOf 8 = .ok (.ifCond .eq 7, 3) := by decide +kernel
theorem dX2_hasOneOf_11 : decode cX2_hasOneOf 11 = .ok (.iconst 1, 1) := by decide +kernel
theorem dX2_hasOneOf_12 : decode cX2_hasOneOf 12 = .ok (.goto 4, 3) := by decide +kernel
theorem dX2_hasOneOf_15 : decode cX2_hasOneOf 15 = .ok (.iconst 0, 1) := by decide +kernel
theorem dX2_hasOneOf_16 : decode cX2_hasOneOf 16 = .ok (.ireturn, 1) := by decide +kernel
set_option maxRecDepth 20000 in
theorem ggX2_begin_X5_bit : GoodIn wsX2_begin wsX5_bit := goodIn_r _ [13] (by decide +kernel) (by decide +kernel)
set_option maxRecDepth 20000 in
theorem gX2_begin_X5_bit_n50 : GoodIn wsX2_begin (wsX5_bit) := ggX2_begin_X5_bit
set_option maxRecDepth 20000 in
theorem ggX2_begin_X5_cell : GoodIn wsX2_begin wsX5_cell := goodIn_r _ [15] (by decide +kernel) (by decide +kernel)
set_option maxRecDepth 20000 in
theorem gX2_begin_X5_cell_n54 : GoodIn wsX2_begin (wsX5_cell) := ggX2_begin_X5_cell
theorem dX2_begin_0 : decode cX2_begin 0 = .ok (.aload_n 0, 1) := by decide +kernel
theorem dX2_begin_1 : decode cX2_begin 1 = .ok (.getfield 40, 3) := by decide +kernel
theorem dX2_begin_4 : decode cX2_begin 4 = .ok (.istore_n 3, 1) := by decide +kernel
theorem dX2_begin_5 : decode cX2_begin 5 = .ok (.aload_n 0, 1) := by decide +kernel
theorem dX2_begin_6 : decode cX2_begin 6 = .ok (.getfield 9, 3) := by decide +kernel
theorem dX2_begin_9 : decode cX2_begin 9 = .ok (.iload_n 3, 1) := by decide +kernel
theorem dX2_begin_10 : decode cX2_begin 10 = .ok (.iload_n 1, 1) := by decide +kernel
theorem dX2_begin_11 : decode cX2_begin 11 = .ok (.iastore, 1) := by decide +kernel
theorem dX2_begin_12 : decode cX2_begin 12 = .ok (.aload_n 0, 1) := by decide +kernel
theorem dX2_begin_13 : decode cX2_begin 13 = .ok (.getfield 15, 3) := by decide +kernel
theorem dX2_begin_16 : decode cX2_begin 16 = .ok (.iload_n 3, 1) := by decide +kernel
theorem dX2_begin_17 : decode cX2_begin 17 = .ok (.iload_n 2, 1) := by decide +kernel
theorem dX2_begin_18 : decode cX2_begin 18 = .ok (.iastore, 1) := by decide +kernel
theorem dX2_begin_19 : decode cX2_begin 19 = .ok (.aload_n 0, 1) := by decide +kernel
theorem dX2_begin_20 : decode cX2_begin 20 = .ok (.getfield 18, 3) := by decide +kernel
theorem dX2_begin_23 : decode cX2_begin 23 = .ok (.iload_n 3, 1) := by decide +kernel
theorem dX2_begin_24 : decode cX2_begin 24 = .ok (.iconst (-1), 1) := by decide +kernel
theorem dX2_begin_25 : decode cX2_begin 25 = .ok (.iastore, 1) := by decide +kernel
theorem dX2_begin_26 : decode cX2_begin 26 = .ok (.aload_n 0, 1) := by decide +kernel
theorem dX2_begin_27 : decode cX2_begin 27 = .ok (.getfield 21, 3) := by decide +kernel
theorem dX2_begin_30 : decode cX2_begin 30 = .ok (.iload_n 3, 1) := by decide +kernel
theorem dX2_begin_31 : decode cX2_begin 31 = .ok (.iconst 0, 1) := by decide +kernel
theorem dX2_begin_32 : decode cX2_begin 32 = .ok (.bastore, 1) := by decide +kernel
theorem dX2_begin_33 : decode cX2_begin 33 = .ok (.aload_n 0, 1) := by decide +kernel
theorem dX2_begin_34 : decode cX2_begin 34 = .ok (.getfield 25, 3) := by decide +kernel
theorem dX2_begin_37 : decode cX2_begin 37 = .ok (.iload_n 3, 1) := by decide +kernel
theorem dX2_begin_38 : decode cX2_begin 38 = .ok (.iload_n 2, 1) := by decide +kernel
theorem dX2_begin_39 : decode cX2_begin 39 = .ok (.iastore, 1) := by decide +kernel
theorem dX2_begin_40 : decode cX2_begin 40 = .ok (.aload_n 0, 1) := by decide +kernel
theorem dX2_begin_41 : decode cX2_begin 41 = .ok (.getfield 28, 3) := by decide +kernel
theorem dX2_begin_44 : decode cX2_begin 44 = .ok (.iload_n 3, 1) := by decide +kernel
theorem dX2_begin_45 : decode cX2_begin 45 = .ok (.iload_n 1, 1) := by decide +kernel
theorem dX2_begin_46 : decode cX2_begin 46 = .ok (.invokestatic 50, 3) := by decide +kernel
theorem dX2_begin_49 : decode cX2_begin 49 = .ok (.iastore, 1) := by decide +kernel
theorem dX2_begin_50 : decode cX2_begin 50 = .ok (.aload_n 0, 1) := by decide +kernel
theorem dX2_begin_51 : decode cX2_begin 51 = .ok (.getfield 31, 3) := by decide +kernel
theorem dX2_begin_54 : decode cX2_begin 54 = .ok (.iload_n 3, 1) := by decide +kernel
theorem dX2_begin_55 : decode cX2_begin 55 = .ok (.iload_n 3, 1) := by decide +kernel
theorem dX2_begin_56 : decode cX2_begin 56 = .ok (.iastore, 1) := by decide +kernel
theorem dX2_begin_57 : decode cX2_begin 57 = .ok (.aload_n 0, 1) := by decide +kernel
theorem dX2_begin_58 : decode cX2_begin 58 = .ok (.getfield 34, 3) := by decide +kernel
theorem dX2_begin_61 : decode cX2_begin 61 = .ok (.iload_n 1, 1) := by decide +kernel
theorem dX2_begin_62 : decode cX2_begin 62 = .ok (.iload_n 2, 1) := by decide +kernel
theorem dX2_begin_63 : decode cX2_begin 63 = .ok (.invokestatic 54, 3) := by decide +kernel
theorem dX2_begin_66 : decode cX2_begin 66 = .ok (.iload_n 3, 1) := by decide +kernel
theorem dX2_begin_67 : decode cX2_begin 67 = .ok (.iastore, 1) := by decide +kernel
theorem dX2_begin_68 : decode cX2_begin 68 = .ok (.aload_n 0, 1) := by decide +kernel
theorem dX2_begin_69 : decode cX2_begin 69 = .ok (.getfield 37, 3) := by decide +kernel
theorem dX2_begin_72 : decode cX2_begin 72 = .ok (.iload_n 2, 1) := by decide +kernel
theorem dX2_begin_73 : decode cX2_begin 73 = .ok (.dup2, 1) := by decide +kernel
theorem dX2_begin_74 : decode cX2_begin 74 = .ok (.iaload, 1) := by decide +kernel
theorem dX2_begin_75 : decode cX2_begin 75 = .ok (.iload_n 1, 1) := by decide +kernel
theorem dX2_begin_76 : decode cX2_begin 76 = .ok (.invokestatic 50, 3) := by decide +kernel
theorem dX2_begin_79 : decode cX2_begin 79 = .ok (.ior, 1) := by decide +kernel
theorem dX2_begin_80 : decode cX2_begin 80 = .ok (.iastore, 1) := by decide +kernel
theorem dX2_begin_81 : decode cX2_begin 81 = .ok (.aload_n 0, 1) := by decide +kernel
theorem dX2_begin_82 : decode cX2_begin 82 = .ok (.dup, 1) := by decide +kernel
theorem dX2_begin_83 : decode cX2_begin 83 = .ok (.getfield 40, 3) := by decide +kernel
theorem dX2_begin_86 : decode cX2_begin 86 = .ok (.iconst 1, 1) := by decide +kernel
theorem dX2_begin_87 : decode cX2_begin 87 = .ok (.iadd, 1) := by decide +kernel
theorem dX2_begin_88 : decode cX2_begin 88 = .ok (.putfield 40, 3) := by decide +kernel
theorem dX2_begin_91 : decode cX2_begin 91 = .ok (.iload_n 3, 1) := by decide +kernel
theorem dX2_begin_92 : decode cX2_begin 92 = .ok (.ireturn, 1) := by decide +kernel
set_option maxRecDepth 20000 in
theorem ggX2_end_X5_cell : GoodIn wsX2_end wsX5_cell := goodIn_r _ [11] (by decide +kernel) (by decide +kernel)
set_option maxRecDepth 20000 in
theorem gX2_end_X5_cell_n54 : GoodIn wsX2_end (wsX5_cell) := ggX2_end_X5_cell
set_option maxRecDepth 20000 in
theorem ggX2_end_X5_bit : GoodIn wsX2_end wsX5_bit := goodIn_r _ [13] (by decide +kernel) (by decide +kernel)
set_option maxRecDepth 20000 in
theorem gX2_end_X5_bit_n50 : GoodIn wsX2_end (wsX5_bit) := ggX2_end_X5_bit
set_option maxRecDepth 20000 in
theorem ggX2_end_X2_countLook : GoodIn wsX2_end wsX2_countLook := goodIn_r _ [18, 1, 6, 19, 20, 21, 22, 34, 35, 36, 37, 38, 39, 40, 41, 42, 43] (by decide +kernel) (by decide +kernel)
set_option maxRecDepth 20000 in
theorem gX2_end_X2_countLook : GoodIn wsX2_end (wsV RX2 58 RX2 yX2_countLook wsX2_countLook) := goodIn_app (goodIn_of _ (by decide +kernel)) ggX2_end_X2_countLook
set_option maxRecDepth 20000 in
theorem ggX2_end_X2_countNames : GoodIn wsX2_end wsX2_countNames := goodIn_r _ [26, 1, 2, 7, 34, 35, 36, 37, 38, 39, 40, 41, 42, 43] (by decide +kernel) (by decide +kernel)
set_option maxRecDepth 20000 in
theorem gX2_end_X2_countNames : GoodIn wsX2_end (wsV RX2 62 RX2 yX2_countNames wsX2_countNames) := goodIn_app (goodIn_of _ (by decide +kernel)) ggX2_end_X2_countNames
set_option maxRecDepth 20000 in
theorem ggX2_end_X2_countAsked : GoodIn wsX2_end wsX2_countAsked := goodIn_r _ [30, 1, 8, 31, 32, 21, 33, 34, 35, 36, 37, 38, 39, 40, 41, 42, 43] (by decide +kernel) (by decide +kernel)
set_option maxRecDepth 20000 in
theorem gX2_end_X2_countAsked : GoodIn wsX2_end (wsV RX2 66 RX2 yX2_countAsked wsX2_countAsked) := goodIn_app (goodIn_of _ (by decide +kernel)) ggX2_end_X2_countAsked
theorem dX2_end_0 : decode cX2_end 0 = .ok (.aload_n 0, 1) := by decide +kernel
theorem dX2_end_1 : decode cX2_end 1 = .ok (.getfield 40, 3) := by decide +kernel
theorem dX2_end_4 : decode cX2_end 4 = .ok (.ifCond .ne 4, 3) := by decide +kernel
theorem dX2_end_7 : decode cX2_end 7 = .ok (.return_, 1) := by decide +kernel
theorem dX2_end_8 : decode cX2_end 8 = .ok (.aload_n 0, 1) := by decide +kernel
theorem dX2_end_9 : decode cX2_end 9 = .ok (.dup, 1) := by decide +kernel
theorem dX2_end_10 : decode cX2_end 10 = .ok (.getfield 40, 3) := by decide +kernel
theorem dX2_end_13 : decode cX2_end 13 = .ok (.iconst 1, 1) := by decide +kernel
theorem dX2_end_14 : decode cX2_end 14 = .ok (.isub, 1) := by decide +kernel
theorem dX2_end_15 : decode cX2_end 15 = .ok (.putfield 40, 3) := by decide +kernel
theorem dX2_end_18 : decode cX2_end 18 = .ok (.aload_n 0, 1) := by decide +kernel
theorem dX2_end_19 : decode cX2_end 19 = .ok (.getfield 40, 3) := by decide +kernel
theorem dX2_end_22 : decode cX2_end 22 = .ok (.istore_n 1, 1) := by decide +kernel
theorem dX2_end_23 : decode cX2_end 23 = .ok (.aload_n 0, 1) := by decide +kernel
theorem dX2_end_24 : decode cX2_end 24 = .ok (.getfield 15, 3) := by decide +kernel
theorem dX2_end_27 : decode cX2_end 27 = .ok (.iload_n 1, 1) := by decide +kernel
theorem dX2_end_28 : decode cX2_end 28 = .ok (.iaload, 1) := by decide +kernel
theorem dX2_end_29 : decode cX2_end 29 = .ok (.istore_n 2, 1) := by decide +kernel
theorem dX2_end_30 : decode cX2_end 30 = .ok (.aload_n 0, 1) := by decide +kernel
theorem dX2_end_31 : decode cX2_end 31 = .ok (.getfield 34, 3) := by decide +kernel
theorem dX2_end_34 : decode cX2_end 34 = .ok (.aload_n 0, 1) := by decide +kernel
theorem dX2_end_35 : decode cX2_end 35 = .ok (.getfield 9, 3) := by decide +kernel
theorem dX2_end_38 : decode cX2_end 38 = .ok (.iload_n 1, 1) := by decide +kernel
theorem dX2_end_39 : decode cX2_end 39 = .ok (.iaload, 1) := by decide +kernel
theorem dX2_end_40 : decode cX2_end 40 = .ok (.iload_n 2, 1) := by decide +kernel
theorem dX2_end_41 : decode cX2_end 41 = .ok (.invokestatic 54, 3) := by decide +kernel
theorem dX2_end_44 : decode cX2_end 44 = .ok (.iconst (-1), 1) := by decide +kernel
theorem dX2_end_45 : decode cX2_end 45 = .ok (.iastore, 1) := by decide +kernel
theorem dX2_end_46 : decode cX2_end 46 = .ok (.aload_n 0, 1) := by decide +kernel
theorem dX2_end_47 : decode cX2_end 47 = .ok (.getfield 37, 3) := by decide +kernel
theorem dX2_end_50 : decode cX2_end 50 = .ok (.iload_n 2, 1) := by decide +kernel
theorem dX2_end_51 : decode cX2_end 51 = .ok (.dup2, 1) := by decide +kernel
theorem dX2_end_52 : decode cX2_end 52 = .ok (.iaload, 1) := by decide +kernel
theorem dX2_end_53 : decode cX2_end 53 = .ok (.aload_n 0, 1) := by decide +kernel
theorem dX2_end_54 : decode cX2_end 54 = .ok (.getfield 9, 3) := by decide +kernel
theorem dX2_end_57 : decode cX2_end 57 = .ok (.iload_n 1, 1) := by decide +kernel
theorem dX2_end_58 : decode cX2_end 58 = .ok (.iaload, 1) := by decide +kernel
theorem dX2_end_59 : decode cX2_end 59 = .ok (.invokestatic 50, 3) := by decide +kernel
theorem dX2_end_62 : decode cX2_end 62 = .ok (.iconst (-1), 1) := by decide +kernel
theorem dX2_end_63 : decode cX2_end 63 = .ok (.ixor, 1) := by decide +kernel
theorem dX2_end_64 : decode cX2_end 64 = .ok (.iand, 1) := by decide +kernel
theorem dX2_end_65 : decode cX2_end 65 = .ok (.iastore, 1) := by decide +kernel
theorem dX2_end_66 : decode cX2_end 66 = .ok (.aload_n 0, 1) := by decide +kernel
theorem dX2_end_67 : decode cX2_end 67 = .ok (.aload_n 0, 1) := by decide +kernel
theorem dX2_end_68 : decode cX2_end 68 = .ok (.getfield 25, 3) := by decide +kernel
theorem dX2_end_71 : decode cX2_end 71 = .ok (.iload_n 1, 1) := by decide +kernel
theorem dX2_end_72 : decode cX2_end 72 = .ok (.iaload, 1) := by decide +kernel
theorem dX2_end_73 : decode cX2_end 73 = .ok (.invokevirtual 58, 3) := by decide +kernel
theorem dX2_end_76 : decode cX2_end 76 = .ok (.aload_n 0, 1) := by decide +kernel
theorem dX2_end_77 : decode cX2_end 77 = .ok (.aload_n 0, 1) := by decide +kernel
theorem dX2_end_78 : decode cX2_end 78 = .ok (.getfield 28, 3) := by decide +kernel
theorem dX2_end_81 : decode cX2_end 81 = .ok (.iload_n 1, 1) := by decide +kernel
theorem dX2_end_82 : decode cX2_end 82 = .ok (.iaload, 1) := by decide +kernel
theorem dX2_end_83 : decode cX2_end 83 = .ok (.iload_n 2, 1) := by decide +kernel
theorem dX2_end_84 : decode cX2_end 84 = .ok (.invokevirtual 62, 3) := by decide +kernel
theorem dX2_end_87 : decode cX2_end 87 = .ok (.aload_n 0, 1) := by decide +kernel
theorem dX2_end_88 : decode cX2_end 88 = .ok (.aload_n 0, 1) := by decide +kernel
theorem dX2_end_89 : decode cX2_end 89 = .ok (.getfield 31, 3) := by decide +kernel
theorem dX2_end_92 : decode cX2_end 92 = .ok (.iload_n 1, 1) := by decide +kernel
theorem dX2_end_93 : decode cX2_end 93 = .ok (.iaload, 1) := by decide +kernel
theorem dX2_end_94 : decode cX2_end 94 = .ok (.invokevirtual 66, 3) := by decide +kernel
theorem dX2_end_97 : decode cX2_end 97 = .ok (.return_, 1) := by decide +kernel
set_option maxRecDepth 20000 in
theorem ggX2_askSeed_X2_countAsked : GoodIn wsX2_askSeed wsX2_countAsked := goodIn_r _ [7, 8, 9, 10, 11, 12, 13, 14, 15, 16, 17, 18, 19, 20, 21, 22, 23] (by decide +kernel) (by decide +kernel)
set_option maxRecDepth 20000 in
theorem gX2_askSeed_X2_countAsked : GoodIn wsX2_askSeed (wsV RX2 66 RX2 yX2_countAsked wsX2_countAsked) := goodIn_app (goodIn_of _ (by decide +kernel)) ggX2_askSeed_X2_countAsked
theorem dX2_askSeed_0 : decode cX2_askSeed 0 = .ok (.aload_n 0, 1) := by decide +kernel
theorem dX2_askSeed_1 : decode cX2_askSeed 1 = .ok (.getfield 21, 3) := by decide +kernel
theorem dX2_askSeed_4 : decode cX2_askSeed 4 = .ok (.iload_n 1, 1) := by decide +kernel
theorem dX2_askSeed_5 : decode cX2_askSeed 5 = .ok (.iconst 1, 1) := by decide +kernel
theorem dX2_askSeed_6 : decode cX2_askSeed 6 = .ok (.bastore, 1) := by decide +kernel
theorem dX2_askSeed_7 : decode cX2_askSeed 7 = .ok (.aload_n 0, 1) := by decide +kernel
theorem dX2_askSeed_8 : decode cX2_askSeed 8 = .ok (.iload_n 1, 1) := by decide +kernel
theorem dX2_askSeed_9 : decode cX2_askSeed 9 = .ok (.invokevirtual 66, 3) := by decide +kernel
theorem dX2_askSeed_12 : decode cX2_askSeed 12 = .ok (.aload_n 0, 1) := by decide +kernel
theorem dX2_askSeed_13 : decode cX2_askSeed 13 = .ok (.getfield 18, 3) := by decide +kernel
theorem dX2_askSeed_16 : decode cX2_askSeed 16 = .ok (.iload_n 1, 1) := by decide +kernel
theorem dX2_askSeed_17 : decode cX2_askSeed 17 = .ok (.iaload, 1) := by decide +kernel
theorem dX2_askSeed_18 : decode cX2_askSeed 18 = .ok (.ireturn, 1) := by decide +kernel
theorem dX2_countLook_0 : decode cX2_countLook 0 = .ok (.aload_n 0, 1) := by decide +kernel
theorem dX2_countLook_1 : decode cX2_countLook 1 = .ok (.getfield 40, 3) := by decide +kernel
theorem dX2_countLook_4 : decode cX2_countLook 4 = .ok (.ifCond .le 29, 3) := by decide +kernel
theorem dX2_countLook_7 : decode cX2_countLook 7 = .ok (.aload_n 0, 1) := by decide +kernel
theorem dX2_countLook_8 : decode cX2_countLook 8 = .ok (.getfield 25, 3) := by decide +kernel
theorem dX2_countLook_11 : decode cX2_countLook 11 = .ok (.aload_n 0, 1) := by decide +kernel
theorem dX2_countLook_12 : decode cX2_countLook 12 = .ok (.getfield 40, 3) := by decide +kernel
theorem dX2_countLook_15 : decode cX2_countLook 15 = .ok (.iconst 1, 1) := by decide +kernel
theorem dX2_countLook_16 : decode cX2_countLook 16 = .ok (.isub, 1) := by decide +kernel
theorem dX2_countLook_17 : decode cX2_countLook 17 = .ok (.aload_n 0, 1) := by decide +kernel
theorem dX2_countLook_18 : decode cX2_countLook 18 = .ok (.getfield 25, 3) := by decide +kernel
theorem dX2_countLook_21 : decode cX2_countLook 21 = .ok (.aload_n 0, 1) := by decide +kernel
theorem dX2_countLook_22 : decode cX2_countLook 22 = .ok (.getfield 40, 3) := by decide +kernel
theorem dX2_countLook_25 : decode cX2_countLook 25 = .ok (.iconst 1, 1) := by decide +kernel
theorem dX2_countLook_26 : decode cX2_countLook 26 = .ok (.isub, 1) := by decide +kernel
theorem dX2_countLook_27 : decode cX2_countLook 27 = .ok (.iaload, 1) := by decide +kernel
theorem dX2_countLook_28 : decode cX2_countLook 28 = .ok (.iload_n 1, 1) := by decide +kernel
theorem dX2_countLook_29 : decode cX2_countLook 29 = .ok (.invokestatic 69, 3) := by decide +kernel
theorem dX2_countLook_32 : decode cX2_countLook 32 = .ok (.iastore, 1) := by decide +kernel
theorem dX2_countLook_33 : decode cX2_countLook 33 = .ok (.return_, 1) := by decide +kernel
theorem dX2_countNames_0 : decode cX2_countNames 0 = .ok (.aload_n 0, 1) := by decide +kernel
theorem dX2_countNames_1 : decode cX2_countNames 1 = .ok (.getfield 40, 3) := by decide +kernel
theorem dX2_countNames_4 : decode cX2_countNames 4 = .ok (.ifCond .le 33, 3) := by decide +kernel
theorem dX2_countNames_7 : decode cX2_countNames 7 = .ok (.aload_n 0, 1) := by decide +kernel
theorem dX2_countNames_8 : decode cX2_countNames 8 = .ok (.getfield 15, 3) := by decide +kernel
theorem dX2_countNames_11 : decode cX2_countNames 11 = .ok (.aload_n 0, 1) := by decide +kernel
theorem dX2_countNames_12 : decode cX2_countNames 12 = .ok (.getfield 40, 3) := by decide +kernel
theorem dX2_countNames_15 : decode cX2_countNames 15 = .ok (.iconst 1, 1) := by decide +kernel
theorem dX2_countNames_16 : decode cX2_countNames 16 = .ok (.isub, 1) := by decide +kernel
theorem dX2_countNames_17 : decode cX2_countNames 17 = .ok (.iaload, 1) := by decide +kernel
theorem dX2_countNames_18 : decode cX2_countNames 18 = .ok (.iload_n 2, 1) := by decide +kernel
theorem dX2_countNames_19 : decode cX2_countNames 19 = .ok (.if_icmp .ne 18, 3) := by decide +kernel
theorem dX2_countNames_22 : decode cX2_countNames 22 = .ok (.aload_n 0, 1) := by decide +kernel
theorem dX2_countNames_23 : decode cX2_countNames 23 = .ok (.getfield 28, 3) := by decide +kernel
theorem dX2_countNames_26 : decode cX2_countNames 26 = .ok (.aload_n 0, 1) := by decide +kernel
theorem dX2_countNames_27 : decode cX2_countNames 27 = .ok (.getfield 40, 3) := by decide +kernel
theorem dX2_countNames_30 : decode cX2_countNames 30 = .ok (.iconst 1, 1) := by decide +kernel
theorem dX2_countNames_31 : decode cX2_countNames 31 = .ok (.isub, 1) := by decide +kernel
theorem dX2_countNames_32 : decode cX2_countNames 32 = .ok (.dup2, 1) := by decide +kernel
theorem dX2_countNames_33 : decode cX2_countNames 33 = .ok (.iaload, 1) := by decide +kernel
theorem dX2_countNames_34 : decode cX2_countNames 34 = .ok (.iload_n 1, 1) := by decide +kernel
theorem dX2_countNames_35 : decode cX2_countNames 35 = .ok (.ior, 1) := by decide +kernel
theorem dX2_countNames_36 : decode cX2_countNames 36 = .ok (.iastore, 1) := by decide +kernel
theorem dX2_countNames_37 : decode cX2_countNames 37 = .ok (.return_, 1) := by decide +kernel
theorem dX2_askedEarlierOne_0 : decode cX2_askedEarlierOne 0 = .ok (.aload_n 0, 1) := by decide +kernel
theorem dX2_askedEarlierOne_1 : decode cX2_askedEarlierOne 1 = .ok (.getfield 31, 3) := by decide +kernel
theorem dX2_askedEarlierOne_4 : decode cX2_askedEarlierOne 4 = .ok (.iload_n 1, 1) := by decide +kernel
theorem dX2_askedEarlierOne_5 : decode cX2_askedEarlierOne 5 = .ok (.iaload, 1) := by decide +kernel
theorem dX2_askedEarlierOne_6 : decode cX2_askedEarlierOne 6 = .ok (.iload_n 1, 1) := by decide +kernel
theorem dX2_askedEarlierOne_7 : decode cX2_askedEarlierOne 7 = .ok (.if_icmp .ge 7, 3) := by decide +kernel
theorem dX2_askedEarlierOne_10 : decode cX2_askedEarlierOne 10 = .ok (.iconst 1, 1) := by decide +kernel
theorem dX2_askedEarlierOne_11 : decode cX2_askedEarlierOne 11 = .ok (.goto 4, 3) := by decide +kernel
theorem dX2_askedEarlierOne_14 : decode cX2_askedEarlierOne 14 = .ok (.iconst 0, 1) := by decide +kernel
theorem dX2_askedEarlierOne_15 : decode cX2_askedEarlierOne 15 = .ok (.ireturn, 1) := by decide +kernel
theorem dX2_countAsked_0 : decode cX2_countAsked 0 = .ok (.aload_n 0, 1) := by decide +kernel
theorem dX2_countAsked_1 : decode cX2_countAsked 1 = .ok (.getfield 40, 3) := by decide +kernel
theorem dX2_countAsked_4 : decode cX2_countAsked 4 = .ok (.ifCond .le 29, 3) := by decide +kernel
theorem dX2_countAsked_7 : decode cX2_countAsked 7 = .ok (.aload_n 0, 1) := by decide +kernel
theorem dX2_countAsked_8 : decode cX2_countAsked 8 = .ok (.getfield 31, 3) := by decide +kernel
theorem dX2_countAsked_11 : decode cX2_countAsked 11 = .ok (.aload_n 0, 1) := by decide +kernel
theorem dX2_countAsked_12 : decode cX2_countAsked 12 = .ok (.getfield 40, 3) := by decide +kernel
theorem dX2_countAsked_15 : decode cX2_countAsked 15 = .ok (.iconst 1, 1) := by decide +kernel
theorem dX2_countAsked_16 : decode cX2_countAsked 16 = .ok (.isub, 1) := by decide +kernel
theorem dX2_countAsked_17 : decode cX2_countAsked 17 = .ok (.aload_n 0, 1) := by decide +kernel
theorem dX2_countAsked_18 : decode cX2_countAsked 18 = .ok (.getfield 31, 3) := by decide +kernel
theorem dX2_countAsked_21 : decode cX2_countAsked 21 = .ok (.aload_n 0, 1) := by decide +kernel
theorem dX2_countAsked_22 : decode cX2_countAsked 22 = .ok (.getfield 40, 3) := by decide +kernel
theorem dX2_countAsked_25 : decode cX2_countAsked 25 = .ok (.iconst 1, 1) := by decide +kernel
theorem dX2_countAsked_26 : decode cX2_countAsked 26 = .ok (.isub, 1) := by decide +kernel
theorem dX2_countAsked_27 : decode cX2_countAsked 27 = .ok (.iaload, 1) := by decide +kernel
theorem dX2_countAsked_28 : decode cX2_countAsked 28 = .ok (.iload_n 1, 1) := by decide +kernel
theorem dX2_countAsked_29 : decode cX2_countAsked 29 = .ok (.invokestatic 74, 3) := by decide +kernel
theorem dX2_countAsked_32 : decode cX2_countAsked 32 = .ok (.iastore, 1) := by decide +kernel
theorem dX2_countAsked_33 : decode cX2_countAsked 33 = .ok (.return_, 1) := by decide +kernel
set_option maxRecDepth 20000 in
theorem ggX3_init_X2_init : GoodIn wsX3_init wsX2_init := goodIn_r _ [18, 19, 2, 3, 20, 21, 22, 23, 24, 25, 26, 27, 28, 29, 30, 31, 32, 33, 34, 35, 36, 37, 38, 39, 40, 41, 42, 43, 44, 45] (by decide +kernel) (by decide +kernel)
set_option maxRecDepth 20000 in
theorem gX3_init_X2_init : GoodIn wsX3_init (wsX2_init) := ggX3_init_X2_init
theorem dX3_init_0 : decode cX3_init 0 = .ok (.aload_n 0, 1) := by decide +kernel
theorem dX3_init_1 : decode cX3_init 1 = .ok (.invokespecial 3, 3) := by decide +kernel
theorem dX3_init_4 : decode cX3_init 4 = .ok (.aload_n 0, 1) := by decide +kernel
theorem dX3_init_5 : decode cX3_init 5 = .ok (.new 9, 3) := by decide +kernel
theorem dX3_init_8 : decode cX3_init 8 = .ok (.dup, 1) := by decide +kernel
theorem dX3_init_9 : decode cX3_init 9 = .ok (.invokespecial 11, 3) := by decide +kernel
theorem dX3_init_12 : decode cX3_init 12 = .ok (.putfield 12, 3) := by decide +kernel
theorem dX3_init_15 : decode cX3_init 15 = .ok (.aload_n 0, 1) := by decide +kernel
theorem dX3_init_16 : decode cX3_init 16 = .ok (.iconst 0, 1) := by decide +kernel
theorem dX3_init_17 : decode cX3_init 17 = .ok (.putfield 18, 3) := by decide +kernel
theorem dX3_init_20 : decode cX3_init 20 = .ok (.aload_n 0, 1) := by decide +kernel
theorem dX3_init_21 : decode cX3_init 21 = .ok (.iconst 0, 1) := by decide +kernel
theorem dX3_init_22 : decode cX3_init 22 = .ok (.putfield 22, 3) := by decide +kernel
theorem dX3_init_25 : decode cX3_init 25 = .ok (.aload_n 0, 1) := by decide +kernel
theorem dX3_init_26 : decode cX3_init 26 = .ok (.iconst 0, 1) := by decide +kernel
theorem dX3_init_27 : decode cX3_init 27 = .ok (.putfield 25, 3) := by decide +kernel
theorem dX3_init_30 : decode cX3_init 30 = .ok (.aload_n 0, 1) := by decide +kernel
theorem dX3_init_31 : decode cX3_init 31 = .ok (.iconst (-1), 1) := by decide +kernel
theorem dX3_init_32 : decode cX3_init 32 = .ok (.putfield 28, 3) := by decide +kernel
theorem dX3_init_35 : decode cX3_init 35 = .ok (.aload_n 0, 1) := by decide +kernel
theorem dX3_init_36 : decode cX3_init 36 = .ok (.iconst 0, 1) := by decide +kernel
theorem dX3_init_37 : decode cX3_init 37 = .ok (.putfield 31, 3) := by decide +kernel
theorem dX3_init_40 : decode cX3_init 40 = .ok (.aload_n 0, 1) := by decide +kernel
theorem dX3_init_41 : decode cX3_init 41 = .ok (.aload_n 1, 1) := by decide +kernel
theorem dX3_init_42 : decode cX3_init 42 = .ok (.putfield 35, 3) := by decide +kernel
theorem dX3_init_45 : decode cX3_init 45 = .ok (.aload_n 0, 1) := by decide +kernel
theorem dX3_init_46 : decode cX3_init 46 = .ok (.aload_n 2, 1) := by decide +kernel
theorem dX3_init_47 : decode cX3_init 47 = .ok (.putfield 39, 3) := by decide +kernel
theorem dX3_init_50 : decode cX3_init 50 = .ok (.aload_n 0, 1) := by decide +kernel
theorem dX3_init_51 : decode cX3_init 51 = .ok (.aload_n 3, 1) := by decide +kernel
theorem dX3_init_52 : decode cX3_init 52 = .ok (.putfield 43, 3) := by decide +kernel
theorem dX3_init_55 : decode cX3_init 55 = .ok (.return_, 1) := by decide +kernel
set_option maxRecDepth 20000 in
theorem ggX3_run_X3_lookForRule : GoodIn wsX3_run wsX3_lookForRule := goodIn_r _ [10, 11, 12, 3, 13, 14, 15, 16, 9, 17, 5, 2, 18, 19, 20, 21, 22, 23, 24, 25, 26, 27, 28, 29, 30, 31, 32, 33, 34, 35, 36, 37, 38, 39, 40, 41, 42, 43, 44, 45, 46, 47, 48, 49, 50, 51, 52, 53, 54, 55, 56, 57, 58, 59, 60, 61, 62, 63, 64, 65, 66, 67, 68, 69, 70, 71, 72, 73, 74, 75, 76, 77, 78, 79, 80, 81, 82, 83, 84, 85, 86, 87, 88, 89, 90, 91, 92, 93, 94, 95, 96, 97, 98, 99, 100, 101, 102, 103, 104, 1, 105, 106, 107, 108, 109, 4, 110, 111, 112, 113, 114, 115, 116, 117, 118, 119, 120, 121, 6, 7, 8, 122, 123, 124, 125, 126, 127, 128, 129, 130, 131, 132, 133, 134, 135, 136, 137, 138, 139, 140, 141, 142, 143, 144, 145, 155, 156, 157, 158, 159, 160, 161, 162, 163, 164, 165, 166, 167, 168, 169, 170, 171, 172, 173, 174, 175, 176, 177, 178, 179, 180, 181, 182, 183, 184, 185, 186] (by decide +kernel) (by decide +kernel)
set_option maxRecDepth 20000 in
theorem gX3_run_X3_lookForRule : GoodIn wsX3_run (wsV RX3 47 RX3 yX3_lookForRule wsX3_lookForRule) := goodIn_app (goodIn_of _ (by decide +kernel)) ggX3_run_X3_lookForRule
set_option maxRecDepth 20000 in
theorem ggX3_run_X1_clear : GoodIn wsX3_run wsX1_clear := goodIn_r _ [149, 150, 151, 152, 30, 153, 154, 93, 94, 95, 32, 96, 97, 184, 185, 186] (by decide +kernel) (by decide +kernel)
set_option maxRecDepth 20000 in
theorem gX3_run_X1_clear : GoodIn wsX3_run (wsV RX3 51 RX1 yX1_clear wsX1_clear) := goodIn_app (goodIn_of _ (by decide +kernel)) ggX3_run_X1_clear
theorem dX3_run_0 : decode cX3_run 0 = .ok (.aload_n 0, 1) := by decide +kernel
theorem dX3_run_1 : decode cX3_run 1 = .ok (.iconst 0, 1) := by decide +kernel
theorem dX3_run_2 : decode cX3_run 2 = .ok (.putfield 18, 3) := by decide +kernel
theorem dX3_run_5 : decode cX3_run 5 = .ok (.aload_n 0, 1) := by decide +kernel
theorem dX3_run_6 : decode cX3_run 6 = .ok (.iconst 0, 1) := by decide +kernel
theorem dX3_run_7 : decode cX3_run 7 = .ok (.putfield 22, 3) := by decide +kernel
theorem dX3_run_10 : decode cX3_run 10 = .ok (.aload_n 0, 1) := by decide +kernel
theorem dX3_run_11 : decode cX3_run 11 = .ok (.iconst 0, 1) := by decide +kernel
theorem dX3_run_12 : decode cX3_run 12 = .ok (.putfield 25, 3) := by decide +kernel
theorem dX3_run_15 : decode cX3_run 15 = .ok (.aload_n 0, 1) := by decide +kernel
theorem dX3_run_16 : decode cX3_run 16 = .ok (.iconst (-1), 1) := by decide +kernel
theorem dX3_run_17 : decode cX3_run 17 = .ok (.putfield 28, 3) := by decide +kernel
theorem dX3_run_20 : decode cX3_run 20 = .ok (.aload_n 0, 1) := by decide +kernel
theorem dX3_run_21 : decode cX3_run 21 = .ok (.iload_n 1, 1) := by decide +kernel
theorem dX3_run_22 : decode cX3_run 22 = .ok (.iload_n 2, 1) := by decide +kernel
theorem dX3_run_23 : decode cX3_run 23 = .ok (.iconst 0, 1) := by decide +kernel
theorem dX3_run_24 : decode cX3_run 24 = .ok (.invokevirtual 47, 3) := by decide +kernel
theorem dX3_run_27 : decode cX3_run 27 = .ok (.istore_n 3, 1) := by decide +kernel
theorem dX3_run_28 : decode cX3_run 28 = .ok (.iload_n 3, 1) := by decide +kernel
theorem dX3_run_29 : decode cX3_run 29 = .ok (.bipush (-2), 2) := by decide +kernel
theorem dX3_run_31 : decode cX3_run 31 = .ok (.if_icmp .ne 10, 3) := by decide +kernel
theorem dX3_run_34 : decode cX3_run 34 = .ok (.aload_n 0, 1) := by decide +kernel
theorem dX3_run_35 : decode cX3_run 35 = .ok (.getfield 43, 3) := by decide +kernel
theorem dX3_run_38 : decode cX3_run 38 = .ok (.invokevirtual 51, 3) := by decide +kernel
theorem dX3_run_41 : decode cX3_run 41 = .ok (.iload_n 3, 1) := by decide +kernel
theorem dX3_run_42 : decode cX3_run 42 = .ok (.ireturn, 1) := by decide +kernel
set_option maxRecDepth 20000 in
theorem ggX3_look_X3_lookForRange : GoodIn wsX3_look wsX3_lookForRange := goodIn_r _ [8, 9, 10, 11, 12, 13, 14, 15, 16, 17, 18, 19, 20, 21, 22, 23, 24, 25, 26, 27, 28, 29, 30, 31, 32, 33, 34, 145, 146, 147, 148, 149, 150, 151, 152, 153, 162, 163, 164, 165, 166, 167, 168, 169, 170, 171, 172, 173] (by decide +kernel) (by decide +kernel)
set_option maxRecDepth 20000 in
theorem gX3_look_X3_lookForRange : GoodIn wsX3_look (wsV RX3 68 RX3 yX3_lookForRange wsX3_lookForRange) := goodIn_app (goodIn_of _ (by decide +kernel)) ggX3_look_X3_lookForRange
set_option maxRecDepth 20000 in
theorem ggX3_look_X3_lookForRule : GoodIn wsX3_look wsX3_lookForRule := goodIn_r _ [63, 9, 3, 64, 2, 65, 66, 67, 7, 68, 69, 70, 71, 72, 73, 74, 75, 76, 77, 78, 79, 80, 81, 82, 83, 84, 85, 86, 87, 88, 19, 89, 90, 16, 17, 18, 20, 21, 22, 23, 13, 14, 15, 91, 92, 93, 94, 95, 96, 97, 98, 99, 100, 101, 102, 103, 104, 105, 106, 107, 108, 109, 110, 111, 112, 113, 114, 115, 116, 117, 118, 119, 120, 121, 122, 57, 58, 59, 123, 124, 125, 126, 127, 128, 129, 130, 131, 132, 133, 134, 135, 136, 137, 138, 139, 140, 141, 142, 0, 1, 4, 5, 6, 8, 10, 11, 12, 24, 25, 26, 27, 28, 29, 30, 31, 32, 33, 34, 35, 36, 37, 38, 39, 40, 41, 42, 43, 44, 45, 46, 47, 48, 49, 50, 51, 52, 53, 54, 55, 56, 60, 61, 62, 143, 144, 145, 146, 147, 148, 149, 150, 151, 152, 153, 154, 155, 156, 157, 158, 159, 160, 161, 162, 163, 164, 165, 166, 167, 168, 169, 170, 171, 172, 173, 174, 175, 176] (by decide +kernel) (by decide +kernel)
set_option maxRecDepth 20000 in
theorem gX3_look_X3_lookForRule : GoodIn wsX3_look (wsV RX3 47 RX3 yX3_lookForRule wsX3_lookForRule) := goodIn_app (goodIn_of _ (by decide +kernel)) ggX3_look_X3_lookForRule
set_option maxRecDepth 20000 in
theorem ggX3_look_X3_lookForSequence : GoodIn wsX3_look wsX3_lookForSequence := goodIn_r _ [143, 2, 57, 58, 59, 7, 0, 1, 3, 4, 5, 6, 8, 9, 10, 11, 12, 13, 14, 15, 16, 17, 18, 19, 20, 21, 22, 23, 24, 25, 26, 27, 28, 29, 30, 31, 32, 33, 34, 35, 36, 37, 38, 39, 40, 41, 42, 43, 44, 45, 46, 47, 48, 49, 50, 51, 52, 53, 54, 55, 56, 60, 61, 62, 63, 64, 65, 66, 67, 68, 69, 70, 71, 72, 73, 74, 75, 76, 77, 78, 79, 80, 81, 82, 83, 84, 85, 86, 87, 88, 89, 90, 91, 92, 93, 94, 95, 96, 97, 98, 99, 100, 101, 102, 103, 104, 105, 106, 107, 108, 109, 110, 111, 112, 113, 114, 115, 116, 117, 118, 119, 120, 121, 122, 123, 124, 125, 126, 127, 128, 129, 130, 131, 132, 133, 134, 135, 136, 137, 138, 139, 140, 141, 142, 144, 145, 146, 147, 148, 149, 150, 151, 152, 153, 154, 155, 156, 157, 158, 159, 160, 161, 162, 163, 164, 165, 166, 167, 168, 169, 170, 171, 172, 173, 174, 175, 176] (by decide +kernel) (by decide +kernel)
set_option maxRecDepth 20000 in
theorem gX3_look_X3_lookForSequence : GoodIn wsX3_look (wsV RX3 71 RX3 yX3_lookForSequence wsX3_lookForSequence) := goodIn_app (goodIn_of _ (by decide +kernel)) ggX3_look_X3_lookForSequence
set_option maxRecDepth 20000 in
theorem ggX3_look_X3_lookForChoice : GoodIn wsX3_look wsX3_lookForChoice := goodIn_r _ [60, 2, 57, 58, 59, 7, 0, 1, 3, 4, 5, 6, 8, 9, 10, 11, 12, 13, 14, 15, 16, 17, 18, 19, 20, 21, 22, 23, 24, 25, 26, 27, 28, 29, 30, 31, 32, 33, 34, 35, 36, 37, 38, 39, 40, 41, 42, 43, 44, 45, 46, 47, 48, 49, 50, 51, 52, 53, 54, 55, 56, 61, 62, 63, 64, 65, 66, 67, 68, 69, 70, 71, 72, 73, 74, 75, 76, 77, 78, 79, 80, 81, 82, 83, 84, 85, 86, 87, 88, 89, 90, 91, 92, 93, 94, 95, 96, 97, 98, 99, 100, 101, 102, 103, 104, 105, 106, 107, 108, 109, 110, 111, 112, 113, 114, 115, 116, 117, 118, 119, 120, 121, 122, 123, 124, 125, 126, 127, 128, 129, 130, 131, 132, 133, 134, 135, 136, 137, 138, 139, 140, 141, 142, 143, 144, 145, 146, 147, 148, 149, 150, 151, 152, 153, 154, 155, 156, 157, 158, 159, 160, 161, 162, 163, 164, 165, 166, 167, 168, 169, 170, 171, 172, 173, 174, 175, 176] (by decide +kernel) (by decide +kernel)
set_option maxRecDepth 20000 in
theorem gX3_look_X3_lookForChoice : GoodIn wsX3_look (wsV RX3 75 RX3 yX3_lookForChoice wsX3_lookForChoice) := goodIn_app (goodIn_of _ (by decide +kernel)) ggX3_look_X3_lookForChoice
set_option maxRecDepth 20000 in
theorem ggX3_look_X3_lookForStar : GoodIn wsX3_look wsX3_lookForStar := goodIn_r _ [144, 2, 57, 58, 59, 7, 0, 1, 3, 4, 5, 6, 8, 9, 10, 11, 12, 13, 14, 15, 16, 17, 18, 19, 20, 21, 22, 23, 24, 25, 26, 27, 28, 29, 30, 31, 32, 33, 34, 35, 36, 37, 38, 39, 40, 41, 42, 43, 44, 45, 46, 47, 48, 49, 50, 51, 52, 53, 54, 55, 56, 60, 61, 62, 63, 64, 65, 66, 67, 68, 69, 70, 71, 72, 73, 74, 75, 76, 77, 78, 79, 80, 81, 82, 83, 84, 85, 86, 87, 88, 89, 90, 91, 92, 93, 94, 95, 96, 97, 98, 99, 100, 101, 102, 103, 104, 105, 106, 107, 108, 109, 110, 111, 112, 113, 114, 115, 116, 117, 118, 119, 120, 121, 122, 123, 124, 125, 126, 127, 128, 129, 130, 131, 132, 133, 134, 135, 136, 137, 138, 139, 140, 141, 142, 143, 145, 146, 147, 148, 149, 150, 151, 152, 153, 154, 155, 156, 157, 158, 159, 160, 161, 162, 163, 164, 165, 166, 167, 168, 169, 170, 171, 172, 173, 174, 175, 176] (by decide +kernel) (by decide +kernel)
set_option maxRecDepth 20000 in
theorem gX3_look_X3_lookForStar : GoodIn wsX3_look (wsV RX3 78 RX3 yX3_lookForStar wsX3_lookForStar) := goodIn_app (goodIn_of _ (by decide +kernel)) ggX3_look_X3_lookForStar
set_option maxRecDepth 20000 in
theorem ggX3_look_X3_lookForOptional : GoodIn wsX3_look wsX3_lookForOptional := goodIn_r _ [62, 2, 57, 58, 59, 7, 0, 1, 3, 4, 5, 6, 8, 9, 10, 11, 12, 13, 14, 15, 16, 17, 18, 19, 20, 21, 22, 23, 24, 25, 26, 27, 28, 29, 30, 31, 32, 33, 34, 35, 36, 37, 38, 39, 40, 41, 42, 43, 44, 45, 46, 47, 48, 49, 50, 51, 52, 53, 54, 55, 56, 60, 61, 63, 64, 65, 66, 67, 68, 69, 70, 71, 72, 73, 74, 75, 76, 77, 78, 79, 80, 81, 82, 83, 84, 85, 86, 87, 88, 89, 90, 91, 92, 93, 94, 95, 96, 97, 98, 99, 100, 101, 102, 103, 104, 105, 106, 107, 108, 109, 110, 111, 112, 113, 114, 115, 116, 117, 118, 119, 120, 121, 122, 123, 124, 125, 126, 127, 128, 129, 130, 131, 132, 133, 134, 135, 136, 137, 138, 139, 140, 141, 142, 143, 144, 145, 146, 147, 148, 149, 150, 151, 152, 153, 154, 155, 156, 157, 158, 159, 160, 161, 162, 163, 164, 165, 166, 167, 168, 169, 170, 171, 172, 173, 174, 175, 176] (by decide +kernel) (by decide +kernel)
set_option maxRecDepth 20000 in
theorem gX3_look_X3_lookForOptional : GoodIn wsX3_look (wsV RX3 81 RX3 yX3_lookForOptional wsX3_lookForOptional) := goodIn_app (goodIn_of _ (by decide +kernel)) ggX3_look_X3_lookForOptional
set_option maxRecDepth 20000 in
theorem ggX3_look_X3_lookForAnd : GoodIn wsX3_look wsX3_lookForAnd := goodIn_r _ [56, 2, 57, 58, 59, 7, 0, 1, 3, 4, 5, 6, 8, 9, 10, 11, 12, 13, 14, 15, 16, 17, 18, 19, 20, 21, 22, 23, 24, 25, 26, 27, 28, 29, 30, 31, 32, 33, 34, 35, 36, 37, 38, 39, 40, 41, 42, 43, 44, 45, 46, 47, 48, 49, 50, 51, 52, 53, 54, 55, 60, 61, 62, 63, 64, 65, 66, 67, 68, 69, 70, 71, 72, 73, 74, 75, 76, 77, 78, 79, 80, 81, 82, 83, 84, 85, 86, 87, 88, 89, 90, 91, 92, 93, 94, 95, 96, 97, 98, 99, 100, 101, 102, 103, 104, 105, 106, 107, 108, 109, 110, 111, 112, 113, 114, 115, 116, 117, 118, 119, 120, 121, 122, 123, 124, 125, 126, 127, 128, 129, 130, 131, 132, 133, 134, 135, 136, 137, 138, 139, 140, 141, 142, 143, 144, 145, 146, 147, 148, 149, 150, 151, 152, 153, 154, 155, 156, 157, 158, 159, 160, 161, 162, 163, 164, 165, 166, 167, 168, 169, 170, 171, 172, 173, 174, 175, 176] (by decide +kernel) (by decide +kernel)
set_option maxRecDepth 20000 in
theorem gX3_look_X3_lookForAnd : GoodIn wsX3_look (wsV RX3 84 RX3 yX3_lookForAnd wsX3_lookForAnd) := goodIn_app (goodIn_of _ (by decide +kernel)) ggX3_look_X3_lookForAnd
set_option maxRecDepth 20000 in
theorem ggX3_look_X3_lookForNot : GoodIn wsX3_look wsX3_lookForNot := goodIn_r _ [61, 2, 57, 58, 59, 7, 0, 1, 3, 4, 5, 6, 8, 9, 10, 11, 12, 13, 14, 15, 16, 17, 18, 19, 20, 21, 22, 23, 24, 25, 26, 27, 28, 29, 30, 31, 32, 33, 34, 35, 36, 37, 38, 39, 40, 41, 42, 43, 44, 45, 46, 47, 48, 49, 50, 51, 52, 53, 54, 55, 56, 60, 62, 63, 64, 65, 66, 67, 68, 69, 70, 71, 72, 73, 74, 75, 76, 77, 78, 79, 80, 81, 82, 83, 84, 85, 86, 87, 88, 89, 90, 91, 92, 93, 94, 95, 96, 97, 98, 99, 100, 101, 102, 103, 104, 105, 106, 107, 108, 109, 110, 111, 112, 113, 114, 115, 116, 117, 118, 119, 120, 121, 122, 123, 124, 125, 126, 127, 128, 129, 130, 131, 132, 133, 134, 135, 136, 137, 138, 139, 140, 141, 142, 143, 144, 145, 146, 147, 148, 149, 150, 151, 152, 153, 154, 155, 156, 157, 158, 159, 160, 161, 162, 163, 164, 165, 166, 167, 168, 169, 170, 171, 172, 173, 174, 175, 176] (by decide +kernel) (by decide +kernel)
set_option maxRecDepth 20000 in
theorem gX3_look_X3_lookForNot : GoodIn wsX3_look (wsV RX3 87 RX3 yX3_lookForNot wsX3_lookForNot) := goodIn_app (goodIn_of _ (by decide +kernel)) ggX3_look_X3_lookForNot
theorem dX3_look_0 : decode cX3_look 0 = .ok (.aload_n 0, 1) := by decide +kernel
theorem dX3_look_1 : decode cX3_look 1 = .ok (.getfield 18, 3) := by decide +kernel
theorem dX3_look_4 : decode cX3_look 4 = .ok (.sipush 5000, 3) := by decide +kernel
theorem dX3_look_7 : decode cX3_look 7 = .ok (.if_icmp .ge 9, 3) := by decide +kernel
theorem dX3_look_10 : decode cX3_look 10 = .ok (.iload_n 3, 1) := by decide +kernel
theorem dX3_look_11 : decode cX3_look 11 = .ok (.bipush 100, 2) := by decide +kernel
theorem dX3_look_13 : decode cX3_look 13 = .ok (.if_icmp .le 6, 3) := by decide +kernel
theorem dX3_look_16 : decode cX3_look 16 = .ok (.bipush (-2), 2) := by decide +kernel
theorem dX3_look_18 : decode cX3_look 18 = .ok (.ireturn, 1) := by decide +kernel
theorem dX3_look_19 : decode cX3_look 19 = .ok (.aload_n 0, 1) := by decide +kernel
theorem dX3_look_20 : decode cX3_look 20 = .ok (.dup, 1) := by decide +kernel
theorem dX3_look_21 : decode cX3_look 21 = .ok (.getfield 18, 3) := by decide +kernel
theorem dX3_look_24 : decode cX3_look 24 = .ok (.iconst 1, 1) := by decide +kernel
theorem dX3_look_25 : decode cX3_look 25 = .ok (.iadd, 1) := by decide +kernel
theorem dX3_look_26 : decode cX3_look 26 = .ok (.putfield 18, 3) := by decide +kernel
theorem dX3_look_29 : decode cX3_look 29 = .ok (.aload_n 0, 1) := by decide +kernel
theorem dX3_look_30 : decode cX3_look 30 = .ok (.iconst 0, 1) := by decide +kernel
theorem dX3_look_31 : decode cX3_look 31 = .ok (.putfield 31, 3) := by decide +kernel
theorem dX3_look_34 : decode cX3_look 34 = .ok (.aload_n 0, 1) := by decide +kernel
theorem dX3_look_35 : decode cX3_look 35 = .ok (.getfield 35, 3) := by decide +kernel
theorem dX3_look_38 : decode cX3_look 38 = .ok (.getfield 56, 3) := by decide +kernel
theorem dX3_look_41 : decode cX3_look 41 = .ok (.iload_n 1, 1) := by decide +kernel
theorem dX3_look_42 : decode cX3_look 42 = .ok (.iaload, 1) := by decide +kernel
theorem dX3_look_43 : decode cX3_look 43 = .ok (.istore 4, 2) := by decide +kernel
theorem dX3_look_45 : decode cX3_look 45 = .ok (.aload_n 0, 1) := by decide +kernel
theorem dX3_look_46 : decode cX3_look 46 = .ok (.getfield 35, 3) := by decide +kernel
theorem dX3_look_49 : decode cX3_look 49 = .ok (.getfield 62, 3) := by decide +kernel
theorem dX3_look_52 : decode cX3_look 52 = .ok (.iload_n 1, 1) := by decide +kernel
theorem dX3_look_53 : decode cX3_look 53 = .ok (.iaload, 1) := by decide +kernel
theorem dX3_look_54 : decode cX3_look 54 = .ok (.istore 5, 2) := by decide +kernel
theorem dX3_look_56 : decode cX3_look 56 = .ok (.aload_n 0, 1) := by decide +kernel
theorem dX3_look_57 : decode cX3_look 57 = .ok (.getfield 35, 3) := by decide +kernel
theorem dX3_look_60 : decode cX3_look 60 = .ok (.getfield 65, 3) := by decide +kernel
theorem dX3_look_63 : decode cX3_look 63 = .ok (.iload_n 1, 1) := by decide +kernel
theorem dX3_look_64 : decode cX3_look 64 = .ok (.iaload, 1) := by decide +kernel
theorem dX3_look_65 : decode cX3_look 65 = .ok (.tableswitch 128 0 8 #[51, 53, 60, 70, 79, 90, 101, 110, 119], 51) := by decide +kernel
theorem dX3_look_116 : decode cX3_look 116 = .ok (.iload_n 2, 1) := by decide +kernel
theorem dX3_look_117 : decode cX3_look 117 = .ok (.ireturn, 1) := by decide +kernel
theorem dX3_look_118 : decode cX3_look 118 = .ok (.aload_n 0, 1) := by decide +kernel
theorem dX3_look_119 : decode cX3_look 119 = .ok (.iconst 1, 1) := by decide +kernel
theorem dX3_look_120 : decode cX3_look 120 = .ok (.putfield 31, 3) := by decide +kernel
theorem dX3_look_123 : decode cX3_look 123 = .ok (.iload_n 2, 1) := by decide +kernel
theorem dX3_look_124 : decode cX3_look 124 = .ok (.ireturn, 1) := by decide +kernel
theorem dX3_look_125 : decode cX3_look 125 = .ok (.aload_n 0, 1) := by decide +kernel
theorem dX3_look_126 : decode cX3_look 126 = .ok (.iload 4, 2) := by decide +kernel
theorem dX3_look_128 : decode cX3_look 128 = .ok (.iload 5, 2) := by decide +kernel
theorem dX3_look_130 : decode cX3_look 130 = .ok (.iload_n 2, 1) := by decide +kernel
theorem dX3_look_131 : decode cX3_look 131 = .ok (.invokevirtual 68, 3) := by decide +kernel
theorem dX3_look_134 : decode cX3_look 134 = .ok (.ireturn, 1) := by decide +kernel
theorem dX3_look_135 : decode cX3_look 135 = .ok (.aload_n 0, 1) := by decide +kernel
theorem dX3_look_136 : decode cX3_look 136 = .ok (.iload 4, 2) := by decide +kernel
theorem dX3_look_138 : decode cX3_look 138 = .ok (.iload_n 2, 1) := by decide +kernel
theorem dX3_look_139 : decode cX3_look 139 = .ok (.iload_n 3, 1) := by decide +kernel
theorem dX3_look_140 : decode cX3_look 140 = .ok (.invokevirtual 47, 3) := by decide +kernel
theorem dX3_look_143 : decode cX3_look 143 = .ok (.ireturn, 1) := by decide +kernel
theorem dX3_look_144 : decode cX3_look 144 = .ok (.aload_n 0, 1) := by decide +kernel
theorem dX3_look_145 : decode cX3_look 145 = .ok (.iload 4, 2) := by decide +kernel
theorem dX3_look_147 : decode cX3_look 147 = .ok (.iload 5, 2) := by decide +kernel
theorem dX3_look_149 : decode cX3_look 149 = .ok (.iload_n 2, 1) := by decide +kernel
theorem dX3_look_150 : decode cX3_look 150 = .ok (.iload_n 3, 1) := by decide +kernel
theorem dX3_look_151 : decode cX3_look 151 = .ok (.invokevirtual 71, 3) := by decide +kernel
theorem dX3_look_154 : decode cX3_look 154 = .ok (.ireturn, 1) := by decide +kernel
theorem dX3_look_155 : decode cX3_look 155 = .ok (.aload_n 0, 1) := by decide +kernel
theorem dX3_look_156 : decode cX3_look 156 = .ok (.iload 4, 2) := by decide +kernel
theorem dX3_look_158 : decode cX3_look 158 = .ok (.iload 5, 2) := by decide +kernel
theorem dX3_look_160 : decode cX3_look 160 = .ok (.iload_n 2, 1) := by decide +kernel
theorem dX3_look_161 : decode cX3_look 161 = .ok (.iload_n 3, 1) := by decide +kernel
theorem dX3_look_162 : decode cX3_look 162 = .ok (.invokevirtual 75, 3) := by decide +kernel
theorem dX3_look_165 : decode cX3_look 165 = .ok (.ireturn, 1) := by decide +kernel
theorem dX3_look_166 : decode cX3_look 166 = .ok (.aload_n 0, 1) := by decide +kernel
theorem dX3_look_167 : decode cX3_look 167 = .ok (.iload 4, 2) := by decide +kernel
theorem dX3_look_169 : decode cX3_look 169 = .ok (.iload_n 2, 1) := by decide +kernel
theorem dX3_look_170 : decode cX3_look 170 = .ok (.iload_n 3, 1) := by decide +kernel
theorem dX3_look_171 : decode cX3_look 171 = .ok (.invokevirtual 78, 3) := by decide +kernel
theorem dX3_look_174 : decode cX3_look 174 = .ok (.ireturn, 1) := by decide +kernel
theorem dX3_look_175 : decode cX3_look 175 = .ok (.aload_n 0, 1) := by decide +kernel
theorem dX3_look_176 : decode cX3_look 176 = .ok (.iload 4, 2) := by decide +kernel
theorem dX3_look_178 : decode cX3_look 178 = .ok (.iload_n 2, 1) := by decide +kernel
theorem dX3_look_179 : decode cX3_look 179 = .ok (.iload_n 3, 1) := by decide +kernel
theorem dX3_look_180 : decode cX3_look 180 = .ok (.invokevirtual 81, 3) := by decide +kernel
theorem dX3_look_183 : decode cX3_look 183 = .ok (.ireturn, 1) := by decide +kernel
theorem dX3_look_184 : decode cX3_look 184 = .ok (.aload_n 0, 1) := by decide +kernel
theorem dX3_look_185 : decode cX3_look 185 = .ok (.iload 4, 2) := by decide +kernel
theorem dX3_look_187 : decode cX3_look 187 = .ok (.iload_n 2, 1) := by decide +kernel
theorem dX3_look_188 : decode cX3_look 188 = .ok (.iload_n 3, 1) := by decide +kernel
theorem dX3_look_189 : decode cX3_look 189 = .ok (.invokevirtual 84, 3) := by decide +kernel
theorem dX3_look_192 : decode cX3_look 192 = .ok (.ireturn, 1) := by decide +kernel
theorem dX3_look_193 : decode cX3_look 193 = .ok (.aload_n 0, 1) := by decide +kernel
theorem dX3_look_194 : decode cX3_look 194 = .ok (.iload 4, 2) := by decide +kernel
theorem dX3_look_196 : decode cX3_look 196 = .ok (.iload_n 2, 1) := by decide +kernel
theorem dX3_look_197 : decode cX3_look 197 = .ok (.iload_n 3, 1) := by decide +kernel
theorem dX3_look_198 : decode cX3_look 198 = .ok (.invokevirtual 87, 3) := by decide +kernel
theorem dX3_look_201 : decode cX3_look 201 = .ok (.ireturn, 1) := by decide +kernel
set_option maxRecDepth 20000 in
theorem ggX3_lookForRange_X2_countLook : GoodIn wsX3_lookForRange wsX2_countLook := goodIn_r _ [12, 13, 14, 15, 5, 6, 7, 36, 37, 38, 39, 40, 41, 42, 43, 44, 45] (by decide +kernel) (by decide +kernel)
set_option maxRecDepth 20000 in
theorem gX3_lookForRange_X2_countLook : GoodIn wsX3_lookForRange (wsV RX3 90 RX2 yX2_countLook wsX2_countLook) := goodIn_app (goodIn_of _ (by decide +kernel)) ggX3_lookForRange_X2_countLook
set_option maxRecDepth 20000 in
theorem ggX3_lookForRange_X4_byteOrNone : GoodIn wsX3_lookForRange wsX4_byteOrNone := goodIn_r _ [20, 21, 22, 23, 24, 19, 25, 26, 46, 47] (by decide +kernel) (by decide +kernel)
set_option maxRecDepth 20000 in
theorem gX3_lookForRange_X4_byteOrNone : GoodIn wsX3_lookForRange (wsV RX3 94 RX4 yX4_byteOrNone wsX4_byteOrNone) := goodIn_app (goodIn_of _ (by decide +kernel)) ggX3_lookForRange_X4_byteOrNone
theorem dX3_lookForRange_0 : decode cX3_lookForRange 0 = .ok (.aload_n 0, 1) := by decide +kernel
theorem dX3_lookForRange_1 : decode cX3_lookForRange 1 = .ok (.getfield 12, 3) := by decide +kernel
theorem dX3_lookForRange_4 : decode cX3_lookForRange 4 = .ok (.iload_n 3, 1) := by decide +kernel
theorem dX3_lookForRange_5 : decode cX3_lookForRange 5 = .ok (.iconst 1, 1) := by decide +kernel
theorem dX3_lookForRange_6 : decode cX3_lookForRange 6 = .ok (.iadd, 1) := by decide +kernel
theorem dX3_lookForRange_7 : decode cX3_lookForRange 7 = .ok (.invokevirtual 90, 3) := by decide +kernel
theorem dX3_lookForRange_10 : decode cX3_lookForRange 10 = .ok (.aload_n 0, 1) := by decide +kernel
theorem dX3_lookForRange_11 : decode cX3_lookForRange 11 = .ok (.getfield 39, 3) := by decide +kernel
theorem dX3_lookForRange_14 : decode cX3_lookForRange 14 = .ok (.iload_n 3, 1) := by decide +kernel
theorem dX3_lookForRange_15 : decode cX3_lookForRange 15 = .ok (.invokevirtual 94, 3) := by decide +kernel
theorem dX3_lookForRange_18 : decode cX3_lookForRange 18 = .ok (.istore 4, 2) := by decide +kernel
theorem dX3_lookForRange_20 : decode cX3_lookForRange 20 = .ok (.iload 4, 2) := by decide +kernel
theorem dX3_lookForRange_22 : decode cX3_lookForRange 22 = .ok (.iload_n 1, 1) := by decide +kernel
theorem dX3_lookForRange_23 : decode cX3_lookForRange 23 = .ok (.if_icmp .lt 13, 3) := by decide +kernel
theorem dX3_lookForRange_26 : decode cX3_lookForRange 26 = .ok (.iload 4, 2) := by decide +kernel
theorem dX3_lookForRange_28 : decode cX3_lookForRange 28 = .ok (.iload_n 2, 1) := by decide +kernel
