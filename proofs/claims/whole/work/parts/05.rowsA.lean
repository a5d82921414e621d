set_option maxRecDepth 20000 in
theorem ggX0_init_X4_init : GoodIn wsX0_init wsX4_init := goodIn_r _ [3, 4, 5, 6] (by decide +kernel) (by decide +kernel)
set_option maxRecDepth 20000 in
theorem gX0_init_X4_init_n1 : GoodIn wsX0_init (wsX4_init) := ggX0_init_X4_init
theorem dX0_init_0 : decode cX0_init 0 = .ok (.aload_n 0, 1) := by decide +kernel
theorem dX0_init_1 : decode cX0_init 1 = .ok (.invokespecial 1, 3) := by decide +kernel
theorem dX0_init_4 : decode cX0_init 4 = .ok (.return_, 1) := by decide +kernel
theorem dX0_leansMore_0 : decode cX0_leansMore 0 = .ok (.iconst 0, 1) := by decide +kernel
theorem dX0_leansMore_1 : decode cX0_leansMore 1 = .ok (.ireturn, 1) := by decide +kernel
theorem dX0_uprightWithin_0 : decode cX0_uprightWithin 0 = .ok (.iload_n 1, 1) := by decide +kernel
theorem dX0_uprightWithin_1 : decode cX0_uprightWithin 1 = .ok (.ireturn, 1) := by decide +kernel
theorem dX0_discountAt_0 : decode cX0_discountAt 0 = .ok (.iload_n 1, 1) := by decide +kernel
theorem dX0_discountAt_1 : decode cX0_discountAt 1 = .ok (.iconst 2, 1) := by decide +kernel
theorem dX0_discountAt_2 : decode cX0_discountAt 2 = .ok (.idiv, 1) := by decide +kernel
theorem dX0_discountAt_3 : decode cX0_discountAt 3 = .ok (.ireturn, 1) := by decide +kernel
set_option maxRecDepth 20000 in
theorem ggX0_priceBy_X4_priceBy : GoodIn wsX0_priceBy wsX4_priceBy := goodIn_r _ [6] (by decide +kernel) (by decide +kernel)
set_option maxRecDepth 20000 in
theorem gX0_priceBy_X4_priceBy_s7 : GoodIn wsX0_priceBy (va_wsSU RX0 7 yX4_priceBy wsX4_priceBy) := goodIn_app (goodIn_of _ (by decide +kernel)) ggX0_priceBy_X4_priceBy
theorem dX0_priceBy_0 : decode cX0_priceBy 0 = .ok (.aload_n 0, 1) := by decide +kernel
theorem dX0_priceBy_1 : decode cX0_priceBy 1 = .ok (.iload_n 1, 1) := by decide +kernel
theorem dX0_priceBy_2 : decode cX0_priceBy 2 = .ok (.invokespecial 7, 3) := by decide +kernel
theorem dX0_priceBy_5 : decode cX0_priceBy 5 = .ok (.iload_n 1, 1) := by decide +kernel
theorem dX0_priceBy_6 : decode cX0_priceBy 6 = .ok (.iadd, 1) := by decide +kernel
theorem dX0_priceBy_7 : decode cX0_priceBy 7 = .ok (.ireturn, 1) := by decide +kernel
theorem dX0_failsBy_0 : decode cX0_failsBy 0 = .ok (.iload_n 1, 1) := by decide +kernel
theorem dX0_failsBy_1 : decode cX0_failsBy 1 = .ok (.ifCond .eq 13, 3) := by decide +kernel
theorem dX0_failsBy_4 : decode cX0_failsBy 4 = .ok (.new 11, 3) := by decide +kernel
theorem dX0_failsBy_7 : decode cX0_failsBy 7 = .ok (.dup, 1) := by decide +kernel
theorem dX0_failsBy_8 : decode cX0_failsBy 8 = .ok (.ldc 13, 2) := by decide +kernel
theorem dX0_failsBy_10 : decode cX0_failsBy 10 = .ok (.invokespecial 15, 3) := by decide +kernel
theorem dX0_failsBy_13 : decode cX0_failsBy 13 = .ok (.athrow, 1) := by decide +kernel
theorem dX0_failsBy_14 : decode cX0_failsBy 14 = .ok (.return_, 1) := by decide +kernel
set_option maxRecDepth 20000 in
theorem ggX1_init_X0_init : GoodIn wsX1_init wsX0_init := goodIn_r _ [3, 4, 5, 6, 7, 8, 9] (by decide +kernel) (by decide +kernel)
set_option maxRecDepth 20000 in
theorem gX1_init_X0_init_n1 : GoodIn wsX1_init (wsX0_init) := ggX1_init_X0_init
theorem dX1_init_0 : decode cX1_init 0 = .ok (.aload_n 0, 1) := by decide +kernel
theorem dX1_init_1 : decode cX1_init 1 = .ok (.invokespecial 1, 3) := by decide +kernel
theorem dX1_init_4 : decode cX1_init 4 = .ok (.return_, 1) := by decide +kernel
theorem dX1_leansMore_0 : decode cX1_leansMore 0 = .ok (.iload_n 2, 1) := by decide +kernel
theorem dX1_leansMore_1 : decode cX1_leansMore 1 = .ok (.iconst 3, 1) := by decide +kernel
theorem dX1_leansMore_2 : decode cX1_leansMore 2 = .ok (.idiv, 1) := by decide +kernel
theorem dX1_leansMore_3 : decode cX1_leansMore 3 = .ok (.iconst 1, 1) := by decide +kernel
theorem dX1_leansMore_4 : decode cX1_leansMore 4 = .ok (.iadd, 1) := by decide +kernel
theorem dX1_leansMore_5 : decode cX1_leansMore 5 = .ok (.istore 5, 2) := by decide +kernel
theorem dX1_leansMore_7 : decode cX1_leansMore 7 = .ok (.iload_n 1, 1) := by decide +kernel
theorem dX1_leansMore_8 : decode cX1_leansMore 8 = .ok (.ifCond .ge 9, 3) := by decide +kernel
theorem dX1_leansMore_11 : decode cX1_leansMore 11 = .ok (.iload 5, 2) := by decide +kernel
theorem dX1_leansMore_13 : decode cX1_leansMore 13 = .ok (.ineg, 1) := by decide +kernel
theorem dX1_leansMore_14 : decode cX1_leansMore 14 = .ok (.goto 5, 3) := by decide +kernel
theorem dX1_leansMore_17 : decode cX1_leansMore 17 = .ok (.iload 5, 2) := by decide +kernel
theorem dX1_leansMore_19 : decode cX1_leansMore 19 = .ok (.ireturn, 1) := by decide +kernel
set_option maxRecDepth 20000 in
theorem ggX1_uprightWithin_X0_uprightWithin : GoodIn wsX1_uprightWithin wsX0_uprightWithin := goodIn_r _ [6] (by decide +kernel) (by decide +kernel)
set_option maxRecDepth 20000 in
theorem gX1_uprightWithin_X0_uprightWithin_s7 : GoodIn wsX1_uprightWithin (va_wsSU RX1 7 yX0_uprightWithin wsX0_uprightWithin) := goodIn_app (goodIn_of _ (by decide +kernel)) ggX1_uprightWithin_X0_uprightWithin
theorem dX1_uprightWithin_0 : decode cX1_uprightWithin 0 = .ok (.iconst 2, 1) := by decide +kernel
theorem dX1_uprightWithin_1 : decode cX1_uprightWithin 1 = .ok (.aload_n 0, 1) := by decide +kernel
theorem dX1_uprightWithin_2 : decode cX1_uprightWithin 2 = .ok (.iload_n 1, 1) := by decide +kernel
theorem dX1_uprightWithin_3 : decode cX1_uprightWithin 3 = .ok (.invokespecial 7, 3) := by decide +kernel
theorem dX1_uprightWithin_6 : decode cX1_uprightWithin 6 = .ok (.imul, 1) := by decide +kernel
theorem dX1_uprightWithin_7 : decode cX1_uprightWithin 7 = .ok (.ireturn, 1) := by decide +kernel
set_option maxRecDepth 20000 in
theorem ggX1_discountAt_X0_discountAt : GoodIn wsX1_discountAt wsX0_discountAt := goodIn_r _ [6] (by decide +kernel) (by decide +kernel)
set_option maxRecDepth 20000 in
theorem gX1_discountAt_X0_discountAt_s11 : GoodIn wsX1_discountAt (va_wsSU RX1 11 yX0_discountAt wsX0_discountAt) := goodIn_app (goodIn_of _ (by decide +kernel)) ggX1_discountAt_X0_discountAt
theorem dX1_discountAt_0 : decode cX1_discountAt 0 = .ok (.aload_n 0, 1) := by decide +kernel
theorem dX1_discountAt_1 : decode cX1_discountAt 1 = .ok (.iload_n 1, 1) := by decide +kernel
theorem dX1_discountAt_2 : decode cX1_discountAt 2 = .ok (.iload_n 2, 1) := by decide +kernel
theorem dX1_discountAt_3 : decode cX1_discountAt 3 = .ok (.invokespecial 11, 3) := by decide +kernel
theorem dX1_discountAt_6 : decode cX1_discountAt 6 = .ok (.iconst 3, 1) := by decide +kernel
theorem dX1_discountAt_7 : decode cX1_discountAt 7 = .ok (.iadd, 1) := by decide +kernel
theorem dX1_discountAt_8 : decode cX1_discountAt 8 = .ok (.ireturn, 1) := by decide +kernel
set_option maxRecDepth 20000 in
theorem ggX1_priceBy_X0_priceBy : GoodIn wsX1_priceBy wsX0_priceBy := goodIn_r _ [6, 7, 8, 9, 10, 11, 12] (by decide +kernel) (by decide +kernel)
set_option maxRecDepth 20000 in
theorem gX1_priceBy_X0_priceBy_s15 : GoodIn wsX1_priceBy (va_wsSU RX1 15 yX0_priceBy wsX0_priceBy) := goodIn_app (goodIn_of _ (by decide +kernel)) ggX1_priceBy_X0_priceBy
theorem dX1_priceBy_0 : decode cX1_priceBy 0 = .ok (.iconst 2, 1) := by decide +kernel
theorem dX1_priceBy_1 : decode cX1_priceBy 1 = .ok (.aload_n 0, 1) := by decide +kernel
theorem dX1_priceBy_2 : decode cX1_priceBy 2 = .ok (.iload_n 1, 1) := by decide +kernel
theorem dX1_priceBy_3 : decode cX1_priceBy 3 = .ok (.invokespecial 15, 3) := by decide +kernel
theorem dX1_priceBy_6 : decode cX1_priceBy 6 = .ok (.imul, 1) := by decide +kernel
theorem dX1_priceBy_7 : decode cX1_priceBy 7 = .ok (.ireturn, 1) := by decide +kernel
theorem dX2_init_0 : decode cX2_init 0 = .ok (.aload_n 0, 1) := by decide +kernel
theorem dX2_init_1 : decode cX2_init 1 = .ok (.invokespecial 3, 3) := by decide +kernel
theorem dX2_init_4 : decode cX2_init 4 = .ok (.aload_n 0, 1) := by decide +kernel
theorem dX2_init_5 : decode cX2_init 5 = .ok (.bipush 8, 2) := by decide +kernel
theorem dX2_init_7 : decode cX2_init 7 = .ok (.newarray .int, 2) := by decide +kernel
theorem dX2_init_9 : decode cX2_init 9 = .ok (.putfield 9, 3) := by decide +kernel
theorem dX2_init_12 : decode cX2_init 12 = .ok (.aload_n 0, 1) := by decide +kernel
theorem dX2_init_13 : decode cX2_init 13 = .ok (.bipush 8, 2) := by decide +kernel
theorem dX2_init_15 : decode cX2_init 15 = .ok (.newarray .int, 2) := by decide +kernel
theorem dX2_init_17 : decode cX2_init 17 = .ok (.putfield 15, 3) := by decide +kernel
theorem dX2_init_20 : decode cX2_init 20 = .ok (.aload_n 0, 1) := by decide +kernel
theorem dX2_init_21 : decode cX2_init 21 = .ok (.bipush 8, 2) := by decide +kernel
theorem dX2_init_23 : decode cX2_init 23 = .ok (.newarray .int, 2) := by decide +kernel
theorem dX2_init_25 : decode cX2_init 25 = .ok (.putfield 18, 3) := by decide +kernel
theorem dX2_init_28 : decode cX2_init 28 = .ok (.aload_n 0, 1) := by decide +kernel
theorem dX2_init_29 : decode cX2_init 29 = .ok (.bipush 8, 2) := by decide +kernel
theorem dX2_init_31 : decode cX2_init 31 = .ok (.newarray .int, 2) := by decide +kernel
theorem dX2_init_33 : decode cX2_init 33 = .ok (.putfield 21, 3) := by decide +kernel
theorem dX2_init_36 : decode cX2_init 36 = .ok (.aload_n 0, 1) := by decide +kernel
theorem dX2_init_37 : decode cX2_init 37 = .ok (.aload_n 1, 1) := by decide +kernel
theorem dX2_init_38 : decode cX2_init 38 = .ok (.putfield 24, 3) := by decide +kernel
theorem dX2_init_41 : decode cX2_init 41 = .ok (.return_, 1) := by decide +kernel
theorem dX2_becomes_0 : decode cX2_becomes 0 = .ok (.aload_n 1, 1) := by decide +kernel
theorem dX2_becomes_1 : decode cX2_becomes 1 = .ok (.getfield 9, 3) := by decide +kernel
theorem dX2_becomes_4 : decode cX2_becomes 4 = .ok (.iconst 0, 1) := by decide +kernel
theorem dX2_becomes_5 : decode cX2_becomes 5 = .ok (.aload_n 0, 1) := by decide +kernel
theorem dX2_becomes_6 : decode cX2_becomes 6 = .ok (.getfield 9, 3) := by decide +kernel
theorem dX2_becomes_9 : decode cX2_becomes 9 = .ok (.iconst 0, 1) := by decide +kernel
theorem dX2_becomes_10 : decode cX2_becomes 10 = .ok (.bipush 8, 2) := by decide +kernel
theorem dX2_becomes_12 : decode cX2_becomes 12 = .ok (.invokestatic 28, 3) := by decide +kernel
theorem dX2_becomes_15 : decode cX2_becomes 15 = .ok (.aload_n 1, 1) := by decide +kernel
theorem dX2_becomes_16 : decode cX2_becomes 16 = .ok (.getfield 15, 3) := by decide +kernel
theorem dX2_becomes_19 : decode cX2_becomes 19 = .ok (.iconst 0, 1) := by decide +kernel
theorem dX2_becomes_20 : decode cX2_becomes 20 = .ok (.aload_n 0, 1) := by decide +kernel
theorem dX2_becomes_21 : decode cX2_becomes 21 = .ok (.getfield 15, 3) := by decide +kernel
theorem dX2_becomes_24 : decode cX2_becomes 24 = .ok (.iconst 0, 1) := by decide +kernel
theorem dX2_becomes_25 : decode cX2_becomes 25 = .ok (.bipush 8, 2) := by decide +kernel
theorem dX2_becomes_27 : decode cX2_becomes 27 = .ok (.invokestatic 28, 3) := by decide +kernel
theorem dX2_becomes_30 : decode cX2_becomes 30 = .ok (.aload_n 1, 1) := by decide +kernel
theorem dX2_becomes_31 : decode cX2_becomes 31 = .ok (.getfield 18, 3) := by decide +kernel
theorem dX2_becomes_34 : decode cX2_becomes 34 = .ok (.iconst 0, 1) := by decide +kernel
theorem dX2_becomes_35 : decode cX2_becomes 35 = .ok (.aload_n 0, 1) := by decide +kernel
theorem dX2_becomes_36 : decode cX2_becomes 36 = .ok (.getfield 18, 3) := by decide +kernel
theorem dX2_becomes_39 : decode cX2_becomes 39 = .ok (.iconst 0, 1) := by decide +kernel
theorem dX2_becomes_40 : decode cX2_becomes 40 = .ok (.bipush 8, 2) := by decide +kernel
theorem dX2_becomes_42 : decode cX2_becomes 42 = .ok (.invokestatic 28, 3) := by decide +kernel
theorem dX2_becomes_45 : decode cX2_becomes 45 = .ok (.aload_n 0, 1) := by decide +kernel
theorem dX2_becomes_46 : decode cX2_becomes 46 = .ok (.aload_n 1, 1) := by decide +kernel
theorem dX2_becomes_47 : decode cX2_becomes 47 = .ok (.getfield 34, 3) := by decide +kernel
theorem dX2_becomes_50 : decode cX2_becomes 50 = .ok (.putfield 34, 3) := by decide +kernel
theorem dX2_becomes_53 : decode cX2_becomes 53 = .ok (.aload_n 0, 1) := by decide +kernel
theorem dX2_becomes_54 : decode cX2_becomes 54 = .ok (.aload_n 1, 1) := by decide +kernel
theorem dX2_becomes_55 : decode cX2_becomes 55 = .ok (.getfield 38, 3) := by decide +kernel
theorem dX2_becomes_58 : decode cX2_becomes 58 = .ok (.putfield 38, 3) := by decide +kernel
theorem dX2_becomes_61 : decode cX2_becomes 61 = .ok (.aload_n 0, 1) := by decide +kernel
theorem dX2_becomes_62 : decode cX2_becomes 62 = .ok (.aload_n 1, 1) := by decide +kernel
theorem dX2_becomes_63 : decode cX2_becomes 63 = .ok (.getfield 41, 3) := by decide +kernel
theorem dX2_becomes_66 : decode cX2_becomes 66 = .ok (.putfield 41, 3) := by decide +kernel
theorem dX2_becomes_69 : decode cX2_becomes 69 = .ok (.aload_n 0, 1) := by decide +kernel
theorem dX2_becomes_70 : decode cX2_becomes 70 = .ok (.aload_n 1, 1) := by decide +kernel
theorem dX2_becomes_71 : decode cX2_becomes 71 = .ok (.getfield 44, 3) := by decide +kernel
theorem dX2_becomes_74 : decode cX2_becomes 74 = .ok (.putfield 44, 3) := by decide +kernel
theorem dX2_becomes_77 : decode cX2_becomes 77 = .ok (.aload_n 0, 1) := by decide +kernel
theorem dX2_becomes_78 : decode cX2_becomes 78 = .ok (.aload_n 1, 1) := by decide +kernel
theorem dX2_becomes_79 : decode cX2_becomes 79 = .ok (.getfield 47, 3) := by decide +kernel
theorem dX2_becomes_82 : decode cX2_becomes 82 = .ok (.putfield 47, 3) := by decide +kernel
theorem dX2_becomes_85 : decode cX2_becomes 85 = .ok (.aload_n 0, 1) := by decide +kernel
theorem dX2_becomes_86 : decode cX2_becomes 86 = .ok (.aload_n 1, 1) := by decide +kernel
theorem dX2_becomes_87 : decode cX2_becomes 87 = .ok (.getfield 50, 3) := by decide +kernel
theorem dX2_becomes_90 : decode cX2_becomes 90 = .ok (.putfield 50, 3) := by decide +kernel
theorem dX2_becomes_93 : decode cX2_becomes 93 = .ok (.return_, 1) := by decide +kernel
theorem dX2_has_0 : decode cX2_has 0 = .ok (.iload_n 1, 1) := by decide +kernel
theorem dX2_has_1 : decode cX2_has 1 = .ok (.ifCond .lt 15, 3) := by decide +kernel
theorem dX2_has_4 : decode cX2_has 4 = .ok (.iload_n 1, 1) := by decide +kernel
theorem dX2_has_5 : decode cX2_has 5 = .ok (.aload_n 0, 1) := by decide +kernel
theorem dX2_has_6 : decode cX2_has 6 = .ok (.getfield 34, 3) := by decide +kernel
theorem dX2_has_9 : decode cX2_has 9 = .ok (.if_icmp .ge 7, 3) := by decide +kernel
theorem dX2_has_12 : decode cX2_has 12 = .ok (.iconst 1, 1) := by decide +kernel
theorem dX2_has_13 : decode cX2_has 13 = .ok (.goto 4, 3) := by decide +kernel
theorem dX2_has_16 : decode cX2_has 16 = .ok (.iconst 0, 1) := by decide +kernel
theorem dX2_has_17 : decode cX2_has 17 = .ok (.ireturn, 1) := by decide +kernel
theorem dX2_takesIn_0 : decode cX2_takesIn 0 = .ok (.aload_n 0, 1) := by decide +kernel
theorem dX2_takesIn_1 : decode cX2_takesIn 1 = .ok (.getfield 34, 3) := by decide +kernel
theorem dX2_takesIn_4 : decode cX2_takesIn 4 = .ok (.bipush 8, 2) := by decide +kernel
theorem dX2_takesIn_6 : decode cX2_takesIn 6 = .ok (.if_icmp .lt 5, 3) := by decide +kernel
theorem dX2_takesIn_9 : decode cX2_takesIn 9 = .ok (.iconst 0, 1) := by decide +kernel
theorem dX2_takesIn_10 : decode cX2_takesIn 10 = .ok (.ireturn, 1) := by decide +kernel
theorem dX2_takesIn_11 : decode cX2_takesIn 11 = .ok (.aload_n 0, 1) := by decide +kernel
theorem dX2_takesIn_12 : decode cX2_takesIn 12 = .ok (.getfield 9, 3) := by decide +kernel
theorem dX2_takesIn_15 : decode cX2_takesIn 15 = .ok (.aload_n 0, 1) := by decide +kernel
theorem dX2_takesIn_16 : decode cX2_takesIn 16 = .ok (.getfield 34, 3) := by decide +kernel
theorem dX2_takesIn_19 : decode cX2_takesIn 19 = .ok (.iload_n 1, 1) := by decide +kernel
theorem dX2_takesIn_20 : decode cX2_takesIn 20 = .ok (.iastore, 1) := by decide +kernel
theorem dX2_takesIn_21 : decode cX2_takesIn 21 = .ok (.aload_n 0, 1) := by decide +kernel
theorem dX2_takesIn_22 : decode cX2_takesIn 22 = .ok (.getfield 15, 3) := by decide +kernel
theorem dX2_takesIn_25 : decode cX2_takesIn 25 = .ok (.aload_n 0, 1) := by decide +kernel
theorem dX2_takesIn_26 : decode cX2_takesIn 26 = .ok (.getfield 34, 3) := by decide +kernel
theorem dX2_takesIn_29 : decode cX2_takesIn 29 = .ok (.iload_n 2, 1) := by decide +kernel
theorem dX2_takesIn_30 : decode cX2_takesIn 30 = .ok (.iastore, 1) := by decide +kernel
theorem dX2_takesIn_31 : decode cX2_takesIn 31 = .ok (.aload_n 0, 1) := by decide +kernel
theorem dX2_takesIn_32 : decode cX2_takesIn 32 = .ok (.getfield 18, 3) := by decide +kernel
theorem dX2_takesIn_35 : decode cX2_takesIn 35 = .ok (.aload_n 0, 1) := by decide +kernel
theorem dX2_takesIn_36 : decode cX2_takesIn 36 = .ok (.getfield 34, 3) := by decide +kernel
theorem dX2_takesIn_39 : decode cX2_takesIn 39 = .ok (.iload_n 3, 1) := by decide +kernel
theorem dX2_takesIn_40 : decode cX2_takesIn 40 = .ok (.iastore, 1) := by decide +kernel
theorem dX2_takesIn_41 : decode cX2_takesIn 41 = .ok (.aload_n 0, 1) := by decide +kernel
theorem dX2_takesIn_42 : decode cX2_takesIn 42 = .ok (.dup, 1) := by decide +kernel
theorem dX2_takesIn_43 : decode cX2_takesIn 43 = .ok (.getfield 34, 3) := by decide +kernel
theorem dX2_takesIn_46 : decode cX2_takesIn 46 = .ok (.iconst 1, 1) := by decide +kernel
theorem dX2_takesIn_47 : decode cX2_takesIn 47 = .ok (.iadd, 1) := by decide +kernel
theorem dX2_takesIn_48 : decode cX2_takesIn 48 = .ok (.putfield 34, 3) := by decide +kernel
theorem dX2_takesIn_51 : decode cX2_takesIn 51 = .ok (.iconst 1, 1) := by decide +kernel
theorem dX2_takesIn_52 : decode cX2_takesIn 52 = .ok (.ireturn, 1) := by decide +kernel
theorem dX2_isPropped_0 : decode cX2_isPropped 0 = .ok (.aload_n 0, 1) := by decide +kernel
theorem dX2_isPropped_1 : decode cX2_isPropped 1 = .ok (.getfield 38, 3) := by decide +kernel
theorem dX2_isPropped_4 : decode cX2_isPropped 4 = .ok (.iconst 1, 1) := by decide +kernel
theorem dX2_isPropped_5 : decode cX2_isPropped 5 = .ok (.iload_n 1, 1) := by decide +kernel
theorem dX2_isPropped_6 : decode cX2_isPropped 6 = .ok (.ishl, 1) := by decide +kernel
theorem dX2_isPropped_7 : decode cX2_isPropped 7 = .ok (.iand, 1) := by decide +kernel
theorem dX2_isPropped_8 : decode cX2_isPropped 8 = .ok (.ifCond .eq 7, 3) := by decide +kernel
theorem dX2_isPropped_11 : decode cX2_isPropped 11 = .ok (.iconst 1, 1) := by decide +kernel
theorem dX2_isPropped_12 : decode cX2_isPropped 12 = .ok (.goto 4, 3) := by decide +kernel
theorem dX2_isPropped_15 : decode cX2_isPropped 15 = .ok (.iconst 0, 1) := by decide +kernel
theorem dX2_isPropped_16 : decode cX2_isPropped 16 = .ok (.ireturn, 1) := by decide +kernel
theorem dX2_turnProp_0 : decode cX2_turnProp 0 = .ok (.aload_n 0, 1) := by decide +kernel
theorem dX2_turnProp_1 : decode cX2_turnProp 1 = .ok (.dup, 1) := by decide +kernel
theorem dX2_turnProp_2 : decode cX2_turnProp 2 = .ok (.getfield 38, 3) := by decide +kernel
theorem dX2_turnProp_5 : decode cX2_turnProp 5 = .ok (.iconst 1, 1) := by decide +kernel
theorem dX2_turnProp_6 : decode cX2_turnProp 6 = .ok (.iload_n 1, 1) := by decide +kernel
theorem dX2_turnProp_7 : decode cX2_turnProp 7 = .ok (.ishl, 1) := by decide +kernel
theorem dX2_turnProp_8 : decode cX2_turnProp 8 = .ok (.ixor, 1) := by decide +kernel
theorem dX2_turnProp_9 : decode cX2_turnProp 9 = .ok (.putfield 38, 3) := by decide +kernel
theorem dX2_turnProp_12 : decode cX2_turnProp 12 = .ok (.return_, 1) := by decide +kernel
set_option maxRecDepth 20000 in
theorem ggX2_takesStatement_X2_takesManTold : GoodIn wsX2_takesStatement wsX2_takesManTold := goodIn_r _ [6, 7, 8, 9, 10, 11, 12, 13, 14, 15, 16, 17, 18, 19, 20, 21, 22, 23, 24, 25, 5, 26, 27, 28, 29, 30, 189, 190, 191, 192, 193, 194, 195, 196, 197, 198, 199, 200, 201, 202, 203, 204, 205, 206, 207] (by decide +kernel) (by decide +kernel)
set_option maxRecDepth 20000 in
theorem gX2_takesStatement_X2_takesManTold : GoodIn wsX2_takesStatement (wsV RX2 58 RX2 yX2_takesManTold wsX2_takesManTold) := goodIn_app (goodIn_of _ (by decide +kernel)) ggX2_takesStatement_X2_takesManTold
set_option maxRecDepth 20000 in
theorem ggX2_takesStatement_X2_takesLeanTold : GoodIn wsX2_takesStatement wsX2_takesLeanTold := goodIn_r _ [34, 30, 7, 8, 9, 10, 11, 12, 13, 14, 15, 16, 17, 18, 19, 20, 21, 22, 35, 36, 37, 5, 38, 27, 196, 197, 198, 199, 200, 201, 202, 203, 204, 205, 206, 207, 189, 190, 191, 192, 193, 194, 195] (by decide +kernel) (by decide +kernel)
set_option maxRecDepth 20000 in
theorem gX2_takesStatement_X2_takesLeanTold : GoodIn wsX2_takesStatement (wsV RX2 62 RX2 yX2_takesLeanTold wsX2_takesLeanTold) := goodIn_app (goodIn_of _ (by decide +kernel)) ggX2_takesStatement_X2_takesLeanTold
set_option maxRecDepth 20000 in
theorem ggX2_takesStatement_X2_takesPropTold : GoodIn wsX2_takesStatement wsX2_takesPropTold := goodIn_r _ [42, 7, 8, 9, 10, 11, 12, 13, 14, 15, 16, 17, 35, 36, 37, 5, 38, 27, 43, 44, 45, 46, 47, 189, 190, 191, 192, 193, 194, 195, 196, 197, 198, 199, 200, 201, 202, 203, 204, 205, 206, 207] (by decide +kernel) (by decide +kernel)
set_option maxRecDepth 20000 in
theorem gX2_takesStatement_X2_takesPropTold : GoodIn wsX2_takesStatement (wsV RX2 65 RX2 yX2_takesPropTold wsX2_takesPropTold) := goodIn_app (goodIn_of _ (by decide +kernel)) ggX2_takesStatement_X2_takesPropTold
set_option maxRecDepth 20000 in
theorem ggX2_takesStatement_X2_takesLeadTold : GoodIn wsX2_takesStatement wsX2_takesLeadTold := goodIn_r _ [51, 52, 53, 7, 8, 9, 10, 11, 12, 13, 14, 15, 16, 17, 196, 197, 198, 199, 200, 201, 202, 203, 204, 205, 206, 207, 189, 190, 191, 192, 193, 194, 195] (by decide +kernel) (by decide +kernel)
set_option maxRecDepth 20000 in
theorem gX2_takesStatement_X2_takesLeadTold : GoodIn wsX2_takesStatement (wsV RX2 68 RX2 yX2_takesLeadTold wsX2_takesLeadTold) := goodIn_app (goodIn_of _ (by decide +kernel)) ggX2_takesStatement_X2_takesLeadTold
set_option maxRecDepth 20000 in
theorem ggX2_takesStatement_X2_takesDaysTold : GoodIn wsX2_takesStatement wsX2_takesDaysTold := goodIn_r _ [57, 58, 18, 19, 20, 10, 21, 22, 8, 9, 11, 12, 13, 14, 15, 16, 17, 59, 60, 61, 62, 63, 64, 5, 65, 66, 67, 68, 69, 70, 27, 71, 28, 30, 29, 72, 73, 74, 75, 76, 77, 78, 79, 52, 80, 81, 82, 83, 84, 85, 86, 87, 47, 88, 89, 90, 91, 92, 93, 94, 95, 96, 97, 98, 99, 100, 101, 102, 103, 104, 105, 106, 107, 108, 109, 110, 111, 112, 113, 114, 115, 116, 117, 118, 119, 120, 121, 122, 123, 124, 125, 126, 127, 128, 129, 130, 131, 132, 133, 134, 135, 136, 137, 138, 139, 140, 141, 142, 143, 144, 145, 146, 147, 148, 149, 150, 151, 152, 153, 154, 155, 156, 157, 158, 159, 160, 161, 162, 163, 164, 165, 166, 167, 168, 169, 170, 171, 172, 173, 174, 175, 176, 177, 178, 179, 180, 181, 182, 183, 53, 184, 185, 186, 187, 188, 196, 197, 198, 199, 200, 201, 202, 203, 204, 205, 206, 207, 189, 190, 191, 192, 193, 194, 195] (by decide +kernel) (by decide +kernel)
set_option maxRecDepth 20000 in
theorem gX2_takesStatement_X2_takesDaysTold : GoodIn wsX2_takesStatement (wsV RX2 71 RX2 yX2_takesDaysTold wsX2_takesDaysTold) := goodIn_app (goodIn_of _ (by decide +kernel)) ggX2_takesStatement_X2_takesDaysTold
theorem dX2_takesStatement_0 : decode cX2_takesStatement 0 = .ok (.aload_n 1, 1) := by decide +kernel
theorem dX2_takesStatement_1 : decode cX2_takesStatement 1 = .ok (.getfield 53, 3) := by decide +kernel
theorem dX2_takesStatement_4 : decode cX2_takesStatement 4 = .ok (.iload_n 2, 1) := by decide +kernel
theorem dX2_takesStatement_5 : decode cX2_takesStatement 5 = .ok (.iaload, 1) := by decide +kernel
theorem dX2_takesStatement_6 : decode cX2_takesStatement 6 = .ok (.lookupswitch 70 #[(108, 49), (109, 42), (114, 56), (119, 63)], 42) := by decide +kernel
theorem dX2_takesStatement_48 : decode cX2_takesStatement 48 = .ok (.aload_n 0, 1) := by decide +kernel
theorem dX2_takesStatement_49 : decode cX2_takesStatement 49 = .ok (.aload_n 1, 1) := by decide +kernel
theorem dX2_takesStatement_50 : decode cX2_takesStatement 50 = .ok (.iload_n 2, 1) := by decide +kernel
theorem dX2_takesStatement_51 : decode cX2_takesStatement 51 = .ok (.invokevirtual 58, 3) := by decide +kernel
theorem dX2_takesStatement_54 : decode cX2_takesStatement 54 = .ok (.ireturn, 1) := by decide +kernel
theorem dX2_takesStatement_55 : decode cX2_takesStatement 55 = .ok (.aload_n 0, 1) := by decide +kernel
theorem dX2_takesStatement_56 : decode cX2_takesStatement 56 = .ok (.aload_n 1, 1) := by decide +kernel
theorem dX2_takesStatement_57 : decode cX2_takesStatement 57 = .ok (.iload_n 2, 1) := by decide +kernel
theorem dX2_takesStatement_58 : decode cX2_takesStatement 58 = .ok (.invokevirtual 62, 3) := by decide +kernel
theorem dX2_takesStatement_61 : decode cX2_takesStatement 61 = .ok (.ireturn, 1) := by decide +kernel
theorem dX2_takesStatement_62 : decode cX2_takesStatement 62 = .ok (.aload_n 0, 1) := by decide +kernel
theorem dX2_takesStatement_63 : decode cX2_takesStatement 63 = .ok (.aload_n 1, 1) := by decide +kernel
theorem dX2_takesStatement_64 : decode cX2_takesStatement 64 = .ok (.iload_n 2, 1) := by decide +kernel
theorem dX2_takesStatement_65 : decode cX2_takesStatement 65 = .ok (.invokevirtual 65, 3) := by decide +kernel
theorem dX2_takesStatement_68 : decode cX2_takesStatement 68 = .ok (.ireturn, 1) := by decide +kernel
theorem dX2_takesStatement_69 : decode cX2_takesStatement 69 = .ok (.aload_n 0, 1) := by decide +kernel
theorem dX2_takesStatement_70 : decode cX2_takesStatement 70 = .ok (.aload_n 1, 1) := by decide +kernel
theorem dX2_takesStatement_71 : decode cX2_takesStatement 71 = .ok (.iload_n 2, 1) := by decide +kernel
theorem dX2_takesStatement_72 : decode cX2_takesStatement 72 = .ok (.invokevirtual 68, 3) := by decide +kernel
theorem dX2_takesStatement_75 : decode cX2_takesStatement 75 = .ok (.ireturn, 1) := by decide +kernel
theorem dX2_takesStatement_76 : decode cX2_takesStatement 76 = .ok (.aload_n 0, 1) := by decide +kernel
theorem dX2_takesStatement_77 : decode cX2_takesStatement 77 = .ok (.aload_n 1, 1) := by decide +kernel
theorem dX2_takesStatement_78 : decode cX2_takesStatement 78 = .ok (.iload_n 2, 1) := by decide +kernel
theorem dX2_takesStatement_79 : decode cX2_takesStatement 79 = .ok (.invokevirtual 71, 3) := by decide +kernel
theorem dX2_takesStatement_82 : decode cX2_takesStatement 82 = .ok (.ireturn, 1) := by decide +kernel
set_option maxRecDepth 20000 in
theorem ggX2_takesManTold_X9_digit : GoodIn wsX2_takesManTold wsX9_digit := goodIn_r _ [5, 6, 7, 8, 9, 4, 10, 11, 26, 27, 28, 29, 30, 31, 32] (by decide +kernel) (by decide +kernel)
set_option maxRecDepth 20000 in
theorem gX2_takesManTold_X9_digit : GoodIn wsX2_takesManTold (wsV RX2 74 RX9 yX9_digit wsX9_digit) := goodIn_app (goodIn_of _ (by decide +kernel)) ggX2_takesManTold_X9_digit
set_option maxRecDepth 20000 in
theorem ggX2_takesManTold_X9_twoDigits : GoodIn wsX2_takesManTold wsX9_twoDigits := goodIn_r _ [15, 16, 2, 3, 4, 5, 6, 7, 8, 9, 10, 11, 26, 27, 28, 29, 30, 31, 32] (by decide +kernel) (by decide +kernel)
set_option maxRecDepth 20000 in
theorem gX2_takesManTold_X9_twoDigits : GoodIn wsX2_takesManTold (wsV RX2 78 RX9 yX9_twoDigits wsX9_twoDigits) := goodIn_app (goodIn_of _ (by decide +kernel)) ggX2_takesManTold_X9_twoDigits
set_option maxRecDepth 20000 in
theorem ggX2_takesManTold_X2_takesIn : GoodIn wsX2_takesManTold wsX2_takesIn := goodIn_r _ [21, 22, 23, 24, 25, 33, 34, 35, 36, 37, 38, 39, 40, 41, 42, 43, 44] (by decide +kernel) (by decide +kernel)
set_option maxRecDepth 20000 in
theorem gX2_takesManTold_X2_takesIn : GoodIn wsX2_takesManTold (wsV RX2 81 RX2 yX2_takesIn wsX2_takesIn) := goodIn_app (goodIn_of _ (by decide +kernel)) ggX2_takesManTold_X2_takesIn
theorem dX2_takesManTold_0 : decode cX2_takesManTold 0 = .ok (.aload_n 1, 1) := by decide +kernel
theorem dX2_takesManTold_1 : decode cX2_takesManTold 1 = .ok (.iload_n 2, 1) := by decide +kernel
theorem dX2_takesManTold_2 : decode cX2_takesManTold 2 = .ok (.iconst 1, 1) := by decide +kernel
theorem dX2_takesManTold_3 : decode cX2_takesManTold 3 = .ok (.iadd, 1) := by decide +kernel
theorem dX2_takesManTold_4 : decode cX2_takesManTold 4 = .ok (.invokevirtual 74, 3) := by decide +kernel
theorem dX2_takesManTold_7 : decode cX2_takesManTold 7 = .ok (.istore_n 3, 1) := by decide +kernel
theorem dX2_takesManTold_8 : decode cX2_takesManTold 8 = .ok (.aload_n 1, 1) := by decide +kernel
theorem dX2_takesManTold_9 : decode cX2_takesManTold 9 = .ok (.iload_n 2, 1) := by decide +kernel
theorem dX2_takesManTold_10 : decode cX2_takesManTold 10 = .ok (.iconst 3, 1) := by decide +kernel
theorem dX2_takesManTold_11 : decode cX2_takesManTold 11 = .ok (.iadd, 1) := by decide +kernel
theorem dX2_takesManTold_12 : decode cX2_takesManTold 12 = .ok (.invokevirtual 78, 3) := by decide +kernel
theorem dX2_takesManTold_15 : decode cX2_takesManTold 15 = .ok (.bipush 45, 2) := by decide +kernel
theorem dX2_takesManTold_17 : decode cX2_takesManTold 17 = .ok (.isub, 1) := by decide +kernel
theorem dX2_takesManTold_18 : decode cX2_takesManTold 18 = .ok (.istore 4, 2) := by decide +kernel
theorem dX2_takesManTold_20 : decode cX2_takesManTold 20 = .ok (.iload_n 3, 1) := by decide +kernel
theorem dX2_takesManTold_21 : decode cX2_takesManTold 21 = .ok (.bipush 8, 2) := by decide +kernel
theorem dX2_takesManTold_23 : decode cX2_takesManTold 23 = .ok (.if_icmp .ge 31, 3) := by decide +kernel
theorem dX2_takesManTold_26 : decode cX2_takesManTold 26 = .ok (.iload 4, 2) := by decide +kernel
theorem dX2_takesManTold_28 : decode cX2_takesManTold 28 = .ok (.bipush 45, 2) := by decide +kernel
theorem dX2_takesManTold_30 : decode cX2_takesManTold 30 = .ok (.if_icmp .gt 24, 3) := by decide +kernel
theorem dX2_takesManTold_33 : decode cX2_takesManTold 33 = .ok (.aload_n 0, 1) := by decide +kernel
theorem dX2_takesManTold_34 : decode cX2_takesManTold 34 = .ok (.iload_n 3, 1) := by decide +kernel
theorem dX2_takesManTold_35 : decode cX2_takesManTold 35 = .ok (.aload_n 1, 1) := by decide +kernel
theorem dX2_takesManTold_36 : decode cX2_takesManTold 36 = .ok (.iload_n 2, 1) := by decide +kernel
theorem dX2_takesManTold_37 : decode cX2_takesManTold 37 = .ok (.iconst 2, 1) := by decide +kernel
theorem dX2_takesManTold_38 : decode cX2_takesManTold 38 = .ok (.iadd, 1) := by decide +kernel
theorem dX2_takesManTold_39 : decode cX2_takesManTold 39 = .ok (.invokevirtual 74, 3) := by decide +kernel
theorem dX2_takesManTold_42 : decode cX2_takesManTold 42 = .ok (.iload 4, 2) := by decide +kernel
theorem dX2_takesManTold_44 : decode cX2_takesManTold 44 = .ok (.invokevirtual 81, 3) := by decide +kernel
theorem dX2_takesManTold_47 : decode cX2_takesManTold 47 = .ok (.ifCond .eq 7, 3) := by decide +kernel
theorem dX2_takesManTold_50 : decode cX2_takesManTold 50 = .ok (.iconst 1, 1) := by decide +kernel
theorem dX2_takesManTold_51 : decode cX2_takesManTold 51 = .ok (.goto 4, 3) := by decide +kernel
theorem dX2_takesManTold_54 : decode cX2_takesManTold 54 = .ok (.iconst 0, 1) := by decide +kernel
theorem dX2_takesManTold_55 : decode cX2_takesManTold 55 = .ok (.ireturn, 1) := by decide +kernel
set_option maxRecDepth 20000 in
theorem ggX2_takesLeanTold_X9_digit : GoodIn wsX2_takesLeanTold wsX9_digit := goodIn_r _ [6, 7, 8, 9, 10, 5, 11, 12, 36, 37, 38, 39, 40, 41, 42] (by decide +kernel) (by decide +kernel)
set_option maxRecDepth 20000 in
theorem gX2_takesLeanTold_X9_digit : GoodIn wsX2_takesLeanTold (wsV RX2 74 RX9 yX9_digit wsX9_digit) := goodIn_app (goodIn_of _ (by decide +kernel)) ggX2_takesLeanTold_X9_digit
set_option maxRecDepth 20000 in
theorem ggX2_takesLeanTold_X9_twoDigits : GoodIn wsX2_takesLeanTold wsX9_twoDigits := goodIn_r _ [16, 17, 3, 4, 5, 6, 7, 8, 9, 10, 11, 12, 36, 37, 38, 39, 40, 41, 42] (by decide +kernel) (by decide +kernel)
set_option maxRecDepth 20000 in
theorem gX2_takesLeanTold_X9_twoDigits : GoodIn wsX2_takesLeanTold (wsV RX2 78 RX9 yX9_twoDigits wsX9_twoDigits) := goodIn_app (goodIn_of _ (by decide +kernel)) ggX2_takesLeanTold_X9_twoDigits
set_option maxRecDepth 20000 in
theorem ggX2_takesLeanTold_X2_has : GoodIn wsX2_takesLeanTold wsX2_has := goodIn_r _ [22, 23, 24, 25, 26, 27, 28, 29, 30, 31, 32, 33, 34, 35] (by decide +kernel) (by decide +kernel)
set_option maxRecDepth 20000 in
theorem gX2_takesLeanTold_X2_has : GoodIn wsX2_takesLeanTold (wsV RX2 85 RX2 yX2_has wsX2_has) := goodIn_app (goodIn_of _ (by decide +kernel)) ggX2_takesLeanTold_X2_has
theorem dX2_takesLeanTold_0 : decode cX2_takesLeanTold 0 = .ok (.aload_n 1, 1) := by decide +kernel
theorem dX2_takesLeanTold_1 : decode cX2_takesLeanTold 1 = .ok (.iload_n 2, 1) := by decide +kernel
theorem dX2_takesLeanTold_2 : decode cX2_takesLeanTold 2 = .ok (.iconst 1, 1) := by decide +kernel
theorem dX2_takesLeanTold_3 : decode cX2_takesLeanTold 3 = .ok (.iadd, 1) := by decide +kernel
theorem dX2_takesLeanTold_4 : decode cX2_takesLeanTold 4 = .ok (.invokevirtual 74, 3) := by decide +kernel
theorem dX2_takesLeanTold_7 : decode cX2_takesLeanTold 7 = .ok (.istore_n 3, 1) := by decide +kernel
theorem dX2_takesLeanTold_8 : decode cX2_takesLeanTold 8 = .ok (.aload_n 1, 1) := by decide +kernel
theorem dX2_takesLeanTold_9 : decode cX2_takesLeanTold 9 = .ok (.iload_n 2, 1) := by decide +kernel
theorem dX2_takesLeanTold_10 : decode cX2_takesLeanTold 10 = .ok (.iconst 2, 1) := by decide +kernel
theorem dX2_takesLeanTold_11 : decode cX2_takesLeanTold 11 = .ok (.iadd, 1) := by decide +kernel
theorem dX2_takesLeanTold_12 : decode cX2_takesLeanTold 12 = .ok (.invokevirtual 78, 3) := by decide +kernel
theorem dX2_takesLeanTold_15 : decode cX2_takesLeanTold 15 = .ok (.bipush 45, 2) := by decide +kernel
theorem dX2_takesLeanTold_17 : decode cX2_takesLeanTold 17 = .ok (.isub, 1) := by decide +kernel
theorem dX2_takesLeanTold_18 : decode cX2_takesLeanTold 18 = .ok (.istore 4, 2) := by decide +kernel
theorem dX2_takesLeanTold_20 : decode cX2_takesLeanTold 20 = .ok (.aload_n 0, 1) := by decide +kernel
theorem dX2_takesLeanTold_21 : decode cX2_takesLeanTold 21 = .ok (.iload_n 3, 1) := by decide +kernel
theorem dX2_takesLeanTold_22 : decode cX2_takesLeanTold 22 = .ok (.invokevirtual 85, 3) := by decide +kernel
theorem dX2_takesLeanTold_25 : decode cX2_takesLeanTold 25 = .ok (.ifCond .eq 10, 3) := by decide +kernel
theorem dX2_takesLeanTold_28 : decode cX2_takesLeanTold 28 = .ok (.iload 4, 2) := by decide +kernel
theorem dX2_takesLeanTold_30 : decode cX2_takesLeanTold 30 = .ok (.bipush 45, 2) := by decide +kernel
theorem dX2_takesLeanTold_32 : decode cX2_takesLeanTold 32 = .ok (.if_icmp .le 5, 3) := by decide +kernel
theorem dX2_takesLeanTold_35 : decode cX2_takesLeanTold 35 = .ok (.iconst 0, 1) := by decide +kernel
theorem dX2_takesLeanTold_36 : decode cX2_takesLeanTold 36 = .ok (.ireturn, 1) := by decide +kernel
theorem dX2_takesLeanTold_37 : decode cX2_takesLeanTold 37 = .ok (.aload_n 0, 1) := by decide +kernel
theorem dX2_takesLeanTold_38 : decode cX2_takesLeanTold 38 = .ok (.getfield 18, 3) := by decide +kernel
theorem dX2_takesLeanTold_41 : decode cX2_takesLeanTold 41 = .ok (.iload_n 3, 1) := by decide +kernel
theorem dX2_takesLeanTold_42 : decode cX2_takesLeanTold 42 = .ok (.iload 4, 2) := by decide +kernel
theorem dX2_takesLeanTold_44 : decode cX2_takesLeanTold 44 = .ok (.iastore, 1) := by decide +kernel
theorem dX2_takesLeanTold_45 : decode cX2_takesLeanTold 45 = .ok (.iconst 1, 1) := by decide +kernel
theorem dX2_takesLeanTold_46 : decode cX2_takesLeanTold 46 = .ok (.ireturn, 1) := by decide +kernel
set_option maxRecDepth 20000 in
theorem ggX2_takesPropTold_X9_digit : GoodIn wsX2_takesPropTold wsX9_digit := goodIn_r _ [5, 6, 7, 8, 9, 4, 10, 11, 23, 24, 25, 26, 27, 28, 29] (by decide +kernel) (by decide +kernel)
set_option maxRecDepth 20000 in
theorem gX2_takesPropTold_X9_digit : GoodIn wsX2_takesPropTold (wsV RX2 74 RX9 yX9_digit wsX9_digit) := goodIn_app (goodIn_of _ (by decide +kernel)) ggX2_takesPropTold_X9_digit
set_option maxRecDepth 20000 in
theorem ggX2_takesPropTold_X2_has : GoodIn wsX2_takesPropTold wsX2_has := goodIn_r _ [16, 17, 30, 31, 32, 33, 34, 35, 36, 37, 38, 39, 40, 41] (by decide +kernel) (by decide +kernel)
set_option maxRecDepth 20000 in
theorem gX2_takesPropTold_X2_has : GoodIn wsX2_takesPropTold (wsV RX2 85 RX2 yX2_has wsX2_has) := goodIn_app (goodIn_of _ (by decide +kernel)) ggX2_takesPropTold_X2_has
set_option maxRecDepth 20000 in
theorem ggX2_takesPropTold_X2_turnProp : GoodIn wsX2_takesPropTold wsX2_turnProp := goodIn_r _ [21, 22, 30, 31, 32, 33, 34, 35, 36, 37, 38, 39, 40, 41] (by decide +kernel) (by decide +kernel)
set_option maxRecDepth 20000 in
theorem gX2_takesPropTold_X2_turnProp : GoodIn wsX2_takesPropTold (wsV RX2 89 RX2 yX2_turnProp wsX2_turnProp) := goodIn_app (goodIn_of _ (by decide +kernel)) ggX2_takesPropTold_X2_turnProp
theorem dX2_takesPropTold_0 : decode cX2_takesPropTold 0 = .ok (.aload_n 1, 1) := by decide +kernel
theorem dX2_takesPropTold_1 : decode cX2_takesPropTold 1 = .ok (.iload_n 2, 1) := by decide +kernel
theorem dX2_takesPropTold_2 : decode cX2_takesPropTold 2 = .ok (.iconst 1, 1) := by decide +kernel
theorem dX2_takesPropTold_3 : decode cX2_takesPropTold 3 = .ok (.iadd, 1) := by decide +kernel
theorem dX2_takesPropTold_4 : decode cX2_takesPropTold 4 = .ok (.invokevirtual 74, 3) := by decide +kernel
theorem dX2_takesPropTold_7 : decode cX2_takesPropTold 7 = .ok (.istore_n 3, 1) := by decide +kernel
theorem dX2_takesPropTold_8 : decode cX2_takesPropTold 8 = .ok (.aload_n 0, 1) := by decide +kernel
theorem dX2_takesPropTold_9 : decode cX2_takesPropTold 9 = .ok (.iload_n 3, 1) := by decide +kernel
theorem dX2_takesPropTold_10 : decode cX2_takesPropTold 10 = .ok (.invokevirtual 85, 3) := by decide +kernel
theorem dX2_takesPropTold_13 : decode cX2_takesPropTold 13 = .ok (.ifCond .ne 5, 3) := by decide +kernel
theorem dX2_takesPropTold_16 : decode cX2_takesPropTold 16 = .ok (.iconst 0, 1) := by decide +kernel
theorem dX2_takesPropTold_17 : decode cX2_takesPropTold 17 = .ok (.ireturn, 1) := by decide +kernel
theorem dX2_takesPropTold_18 : decode cX2_takesPropTold 18 = .ok (.aload_n 0, 1) := by decide +kernel
theorem dX2_takesPropTold_19 : decode cX2_takesPropTold 19 = .ok (.iload_n 3, 1) := by decide +kernel
theorem dX2_takesPropTold_20 : decode cX2_takesPropTold 20 = .ok (.invokevirtual 89, 3) := by decide +kernel
theorem dX2_takesPropTold_23 : decode cX2_takesPropTold 23 = .ok (.iconst 1, 1) := by decide +kernel
theorem dX2_takesPropTold_24 : decode cX2_takesPropTold 24 = .ok (.ireturn, 1) := by decide +kernel
set_option maxRecDepth 20000 in
theorem ggX2_takesLeadTold_X9_digit : GoodIn wsX2_takesLeadTold wsX9_digit := goodIn_r _ [7, 8, 9, 10, 11, 6, 12, 13, 26, 27, 28, 29, 30, 31, 32] (by decide +kernel) (by decide +kernel)
set_option maxRecDepth 20000 in
theorem gX2_takesLeadTold_X9_digit : GoodIn wsX2_takesLeadTold (wsV RX2 74 RX9 yX9_digit wsX9_digit) := goodIn_app (goodIn_of _ (by decide +kernel)) ggX2_takesLeadTold_X9_digit
theorem dX2_takesLeadTold_0 : decode cX2_takesLeadTold 0 = .ok (.aload_n 1, 1) := by decide +kernel
theorem dX2_takesLeadTold_1 : decode cX2_takesLeadTold 1 = .ok (.iload_n 2, 1) := by decide +kernel
theorem dX2_takesLeadTold_2 : decode cX2_takesLeadTold 2 = .ok (.iconst 2, 1) := by decide +kernel
theorem dX2_takesLeadTold_3 : decode cX2_takesLeadTold 3 = .ok (.iadd, 1) := by decide +kernel
theorem dX2_takesLeadTold_4 : decode cX2_takesLeadTold 4 = .ok (.invokevirtual 74, 3) := by decide +kernel
theorem dX2_takesLeadTold_7 : decode cX2_takesLeadTold 7 = .ok (.istore_n 3, 1) := by decide +kernel
theorem dX2_takesLeadTold_8 : decode cX2_takesLeadTold 8 = .ok (.iload_n 3, 1) := by decide +kernel
theorem dX2_takesLeadTold_9 : decode cX2_takesLeadTold 9 = .ok (.bipush 8, 2) := by decide +kernel
theorem dX2_takesLeadTold_11 : decode cX2_takesLeadTold 11 = .ok (.if_icmp .lt 5, 3) := by decide +kernel
theorem dX2_takesLeadTold_14 : decode cX2_takesLeadTold 14 = .ok (.iconst 0, 1) := by decide +kernel
theorem dX2_takesLeadTold_15 : decode cX2_takesLeadTold 15 = .ok (.ireturn, 1) := by decide +kernel
theorem dX2_takesLeadTold_16 : decode cX2_takesLeadTold 16 = .ok (.aload_n 0, 1) := by decide +kernel
theorem dX2_takesLeadTold_17 : decode cX2_takesLeadTold 17 = .ok (.aload_n 1, 1) := by decide +kernel
theorem dX2_takesLeadTold_18 : decode cX2_takesLeadTold 18 = .ok (.iload_n 2, 1) := by decide +kernel
theorem dX2_takesLeadTold_19 : decode cX2_takesLeadTold 19 = .ok (.iconst 1, 1) := by decide +kernel
theorem dX2_takesLeadTold_20 : decode cX2_takesLeadTold 20 = .ok (.iadd, 1) := by decide +kernel
theorem dX2_takesLeadTold_21 : decode cX2_takesLeadTold 21 = .ok (.invokevirtual 74, 3) := by decide +kernel
theorem dX2_takesLeadTold_24 : decode cX2_takesLeadTold 24 = .ok (.putfield 44, 3) := by decide +kernel
theorem dX2_takesLeadTold_27 : decode cX2_takesLeadTold 27 = .ok (.aload_n 0, 1) := by decide +kernel
theorem dX2_takesLeadTold_28 : decode cX2_takesLeadTold 28 = .ok (.iload_n 3, 1) := by decide +kernel
theorem dX2_takesLeadTold_29 : decode cX2_takesLeadTold 29 = .ok (.putfield 41, 3) := by decide +kernel
theorem dX2_takesLeadTold_32 : decode cX2_takesLeadTold 32 = .ok (.iconst 1, 1) := by decide +kernel
theorem dX2_takesLeadTold_33 : decode cX2_takesLeadTold 33 = .ok (.ireturn, 1) := by decide +kernel
set_option maxRecDepth 20000 in
theorem ggX2_takesDaysTold_X9_twoDigits : GoodIn wsX2_takesDaysTold wsX9_twoDigits := goodIn_r _ [6, 7, 8, 9, 5, 10, 11, 12, 13, 14, 15, 16, 167, 168, 169, 170, 171, 172, 173] (by decide +kernel) (by decide +kernel)
set_option maxRecDepth 20000 in
theorem gX2_takesDaysTold_X9_twoDigits : GoodIn wsX2_takesDaysTold (wsV RX2 78 RX9 yX9_twoDigits wsX9_twoDigits) := goodIn_app (goodIn_of _ (by decide +kernel)) ggX2_takesDaysTold_X9_twoDigits
set_option maxRecDepth 20000 in
theorem ggX2_takesDaysTold_X11_isIn : GoodIn wsX2_takesDaysTold wsX11_isIn := goodIn_r _ [19] (by decide +kernel) (by decide +kernel)
set_option maxRecDepth 20000 in
theorem gX2_takesDaysTold_X11_isIn_n93 : GoodIn wsX2_takesDaysTold (wsX11_isIn) := ggX2_takesDaysTold_X11_isIn
set_option maxRecDepth 20000 in
theorem ggX2_takesDaysTold_X2_passDays : GoodIn wsX2_takesDaysTold wsX2_passDays := goodIn_r _ [24, 25, 26, 27, 28, 23, 29, 1, 30, 31, 32, 33, 34, 35, 36, 37, 38, 39, 40, 41, 42, 43, 44, 45, 46, 47, 48, 49, 50, 51, 52, 53, 54, 55, 56, 57, 58, 59, 60, 61, 62, 63, 64, 65, 66, 67, 68, 69, 70, 71, 72, 73, 74, 75, 76, 77, 78, 79, 80, 81, 82, 83, 84, 85, 86, 87, 88, 89, 90, 91, 92, 93, 94, 95, 96, 97, 98, 99, 100, 101, 102, 103, 104, 105, 106, 107, 108, 109, 110, 111, 112, 113, 114, 115, 116, 117, 118, 119, 120, 121, 122, 123, 124, 125, 126, 127, 128, 129, 130, 131, 132, 133, 134, 135, 136, 137, 138, 139, 140, 141, 142, 143, 144, 145, 146, 147, 148, 149, 150, 151, 152, 153, 154, 155, 156, 157, 158, 159, 160, 161, 162, 163, 164, 165, 166] (by decide +kernel) (by decide +kernel)
set_option maxRecDepth 20000 in
theorem gX2_takesDaysTold_X2_passDays : GoodIn wsX2_takesDaysTold (wsV RX2 96 RX2 yX2_passDays wsX2_passDays) := goodIn_app (goodIn_of _ (by decide +kernel)) ggX2_takesDaysTold_X2_passDays
theorem dX2_takesDaysTold_0 : decode cX2_takesDaysTold 0 = .ok (.aload_n 1, 1) := by decide +kernel
theorem dX2_takesDaysTold_1 : decode cX2_takesDaysTold 1 = .ok (.iload_n 2, 1) := by decide +kernel
theorem dX2_takesDaysTold_2 : decode cX2_takesDaysTold 2 = .ok (.iconst 1, 1) := by decide +kernel
theorem dX2_takesDaysTold_3 : decode cX2_takesDaysTold 3 = .ok (.iadd, 1) := by decide +kernel
theorem dX2_takesDaysTold_4 : decode cX2_takesDaysTold 4 = .ok (.invokevirtual 78, 3) := by decide +kernel
theorem dX2_takesDaysTold_7 : decode cX2_takesDaysTold 7 = .ok (.istore_n 3, 1) := by decide +kernel
theorem dX2_takesDaysTold_8 : decode cX2_takesDaysTold 8 = .ok (.iload_n 3, 1) := by decide +kernel
theorem dX2_takesDaysTold_9 : decode cX2_takesDaysTold 9 = .ok (.iconst 1, 1) := by decide +kernel
theorem dX2_takesDaysTold_10 : decode cX2_takesDaysTold 10 = .ok (.bipush 60, 2) := by decide +kernel
theorem dX2_takesDaysTold_12 : decode cX2_takesDaysTold 12 = .ok (.invokestatic 93, 3) := by decide +kernel
theorem dX2_takesDaysTold_15 : decode cX2_takesDaysTold 15 = .ok (.ifCond .eq 15, 3) := by decide +kernel
theorem dX2_takesDaysTold_18 : decode cX2_takesDaysTold 18 = .ok (.aload_n 0, 1) := by decide +kernel
theorem dX2_takesDaysTold_19 : decode cX2_takesDaysTold 19 = .ok (.getfield 50, 3) := by decide +kernel
theorem dX2_takesDaysTold_22 : decode cX2_takesDaysTold 22 = .ok (.iload_n 3, 1) := by decide +kernel
theorem dX2_takesDaysTold_23 : decode cX2_takesDaysTold 23 = .ok (.iadd, 1) := by decide +kernel
theorem dX2_takesDaysTold_24 : decode cX2_takesDaysTold 24 = .ok (.sipush 999, 3) := by decide +kernel
theorem dX2_takesDaysTold_27 : decode cX2_takesDaysTold 27 = .ok (.if_icmp .le 5, 3) := by decide +kernel
theorem dX2_takesDaysTold_30 : decode cX2_takesDaysTold 30 = .ok (.iconst 0, 1) := by decide +kernel
theorem dX2_takesDaysTold_31 : decode cX2_takesDaysTold 31 = .ok (.ireturn, 1) := by decide +kernel
theorem dX2_takesDaysTold_32 : decode cX2_takesDaysTold 32 = .ok (.aload_n 0, 1) := by decide +kernel
theorem dX2_takesDaysTold_33 : decode cX2_takesDaysTold 33 = .ok (.iload_n 3, 1) := by decide +kernel
theorem dX2_takesDaysTold_34 : decode cX2_takesDaysTold 34 = .ok (.invokevirtual 96, 3) := by decide +kernel
theorem dX2_takesDaysTold_37 : decode cX2_takesDaysTold 37 = .ok (.pop, 1) := by decide +kernel
theorem dX2_takesDaysTold_38 : decode cX2_takesDaysTold 38 = .ok (.iconst 1, 1) := by decide +kernel
theorem dX2_takesDaysTold_39 : decode cX2_takesDaysTold 39 = .ok (.ireturn, 1) := by decide +kernel
set_option maxRecDepth 20000 in
theorem ggX2_passDays_X2_passDay : GoodIn wsX2_passDays wsX2_passDay := goodIn_r _ [6, 7, 8, 9, 10, 11, 12, 13, 14, 15, 16, 17, 18, 19, 1, 20, 21, 22, 23, 24, 5, 25, 26, 27, 28, 29, 30, 31, 32, 33, 34, 35, 36, 37, 38, 39, 40, 41, 42, 43, 44, 45, 46, 47, 48, 49, 50, 51, 52, 53, 54, 55, 56, 57, 58, 59, 60, 61, 62, 63, 64, 65, 66, 67, 68, 69, 70, 71, 72, 73, 74, 75, 76, 77, 78, 79, 80, 81, 82, 83, 84, 85, 86, 87, 88, 89, 90, 91, 92, 93, 94, 95, 96, 97, 98, 99, 100, 101, 102, 103, 104, 105, 106, 107, 108, 109, 110, 111, 112, 113, 114, 115, 116, 117, 118, 119, 120, 121, 122, 123, 124, 125, 126, 127, 128, 129, 130, 131, 132, 133, 134, 135, 136, 137, 138, 139, 140, 141, 142, 143, 144] (by decide +kernel) (by decide +kernel)
set_option maxRecDepth 20000 in
theorem gX2_passDays_X2_passDay : GoodIn wsX2_passDays (wsV RX2 99 RX2 yX2_passDay wsX2_passDay) := goodIn_app (goodIn_of _ (by decide +kernel)) ggX2_passDays_X2_passDay
theorem dX2_passDays_0 : decode cX2_passDays 0 = .ok (.iconst 0, 1) := by decide +kernel
theorem dX2_passDays_1 : decode cX2_passDays 1 = .ok (.istore_n 2, 1) := by decide +kernel
theorem dX2_passDays_2 : decode cX2_passDays 2 = .ok (.iconst 0, 1) := by decide +kernel
theorem dX2_passDays_3 : decode cX2_passDays 3 = .ok (.istore_n 3, 1) := by decide +kernel
theorem dX2_passDays_4 : decode cX2_passDays 4 = .ok (.iload_n 3, 1) := by decide +kernel
theorem dX2_passDays_5 : decode cX2_passDays 5 = .ok (.iload_n 1, 1) := by decide +kernel
theorem dX2_passDays_6 : decode cX2_passDays 6 = .ok (.if_icmp .ge 23, 3) := by decide +kernel
theorem dX2_passDays_9 : decode cX2_passDays 9 = .ok (.aload_n 0, 1) := by decide +kernel
theorem dX2_passDays_10 : decode cX2_passDays 10 = .ok (.invokevirtual 99, 3) := by decide +kernel
theorem dX2_passDays_13 : decode cX2_passDays 13 = .ok (.aload_n 0, 1) := by decide +kernel
theorem dX2_passDays_14 : decode cX2_passDays 14 = .ok (.getfield 102, 3) := by decide +kernel
theorem dX2_passDays_17 : decode cX2_passDays 17 = .ok (.ifCond .eq 6, 3) := by decide +kernel
theorem dX2_passDays_20 : decode cX2_passDays 20 = .ok (.iinc 2 1, 3) := by decide +kernel
theorem dX2_passDays_23 : decode cX2_passDays 23 = .ok (.iinc 3 1, 3) := by decide +kernel
theorem dX2_passDays_26 : decode cX2_passDays 26 = .ok (.goto (-22), 3) := by decide +kernel
theorem dX2_passDays_29 : decode cX2_passDays 29 = .ok (.iload_n 2, 1) := by decide +kernel
theorem dX2_passDays_30 : decode cX2_passDays 30 = .ok (.ireturn, 1) := by decide +kernel
set_option maxRecDepth 20000 in
theorem ggX2_passDay_X2_sumOfLeans : GoodIn wsX2_passDay wsX2_sumOfLeans := goodIn_r _ [21, 2, 5, 129, 130, 131, 132, 133, 134, 135, 136, 137, 138, 139, 140] (by decide +kernel) (by decide +kernel)
set_option maxRecDepth 20000 in
theorem gX2_passDay_X2_sumOfLeans : GoodIn wsX2_passDay (wsV RX2 106 RX2 yX2_sumOfLeans wsX2_sumOfLeans) := goodIn_app (goodIn_of _ (by decide +kernel)) ggX2_passDay_X2_sumOfLeans
set_option maxRecDepth 20000 in
theorem ggX2_passDay_X2_isPropped : GoodIn wsX2_passDay wsX2_isPropped := goodIn_r _ [25, 26, 129, 130, 131, 132, 133, 134, 135, 136, 137, 138, 139, 140] (by decide +kernel) (by decide +kernel)
set_option maxRecDepth 20000 in
theorem gX2_passDay_X2_isPropped : GoodIn wsX2_passDay (wsV RX2 110 RX2 yX2_isPropped wsX2_isPropped) := goodIn_app (goodIn_of _ (by decide +kernel)) ggX2_passDay_X2_isPropped
set_option maxRecDepth 20000 in
theorem ggX2_passDay_X0_leansMore : GoodIn wsX2_passDay wsX0_leansMore := goodIn_r _ [33] (by decide +kernel) (by decide +kernel)
set_option maxRecDepth 20000 in
theorem gX2_passDay_X0_leansMore_u113X0 : GoodIn wsX2_passDay (va_wsO RX2 113 RX0 "PlumbLine$Man" ⟨"PlumbLine$Man", "leansMore", "(IIII)I"⟩ yX0_leansMore wsX0_leansMore) := goodIn_app (goodIn_of _ (by decide +kernel)) ggX2_passDay_X0_leansMore
set_option maxRecDepth 20000 in
theorem ggX2_passDay_X1_leansMore : GoodIn wsX2_passDay wsX1_leansMore := goodIn_r _ [38] (by decide +kernel) (by decide +kernel)
set_option maxRecDepth 20000 in
theorem gX2_passDay_X1_leansMore_u113X1 : GoodIn wsX2_passDay (va_wsO RX2 113 RX1 "PlumbLine$Man" ⟨"PlumbLine$Man", "leansMore", "(IIII)I"⟩ yX1_leansMore wsX1_leansMore) := goodIn_app (goodIn_of _ (by decide +kernel)) ggX2_passDay_X1_leansMore
set_option maxRecDepth 20000 in
theorem ggX2_passDay_X3_leansMore : GoodIn wsX2_passDay wsX3_leansMore := goodIn_r _ [42] (by decide +kernel) (by decide +kernel)
set_option maxRecDepth 20000 in
theorem gX2_passDay_X3_leansMore_u113X3 : GoodIn wsX2_passDay (va_wsO RX2 113 RX3 "PlumbLine$Man" ⟨"PlumbLine$Man", "leansMore", "(IIII)I"⟩ yX3_leansMore wsX3_leansMore) := goodIn_app (goodIn_of _ (by decide +kernel)) ggX2_passDay_X3_leansMore
set_option maxRecDepth 20000 in
theorem ggX2_passDay_X4_leansMore : GoodIn wsX2_passDay wsX4_leansMore := goodIn_r _ [34, 47, 48, 46, 49] (by decide +kernel) (by decide +kernel)
set_option maxRecDepth 20000 in
theorem gX2_passDay_X4_leansMore : GoodIn wsX2_passDay (wsV RX2 113 RX4 yX4_leansMore wsX4_leansMore) := goodIn_app (goodIn_of _ (by decide +kernel)) ggX2_passDay_X4_leansMore
set_option maxRecDepth 20000 in
theorem ggX2_passDay_X6_leansMore : GoodIn wsX2_passDay wsX6_leansMore := goodIn_r _ [53, 54, 55, 56, 40, 41, 42] (by decide +kernel) (by decide +kernel)
set_option maxRecDepth 20000 in
theorem gX2_passDay_X6_leansMore_u113X6 : GoodIn wsX2_passDay (va_wsO RX2 113 RX6 "PlumbLine$Man" ⟨"PlumbLine$Man", "leansMore", "(IIII)I"⟩ yX6_leansMore wsX6_leansMore) := goodIn_app (goodIn_of _ (by decide +kernel)) ggX2_passDay_X6_leansMore
set_option maxRecDepth 20000 in
theorem ggX2_passDay_X7_leansMore : GoodIn wsX2_passDay wsX7_leansMore := goodIn_r _ [60] (by decide +kernel) (by decide +kernel)
set_option maxRecDepth 20000 in
theorem gX2_passDay_X7_leansMore_u113X7 : GoodIn wsX2_passDay (va_wsO RX2 113 RX7 "PlumbLine$Man" ⟨"PlumbLine$Man", "leansMore", "(IIII)I"⟩ yX7_leansMore wsX7_leansMore) := goodIn_app (goodIn_of _ (by decide +kernel)) ggX2_passDay_X7_leansMore
set_option maxRecDepth 20000 in
theorem ggX2_passDay_X8_leansMore : GoodIn wsX2_passDay wsX8_leansMore := goodIn_r _ [64] (by decide +kernel) (by decide +kernel)
set_option maxRecDepth 20000 in
theorem gX2_passDay_X8_leansMore_u113X8 : GoodIn wsX2_passDay (va_wsO RX2 113 RX8 "PlumbLine$Man" ⟨"PlumbLine$Man", "leansMore", "(IIII)I"⟩ yX8_leansMore wsX8_leansMore) := goodIn_app (goodIn_of _ (by decide +kernel)) ggX2_passDay_X8_leansMore
set_option maxRecDepth 20000 in
theorem ggX2_passDay_X10_leansMore : GoodIn wsX2_passDay wsX10_leansMore := goodIn_r _ [68, 69, 70, 71, 36, 37, 38] (by decide +kernel) (by decide +kernel)
set_option maxRecDepth 20000 in
theorem gX2_passDay_X10_leansMore_u113X10 : GoodIn wsX2_passDay (va_wsO RX2 113 RX10 "PlumbLine$Man" ⟨"PlumbLine$Man", "leansMore", "(IIII)I"⟩ yX10_leansMore wsX10_leansMore) := goodIn_app (goodIn_of _ (by decide +kernel)) ggX2_passDay_X10_leansMore
set_option maxRecDepth 20000 in
theorem ggX2_passDay_X2_upright : GoodIn wsX2_passDay wsX2_upright := goodIn_r _ [75, 2, 5, 76, 77, 9, 78, 3, 4, 6, 79, 80, 81, 82, 83, 32, 84, 85, 86, 87, 37, 88, 89, 90, 91, 92, 93, 41, 94, 95, 96, 97, 46, 98, 99, 100, 101, 102, 59, 103, 104, 105, 63, 106, 107, 129, 130, 131, 132, 133, 134, 135, 136, 137, 138, 139, 140] (by decide +kernel) (by decide +kernel)
set_option maxRecDepth 20000 in
theorem gX2_passDay_X2_upright : GoodIn wsX2_passDay (wsV RX2 128 RX2 yX2_upright wsX2_upright) := goodIn_app (goodIn_of _ (by decide +kernel)) ggX2_passDay_X2_upright
set_option maxRecDepth 20000 in
theorem ggX2_passDay_J6_bitCount_0f7a4 : GoodIn wsX2_passDay wsJ6_bitCount_0f7a4 := goodIn_r _ [111, 112, 113, 114] (by decide +kernel) (by decide +kernel)
set_option maxRecDepth 20000 in
theorem gX2_passDay_J6_bitCount_0f7a4 : GoodIn wsX2_passDay (va_wsS RX2 131 yJ6_bitCount_0f7a4 wsJ6_bitCount_0f7a4) := goodIn_app (goodIn_of _ (by decide +kernel)) ggX2_passDay_J6_bitCount_0f7a4
set_option maxRecDepth 20000 in
theorem ggX2_passDay_X2_turnSigns : GoodIn wsX2_passDay wsX2_turnSigns := goodIn_r _ [118, 2, 5, 22, 23, 24, 20, 25, 26, 129, 130, 131, 132, 133, 134, 135, 136, 137, 138, 139, 140] (by decide +kernel) (by decide +kernel)
set_option maxRecDepth 20000 in
theorem gX2_passDay_X2_turnSigns : GoodIn wsX2_passDay (wsV RX2 136 RX2 yX2_turnSigns wsX2_turnSigns) := goodIn_app (goodIn_of _ (by decide +kernel)) ggX2_passDay_X2_turnSigns
set_option maxRecDepth 20000 in
theorem ggX2_passDay_X2_moveLead : GoodIn wsX2_passDay wsX2_moveLead := goodIn_r _ [122, 2, 16, 123, 124, 125, 126, 20, 127, 5, 76, 77, 9, 78, 128, 48, 46, 49, 129, 130, 131, 132, 133, 134, 135, 136, 137, 138, 139, 140] (by decide +kernel) (by decide +kernel)
set_option maxRecDepth 20000 in
theorem gX2_passDay_X2_moveLead : GoodIn wsX2_passDay (wsV RX2 139 RX2 yX2_moveLead wsX2_moveLead) := goodIn_app (goodIn_of _ (by decide +kernel)) ggX2_passDay_X2_moveLead
theorem dX2_passDay_0 : decode cX2_passDay 0 = .ok (.aload_n 0, 1) := by decide +kernel
theorem dX2_passDay_1 : decode cX2_passDay 1 = .ok (.dup, 1) := by decide +kernel
theorem dX2_passDay_2 : decode cX2_passDay 2 = .ok (.getfield 50, 3) := by decide +kernel
theorem dX2_passDay_5 : decode cX2_passDay 5 = .ok (.iconst 1, 1) := by decide +kernel
theorem dX2_passDay_6 : decode cX2_passDay 6 = .ok (.iadd, 1) := by decide +kernel
theorem dX2_passDay_7 : decode cX2_passDay 7 = .ok (.putfield 50, 3) := by decide +kernel
theorem dX2_passDay_10 : decode cX2_passDay 10 = .ok (.aload_n 0, 1) := by decide +kernel
theorem dX2_passDay_11 : decode cX2_passDay 11 = .ok (.getfield 34, 3) := by decide +kernel
theorem dX2_passDay_14 : decode cX2_passDay 14 = .ok (.ifCond .ne 7, 3) := by decide +kernel
theorem dX2_passDay_17 : decode cX2_passDay 17 = .ok (.iconst 0, 1) := by decide +kernel
theorem dX2_passDay_18 : decode cX2_passDay 18 = .ok (.goto 12, 3) := by decide +kernel
theorem dX2_passDay_21 : decode cX2_passDay 21 = .ok (.aload_n 0, 1) := by decide +kernel
theorem dX2_passDay_22 : decode cX2_passDay 22 = .ok (.invokevirtual 106, 3) := by decide +kernel
theorem dX2_passDay_25 : decode cX2_passDay 25 = .ok (.aload_n 0, 1) := by decide +kernel
theorem dX2_passDay_26 : decode cX2_passDay 26 = .ok (.getfield 34, 3) := by decide +kernel
theorem dX2_passDay_29 : decode cX2_passDay 29 = .ok (.idiv, 1) := by decide +kernel
theorem dX2_passDay_30 : decode cX2_passDay 30 = .ok (.istore_n 1, 1) := by decide +kernel
theorem dX2_passDay_31 : decode cX2_passDay 31 = .ok (.iconst 0, 1) := by decide +kernel
theorem dX2_passDay_32 : decode cX2_passDay 32 = .ok (.istore_n 2, 1) := by decide +kernel
theorem dX2_passDay_33 : decode cX2_passDay 33 = .ok (.iload_n 2, 1) := by decide +kernel
theorem dX2_passDay_34 : decode cX2_passDay 34 = .ok (.aload_n 0, 1) := by decide +kernel
theorem dX2_passDay_35 : decode cX2_passDay 35 = .ok (.getfield 34, 3) := by decide +kernel
theorem dX2_passDay_38 : decode cX2_passDay 38 = .ok (.if_icmp .ge 73, 3) := by decide +kernel
theorem dX2_passDay_41 : decode cX2_passDay 41 = .ok (.aload_n 0, 1) := by decide +kernel
theorem dX2_passDay_42 : decode cX2_passDay 42 = .ok (.iload_n 2, 1) := by decide +kernel
theorem dX2_passDay_43 : decode cX2_passDay 43 = .ok (.invokevirtual 110, 3) := by decide +kernel
theorem dX2_passDay_46 : decode cX2_passDay 46 = .ok (.ifCond .ne 59, 3) := by decide +kernel
theorem dX2_passDay_49 : decode cX2_passDay 49 = .ok (.aload_n 0, 1) := by decide +kernel
theorem dX2_passDay_50 : decode cX2_passDay 50 = .ok (.getfield 24, 3) := by decide +kernel
theorem dX2_passDay_53 : decode cX2_passDay 53 = .ok (.aload_n 0, 1) := by decide +kernel
theorem dX2_passDay_54 : decode cX2_passDay 54 = .ok (.getfield 9, 3) := by decide +kernel
theorem dX2_passDay_57 : decode cX2_passDay 57 = .ok (.iload_n 2, 1) := by decide +kernel
theorem dX2_passDay_58 : decode cX2_passDay 58 = .ok (.iaload, 1) := by decide +kernel
theorem dX2_passDay_59 : decode cX2_passDay 59 = .ok (.aaload, 1) := by decide +kernel
theorem dX2_passDay_60 : decode cX2_passDay 60 = .ok (.aload_n 0, 1) := by decide +kernel
theorem dX2_passDay_61 : decode cX2_passDay 61 = .ok (.getfield 18, 3) := by decide +kernel
theorem dX2_passDay_64 : decode cX2_passDay 64 = .ok (.iload_n 2, 1) := by decide +kernel
theorem dX2_passDay_65 : decode cX2_passDay 65 = .ok (.iaload, 1) := by decide +kernel
theorem dX2_passDay_66 : decode cX2_passDay 66 = .ok (.aload_n 0, 1) := by decide +kernel
theorem dX2_passDay_67 : decode cX2_passDay 67 = .ok (.getfield 15, 3) := by decide +kernel
theorem dX2_passDay_70 : decode cX2_passDay 70 = .ok (.iload_n 2, 1) := by decide +kernel
theorem dX2_passDay_71 : decode cX2_passDay 71 = .ok (.iaload, 1) := by decide +kernel
theorem dX2_passDay_72 : decode cX2_passDay 72 = .ok (.iload_n 1, 1) := by decide +kernel
theorem dX2_passDay_73 : decode cX2_passDay 73 = .ok (.aload_n 0, 1) := by decide +kernel
theorem dX2_passDay_74 : decode cX2_passDay 74 = .ok (.getfield 50, 3) := by decide +kernel
theorem dX2_passDay_77 : decode cX2_passDay 77 = .ok (.invokevirtual 113, 3) := by decide +kernel
theorem dX2_passDay_80 : decode cX2_passDay 80 = .ok (.istore_n 3, 1) := by decide +kernel
theorem dX2_passDay_81 : decode cX2_passDay 81 = .ok (.aload_n 0, 1) := by decide +kernel
theorem dX2_passDay_82 : decode cX2_passDay 82 = .ok (.getfield 18, 3) := by decide +kernel
theorem dX2_passDay_85 : decode cX2_passDay 85 = .ok (.iload_n 2, 1) := by decide +kernel
theorem dX2_passDay_86 : decode cX2_passDay 86 = .ok (.bipush (-45), 2) := by decide +kernel
theorem dX2_passDay_88 : decode cX2_passDay 88 = .ok (.bipush 45, 2) := by decide +kernel
theorem dX2_passDay_90 : decode cX2_passDay 90 = .ok (.aload_n 0, 1) := by decide +kernel
theorem dX2_passDay_91 : decode cX2_passDay 91 = .ok (.getfield 18, 3) := by decide +kernel
theorem dX2_passDay_94 : decode cX2_passDay 94 = .ok (.iload_n 2, 1) := by decide +kernel
theorem dX2_passDay_95 : decode cX2_passDay 95 = .ok (.iaload, 1) := by decide +kernel
theorem dX2_passDay_96 : decode cX2_passDay 96 = .ok (.iload_n 3, 1) := by decide +kernel
theorem dX2_passDay_97 : decode cX2_passDay 97 = .ok (.iadd, 1) := by decide +kernel
theorem dX2_passDay_98 : decode cX2_passDay 98 = .ok (.invokestatic 119, 3) := by decide +kernel
theorem dX2_passDay_101 : decode cX2_passDay 101 = .ok (.invokestatic 125, 3) := by decide +kernel
theorem dX2_passDay_104 : decode cX2_passDay 104 = .ok (.iastore, 1) := by decide +kernel
theorem dX2_passDay_105 : decode cX2_passDay 105 = .ok (.iinc 2 1, 3) := by decide +kernel
theorem dX2_passDay_108 : decode cX2_passDay 108 = .ok (.goto (-75), 3) := by decide +kernel
theorem dX2_passDay_111 : decode cX2_passDay 111 = .ok (.aload_n 0, 1) := by decide +kernel
theorem dX2_passDay_112 : decode cX2_passDay 112 = .ok (.aload_n 0, 1) := by decide +kernel
theorem dX2_passDay_113 : decode cX2_passDay 113 = .ok (.invokevirtual 128, 3) := by decide +kernel
theorem dX2_passDay_116 : decode cX2_passDay 116 = .ok (.invokestatic 131, 3) := by decide +kernel
theorem dX2_passDay_119 : decode cX2_passDay 119 = .ok (.aload_n 0, 1) := by decide +kernel
theorem dX2_passDay_120 : decode cX2_passDay 120 = .ok (.getfield 34, 3) := by decide +kernel
theorem dX2_passDay_123 : decode cX2_passDay 123 = .ok (.iconst 2, 1) := by decide +kernel
theorem dX2_passDay_124 : decode cX2_passDay 124 = .ok (.idiv, 1) := by decide +kernel
theorem dX2_passDay_125 : decode cX2_passDay 125 = .ok (.if_icmp .ge 7, 3) := by decide +kernel
theorem dX2_passDay_128 : decode cX2_passDay 128 = .ok (.iconst 1, 1) := by decide +kernel
theorem dX2_passDay_129 : decode cX2_passDay 129 = .ok (.goto 4, 3) := by decide +kernel
theorem dX2_passDay_132 : decode cX2_passDay 132 = .ok (.iconst 0, 1) := by decide +kernel
theorem dX2_passDay_133 : decode cX2_passDay 133 = .ok (.putfield 102, 3) := by decide +kernel
theorem dX2_passDay_136 : decode cX2_passDay 136 = .ok (.aload_n 0, 1) := by decide +kernel
theorem dX2_passDay_137 : decode cX2_passDay 137 = .ok (.getfield 102, 3) := by decide +kernel
theorem dX2_passDay_140 : decode cX2_passDay 140 = .ok (.ifCond .eq 32, 3) := by decide +kernel
theorem dX2_passDay_143 : decode cX2_passDay 143 = .ok (.aload_n 0, 1) := by decide +kernel
theorem dX2_passDay_144 : decode cX2_passDay 144 = .ok (.sipush 999, 3) := by decide +kernel
theorem dX2_passDay_147 : decode cX2_passDay 147 = .ok (.aload_n 0, 1) := by decide +kernel
theorem dX2_passDay_148 : decode cX2_passDay 148 = .ok (.getfield 47, 3) := by decide +kernel
theorem dX2_passDay_151 : decode cX2_passDay 151 = .ok (.iconst 1, 1) := by decide +kernel
theorem dX2_passDay_152 : decode cX2_passDay 152 = .ok (.iadd, 1) := by decide +kernel
theorem dX2_passDay_153 : decode cX2_passDay 153 = .ok (.invokestatic 119, 3) := by decide +kernel
theorem dX2_passDay_156 : decode cX2_passDay 156 = .ok (.putfield 47, 3) := by decide +kernel
theorem dX2_passDay_159 : decode cX2_passDay 159 = .ok (.aload_n 0, 1) := by decide +kernel
theorem dX2_passDay_160 : decode cX2_passDay 160 = .ok (.bipush 9, 2) := by decide +kernel
theorem dX2_passDay_162 : decode cX2_passDay 162 = .ok (.putfield 44, 3) := by decide +kernel
theorem dX2_passDay_165 : decode cX2_passDay 165 = .ok (.aload_n 0, 1) := by decide +kernel
theorem dX2_passDay_166 : decode cX2_passDay 166 = .ok (.invokevirtual 136, 3) := by decide +kernel
theorem dX2_passDay_169 : decode cX2_passDay 169 = .ok (.goto 17, 3) := by decide +kernel
theorem dX2_passDay_172 : decode cX2_passDay 172 = .ok (.aload_n 0, 1) := by decide +kernel
theorem dX2_passDay_173 : decode cX2_passDay 173 = .ok (.iconst 0, 1) := by decide +kernel
theorem dX2_passDay_174 : decode cX2_passDay 174 = .ok (.aload_n 0, 1) := by decide +kernel
theorem dX2_passDay_175 : decode cX2_passDay 175 = .ok (.getfield 44, 3) := by decide +kernel
theorem dX2_passDay_178 : decode cX2_passDay 178 = .ok (.iconst 1, 1) := by decide +kernel
theorem dX2_passDay_179 : decode cX2_passDay 179 = .ok (.isub, 1) := by decide +kernel
theorem dX2_passDay_180 : decode cX2_passDay 180 = .ok (.invokestatic 125, 3) := by decide +kernel
theorem dX2_passDay_183 : decode cX2_passDay 183 = .ok (.putfield 44, 3) := by decide +kernel
theorem dX2_passDay_186 : decode cX2_passDay 186 = .ok (.aload_n 0, 1) := by decide +kernel
theorem dX2_passDay_187 : decode cX2_passDay 187 = .ok (.invokevirtual 139, 3) := by decide +kernel
theorem dX2_passDay_190 : decode cX2_passDay 190 = .ok (.return_, 1) := by decide +kernel
set_option maxRecDepth 20000 in
theorem ggX2_turnSigns_X2_isPropped : GoodIn wsX2_turnSigns wsX2_isPropped := goodIn_r _ [7, 8, 9, 10, 11, 12, 13, 14, 15, 16, 17, 18, 19, 20] (by decide +kernel) (by decide +kernel)
set_option maxRecDepth 20000 in
theorem gX2_turnSigns_X2_isPropped : GoodIn wsX2_turnSigns (wsV RX2 110 RX2 yX2_isPropped wsX2_isPropped) := goodIn_app (goodIn_of _ (by decide +kernel)) ggX2_turnSigns_X2_isPropped
theorem dX2_turnSigns_0 : decode cX2_turnSigns 0 = .ok (.iconst 0, 1) := by decide +kernel
theorem dX2_turnSigns_1 : decode cX2_turnSigns 1 = .ok (.istore_n 1, 1) := by decide +kernel
theorem dX2_turnSigns_2 : decode cX2_turnSigns 2 = .ok (.iload_n 1, 1) := by decide +kernel
theorem dX2_turnSigns_3 : decode cX2_turnSigns 3 = .ok (.aload_n 0, 1) := by decide +kernel
theorem dX2_turnSigns_4 : decode cX2_turnSigns 4 = .ok (.getfield 34, 3) := by decide +kernel
theorem dX2_turnSigns_7 : decode cX2_turnSigns 7 = .ok (.if_icmp .ge 30, 3) := by decide +kernel
theorem dX2_turnSigns_10 : decode cX2_turnSigns 10 = .ok (.aload_n 0, 1) := by decide +kernel
theorem dX2_turnSigns_11 : decode cX2_turnSigns 11 = .ok (.iload_n 1, 1) := by decide +kernel
theorem dX2_turnSigns_12 : decode cX2_turnSigns 12 = .ok (.invokevirtual 110, 3) := by decide +kernel
theorem dX2_turnSigns_15 : decode cX2_turnSigns 15 = .ok (.ifCond .ne 16, 3) := by decide +kernel
theorem dX2_turnSigns_18 : decode cX2_turnSigns 18 = .ok (.aload_n 0, 1) := by decide +kernel
theorem dX2_turnSigns_19 : decode cX2_turnSigns 19 = .ok (.getfield 18, 3) := by decide +kernel
theorem dX2_turnSigns_22 : decode cX2_turnSigns 22 = .ok (.iload_n 1, 1) := by decide +kernel
theorem dX2_turnSigns_23 : decode cX2_turnSigns 23 = .ok (.aload_n 0, 1) := by decide +kernel
theorem dX2_turnSigns_24 : decode cX2_turnSigns 24 = .ok (.getfield 18, 3) := by decide +kernel
theorem dX2_turnSigns_27 : decode cX2_turnSigns 27 = .ok (.iload_n 1, 1) := by decide +kernel
theorem dX2_turnSigns_28 : decode cX2_turnSigns 28 = .ok (.iaload, 1) := by decide +kernel
theorem dX2_turnSigns_29 : decode cX2_turnSigns 29 = .ok (.ineg, 1) := by decide +kernel
theorem dX2_turnSigns_30 : decode cX2_turnSigns 30 = .ok (.iastore, 1) := by decide +kernel
theorem dX2_turnSigns_31 : decode cX2_turnSigns 31 = .ok (.iinc 1 1, 3) := by decide +kernel
theorem dX2_turnSigns_34 : decode cX2_turnSigns 34 = .ok (.goto (-32), 3) := by decide +kernel
theorem dX2_turnSigns_37 : decode cX2_turnSigns 37 = .ok (.return_, 1) := by decide +kernel
set_option maxRecDepth 20000 in
theorem ggX2_moveLead_X2_plumb : GoodIn wsX2_moveLead wsX2_plumb := goodIn_r _ [8, 1, 9, 10, 11, 12, 13, 18, 19, 20, 21, 22, 23, 24, 25, 26, 27, 28, 29] (by decide +kernel) (by decide +kernel)
set_option maxRecDepth 20000 in
theorem gX2_moveLead_X2_plumb : GoodIn wsX2_moveLead (wsV RX2 142 RX2 yX2_plumb wsX2_plumb) := goodIn_app (goodIn_of _ (by decide +kernel)) ggX2_moveLead_X2_plumb
set_option maxRecDepth 20000 in
theorem ggX2_moveLead_X4_stepTowards : GoodIn wsX2_moveLead wsX4_stepTowards := goodIn_r _ [17] (by decide +kernel) (by decide +kernel)
set_option maxRecDepth 20000 in
theorem gX2_moveLead_X4_stepTowards : GoodIn wsX2_moveLead (va_wsS RX2 145 yX4_stepTowards wsX4_stepTowards) := goodIn_app (goodIn_of _ (by decide +kernel)) ggX2_moveLead_X4_stepTowards
theorem dX2_moveLead_0 : decode cX2_moveLead 0 = .ok (.aload_n 0, 1) := by decide +kernel
theorem dX2_moveLead_1 : decode cX2_moveLead 1 = .ok (.getfield 34, 3) := by decide +kernel
theorem dX2_moveLead_4 : decode cX2_moveLead 4 = .ok (.ifCond .ne 4, 3) := by decide +kernel
theorem dX2_moveLead_7 : decode cX2_moveLead 7 = .ok (.return_, 1) := by decide +kernel
theorem dX2_moveLead_8 : decode cX2_moveLead 8 = .ok (.aload_n 0, 1) := by decide +kernel
theorem dX2_moveLead_9 : decode cX2_moveLead 9 = .ok (.getfield 44, 3) := by decide +kernel
theorem dX2_moveLead_12 : decode cX2_moveLead 12 = .ok (.ifCond .le 33, 3) := by decide +kernel
theorem dX2_moveLead_15 : decode cX2_moveLead 15 = .ok (.aload_n 0, 1) := by decide +kernel
theorem dX2_moveLead_16 : decode cX2_moveLead 16 = .ok (.aload_n 0, 1) := by decide +kernel
theorem dX2_moveLead_17 : decode cX2_moveLead 17 = .ok (.getfield 41, 3) := by decide +kernel
theorem dX2_moveLead_20 : decode cX2_moveLead 20 = .ok (.iconst 1, 1) := by decide +kernel
theorem dX2_moveLead_21 : decode cX2_moveLead 21 = .ok (.iadd, 1) := by decide +kernel
theorem dX2_moveLead_22 : decode cX2_moveLead 22 = .ok (.aload_n 0, 1) := by decide +kernel
theorem dX2_moveLead_23 : decode cX2_moveLead 23 = .ok (.getfield 34, 3) := by decide +kernel
theorem dX2_moveLead_26 : decode cX2_moveLead 26 = .ok (.if_icmp .ge 12, 3) := by decide +kernel
theorem dX2_moveLead_29 : decode cX2_moveLead 29 = .ok (.aload_n 0, 1) := by decide +kernel
theorem dX2_moveLead_30 : decode cX2_moveLead 30 = .ok (.getfield 41, 3) := by decide +kernel
theorem dX2_moveLead_33 : decode cX2_moveLead 33 = .ok (.iconst 1, 1) := by decide +kernel
theorem dX2_moveLead_34 : decode cX2_moveLead 34 = .ok (.iadd, 1) := by decide +kernel
theorem dX2_moveLead_35 : decode cX2_moveLead 35 = .ok (.goto 4, 3) := by decide +kernel
theorem dX2_moveLead_38 : decode cX2_moveLead 38 = .ok (.iconst 0, 1) := by decide +kernel
theorem dX2_moveLead_39 : decode cX2_moveLead 39 = .ok (.putfield 41, 3) := by decide +kernel
theorem dX2_moveLead_42 : decode cX2_moveLead 42 = .ok (.goto 24, 3) := by decide +kernel
theorem dX2_moveLead_45 : decode cX2_moveLead 45 = .ok (.aload_n 0, 1) := by decide +kernel
theorem dX2_moveLead_46 : decode cX2_moveLead 46 = .ok (.dup, 1) := by decide +kernel
theorem dX2_moveLead_47 : decode cX2_moveLead 47 = .ok (.getfield 41, 3) := by decide +kernel
theorem dX2_moveLead_50 : decode cX2_moveLead 50 = .ok (.aload_n 0, 1) := by decide +kernel
theorem dX2_moveLead_51 : decode cX2_moveLead 51 = .ok (.getfield 41, 3) := by decide +kernel
theorem dX2_moveLead_54 : decode cX2_moveLead 54 = .ok (.aload_n 0, 1) := by decide +kernel
theorem dX2_moveLead_55 : decode cX2_moveLead 55 = .ok (.invokevirtual 142, 3) := by decide +kernel
theorem dX2_moveLead_58 : decode cX2_moveLead 58 = .ok (.iconst 1, 1) := by decide +kernel
theorem dX2_moveLead_59 : decode cX2_moveLead 59 = .ok (.invokestatic 145, 3) := by decide +kernel
theorem dX2_moveLead_62 : decode cX2_moveLead 62 = .ok (.iadd, 1) := by decide +kernel
theorem dX2_moveLead_63 : decode cX2_moveLead 63 = .ok (.putfield 41, 3) := by decide +kernel
theorem dX2_moveLead_66 : decode cX2_moveLead 66 = .ok (.return_, 1) := by decide +kernel
theorem dX2_sumOfLeans_0 : decode cX2_sumOfLeans 0 = .ok (.iconst 0, 1) := by decide +kernel
theorem dX2_sumOfLeans_1 : decode cX2_sumOfLeans 1 = .ok (.istore_n 1, 1) := by decide +kernel
theorem dX2_sumOfLeans_2 : decode cX2_sumOfLeans 2 = .ok (.iconst 0, 1) := by decide +kernel
theorem dX2_sumOfLeans_3 : decode cX2_sumOfLeans 3 = .ok (.istore_n 2, 1) := by decide +kernel
theorem dX2_sumOfLeans_4 : decode cX2_sumOfLeans 4 = .ok (.iload_n 2, 1) := by decide +kernel
theorem dX2_sumOfLeans_5 : decode cX2_sumOfLeans 5 = .ok (.aload_n 0, 1) := by decide +kernel
theorem dX2_sumOfLeans_6 : decode cX2_sumOfLeans 6 = .ok (.getfield 34, 3) := by decide +kernel
theorem dX2_sumOfLeans_9 : decode cX2_sumOfLeans 9 = .ok (.if_icmp .ge 18, 3) := by decide +kernel
theorem dX2_sumOfLeans_12 : decode cX2_sumOfLeans 12 = .ok (.iload_n 1, 1) := by decide +kernel
theorem dX2_sumOfLeans_13 : decode cX2_sumOfLeans 13 = .ok (.aload_n 0, 1) := by decide +kernel
theorem dX2_sumOfLeans_14 : decode cX2_sumOfLeans 14 = .ok (.getfield 18, 3) := by decide +kernel
theorem dX2_sumOfLeans_17 : decode cX2_sumOfLeans 17 = .ok (.iload_n 2, 1) := by decide +kernel
theorem dX2_sumOfLeans_18 : decode cX2_sumOfLeans 18 = .ok (.iaload, 1) := by decide +kernel
theorem dX2_sumOfLeans_19 : decode cX2_sumOfLeans 19 = .ok (.iadd, 1) := by decide +kernel
theorem dX2_sumOfLeans_20 : decode cX2_sumOfLeans 20 = .ok (.istore_n 1, 1) := by decide +kernel
theorem dX2_sumOfLeans_21 : decode cX2_sumOfLeans 21 = .ok (.iinc 2 1, 3) := by decide +kernel
theorem dX2_sumOfLeans_24 : decode cX2_sumOfLeans 24 = .ok (.goto (-20), 3) := by decide +kernel
theorem dX2_sumOfLeans_27 : decode cX2_sumOfLeans 27 = .ok (.iload_n 1, 1) := by decide +kernel
theorem dX2_sumOfLeans_28 : decode cX2_sumOfLeans 28 = .ok (.ireturn, 1) := by decide +kernel
theorem dX2_far_0 : decode cX2_far 0 = .ok (.aload_n 0, 1) := by decide +kernel
theorem dX2_far_1 : decode cX2_far 1 = .ok (.getfield 18, 3) := by decide +kernel
theorem dX2_far_4 : decode cX2_far 4 = .ok (.iload_n 1, 1) := by decide +kernel
theorem dX2_far_5 : decode cX2_far 5 = .ok (.iaload, 1) := by decide +kernel
theorem dX2_far_6 : decode cX2_far 6 = .ok (.invokestatic 149, 3) := by decide +kernel
theorem dX2_far_9 : decode cX2_far 9 = .ok (.ireturn, 1) := by decide +kernel
set_option maxRecDepth 20000 in
theorem ggX2_isUpright_X2_far : GoodIn wsX2_isUpright wsX2_far := goodIn_r _ [5, 6, 7, 8, 9, 10, 53, 54, 55, 56, 57, 58, 59, 60, 61, 62, 63, 64] (by decide +kernel) (by decide +kernel)
set_option maxRecDepth 20000 in
theorem gX2_isUpright_X2_far : GoodIn wsX2_isUpright (wsV RX2 152 RX2 yX2_far wsX2_far) := goodIn_app (goodIn_of _ (by decide +kernel)) ggX2_isUpright_X2_far
set_option maxRecDepth 20000 in
theorem ggX2_isUpright_X2_isUprightAt : GoodIn wsX2_isUpright wsX2_isUprightAt := goodIn_r _ [14, 15, 16, 17, 18, 19, 20, 21, 22, 23, 24, 25, 26, 27, 28, 29, 30, 31, 32, 33, 34, 35, 36, 37, 38, 39, 40, 41, 42, 43, 44, 45, 46, 47, 48, 49, 50, 51, 52, 53, 54, 55, 56, 57, 58, 59, 60, 61, 62, 63, 64] (by decide +kernel) (by decide +kernel)
set_option maxRecDepth 20000 in
theorem gX2_isUpright_X2_isUprightAt : GoodIn wsX2_isUpright (wsV RX2 155 RX2 yX2_isUprightAt wsX2_isUprightAt) := goodIn_app (goodIn_of _ (by decide +kernel)) ggX2_isUpright_X2_isUprightAt
theorem dX2_isUpright_0 : decode cX2_isUpright 0 = .ok (.aload_n 0, 1) := by decide +kernel
theorem dX2_isUpright_1 : decode cX2_isUpright 1 = .ok (.iload_n 1, 1) := by decide +kernel
theorem dX2_isUpright_2 : decode cX2_isUpright 2 = .ok (.aload_n 0, 1) := by decide +kernel
theorem dX2_isUpright_3 : decode cX2_isUpright 3 = .ok (.iload_n 1, 1) := by decide +kernel
theorem dX2_isUpright_4 : decode cX2_isUpright 4 = .ok (.invokevirtual 152, 3) := by decide +kernel
theorem dX2_isUpright_7 : decode cX2_isUpright 7 = .ok (.invokevirtual 155, 3) := by decide +kernel
theorem dX2_isUpright_10 : decode cX2_isUpright 10 = .ok (.ireturn, 1) := by decide +kernel
set_option maxRecDepth 20000 in
theorem ggX2_isUprightAt_X0_uprightWithin : GoodIn wsX2_isUprightAt wsX0_uprightWithin := goodIn_r _ [10] (by decide +kernel) (by decide +kernel)
set_option maxRecDepth 20000 in
theorem gX2_isUprightAt_X0_uprightWithin_u159X0 : GoodIn wsX2_isUprightAt (va_wsO RX2 159 RX0 "PlumbLine$Man" ⟨"PlumbLine$Man", "uprightWithin", "(I)I"⟩ yX0_uprightWithin wsX0_uprightWithin) := goodIn_app (goodIn_of _ (by decide +kernel)) ggX2_isUprightAt_X0_uprightWithin
set_option maxRecDepth 20000 in
theorem ggX2_isUprightAt_X1_uprightWithin : GoodIn wsX2_isUprightAt wsX1_uprightWithin := goodIn_r _ [15, 16, 17, 18, 8, 9, 10] (by decide +kernel) (by decide +kernel)
set_option maxRecDepth 20000 in
theorem gX2_isUprightAt_X1_uprightWithin_u159X1 : GoodIn wsX2_isUprightAt (va_wsO RX2 159 RX1 "PlumbLine$Man" ⟨"PlumbLine$Man", "uprightWithin", "(I)I"⟩ yX1_uprightWithin wsX1_uprightWithin) := goodIn_app (goodIn_of _ (by decide +kernel)) ggX2_isUprightAt_X1_uprightWithin
set_option maxRecDepth 20000 in
theorem ggX2_isUprightAt_X3_uprightWithin : GoodIn wsX2_isUprightAt wsX3_uprightWithin := goodIn_r _ [22, 23, 5, 24, 25, 26, 11] (by decide +kernel) (by decide +kernel)
set_option maxRecDepth 20000 in
theorem gX2_isUprightAt_X3_uprightWithin_u159X3 : GoodIn wsX2_isUprightAt (va_wsO RX2 159 RX3 "PlumbLine$Man" ⟨"PlumbLine$Man", "uprightWithin", "(I)I"⟩ yX3_uprightWithin wsX3_uprightWithin) := goodIn_app (goodIn_of _ (by decide +kernel)) ggX2_isUprightAt_X3_uprightWithin
set_option maxRecDepth 20000 in
theorem ggX2_isUprightAt_X4_uprightWithin : GoodIn wsX2_isUprightAt wsX4_uprightWithin := goodIn_r _ [11] (by decide +kernel) (by decide +kernel)
set_option maxRecDepth 20000 in
theorem gX2_isUprightAt_X4_uprightWithin : GoodIn wsX2_isUprightAt (wsV RX2 159 RX4 yX4_uprightWithin wsX4_uprightWithin) := goodIn_app (goodIn_of _ (by decide +kernel)) ggX2_isUprightAt_X4_uprightWithin
set_option maxRecDepth 20000 in
theorem gX2_isUprightAt_X3_uprightWithin_u159X6 : GoodIn wsX2_isUprightAt (va_wsO RX2 159 RX6 "PlumbLine$Man" ⟨"PlumbLine$Man", "uprightWithin", "(I)I"⟩ yX3_uprightWithin wsX3_uprightWithin) := goodIn_app (goodIn_of _ (by decide +kernel)) ggX2_isUprightAt_X3_uprightWithin
set_option maxRecDepth 20000 in
theorem ggX2_isUprightAt_X7_uprightWithin : GoodIn wsX2_isUprightAt wsX7_uprightWithin := goodIn_r _ [33] (by decide +kernel) (by decide +kernel)
set_option maxRecDepth 20000 in
theorem gX2_isUprightAt_X7_uprightWithin_u159X7 : GoodIn wsX2_isUprightAt (va_wsO RX2 159 RX7 "PlumbLine$Man" ⟨"PlumbLine$Man", "uprightWithin", "(I)I"⟩ yX7_uprightWithin wsX7_uprightWithin) := goodIn_app (goodIn_of _ (by decide +kernel)) ggX2_isUprightAt_X7_uprightWithin
set_option maxRecDepth 20000 in
theorem ggX2_isUprightAt_X8_uprightWithin : GoodIn wsX2_isUprightAt wsX8_uprightWithin := goodIn_r _ [37] (by decide +kernel) (by decide +kernel)
set_option maxRecDepth 20000 in
theorem gX2_isUprightAt_X8_uprightWithin_u159X8 : GoodIn wsX2_isUprightAt (va_wsO RX2 159 RX8 "PlumbLine$Man" ⟨"PlumbLine$Man", "uprightWithin", "(I)I"⟩ yX8_uprightWithin wsX8_uprightWithin) := goodIn_app (goodIn_of _ (by decide +kernel)) ggX2_isUprightAt_X8_uprightWithin
set_option maxRecDepth 20000 in
theorem gX2_isUprightAt_X1_uprightWithin_u159X10 : GoodIn wsX2_isUprightAt (va_wsO RX2 159 RX10 "PlumbLine$Man" ⟨"PlumbLine$Man", "uprightWithin", "(I)I"⟩ yX1_uprightWithin wsX1_uprightWithin) := goodIn_app (goodIn_of _ (by decide +kernel)) ggX2_isUprightAt_X1_uprightWithin
theorem dX2_isUprightAt_0 : decode cX2_isUprightAt 0 = .ok (.iload_n 2, 1) := by decide +kernel
theorem dX2_isUprightAt_1 : decode cX2_isUprightAt 1 = .ok (.aload_n 0, 1) := by decide +kernel
theorem dX2_isUprightAt_2 : decode cX2_isUprightAt 2 = .ok (.getfield 24, 3) := by decide +kernel
theorem dX2_isUprightAt_5 : decode cX2_isUprightAt 5 = .ok (.aload_n 0, 1) := by decide +kernel
theorem dX2_isUprightAt_6 : decode cX2_isUprightAt 6 = .ok (.getfield 9, 3) := by decide +kernel
theorem dX2_isUprightAt_9 : decode cX2_isUprightAt 9 = .ok (.iload_n 1, 1) := by decide +kernel
theorem dX2_isUprightAt_10 : decode cX2_isUprightAt 10 = .ok (.iaload, 1) := by decide +kernel
theorem dX2_isUprightAt_11 : decode cX2_isUprightAt 11 = .ok (.aaload, 1) := by decide +kernel
theorem dX2_isUprightAt_12 : decode cX2_isUprightAt 12 = .ok (.aload_n 0, 1) := by decide +kernel
theorem dX2_isUprightAt_13 : decode cX2_isUprightAt 13 = .ok (.getfield 15, 3) := by decide +kernel
theorem dX2_isUprightAt_16 : decode cX2_isUprightAt 16 = .ok (.iload_n 1, 1) := by decide +kernel
theorem dX2_isUprightAt_17 : decode cX2_isUprightAt 17 = .ok (.iaload, 1) := by decide +kernel
theorem dX2_isUprightAt_18 : decode cX2_isUprightAt 18 = .ok (.invokevirtual 159, 3) := by decide +kernel
theorem dX2_isUprightAt_21 : decode cX2_isUprightAt 21 = .ok (.if_icmp .gt 7, 3) := by decide +kernel
theorem dX2_isUprightAt_24 : decode cX2_isUprightAt 24 = .ok (.iconst 1, 1) := by decide +kernel
theorem dX2_isUprightAt_25 : decode cX2_isUprightAt 25 = .ok (.goto 4, 3) := by decide +kernel
theorem dX2_isUprightAt_28 : decode cX2_isUprightAt 28 = .ok (.iconst 0, 1) := by decide +kernel
theorem dX2_isUprightAt_29 : decode cX2_isUprightAt 29 = .ok (.ireturn, 1) := by decide +kernel
set_option maxRecDepth 20000 in
theorem ggX2_upright_X0_uprightWithin : GoodIn wsX2_upright wsX0_uprightWithin := goodIn_r _ [16] (by decide +kernel) (by decide +kernel)
set_option maxRecDepth 20000 in
theorem gX2_upright_X0_uprightWithin_u159X0 : GoodIn wsX2_upright (va_wsO RX2 159 RX0 "PlumbLine$Man" ⟨"PlumbLine$Man", "uprightWithin", "(I)I"⟩ yX0_uprightWithin wsX0_uprightWithin) := goodIn_app (goodIn_of _ (by decide +kernel)) ggX2_upright_X0_uprightWithin
set_option maxRecDepth 20000 in
theorem ggX2_upright_X1_uprightWithin : GoodIn wsX2_upright wsX1_uprightWithin := goodIn_r _ [21, 22, 23, 24, 14, 15, 16] (by decide +kernel) (by decide +kernel)
set_option maxRecDepth 20000 in
theorem gX2_upright_X1_uprightWithin_u159X1 : GoodIn wsX2_upright (va_wsO RX2 159 RX1 "PlumbLine$Man" ⟨"PlumbLine$Man", "uprightWithin", "(I)I"⟩ yX1_uprightWithin wsX1_uprightWithin) := goodIn_app (goodIn_of _ (by decide +kernel)) ggX2_upright_X1_uprightWithin
set_option maxRecDepth 20000 in
theorem ggX2_upright_X3_uprightWithin : GoodIn wsX2_upright wsX3_uprightWithin := goodIn_r _ [28, 29, 11, 30, 31, 32, 17] (by decide +kernel) (by decide +kernel)
set_option maxRecDepth 20000 in
theorem gX2_upright_X3_uprightWithin_u159X3 : GoodIn wsX2_upright (va_wsO RX2 159 RX3 "PlumbLine$Man" ⟨"PlumbLine$Man", "uprightWithin", "(I)I"⟩ yX3_uprightWithin wsX3_uprightWithin) := goodIn_app (goodIn_of _ (by decide +kernel)) ggX2_upright_X3_uprightWithin
set_option maxRecDepth 20000 in
theorem ggX2_upright_X4_uprightWithin : GoodIn wsX2_upright wsX4_uprightWithin := goodIn_r _ [17] (by decide +kernel) (by decide +kernel)
set_option maxRecDepth 20000 in
theorem gX2_upright_X4_uprightWithin : GoodIn wsX2_upright (wsV RX2 159 RX4 yX4_uprightWithin wsX4_uprightWithin) := goodIn_app (goodIn_of _ (by decide +kernel)) ggX2_upright_X4_uprightWithin
set_option maxRecDepth 20000 in
theorem gX2_upright_X3_uprightWithin_u159X6 : GoodIn wsX2_upright (va_wsO RX2 159 RX6 "PlumbLine$Man" ⟨"PlumbLine$Man", "uprightWithin", "(I)I"⟩ yX3_uprightWithin wsX3_uprightWithin) := goodIn_app (goodIn_of _ (by decide +kernel)) ggX2_upright_X3_uprightWithin
set_option maxRecDepth 20000 in
theorem ggX2_upright_X7_uprightWithin : GoodIn wsX2_upright wsX7_uprightWithin := goodIn_r _ [39] (by decide +kernel) (by decide +kernel)
set_option maxRecDepth 20000 in
theorem gX2_upright_X7_uprightWithin_u159X7 : GoodIn wsX2_upright (va_wsO RX2 159 RX7 "PlumbLine$Man" ⟨"PlumbLine$Man", "uprightWithin", "(I)I"⟩ yX7_uprightWithin wsX7_uprightWithin) := goodIn_app (goodIn_of _ (by decide +kernel)) ggX2_upright_X7_uprightWithin
set_option maxRecDepth 20000 in
theorem ggX2_upright_X8_uprightWithin : GoodIn wsX2_upright wsX8_uprightWithin := goodIn_r _ [43] (by decide +kernel) (by decide +kernel)
set_option maxRecDepth 20000 in
theorem gX2_upright_X8_uprightWithin_u159X8 : GoodIn wsX2_upright (va_wsO RX2 159 RX8 "PlumbLine$Man" ⟨"PlumbLine$Man", "uprightWithin", "(I)I"⟩ yX8_uprightWithin wsX8_uprightWithin) := goodIn_app (goodIn_of _ (by decide +kernel)) ggX2_upright_X8_uprightWithin
set_option maxRecDepth 20000 in
theorem gX2_upright_X1_uprightWithin_u159X10 : GoodIn wsX2_upright (va_wsO RX2 159 RX10 "PlumbLine$Man" ⟨"PlumbLine$Man", "uprightWithin", "(I)I"⟩ yX1_uprightWithin wsX1_uprightWithin) := goodIn_app (goodIn_of _ (by decide +kernel)) ggX2_upright_X1_uprightWithin
theorem dX2_upright_0 : decode cX2_upright 0 = .ok (.iconst 0, 1) := by decide +kernel
theorem dX2_upright_1 : decode cX2_upright 1 = .ok (.istore_n 1, 1) := by decide +kernel
theorem dX2_upright_2 : decode cX2_upright 2 = .ok (.iconst 0, 1) := by decide +kernel
theorem dX2_upright_3 : decode cX2_upright 3 = .ok (.istore_n 2, 1) := by decide +kernel
theorem dX2_upright_4 : decode cX2_upright 4 = .ok (.iload_n 2, 1) := by decide +kernel
theorem dX2_upright_5 : decode cX2_upright 5 = .ok (.aload_n 0, 1) := by decide +kernel
theorem dX2_upright_6 : decode cX2_upright 6 = .ok (.getfield 34, 3) := by decide +kernel
theorem dX2_upright_9 : decode cX2_upright 9 = .ok (.if_icmp .ge 47, 3) := by decide +kernel
theorem dX2_upright_12 : decode cX2_upright 12 = .ok (.aload_n 0, 1) := by decide +kernel
theorem dX2_upright_13 : decode cX2_upright 13 = .ok (.getfield 18, 3) := by decide +kernel
theorem dX2_upright_16 : decode cX2_upright 16 = .ok (.iload_n 2, 1) := by decide +kernel
theorem dX2_upright_17 : decode cX2_upright 17 = .ok (.iaload, 1) := by decide +kernel
theorem dX2_upright_18 : decode cX2_upright 18 = .ok (.invokestatic 149, 3) := by decide +kernel
theorem dX2_upright_21 : decode cX2_upright 21 = .ok (.aload_n 0, 1) := by decide +kernel
theorem dX2_upright_22 : decode cX2_upright 22 = .ok (.getfield 24, 3) := by decide +kernel
theorem dX2_upright_25 : decode cX2_upright 25 = .ok (.aload_n 0, 1) := by decide +kernel
theorem dX2_upright_26 : decode cX2_upright 26 = .ok (.getfield 9, 3) := by decide +kernel
theorem dX2_upright_29 : decode cX2_upright 29 = .ok (.iload_n 2, 1) := by decide +kernel
theorem dX2_upright_30 : decode cX2_upright 30 = .ok (.iaload, 1) := by decide +kernel
theorem dX2_upright_31 : decode cX2_upright 31 = .ok (.aaload, 1) := by decide +kernel
theorem dX2_upright_32 : decode cX2_upright 32 = .ok (.aload_n 0, 1) := by decide +kernel
theorem dX2_upright_33 : decode cX2_upright 33 = .ok (.getfield 15, 3) := by decide +kernel
theorem dX2_upright_36 : decode cX2_upright 36 = .ok (.iload_n 2, 1) := by decide +kernel
theorem dX2_upright_37 : decode cX2_upright 37 = .ok (.iaload, 1) := by decide +kernel
theorem dX2_upright_38 : decode cX2_upright 38 = .ok (.invokevirtual 159, 3) := by decide +kernel
theorem dX2_upright_41 : decode cX2_upright 41 = .ok (.if_icmp .gt 9, 3) := by decide +kernel
theorem dX2_upright_44 : decode cX2_upright 44 = .ok (.iload_n 1, 1) := by decide +kernel
theorem dX2_upright_45 : decode cX2_upright 45 = .ok (.iconst 1, 1) := by decide +kernel
theorem dX2_upright_46 : decode cX2_upright 46 = .ok (.iload_n 2, 1) := by decide +kernel
theorem dX2_upright_47 : decode cX2_upright 47 = .ok (.ishl, 1) := by decide +kernel
theorem dX2_upright_48 : decode cX2_upright 48 = .ok (.ior, 1) := by decide +kernel
theorem dX2_upright_49 : decode cX2_upright 49 = .ok (.istore_n 1, 1) := by decide +kernel
theorem dX2_upright_50 : decode cX2_upright 50 = .ok (.iinc 2 1, 3) := by decide +kernel
theorem dX2_upright_53 : decode cX2_upright 53 = .ok (.goto (-49), 3) := by decide +kernel
theorem dX2_upright_56 : decode cX2_upright 56 = .ok (.iload_n 1, 1) := by decide +kernel
theorem dX2_upright_57 : decode cX2_upright 57 = .ok (.ireturn, 1) := by decide +kernel
set_option maxRecDepth 20000 in
theorem ggX2_discountOf_X2_far : GoodIn wsX2_discountOf wsX2_far := goodIn_r _ [8, 9, 10, 11, 12, 13, 50, 51, 52, 53, 54, 55, 56, 57, 58, 59, 60, 61] (by decide +kernel) (by decide +kernel)
set_option maxRecDepth 20000 in
theorem gX2_discountOf_X2_far : GoodIn wsX2_discountOf (wsV RX2 152 RX2 yX2_far wsX2_far) := goodIn_app (goodIn_of _ (by decide +kernel)) ggX2_discountOf_X2_far
set_option maxRecDepth 20000 in
theorem ggX2_discountOf_X0_discountAt : GoodIn wsX2_discountOf wsX0_discountAt := goodIn_r _ [20] (by decide +kernel) (by decide +kernel)
set_option maxRecDepth 20000 in
theorem gX2_discountOf_X0_discountAt_u162X0 : GoodIn wsX2_discountOf (va_wsO RX2 162 RX0 "PlumbLine$Man" ⟨"PlumbLine$Man", "discountAt", "(II)I"⟩ yX0_discountAt wsX0_discountAt) := goodIn_app (goodIn_of _ (by decide +kernel)) ggX2_discountOf_X0_discountAt
set_option maxRecDepth 20000 in
theorem ggX2_discountOf_X1_discountAt : GoodIn wsX2_discountOf wsX1_discountAt := goodIn_r _ [25, 26, 27, 28, 18, 19, 20] (by decide +kernel) (by decide +kernel)
set_option maxRecDepth 20000 in
theorem gX2_discountOf_X1_discountAt_u162X1 : GoodIn wsX2_discountOf (va_wsO RX2 162 RX1 "PlumbLine$Man" ⟨"PlumbLine$Man", "discountAt", "(II)I"⟩ yX1_discountAt wsX1_discountAt) := goodIn_app (goodIn_of _ (by decide +kernel)) ggX2_discountOf_X1_discountAt
set_option maxRecDepth 20000 in
theorem ggX2_discountOf_X4_discountAt : GoodIn wsX2_discountOf wsX4_discountAt := goodIn_r _ [21] (by decide +kernel) (by decide +kernel)
set_option maxRecDepth 20000 in
theorem gX2_discountOf_X4_discountAt_u162X3 : GoodIn wsX2_discountOf (va_wsU RX2 162 RX3 "PlumbLine$Man" ⟨"PlumbLine$Man", "discountAt", "(II)I"⟩ yX4_discountAt wsX4_discountAt) := goodIn_app (goodIn_of _ (by decide +kernel)) ggX2_discountOf_X4_discountAt
set_option maxRecDepth 20000 in
theorem gX2_discountOf_X4_discountAt : GoodIn wsX2_discountOf (wsV RX2 162 RX4 yX4_discountAt wsX4_discountAt) := goodIn_app (goodIn_of _ (by decide +kernel)) ggX2_discountOf_X4_discountAt
set_option maxRecDepth 20000 in
theorem ggX2_discountOf_X6_discountAt : GoodIn wsX2_discountOf wsX6_discountAt := goodIn_r _ [37] (by decide +kernel) (by decide +kernel)
set_option maxRecDepth 20000 in
theorem gX2_discountOf_X6_discountAt_u162X6 : GoodIn wsX2_discountOf (va_wsO RX2 162 RX6 "PlumbLine$Man" ⟨"PlumbLine$Man", "discountAt", "(II)I"⟩ yX6_discountAt wsX6_discountAt) := goodIn_app (goodIn_of _ (by decide +kernel)) ggX2_discountOf_X6_discountAt
set_option maxRecDepth 20000 in
theorem ggX2_discountOf_X7_discountAt : GoodIn wsX2_discountOf wsX7_discountAt := goodIn_r _ [41] (by decide +kernel) (by decide +kernel)
set_option maxRecDepth 20000 in
theorem gX2_discountOf_X7_discountAt_u162X7 : GoodIn wsX2_discountOf (va_wsO RX2 162 RX7 "PlumbLine$Man" ⟨"PlumbLine$Man", "discountAt", "(II)I"⟩ yX7_discountAt wsX7_discountAt) := goodIn_app (goodIn_of _ (by decide +kernel)) ggX2_discountOf_X7_discountAt
set_option maxRecDepth 20000 in
theorem ggX2_discountOf_X8_discountAt : GoodIn wsX2_discountOf wsX8_discountAt := goodIn_r _ [45] (by decide +kernel) (by decide +kernel)
set_option maxRecDepth 20000 in
theorem gX2_discountOf_X8_discountAt_u162X8 : GoodIn wsX2_discountOf (va_wsO RX2 162 RX8 "PlumbLine$Man" ⟨"PlumbLine$Man", "discountAt", "(II)I"⟩ yX8_discountAt wsX8_discountAt) := goodIn_app (goodIn_of _ (by decide +kernel)) ggX2_discountOf_X8_discountAt
set_option maxRecDepth 20000 in
theorem ggX2_discountOf_X10_discountAt : GoodIn wsX2_discountOf wsX10_discountAt := goodIn_r _ [49] (by decide +kernel) (by decide +kernel)
set_option maxRecDepth 20000 in
theorem gX2_discountOf_X10_discountAt_u162X10 : GoodIn wsX2_discountOf (va_wsO RX2 162 RX10 "PlumbLine$Man" ⟨"PlumbLine$Man", "discountAt", "(II)I"⟩ yX10_discountAt wsX10_discountAt) := goodIn_app (goodIn_of _ (by decide +kernel)) ggX2_discountOf_X10_discountAt
theorem dX2_discountOf_0 : decode cX2_discountOf 0 = .ok (.aload_n 0, 1) := by decide +kernel
theorem dX2_discountOf_1 : decode cX2_discountOf 1 = .ok (.getfield 24, 3) := by decide +kernel
theorem dX2_discountOf_4 : decode cX2_discountOf 4 = .ok (.aload_n 0, 1) := by decide +kernel
theorem dX2_discountOf_5 : decode cX2_discountOf 5 = .ok (.getfield 9, 3) := by decide +kernel
theorem dX2_discountOf_8 : decode cX2_discountOf 8 = .ok (.iload_n 1, 1) := by decide +kernel
theorem dX2_discountOf_9 : decode cX2_discountOf 9 = .ok (.iaload, 1) := by decide +kernel
theorem dX2_discountOf_10 : decode cX2_discountOf 10 = .ok (.aaload, 1) := by decide +kernel
theorem dX2_discountOf_11 : decode cX2_discountOf 11 = .ok (.aload_n 0, 1) := by decide +kernel
theorem dX2_discountOf_12 : decode cX2_discountOf 12 = .ok (.iload_n 1, 1) := by decide +kernel
theorem dX2_discountOf_13 : decode cX2_discountOf 13 = .ok (.invokevirtual 152, 3) := by decide +kernel
theorem dX2_discountOf_16 : decode cX2_discountOf 16 = .ok (.aload_n 0, 1) := by decide +kernel
theorem dX2_discountOf_17 : decode cX2_discountOf 17 = .ok (.getfield 15, 3) := by decide +kernel
theorem dX2_discountOf_20 : decode cX2_discountOf 20 = .ok (.iload_n 1, 1) := by decide +kernel
theorem dX2_discountOf_21 : decode cX2_discountOf 21 = .ok (.iaload, 1) := by decide +kernel
theorem dX2_discountOf_22 : decode cX2_discountOf 22 = .ok (.invokevirtual 162, 3) := by decide +kernel
theorem dX2_discountOf_25 : decode cX2_discountOf 25 = .ok (.ireturn, 1) := by decide +kernel
set_option maxRecDepth 20000 in
theorem ggX2_discountOfAll_X2_discountOf : GoodIn wsX2_discountOfAll wsX2_discountOf := goodIn_r _ [6, 7, 8, 9, 10, 11, 12, 5, 13, 14, 15, 16, 17, 18, 19, 20, 21, 22, 23, 24, 25, 26, 27, 28, 29, 30, 31, 32, 33, 34, 35, 36, 37, 38, 39, 40, 41, 42, 43, 44, 45, 46, 47, 48, 49, 50, 51, 52, 53, 54, 55, 56, 57, 58, 59, 60, 61, 62, 63, 64, 65, 66] (by decide +kernel) (by decide +kernel)
set_option maxRecDepth 20000 in
theorem gX2_discountOfAll_X2_discountOf : GoodIn wsX2_discountOfAll (wsV RX2 165 RX2 yX2_discountOf wsX2_discountOf) := goodIn_app (goodIn_of _ (by decide +kernel)) ggX2_discountOfAll_X2_discountOf
theorem dX2_discountOfAll_0 : decode cX2_discountOfAll 0 = .ok (.iconst 0, 1) := by decide +kernel
theorem dX2_discountOfAll_1 : decode cX2_discountOfAll 1 = .ok (.istore_n 1, 1) := by decide +kernel
theorem dX2_discountOfAll_2 : decode cX2_discountOfAll 2 = .ok (.iconst 0, 1) := by decide +kernel
theorem dX2_discountOfAll_3 : decode cX2_discountOfAll 3 = .ok (.istore_n 2, 1) := by decide +kernel
theorem dX2_discountOfAll_4 : decode cX2_discountOfAll 4 = .ok (.iload_n 2, 1) := by decide +kernel
theorem dX2_discountOfAll_5 : decode cX2_discountOfAll 5 = .ok (.aload_n 0, 1) := by decide +kernel
theorem dX2_discountOfAll_6 : decode cX2_discountOfAll 6 = .ok (.getfield 34, 3) := by decide +kernel
theorem dX2_discountOfAll_9 : decode cX2_discountOfAll 9 = .ok (.if_icmp .ge 17, 3) := by decide +kernel
theorem dX2_discountOfAll_12 : decode cX2_discountOfAll 12 = .ok (.iload_n 1, 1) := by decide +kernel
theorem dX2_discountOfAll_13 : decode cX2_discountOfAll 13 = .ok (.aload_n 0, 1) := by decide +kernel
theorem dX2_discountOfAll_14 : decode cX2_discountOfAll 14 = .ok (.iload_n 2, 1) := by decide +kernel
theorem dX2_discountOfAll_15 : decode cX2_discountOfAll 15 = .ok (.invokevirtual 165, 3) := by decide +kernel
theorem dX2_discountOfAll_18 : decode cX2_discountOfAll 18 = .ok (.iadd, 1) := by decide +kernel
theorem dX2_discountOfAll_19 : decode cX2_discountOfAll 19 = .ok (.istore_n 1, 1) := by decide +kernel
theorem dX2_discountOfAll_20 : decode cX2_discountOfAll 20 = .ok (.iinc 2 1, 3) := by decide +kernel
theorem dX2_discountOfAll_23 : decode cX2_discountOfAll 23 = .ok (.goto (-19), 3) := by decide +kernel
theorem dX2_discountOfAll_26 : decode cX2_discountOfAll 26 = .ok (.iload_n 1, 1) := by decide +kernel
theorem dX2_discountOfAll_27 : decode cX2_discountOfAll 27 = .ok (.ireturn, 1) := by decide +kernel
theorem dX2_plumb_0 : decode cX2_plumb 0 = .ok (.bipush (-4), 2) := by decide +kernel
theorem dX2_plumb_2 : decode cX2_plumb 2 = .ok (.istore_n 1, 1) := by decide +kernel
theorem dX2_plumb_3 : decode cX2_plumb 3 = .ok (.iconst 0, 1) := by decide +kernel
theorem dX2_plumb_4 : decode cX2_plumb 4 = .ok (.istore_n 2, 1) := by decide +kernel
theorem dX2_plumb_5 : decode cX2_plumb 5 = .ok (.iload_n 2, 1) := by decide +kernel
theorem dX2_plumb_6 : decode cX2_plumb 6 = .ok (.aload_n 0, 1) := by decide +kernel
theorem dX2_plumb_7 : decode cX2_plumb 7 = .ok (.getfield 34, 3) := by decide +kernel
theorem dX2_plumb_10 : decode cX2_plumb 10 = .ok (.if_icmp .ge 38, 3) := by decide +kernel
theorem dX2_plumb_13 : decode cX2_plumb 13 = .ok (.iload_n 1, 1) := by decide +kernel
theorem dX2_plumb_14 : decode cX2_plumb 14 = .ok (.bipush (-4), 2) := by decide +kernel
theorem dX2_plumb_16 : decode cX2_plumb 16 = .ok (.if_icmp .eq 24, 3) := by decide +kernel
theorem dX2_plumb_19 : decode cX2_plumb 19 = .ok (.aload_n 0, 1) := by decide +kernel
theorem dX2_plumb_20 : decode cX2_plumb 20 = .ok (.getfield 18, 3) := by decide +kernel
theorem dX2_plumb_23 : decode cX2_plumb 23 = .ok (.iload_n 2, 1) := by decide +kernel
theorem dX2_plumb_24 : decode cX2_plumb 24 = .ok (.iaload, 1) := by decide +kernel
theorem dX2_plumb_25 : decode cX2_plumb 25 = .ok (.invokestatic 149, 3) := by decide +kernel
theorem dX2_plumb_28 : decode cX2_plumb 28 = .ok (.aload_n 0, 1) := by decide +kernel
theorem dX2_plumb_29 : decode cX2_plumb 29 = .ok (.getfield 18, 3) := by decide +kernel
theorem dX2_plumb_32 : decode cX2_plumb 32 = .ok (.iload_n 1, 1) := by decide +kernel
theorem dX2_plumb_33 : decode cX2_plumb 33 = .ok (.iaload, 1) := by decide +kernel
theorem dX2_plumb_34 : decode cX2_plumb 34 = .ok (.invokestatic 149, 3) := by decide +kernel
theorem dX2_plumb_37 : decode cX2_plumb 37 = .ok (.if_icmp .ge 5, 3) := by decide +kernel
theorem dX2_plumb_40 : decode cX2_plumb 40 = .ok (.iload_n 2, 1) := by decide +kernel
theorem dX2_plumb_41 : decode cX2_plumb 41 = .ok (.istore_n 1, 1) := by decide +kernel
theorem dX2_plumb_42 : decode cX2_plumb 42 = .ok (.iinc 2 1, 3) := by decide +kernel
theorem dX2_plumb_45 : decode cX2_plumb 45 = .ok (.goto (-40), 3) := by decide +kernel
theorem dX2_plumb_48 : decode cX2_plumb 48 = .ok (.iload_n 1, 1) := by decide +kernel
theorem dX2_plumb_49 : decode cX2_plumb 49 = .ok (.ireturn, 1) := by decide +kernel
theorem dX2_east_0 : decode cX2_east 0 = .ok (.iconst 0, 1) := by decide +kernel
theorem dX2_east_1 : decode cX2_east 1 = .ok (.istore_n 1, 1) := by decide +kernel
theorem dX2_east_2 : decode cX2_east 2 = .ok (.iconst 0, 1) := by decide +kernel
theorem dX2_east_3 : decode cX2_east 3 = .ok (.istore_n 2, 1) := by decide +kernel
theorem dX2_east_4 : decode cX2_east 4 = .ok (.iload_n 2, 1) := by decide +kernel
theorem dX2_east_5 : decode cX2_east 5 = .ok (.aload_n 0, 1) := by decide +kernel
theorem dX2_east_6 : decode cX2_east 6 = .ok (.getfield 34, 3) := by decide +kernel
theorem dX2_east_9 : decode cX2_east 9 = .ok (.if_icmp .ge 21, 3) := by decide +kernel
theorem dX2_east_12 : decode cX2_east 12 = .ok (.aload_n 0, 1) := by decide +kernel
theorem dX2_east_13 : decode cX2_east 13 = .ok (.getfield 18, 3) := by decide +kernel
theorem dX2_east_16 : decode cX2_east 16 = .ok (.iload_n 2, 1) := by decide +kernel
theorem dX2_east_17 : decode cX2_east 17 = .ok (.iaload, 1) := by decide +kernel
theorem dX2_east_18 : decode cX2_east 18 = .ok (.ifCond .le 6, 3) := by decide +kernel
theorem dX2_east_21 : decode cX2_east 21 = .ok (.iinc 1 1, 3) := by decide +kernel
theorem dX2_east_24 : decode cX2_east 24 = .ok (.iinc 2 1, 3) := by decide +kernel
theorem dX2_east_27 : decode cX2_east 27 = .ok (.goto (-23), 3) := by decide +kernel
theorem dX2_east_30 : decode cX2_east 30 = .ok (.iload_n 1, 1) := by decide +kernel
theorem dX2_east_31 : decode cX2_east 31 = .ok (.ireturn, 1) := by decide +kernel
set_option maxRecDepth 20000 in
theorem ggX2_rightOne_X2_uprightFrom : GoodIn wsX2_rightOne wsX2_uprightFrom := goodIn_r _ [6, 1, 7, 8, 9, 10, 11, 12, 13, 14, 5, 15, 16, 17, 18, 19, 20, 21, 22, 23, 24, 25, 26, 27, 28, 29, 30, 31, 32, 33, 34, 35, 36, 37, 38, 39, 40, 41, 42, 43, 44, 45, 46, 47, 48, 49, 50, 51, 52, 53, 54, 55, 56, 57, 58, 59, 60, 61, 62, 63, 64, 65] (by decide +kernel) (by decide +kernel)
set_option maxRecDepth 20000 in
theorem gX2_rightOne_X2_uprightFrom : GoodIn wsX2_rightOne (wsV RX2 168 RX2 yX2_uprightFrom wsX2_uprightFrom) := goodIn_app (goodIn_of _ (by decide +kernel)) ggX2_rightOne_X2_uprightFrom
theorem dX2_rightOne_0 : decode cX2_rightOne 0 = .ok (.bipush (-4), 2) := by decide +kernel
theorem dX2_rightOne_2 : decode cX2_rightOne 2 = .ok (.istore_n 1, 1) := by decide +kernel
theorem dX2_rightOne_3 : decode cX2_rightOne 3 = .ok (.iconst (-1), 1) := by decide +kernel
theorem dX2_rightOne_4 : decode cX2_rightOne 4 = .ok (.istore_n 2, 1) := by decide +kernel
theorem dX2_rightOne_5 : decode cX2_rightOne 5 = .ok (.iconst 0, 1) := by decide +kernel
theorem dX2_rightOne_6 : decode cX2_rightOne 6 = .ok (.istore_n 3, 1) := by decide +kernel
theorem dX2_rightOne_7 : decode cX2_rightOne 7 = .ok (.iload_n 3, 1) := by decide +kernel
theorem dX2_rightOne_8 : decode cX2_rightOne 8 = .ok (.aload_n 0, 1) := by decide +kernel
theorem dX2_rightOne_9 : decode cX2_rightOne 9 = .ok (.getfield 34, 3) := by decide +kernel
theorem dX2_rightOne_12 : decode cX2_rightOne 12 = .ok (.if_icmp .ge 27, 3) := by decide +kernel
theorem dX2_rightOne_15 : decode cX2_rightOne 15 = .ok (.aload_n 0, 1) := by decide +kernel
theorem dX2_rightOne_16 : decode cX2_rightOne 16 = .ok (.iload_n 3, 1) := by decide +kernel
theorem dX2_rightOne_17 : decode cX2_rightOne 17 = .ok (.invokevirtual 168, 3) := by decide +kernel
theorem dX2_rightOne_20 : decode cX2_rightOne 20 = .ok (.istore 4, 2) := by decide +kernel
theorem dX2_rightOne_22 : decode cX2_rightOne 22 = .ok (.iload 4, 2) := by decide +kernel
theorem dX2_rightOne_24 : decode cX2_rightOne 24 = .ok (.iload_n 2, 1) := by decide +kernel
theorem dX2_rightOne_25 : decode cX2_rightOne 25 = .ok (.if_icmp .le 8, 3) := by decide +kernel
theorem dX2_rightOne_28 : decode cX2_rightOne 28 = .ok (.iload 4, 2) := by decide +kernel
theorem dX2_rightOne_30 : decode cX2_rightOne 30 = .ok (.istore_n 2, 1) := by decide +kernel
theorem dX2_rightOne_31 : decode cX2_rightOne 31 = .ok (.iload_n 3, 1) := by decide +kernel
theorem dX2_rightOne_32 : decode cX2_rightOne 32 = .ok (.istore_n 1, 1) := by decide +kernel
theorem dX2_rightOne_33 : decode cX2_rightOne 33 = .ok (.iinc 3 1, 3) := by decide +kernel
theorem dX2_rightOne_36 : decode cX2_rightOne 36 = .ok (.goto (-29), 3) := by decide +kernel
theorem dX2_rightOne_39 : decode cX2_rightOne 39 = .ok (.iload_n 1, 1) := by decide +kernel
theorem dX2_rightOne_40 : decode cX2_rightOne 40 = .ok (.ireturn, 1) := by decide +kernel
set_option maxRecDepth 20000 in
theorem ggX2_uprightFrom_X2_isUprightAt : GoodIn wsX2_uprightFrom wsX2_isUprightAt := goodIn_r _ [11, 12, 13, 14, 15, 16, 17, 18, 19, 20, 21, 22, 23, 24, 25, 26, 27, 28, 29, 30, 31, 32, 33, 34, 35, 36, 37, 38, 39, 40, 41, 42, 43, 44, 45, 46, 47, 48, 49, 50, 51, 52, 53, 54, 55, 56, 57, 58, 59, 60, 61] (by decide +kernel) (by decide +kernel)
set_option maxRecDepth 20000 in
theorem gX2_uprightFrom_X2_isUprightAt : GoodIn wsX2_uprightFrom (wsV RX2 155 RX2 yX2_isUprightAt wsX2_isUprightAt) := goodIn_app (goodIn_of _ (by decide +kernel)) ggX2_uprightFrom_X2_isUprightAt
theorem dX2_uprightFrom_0 : decode cX2_uprightFrom 0 = .ok (.iconst 0, 1) := by decide +kernel
theorem dX2_uprightFrom_1 : decode cX2_uprightFrom 1 = .ok (.istore_n 2, 1) := by decide +kernel
theorem dX2_uprightFrom_2 : decode cX2_uprightFrom 2 = .ok (.iconst 0, 1) := by decide +kernel
theorem dX2_uprightFrom_3 : decode cX2_uprightFrom 3 = .ok (.istore_n 3, 1) := by decide +kernel
theorem dX2_uprightFrom_4 : decode cX2_uprightFrom 4 = .ok (.iload_n 3, 1) := by decide +kernel
theorem dX2_uprightFrom_5 : decode cX2_uprightFrom 5 = .ok (.aload_n 0, 1) := by decide +kernel
theorem dX2_uprightFrom_6 : decode cX2_uprightFrom 6 = .ok (.getfield 34, 3) := by decide +kernel
theorem dX2_uprightFrom_9 : decode cX2_uprightFrom 9 = .ok (.if_icmp .ge 41, 3) := by decide +kernel
theorem dX2_uprightFrom_12 : decode cX2_uprightFrom 12 = .ok (.iload_n 3, 1) := by decide +kernel
theorem dX2_uprightFrom_13 : decode cX2_uprightFrom 13 = .ok (.iload_n 1, 1) := by decide +kernel
theorem dX2_uprightFrom_14 : decode cX2_uprightFrom 14 = .ok (.if_icmp .eq 30, 3) := by decide +kernel
theorem dX2_uprightFrom_17 : decode cX2_uprightFrom 17 = .ok (.aload_n 0, 1) := by decide +kernel
theorem dX2_uprightFrom_18 : decode cX2_uprightFrom 18 = .ok (.iload_n 3, 1) := by decide +kernel
theorem dX2_uprightFrom_19 : decode cX2_uprightFrom 19 = .ok (.aload_n 0, 1) := by decide +kernel
theorem dX2_uprightFrom_20 : decode cX2_uprightFrom 20 = .ok (.getfield 18, 3) := by decide +kernel
theorem dX2_uprightFrom_23 : decode cX2_uprightFrom 23 = .ok (.iload_n 3, 1) := by decide +kernel
theorem dX2_uprightFrom_24 : decode cX2_uprightFrom 24 = .ok (.iaload, 1) := by decide +kernel
theorem dX2_uprightFrom_25 : decode cX2_uprightFrom 25 = .ok (.aload_n 0, 1) := by decide +kernel
theorem dX2_uprightFrom_26 : decode cX2_uprightFrom 26 = .ok (.getfield 18, 3) := by decide +kernel
theorem dX2_uprightFrom_29 : decode cX2_uprightFrom 29 = .ok (.iload_n 1, 1) := by decide +kernel
theorem dX2_uprightFrom_30 : decode cX2_uprightFrom 30 = .ok (.iaload, 1) := by decide +kernel
theorem dX2_uprightFrom_31 : decode cX2_uprightFrom 31 = .ok (.isub, 1) := by decide +kernel
theorem dX2_uprightFrom_32 : decode cX2_uprightFrom 32 = .ok (.invokestatic 149, 3) := by decide +kernel
theorem dX2_uprightFrom_35 : decode cX2_uprightFrom 35 = .ok (.invokevirtual 155, 3) := by decide +kernel
theorem dX2_uprightFrom_38 : decode cX2_uprightFrom 38 = .ok (.ifCond .eq 6, 3) := by decide +kernel
theorem dX2_uprightFrom_41 : decode cX2_uprightFrom 41 = .ok (.iinc 2 1, 3) := by decide +kernel
theorem dX2_uprightFrom_44 : decode cX2_uprightFrom 44 = .ok (.iinc 3 1, 3) := by decide +kernel
theorem dX2_uprightFrom_47 : decode cX2_uprightFrom 47 = .ok (.goto (-43), 3) := by decide +kernel
theorem dX2_uprightFrom_50 : decode cX2_uprightFrom 50 = .ok (.iload_n 2, 1) := by decide +kernel
theorem dX2_uprightFrom_51 : decode cX2_uprightFrom 51 = .ok (.ireturn, 1) := by decide +kernel
theorem dX2_walls_0 : decode cX2_walls 0 = .ok (.bipush (-4), 2) := by decide +kernel
theorem dX2_walls_2 : decode cX2_walls 2 = .ok (.istore_n 1, 1) := by decide +kernel
theorem dX2_walls_3 : decode cX2_walls 3 = .ok (.iconst 0, 1) := by decide +kernel
theorem dX2_walls_4 : decode cX2_walls 4 = .ok (.istore_n 2, 1) := by decide +kernel
theorem dX2_walls_5 : decode cX2_walls 5 = .ok (.iload_n 2, 1) := by decide +kernel
theorem dX2_walls_6 : decode cX2_walls 6 = .ok (.aload_n 0, 1) := by decide +kernel
theorem dX2_walls_7 : decode cX2_walls 7 = .ok (.getfield 34, 3) := by decide +kernel
theorem dX2_walls_10 : decode cX2_walls 10 = .ok (.if_icmp .ge 78, 3) := by decide +kernel
theorem dX2_walls_13 : decode cX2_walls 13 = .ok (.aload_n 0, 1) := by decide +kernel
theorem dX2_walls_14 : decode cX2_walls 14 = .ok (.getfield 21, 3) := by decide +kernel
theorem dX2_walls_17 : decode cX2_walls 17 = .ok (.iload_n 2, 1) := by decide +kernel
theorem dX2_walls_18 : decode cX2_walls 18 = .ok (.iconst 1, 1) := by decide +kernel
theorem dX2_walls_19 : decode cX2_walls 19 = .ok (.iastore, 1) := by decide +kernel
theorem dX2_walls_20 : decode cX2_walls 20 = .ok (.iconst 0, 1) := by decide +kernel
theorem dX2_walls_21 : decode cX2_walls 21 = .ok (.istore_n 3, 1) := by decide +kernel
theorem dX2_walls_22 : decode cX2_walls 22 = .ok (.iload_n 3, 1) := by decide +kernel
theorem dX2_walls_23 : decode cX2_walls 23 = .ok (.iload_n 2, 1) := by decide +kernel
theorem dX2_walls_24 : decode cX2_walls 24 = .ok (.if_icmp .ge 47, 3) := by decide +kernel
theorem dX2_walls_27 : decode cX2_walls 27 = .ok (.aload_n 0, 1) := by decide +kernel
theorem dX2_walls_28 : decode cX2_walls 28 = .ok (.getfield 18, 3) := by decide +kernel
theorem dX2_walls_31 : decode cX2_walls 31 = .ok (.iload_n 3, 1) := by decide +kernel
theorem dX2_walls_32 : decode cX2_walls 32 = .ok (.iaload, 1) := by decide +kernel
theorem dX2_walls_33 : decode cX2_walls 33 = .ok (.aload_n 0, 1) := by decide +kernel
theorem dX2_walls_34 : decode cX2_walls 34 = .ok (.getfield 18, 3) := by decide +kernel
theorem dX2_walls_37 : decode cX2_walls 37 = .ok (.iload_n 2, 1) := by decide +kernel
theorem dX2_walls_38 : decode cX2_walls 38 = .ok (.iaload, 1) := by decide +kernel
theorem dX2_walls_39 : decode cX2_walls 39 = .ok (.if_icmp .gt 26, 3) := by decide +kernel
theorem dX2_walls_42 : decode cX2_walls 42 = .ok (.aload_n 0, 1) := by decide +kernel
theorem dX2_walls_43 : decode cX2_walls 43 = .ok (.getfield 21, 3) := by decide +kernel
theorem dX2_walls_46 : decode cX2_walls 46 = .ok (.iload_n 2, 1) := by decide +kernel
theorem dX2_walls_47 : decode cX2_walls 47 = .ok (.aload_n 0, 1) := by decide +kernel
theorem dX2_walls_48 : decode cX2_walls 48 = .ok (.getfield 21, 3) := by decide +kernel
theorem dX2_walls_51 : decode cX2_walls 51 = .ok (.iload_n 2, 1) := by decide +kernel
theorem dX2_walls_52 : decode cX2_walls 52 = .ok (.iaload, 1) := by decide +kernel
theorem dX2_walls_53 : decode cX2_walls 53 = .ok (.aload_n 0, 1) := by decide +kernel
theorem dX2_walls_54 : decode cX2_walls 54 = .ok (.getfield 21, 3) := by decide +kernel
theorem dX2_walls_57 : decode cX2_walls 57 = .ok (.iload_n 3, 1) := by decide +kernel
theorem dX2_walls_58 : decode cX2_walls 58 = .ok (.iaload, 1) := by decide +kernel
theorem dX2_walls_59 : decode cX2_walls 59 = .ok (.iconst 1, 1) := by decide +kernel
theorem dX2_walls_60 : decode cX2_walls 60 = .ok (.iadd, 1) := by decide +kernel
theorem dX2_walls_61 : decode cX2_walls 61 = .ok (.invokestatic 125, 3) := by decide +kernel
theorem dX2_walls_64 : decode cX2_walls 64 = .ok (.iastore, 1) := by decide +kernel
theorem dX2_walls_65 : decode cX2_walls 65 = .ok (.iinc 3 1, 3) := by decide +kernel
theorem dX2_walls_68 : decode cX2_walls 68 = .ok (.goto (-46), 3) := by decide +kernel
theorem dX2_walls_71 : decode cX2_walls 71 = .ok (.iload_n 1, 1) := by decide +kernel
theorem dX2_walls_72 : decode cX2_walls 72 = .ok (.aload_n 0, 1) := by decide +kernel
theorem dX2_walls_73 : decode cX2_walls 73 = .ok (.getfield 21, 3) := by decide +kernel
theorem dX2_walls_76 : decode cX2_walls 76 = .ok (.iload_n 2, 1) := by decide +kernel
theorem dX2_walls_77 : decode cX2_walls 77 = .ok (.iaload, 1) := by decide +kernel
theorem dX2_walls_78 : decode cX2_walls 78 = .ok (.invokestatic 125, 3) := by decide +kernel
theorem dX2_walls_81 : decode cX2_walls 81 = .ok (.istore_n 1, 1) := by decide +kernel
theorem dX2_walls_82 : decode cX2_walls 82 = .ok (.iinc 2 1, 3) := by decide +kernel
theorem dX2_walls_85 : decode cX2_walls 85 = .ok (.goto (-80), 3) := by decide +kernel
theorem dX2_walls_88 : decode cX2_walls 88 = .ok (.iload_n 1, 1) := by decide +kernel
theorem dX2_walls_89 : decode cX2_walls 89 = .ok (.ireturn, 1) := by decide +kernel
set_option maxRecDepth 20000 in
theorem ggX2_balance_J6_bitCount_0f7a4 : GoodIn wsX2_balance wsJ6_bitCount_0f7a4 := goodIn_r _ [5, 6, 7, 8] (by decide +kernel) (by decide +kernel)
set_option maxRecDepth 20000 in
theorem gX2_balance_J6_bitCount_0f7a4 : GoodIn wsX2_balance (va_wsS RX2 131 yJ6_bitCount_0f7a4 wsJ6_bitCount_0f7a4) := goodIn_app (goodIn_of _ (by decide +kernel)) ggX2_balance_J6_bitCount_0f7a4
set_option maxRecDepth 20000 in
theorem ggX2_balance_X2_sumOf : GoodIn wsX2_balance wsX2_sumOf := goodIn_r _ [13, 1, 14, 15, 16, 17, 18, 19, 20, 21, 22, 23, 24, 25, 26] (by decide +kernel) (by decide +kernel)
set_option maxRecDepth 20000 in
theorem gX2_balance_X2_sumOf : GoodIn wsX2_balance (wsV RX2 171 RX2 yX2_sumOf wsX2_sumOf) := goodIn_app (goodIn_of _ (by decide +kernel)) ggX2_balance_X2_sumOf
theorem dX2_balance_0 : decode cX2_balance 0 = .ok (.iconst 0, 1) := by decide +kernel
theorem dX2_balance_1 : decode cX2_balance 1 = .ok (.istore_n 1, 1) := by decide +kernel
theorem dX2_balance_2 : decode cX2_balance 2 = .ok (.iconst 1, 1) := by decide +kernel
theorem dX2_balance_3 : decode cX2_balance 3 = .ok (.istore_n 2, 1) := by decide +kernel
theorem dX2_balance_4 : decode cX2_balance 4 = .ok (.iload_n 2, 1) := by decide +kernel
theorem dX2_balance_5 : decode cX2_balance 5 = .ok (.iconst 1, 1) := by decide +kernel
theorem dX2_balance_6 : decode cX2_balance 6 = .ok (.aload_n 0, 1) := by decide +kernel
theorem dX2_balance_7 : decode cX2_balance 7 = .ok (.getfield 34, 3) := by decide +kernel
theorem dX2_balance_10 : decode cX2_balance 10 = .ok (.ishl, 1) := by decide +kernel
theorem dX2_balance_11 : decode cX2_balance 11 = .ok (.if_icmp .ge 30, 3) := by decide +kernel
theorem dX2_balance_14 : decode cX2_balance 14 = .ok (.iload_n 2, 1) := by decide +kernel
theorem dX2_balance_15 : decode cX2_balance 15 = .ok (.invokestatic 131, 3) := by decide +kernel
theorem dX2_balance_18 : decode cX2_balance 18 = .ok (.iload_n 1, 1) := by decide +kernel
theorem dX2_balance_19 : decode cX2_balance 19 = .ok (.invokestatic 131, 3) := by decide +kernel
theorem dX2_balance_22 : decode cX2_balance 22 = .ok (.if_icmp .le 13, 3) := by decide +kernel
theorem dX2_balance_25 : decode cX2_balance 25 = .ok (.aload_n 0, 1) := by decide +kernel
theorem dX2_balance_26 : decode cX2_balance 26 = .ok (.iload_n 2, 1) := by decide +kernel
theorem dX2_balance_27 : decode cX2_balance 27 = .ok (.invokevirtual 171, 3) := by decide +kernel
theorem dX2_balance_30 : decode cX2_balance 30 = .ok (.ifCond .ne 5, 3) := by decide +kernel
theorem dX2_balance_33 : decode cX2_balance 33 = .ok (.iload_n 2, 1) := by decide +kernel
theorem dX2_balance_34 : decode cX2_balance 34 = .ok (.istore_n 1, 1) := by decide +kernel
theorem dX2_balance_35 : decode cX2_balance 35 = .ok (.iinc 2 1, 3) := by decide +kernel
theorem dX2_balance_38 : decode cX2_balance 38 = .ok (.goto (-34), 3) := by decide +kernel
theorem dX2_balance_41 : decode cX2_balance 41 = .ok (.iload_n 1, 1) := by decide +kernel
theorem dX2_balance_42 : decode cX2_balance 42 = .ok (.ireturn, 1) := by decide +kernel
theorem dX2_sumOf_0 : decode cX2_sumOf 0 = .ok (.iconst 0, 1) := by decide +kernel
theorem dX2_sumOf_1 : decode cX2_sumOf 1 = .ok (.istore_n 2, 1) := by decide +kernel
theorem dX2_sumOf_2 : decode cX2_sumOf 2 = .ok (.iconst 0, 1) := by decide +kernel
theorem dX2_sumOf_3 : decode cX2_sumOf 3 = .ok (.istore_n 3, 1) := by decide +kernel
theorem dX2_sumOf_4 : decode cX2_sumOf 4 = .ok (.iload_n 3, 1) := by decide +kernel
theorem dX2_sumOf_5 : decode cX2_sumOf 5 = .ok (.aload_n 0, 1) := by decide +kernel
theorem dX2_sumOf_6 : decode cX2_sumOf 6 = .ok (.getfield 34, 3) := by decide +kernel
theorem dX2_sumOf_9 : decode cX2_sumOf 9 = .ok (.if_icmp .ge 26, 3) := by decide +kernel
theorem dX2_sumOf_12 : decode cX2_sumOf 12 = .ok (.iload_n 1, 1) := by decide +kernel
theorem dX2_sumOf_13 : decode cX2_sumOf 13 = .ok (.iconst 1, 1) := by decide +kernel
theorem dX2_sumOf_14 : decode cX2_sumOf 14 = .ok (.iload_n 3, 1) := by decide +kernel
theorem dX2_sumOf_15 : decode cX2_sumOf 15 = .ok (.ishl, 1) := by decide +kernel
theorem dX2_sumOf_16 : decode cX2_sumOf 16 = .ok (.iand, 1) := by decide +kernel
theorem dX2_sumOf_17 : decode cX2_sumOf 17 = .ok (.ifCond .eq 12, 3) := by decide +kernel
theorem dX2_sumOf_20 : decode cX2_sumOf 20 = .ok (.iload_n 2, 1) := by decide +kernel
theorem dX2_sumOf_21 : decode cX2_sumOf 21 = .ok (.aload_n 0, 1) := by decide +kernel
theorem dX2_sumOf_22 : decode cX2_sumOf 22 = .ok (.getfield 18, 3) := by decide +kernel
theorem dX2_sumOf_25 : decode cX2_sumOf 25 = .ok (.iload_n 3, 1) := by decide +kernel
theorem dX2_sumOf_26 : decode cX2_sumOf 26 = .ok (.iaload, 1) := by decide +kernel
theorem dX2_sumOf_27 : decode cX2_sumOf 27 = .ok (.iadd, 1) := by decide +kernel
theorem dX2_sumOf_28 : decode cX2_sumOf 28 = .ok (.istore_n 2, 1) := by decide +kernel
theorem dX2_sumOf_29 : decode cX2_sumOf 29 = .ok (.iinc 3 1, 3) := by decide +kernel
theorem dX2_sumOf_32 : decode cX2_sumOf 32 = .ok (.goto (-28), 3) := by decide +kernel
theorem dX2_sumOf_35 : decode cX2_sumOf 35 = .ok (.iload_n 2, 1) := by decide +kernel
theorem dX2_sumOf_36 : decode cX2_sumOf 36 = .ok (.ireturn, 1) := by decide +kernel
theorem dX2_side_0 : decode cX2_side 0 = .ok (.aload_n 0, 1) := by decide +kernel
theorem dX2_side_1 : decode cX2_side 1 = .ok (.getfield 18, 3) := by decide +kernel
theorem dX2_side_4 : decode cX2_side 4 = .ok (.iload_n 1, 1) := by decide +kernel
theorem dX2_side_5 : decode cX2_side 5 = .ok (.iaload, 1) := by decide +kernel
theorem dX2_side_6 : decode cX2_side 6 = .ok (.ifCond .ne 5, 3) := by decide +kernel
theorem dX2_side_9 : decode cX2_side 9 = .ok (.iconst 0, 1) := by decide +kernel
theorem dX2_side_10 : decode cX2_side 10 = .ok (.ireturn, 1) := by decide +kernel
theorem dX2_side_11 : decode cX2_side 11 = .ok (.aload_n 0, 1) := by decide +kernel
theorem dX2_side_12 : decode cX2_side 12 = .ok (.getfield 18, 3) := by decide +kernel
theorem dX2_side_15 : decode cX2_side 15 = .ok (.iload_n 1, 1) := by decide +kernel
theorem dX2_side_16 : decode cX2_side 16 = .ok (.iaload, 1) := by decide +kernel
theorem dX2_side_17 : decode cX2_side 17 = .ok (.ifCond .ge 7, 3) := by decide +kernel
theorem dX2_side_20 : decode cX2_side 20 = .ok (.iconst (-1), 1) := by decide +kernel
theorem dX2_side_21 : decode cX2_side 21 = .ok (.goto 4, 3) := by decide +kernel
theorem dX2_side_24 : decode cX2_side 24 = .ok (.iconst 1, 1) := by decide +kernel
theorem dX2_side_25 : decode cX2_side 25 = .ok (.ireturn, 1) := by decide +kernel
set_option maxRecDepth 20000 in
theorem ggX2_trusts_X2_side : GoodIn wsX2_trusts wsX2_side := goodIn_r _ [5, 6, 15, 16, 17, 18, 19, 20, 21, 22, 23, 24, 25, 26] (by decide +kernel) (by decide +kernel)
set_option maxRecDepth 20000 in
theorem gX2_trusts_X2_side : GoodIn wsX2_trusts (wsV RX2 174 RX2 yX2_side wsX2_side) := goodIn_app (goodIn_of _ (by decide +kernel)) ggX2_trusts_X2_side
set_option maxRecDepth 20000 in
theorem ggX2_trusts_X2_far : GoodIn wsX2_trusts wsX2_far := goodIn_r _ [10, 6, 11, 12, 13, 14, 15, 16, 17, 18, 19, 20, 21, 22, 23, 24, 25, 26] (by decide +kernel) (by decide +kernel)
set_option maxRecDepth 20000 in
theorem gX2_trusts_X2_far : GoodIn wsX2_trusts (wsV RX2 152 RX2 yX2_far wsX2_far) := goodIn_app (goodIn_of _ (by decide +kernel)) ggX2_trusts_X2_far
theorem dX2_trusts_0 : decode cX2_trusts 0 = .ok (.iload_n 1, 1) := by decide +kernel
theorem dX2_trusts_1 : decode cX2_trusts 1 = .ok (.iload_n 2, 1) := by decide +kernel
theorem dX2_trusts_2 : decode cX2_trusts 2 = .ok (.if_icmp .eq 36, 3) := by decide +kernel
theorem dX2_trusts_5 : decode cX2_trusts 5 = .ok (.aload_n 0, 1) := by decide +kernel
theorem dX2_trusts_6 : decode cX2_trusts 6 = .ok (.iload_n 1, 1) := by decide +kernel
theorem dX2_trusts_7 : decode cX2_trusts 7 = .ok (.invokevirtual 174, 3) := by decide +kernel
theorem dX2_trusts_10 : decode cX2_trusts 10 = .ok (.aload_n 0, 1) := by decide +kernel
theorem dX2_trusts_11 : decode cX2_trusts 11 = .ok (.iload_n 2, 1) := by decide +kernel
theorem dX2_trusts_12 : decode cX2_trusts 12 = .ok (.invokevirtual 174, 3) := by decide +kernel
theorem dX2_trusts_15 : decode cX2_trusts 15 = .ok (.if_icmp .ne 23, 3) := by decide +kernel
theorem dX2_trusts_18 : decode cX2_trusts 18 = .ok (.aload_n 0, 1) := by decide +kernel
theorem dX2_trusts_19 : decode cX2_trusts 19 = .ok (.iload_n 2, 1) := by decide +kernel
theorem dX2_trusts_20 : decode cX2_trusts 20 = .ok (.invokevirtual 152, 3) := by decide +kernel
theorem dX2_trusts_23 : decode cX2_trusts 23 = .ok (.aload_n 0, 1) := by decide +kernel
theorem dX2_trusts_24 : decode cX2_trusts 24 = .ok (.iload_n 1, 1) := by decide +kernel
theorem dX2_trusts_25 : decode cX2_trusts 25 = .ok (.invokevirtual 152, 3) := by decide +kernel
theorem dX2_trusts_28 : decode cX2_trusts 28 = .ok (.bipush 10, 2) := by decide +kernel
theorem dX2_trusts_30 : decode cX2_trusts 30 = .ok (.iadd, 1) := by decide +kernel
theorem dX2_trusts_31 : decode cX2_trusts 31 = .ok (.if_icmp .gt 7, 3) := by decide +kernel
theorem dX2_trusts_34 : decode cX2_trusts 34 = .ok (.iconst 1, 1) := by decide +kernel
theorem dX2_trusts_35 : decode cX2_trusts 35 = .ok (.goto 4, 3) := by decide +kernel
theorem dX2_trusts_38 : decode cX2_trusts 38 = .ok (.iconst 0, 1) := by decide +kernel
theorem dX2_trusts_39 : decode cX2_trusts 39 = .ok (.ireturn, 1) := by decide +kernel
set_option maxRecDepth 20000 in
theorem ggX2_trustedBy_X2_trusts : GoodIn wsX2_trustedBy wsX2_trusts := goodIn_r _ [6, 7, 8, 9, 5, 10, 11, 12, 13, 14, 15, 16, 17, 18, 19, 20, 21, 22, 23, 24, 25, 26, 27, 28, 29, 30, 31] (by decide +kernel) (by decide +kernel)
set_option maxRecDepth 20000 in
theorem gX2_trustedBy_X2_trusts : GoodIn wsX2_trustedBy (wsV RX2 177 RX2 yX2_trusts wsX2_trusts) := goodIn_app (goodIn_of _ (by decide +kernel)) ggX2_trustedBy_X2_trusts
theorem dX2_trustedBy_0 : decode cX2_trustedBy 0 = .ok (.iconst 0, 1) := by decide +kernel
theorem dX2_trustedBy_1 : decode cX2_trustedBy 1 = .ok (.istore_n 2, 1) := by decide +kernel
theorem dX2_trustedBy_2 : decode cX2_trustedBy 2 = .ok (.iconst 0, 1) := by decide +kernel
theorem dX2_trustedBy_3 : decode cX2_trustedBy 3 = .ok (.istore_n 3, 1) := by decide +kernel
theorem dX2_trustedBy_4 : decode cX2_trustedBy 4 = .ok (.iload_n 3, 1) := by decide +kernel
theorem dX2_trustedBy_5 : decode cX2_trustedBy 5 = .ok (.aload_n 0, 1) := by decide +kernel
theorem dX2_trustedBy_6 : decode cX2_trustedBy 6 = .ok (.getfield 34, 3) := by decide +kernel
theorem dX2_trustedBy_9 : decode cX2_trustedBy 9 = .ok (.if_icmp .ge 24, 3) := by decide +kernel
theorem dX2_trustedBy_12 : decode cX2_trustedBy 12 = .ok (.aload_n 0, 1) := by decide +kernel
theorem dX2_trustedBy_13 : decode cX2_trustedBy 13 = .ok (.iload_n 3, 1) := by decide +kernel
theorem dX2_trustedBy_14 : decode cX2_trustedBy 14 = .ok (.iload_n 1, 1) := by decide +kernel
theorem dX2_trustedBy_15 : decode cX2_trustedBy 15 = .ok (.invokevirtual 177, 3) := by decide +kernel
theorem dX2_trustedBy_18 : decode cX2_trustedBy 18 = .ok (.ifCond .eq 9, 3) := by decide +kernel
theorem dX2_trustedBy_21 : decode cX2_trustedBy 21 = .ok (.iload_n 2, 1) := by decide +kernel
theorem dX2_trustedBy_22 : decode cX2_trustedBy 22 = .ok (.iconst 1, 1) := by decide +kernel
theorem dX2_trustedBy_23 : decode cX2_trustedBy 23 = .ok (.iload_n 3, 1) := by decide +kernel
theorem dX2_trustedBy_24 : decode cX2_trustedBy 24 = .ok (.ishl, 1) := by decide +kernel
theorem dX2_trustedBy_25 : decode cX2_trustedBy 25 = .ok (.ior, 1) := by decide +kernel
theorem dX2_trustedBy_26 : decode cX2_trustedBy 26 = .ok (.istore_n 2, 1) := by decide +kernel
theorem dX2_trustedBy_27 : decode cX2_trustedBy 27 = .ok (.iinc 3 1, 3) := by decide +kernel
theorem dX2_trustedBy_30 : decode cX2_trustedBy 30 = .ok (.goto (-26), 3) := by decide +kernel
theorem dX2_trustedBy_33 : decode cX2_trustedBy 33 = .ok (.iload_n 2, 1) := by decide +kernel
theorem dX2_trustedBy_34 : decode cX2_trustedBy 34 = .ok (.ireturn, 1) := by decide +kernel
set_option maxRecDepth 20000 in
theorem ggX2_mostTrusted_X2_trustedBy : GoodIn wsX2_mostTrusted wsX2_trustedBy := goodIn_r _ [6, 1, 7, 8, 9, 5, 10, 11, 12, 13, 14, 15, 16, 17, 18, 19, 20, 21, 22, 23, 31, 32, 33, 34, 35, 36, 37, 38, 39, 40, 41, 42] (by decide +kernel) (by decide +kernel)
set_option maxRecDepth 20000 in
theorem gX2_mostTrusted_X2_trustedBy : GoodIn wsX2_mostTrusted (wsV RX2 180 RX2 yX2_trustedBy wsX2_trustedBy) := goodIn_app (goodIn_of _ (by decide +kernel)) ggX2_mostTrusted_X2_trustedBy
set_option maxRecDepth 20000 in
theorem ggX2_mostTrusted_J6_bitCount_0f7a4 : GoodIn wsX2_mostTrusted wsJ6_bitCount_0f7a4 := goodIn_r _ [27, 28, 29, 30] (by decide +kernel) (by decide +kernel)
set_option maxRecDepth 20000 in
theorem gX2_mostTrusted_J6_bitCount_0f7a4 : GoodIn wsX2_mostTrusted (va_wsS RX2 131 yJ6_bitCount_0f7a4 wsJ6_bitCount_0f7a4) := goodIn_app (goodIn_of _ (by decide +kernel)) ggX2_mostTrusted_J6_bitCount_0f7a4
theorem dX2_mostTrusted_0 : decode cX2_mostTrusted 0 = .ok (.bipush (-4), 2) := by decide +kernel
theorem dX2_mostTrusted_2 : decode cX2_mostTrusted 2 = .ok (.istore_n 1, 1) := by decide +kernel
theorem dX2_mostTrusted_3 : decode cX2_mostTrusted 3 = .ok (.iconst (-1), 1) := by decide +kernel
theorem dX2_mostTrusted_4 : decode cX2_mostTrusted 4 = .ok (.istore_n 2, 1) := by decide +kernel
theorem dX2_mostTrusted_5 : decode cX2_mostTrusted 5 = .ok (.iconst 0, 1) := by decide +kernel
theorem dX2_mostTrusted_6 : decode cX2_mostTrusted 6 = .ok (.istore_n 3, 1) := by decide +kernel
theorem dX2_mostTrusted_7 : decode cX2_mostTrusted 7 = .ok (.iload_n 3, 1) := by decide +kernel
theorem dX2_mostTrusted_8 : decode cX2_mostTrusted 8 = .ok (.aload_n 0, 1) := by decide +kernel
theorem dX2_mostTrusted_9 : decode cX2_mostTrusted 9 = .ok (.getfield 34, 3) := by decide +kernel
theorem dX2_mostTrusted_12 : decode cX2_mostTrusted 12 = .ok (.if_icmp .ge 30, 3) := by decide +kernel
theorem dX2_mostTrusted_15 : decode cX2_mostTrusted 15 = .ok (.aload_n 0, 1) := by decide +kernel
theorem dX2_mostTrusted_16 : decode cX2_mostTrusted 16 = .ok (.iload_n 3, 1) := by decide +kernel
theorem dX2_mostTrusted_17 : decode cX2_mostTrusted 17 = .ok (.invokevirtual 180, 3) := by decide +kernel
theorem dX2_mostTrusted_20 : decode cX2_mostTrusted 20 = .ok (.invokestatic 131, 3) := by decide +kernel
theorem dX2_mostTrusted_23 : decode cX2_mostTrusted 23 = .ok (.istore 4, 2) := by decide +kernel
theorem dX2_mostTrusted_25 : decode cX2_mostTrusted 25 = .ok (.iload 4, 2) := by decide +kernel
theorem dX2_mostTrusted_27 : decode cX2_mostTrusted 27 = .ok (.iload_n 2, 1) := by decide +kernel
theorem dX2_mostTrusted_28 : decode cX2_mostTrusted 28 = .ok (.if_icmp .le 8, 3) := by decide +kernel
theorem dX2_mostTrusted_31 : decode cX2_mostTrusted 31 = .ok (.iload 4, 2) := by decide +kernel
theorem dX2_mostTrusted_33 : decode cX2_mostTrusted 33 = .ok (.istore_n 2, 1) := by decide +kernel
theorem dX2_mostTrusted_34 : decode cX2_mostTrusted 34 = .ok (.iload_n 3, 1) := by decide +kernel
theorem dX2_mostTrusted_35 : decode cX2_mostTrusted 35 = .ok (.istore_n 1, 1) := by decide +kernel
theorem dX2_mostTrusted_36 : decode cX2_mostTrusted 36 = .ok (.iinc 3 1, 3) := by decide +kernel
theorem dX2_mostTrusted_39 : decode cX2_mostTrusted 39 = .ok (.goto (-32), 3) := by decide +kernel
theorem dX2_mostTrusted_42 : decode cX2_mostTrusted 42 = .ok (.iload_n 1, 1) := by decide +kernel
theorem dX2_mostTrusted_43 : decode cX2_mostTrusted 43 = .ok (.ireturn, 1) := by decide +kernel
set_option maxRecDepth 20000 in
theorem ggX2_rivals_X2_trusts : GoodIn wsX2_rivals wsX2_trusts := goodIn_r _ [6, 7, 8, 9, 5, 10, 11, 12, 13, 14, 15, 16, 17, 18, 19, 20, 21, 22, 23, 24, 25, 26, 27, 28, 29, 30, 31] (by decide +kernel) (by decide +kernel)
set_option maxRecDepth 20000 in
theorem gX2_rivals_X2_trusts : GoodIn wsX2_rivals (wsV RX2 177 RX2 yX2_trusts wsX2_trusts) := goodIn_app (goodIn_of _ (by decide +kernel)) ggX2_rivals_X2_trusts
theorem dX2_rivals_0 : decode cX2_rivals 0 = .ok (.iconst 0, 1) := by decide +kernel
theorem dX2_rivals_1 : decode cX2_rivals 1 = .ok (.istore_n 1, 1) := by decide +kernel
theorem dX2_rivals_2 : decode cX2_rivals 2 = .ok (.iconst 0, 1) := by decide +kernel
theorem dX2_rivals_3 : decode cX2_rivals 3 = .ok (.istore_n 2, 1) := by decide +kernel
theorem dX2_rivals_4 : decode cX2_rivals 4 = .ok (.iload_n 2, 1) := by decide +kernel
theorem dX2_rivals_5 : decode cX2_rivals 5 = .ok (.aload_n 0, 1) := by decide +kernel
theorem dX2_rivals_6 : decode cX2_rivals 6 = .ok (.getfield 34, 3) := by decide +kernel
theorem dX2_rivals_9 : decode cX2_rivals 9 = .ok (.if_icmp .ge 43, 3) := by decide +kernel
theorem dX2_rivals_12 : decode cX2_rivals 12 = .ok (.iconst 0, 1) := by decide +kernel
theorem dX2_rivals_13 : decode cX2_rivals 13 = .ok (.istore_n 3, 1) := by decide +kernel
theorem dX2_rivals_14 : decode cX2_rivals 14 = .ok (.iload_n 3, 1) := by decide +kernel
theorem dX2_rivals_15 : decode cX2_rivals 15 = .ok (.iload_n 2, 1) := by decide +kernel
theorem dX2_rivals_16 : decode cX2_rivals 16 = .ok (.if_icmp .ge 30, 3) := by decide +kernel
theorem dX2_rivals_19 : decode cX2_rivals 19 = .ok (.aload_n 0, 1) := by decide +kernel
theorem dX2_rivals_20 : decode cX2_rivals 20 = .ok (.iload_n 2, 1) := by decide +kernel
theorem dX2_rivals_21 : decode cX2_rivals 21 = .ok (.iload_n 3, 1) := by decide +kernel
theorem dX2_rivals_22 : decode cX2_rivals 22 = .ok (.invokevirtual 177, 3) := by decide +kernel
theorem dX2_rivals_25 : decode cX2_rivals 25 = .ok (.ifCond .ne 15, 3) := by decide +kernel
theorem dX2_rivals_28 : decode cX2_rivals 28 = .ok (.aload_n 0, 1) := by decide +kernel
theorem dX2_rivals_29 : decode cX2_rivals 29 = .ok (.iload_n 3, 1) := by decide +kernel
theorem dX2_rivals_30 : decode cX2_rivals 30 = .ok (.iload_n 2, 1) := by decide +kernel
theorem dX2_rivals_31 : decode cX2_rivals 31 = .ok (.invokevirtual 177, 3) := by decide +kernel
theorem dX2_rivals_34 : decode cX2_rivals 34 = .ok (.ifCond .ne 6, 3) := by decide +kernel
theorem dX2_rivals_37 : decode cX2_rivals 37 = .ok (.iinc 1 1, 3) := by decide +kernel
theorem dX2_rivals_40 : decode cX2_rivals 40 = .ok (.iinc 3 1, 3) := by decide +kernel
theorem dX2_rivals_43 : decode cX2_rivals 43 = .ok (.goto (-29), 3) := by decide +kernel
theorem dX2_rivals_46 : decode cX2_rivals 46 = .ok (.iinc 2 1, 3) := by decide +kernel
theorem dX2_rivals_49 : decode cX2_rivals 49 = .ok (.goto (-45), 3) := by decide +kernel
theorem dX2_rivals_52 : decode cX2_rivals 52 = .ok (.iload_n 1, 1) := by decide +kernel
theorem dX2_rivals_53 : decode cX2_rivals 53 = .ok (.ireturn, 1) := by decide +kernel
set_option maxRecDepth 20000 in
theorem ggX2_tellers_X2_trustedBy : GoodIn wsX2_tellers wsX2_trustedBy := goodIn_r _ [6, 1, 7, 8, 9, 5, 10, 11, 12, 13, 14, 15, 16, 17, 18, 19, 20, 21, 22, 23, 24, 25, 26, 27, 28, 29, 30, 31, 32, 33, 34, 35] (by decide +kernel) (by decide +kernel)
set_option maxRecDepth 20000 in
theorem gX2_tellers_X2_trustedBy : GoodIn wsX2_tellers (wsV RX2 180 RX2 yX2_trustedBy wsX2_trustedBy) := goodIn_app (goodIn_of _ (by decide +kernel)) ggX2_tellers_X2_trustedBy
theorem dX2_tellers_0 : decode cX2_tellers 0 = .ok (.aload_n 0, 1) := by decide +kernel
theorem dX2_tellers_1 : decode cX2_tellers 1 = .ok (.iload_n 1, 1) := by decide +kernel
theorem dX2_tellers_2 : decode cX2_tellers 2 = .ok (.invokevirtual 180, 3) := by decide +kernel
theorem dX2_tellers_5 : decode cX2_tellers 5 = .ok (.istore_n 2, 1) := by decide +kernel
theorem dX2_tellers_6 : decode cX2_tellers 6 = .ok (.iconst 0, 1) := by decide +kernel
theorem dX2_tellers_7 : decode cX2_tellers 7 = .ok (.istore_n 3, 1) := by decide +kernel
theorem dX2_tellers_8 : decode cX2_tellers 8 = .ok (.iload_n 3, 1) := by decide +kernel
theorem dX2_tellers_9 : decode cX2_tellers 9 = .ok (.aload_n 0, 1) := by decide +kernel
theorem dX2_tellers_10 : decode cX2_tellers 10 = .ok (.getfield 34, 3) := by decide +kernel
theorem dX2_tellers_13 : decode cX2_tellers 13 = .ok (.if_icmp .ge 53, 3) := by decide +kernel
theorem dX2_tellers_16 : decode cX2_tellers 16 = .ok (.iload_n 2, 1) := by decide +kernel
theorem dX2_tellers_17 : decode cX2_tellers 17 = .ok (.istore 4, 2) := by decide +kernel
theorem dX2_tellers_19 : decode cX2_tellers 19 = .ok (.iconst 0, 1) := by decide +kernel
theorem dX2_tellers_20 : decode cX2_tellers 20 = .ok (.istore 5, 2) := by decide +kernel
theorem dX2_tellers_22 : decode cX2_tellers 22 = .ok (.iload 5, 2) := by decide +kernel
theorem dX2_tellers_24 : decode cX2_tellers 24 = .ok (.aload_n 0, 1) := by decide +kernel
theorem dX2_tellers_25 : decode cX2_tellers 25 = .ok (.getfield 34, 3) := by decide +kernel
theorem dX2_tellers_28 : decode cX2_tellers 28 = .ok (.if_icmp .ge 29, 3) := by decide +kernel
theorem dX2_tellers_31 : decode cX2_tellers 31 = .ok (.iload_n 2, 1) := by decide +kernel
theorem dX2_tellers_32 : decode cX2_tellers 32 = .ok (.iconst 1, 1) := by decide +kernel
theorem dX2_tellers_33 : decode cX2_tellers 33 = .ok (.iload 5, 2) := by decide +kernel
theorem dX2_tellers_35 : decode cX2_tellers 35 = .ok (.ishl, 1) := by decide +kernel
theorem dX2_tellers_36 : decode cX2_tellers 36 = .ok (.iand, 1) := by decide +kernel
theorem dX2_tellers_37 : decode cX2_tellers 37 = .ok (.ifCond .eq 14, 3) := by decide +kernel
theorem dX2_tellers_40 : decode cX2_tellers 40 = .ok (.iload 4, 2) := by decide +kernel
theorem dX2_tellers_42 : decode cX2_tellers 42 = .ok (.aload_n 0, 1) := by decide +kernel
theorem dX2_tellers_43 : decode cX2_tellers 43 = .ok (.iload 5, 2) := by decide +kernel
theorem dX2_tellers_45 : decode cX2_tellers 45 = .ok (.invokevirtual 180, 3) := by decide +kernel
theorem dX2_tellers_48 : decode cX2_tellers 48 = .ok (.ior, 1) := by decide +kernel
theorem dX2_tellers_49 : decode cX2_tellers 49 = .ok (.istore 4, 2) := by decide +kernel
theorem dX2_tellers_51 : decode cX2_tellers 51 = .ok (.iinc 5 1, 3) := by decide +kernel
theorem dX2_tellers_54 : decode cX2_tellers 54 = .ok (.goto (-32), 3) := by decide +kernel
theorem dX2_tellers_57 : decode cX2_tellers 57 = .ok (.iload 4, 2) := by decide +kernel
theorem dX2_tellers_59 : decode cX2_tellers 59 = .ok (.istore_n 2, 1) := by decide +kernel
theorem dX2_tellers_60 : decode cX2_tellers 60 = .ok (.iinc 3 1, 3) := by decide +kernel
theorem dX2_tellers_63 : decode cX2_tellers 63 = .ok (.goto (-55), 3) := by decide +kernel
theorem dX2_tellers_66 : decode cX2_tellers 66 = .ok (.iload_n 2, 1) := by decide +kernel
theorem dX2_tellers_67 : decode cX2_tellers 67 = .ok (.ireturn, 1) := by decide +kernel
set_option maxRecDepth 20000 in
theorem ggX3_init_X4_init : GoodIn wsX3_init wsX4_init := goodIn_r _ [3, 4, 5, 6] (by decide +kernel) (by decide +kernel)
set_option maxRecDepth 20000 in
theorem gX3_init_X4_init_n1 : GoodIn wsX3_init (wsX4_init) := ggX3_init_X4_init
theorem dX3_init_0 : decode cX3_init 0 = .ok (.aload_n 0, 1) := by decide +kernel
theorem dX3_init_1 : decode cX3_init 1 = .ok (.invokespecial 1, 3) := by decide +kernel
theorem dX3_init_4 : decode cX3_init 4 = .ok (.return_, 1) := by decide +kernel
theorem dX3_leansMore_0 : decode cX3_leansMore 0 = .ok (.iload_n 1, 1) := by decide +kernel
theorem dX3_leansMore_1 : decode cX3_leansMore 1 = .ok (.iload_n 3, 1) := by decide +kernel
theorem dX3_leansMore_2 : decode cX3_leansMore 2 = .ok (.iconst 2, 1) := by decide +kernel
theorem dX3_leansMore_3 : decode cX3_leansMore 3 = .ok (.invokestatic 7, 3) := by decide +kernel
theorem dX3_leansMore_6 : decode cX3_leansMore 6 = .ok (.ireturn, 1) := by decide +kernel
set_option maxRecDepth 20000 in
theorem ggX3_uprightWithin_X4_uprightWithin : GoodIn wsX3_uprightWithin wsX4_uprightWithin := goodIn_r _ [6] (by decide +kernel) (by decide +kernel)
set_option maxRecDepth 20000 in
theorem gX3_uprightWithin_X4_uprightWithin_s13 : GoodIn wsX3_uprightWithin (va_wsSU RX3 13 yX4_uprightWithin wsX4_uprightWithin) := goodIn_app (goodIn_of _ (by decide +kernel)) ggX3_uprightWithin_X4_uprightWithin
theorem dX3_uprightWithin_0 : decode cX3_uprightWithin 0 = .ok (.aload_n 0, 1) := by decide +kernel
theorem dX3_uprightWithin_1 : decode cX3_uprightWithin 1 = .ok (.iload_n 1, 1) := by decide +kernel
theorem dX3_uprightWithin_2 : decode cX3_uprightWithin 2 = .ok (.invokespecial 13, 3) := by decide +kernel
theorem dX3_uprightWithin_5 : decode cX3_uprightWithin 5 = .ok (.iconst 3, 1) := by decide +kernel
theorem dX3_uprightWithin_6 : decode cX3_uprightWithin 6 = .ok (.iadd, 1) := by decide +kernel
theorem dX3_uprightWithin_7 : decode cX3_uprightWithin 7 = .ok (.ireturn, 1) := by decide +kernel
theorem dX3_priceBy_0 : decode cX3_priceBy 0 = .ok (.iconst 2, 1) := by decide +kernel
theorem dX3_priceBy_1 : decode cX3_priceBy 1 = .ok (.ireturn, 1) := by decide +kernel
theorem dX4_init_0 : decode cX4_init 0 = .ok (.aload_n 0, 1) := by decide +kernel
theorem dX4_init_1 : decode cX4_init 1 = .ok (.invokespecial 1, 3) := by decide +kernel
theorem dX4_init_4 : decode cX4_init 4 = .ok (.return_, 1) := by decide +kernel
set_option maxRecDepth 20000 in
theorem ggX4_leansMore_X4_stepTowards : GoodIn wsX4_leansMore wsX4_stepTowards := goodIn_r _ [4] (by decide +kernel) (by decide +kernel)
set_option maxRecDepth 20000 in
theorem gX4_leansMore_X4_stepTowards : GoodIn wsX4_leansMore (va_wsS RX4 7 yX4_stepTowards wsX4_stepTowards) := goodIn_app (goodIn_of _ (by decide +kernel)) ggX4_leansMore_X4_stepTowards
theorem dX4_leansMore_0 : decode cX4_leansMore 0 = .ok (.iload_n 1, 1) := by decide +kernel
theorem dX4_leansMore_1 : decode cX4_leansMore 1 = .ok (.iload_n 3, 1) := by decide +kernel
theorem dX4_leansMore_2 : decode cX4_leansMore 2 = .ok (.iconst 1, 1) := by decide +kernel
theorem dX4_leansMore_3 : decode cX4_leansMore 3 = .ok (.invokestatic 7, 3) := by decide +kernel
theorem dX4_leansMore_6 : decode cX4_leansMore 6 = .ok (.ireturn, 1) := by decide +kernel
theorem dX4_uprightWithin_0 : decode cX4_uprightWithin 0 = .ok (.iconst 5, 1) := by decide +kernel
theorem dX4_uprightWithin_1 : decode cX4_uprightWithin 1 = .ok (.ireturn, 1) := by decide +kernel
theorem dX4_discountAt_0 : decode cX4_discountAt 0 = .ok (.iload_n 1, 1) := by decide +kernel
theorem dX4_discountAt_1 : decode cX4_discountAt 1 = .ok (.ireturn, 1) := by decide +kernel
theorem dX4_priceBy_0 : decode cX4_priceBy 0 = .ok (.iconst 3, 1) := by decide +kernel
theorem dX4_priceBy_1 : decode cX4_priceBy 1 = .ok (.ireturn, 1) := by decide +kernel
theorem dX4_failsBy_0 : decode cX4_failsBy 0 = .ok (.iload_n 1, 1) := by decide +kernel
theorem dX4_failsBy_1 : decode cX4_failsBy 1 = .ok (.ifCond .eq 13, 3) := by decide +kernel
theorem dX4_failsBy_4 : decode cX4_failsBy 4 = .ok (.new 13, 3) := by decide +kernel
theorem dX4_failsBy_7 : decode cX4_failsBy 7 = .ok (.dup, 1) := by decide +kernel
theorem dX4_failsBy_8 : decode cX4_failsBy 8 = .ok (.ldc 15, 2) := by decide +kernel
theorem dX4_failsBy_10 : decode cX4_failsBy 10 = .ok (.invokespecial 17, 3) := by decide +kernel
theorem dX4_failsBy_13 : decode cX4_failsBy 13 = .ok (.athrow, 1) := by decide +kernel
theorem dX4_failsBy_14 : decode cX4_failsBy 14 = .ok (.return_, 1) := by decide +kernel
theorem dX4_stepTowards_0 : decode cX4_stepTowards 0 = .ok (.iload_n 1, 1) := by decide +kernel
theorem dX4_stepTowards_1 : decode cX4_stepTowards 1 = .ok (.iload_n 0, 1) := by decide +kernel
theorem dX4_stepTowards_2 : decode cX4_stepTowards 2 = .ok (.isub, 1) := by decide +kernel
theorem dX4_stepTowards_3 : decode cX4_stepTowards 3 = .ok (.istore_n 3, 1) := by decide +kernel
theorem dX4_stepTowards_4 : decode cX4_stepTowards 4 = .ok (.iload_n 3, 1) := by decide +kernel
theorem dX4_stepTowards_5 : decode cX4_stepTowards 5 = .ok (.iload_n 2, 1) := by decide +kernel
theorem dX4_stepTowards_6 : decode cX4_stepTowards 6 = .ok (.if_icmp .le 5, 3) := by decide +kernel
theorem dX4_stepTowards_9 : decode cX4_stepTowards 9 = .ok (.iload_n 2, 1) := by decide +kernel
theorem dX4_stepTowards_10 : decode cX4_stepTowards 10 = .ok (.ireturn, 1) := by decide +kernel
theorem dX4_stepTowards_11 : decode cX4_stepTowards 11 = .ok (.iload_n 3, 1) := by decide +kernel
theorem dX4_stepTowards_12 : decode cX4_stepTowards 12 = .ok (.iload_n 2, 1) := by decide +kernel
theorem dX4_stepTowards_13 : decode cX4_stepTowards 13 = .ok (.ineg, 1) := by decide +kernel
theorem dX4_stepTowards_14 : decode cX4_stepTowards 14 = .ok (.if_icmp .ge 8, 3) := by decide +kernel
theorem dX4_stepTowards_17 : decode cX4_stepTowards 17 = .ok (.iload_n 2, 1) := by decide +kernel
theorem dX4_stepTowards_18 : decode cX4_stepTowards 18 = .ok (.ineg, 1) := by decide +kernel
theorem dX4_stepTowards_19 : decode cX4_stepTowards 19 = .ok (.goto 4, 3) := by decide +kernel
theorem dX4_stepTowards_22 : decode cX4_stepTowards 22 = .ok (.iload_n 3, 1) := by decide +kernel
theorem dX4_stepTowards_23 : decode cX4_stepTowards 23 = .ok (.ireturn, 1) := by decide +kernel
theorem dX5_init_0 : decode cX5_init 0 = .ok (.aload_n 0, 1) := by decide +kernel
theorem dX5_init_1 : decode cX5_init 1 = .ok (.invokespecial 3, 3) := by decide +kernel
theorem dX5_init_4 : decode cX5_init 4 = .ok (.aload_n 0, 1) := by decide +kernel
theorem dX5_init_5 : decode cX5_init 5 = .ok (.iconst 4, 1) := by decide +kernel
theorem dX5_init_6 : decode cX5_init 6 = .ok (.newarray .int, 2) := by decide +kernel
theorem dX5_init_8 : decode cX5_init 8 = .ok (.putfield 9, 3) := by decide +kernel
theorem dX5_init_11 : decode cX5_init 11 = .ok (.aload_n 0, 1) := by decide +kernel
theorem dX5_init_12 : decode cX5_init 12 = .ok (.iconst 4, 1) := by decide +kernel
theorem dX5_init_13 : decode cX5_init 13 = .ok (.newarray .int, 2) := by decide +kernel
theorem dX5_init_15 : decode cX5_init 15 = .ok (.putfield 15, 3) := by decide +kernel
theorem dX5_init_18 : decode cX5_init 18 = .ok (.aload_n 0, 1) := by decide +kernel
theorem dX5_init_19 : decode cX5_init 19 = .ok (.bipush 8, 2) := by decide +kernel
theorem dX5_init_21 : decode cX5_init 21 = .ok (.newarray .int, 2) := by decide +kernel
theorem dX5_init_23 : decode cX5_init 23 = .ok (.putfield 18, 3) := by decide +kernel
theorem dX5_init_26 : decode cX5_init 26 = .ok (.aload_n 0, 1) := by decide +kernel
theorem dX5_init_27 : decode cX5_init 27 = .ok (.aload_n 1, 1) := by decide +kernel
theorem dX5_init_28 : decode cX5_init 28 = .ok (.putfield 21, 3) := by decide +kernel
theorem dX5_init_31 : decode cX5_init 31 = .ok (.aload_n 0, 1) := by decide +kernel
theorem dX5_init_32 : decode cX5_init 32 = .ok (.aload_n 2, 1) := by decide +kernel
theorem dX5_init_33 : decode cX5_init 33 = .ok (.putfield 25, 3) := by decide +kernel
theorem dX5_init_36 : decode cX5_init 36 = .ok (.return_, 1) := by decide +kernel
set_option maxRecDepth 20000 in
theorem ggX5_after_X2_becomes : GoodIn wsX5_after wsX2_becomes := goodIn_r _ [7, 8, 9, 10, 11, 12, 13, 14, 15, 16, 17, 18, 19, 20, 152, 153, 154, 155, 156, 157, 158, 159, 160, 161, 162, 163] (by decide +kernel) (by decide +kernel)
set_option maxRecDepth 20000 in
theorem gX5_after_X2_becomes : GoodIn wsX5_after (wsV RX5 28 RX2 yX2_becomes wsX2_becomes) := goodIn_app (goodIn_of _ (by decide +kernel)) ggX5_after_X2_becomes
set_option maxRecDepth 20000 in
theorem ggX5_after_X2_passDays : GoodIn wsX5_after wsX2_passDays := goodIn_r _ [24, 25, 26, 27, 28, 6, 29, 20, 15, 30, 8, 14, 13, 31, 32, 33, 34, 35, 36, 37, 19, 18, 38, 39, 40, 41, 42, 43, 44, 45, 16, 46, 47, 48, 49, 50, 51, 52, 53, 54, 55, 56, 57, 58, 59, 60, 61, 62, 63, 64, 65, 66, 67, 68, 69, 70, 71, 72, 73, 74, 75, 76, 77, 78, 79, 80, 81, 82, 83, 84, 85, 86, 87, 88, 89, 90, 91, 92, 93, 94, 95, 96, 97, 98, 99, 100, 101, 102, 103, 104, 105, 106, 107, 108, 109, 110, 111, 112, 113, 114, 115, 116, 117, 118, 119, 120, 121, 122, 123, 124, 125, 126, 127, 128, 129, 130, 131, 132, 133, 134, 135, 136, 137, 138, 139, 140, 141, 17, 142, 143, 144, 145, 146, 152, 153, 154, 155, 156, 157, 158, 159, 160, 161, 162, 163] (by decide +kernel) (by decide +kernel)
set_option maxRecDepth 20000 in
theorem gX5_after_X2_passDays : GoodIn wsX5_after (wsV RX5 34 RX2 yX2_passDays wsX2_passDays) := goodIn_app (goodIn_of _ (by decide +kernel)) ggX5_after_X2_passDays
theorem dX5_after_0 : decode cX5_after 0 = .ok (.aload_n 0, 1) := by decide +kernel
theorem dX5_after_1 : decode cX5_after 1 = .ok (.getfield 25, 3) := by decide +kernel
theorem dX5_after_4 : decode cX5_after 4 = .ok (.aload_n 0, 1) := by decide +kernel
theorem dX5_after_5 : decode cX5_after 5 = .ok (.getfield 21, 3) := by decide +kernel
theorem dX5_after_8 : decode cX5_after 8 = .ok (.invokevirtual 28, 3) := by decide +kernel
theorem dX5_after_11 : decode cX5_after 11 = .ok (.aload_n 0, 1) := by decide +kernel
theorem dX5_after_12 : decode cX5_after 12 = .ok (.getfield 25, 3) := by decide +kernel
theorem dX5_after_15 : decode cX5_after 15 = .ok (.iload_n 1, 1) := by decide +kernel
theorem dX5_after_16 : decode cX5_after 16 = .ok (.invokevirtual 34, 3) := by decide +kernel
theorem dX5_after_19 : decode cX5_after 19 = .ok (.pop, 1) := by decide +kernel
theorem dX5_after_20 : decode cX5_after 20 = .ok (.aload_n 0, 1) := by decide +kernel
theorem dX5_after_21 : decode cX5_after 21 = .ok (.getfield 25, 3) := by decide +kernel
theorem dX5_after_24 : decode cX5_after 24 = .ok (.areturn, 1) := by decide +kernel
set_option maxRecDepth 20000 in
theorem ggX5_daysToStraight_X2_becomes : GoodIn wsX5_daysToStraight wsX2_becomes := goodIn_r _ [8, 9, 10, 11, 12, 13, 14, 15, 16, 17, 18, 19, 20, 21, 149, 150, 151, 152, 153, 154, 155, 156, 157, 158, 159, 160] (by decide +kernel) (by decide +kernel)
set_option maxRecDepth 20000 in
theorem gX5_daysToStraight_X2_becomes : GoodIn wsX5_daysToStraight (wsV RX5 28 RX2 yX2_becomes wsX2_becomes) := goodIn_app (goodIn_of _ (by decide +kernel)) ggX5_daysToStraight_X2_becomes
set_option maxRecDepth 20000 in
theorem ggX5_daysToStraight_X2_passDay : GoodIn wsX5_daysToStraight wsX2_passDay := goodIn_r _ [25, 21, 16, 26, 9, 15, 14, 27, 28, 29, 30, 31, 32, 33, 34, 20, 19, 35, 36, 37, 7, 38, 39, 40, 41, 42, 17, 43, 44, 45, 46, 47, 48, 49, 50, 51, 52, 53, 54, 55, 56, 57, 58, 59, 60, 61, 62, 63, 64, 65, 66, 67, 68, 69, 70, 71, 72, 73, 74, 75, 76, 77, 78, 79, 80, 81, 82, 83, 84, 85, 86, 87, 88, 89, 90, 91, 92, 93, 94, 95, 96, 97, 98, 99, 100, 101, 102, 103, 104, 105, 106, 107, 108, 109, 110, 111, 112, 113, 114, 115, 116, 117, 118, 119, 120, 121, 122, 123, 124, 125, 126, 127, 128, 129, 130, 131, 132, 133, 134, 135, 136, 137, 138, 18, 139, 140, 141, 142, 143, 149, 150, 151, 152, 153, 154, 155, 156, 157, 158, 159, 160] (by decide +kernel) (by decide +kernel)
set_option maxRecDepth 20000 in
theorem gX5_daysToStraight_X2_passDay : GoodIn wsX5_daysToStraight (wsV RX5 41 RX2 yX2_passDay wsX2_passDay) := goodIn_app (goodIn_of _ (by decide +kernel)) ggX5_daysToStraight_X2_passDay
theorem dX5_daysToStraight_0 : decode cX5_daysToStraight 0 = .ok (.aload_n 0, 1) := by decide +kernel
theorem dX5_daysToStraight_1 : decode cX5_daysToStraight 1 = .ok (.getfield 25, 3) := by decide +kernel
theorem dX5_daysToStraight_4 : decode cX5_daysToStraight 4 = .ok (.aload_n 0, 1) := by decide +kernel
theorem dX5_daysToStraight_5 : decode cX5_daysToStraight 5 = .ok (.getfield 21, 3) := by decide +kernel
theorem dX5_daysToStraight_8 : decode cX5_daysToStraight 8 = .ok (.invokevirtual 28, 3) := by decide +kernel
theorem dX5_daysToStraight_11 : decode cX5_daysToStraight 11 = .ok (.iconst 0, 1) := by decide +kernel
theorem dX5_daysToStraight_12 : decode cX5_daysToStraight 12 = .ok (.istore_n 2, 1) := by decide +kernel
theorem dX5_daysToStraight_13 : decode cX5_daysToStraight 13 = .ok (.iload_n 2, 1) := by decide +kernel
theorem dX5_daysToStraight_14 : decode cX5_daysToStraight 14 = .ok (.bipush 60, 2) := by decide +kernel
theorem dX5_daysToStraight_16 : decode cX5_daysToStraight 16 = .ok (.if_icmp .gt 30, 3) := by decide +kernel
theorem dX5_daysToStraight_19 : decode cX5_daysToStraight 19 = .ok (.aload_n 0, 1) := by decide +kernel
theorem dX5_daysToStraight_20 : decode cX5_daysToStraight 20 = .ok (.getfield 25, 3) := by decide +kernel
theorem dX5_daysToStraight_23 : decode cX5_daysToStraight 23 = .ok (.getfield 38, 3) := by decide +kernel
theorem dX5_daysToStraight_26 : decode cX5_daysToStraight 26 = .ok (.iload_n 1, 1) := by decide +kernel
theorem dX5_daysToStraight_27 : decode cX5_daysToStraight 27 = .ok (.iaload, 1) := by decide +kernel
theorem dX5_daysToStraight_28 : decode cX5_daysToStraight 28 = .ok (.ifCond .ne 5, 3) := by decide +kernel
theorem dX5_daysToStraight_31 : decode cX5_daysToStraight 31 = .ok (.iload_n 2, 1) := by decide +kernel
theorem dX5_daysToStraight_32 : decode cX5_daysToStraight 32 = .ok (.ireturn, 1) := by decide +kernel
theorem dX5_daysToStraight_33 : decode cX5_daysToStraight 33 = .ok (.aload_n 0, 1) := by decide +kernel
theorem dX5_daysToStraight_34 : decode cX5_daysToStraight 34 = .ok (.getfield 25, 3) := by decide +kernel
theorem dX5_daysToStraight_37 : decode cX5_daysToStraight 37 = .ok (.invokevirtual 41, 3) := by decide +kernel
theorem dX5_daysToStraight_40 : decode cX5_daysToStraight 40 = .ok (.iinc 2 1, 3) := by decide +kernel
theorem dX5_daysToStraight_43 : decode cX5_daysToStraight 43 = .ok (.goto (-30), 3) := by decide +kernel
theorem dX5_daysToStraight_46 : decode cX5_daysToStraight 46 = .ok (.bipush (-4), 2) := by decide +kernel
theorem dX5_daysToStraight_48 : decode cX5_daysToStraight 48 = .ok (.ireturn, 1) := by decide +kernel
set_option maxRecDepth 20000 in
theorem ggX5_daysToCrash_X2_becomes : GoodIn wsX5_daysToCrash wsX2_becomes := goodIn_r _ [8, 9, 10, 11, 12, 13, 14, 15, 16, 17, 18, 19, 20, 21, 149, 150, 151, 152, 153, 154, 155, 156, 157, 158, 159, 160] (by decide +kernel) (by decide +kernel)
set_option maxRecDepth 20000 in
theorem gX5_daysToCrash_X2_becomes : GoodIn wsX5_daysToCrash (wsV RX5 28 RX2 yX2_becomes wsX2_becomes) := goodIn_app (goodIn_of _ (by decide +kernel)) ggX5_daysToCrash_X2_becomes
set_option maxRecDepth 20000 in
theorem ggX5_daysToCrash_X2_passDay : GoodIn wsX5_daysToCrash wsX2_passDay := goodIn_r _ [25, 21, 16, 26, 9, 15, 14, 27, 28, 29, 30, 31, 32, 33, 34, 20, 19, 35, 36, 37, 7, 38, 39, 40, 41, 42, 17, 43, 44, 45, 46, 47, 48, 49, 50, 51, 52, 53, 54, 55, 56, 57, 58, 59, 60, 61, 62, 63, 64, 65, 66, 67, 68, 69, 70, 71, 72, 73, 74, 75, 76, 77, 78, 79, 80, 81, 82, 83, 84, 85, 86, 87, 88, 89, 90, 91, 92, 93, 94, 95, 96, 97, 98, 99, 100, 101, 102, 103, 104, 105, 106, 107, 108, 109, 110, 111, 112, 113, 114, 115, 116, 117, 118, 119, 120, 121, 122, 123, 124, 125, 126, 127, 128, 129, 130, 131, 132, 133, 134, 135, 136, 137, 138, 18, 139, 140, 141, 142, 143, 149, 150, 151, 152, 153, 154, 155, 156, 157, 158, 159, 160] (by decide +kernel) (by decide +kernel)
set_option maxRecDepth 20000 in
theorem gX5_daysToCrash_X2_passDay : GoodIn wsX5_daysToCrash (wsV RX5 41 RX2 yX2_passDay wsX2_passDay) := goodIn_app (goodIn_of _ (by decide +kernel)) ggX5_daysToCrash_X2_passDay
theorem dX5_daysToCrash_0 : decode cX5_daysToCrash 0 = .ok (.aload_n 0, 1) := by decide +kernel
theorem dX5_daysToCrash_1 : decode cX5_daysToCrash 1 = .ok (.getfield 25, 3) := by decide +kernel
theorem dX5_daysToCrash_4 : decode cX5_daysToCrash 4 = .ok (.aload_n 0, 1) := by decide +kernel
theorem dX5_daysToCrash_5 : decode cX5_daysToCrash 5 = .ok (.getfield 21, 3) := by decide +kernel
theorem dX5_daysToCrash_8 : decode cX5_daysToCrash 8 = .ok (.invokevirtual 28, 3) := by decide +kernel
theorem dX5_daysToCrash_11 : decode cX5_daysToCrash 11 = .ok (.iconst 1, 1) := by decide +kernel
theorem dX5_daysToCrash_12 : decode cX5_daysToCrash 12 = .ok (.istore_n 1, 1) := by decide +kernel
theorem dX5_daysToCrash_13 : decode cX5_daysToCrash 13 = .ok (.iload_n 1, 1) := by decide +kernel
theorem dX5_daysToCrash_14 : decode cX5_daysToCrash 14 = .ok (.bipush 60, 2) := by decide +kernel
theorem dX5_daysToCrash_16 : decode cX5_daysToCrash 16 = .ok (.if_icmp .gt 28, 3) := by decide +kernel
theorem dX5_daysToCrash_19 : decode cX5_daysToCrash 19 = .ok (.aload_n 0, 1) := by decide +kernel
theorem dX5_daysToCrash_20 : decode cX5_daysToCrash 20 = .ok (.getfield 25, 3) := by decide +kernel
theorem dX5_daysToCrash_23 : decode cX5_daysToCrash 23 = .ok (.invokevirtual 41, 3) := by decide +kernel
theorem dX5_daysToCrash_26 : decode cX5_daysToCrash 26 = .ok (.aload_n 0, 1) := by decide +kernel
theorem dX5_daysToCrash_27 : decode cX5_daysToCrash 27 = .ok (.getfield 25, 3) := by decide +kernel
theorem dX5_daysToCrash_30 : decode cX5_daysToCrash 30 = .ok (.getfield 44, 3) := by decide +kernel
theorem dX5_daysToCrash_33 : decode cX5_daysToCrash 33 = .ok (.ifCond .eq 5, 3) := by decide +kernel
theorem dX5_daysToCrash_36 : decode cX5_daysToCrash 36 = .ok (.iload_n 1, 1) := by decide +kernel
theorem dX5_daysToCrash_37 : decode cX5_daysToCrash 37 = .ok (.ireturn, 1) := by decide +kernel
theorem dX5_daysToCrash_38 : decode cX5_daysToCrash 38 = .ok (.iinc 1 1, 3) := by decide +kernel
theorem dX5_daysToCrash_41 : decode cX5_daysToCrash 41 = .ok (.goto (-28), 3) := by decide +kernel
theorem dX5_daysToCrash_44 : decode cX5_daysToCrash 44 = .ok (.bipush (-4), 2) := by decide +kernel
theorem dX5_daysToCrash_46 : decode cX5_daysToCrash 46 = .ok (.ireturn, 1) := by decide +kernel
set_option maxRecDepth 20000 in
theorem ggX5_daysToFind_X2_becomes : GoodIn wsX5_daysToFind wsX2_becomes := goodIn_r _ [8, 9, 10, 11, 12, 13, 14, 15, 16, 17, 18, 19, 20, 21, 149, 150, 151, 152, 153, 154, 155, 156, 157, 158, 159, 160] (by decide +kernel) (by decide +kernel)
set_option maxRecDepth 20000 in
theorem gX5_daysToFind_X2_becomes : GoodIn wsX5_daysToFind (wsV RX5 28 RX2 yX2_becomes wsX2_becomes) := goodIn_app (goodIn_of _ (by decide +kernel)) ggX5_daysToFind_X2_becomes
set_option maxRecDepth 20000 in
theorem ggX5_daysToFind_X2_passDay : GoodIn wsX5_daysToFind wsX2_passDay := goodIn_r _ [25, 21, 16, 26, 9, 15, 14, 27, 28, 29, 30, 31, 32, 33, 34, 20, 19, 35, 36, 37, 7, 38, 39, 40, 41, 42, 17, 43, 44, 45, 46, 47, 48, 49, 50, 51, 52, 53, 54, 55, 56, 57, 58, 59, 60, 61, 62, 63, 64, 65, 66, 67, 68, 69, 70, 71, 72, 73, 74, 75, 76, 77, 78, 79, 80, 81, 82, 83, 84, 85, 86, 87, 88, 89, 90, 91, 92, 93, 94, 95, 96, 97, 98, 99, 100, 101, 102, 103, 104, 105, 106, 107, 108, 109, 110, 111, 112, 113, 114, 115, 116, 117, 118, 119, 120, 121, 122, 123, 124, 125, 126, 127, 128, 129, 130, 131, 132, 133, 134, 135, 136, 137, 138, 18, 139, 140, 141, 142, 143, 149, 150, 151, 152, 153, 154, 155, 156, 157, 158, 159, 160] (by decide +kernel) (by decide +kernel)
set_option maxRecDepth 20000 in
theorem gX5_daysToFind_X2_passDay : GoodIn wsX5_daysToFind (wsV RX5 41 RX2 yX2_passDay wsX2_passDay) := goodIn_app (goodIn_of _ (by decide +kernel)) ggX5_daysToFind_X2_passDay
theorem dX5_daysToFind_0 : decode cX5_daysToFind 0 = .ok (.aload_n 0, 1) := by decide +kernel
theorem dX5_daysToFind_1 : decode cX5_daysToFind 1 = .ok (.getfield 25, 3) := by decide +kernel
theorem dX5_daysToFind_4 : decode cX5_daysToFind 4 = .ok (.aload_n 0, 1) := by decide +kernel
theorem dX5_daysToFind_5 : decode cX5_daysToFind 5 = .ok (.getfield 21, 3) := by decide +kernel
theorem dX5_daysToFind_8 : decode cX5_daysToFind 8 = .ok (.invokevirtual 28, 3) := by decide +kernel
theorem dX5_daysToFind_11 : decode cX5_daysToFind 11 = .ok (.iconst 0, 1) := by decide +kernel
theorem dX5_daysToFind_12 : decode cX5_daysToFind 12 = .ok (.istore_n 2, 1) := by decide +kernel
theorem dX5_daysToFind_13 : decode cX5_daysToFind 13 = .ok (.iload_n 2, 1) := by decide +kernel
theorem dX5_daysToFind_14 : decode cX5_daysToFind 14 = .ok (.bipush 60, 2) := by decide +kernel
theorem dX5_daysToFind_16 : decode cX5_daysToFind 16 = .ok (.if_icmp .gt 29, 3) := by decide +kernel
theorem dX5_daysToFind_19 : decode cX5_daysToFind 19 = .ok (.aload_n 0, 1) := by decide +kernel
theorem dX5_daysToFind_20 : decode cX5_daysToFind 20 = .ok (.getfield 25, 3) := by decide +kernel
theorem dX5_daysToFind_23 : decode cX5_daysToFind 23 = .ok (.getfield 48, 3) := by decide +kernel
theorem dX5_daysToFind_26 : decode cX5_daysToFind 26 = .ok (.iload_n 1, 1) := by decide +kernel
theorem dX5_daysToFind_27 : decode cX5_daysToFind 27 = .ok (.if_icmp .ne 5, 3) := by decide +kernel
theorem dX5_daysToFind_30 : decode cX5_daysToFind 30 = .ok (.iload_n 2, 1) := by decide +kernel
theorem dX5_daysToFind_31 : decode cX5_daysToFind 31 = .ok (.ireturn, 1) := by decide +kernel
theorem dX5_daysToFind_32 : decode cX5_daysToFind 32 = .ok (.aload_n 0, 1) := by decide +kernel
theorem dX5_daysToFind_33 : decode cX5_daysToFind 33 = .ok (.getfield 25, 3) := by decide +kernel
theorem dX5_daysToFind_36 : decode cX5_daysToFind 36 = .ok (.invokevirtual 41, 3) := by decide +kernel
theorem dX5_daysToFind_39 : decode cX5_daysToFind 39 = .ok (.iinc 2 1, 3) := by decide +kernel
theorem dX5_daysToFind_42 : decode cX5_daysToFind 42 = .ok (.goto (-29), 3) := by decide +kernel
theorem dX5_daysToFind_45 : decode cX5_daysToFind 45 = .ok (.bipush (-4), 2) := by decide +kernel
theorem dX5_daysToFind_47 : decode cX5_daysToFind 47 = .ok (.ireturn, 1) := by decide +kernel
set_option maxRecDepth 20000 in
theorem ggX5_daysToStill_X2_becomes : GoodIn wsX5_daysToStill wsX2_becomes := goodIn_r _ [7, 8, 9, 10, 11, 12, 13, 14, 15, 16, 17, 18, 19, 20, 157, 158, 159, 160, 161, 162, 163, 164, 165, 166, 167, 168] (by decide +kernel) (by decide +kernel)
set_option maxRecDepth 20000 in
theorem gX5_daysToStill_X2_becomes : GoodIn wsX5_daysToStill (wsV RX5 28 RX2 yX2_becomes wsX2_becomes) := goodIn_app (goodIn_of _ (by decide +kernel)) ggX5_daysToStill_X2_becomes
set_option maxRecDepth 20000 in
theorem ggX5_daysToStill_X5_passesAlike : GoodIn wsX5_daysToStill wsX5_passesAlike := goodIn_r _ [25, 1, 26, 27, 28, 10, 11, 12, 29, 30, 31, 32, 6, 33, 20, 15, 34, 8, 14, 13, 35, 36, 37, 38, 39, 40, 41, 42, 19, 18, 43, 44, 45, 46, 47, 48, 49, 50, 16, 51, 52, 53, 54, 55, 56, 57, 58, 59, 60, 61, 62, 63, 64, 65, 66, 67, 68, 69, 70, 71, 72, 73, 74, 75, 76, 77, 78, 79, 80, 81, 82, 83, 84, 85, 86, 87, 88, 89, 90, 91, 92, 93, 94, 95, 96, 97, 98, 99, 100, 101, 102, 103, 104, 105, 106, 107, 108, 109, 110, 111, 112, 113, 114, 115, 116, 117, 118, 119, 120, 121, 122, 123, 124, 125, 126, 127, 128, 129, 130, 131, 132, 133, 134, 135, 136, 137, 138, 139, 140, 141, 142, 143, 144, 145, 146, 17, 147, 148, 149, 150, 151, 152, 153, 154, 155, 156, 157, 158, 159, 160, 161, 162, 163, 164, 165, 166, 167, 168] (by decide +kernel) (by decide +kernel)
set_option maxRecDepth 20000 in
theorem gX5_daysToStill_X5_passesAlike : GoodIn wsX5_daysToStill (wsV RX5 52 RX5 yX5_passesAlike wsX5_passesAlike) := goodIn_app (goodIn_of _ (by decide +kernel)) ggX5_daysToStill_X5_passesAlike
theorem dX5_daysToStill_0 : decode cX5_daysToStill 0 = .ok (.aload_n 0, 1) := by decide +kernel
theorem dX5_daysToStill_1 : decode cX5_daysToStill 1 = .ok (.getfield 25, 3) := by decide +kernel
theorem dX5_daysToStill_4 : decode cX5_daysToStill 4 = .ok (.aload_n 0, 1) := by decide +kernel
theorem dX5_daysToStill_5 : decode cX5_daysToStill 5 = .ok (.getfield 21, 3) := by decide +kernel
theorem dX5_daysToStill_8 : decode cX5_daysToStill 8 = .ok (.invokevirtual 28, 3) := by decide +kernel
theorem dX5_daysToStill_11 : decode cX5_daysToStill 11 = .ok (.iconst 0, 1) := by decide +kernel
theorem dX5_daysToStill_12 : decode cX5_daysToStill 12 = .ok (.istore_n 1, 1) := by decide +kernel
theorem dX5_daysToStill_13 : decode cX5_daysToStill 13 = .ok (.iconst 1, 1) := by decide +kernel
theorem dX5_daysToStill_14 : decode cX5_daysToStill 14 = .ok (.istore_n 2, 1) := by decide +kernel
theorem dX5_daysToStill_15 : decode cX5_daysToStill 15 = .ok (.iload_n 2, 1) := by decide +kernel
theorem dX5_daysToStill_16 : decode cX5_daysToStill 16 = .ok (.bipush 60, 2) := by decide +kernel
theorem dX5_daysToStill_18 : decode cX5_daysToStill 18 = .ok (.if_icmp .gt 35, 3) := by decide +kernel
theorem dX5_daysToStill_21 : decode cX5_daysToStill 21 = .ok (.aload_n 0, 1) := by decide +kernel
theorem dX5_daysToStill_22 : decode cX5_daysToStill 22 = .ok (.invokevirtual 52, 3) := by decide +kernel
theorem dX5_daysToStill_25 : decode cX5_daysToStill 25 = .ok (.ifCond .eq 9, 3) := by decide +kernel
theorem dX5_daysToStill_28 : decode cX5_daysToStill 28 = .ok (.iload_n 1, 1) := by decide +kernel
theorem dX5_daysToStill_29 : decode cX5_daysToStill 29 = .ok (.iconst 1, 1) := by decide +kernel
theorem dX5_daysToStill_30 : decode cX5_daysToStill 30 = .ok (.iadd, 1) := by decide +kernel
theorem dX5_daysToStill_31 : decode cX5_daysToStill 31 = .ok (.goto 4, 3) := by decide +kernel
theorem dX5_daysToStill_34 : decode cX5_daysToStill 34 = .ok (.iconst 0, 1) := by decide +kernel
theorem dX5_daysToStill_35 : decode cX5_daysToStill 35 = .ok (.istore_n 1, 1) := by decide +kernel
theorem dX5_daysToStill_36 : decode cX5_daysToStill 36 = .ok (.iload_n 1, 1) := by decide +kernel
theorem dX5_daysToStill_37 : decode cX5_daysToStill 37 = .ok (.bipush 10, 2) := by decide +kernel
theorem dX5_daysToStill_39 : decode cX5_daysToStill 39 = .ok (.if_icmp .ne 8, 3) := by decide +kernel
theorem dX5_daysToStill_42 : decode cX5_daysToStill 42 = .ok (.iload_n 2, 1) := by decide +kernel
theorem dX5_daysToStill_43 : decode cX5_daysToStill 43 = .ok (.bipush 10, 2) := by decide +kernel
theorem dX5_daysToStill_45 : decode cX5_daysToStill 45 = .ok (.isub, 1) := by decide +kernel
theorem dX5_daysToStill_46 : decode cX5_daysToStill 46 = .ok (.ireturn, 1) := by decide +kernel
theorem dX5_daysToStill_47 : decode cX5_daysToStill 47 = .ok (.iinc 2 1, 3) := by decide +kernel
theorem dX5_daysToStill_50 : decode cX5_daysToStill 50 = .ok (.goto (-35), 3) := by decide +kernel
theorem dX5_daysToStill_53 : decode cX5_daysToStill 53 = .ok (.bipush (-4), 2) := by decide +kernel
theorem dX5_daysToStill_55 : decode cX5_daysToStill 55 = .ok (.ireturn, 1) := by decide +kernel
set_option maxRecDepth 20000 in
theorem ggX5_passesAlike_X2_passDay : GoodIn wsX5_passesAlike wsX2_passDay := goodIn_r _ [13, 14, 15, 16, 17, 18, 19, 20, 21, 22, 23, 24, 25, 26, 27, 28, 29, 30, 31, 32, 12, 33, 34, 35, 36, 37, 38, 39, 40, 41, 42, 43, 44, 45, 46, 47, 48, 49, 50, 51, 52, 53, 54, 55, 56, 57, 58, 59, 60, 61, 62, 63, 64, 65, 66, 67, 68, 69, 70, 71, 72, 73, 74, 75, 76, 77, 78, 79, 80, 81, 82, 83, 84, 85, 86, 87, 88, 89, 90, 91, 92, 93, 94, 95, 96, 97, 98, 99, 100, 101, 102, 103, 104, 105, 106, 107, 108, 109, 110, 111, 112, 113, 114, 115, 116, 117, 118, 119, 120, 121, 122, 123, 124, 125, 126, 127, 128, 129, 130, 131, 132, 133, 134, 135, 136, 137, 138, 139, 140, 146, 147, 148, 149, 150, 151, 152, 153, 154, 155, 156, 157] (by decide +kernel) (by decide +kernel)
set_option maxRecDepth 20000 in
theorem gX5_passesAlike_X2_passDay : GoodIn wsX5_passesAlike (wsV RX5 41 RX2 yX2_passDay wsX2_passDay) := goodIn_app (goodIn_of _ (by decide +kernel)) ggX5_passesAlike_X2_passDay
theorem dX5_passesAlike_0 : decode cX5_passesAlike 0 = .ok (.aload_n 0, 1) := by decide +kernel
theorem dX5_passesAlike_1 : decode cX5_passesAlike 1 = .ok (.getfield 25, 3) := by decide +kernel
theorem dX5_passesAlike_4 : decode cX5_passesAlike 4 = .ok (.getfield 38, 3) := by decide +kernel
theorem dX5_passesAlike_7 : decode cX5_passesAlike 7 = .ok (.iconst 0, 1) := by decide +kernel
theorem dX5_passesAlike_8 : decode cX5_passesAlike 8 = .ok (.aload_n 0, 1) := by decide +kernel
theorem dX5_passesAlike_9 : decode cX5_passesAlike 9 = .ok (.getfield 18, 3) := by decide +kernel
theorem dX5_passesAlike_12 : decode cX5_passesAlike 12 = .ok (.iconst 0, 1) := by decide +kernel
theorem dX5_passesAlike_13 : decode cX5_passesAlike 13 = .ok (.bipush 8, 2) := by decide +kernel
theorem dX5_passesAlike_15 : decode cX5_passesAlike 15 = .ok (.invokestatic 56, 3) := by decide +kernel
theorem dX5_passesAlike_18 : decode cX5_passesAlike 18 = .ok (.aload_n 0, 1) := by decide +kernel
theorem dX5_passesAlike_19 : decode cX5_passesAlike 19 = .ok (.getfield 25, 3) := by decide +kernel
theorem dX5_passesAlike_22 : decode cX5_passesAlike 22 = .ok (.invokevirtual 41, 3) := by decide +kernel
theorem dX5_passesAlike_25 : decode cX5_passesAlike 25 = .ok (.iconst 0, 1) := by decide +kernel
theorem dX5_passesAlike_26 : decode cX5_passesAlike 26 = .ok (.istore_n 1, 1) := by decide +kernel
theorem dX5_passesAlike_27 : decode cX5_passesAlike 27 = .ok (.iload_n 1, 1) := by decide +kernel
theorem dX5_passesAlike_28 : decode cX5_passesAlike 28 = .ok (.aload_n 0, 1) := by decide +kernel
theorem dX5_passesAlike_29 : decode cX5_passesAlike 29 = .ok (.getfield 25, 3) := by decide +kernel
theorem dX5_passesAlike_32 : decode cX5_passesAlike 32 = .ok (.getfield 62, 3) := by decide +kernel
theorem dX5_passesAlike_35 : decode cX5_passesAlike 35 = .ok (.if_icmp .ge 29, 3) := by decide +kernel
theorem dX5_passesAlike_38 : decode cX5_passesAlike 38 = .ok (.aload_n 0, 1) := by decide +kernel
theorem dX5_passesAlike_39 : decode cX5_passesAlike 39 = .ok (.getfield 25, 3) := by decide +kernel
theorem dX5_passesAlike_42 : decode cX5_passesAlike 42 = .ok (.getfield 38, 3) := by decide +kernel
theorem dX5_passesAlike_45 : decode cX5_passesAlike 45 = .ok (.iload_n 1, 1) := by decide +kernel
theorem dX5_passesAlike_46 : decode cX5_passesAlike 46 = .ok (.iaload, 1) := by decide +kernel
theorem dX5_passesAlike_47 : decode cX5_passesAlike 47 = .ok (.aload_n 0, 1) := by decide +kernel
theorem dX5_passesAlike_48 : decode cX5_passesAlike 48 = .ok (.getfield 18, 3) := by decide +kernel
theorem dX5_passesAlike_51 : decode cX5_passesAlike 51 = .ok (.iload_n 1, 1) := by decide +kernel
theorem dX5_passesAlike_52 : decode cX5_passesAlike 52 = .ok (.iaload, 1) := by decide +kernel
theorem dX5_passesAlike_53 : decode cX5_passesAlike 53 = .ok (.if_icmp .eq 5, 3) := by decide +kernel
theorem dX5_passesAlike_56 : decode cX5_passesAlike 56 = .ok (.iconst 0, 1) := by decide +kernel
theorem dX5_passesAlike_57 : decode cX5_passesAlike 57 = .ok (.ireturn, 1) := by decide +kernel
theorem dX5_passesAlike_58 : decode cX5_passesAlike 58 = .ok (.iinc 1 1, 3) := by decide +kernel
theorem dX5_passesAlike_61 : decode cX5_passesAlike 61 = .ok (.goto (-34), 3) := by decide +kernel
theorem dX5_passesAlike_64 : decode cX5_passesAlike 64 = .ok (.iconst 1, 1) := by decide +kernel
theorem dX5_passesAlike_65 : decode cX5_passesAlike 65 = .ok (.ireturn, 1) := by decide +kernel
set_option maxRecDepth 20000 in
theorem ggX5_propsAgainstCrash_J6_bitCount_0f7a4 : GoodIn wsX5_propsAgainstCrash wsJ6_bitCount_0f7a4 := goodIn_r _ [7, 8, 9, 10] (by decide +kernel) (by decide +kernel)
set_option maxRecDepth 20000 in
theorem gX5_propsAgainstCrash_J6_bitCount_0f7a4 : GoodIn wsX5_propsAgainstCrash (va_wsS RX5 65 yJ6_bitCount_0f7a4 wsJ6_bitCount_0f7a4) := goodIn_app (goodIn_of _ (by decide +kernel)) ggX5_propsAgainstCrash_J6_bitCount_0f7a4
set_option maxRecDepth 20000 in
theorem ggX5_propsAgainstCrash_X5_staysWhole : GoodIn wsX5_propsAgainstCrash wsX5_staysWhole := goodIn_r _ [15, 16, 1, 3, 17, 18, 19, 20, 21, 22, 23, 24, 25, 26, 27, 28, 29, 30, 31, 32, 33, 34, 35, 36, 37, 38, 39, 40, 41, 42, 43, 44, 45, 46, 47, 48, 49, 50, 51, 52, 53, 54, 55, 56, 57, 58, 59, 60, 61, 62, 63, 64, 65, 66, 67, 68, 69, 70, 71, 72, 73, 74, 75, 76, 77, 78, 79, 80, 81, 82, 83, 84, 85, 86, 87, 88, 89, 90, 91, 92, 93, 94, 95, 96, 97, 98, 99, 100, 101, 102, 103, 104, 105, 106, 107, 108, 109, 110, 111, 112, 113, 114, 115, 116, 117, 118, 119, 120, 121, 122, 123, 124, 125, 126, 127, 128, 129, 130, 131, 132, 133, 134, 135, 136, 137, 138, 5, 6, 7, 8, 9, 10, 139, 140, 141, 142, 143, 144, 145, 146, 147, 148, 149, 150, 151, 152, 153, 154, 155, 156, 157, 158, 159, 160, 161, 162, 163, 164, 165, 166, 167, 168] (by decide +kernel) (by decide +kernel)
set_option maxRecDepth 20000 in
theorem gX5_propsAgainstCrash_X5_staysWhole : GoodIn wsX5_propsAgainstCrash (wsV RX5 73 RX5 yX5_staysWhole wsX5_staysWhole) := goodIn_app (goodIn_of _ (by decide +kernel)) ggX5_propsAgainstCrash_X5_staysWhole
theorem dX5_propsAgainstCrash_0 : decode cX5_propsAgainstCrash 0 = .ok (.iconst 0, 1) := by decide +kernel
theorem dX5_propsAgainstCrash_1 : decode cX5_propsAgainstCrash 1 = .ok (.istore_n 2, 1) := by decide +kernel
theorem dX5_propsAgainstCrash_2 : decode cX5_propsAgainstCrash 2 = .ok (.iload_n 2, 1) := by decide +kernel
theorem dX5_propsAgainstCrash_3 : decode cX5_propsAgainstCrash 3 = .ok (.aload_n 0, 1) := by decide +kernel
theorem dX5_propsAgainstCrash_4 : decode cX5_propsAgainstCrash 4 = .ok (.getfield 21, 3) := by decide +kernel
theorem dX5_propsAgainstCrash_7 : decode cX5_propsAgainstCrash 7 = .ok (.getfield 62, 3) := by decide +kernel
theorem dX5_propsAgainstCrash_10 : decode cX5_propsAgainstCrash 10 = .ok (.if_icmp .gt 61, 3) := by decide +kernel
theorem dX5_propsAgainstCrash_13 : decode cX5_propsAgainstCrash 13 = .ok (.iconst 0, 1) := by decide +kernel
theorem dX5_propsAgainstCrash_14 : decode cX5_propsAgainstCrash 14 = .ok (.istore_n 3, 1) := by decide +kernel
theorem dX5_propsAgainstCrash_15 : decode cX5_propsAgainstCrash 15 = .ok (.iload_n 3, 1) := by decide +kernel
theorem dX5_propsAgainstCrash_16 : decode cX5_propsAgainstCrash 16 = .ok (.iconst 1, 1) := by decide +kernel
theorem dX5_propsAgainstCrash_17 : decode cX5_propsAgainstCrash 17 = .ok (.aload_n 0, 1) := by decide +kernel
theorem dX5_propsAgainstCrash_18 : decode cX5_propsAgainstCrash 18 = .ok (.getfield 21, 3) := by decide +kernel
theorem dX5_propsAgainstCrash_21 : decode cX5_propsAgainstCrash 21 = .ok (.getfield 62, 3) := by decide +kernel
theorem dX5_propsAgainstCrash_24 : decode cX5_propsAgainstCrash 24 = .ok (.ishl, 1) := by decide +kernel
theorem dX5_propsAgainstCrash_25 : decode cX5_propsAgainstCrash 25 = .ok (.if_icmp .ge 40, 3) := by decide +kernel
theorem dX5_propsAgainstCrash_28 : decode cX5_propsAgainstCrash 28 = .ok (.iload_n 3, 1) := by decide +kernel
theorem dX5_propsAgainstCrash_29 : decode cX5_propsAgainstCrash 29 = .ok (.invokestatic 65, 3) := by decide +kernel
theorem dX5_propsAgainstCrash_32 : decode cX5_propsAgainstCrash 32 = .ok (.iload_n 2, 1) := by decide +kernel
theorem dX5_propsAgainstCrash_33 : decode cX5_propsAgainstCrash 33 = .ok (.if_icmp .ne 26, 3) := by decide +kernel
theorem dX5_propsAgainstCrash_36 : decode cX5_propsAgainstCrash 36 = .ok (.iload_n 3, 1) := by decide +kernel
theorem dX5_propsAgainstCrash_37 : decode cX5_propsAgainstCrash 37 = .ok (.aload_n 0, 1) := by decide +kernel
theorem dX5_propsAgainstCrash_38 : decode cX5_propsAgainstCrash 38 = .ok (.getfield 21, 3) := by decide +kernel
theorem dX5_propsAgainstCrash_41 : decode cX5_propsAgainstCrash 41 = .ok (.getfield 70, 3) := by decide +kernel
theorem dX5_propsAgainstCrash_44 : decode cX5_propsAgainstCrash 44 = .ok (.iand, 1) := by decide +kernel
theorem dX5_propsAgainstCrash_45 : decode cX5_propsAgainstCrash 45 = .ok (.ifCond .ne 14, 3) := by decide +kernel
theorem dX5_propsAgainstCrash_48 : decode cX5_propsAgainstCrash 48 = .ok (.aload_n 0, 1) := by decide +kernel
theorem dX5_propsAgainstCrash_49 : decode cX5_propsAgainstCrash 49 = .ok (.iload_n 3, 1) := by decide +kernel
theorem dX5_propsAgainstCrash_50 : decode cX5_propsAgainstCrash 50 = .ok (.iload_n 1, 1) := by decide +kernel
theorem dX5_propsAgainstCrash_51 : decode cX5_propsAgainstCrash 51 = .ok (.invokevirtual 73, 3) := by decide +kernel
theorem dX5_propsAgainstCrash_54 : decode cX5_propsAgainstCrash 54 = .ok (.ifCond .eq 5, 3) := by decide +kernel
theorem dX5_propsAgainstCrash_57 : decode cX5_propsAgainstCrash 57 = .ok (.iload_n 3, 1) := by decide +kernel
theorem dX5_propsAgainstCrash_58 : decode cX5_propsAgainstCrash 58 = .ok (.ireturn, 1) := by decide +kernel
theorem dX5_propsAgainstCrash_59 : decode cX5_propsAgainstCrash 59 = .ok (.iinc 3 1, 3) := by decide +kernel
theorem dX5_propsAgainstCrash_62 : decode cX5_propsAgainstCrash 62 = .ok (.goto (-47), 3) := by decide +kernel
theorem dX5_propsAgainstCrash_65 : decode cX5_propsAgainstCrash 65 = .ok (.iinc 2 1, 3) := by decide +kernel
theorem dX5_propsAgainstCrash_68 : decode cX5_propsAgainstCrash 68 = .ok (.goto (-66), 3) := by decide +kernel
theorem dX5_propsAgainstCrash_71 : decode cX5_propsAgainstCrash 71 = .ok (.bipush (-4), 2) := by decide +kernel
theorem dX5_propsAgainstCrash_73 : decode cX5_propsAgainstCrash 73 = .ok (.ireturn, 1) := by decide +kernel
set_option maxRecDepth 20000 in
theorem ggX5_staysWhole_X2_becomes : GoodIn wsX5_staysWhole wsX2_becomes := goodIn_r _ [9, 10, 11, 12, 13, 14, 15, 16, 17, 18, 19, 20, 21, 22, 150, 151, 152, 153, 154, 155, 156, 157, 158, 159, 160, 161] (by decide +kernel) (by decide +kernel)
set_option maxRecDepth 20000 in
theorem gX5_staysWhole_X2_becomes : GoodIn wsX5_staysWhole (wsV RX5 28 RX2 yX2_becomes wsX2_becomes) := goodIn_app (goodIn_of _ (by decide +kernel)) ggX5_staysWhole_X2_becomes
set_option maxRecDepth 20000 in
theorem ggX5_staysWhole_X2_passDay : GoodIn wsX5_staysWhole wsX2_passDay := goodIn_r _ [26, 22, 17, 27, 10, 16, 15, 28, 29, 30, 31, 32, 33, 34, 35, 21, 20, 36, 37, 38, 8, 39, 40, 41, 42, 43, 18, 44, 45, 46, 47, 48, 49, 50, 51, 52, 53, 54, 55, 56, 57, 58, 59, 60, 61, 62, 63, 64, 65, 66, 67, 68, 69, 70, 71, 72, 73, 74, 75, 76, 77, 78, 79, 80, 81, 82, 83, 84, 85, 86, 87, 88, 89, 90, 91, 92, 93, 94, 95, 96, 97, 98, 99, 100, 101, 102, 103, 104, 105, 106, 107, 108, 109, 110, 111, 112, 113, 114, 115, 116, 117, 118, 119, 120, 121, 122, 123, 124, 125, 126, 127, 128, 129, 130, 131, 132, 133, 134, 135, 136, 137, 138, 139, 19, 140, 141, 142, 143, 144, 150, 151, 152, 153, 154, 155, 156, 157, 158, 159, 160, 161] (by decide +kernel) (by decide +kernel)
set_option maxRecDepth 20000 in
theorem gX5_staysWhole_X2_passDay : GoodIn wsX5_staysWhole (wsV RX5 41 RX2 yX2_passDay wsX2_passDay) := goodIn_app (goodIn_of _ (by decide +kernel)) ggX5_staysWhole_X2_passDay
theorem dX5_staysWhole_0 : decode cX5_staysWhole 0 = .ok (.aload_n 0, 1) := by decide +kernel
theorem dX5_staysWhole_1 : decode cX5_staysWhole 1 = .ok (.getfield 25, 3) := by decide +kernel
theorem dX5_staysWhole_4 : decode cX5_staysWhole 4 = .ok (.aload_n 0, 1) := by decide +kernel
theorem dX5_staysWhole_5 : decode cX5_staysWhole 5 = .ok (.getfield 21, 3) := by decide +kernel
theorem dX5_staysWhole_8 : decode cX5_staysWhole 8 = .ok (.invokevirtual 28, 3) := by decide +kernel
theorem dX5_staysWhole_11 : decode cX5_staysWhole 11 = .ok (.aload_n 0, 1) := by decide +kernel
theorem dX5_staysWhole_12 : decode cX5_staysWhole 12 = .ok (.getfield 25, 3) := by decide +kernel
theorem dX5_staysWhole_15 : decode cX5_staysWhole 15 = .ok (.dup, 1) := by decide +kernel
theorem dX5_staysWhole_16 : decode cX5_staysWhole 16 = .ok (.getfield 70, 3) := by decide +kernel
theorem dX5_staysWhole_19 : decode cX5_staysWhole 19 = .ok (.iload_n 1, 1) := by decide +kernel
theorem dX5_staysWhole_20 : decode cX5_staysWhole 20 = .ok (.ior, 1) := by decide +kernel
theorem dX5_staysWhole_21 : decode cX5_staysWhole 21 = .ok (.putfield 70, 3) := by decide +kernel
theorem dX5_staysWhole_24 : decode cX5_staysWhole 24 = .ok (.iconst 0, 1) := by decide +kernel
theorem dX5_staysWhole_25 : decode cX5_staysWhole 25 = .ok (.istore_n 3, 1) := by decide +kernel
theorem dX5_staysWhole_26 : decode cX5_staysWhole 26 = .ok (.iload_n 3, 1) := by decide +kernel
theorem dX5_staysWhole_27 : decode cX5_staysWhole 27 = .ok (.iload_n 2, 1) := by decide +kernel
theorem dX5_staysWhole_28 : decode cX5_staysWhole 28 = .ok (.if_icmp .ge 28, 3) := by decide +kernel
theorem dX5_staysWhole_31 : decode cX5_staysWhole 31 = .ok (.aload_n 0, 1) := by decide +kernel
theorem dX5_staysWhole_32 : decode cX5_staysWhole 32 = .ok (.getfield 25, 3) := by decide +kernel
theorem dX5_staysWhole_35 : decode cX5_staysWhole 35 = .ok (.invokevirtual 41, 3) := by decide +kernel
theorem dX5_staysWhole_38 : decode cX5_staysWhole 38 = .ok (.aload_n 0, 1) := by decide +kernel
theorem dX5_staysWhole_39 : decode cX5_staysWhole 39 = .ok (.getfield 25, 3) := by decide +kernel
theorem dX5_staysWhole_42 : decode cX5_staysWhole 42 = .ok (.getfield 44, 3) := by decide +kernel
theorem dX5_staysWhole_45 : decode cX5_staysWhole 45 = .ok (.ifCond .eq 5, 3) := by decide +kernel
theorem dX5_staysWhole_48 : decode cX5_staysWhole 48 = .ok (.iconst 0, 1) := by decide +kernel
theorem dX5_staysWhole_49 : decode cX5_staysWhole 49 = .ok (.ireturn, 1) := by decide +kernel
theorem dX5_staysWhole_50 : decode cX5_staysWhole 50 = .ok (.iinc 3 1, 3) := by decide +kernel
theorem dX5_staysWhole_53 : decode cX5_staysWhole 53 = .ok (.goto (-27), 3) := by decide +kernel
theorem dX5_staysWhole_56 : decode cX5_staysWhole 56 = .ok (.iconst 1, 1) := by decide +kernel
theorem dX5_staysWhole_57 : decode cX5_staysWhole 57 = .ok (.ireturn, 1) := by decide +kernel
set_option maxRecDepth 20000 in
theorem ggX5_bestPush_X5_after : GoodIn wsX5_bestPush wsX5_after := goodIn_r _ [9, 3, 1, 10, 11, 12, 13, 14, 15, 16, 17, 18, 19, 20, 21, 22, 23, 24, 25, 26, 27, 28, 29, 30, 31, 32, 33, 34, 35, 36, 37, 38, 39, 40, 41, 42, 43, 44, 45, 46, 47, 48, 49, 50, 51, 52, 53, 54, 55, 56, 57, 58, 59, 60, 61, 62, 63, 64, 65, 66, 67, 68, 69, 70, 71, 72, 73, 74, 75, 76, 77, 78, 79, 80, 81, 82, 83, 84, 85, 86, 87, 88, 89, 90, 91, 92, 93, 94, 95, 96, 97, 98, 99, 100, 101, 102, 103, 104, 105, 106, 107, 108, 109, 110, 111, 112, 113, 114, 115, 116, 117, 118, 119, 120, 121, 122, 123, 124, 125, 126, 127, 128, 129, 130, 131, 132, 133, 134, 135, 136, 137, 138, 139, 140, 141, 142, 143, 144, 145, 146, 147, 148, 149, 150, 151, 152, 153, 156, 157, 158, 159, 160, 161, 162, 163, 164, 165, 166, 167, 168, 169, 170, 171, 172] (by decide +kernel) (by decide +kernel)
set_option maxRecDepth 20000 in
theorem gX5_bestPush_X5_after : GoodIn wsX5_bestPush (wsV RX5 77 RX5 yX5_after wsX5_after) := goodIn_app (goodIn_of _ (by decide +kernel)) ggX5_bestPush_X5_after
set_option maxRecDepth 20000 in
theorem ggX5_bestPush_X2_upright : GoodIn wsX5_bestPush wsX2_upright := goodIn_r _ [101, 22, 21, 102, 103, 40, 104, 37, 15, 20, 105, 106, 107, 108, 109, 58, 110, 111, 112, 113, 63, 114, 115, 116, 117, 118, 119, 67, 120, 121, 122, 123, 72, 124, 125, 126, 127, 128, 85, 129, 130, 131, 89, 132, 133, 161, 162, 163, 164, 165, 166, 167, 168, 169, 170, 171, 172] (by decide +kernel) (by decide +kernel)
set_option maxRecDepth 20000 in
theorem gX5_bestPush_X2_upright : GoodIn wsX5_bestPush (wsV RX5 81 RX2 yX2_upright wsX2_upright) := goodIn_app (goodIn_of _ (by decide +kernel)) ggX5_bestPush_X2_upright
set_option maxRecDepth 20000 in
theorem ggX5_bestPush_J6_bitCount_0f7a4 : GoodIn wsX5_bestPush wsJ6_bitCount_0f7a4 := goodIn_r _ [137, 138, 139, 140] (by decide +kernel) (by decide +kernel)
set_option maxRecDepth 20000 in
theorem gX5_bestPush_J6_bitCount_0f7a4 : GoodIn wsX5_bestPush (va_wsS RX5 65 yJ6_bitCount_0f7a4 wsJ6_bitCount_0f7a4) := goodIn_app (goodIn_of _ (by decide +kernel)) ggX5_bestPush_J6_bitCount_0f7a4
set_option maxRecDepth 20000 in
theorem ggX5_bestPush_X2_becomes : GoodIn wsX5_bestPush wsX2_becomes := goodIn_r _ [14, 15, 16, 17, 18, 19, 20, 21, 22, 23, 24, 25, 26, 27, 161, 162, 163, 164, 165, 166, 167, 168, 169, 170, 171, 172] (by decide +kernel) (by decide +kernel)
set_option maxRecDepth 20000 in
theorem gX5_bestPush_X2_becomes : GoodIn wsX5_bestPush (wsV RX5 28 RX2 yX2_becomes wsX2_becomes) := goodIn_app (goodIn_of _ (by decide +kernel)) ggX5_bestPush_X2_becomes
set_option maxRecDepth 20000 in
theorem ggX5_bestPush_X2_passDays : GoodIn wsX5_bestPush wsX2_passDays := goodIn_r _ [31, 32, 33, 34, 35, 13, 36, 27, 22, 37, 15, 21, 20, 38, 39, 40, 41, 42, 43, 44, 26, 25, 45, 46, 47, 48, 49, 50, 51, 52, 23, 53, 54, 55, 56, 57, 58, 59, 60, 61, 62, 63, 64, 65, 66, 67, 68, 69, 70, 71, 72, 73, 74, 75, 76, 77, 78, 79, 80, 81, 82, 83, 84, 85, 86, 87, 88, 89, 90, 91, 92, 93, 94, 95, 96, 97, 98, 99, 100, 101, 102, 103, 104, 105, 106, 107, 108, 109, 110, 111, 112, 113, 114, 115, 116, 117, 118, 119, 120, 121, 122, 123, 124, 125, 126, 127, 128, 129, 130, 131, 132, 133, 134, 135, 136, 137, 138, 139, 140, 141, 142, 143, 144, 145, 146, 147, 148, 24, 149, 150, 151, 152, 153, 161, 162, 163, 164, 165, 166, 167, 168, 169, 170, 171, 172] (by decide +kernel) (by decide +kernel)
set_option maxRecDepth 20000 in
theorem gX5_bestPush_X2_passDays : GoodIn wsX5_bestPush (wsV RX5 34 RX2 yX2_passDays wsX2_passDays) := goodIn_app (goodIn_of _ (by decide +kernel)) ggX5_bestPush_X2_passDays
theorem dX5_bestPush_0 : decode cX5_bestPush 0 = .ok (.bipush (-4), 2) := by decide +kernel
theorem dX5_bestPush_2 : decode cX5_bestPush 2 = .ok (.istore_n 2, 1) := by decide +kernel
theorem dX5_bestPush_3 : decode cX5_bestPush 3 = .ok (.aload_n 0, 1) := by decide +kernel
theorem dX5_bestPush_4 : decode cX5_bestPush 4 = .ok (.iload_n 1, 1) := by decide +kernel
theorem dX5_bestPush_5 : decode cX5_bestPush 5 = .ok (.invokevirtual 77, 3) := by decide +kernel
theorem dX5_bestPush_8 : decode cX5_bestPush 8 = .ok (.invokevirtual 81, 3) := by decide +kernel
theorem dX5_bestPush_11 : decode cX5_bestPush 11 = .ok (.invokestatic 65, 3) := by decide +kernel
theorem dX5_bestPush_14 : decode cX5_bestPush 14 = .ok (.istore_n 3, 1) := by decide +kernel
theorem dX5_bestPush_15 : decode cX5_bestPush 15 = .ok (.iconst 0, 1) := by decide +kernel
theorem dX5_bestPush_16 : decode cX5_bestPush 16 = .ok (.istore 4, 2) := by decide +kernel
theorem dX5_bestPush_18 : decode cX5_bestPush 18 = .ok (.iload 4, 2) := by decide +kernel
theorem dX5_bestPush_20 : decode cX5_bestPush 20 = .ok (.aload_n 0, 1) := by decide +kernel
theorem dX5_bestPush_21 : decode cX5_bestPush 21 = .ok (.getfield 21, 3) := by decide +kernel
theorem dX5_bestPush_24 : decode cX5_bestPush 24 = .ok (.getfield 62, 3) := by decide +kernel
theorem dX5_bestPush_27 : decode cX5_bestPush 27 = .ok (.if_icmp .ge 90, 3) := by decide +kernel
theorem dX5_bestPush_30 : decode cX5_bestPush 30 = .ok (.iconst 0, 1) := by decide +kernel
theorem dX5_bestPush_31 : decode cX5_bestPush 31 = .ok (.istore 5, 2) := by decide +kernel
theorem dX5_bestPush_33 : decode cX5_bestPush 33 = .ok (.iload 5, 2) := by decide +kernel
theorem dX5_bestPush_35 : decode cX5_bestPush 35 = .ok (.bipush 91, 2) := by decide +kernel
theorem dX5_bestPush_37 : decode cX5_bestPush 37 = .ok (.if_icmp .ge 74, 3) := by decide +kernel
theorem dX5_bestPush_40 : decode cX5_bestPush 40 = .ok (.aload_n 0, 1) := by decide +kernel
theorem dX5_bestPush_41 : decode cX5_bestPush 41 = .ok (.getfield 25, 3) := by decide +kernel
theorem dX5_bestPush_44 : decode cX5_bestPush 44 = .ok (.aload_n 0, 1) := by decide +kernel
theorem dX5_bestPush_45 : decode cX5_bestPush 45 = .ok (.getfield 21, 3) := by decide +kernel
theorem dX5_bestPush_48 : decode cX5_bestPush 48 = .ok (.invokevirtual 28, 3) := by decide +kernel
theorem dX5_bestPush_51 : decode cX5_bestPush 51 = .ok (.aload_n 0, 1) := by decide +kernel
theorem dX5_bestPush_52 : decode cX5_bestPush 52 = .ok (.getfield 25, 3) := by decide +kernel
theorem dX5_bestPush_55 : decode cX5_bestPush 55 = .ok (.getfield 38, 3) := by decide +kernel
theorem dX5_bestPush_58 : decode cX5_bestPush 58 = .ok (.iload 4, 2) := by decide +kernel
theorem dX5_bestPush_60 : decode cX5_bestPush 60 = .ok (.iload 5, 2) := by decide +kernel
theorem dX5_bestPush_62 : decode cX5_bestPush 62 = .ok (.bipush 45, 2) := by decide +kernel
theorem dX5_bestPush_64 : decode cX5_bestPush 64 = .ok (.isub, 1) := by decide +kernel
theorem dX5_bestPush_65 : decode cX5_bestPush 65 = .ok (.iastore, 1) := by decide +kernel
theorem dX5_bestPush_66 : decode cX5_bestPush 66 = .ok (.aload_n 0, 1) := by decide +kernel
theorem dX5_bestPush_67 : decode cX5_bestPush 67 = .ok (.getfield 25, 3) := by decide +kernel
theorem dX5_bestPush_70 : decode cX5_bestPush 70 = .ok (.iload_n 1, 1) := by decide +kernel
theorem dX5_bestPush_71 : decode cX5_bestPush 71 = .ok (.invokevirtual 34, 3) := by decide +kernel
theorem dX5_bestPush_74 : decode cX5_bestPush 74 = .ok (.pop, 1) := by decide +kernel
theorem dX5_bestPush_75 : decode cX5_bestPush 75 = .ok (.aload_n 0, 1) := by decide +kernel
theorem dX5_bestPush_76 : decode cX5_bestPush 76 = .ok (.getfield 25, 3) := by decide +kernel
theorem dX5_bestPush_79 : decode cX5_bestPush 79 = .ok (.invokevirtual 81, 3) := by decide +kernel
theorem dX5_bestPush_82 : decode cX5_bestPush 82 = .ok (.invokestatic 65, 3) := by decide +kernel
theorem dX5_bestPush_85 : decode cX5_bestPush 85 = .ok (.istore 6, 2) := by decide +kernel
theorem dX5_bestPush_87 : decode cX5_bestPush 87 = .ok (.iload 6, 2) := by decide +kernel
theorem dX5_bestPush_89 : decode cX5_bestPush 89 = .ok (.iload_n 3, 1) := by decide +kernel
theorem dX5_bestPush_90 : decode cX5_bestPush 90 = .ok (.if_icmp .le 15, 3) := by decide +kernel
theorem dX5_bestPush_93 : decode cX5_bestPush 93 = .ok (.iload 6, 2) := by decide +kernel
theorem dX5_bestPush_95 : decode cX5_bestPush 95 = .ok (.istore_n 3, 1) := by decide +kernel
theorem dX5_bestPush_96 : decode cX5_bestPush 96 = .ok (.bipush 100, 2) := by decide +kernel
theorem dX5_bestPush_98 : decode cX5_bestPush 98 = .ok (.iload 4, 2) := by decide +kernel
theorem dX5_bestPush_100 : decode cX5_bestPush 100 = .ok (.imul, 1) := by decide +kernel
theorem dX5_bestPush_101 : decode cX5_bestPush 101 = .ok (.iload 5, 2) := by decide +kernel
theorem dX5_bestPush_103 : decode cX5_bestPush 103 = .ok (.iadd, 1) := by decide +kernel
theorem dX5_bestPush_104 : decode cX5_bestPush 104 = .ok (.istore_n 2, 1) := by decide +kernel
theorem dX5_bestPush_105 : decode cX5_bestPush 105 = .ok (.iinc 5 1, 3) := by decide +kernel
theorem dX5_bestPush_108 : decode cX5_bestPush 108 = .ok (.goto (-75), 3) := by decide +kernel
theorem dX5_bestPush_111 : decode cX5_bestPush 111 = .ok (.iinc 4 1, 3) := by decide +kernel
theorem dX5_bestPush_114 : decode cX5_bestPush 114 = .ok (.goto (-96), 3) := by decide +kernel
theorem dX5_bestPush_117 : decode cX5_bestPush 117 = .ok (.iload_n 2, 1) := by decide +kernel
theorem dX5_bestPush_118 : decode cX5_bestPush 118 = .ok (.ireturn, 1) := by decide +kernel
set_option maxRecDepth 20000 in
theorem ggX5_kindsThatDid_X2_becomes : GoodIn wsX5_kindsThatDid wsX2_becomes := goodIn_r _ [8, 9, 10, 11, 12, 13, 14, 15, 16, 17, 18, 19, 20, 21, 168, 169, 170, 171, 172, 173, 174, 175, 176, 177, 178, 179] (by decide +kernel) (by decide +kernel)
set_option maxRecDepth 20000 in
theorem gX5_kindsThatDid_X2_becomes : GoodIn wsX5_kindsThatDid (wsV RX5 28 RX2 yX2_becomes wsX2_becomes) := goodIn_app (goodIn_of _ (by decide +kernel)) ggX5_kindsThatDid_X2_becomes
set_option maxRecDepth 20000 in
theorem ggX5_kindsThatDid_X5_leansAsTold : GoodIn wsX5_kindsThatDid wsX5_leansAsTold := goodIn_r _ [26, 27, 1, 28, 29, 30, 31, 32, 33, 34, 35, 36, 37, 38, 39, 40, 41, 42, 43, 7, 44, 21, 16, 45, 9, 15, 14, 46, 47, 48, 49, 50, 51, 52, 53, 20, 19, 54, 55, 56, 57, 58, 59, 60, 61, 17, 62, 63, 64, 65, 66, 67, 68, 69, 70, 71, 72, 73, 74, 75, 76, 77, 78, 79, 80, 81, 82, 83, 84, 85, 86, 87, 88, 89, 90, 91, 92, 93, 94, 95, 96, 97, 98, 99, 100, 101, 102, 103, 104, 105, 106, 107, 108, 109, 110, 111, 112, 113, 114, 115, 116, 117, 118, 119, 120, 121, 122, 123, 124, 125, 126, 127, 128, 129, 130, 131, 132, 133, 134, 135, 136, 137, 138, 139, 140, 141, 142, 143, 144, 145, 146, 147, 148, 149, 150, 151, 152, 153, 154, 155, 156, 157, 18, 158, 159, 160, 161, 162, 180, 181, 182, 183, 184, 185, 186, 163, 164, 165, 166, 167, 168, 169, 170, 171, 172, 173, 174, 175, 176, 177, 178, 179] (by decide +kernel) (by decide +kernel)
set_option maxRecDepth 20000 in
theorem gX5_kindsThatDid_X5_leansAsTold : GoodIn wsX5_kindsThatDid (wsV RX5 88 RX5 yX5_leansAsTold wsX5_leansAsTold) := goodIn_app (goodIn_of _ (by decide +kernel)) ggX5_kindsThatDid_X5_leansAsTold
theorem dX5_kindsThatDid_0 : decode cX5_kindsThatDid 0 = .ok (.iconst 0, 1) := by decide +kernel
theorem dX5_kindsThatDid_1 : decode cX5_kindsThatDid 1 = .ok (.istore_n 3, 1) := by decide +kernel
theorem dX5_kindsThatDid_2 : decode cX5_kindsThatDid 2 = .ok (.iconst 0, 1) := by decide +kernel
theorem dX5_kindsThatDid_3 : decode cX5_kindsThatDid 3 = .ok (.istore 4, 2) := by decide +kernel
theorem dX5_kindsThatDid_5 : decode cX5_kindsThatDid 5 = .ok (.iload 4, 2) := by decide +kernel
theorem dX5_kindsThatDid_7 : decode cX5_kindsThatDid 7 = .ok (.bipush 8, 2) := by decide +kernel
theorem dX5_kindsThatDid_9 : decode cX5_kindsThatDid 9 = .ok (.if_icmp .ge 47, 3) := by decide +kernel
theorem dX5_kindsThatDid_12 : decode cX5_kindsThatDid 12 = .ok (.aload_n 0, 1) := by decide +kernel
theorem dX5_kindsThatDid_13 : decode cX5_kindsThatDid 13 = .ok (.getfield 25, 3) := by decide +kernel
theorem dX5_kindsThatDid_16 : decode cX5_kindsThatDid 16 = .ok (.aload_n 0, 1) := by decide +kernel
theorem dX5_kindsThatDid_17 : decode cX5_kindsThatDid 17 = .ok (.getfield 21, 3) := by decide +kernel
theorem dX5_kindsThatDid_20 : decode cX5_kindsThatDid 20 = .ok (.invokevirtual 28, 3) := by decide +kernel
theorem dX5_kindsThatDid_23 : decode cX5_kindsThatDid 23 = .ok (.aload_n 0, 1) := by decide +kernel
theorem dX5_kindsThatDid_24 : decode cX5_kindsThatDid 24 = .ok (.getfield 25, 3) := by decide +kernel
theorem dX5_kindsThatDid_27 : decode cX5_kindsThatDid 27 = .ok (.getfield 85, 3) := by decide +kernel
theorem dX5_kindsThatDid_30 : decode cX5_kindsThatDid 30 = .ok (.iload_n 1, 1) := by decide +kernel
theorem dX5_kindsThatDid_31 : decode cX5_kindsThatDid 31 = .ok (.iload 4, 2) := by decide +kernel
theorem dX5_kindsThatDid_33 : decode cX5_kindsThatDid 33 = .ok (.iastore, 1) := by decide +kernel
theorem dX5_kindsThatDid_34 : decode cX5_kindsThatDid 34 = .ok (.aload_n 0, 1) := by decide +kernel
theorem dX5_kindsThatDid_35 : decode cX5_kindsThatDid 35 = .ok (.iload_n 1, 1) := by decide +kernel
theorem dX5_kindsThatDid_36 : decode cX5_kindsThatDid 36 = .ok (.aload_n 2, 1) := by decide +kernel
theorem dX5_kindsThatDid_37 : decode cX5_kindsThatDid 37 = .ok (.invokevirtual 88, 3) := by decide +kernel
theorem dX5_kindsThatDid_40 : decode cX5_kindsThatDid 40 = .ok (.ifCond .eq 10, 3) := by decide +kernel
theorem dX5_kindsThatDid_43 : decode cX5_kindsThatDid 43 = .ok (.iload_n 3, 1) := by decide +kernel
theorem dX5_kindsThatDid_44 : decode cX5_kindsThatDid 44 = .ok (.iconst 1, 1) := by decide +kernel
theorem dX5_kindsThatDid_45 : decode cX5_kindsThatDid 45 = .ok (.iload 4, 2) := by decide +kernel
theorem dX5_kindsThatDid_47 : decode cX5_kindsThatDid 47 = .ok (.ishl, 1) := by decide +kernel
theorem dX5_kindsThatDid_48 : decode cX5_kindsThatDid 48 = .ok (.ior, 1) := by decide +kernel
theorem dX5_kindsThatDid_49 : decode cX5_kindsThatDid 49 = .ok (.istore_n 3, 1) := by decide +kernel
theorem dX5_kindsThatDid_50 : decode cX5_kindsThatDid 50 = .ok (.iinc 4 1, 3) := by decide +kernel
theorem dX5_kindsThatDid_53 : decode cX5_kindsThatDid 53 = .ok (.goto (-48), 3) := by decide +kernel
theorem dX5_kindsThatDid_56 : decode cX5_kindsThatDid 56 = .ok (.iload_n 3, 1) := by decide +kernel
theorem dX5_kindsThatDid_57 : decode cX5_kindsThatDid 57 = .ok (.ireturn, 1) := by decide +kernel
set_option maxRecDepth 20000 in
theorem ggX5_figuresThatDid_X2_becomes : GoodIn wsX5_figuresThatDid wsX2_becomes := goodIn_r _ [8, 9, 10, 11, 12, 13, 14, 15, 16, 17, 18, 19, 20, 21, 168, 169, 170, 171, 172, 173, 174, 175, 176, 177, 178, 179] (by decide +kernel) (by decide +kernel)
set_option maxRecDepth 20000 in
theorem gX5_figuresThatDid_X2_becomes : GoodIn wsX5_figuresThatDid (wsV RX5 28 RX2 yX2_becomes wsX2_becomes) := goodIn_app (goodIn_of _ (by decide +kernel)) ggX5_figuresThatDid_X2_becomes
set_option maxRecDepth 20000 in
theorem ggX5_figuresThatDid_X5_leansAsTold : GoodIn wsX5_figuresThatDid wsX5_leansAsTold := goodIn_r _ [26, 27, 1, 28, 29, 30, 31, 32, 33, 34, 35, 36, 37, 38, 39, 40, 41, 42, 43, 7, 44, 21, 16, 45, 9, 15, 14, 46, 47, 48, 49, 50, 51, 52, 53, 20, 19, 54, 55, 56, 57, 58, 59, 60, 61, 17, 62, 63, 64, 65, 66, 67, 68, 69, 70, 71, 72, 73, 74, 75, 76, 77, 78, 79, 80, 81, 82, 83, 84, 85, 86, 87, 88, 89, 90, 91, 92, 93, 94, 95, 96, 97, 98, 99, 100, 101, 102, 103, 104, 105, 106, 107, 108, 109, 110, 111, 112, 113, 114, 115, 116, 117, 118, 119, 120, 121, 122, 123, 124, 125, 126, 127, 128, 129, 130, 131, 132, 133, 134, 135, 136, 137, 138, 139, 140, 141, 142, 143, 144, 145, 146, 147, 148, 149, 150, 151, 152, 153, 154, 155, 156, 157, 18, 158, 159, 160, 161, 162, 180, 181, 182, 183, 184, 185, 186, 163, 164, 165, 166, 167, 168, 169, 170, 171, 172, 173, 174, 175, 176, 177, 178, 179] (by decide +kernel) (by decide +kernel)
set_option maxRecDepth 20000 in
theorem gX5_figuresThatDid_X5_leansAsTold : GoodIn wsX5_figuresThatDid (wsV RX5 88 RX5 yX5_leansAsTold wsX5_leansAsTold) := goodIn_app (goodIn_of _ (by decide +kernel)) ggX5_figuresThatDid_X5_leansAsTold
theorem dX5_figuresThatDid_0 : decode cX5_figuresThatDid 0 = .ok (.iconst 0, 1) := by decide +kernel
theorem dX5_figuresThatDid_1 : decode cX5_figuresThatDid 1 = .ok (.istore_n 3, 1) := by decide +kernel
theorem dX5_figuresThatDid_2 : decode cX5_figuresThatDid 2 = .ok (.iconst 0, 1) := by decide +kernel
theorem dX5_figuresThatDid_3 : decode cX5_figuresThatDid 3 = .ok (.istore 4, 2) := by decide +kernel
theorem dX5_figuresThatDid_5 : decode cX5_figuresThatDid 5 = .ok (.iload 4, 2) := by decide +kernel
theorem dX5_figuresThatDid_7 : decode cX5_figuresThatDid 7 = .ok (.bipush 10, 2) := by decide +kernel
theorem dX5_figuresThatDid_9 : decode cX5_figuresThatDid 9 = .ok (.if_icmp .ge 47, 3) := by decide +kernel
theorem dX5_figuresThatDid_12 : decode cX5_figuresThatDid 12 = .ok (.aload_n 0, 1) := by decide +kernel
theorem dX5_figuresThatDid_13 : decode cX5_figuresThatDid 13 = .ok (.getfield 25, 3) := by decide +kernel
theorem dX5_figuresThatDid_16 : decode cX5_figuresThatDid 16 = .ok (.aload_n 0, 1) := by decide +kernel
theorem dX5_figuresThatDid_17 : decode cX5_figuresThatDid 17 = .ok (.getfield 21, 3) := by decide +kernel
theorem dX5_figuresThatDid_20 : decode cX5_figuresThatDid 20 = .ok (.invokevirtual 28, 3) := by decide +kernel
theorem dX5_figuresThatDid_23 : decode cX5_figuresThatDid 23 = .ok (.aload_n 0, 1) := by decide +kernel
theorem dX5_figuresThatDid_24 : decode cX5_figuresThatDid 24 = .ok (.getfield 25, 3) := by decide +kernel
theorem dX5_figuresThatDid_27 : decode cX5_figuresThatDid 27 = .ok (.getfield 92, 3) := by decide +kernel
theorem dX5_figuresThatDid_30 : decode cX5_figuresThatDid 30 = .ok (.iload_n 1, 1) := by decide +kernel
theorem dX5_figuresThatDid_31 : decode cX5_figuresThatDid 31 = .ok (.iload 4, 2) := by decide +kernel
theorem dX5_figuresThatDid_33 : decode cX5_figuresThatDid 33 = .ok (.iastore, 1) := by decide +kernel
theorem dX5_figuresThatDid_34 : decode cX5_figuresThatDid 34 = .ok (.aload_n 0, 1) := by decide +kernel
theorem dX5_figuresThatDid_35 : decode cX5_figuresThatDid 35 = .ok (.iload_n 1, 1) := by decide +kernel
theorem dX5_figuresThatDid_36 : decode cX5_figuresThatDid 36 = .ok (.aload_n 2, 1) := by decide +kernel
theorem dX5_figuresThatDid_37 : decode cX5_figuresThatDid 37 = .ok (.invokevirtual 88, 3) := by decide +kernel
theorem dX5_figuresThatDid_40 : decode cX5_figuresThatDid 40 = .ok (.ifCond .eq 10, 3) := by decide +kernel
theorem dX5_figuresThatDid_43 : decode cX5_figuresThatDid 43 = .ok (.iload_n 3, 1) := by decide +kernel
theorem dX5_figuresThatDid_44 : decode cX5_figuresThatDid 44 = .ok (.iconst 1, 1) := by decide +kernel
theorem dX5_figuresThatDid_45 : decode cX5_figuresThatDid 45 = .ok (.iload 4, 2) := by decide +kernel
theorem dX5_figuresThatDid_47 : decode cX5_figuresThatDid 47 = .ok (.ishl, 1) := by decide +kernel
theorem dX5_figuresThatDid_48 : decode cX5_figuresThatDid 48 = .ok (.ior, 1) := by decide +kernel
theorem dX5_figuresThatDid_49 : decode cX5_figuresThatDid 49 = .ok (.istore_n 3, 1) := by decide +kernel
theorem dX5_figuresThatDid_50 : decode cX5_figuresThatDid 50 = .ok (.iinc 4 1, 3) := by decide +kernel
theorem dX5_figuresThatDid_53 : decode cX5_figuresThatDid 53 = .ok (.goto (-48), 3) := by decide +kernel
theorem dX5_figuresThatDid_56 : decode cX5_figuresThatDid 56 = .ok (.iload_n 3, 1) := by decide +kernel
theorem dX5_figuresThatDid_57 : decode cX5_figuresThatDid 57 = .ok (.ireturn, 1) := by decide +kernel
set_option maxRecDepth 20000 in
theorem ggX5_leansAsTold_X9_agrees : GoodIn wsX5_leansAsTold wsX9_agrees := goodIn_r _ [8, 9, 10, 11, 12, 7, 13, 14, 15, 148, 149, 150, 151, 152, 153, 154] (by decide +kernel) (by decide +kernel)
set_option maxRecDepth 20000 in
theorem gX5_leansAsTold_X9_agrees : GoodIn wsX5_leansAsTold (wsV RX5 100 RX9 yX9_agrees wsX9_agrees) := goodIn_app (goodIn_of _ (by decide +kernel)) ggX5_leansAsTold_X9_agrees
set_option maxRecDepth 20000 in
theorem ggX5_leansAsTold_X2_passDay : GoodIn wsX5_leansAsTold wsX2_passDay := goodIn_r _ [20, 21, 22, 23, 24, 25, 26, 27, 28, 29, 30, 31, 32, 33, 34, 35, 36, 37, 38, 39, 19, 40, 41, 42, 43, 44, 45, 46, 47, 48, 49, 50, 51, 52, 53, 54, 55, 56, 57, 58, 59, 60, 61, 62, 63, 64, 65, 66, 67, 68, 69, 70, 71, 72, 73, 74, 75, 76, 77, 78, 79, 80, 81, 82, 83, 84, 85, 86, 87, 88, 89, 90, 91, 92, 93, 94, 95, 96, 97, 98, 99, 100, 101, 102, 103, 104, 105, 106, 107, 108, 109, 110, 111, 112, 113, 114, 115, 116, 117, 118, 119, 120, 121, 122, 123, 124, 125, 126, 127, 128, 129, 130, 131, 132, 133, 134, 135, 136, 137, 138, 139, 140, 141, 142, 143, 144, 145, 146, 147, 160, 161, 162, 163, 164, 165, 166, 167, 168, 169, 170, 171] (by decide +kernel) (by decide +kernel)
set_option maxRecDepth 20000 in
theorem gX5_leansAsTold_X2_passDay : GoodIn wsX5_leansAsTold (wsV RX5 41 RX2 yX2_passDay wsX2_passDay) := goodIn_app (goodIn_of _ (by decide +kernel)) ggX5_leansAsTold_X2_passDay
theorem dX5_leansAsTold_0 : decode cX5_leansAsTold 0 = .ok (.iconst 0, 1) := by decide +kernel
theorem dX5_leansAsTold_1 : decode cX5_leansAsTold 1 = .ok (.istore_n 3, 1) := by decide +kernel
theorem dX5_leansAsTold_2 : decode cX5_leansAsTold 2 = .ok (.iload_n 3, 1) := by decide +kernel
theorem dX5_leansAsTold_3 : decode cX5_leansAsTold 3 = .ok (.aload_n 2, 1) := by decide +kernel
theorem dX5_leansAsTold_4 : decode cX5_leansAsTold 4 = .ok (.getfield 95, 3) := by decide +kernel
theorem dX5_leansAsTold_7 : decode cX5_leansAsTold 7 = .ok (.if_icmp .ge 35, 3) := by decide +kernel
theorem dX5_leansAsTold_10 : decode cX5_leansAsTold 10 = .ok (.aload_n 2, 1) := by decide +kernel
theorem dX5_leansAsTold_11 : decode cX5_leansAsTold 11 = .ok (.iload_n 3, 1) := by decide +kernel
theorem dX5_leansAsTold_12 : decode cX5_leansAsTold 12 = .ok (.aload_n 0, 1) := by decide +kernel
theorem dX5_leansAsTold_13 : decode cX5_leansAsTold 13 = .ok (.getfield 25, 3) := by decide +kernel
theorem dX5_leansAsTold_16 : decode cX5_leansAsTold 16 = .ok (.getfield 38, 3) := by decide +kernel
theorem dX5_leansAsTold_19 : decode cX5_leansAsTold 19 = .ok (.iload_n 1, 1) := by decide +kernel
theorem dX5_leansAsTold_20 : decode cX5_leansAsTold 20 = .ok (.iaload, 1) := by decide +kernel
theorem dX5_leansAsTold_21 : decode cX5_leansAsTold 21 = .ok (.invokevirtual 100, 3) := by decide +kernel
theorem dX5_leansAsTold_24 : decode cX5_leansAsTold 24 = .ok (.ifCond .ne 5, 3) := by decide +kernel
theorem dX5_leansAsTold_27 : decode cX5_leansAsTold 27 = .ok (.iconst 0, 1) := by decide +kernel
theorem dX5_leansAsTold_28 : decode cX5_leansAsTold 28 = .ok (.ireturn, 1) := by decide +kernel
theorem dX5_leansAsTold_29 : decode cX5_leansAsTold 29 = .ok (.aload_n 0, 1) := by decide +kernel
theorem dX5_leansAsTold_30 : decode cX5_leansAsTold 30 = .ok (.getfield 25, 3) := by decide +kernel
theorem dX5_leansAsTold_33 : decode cX5_leansAsTold 33 = .ok (.invokevirtual 41, 3) := by decide +kernel
theorem dX5_leansAsTold_36 : decode cX5_leansAsTold 36 = .ok (.iinc 3 1, 3) := by decide +kernel
theorem dX5_leansAsTold_39 : decode cX5_leansAsTold 39 = .ok (.goto (-37), 3) := by decide +kernel
theorem dX5_leansAsTold_42 : decode cX5_leansAsTold 42 = .ok (.iconst 1, 1) := by decide +kernel
theorem dX5_leansAsTold_43 : decode cX5_leansAsTold 43 = .ok (.ireturn, 1) := by decide +kernel
set_option maxRecDepth 20000 in
theorem ggX5_hangings_X5_hangsAsTold : GoodIn wsX5_hangings wsX5_hangsAsTold := goodIn_r _ [5, 6, 7, 8, 9, 10, 11, 12, 13, 14, 15, 16, 17, 18, 19, 20, 21, 22, 23, 24, 25, 26, 27, 28, 29, 30, 31, 32, 33, 34, 35, 36, 37, 38, 39, 40, 41, 42, 43, 44, 45, 46, 47, 48, 49, 50, 51, 52, 53, 54, 55, 56, 57, 58, 59, 60, 61, 62, 63, 64, 65, 66, 67, 68, 69, 70, 71, 72, 73, 74, 75, 76, 77, 78, 79, 80, 81, 82, 83, 84, 85, 86, 87, 88, 89, 90, 91, 92, 93, 94, 95, 96, 97, 98, 99, 100, 101, 102, 103, 104, 105, 106, 107, 108, 109, 110, 111, 112, 113, 114, 115, 116, 117, 118, 119, 120, 121, 122, 123, 124, 125, 126, 127, 128, 129, 130, 131, 132, 133, 134, 135, 136, 137, 138, 139, 140, 141, 142, 143, 144, 145, 146, 147, 148, 149, 150, 151, 152, 153, 154, 155, 156, 157, 158, 159, 160, 161, 162, 163, 164, 165, 166, 167, 168, 169, 170, 171, 172, 173, 174, 175, 176, 177, 178, 179, 180, 181, 182, 183, 184, 185, 186] (by decide +kernel) (by decide +kernel)
set_option maxRecDepth 20000 in
theorem gX5_hangings_X5_hangsAsTold : GoodIn wsX5_hangings (wsV RX5 103 RX5 yX5_hangsAsTold wsX5_hangsAsTold) := goodIn_app (goodIn_of _ (by decide +kernel)) ggX5_hangings_X5_hangsAsTold
theorem dX5_hangings_0 : decode cX5_hangings 0 = .ok (.iconst 0, 1) := by decide +kernel
theorem dX5_hangings_1 : decode cX5_hangings 1 = .ok (.istore_n 3, 1) := by decide +kernel
theorem dX5_hangings_2 : decode cX5_hangings 2 = .ok (.bipush (-4), 2) := by decide +kernel
theorem dX5_hangings_4 : decode cX5_hangings 4 = .ok (.istore 4, 2) := by decide +kernel
theorem dX5_hangings_6 : decode cX5_hangings 6 = .ok (.bipush (-4), 2) := by decide +kernel
theorem dX5_hangings_8 : decode cX5_hangings 8 = .ok (.istore 5, 2) := by decide +kernel
theorem dX5_hangings_10 : decode cX5_hangings 10 = .ok (.iconst 0, 1) := by decide +kernel
theorem dX5_hangings_11 : decode cX5_hangings 11 = .ok (.istore 6, 2) := by decide +kernel
theorem dX5_hangings_13 : decode cX5_hangings 13 = .ok (.iload 6, 2) := by decide +kernel
theorem dX5_hangings_15 : decode cX5_hangings 15 = .ok (.bipush 9, 2) := by decide +kernel
theorem dX5_hangings_17 : decode cX5_hangings 17 = .ok (.if_icmp .gt 66, 3) := by decide +kernel
theorem dX5_hangings_20 : decode cX5_hangings 20 = .ok (.iconst 0, 1) := by decide +kernel
theorem dX5_hangings_21 : decode cX5_hangings 21 = .ok (.istore 7, 2) := by decide +kernel
theorem dX5_hangings_23 : decode cX5_hangings 23 = .ok (.iload 7, 2) := by decide +kernel
theorem dX5_hangings_25 : decode cX5_hangings 25 = .ok (.bipush 8, 2) := by decide +kernel
theorem dX5_hangings_27 : decode cX5_hangings 27 = .ok (.if_icmp .ge 50, 3) := by decide +kernel
theorem dX5_hangings_30 : decode cX5_hangings 30 = .ok (.aload_n 0, 1) := by decide +kernel
theorem dX5_hangings_31 : decode cX5_hangings 31 = .ok (.iload 6, 2) := by decide +kernel
theorem dX5_hangings_33 : decode cX5_hangings 33 = .ok (.iload 7, 2) := by decide +kernel
theorem dX5_hangings_35 : decode cX5_hangings 35 = .ok (.aload_n 1, 1) := by decide +kernel
theorem dX5_hangings_36 : decode cX5_hangings 36 = .ok (.invokevirtual 103, 3) := by decide +kernel
theorem dX5_hangings_39 : decode cX5_hangings 39 = .ok (.ifCond .eq 32, 3) := by decide +kernel
theorem dX5_hangings_42 : decode cX5_hangings 42 = .ok (.iinc 3 1, 3) := by decide +kernel
theorem dX5_hangings_45 : decode cX5_hangings 45 = .ok (.bipush 10, 2) := by decide +kernel
theorem dX5_hangings_47 : decode cX5_hangings 47 = .ok (.iload 6, 2) := by decide +kernel
theorem dX5_hangings_49 : decode cX5_hangings 49 = .ok (.imul, 1) := by decide +kernel
theorem dX5_hangings_50 : decode cX5_hangings 50 = .ok (.iload 7, 2) := by decide +kernel
theorem dX5_hangings_52 : decode cX5_hangings 52 = .ok (.iadd, 1) := by decide +kernel
theorem dX5_hangings_53 : decode cX5_hangings 53 = .ok (.istore 5, 2) := by decide +kernel
theorem dX5_hangings_55 : decode cX5_hangings 55 = .ok (.iload 4, 2) := by decide +kernel
theorem dX5_hangings_57 : decode cX5_hangings 57 = .ok (.bipush (-4), 2) := by decide +kernel
theorem dX5_hangings_59 : decode cX5_hangings 59 = .ok (.if_icmp .ne 8, 3) := by decide +kernel
theorem dX5_hangings_62 : decode cX5_hangings 62 = .ok (.iload 5, 2) := by decide +kernel
theorem dX5_hangings_64 : decode cX5_hangings 64 = .ok (.goto 5, 3) := by decide +kernel
theorem dX5_hangings_67 : decode cX5_hangings 67 = .ok (.iload 4, 2) := by decide +kernel
theorem dX5_hangings_69 : decode cX5_hangings 69 = .ok (.istore 4, 2) := by decide +kernel
theorem dX5_hangings_71 : decode cX5_hangings 71 = .ok (.iinc 7 1, 3) := by decide +kernel
theorem dX5_hangings_74 : decode cX5_hangings 74 = .ok (.goto (-51), 3) := by decide +kernel
theorem dX5_hangings_77 : decode cX5_hangings 77 = .ok (.iinc 6 1, 3) := by decide +kernel
theorem dX5_hangings_80 : decode cX5_hangings 80 = .ok (.goto (-67), 3) := by decide +kernel
theorem dX5_hangings_83 : decode cX5_hangings 83 = .ok (.iload_n 2, 1) := by decide +kernel
theorem dX5_hangings_84 : decode cX5_hangings 84 = .ok (.ifCond .ne 5, 3) := by decide +kernel
theorem dX5_hangings_87 : decode cX5_hangings 87 = .ok (.iload_n 3, 1) := by decide +kernel
theorem dX5_hangings_88 : decode cX5_hangings 88 = .ok (.ireturn, 1) := by decide +kernel
theorem dX5_hangings_89 : decode cX5_hangings 89 = .ok (.iload_n 2, 1) := by decide +kernel
theorem dX5_hangings_90 : decode cX5_hangings 90 = .ok (.iconst 1, 1) := by decide +kernel
theorem dX5_hangings_91 : decode cX5_hangings 91 = .ok (.if_icmp .ne 8, 3) := by decide +kernel
theorem dX5_hangings_94 : decode cX5_hangings 94 = .ok (.iload 4, 2) := by decide +kernel
theorem dX5_hangings_96 : decode cX5_hangings 96 = .ok (.goto 5, 3) := by decide +kernel
theorem dX5_hangings_99 : decode cX5_hangings 99 = .ok (.iload 5, 2) := by decide +kernel
theorem dX5_hangings_101 : decode cX5_hangings 101 = .ok (.ireturn, 1) := by decide +kernel
set_option maxRecDepth 20000 in
theorem ggX5_hangsAsTold_X2_becomes : GoodIn wsX5_hangsAsTold wsX2_becomes := goodIn_r _ [10, 11, 12, 13, 14, 15, 16, 17, 18, 19, 20, 21, 22, 23, 163, 164, 165, 166, 167, 168, 169, 170, 171, 172, 173, 174] (by decide +kernel) (by decide +kernel)
set_option maxRecDepth 20000 in
theorem gX5_hangsAsTold_X2_becomes : GoodIn wsX5_hangsAsTold (wsV RX5 28 RX2 yX2_becomes wsX2_becomes) := goodIn_app (goodIn_of _ (by decide +kernel)) ggX5_hangsAsTold_X2_becomes
set_option maxRecDepth 20000 in
theorem ggX5_hangsAsTold_X9_agrees : GoodIn wsX5_hangsAsTold wsX9_agrees := goodIn_r _ [28, 29, 30, 31, 32, 27, 33, 34, 35, 175, 176, 177, 178, 179, 180, 181] (by decide +kernel) (by decide +kernel)
set_option maxRecDepth 20000 in
theorem gX5_hangsAsTold_X9_agrees : GoodIn wsX5_hangsAsTold (wsV RX5 100 RX9 yX9_agrees wsX9_agrees) := goodIn_app (goodIn_of _ (by decide +kernel)) ggX5_hangsAsTold_X9_agrees
set_option maxRecDepth 20000 in
theorem ggX5_hangsAsTold_X2_passDay : GoodIn wsX5_hangsAsTold wsX2_passDay := goodIn_r _ [39, 23, 18, 40, 11, 17, 16, 41, 42, 43, 44, 45, 46, 47, 48, 22, 21, 49, 50, 51, 9, 52, 53, 54, 55, 56, 19, 57, 58, 59, 60, 61, 62, 63, 64, 65, 66, 67, 68, 69, 70, 71, 72, 73, 74, 75, 76, 77, 78, 79, 80, 81, 82, 83, 84, 85, 86, 87, 88, 89, 90, 91, 92, 93, 94, 95, 96, 97, 98, 99, 100, 101, 102, 103, 104, 105, 106, 107, 108, 109, 110, 111, 112, 113, 114, 115, 116, 117, 118, 119, 120, 121, 122, 123, 124, 125, 126, 127, 128, 129, 130, 131, 132, 133, 134, 135, 136, 137, 138, 139, 140, 141, 142, 143, 144, 145, 146, 147, 148, 149, 150, 151, 152, 20, 153, 154, 155, 156, 157, 163, 164, 165, 166, 167, 168, 169, 170, 171, 172, 173, 174] (by decide +kernel) (by decide +kernel)
set_option maxRecDepth 20000 in
theorem gX5_hangsAsTold_X2_passDay : GoodIn wsX5_hangsAsTold (wsV RX5 41 RX2 yX2_passDay wsX2_passDay) := goodIn_app (goodIn_of _ (by decide +kernel)) ggX5_hangsAsTold_X2_passDay
theorem dX5_hangsAsTold_0 : decode cX5_hangsAsTold 0 = .ok (.aload_n 0, 1) := by decide +kernel
theorem dX5_hangsAsTold_1 : decode cX5_hangsAsTold 1 = .ok (.getfield 25, 3) := by decide +kernel
theorem dX5_hangsAsTold_4 : decode cX5_hangsAsTold 4 = .ok (.aload_n 0, 1) := by decide +kernel
theorem dX5_hangsAsTold_5 : decode cX5_hangsAsTold 5 = .ok (.getfield 21, 3) := by decide +kernel
theorem dX5_hangsAsTold_8 : decode cX5_hangsAsTold 8 = .ok (.invokevirtual 28, 3) := by decide +kernel
theorem dX5_hangsAsTold_11 : decode cX5_hangsAsTold 11 = .ok (.aload_n 0, 1) := by decide +kernel
theorem dX5_hangsAsTold_12 : decode cX5_hangsAsTold 12 = .ok (.getfield 25, 3) := by decide +kernel
theorem dX5_hangsAsTold_15 : decode cX5_hangsAsTold 15 = .ok (.iload_n 1, 1) := by decide +kernel
theorem dX5_hangsAsTold_16 : decode cX5_hangsAsTold 16 = .ok (.putfield 107, 3) := by decide +kernel
theorem dX5_hangsAsTold_19 : decode cX5_hangsAsTold 19 = .ok (.aload_n 0, 1) := by decide +kernel
theorem dX5_hangsAsTold_20 : decode cX5_hangsAsTold 20 = .ok (.getfield 25, 3) := by decide +kernel
theorem dX5_hangsAsTold_23 : decode cX5_hangsAsTold 23 = .ok (.iload_n 2, 1) := by decide +kernel
theorem dX5_hangsAsTold_24 : decode cX5_hangsAsTold 24 = .ok (.putfield 48, 3) := by decide +kernel
theorem dX5_hangsAsTold_27 : decode cX5_hangsAsTold 27 = .ok (.iconst 0, 1) := by decide +kernel
theorem dX5_hangsAsTold_28 : decode cX5_hangsAsTold 28 = .ok (.istore 4, 2) := by decide +kernel
theorem dX5_hangsAsTold_30 : decode cX5_hangsAsTold 30 = .ok (.iload 4, 2) := by decide +kernel
theorem dX5_hangsAsTold_32 : decode cX5_hangsAsTold 32 = .ok (.aload_n 3, 1) := by decide +kernel
theorem dX5_hangsAsTold_33 : decode cX5_hangsAsTold 33 = .ok (.getfield 95, 3) := by decide +kernel
theorem dX5_hangsAsTold_36 : decode cX5_hangsAsTold 36 = .ok (.if_icmp .ge 34, 3) := by decide +kernel
theorem dX5_hangsAsTold_39 : decode cX5_hangsAsTold 39 = .ok (.aload_n 3, 1) := by decide +kernel
theorem dX5_hangsAsTold_40 : decode cX5_hangsAsTold 40 = .ok (.iload 4, 2) := by decide +kernel
theorem dX5_hangsAsTold_42 : decode cX5_hangsAsTold 42 = .ok (.aload_n 0, 1) := by decide +kernel
theorem dX5_hangsAsTold_43 : decode cX5_hangsAsTold 43 = .ok (.getfield 25, 3) := by decide +kernel
theorem dX5_hangsAsTold_46 : decode cX5_hangsAsTold 46 = .ok (.getfield 48, 3) := by decide +kernel
theorem dX5_hangsAsTold_49 : decode cX5_hangsAsTold 49 = .ok (.invokevirtual 100, 3) := by decide +kernel
theorem dX5_hangsAsTold_52 : decode cX5_hangsAsTold 52 = .ok (.ifCond .ne 5, 3) := by decide +kernel
theorem dX5_hangsAsTold_55 : decode cX5_hangsAsTold 55 = .ok (.iconst 0, 1) := by decide +kernel
theorem dX5_hangsAsTold_56 : decode cX5_hangsAsTold 56 = .ok (.ireturn, 1) := by decide +kernel
theorem dX5_hangsAsTold_57 : decode cX5_hangsAsTold 57 = .ok (.aload_n 0, 1) := by decide +kernel
theorem dX5_hangsAsTold_58 : decode cX5_hangsAsTold 58 = .ok (.getfield 25, 3) := by decide +kernel
theorem dX5_hangsAsTold_61 : decode cX5_hangsAsTold 61 = .ok (.invokevirtual 41, 3) := by decide +kernel
theorem dX5_hangsAsTold_64 : decode cX5_hangsAsTold 64 = .ok (.iinc 4 1, 3) := by decide +kernel
theorem dX5_hangsAsTold_67 : decode cX5_hangsAsTold 67 = .ok (.goto (-37), 3) := by decide +kernel
theorem dX5_hangsAsTold_70 : decode cX5_hangsAsTold 70 = .ok (.iconst 1, 1) := by decide +kernel
theorem dX5_hangsAsTold_71 : decode cX5_hangsAsTold 71 = .ok (.ireturn, 1) := by decide +kernel
set_option maxRecDepth 20000 in
theorem ggX5_firstMisjudged_X2_becomes : GoodIn wsX5_firstMisjudged wsX2_becomes := goodIn_r _ [8, 9, 10, 11, 12, 13, 14, 15, 16, 17, 18, 19, 20, 21, 170, 171, 172, 173, 174, 175, 176, 177, 178, 179, 180, 181] (by decide +kernel) (by decide +kernel)
set_option maxRecDepth 20000 in
theorem gX5_firstMisjudged_X2_becomes : GoodIn wsX5_firstMisjudged (wsV RX5 28 RX2 yX2_becomes wsX2_becomes) := goodIn_app (goodIn_of _ (by decide +kernel)) ggX5_firstMisjudged_X2_becomes
set_option maxRecDepth 20000 in
theorem ggX5_firstMisjudged_X2_upright : GoodIn wsX5_firstMisjudged wsX2_upright := goodIn_r _ [25, 16, 15, 26, 27, 28, 29, 30, 9, 14, 31, 32, 33, 34, 35, 36, 37, 38, 39, 40, 41, 42, 43, 44, 45, 46, 47, 48, 49, 50, 51, 52, 53, 54, 55, 56, 57, 58, 59, 60, 61, 62, 63, 64, 65, 170, 171, 172, 173, 174, 175, 176, 177, 178, 179, 180, 181] (by decide +kernel) (by decide +kernel)
set_option maxRecDepth 20000 in
theorem gX5_firstMisjudged_X2_upright : GoodIn wsX5_firstMisjudged (wsV RX5 81 RX2 yX2_upright wsX2_upright) := goodIn_app (goodIn_of _ (by decide +kernel)) ggX5_firstMisjudged_X2_upright
set_option maxRecDepth 20000 in
theorem ggX5_firstMisjudged_J6_bitCount_0f7a4 : GoodIn wsX5_firstMisjudged wsJ6_bitCount_0f7a4 := goodIn_r _ [69, 70, 71, 72] (by decide +kernel) (by decide +kernel)
set_option maxRecDepth 20000 in
theorem gX5_firstMisjudged_J6_bitCount_0f7a4 : GoodIn wsX5_firstMisjudged (va_wsS RX5 65 yJ6_bitCount_0f7a4 wsJ6_bitCount_0f7a4) := goodIn_app (goodIn_of _ (by decide +kernel)) ggX5_firstMisjudged_J6_bitCount_0f7a4
set_option maxRecDepth 20000 in
theorem ggX5_firstMisjudged_X9_agrees : GoodIn wsX5_firstMisjudged wsX9_agrees := goodIn_r _ [77, 78, 79, 80, 81, 76, 82, 83, 84, 163, 164, 165, 166, 167, 168, 169] (by decide +kernel) (by decide +kernel)
set_option maxRecDepth 20000 in
theorem gX5_firstMisjudged_X9_agrees : GoodIn wsX5_firstMisjudged (wsV RX5 100 RX9 yX9_agrees wsX9_agrees) := goodIn_app (goodIn_of _ (by decide +kernel)) ggX5_firstMisjudged_X9_agrees
set_option maxRecDepth 20000 in
theorem ggX5_firstMisjudged_X2_passDay : GoodIn wsX5_firstMisjudged wsX2_passDay := goodIn_r _ [88, 21, 16, 30, 9, 15, 14, 89, 90, 28, 91, 92, 93, 94, 95, 20, 19, 96, 97, 98, 7, 99, 100, 101, 102, 103, 17, 104, 105, 106, 107, 108, 36, 109, 110, 111, 112, 41, 113, 114, 115, 48, 116, 117, 118, 119, 53, 120, 121, 122, 123, 124, 125, 126, 127, 128, 129, 130, 131, 59, 132, 133, 134, 63, 135, 136, 137, 138, 139, 140, 141, 142, 143, 23, 24, 25, 26, 27, 29, 31, 32, 33, 34, 35, 37, 38, 39, 40, 42, 43, 44, 45, 46, 47, 49, 50, 51, 52, 54, 55, 56, 57, 58, 60, 61, 62, 64, 65, 144, 67, 68, 69, 70, 71, 72, 145, 146, 147, 148, 149, 150, 151, 152, 18, 153, 154, 155, 156, 157, 170, 171, 172, 173, 174, 175, 176, 177, 178, 179, 180, 181] (by decide +kernel) (by decide +kernel)
set_option maxRecDepth 20000 in
theorem gX5_firstMisjudged_X2_passDay : GoodIn wsX5_firstMisjudged (wsV RX5 41 RX2 yX2_passDay wsX2_passDay) := goodIn_app (goodIn_of _ (by decide +kernel)) ggX5_firstMisjudged_X2_passDay
theorem dX5_firstMisjudged_0 : decode cX5_firstMisjudged 0 = .ok (.aload_n 0, 1) := by decide +kernel
theorem dX5_firstMisjudged_1 : decode cX5_firstMisjudged 1 = .ok (.getfield 25, 3) := by decide +kernel
theorem dX5_firstMisjudged_4 : decode cX5_firstMisjudged 4 = .ok (.aload_n 0, 1) := by decide +kernel
theorem dX5_firstMisjudged_5 : decode cX5_firstMisjudged 5 = .ok (.getfield 21, 3) := by decide +kernel
theorem dX5_firstMisjudged_8 : decode cX5_firstMisjudged 8 = .ok (.invokevirtual 28, 3) := by decide +kernel
theorem dX5_firstMisjudged_11 : decode cX5_firstMisjudged 11 = .ok (.iconst 0, 1) := by decide +kernel
theorem dX5_firstMisjudged_12 : decode cX5_firstMisjudged 12 = .ok (.istore_n 2, 1) := by decide +kernel
theorem dX5_firstMisjudged_13 : decode cX5_firstMisjudged 13 = .ok (.iload_n 2, 1) := by decide +kernel
theorem dX5_firstMisjudged_14 : decode cX5_firstMisjudged 14 = .ok (.aload_n 1, 1) := by decide +kernel
theorem dX5_firstMisjudged_15 : decode cX5_firstMisjudged 15 = .ok (.getfield 95, 3) := by decide +kernel
theorem dX5_firstMisjudged_18 : decode cX5_firstMisjudged 18 = .ok (.if_icmp .ge 36, 3) := by decide +kernel
theorem dX5_firstMisjudged_21 : decode cX5_firstMisjudged 21 = .ok (.aload_n 1, 1) := by decide +kernel
theorem dX5_firstMisjudged_22 : decode cX5_firstMisjudged 22 = .ok (.iload_n 2, 1) := by decide +kernel
theorem dX5_firstMisjudged_23 : decode cX5_firstMisjudged 23 = .ok (.aload_n 0, 1) := by decide +kernel
theorem dX5_firstMisjudged_24 : decode cX5_firstMisjudged 24 = .ok (.getfield 25, 3) := by decide +kernel
theorem dX5_firstMisjudged_27 : decode cX5_firstMisjudged 27 = .ok (.invokevirtual 81, 3) := by decide +kernel
theorem dX5_firstMisjudged_30 : decode cX5_firstMisjudged 30 = .ok (.invokestatic 65, 3) := by decide +kernel
theorem dX5_firstMisjudged_33 : decode cX5_firstMisjudged 33 = .ok (.invokevirtual 100, 3) := by decide +kernel
theorem dX5_firstMisjudged_36 : decode cX5_firstMisjudged 36 = .ok (.ifCond .ne 5, 3) := by decide +kernel
theorem dX5_firstMisjudged_39 : decode cX5_firstMisjudged 39 = .ok (.iload_n 2, 1) := by decide +kernel
theorem dX5_firstMisjudged_40 : decode cX5_firstMisjudged 40 = .ok (.ireturn, 1) := by decide +kernel
theorem dX5_firstMisjudged_41 : decode cX5_firstMisjudged 41 = .ok (.aload_n 0, 1) := by decide +kernel
theorem dX5_firstMisjudged_42 : decode cX5_firstMisjudged 42 = .ok (.getfield 25, 3) := by decide +kernel
theorem dX5_firstMisjudged_45 : decode cX5_firstMisjudged 45 = .ok (.invokevirtual 41, 3) := by decide +kernel
theorem dX5_firstMisjudged_48 : decode cX5_firstMisjudged 48 = .ok (.iinc 2 1, 3) := by decide +kernel
theorem dX5_firstMisjudged_51 : decode cX5_firstMisjudged 51 = .ok (.goto (-38), 3) := by decide +kernel
theorem dX5_firstMisjudged_54 : decode cX5_firstMisjudged 54 = .ok (.bipush (-4), 2) := by decide +kernel
theorem dX5_firstMisjudged_56 : decode cX5_firstMisjudged 56 = .ok (.ireturn, 1) := by decide +kernel
set_option maxRecDepth 20000 in
theorem ggX5_settledPair_X2_becomes : GoodIn wsX5_settledPair wsX2_becomes := goodIn_r _ [10, 11, 12, 13, 14, 15, 16, 17, 18, 19, 20, 21, 22, 23, 172, 173, 174, 175, 176, 177, 178, 179, 180, 181, 182, 183] (by decide +kernel) (by decide +kernel)
set_option maxRecDepth 20000 in
theorem gX5_settledPair_X2_becomes : GoodIn wsX5_settledPair (wsV RX5 28 RX2 yX2_becomes wsX2_becomes) := goodIn_app (goodIn_of _ (by decide +kernel)) ggX5_settledPair_X2_becomes
set_option maxRecDepth 20000 in
theorem ggX5_settledPair_X2_passDays : GoodIn wsX5_settledPair wsX2_passDays := goodIn_r _ [27, 28, 29, 30, 31, 9, 32, 23, 18, 33, 11, 17, 16, 34, 35, 36, 37, 38, 39, 40, 22, 21, 41, 42, 43, 44, 45, 46, 47, 48, 19, 49, 50, 51, 52, 53, 54, 55, 56, 57, 58, 59, 60, 61, 62, 63, 64, 65, 66, 67, 68, 69, 70, 71, 72, 73, 74, 75, 76, 77, 78, 79, 80, 81, 82, 83, 84, 85, 86, 87, 88, 89, 90, 91, 92, 93, 94, 95, 96, 97, 98, 99, 100, 101, 102, 103, 104, 105, 106, 107, 108, 109, 110, 111, 112, 113, 114, 115, 116, 117, 118, 119, 120, 121, 122, 123, 124, 125, 126, 127, 128, 129, 130, 131, 132, 133, 134, 135, 136, 137, 138, 139, 140, 141, 142, 143, 144, 20, 145, 146, 147, 148, 149, 172, 173, 174, 175, 176, 177, 178, 179, 180, 181, 182, 183] (by decide +kernel) (by decide +kernel)
set_option maxRecDepth 20000 in
theorem gX5_settledPair_X2_passDays : GoodIn wsX5_settledPair (wsV RX5 34 RX2 yX2_passDays wsX2_passDays) := goodIn_app (goodIn_of _ (by decide +kernel)) ggX5_settledPair_X2_passDays
set_option maxRecDepth 20000 in
theorem ggX5_settledPair_X5_gainOf : GoodIn wsX5_settledPair wsX5_gainOf := goodIn_r _ [154, 1, 155, 156, 157, 9, 158, 159, 160, 161, 162, 17, 98, 99, 36, 100, 163, 164, 165, 166, 33, 11, 16, 101, 102, 103, 104, 105, 54, 106, 107, 108, 109, 59, 110, 111, 112, 113, 114, 115, 63, 116, 117, 118, 119, 68, 120, 121, 122, 123, 124, 81, 125, 126, 127, 85, 128, 129, 167, 168, 169, 170, 171, 172, 173, 174, 175, 176, 177, 178, 179, 180, 181, 182, 183] (by decide +kernel) (by decide +kernel)
set_option maxRecDepth 20000 in
theorem gX5_settledPair_X5_gainOf : GoodIn wsX5_settledPair (wsV RX5 110 RX5 yX5_gainOf wsX5_gainOf) := goodIn_app (goodIn_of _ (by decide +kernel)) ggX5_settledPair_X5_gainOf
theorem dX5_settledPair_0 : decode cX5_settledPair 0 = .ok (.iconst 0, 1) := by decide +kernel
theorem dX5_settledPair_1 : decode cX5_settledPair 1 = .ok (.istore 4, 2) := by decide +kernel
theorem dX5_settledPair_3 : decode cX5_settledPair 3 = .ok (.iload 4, 2) := by decide +kernel
theorem dX5_settledPair_5 : decode cX5_settledPair 5 = .ok (.iconst 4, 1) := by decide +kernel
theorem dX5_settledPair_6 : decode cX5_settledPair 6 = .ok (.if_icmp .ge 95, 3) := by decide +kernel
theorem dX5_settledPair_9 : decode cX5_settledPair 9 = .ok (.iload 4, 2) := by decide +kernel
theorem dX5_settledPair_11 : decode cX5_settledPair 11 = .ok (.iconst 1, 1) := by decide +kernel
theorem dX5_settledPair_12 : decode cX5_settledPair 12 = .ok (.ishr, 1) := by decide +kernel
theorem dX5_settledPair_13 : decode cX5_settledPair 13 = .ok (.iload_n 1, 1) := by decide +kernel
theorem dX5_settledPair_14 : decode cX5_settledPair 14 = .ok (.ishl, 1) := by decide +kernel
theorem dX5_settledPair_15 : decode cX5_settledPair 15 = .ok (.iload 4, 2) := by decide +kernel
theorem dX5_settledPair_17 : decode cX5_settledPair 17 = .ok (.iconst 1, 1) := by decide +kernel
theorem dX5_settledPair_18 : decode cX5_settledPair 18 = .ok (.iand, 1) := by decide +kernel
theorem dX5_settledPair_19 : decode cX5_settledPair 19 = .ok (.iload_n 2, 1) := by decide +kernel
theorem dX5_settledPair_20 : decode cX5_settledPair 20 = .ok (.ishl, 1) := by decide +kernel
theorem dX5_settledPair_21 : decode cX5_settledPair 21 = .ok (.ior, 1) := by decide +kernel
theorem dX5_settledPair_22 : decode cX5_settledPair 22 = .ok (.istore 5, 2) := by decide +kernel
theorem dX5_settledPair_24 : decode cX5_settledPair 24 = .ok (.aload_n 0, 1) := by decide +kernel
theorem dX5_settledPair_25 : decode cX5_settledPair 25 = .ok (.getfield 25, 3) := by decide +kernel
theorem dX5_settledPair_28 : decode cX5_settledPair 28 = .ok (.aload_n 0, 1) := by decide +kernel
theorem dX5_settledPair_29 : decode cX5_settledPair 29 = .ok (.getfield 21, 3) := by decide +kernel
theorem dX5_settledPair_32 : decode cX5_settledPair 32 = .ok (.invokevirtual 28, 3) := by decide +kernel
theorem dX5_settledPair_35 : decode cX5_settledPair 35 = .ok (.aload_n 0, 1) := by decide +kernel
theorem dX5_settledPair_36 : decode cX5_settledPair 36 = .ok (.getfield 25, 3) := by decide +kernel
theorem dX5_settledPair_39 : decode cX5_settledPair 39 = .ok (.dup, 1) := by decide +kernel
theorem dX5_settledPair_40 : decode cX5_settledPair 40 = .ok (.getfield 70, 3) := by decide +kernel
theorem dX5_settledPair_43 : decode cX5_settledPair 43 = .ok (.iload 5, 2) := by decide +kernel
theorem dX5_settledPair_45 : decode cX5_settledPair 45 = .ok (.ior, 1) := by decide +kernel
theorem dX5_settledPair_46 : decode cX5_settledPair 46 = .ok (.putfield 70, 3) := by decide +kernel
theorem dX5_settledPair_49 : decode cX5_settledPair 49 = .ok (.aload_n 0, 1) := by decide +kernel
theorem dX5_settledPair_50 : decode cX5_settledPair 50 = .ok (.getfield 25, 3) := by decide +kernel
theorem dX5_settledPair_53 : decode cX5_settledPair 53 = .ok (.iload_n 3, 1) := by decide +kernel
theorem dX5_settledPair_54 : decode cX5_settledPair 54 = .ok (.invokevirtual 34, 3) := by decide +kernel
theorem dX5_settledPair_57 : decode cX5_settledPair 57 = .ok (.istore 6, 2) := by decide +kernel
theorem dX5_settledPair_59 : decode cX5_settledPair 59 = .ok (.aload_n 0, 1) := by decide +kernel
theorem dX5_settledPair_60 : decode cX5_settledPair 60 = .ok (.getfield 9, 3) := by decide +kernel
theorem dX5_settledPair_63 : decode cX5_settledPair 63 = .ok (.iload 4, 2) := by decide +kernel
theorem dX5_settledPair_65 : decode cX5_settledPair 65 = .ok (.aload_n 0, 1) := by decide +kernel
theorem dX5_settledPair_66 : decode cX5_settledPair 66 = .ok (.iload_n 1, 1) := by decide +kernel
theorem dX5_settledPair_67 : decode cX5_settledPair 67 = .ok (.iload 4, 2) := by decide +kernel
theorem dX5_settledPair_69 : decode cX5_settledPair 69 = .ok (.iconst 1, 1) := by decide +kernel
theorem dX5_settledPair_70 : decode cX5_settledPair 70 = .ok (.ishr, 1) := by decide +kernel
theorem dX5_settledPair_71 : decode cX5_settledPair 71 = .ok (.iload 6, 2) := by decide +kernel
theorem dX5_settledPair_73 : decode cX5_settledPair 73 = .ok (.invokevirtual 110, 3) := by decide +kernel
theorem dX5_settledPair_76 : decode cX5_settledPair 76 = .ok (.iastore, 1) := by decide +kernel
theorem dX5_settledPair_77 : decode cX5_settledPair 77 = .ok (.aload_n 0, 1) := by decide +kernel
theorem dX5_settledPair_78 : decode cX5_settledPair 78 = .ok (.getfield 15, 3) := by decide +kernel
theorem dX5_settledPair_81 : decode cX5_settledPair 81 = .ok (.iload 4, 2) := by decide +kernel
theorem dX5_settledPair_83 : decode cX5_settledPair 83 = .ok (.aload_n 0, 1) := by decide +kernel
theorem dX5_settledPair_84 : decode cX5_settledPair 84 = .ok (.iload_n 2, 1) := by decide +kernel
theorem dX5_settledPair_85 : decode cX5_settledPair 85 = .ok (.iload 4, 2) := by decide +kernel
theorem dX5_settledPair_87 : decode cX5_settledPair 87 = .ok (.iconst 1, 1) := by decide +kernel
theorem dX5_settledPair_88 : decode cX5_settledPair 88 = .ok (.iand, 1) := by decide +kernel
theorem dX5_settledPair_89 : decode cX5_settledPair 89 = .ok (.iload 6, 2) := by decide +kernel
theorem dX5_settledPair_91 : decode cX5_settledPair 91 = .ok (.invokevirtual 110, 3) := by decide +kernel
theorem dX5_settledPair_94 : decode cX5_settledPair 94 = .ok (.iastore, 1) := by decide +kernel
theorem dX5_settledPair_95 : decode cX5_settledPair 95 = .ok (.iinc 4 1, 3) := by decide +kernel
theorem dX5_settledPair_98 : decode cX5_settledPair 98 = .ok (.goto (-95), 3) := by decide +kernel
theorem dX5_settledPair_101 : decode cX5_settledPair 101 = .ok (.iconst 0, 1) := by decide +kernel
theorem dX5_settledPair_102 : decode cX5_settledPair 102 = .ok (.istore 4, 2) := by decide +kernel
theorem dX5_settledPair_104 : decode cX5_settledPair 104 = .ok (.iload 4, 2) := by decide +kernel
theorem dX5_settledPair_106 : decode cX5_settledPair 106 = .ok (.iconst 4, 1) := by decide +kernel
theorem dX5_settledPair_107 : decode cX5_settledPair 107 = .ok (.if_icmp .ge 60, 3) := by decide +kernel
theorem dX5_settledPair_110 : decode cX5_settledPair 110 = .ok (.aload_n 0, 1) := by decide +kernel
theorem dX5_settledPair_111 : decode cX5_settledPair 111 = .ok (.getfield 9, 3) := by decide +kernel
theorem dX5_settledPair_114 : decode cX5_settledPair 114 = .ok (.iload 4, 2) := by decide +kernel
theorem dX5_settledPair_116 : decode cX5_settledPair 116 = .ok (.iaload, 1) := by decide +kernel
theorem dX5_settledPair_117 : decode cX5_settledPair 117 = .ok (.aload_n 0, 1) := by decide +kernel
theorem dX5_settledPair_118 : decode cX5_settledPair 118 = .ok (.getfield 9, 3) := by decide +kernel
theorem dX5_settledPair_121 : decode cX5_settledPair 121 = .ok (.iload 4, 2) := by decide +kernel
theorem dX5_settledPair_123 : decode cX5_settledPair 123 = .ok (.iconst 2, 1) := by decide +kernel
theorem dX5_settledPair_124 : decode cX5_settledPair 124 = .ok (.ixor, 1) := by decide +kernel
theorem dX5_settledPair_125 : decode cX5_settledPair 125 = .ok (.iaload, 1) := by decide +kernel
theorem dX5_settledPair_126 : decode cX5_settledPair 126 = .ok (.if_icmp .lt 35, 3) := by decide +kernel
theorem dX5_settledPair_129 : decode cX5_settledPair 129 = .ok (.aload_n 0, 1) := by decide +kernel
theorem dX5_settledPair_130 : decode cX5_settledPair 130 = .ok (.getfield 15, 3) := by decide +kernel
theorem dX5_settledPair_133 : decode cX5_settledPair 133 = .ok (.iload 4, 2) := by decide +kernel
theorem dX5_settledPair_135 : decode cX5_settledPair 135 = .ok (.iaload, 1) := by decide +kernel
theorem dX5_settledPair_136 : decode cX5_settledPair 136 = .ok (.aload_n 0, 1) := by decide +kernel
theorem dX5_settledPair_137 : decode cX5_settledPair 137 = .ok (.getfield 15, 3) := by decide +kernel
theorem dX5_settledPair_140 : decode cX5_settledPair 140 = .ok (.iload 4, 2) := by decide +kernel
theorem dX5_settledPair_142 : decode cX5_settledPair 142 = .ok (.iconst 1, 1) := by decide +kernel
theorem dX5_settledPair_143 : decode cX5_settledPair 143 = .ok (.ixor, 1) := by decide +kernel
theorem dX5_settledPair_144 : decode cX5_settledPair 144 = .ok (.iaload, 1) := by decide +kernel
theorem dX5_settledPair_145 : decode cX5_settledPair 145 = .ok (.if_icmp .lt 16, 3) := by decide +kernel
theorem dX5_settledPair_148 : decode cX5_settledPair 148 = .ok (.bipush 10, 2) := by decide +kernel
theorem dX5_settledPair_150 : decode cX5_settledPair 150 = .ok (.iload 4, 2) := by decide +kernel
theorem dX5_settledPair_152 : decode cX5_settledPair 152 = .ok (.iconst 1, 1) := by decide +kernel
theorem dX5_settledPair_153 : decode cX5_settledPair 153 = .ok (.ishr, 1) := by decide +kernel
theorem dX5_settledPair_154 : decode cX5_settledPair 154 = .ok (.imul, 1) := by decide +kernel
theorem dX5_settledPair_155 : decode cX5_settledPair 155 = .ok (.iload 4, 2) := by decide +kernel
theorem dX5_settledPair_157 : decode cX5_settledPair 157 = .ok (.iconst 1, 1) := by decide +kernel
theorem dX5_settledPair_158 : decode cX5_settledPair 158 = .ok (.iand, 1) := by decide +kernel
theorem dX5_settledPair_159 : decode cX5_settledPair 159 = .ok (.iadd, 1) := by decide +kernel
theorem dX5_settledPair_160 : decode cX5_settledPair 160 = .ok (.ireturn, 1) := by decide +kernel
theorem dX5_settledPair_161 : decode cX5_settledPair 161 = .ok (.iinc 4 1, 3) := by decide +kernel
theorem dX5_settledPair_164 : decode cX5_settledPair 164 = .ok (.goto (-60), 3) := by decide +kernel
theorem dX5_settledPair_167 : decode cX5_settledPair 167 = .ok (.bipush (-4), 2) := by decide +kernel
theorem dX5_settledPair_169 : decode cX5_settledPair 169 = .ok (.ireturn, 1) := by decide +kernel
set_option maxRecDepth 20000 in
theorem ggX5_gainOf_X2_isUpright : GoodIn wsX5_gainOf wsX2_isUpright := goodIn_r _ [6, 7, 8, 9, 5, 10, 11, 12, 13, 14, 15, 16, 17, 18, 19, 20, 21, 22, 23, 24, 25, 26, 27, 28, 29, 30, 31, 32, 33, 34, 35, 36, 37, 38, 39, 40, 41, 42, 43, 44, 45, 46, 47, 48, 49, 50, 51, 52, 53, 54, 55, 56, 57, 63, 64, 65, 66, 67, 68, 69, 70, 71, 72, 73, 74] (by decide +kernel) (by decide +kernel)
set_option maxRecDepth 20000 in
theorem gX5_gainOf_X2_isUpright : GoodIn wsX5_gainOf (wsV RX5 114 RX2 yX2_isUpright wsX2_isUpright) := goodIn_app (goodIn_of _ (by decide +kernel)) ggX5_gainOf_X2_isUpright
theorem dX5_gainOf_0 : decode cX5_gainOf 0 = .ok (.aload_n 0, 1) := by decide +kernel
theorem dX5_gainOf_1 : decode cX5_gainOf 1 = .ok (.getfield 25, 3) := by decide +kernel
theorem dX5_gainOf_4 : decode cX5_gainOf 4 = .ok (.iload_n 1, 1) := by decide +kernel
theorem dX5_gainOf_5 : decode cX5_gainOf 5 = .ok (.invokevirtual 114, 3) := by decide +kernel
theorem dX5_gainOf_8 : decode cX5_gainOf 8 = .ok (.ifCond .eq 8, 3) := by decide +kernel
theorem dX5_gainOf_11 : decode cX5_gainOf 11 = .ok (.bipush 6, 2) := by decide +kernel
theorem dX5_gainOf_13 : decode cX5_gainOf 13 = .ok (.goto 4, 3) := by decide +kernel
theorem dX5_gainOf_16 : decode cX5_gainOf 16 = .ok (.iconst 0, 1) := by decide +kernel
theorem dX5_gainOf_17 : decode cX5_gainOf 17 = .ok (.istore 4, 2) := by decide +kernel
theorem dX5_gainOf_19 : decode cX5_gainOf 19 = .ok (.iload 4, 2) := by decide +kernel
theorem dX5_gainOf_21 : decode cX5_gainOf 21 = .ok (.iconst 2, 1) := by decide +kernel
theorem dX5_gainOf_22 : decode cX5_gainOf 22 = .ok (.iload_n 2, 1) := by decide +kernel
theorem dX5_gainOf_23 : decode cX5_gainOf 23 = .ok (.imul, 1) := by decide +kernel
theorem dX5_gainOf_24 : decode cX5_gainOf 24 = .ok (.isub, 1) := by decide +kernel
theorem dX5_gainOf_25 : decode cX5_gainOf 25 = .ok (.iload_n 3, 1) := by decide +kernel
theorem dX5_gainOf_26 : decode cX5_gainOf 26 = .ok (.isub, 1) := by decide +kernel
theorem dX5_gainOf_27 : decode cX5_gainOf 27 = .ok (.ireturn, 1) := by decide +kernel
set_option maxRecDepth 20000 in
theorem ggX5_shockedUpright_X2_becomes : GoodIn wsX5_shockedUpright wsX2_becomes := goodIn_r _ [7, 8, 9, 10, 11, 12, 13, 14, 15, 16, 17, 18, 19, 20, 165, 166, 167, 168, 169, 170, 171, 172, 173, 174, 175, 176] (by decide +kernel) (by decide +kernel)
set_option maxRecDepth 20000 in
theorem gX5_shockedUpright_X2_becomes : GoodIn wsX5_shockedUpright (wsV RX5 28 RX2 yX2_becomes wsX2_becomes) := goodIn_app (goodIn_of _ (by decide +kernel)) ggX5_shockedUpright_X2_becomes
set_option maxRecDepth 20000 in
theorem ggX5_shockedUpright_X2_turnSigns : GoodIn wsX5_shockedUpright wsX2_turnSigns := goodIn_r _ [24, 15, 14, 25, 26, 27, 6, 28, 16, 165, 166, 167, 168, 169, 170, 171, 172, 173, 174, 175, 176] (by decide +kernel) (by decide +kernel)
set_option maxRecDepth 20000 in
theorem gX5_shockedUpright_X2_turnSigns : GoodIn wsX5_shockedUpright (wsV RX5 118 RX2 yX2_turnSigns wsX2_turnSigns) := goodIn_app (goodIn_of _ (by decide +kernel)) ggX5_shockedUpright_X2_turnSigns
set_option maxRecDepth 20000 in
theorem ggX5_shockedUpright_X2_passDay : GoodIn wsX5_shockedUpright wsX2_passDay := goodIn_r _ [32, 20, 15, 33, 8, 14, 13, 34, 35, 36, 37, 38, 39, 40, 41, 19, 18, 42, 43, 44, 6, 45, 25, 26, 27, 28, 16, 46, 47, 48, 49, 50, 51, 52, 53, 54, 55, 56, 57, 58, 59, 60, 61, 62, 63, 64, 65, 66, 67, 68, 69, 70, 71, 72, 73, 74, 75, 76, 77, 78, 79, 80, 81, 82, 83, 84, 85, 86, 87, 88, 89, 90, 91, 92, 93, 94, 95, 96, 97, 98, 99, 100, 101, 102, 103, 104, 105, 106, 107, 108, 109, 110, 111, 112, 113, 114, 115, 116, 117, 118, 119, 120, 121, 122, 123, 124, 125, 126, 127, 128, 129, 130, 131, 132, 133, 134, 22, 23, 24, 135, 136, 137, 138, 17, 139, 140, 141, 142, 143, 165, 166, 167, 168, 169, 170, 171, 172, 173, 174, 175, 176] (by decide +kernel) (by decide +kernel)
set_option maxRecDepth 20000 in
theorem gX5_shockedUpright_X2_passDay : GoodIn wsX5_shockedUpright (wsV RX5 41 RX2 yX2_passDay wsX2_passDay) := goodIn_app (goodIn_of _ (by decide +kernel)) ggX5_shockedUpright_X2_passDay
set_option maxRecDepth 20000 in
theorem ggX5_shockedUpright_X2_isUpright : GoodIn wsX5_shockedUpright wsX2_isUpright := goodIn_r _ [147, 148, 149, 150, 6, 151, 14, 95, 96, 36, 97, 152, 153, 154, 155, 33, 8, 13, 98, 99, 100, 101, 102, 51, 103, 104, 105, 106, 56, 107, 108, 109, 110, 111, 112, 60, 113, 114, 115, 116, 65, 117, 118, 119, 120, 121, 78, 122, 123, 124, 82, 125, 126, 165, 166, 167, 168, 169, 170, 171, 172, 173, 174, 175, 176] (by decide +kernel) (by decide +kernel)
set_option maxRecDepth 20000 in
theorem gX5_shockedUpright_X2_isUpright : GoodIn wsX5_shockedUpright (wsV RX5 114 RX2 yX2_isUpright wsX2_isUpright) := goodIn_app (goodIn_of _ (by decide +kernel)) ggX5_shockedUpright_X2_isUpright
set_option maxRecDepth 20000 in
theorem ggX5_shockedUpright_J6_bitCount_0f7a4 : GoodIn wsX5_shockedUpright wsJ6_bitCount_0f7a4 := goodIn_r _ [130, 131, 132, 133] (by decide +kernel) (by decide +kernel)
set_option maxRecDepth 20000 in
theorem gX5_shockedUpright_J6_bitCount_0f7a4 : GoodIn wsX5_shockedUpright (va_wsS RX5 65 yJ6_bitCount_0f7a4 wsJ6_bitCount_0f7a4) := goodIn_app (goodIn_of _ (by decide +kernel)) ggX5_shockedUpright_J6_bitCount_0f7a4
set_option maxRecDepth 20000 in
theorem ggX5_shockedUpright_X11_power : GoodIn wsX5_shockedUpright wsX11_power := goodIn_r _ [159] (by decide +kernel) (by decide +kernel)
set_option maxRecDepth 20000 in
theorem gX5_shockedUpright_X11_power_n121 : GoodIn wsX5_shockedUpright (wsX11_power) := ggX5_shockedUpright_X11_power
theorem dX5_shockedUpright_0 : decode cX5_shockedUpright 0 = .ok (.lconst 0, 1) := by decide +kernel
theorem dX5_shockedUpright_1 : decode cX5_shockedUpright 1 = .ok (.lstore 4, 2) := by decide +kernel
theorem dX5_shockedUpright_3 : decode cX5_shockedUpright 3 = .ok (.iconst 0, 1) := by decide +kernel
theorem dX5_shockedUpright_4 : decode cX5_shockedUpright 4 = .ok (.istore 6, 2) := by decide +kernel
theorem dX5_shockedUpright_6 : decode cX5_shockedUpright 6 = .ok (.iload 6, 2) := by decide +kernel
theorem dX5_shockedUpright_8 : decode cX5_shockedUpright 8 = .ok (.iconst 1, 1) := by decide +kernel
theorem dX5_shockedUpright_9 : decode cX5_shockedUpright 9 = .ok (.iload_n 2, 1) := by decide +kernel
theorem dX5_shockedUpright_10 : decode cX5_shockedUpright 10 = .ok (.ishl, 1) := by decide +kernel
theorem dX5_shockedUpright_11 : decode cX5_shockedUpright 11 = .ok (.if_icmp .ge 88, 3) := by decide +kernel
theorem dX5_shockedUpright_14 : decode cX5_shockedUpright 14 = .ok (.aload_n 0, 1) := by decide +kernel
theorem dX5_shockedUpright_15 : decode cX5_shockedUpright 15 = .ok (.getfield 25, 3) := by decide +kernel
theorem dX5_shockedUpright_18 : decode cX5_shockedUpright 18 = .ok (.aload_n 0, 1) := by decide +kernel
theorem dX5_shockedUpright_19 : decode cX5_shockedUpright 19 = .ok (.getfield 21, 3) := by decide +kernel
theorem dX5_shockedUpright_22 : decode cX5_shockedUpright 22 = .ok (.invokevirtual 28, 3) := by decide +kernel
theorem dX5_shockedUpright_25 : decode cX5_shockedUpright 25 = .ok (.iconst 0, 1) := by decide +kernel
theorem dX5_shockedUpright_26 : decode cX5_shockedUpright 26 = .ok (.istore 7, 2) := by decide +kernel
theorem dX5_shockedUpright_28 : decode cX5_shockedUpright 28 = .ok (.iload 7, 2) := by decide +kernel
theorem dX5_shockedUpright_30 : decode cX5_shockedUpright 30 = .ok (.iload_n 2, 1) := by decide +kernel
theorem dX5_shockedUpright_31 : decode cX5_shockedUpright 31 = .ok (.if_icmp .ge 33, 3) := by decide +kernel
theorem dX5_shockedUpright_34 : decode cX5_shockedUpright 34 = .ok (.iload 6, 2) := by decide +kernel
theorem dX5_shockedUpright_36 : decode cX5_shockedUpright 36 = .ok (.iconst 1, 1) := by decide +kernel
theorem dX5_shockedUpright_37 : decode cX5_shockedUpright 37 = .ok (.iload 7, 2) := by decide +kernel
theorem dX5_shockedUpright_39 : decode cX5_shockedUpright 39 = .ok (.ishl, 1) := by decide +kernel
theorem dX5_shockedUpright_40 : decode cX5_shockedUpright 40 = .ok (.iand, 1) := by decide +kernel
theorem dX5_shockedUpright_41 : decode cX5_shockedUpright 41 = .ok (.ifCond .eq 10, 3) := by decide +kernel
theorem dX5_shockedUpright_44 : decode cX5_shockedUpright 44 = .ok (.aload_n 0, 1) := by decide +kernel
theorem dX5_shockedUpright_45 : decode cX5_shockedUpright 45 = .ok (.getfield 25, 3) := by decide +kernel
theorem dX5_shockedUpright_48 : decode cX5_shockedUpright 48 = .ok (.invokevirtual 118, 3) := by decide +kernel
theorem dX5_shockedUpright_51 : decode cX5_shockedUpright 51 = .ok (.aload_n 0, 1) := by decide +kernel
theorem dX5_shockedUpright_52 : decode cX5_shockedUpright 52 = .ok (.getfield 25, 3) := by decide +kernel
theorem dX5_shockedUpright_55 : decode cX5_shockedUpright 55 = .ok (.invokevirtual 41, 3) := by decide +kernel
theorem dX5_shockedUpright_58 : decode cX5_shockedUpright 58 = .ok (.iinc 7 1, 3) := by decide +kernel
theorem dX5_shockedUpright_61 : decode cX5_shockedUpright 61 = .ok (.goto (-33), 3) := by decide +kernel
theorem dX5_shockedUpright_64 : decode cX5_shockedUpright 64 = .ok (.aload_n 0, 1) := by decide +kernel
theorem dX5_shockedUpright_65 : decode cX5_shockedUpright 65 = .ok (.getfield 25, 3) := by decide +kernel
theorem dX5_shockedUpright_68 : decode cX5_shockedUpright 68 = .ok (.iload_n 1, 1) := by decide +kernel
theorem dX5_shockedUpright_69 : decode cX5_shockedUpright 69 = .ok (.invokevirtual 114, 3) := by decide +kernel
theorem dX5_shockedUpright_72 : decode cX5_shockedUpright 72 = .ok (.ifCond .eq 21, 3) := by decide +kernel
theorem dX5_shockedUpright_75 : decode cX5_shockedUpright 75 = .ok (.lload 4, 2) := by decide +kernel
theorem dX5_shockedUpright_77 : decode cX5_shockedUpright 77 = .ok (.iload_n 3, 1) := by decide +kernel
theorem dX5_shockedUpright_78 : decode cX5_shockedUpright 78 = .ok (.iconst 1, 1) := by decide +kernel
theorem dX5_shockedUpright_79 : decode cX5_shockedUpright 79 = .ok (.isub, 1) := by decide +kernel
theorem dX5_shockedUpright_80 : decode cX5_shockedUpright 80 = .ok (.iload_n 2, 1) := by decide +kernel
theorem dX5_shockedUpright_81 : decode cX5_shockedUpright 81 = .ok (.iload 6, 2) := by decide +kernel
theorem dX5_shockedUpright_83 : decode cX5_shockedUpright 83 = .ok (.invokestatic 65, 3) := by decide +kernel
theorem dX5_shockedUpright_86 : decode cX5_shockedUpright 86 = .ok (.isub, 1) := by decide +kernel
theorem dX5_shockedUpright_87 : decode cX5_shockedUpright 87 = .ok (.invokestatic 121, 3) := by decide +kernel
theorem dX5_shockedUpright_90 : decode cX5_shockedUpright 90 = .ok (.ladd, 1) := by decide +kernel
theorem dX5_shockedUpright_91 : decode cX5_shockedUpright 91 = .ok (.lstore 4, 2) := by decide +kernel
theorem dX5_shockedUpright_93 : decode cX5_shockedUpright 93 = .ok (.iinc 6 1, 3) := by decide +kernel
theorem dX5_shockedUpright_96 : decode cX5_shockedUpright 96 = .ok (.goto (-90), 3) := by decide +kernel
theorem dX5_shockedUpright_99 : decode cX5_shockedUpright 99 = .ok (.lload 4, 2) := by decide +kernel
theorem dX5_shockedUpright_101 : decode cX5_shockedUpright 101 = .ok (.lreturn, 1) := by decide +kernel
set_option maxRecDepth 20000 in
theorem ggX5_drawnYears_X2_becomes : GoodIn wsX5_drawnYears wsX2_becomes := goodIn_r _ [13, 14, 15, 16, 17, 18, 19, 20, 21, 22, 23, 24, 25, 26, 160, 161, 162, 163, 164, 165, 166, 167, 168, 169, 170, 171] (by decide +kernel) (by decide +kernel)
set_option maxRecDepth 20000 in
theorem gX5_drawnYears_X2_becomes : GoodIn wsX5_drawnYears (wsV RX5 28 RX2 yX2_becomes wsX2_becomes) := goodIn_app (goodIn_of _ (by decide +kernel)) ggX5_drawnYears_X2_becomes
set_option maxRecDepth 20000 in
theorem ggX5_drawnYears_X2_passDays : GoodIn wsX5_drawnYears wsX2_passDays := goodIn_r _ [30, 31, 32, 33, 34, 12, 35, 26, 21, 36, 14, 20, 19, 37, 38, 39, 40, 41, 42, 43, 25, 24, 44, 45, 46, 47, 48, 49, 50, 51, 22, 52, 53, 54, 55, 56, 57, 58, 59, 60, 61, 62, 63, 64, 65, 66, 67, 68, 69, 70, 71, 72, 73, 74, 75, 76, 77, 78, 79, 80, 81, 82, 83, 84, 85, 86, 87, 88, 89, 90, 91, 92, 93, 94, 95, 96, 97, 98, 99, 100, 101, 102, 103, 104, 105, 106, 107, 108, 109, 110, 111, 112, 113, 114, 115, 116, 117, 118, 119, 120, 121, 122, 123, 124, 125, 126, 127, 128, 129, 130, 131, 132, 133, 134, 135, 136, 137, 138, 139, 140, 141, 142, 143, 144, 145, 146, 147, 23, 148, 149, 150, 151, 152, 160, 161, 162, 163, 164, 165, 166, 167, 168, 169, 170, 171] (by decide +kernel) (by decide +kernel)
set_option maxRecDepth 20000 in
theorem gX5_drawnYears_X2_passDays : GoodIn wsX5_drawnYears (wsV RX5 34 RX2 yX2_passDays wsX2_passDays) := goodIn_app (goodIn_of _ (by decide +kernel)) ggX5_drawnYears_X2_passDays
set_option maxRecDepth 20000 in
theorem ggX5_drawnYears_X2_upright : GoodIn wsX5_drawnYears wsX2_upright := goodIn_r _ [100, 21, 20, 101, 102, 39, 103, 36, 14, 19, 104, 105, 106, 107, 108, 57, 109, 110, 111, 112, 62, 113, 114, 115, 116, 117, 118, 66, 119, 120, 121, 122, 71, 123, 124, 125, 126, 127, 84, 128, 129, 130, 88, 131, 132, 160, 161, 162, 163, 164, 165, 166, 167, 168, 169, 170, 171] (by decide +kernel) (by decide +kernel)
set_option maxRecDepth 20000 in
theorem gX5_drawnYears_X2_upright : GoodIn wsX5_drawnYears (wsV RX5 81 RX2 yX2_upright wsX2_upright) := goodIn_app (goodIn_of _ (by decide +kernel)) ggX5_drawnYears_X2_upright
set_option maxRecDepth 20000 in
theorem ggX5_drawnYears_J6_bitCount_0f7a4 : GoodIn wsX5_drawnYears wsJ6_bitCount_0f7a4 := goodIn_r _ [136, 137, 138, 139] (by decide +kernel) (by decide +kernel)
set_option maxRecDepth 20000 in
theorem gX5_drawnYears_J6_bitCount_0f7a4 : GoodIn wsX5_drawnYears (va_wsS RX5 65 yJ6_bitCount_0f7a4 wsJ6_bitCount_0f7a4) := goodIn_app (goodIn_of _ (by decide +kernel)) ggX5_drawnYears_J6_bitCount_0f7a4
theorem dX5_drawnYears_0 : decode cX5_drawnYears 0 = .ok (.iload_n 2, 1) := by decide +kernel
theorem dX5_drawnYears_1 : decode cX5_drawnYears 1 = .ok (.istore 4, 2) := by decide +kernel
theorem dX5_drawnYears_3 : decode cX5_drawnYears 3 = .ok (.iconst 0, 1) := by decide +kernel
theorem dX5_drawnYears_4 : decode cX5_drawnYears 4 = .ok (.istore 5, 2) := by decide +kernel
theorem dX5_drawnYears_6 : decode cX5_drawnYears 6 = .ok (.iconst 0, 1) := by decide +kernel
theorem dX5_drawnYears_7 : decode cX5_drawnYears 7 = .ok (.istore 6, 2) := by decide +kernel
theorem dX5_drawnYears_9 : decode cX5_drawnYears 9 = .ok (.iconst 0, 1) := by decide +kernel
theorem dX5_drawnYears_10 : decode cX5_drawnYears 10 = .ok (.istore 7, 2) := by decide +kernel
theorem dX5_drawnYears_12 : decode cX5_drawnYears 12 = .ok (.iload 7, 2) := by decide +kernel
theorem dX5_drawnYears_14 : decode cX5_drawnYears 14 = .ok (.iload_n 1, 1) := by decide +kernel
theorem dX5_drawnYears_15 : decode cX5_drawnYears 15 = .ok (.if_icmp .ge 121, 3) := by decide +kernel
theorem dX5_drawnYears_18 : decode cX5_drawnYears 18 = .ok (.aload_n 0, 1) := by decide +kernel
theorem dX5_drawnYears_19 : decode cX5_drawnYears 19 = .ok (.getfield 25, 3) := by decide +kernel
theorem dX5_drawnYears_22 : decode cX5_drawnYears 22 = .ok (.aload_n 0, 1) := by decide +kernel
theorem dX5_drawnYears_23 : decode cX5_drawnYears 23 = .ok (.getfield 21, 3) := by decide +kernel
theorem dX5_drawnYears_26 : decode cX5_drawnYears 26 = .ok (.invokevirtual 28, 3) := by decide +kernel
theorem dX5_drawnYears_29 : decode cX5_drawnYears 29 = .ok (.iconst 0, 1) := by decide +kernel
theorem dX5_drawnYears_30 : decode cX5_drawnYears 30 = .ok (.istore 8, 2) := by decide +kernel
theorem dX5_drawnYears_32 : decode cX5_drawnYears 32 = .ok (.iload 8, 2) := by decide +kernel
theorem dX5_drawnYears_34 : decode cX5_drawnYears 34 = .ok (.aload_n 0, 1) := by decide +kernel
theorem dX5_drawnYears_35 : decode cX5_drawnYears 35 = .ok (.getfield 25, 3) := by decide +kernel
theorem dX5_drawnYears_38 : decode cX5_drawnYears 38 = .ok (.getfield 62, 3) := by decide +kernel
theorem dX5_drawnYears_41 : decode cX5_drawnYears 41 = .ok (.if_icmp .ge 44, 3) := by decide +kernel
theorem dX5_drawnYears_44 : decode cX5_drawnYears 44 = .ok (.iload 4, 2) := by decide +kernel
theorem dX5_drawnYears_46 : decode cX5_drawnYears 46 = .ok (.ldc 125, 2) := by decide +kernel
theorem dX5_drawnYears_48 : decode cX5_drawnYears 48 = .ok (.imul, 1) := by decide +kernel
theorem dX5_drawnYears_49 : decode cX5_drawnYears 49 = .ok (.sipush 12345, 3) := by decide +kernel
theorem dX5_drawnYears_52 : decode cX5_drawnYears 52 = .ok (.iadd, 1) := by decide +kernel
theorem dX5_drawnYears_53 : decode cX5_drawnYears 53 = .ok (.istore 4, 2) := by decide +kernel
theorem dX5_drawnYears_55 : decode cX5_drawnYears 55 = .ok (.aload_n 0, 1) := by decide +kernel
theorem dX5_drawnYears_56 : decode cX5_drawnYears 56 = .ok (.getfield 25, 3) := by decide +kernel
theorem dX5_drawnYears_59 : decode cX5_drawnYears 59 = .ok (.getfield 38, 3) := by decide +kernel
theorem dX5_drawnYears_62 : decode cX5_drawnYears 62 = .ok (.iload 8, 2) := by decide +kernel
theorem dX5_drawnYears_64 : decode cX5_drawnYears 64 = .ok (.iload 4, 2) := by decide +kernel
theorem dX5_drawnYears_66 : decode cX5_drawnYears 66 = .ok (.ldc 126, 2) := by decide +kernel
theorem dX5_drawnYears_68 : decode cX5_drawnYears 68 = .ok (.iand, 1) := by decide +kernel
theorem dX5_drawnYears_69 : decode cX5_drawnYears 69 = .ok (.ldc 127, 2) := by decide +kernel
theorem dX5_drawnYears_71 : decode cX5_drawnYears 71 = .ok (.idiv, 1) := by decide +kernel
theorem dX5_drawnYears_72 : decode cX5_drawnYears 72 = .ok (.bipush 91, 2) := by decide +kernel
theorem dX5_drawnYears_74 : decode cX5_drawnYears 74 = .ok (.irem, 1) := by decide +kernel
theorem dX5_drawnYears_75 : decode cX5_drawnYears 75 = .ok (.bipush 45, 2) := by decide +kernel
theorem dX5_drawnYears_77 : decode cX5_drawnYears 77 = .ok (.isub, 1) := by decide +kernel
theorem dX5_drawnYears_78 : decode cX5_drawnYears 78 = .ok (.iastore, 1) := by decide +kernel
theorem dX5_drawnYears_79 : decode cX5_drawnYears 79 = .ok (.iinc 8 1, 3) := by decide +kernel
theorem dX5_drawnYears_82 : decode cX5_drawnYears 82 = .ok (.goto (-50), 3) := by decide +kernel
theorem dX5_drawnYears_85 : decode cX5_drawnYears 85 = .ok (.aload_n 0, 1) := by decide +kernel
theorem dX5_drawnYears_86 : decode cX5_drawnYears 86 = .ok (.getfield 25, 3) := by decide +kernel
theorem dX5_drawnYears_89 : decode cX5_drawnYears 89 = .ok (.bipush 12, 2) := by decide +kernel
theorem dX5_drawnYears_91 : decode cX5_drawnYears 91 = .ok (.invokevirtual 34, 3) := by decide +kernel
theorem dX5_drawnYears_94 : decode cX5_drawnYears 94 = .ok (.pop, 1) := by decide +kernel
theorem dX5_drawnYears_95 : decode cX5_drawnYears 95 = .ok (.iload 5, 2) := by decide +kernel
theorem dX5_drawnYears_97 : decode cX5_drawnYears 97 = .ok (.aload_n 0, 1) := by decide +kernel
theorem dX5_drawnYears_98 : decode cX5_drawnYears 98 = .ok (.getfield 25, 3) := by decide +kernel
theorem dX5_drawnYears_101 : decode cX5_drawnYears 101 = .ok (.invokevirtual 81, 3) := by decide +kernel
theorem dX5_drawnYears_104 : decode cX5_drawnYears 104 = .ok (.invokestatic 65, 3) := by decide +kernel
theorem dX5_drawnYears_107 : decode cX5_drawnYears 107 = .ok (.iadd, 1) := by decide +kernel
theorem dX5_drawnYears_108 : decode cX5_drawnYears 108 = .ok (.istore 5, 2) := by decide +kernel
theorem dX5_drawnYears_110 : decode cX5_drawnYears 110 = .ok (.iload 6, 2) := by decide +kernel
theorem dX5_drawnYears_112 : decode cX5_drawnYears 112 = .ok (.aload_n 0, 1) := by decide +kernel
theorem dX5_drawnYears_113 : decode cX5_drawnYears 113 = .ok (.getfield 25, 3) := by decide +kernel
theorem dX5_drawnYears_116 : decode cX5_drawnYears 116 = .ok (.getfield 128, 3) := by decide +kernel
theorem dX5_drawnYears_119 : decode cX5_drawnYears 119 = .ok (.aload_n 0, 1) := by decide +kernel
theorem dX5_drawnYears_120 : decode cX5_drawnYears 120 = .ok (.getfield 21, 3) := by decide +kernel
theorem dX5_drawnYears_123 : decode cX5_drawnYears 123 = .ok (.getfield 128, 3) := by decide +kernel
theorem dX5_drawnYears_126 : decode cX5_drawnYears 126 = .ok (.isub, 1) := by decide +kernel
theorem dX5_drawnYears_127 : decode cX5_drawnYears 127 = .ok (.iadd, 1) := by decide +kernel
theorem dX5_drawnYears_128 : decode cX5_drawnYears 128 = .ok (.istore 6, 2) := by decide +kernel
theorem dX5_drawnYears_130 : decode cX5_drawnYears 130 = .ok (.iinc 7 1, 3) := by decide +kernel
theorem dX5_drawnYears_133 : decode cX5_drawnYears 133 = .ok (.goto (-121), 3) := by decide +kernel
theorem dX5_drawnYears_136 : decode cX5_drawnYears 136 = .ok (.iload_n 3, 1) := by decide +kernel
theorem dX5_drawnYears_137 : decode cX5_drawnYears 137 = .ok (.ifCond .ne 8, 3) := by decide +kernel
theorem dX5_drawnYears_140 : decode cX5_drawnYears 140 = .ok (.iload 5, 2) := by decide +kernel
theorem dX5_drawnYears_142 : decode cX5_drawnYears 142 = .ok (.goto 5, 3) := by decide +kernel
theorem dX5_drawnYears_145 : decode cX5_drawnYears 145 = .ok (.iload 6, 2) := by decide +kernel
theorem dX5_drawnYears_147 : decode cX5_drawnYears 147 = .ok (.ireturn, 1) := by decide +kernel
set_option maxRecDepth 20000 in
theorem ggX6_init_X3_init : GoodIn wsX6_init wsX3_init := goodIn_r _ [3, 4, 5, 6, 7, 8, 9] (by decide +kernel) (by decide +kernel)
set_option maxRecDepth 20000 in
theorem gX6_init_X3_init_n1 : GoodIn wsX6_init (wsX3_init) := ggX6_init_X3_init
theorem dX6_init_0 : decode cX6_init 0 = .ok (.aload_n 0, 1) := by decide +kernel
theorem dX6_init_1 : decode cX6_init 1 = .ok (.invokespecial 1, 3) := by decide +kernel
theorem dX6_init_4 : decode cX6_init 4 = .ok (.return_, 1) := by decide +kernel
set_option maxRecDepth 20000 in
theorem ggX6_leansMore_X3_leansMore : GoodIn wsX6_leansMore wsX3_leansMore := goodIn_r _ [6] (by decide +kernel) (by decide +kernel)
set_option maxRecDepth 20000 in
theorem gX6_leansMore_X3_leansMore_s7 : GoodIn wsX6_leansMore (va_wsSU RX6 7 yX3_leansMore wsX3_leansMore) := goodIn_app (goodIn_of _ (by decide +kernel)) ggX6_leansMore_X3_leansMore
theorem dX6_leansMore_0 : decode cX6_leansMore 0 = .ok (.iload 4, 2) := by decide +kernel
theorem dX6_leansMore_2 : decode cX6_leansMore 2 = .ok (.iconst 2, 1) := by decide +kernel
theorem dX6_leansMore_3 : decode cX6_leansMore 3 = .ok (.irem, 1) := by decide +kernel
theorem dX6_leansMore_4 : decode cX6_leansMore 4 = .ok (.ifCond .ne 15, 3) := by decide +kernel
theorem dX6_leansMore_7 : decode cX6_leansMore 7 = .ok (.aload_n 0, 1) := by decide +kernel
theorem dX6_leansMore_8 : decode cX6_leansMore 8 = .ok (.iload_n 1, 1) := by decide +kernel
theorem dX6_leansMore_9 : decode cX6_leansMore 9 = .ok (.iload_n 2, 1) := by decide +kernel
theorem dX6_leansMore_10 : decode cX6_leansMore 10 = .ok (.iload_n 3, 1) := by decide +kernel
theorem dX6_leansMore_11 : decode cX6_leansMore 11 = .ok (.iload 4, 2) := by decide +kernel
theorem dX6_leansMore_13 : decode cX6_leansMore 13 = .ok (.invokespecial 7, 3) := by decide +kernel
theorem dX6_leansMore_16 : decode cX6_leansMore 16 = .ok (.goto 4, 3) := by decide +kernel
theorem dX6_leansMore_19 : decode cX6_leansMore 19 = .ok (.iconst 0, 1) := by decide +kernel
theorem dX6_leansMore_20 : decode cX6_leansMore 20 = .ok (.ireturn, 1) := by decide +kernel
theorem dX6_discountAt_0 : decode cX6_discountAt 0 = .ok (.aload_n 0, 1) := by decide +kernel
theorem dX6_discountAt_1 : decode cX6_discountAt 1 = .ok (.iload_n 1, 1) := by decide +kernel
theorem dX6_discountAt_2 : decode cX6_discountAt 2 = .ok (.iload_n 2, 1) := by decide +kernel
theorem dX6_discountAt_3 : decode cX6_discountAt 3 = .ok (.invokespecial 11, 3) := by decide +kernel
theorem dX6_discountAt_6 : decode cX6_discountAt 6 = .ok (.iload_n 2, 1) := by decide +kernel
theorem dX6_discountAt_7 : decode cX6_discountAt 7 = .ok (.iadd, 1) := by decide +kernel
theorem dX6_discountAt_8 : decode cX6_discountAt 8 = .ok (.ireturn, 1) := by decide +kernel
set_option maxRecDepth 20000 in
theorem ggX6_priceBy_X3_priceBy : GoodIn wsX6_priceBy wsX3_priceBy := goodIn_r _ [6] (by decide +kernel) (by decide +kernel)
set_option maxRecDepth 20000 in
theorem gX6_priceBy_X3_priceBy_s15 : GoodIn wsX6_priceBy (va_wsSU RX6 15 yX3_priceBy wsX3_priceBy) := goodIn_app (goodIn_of _ (by decide +kernel)) ggX6_priceBy_X3_priceBy
theorem dX6_priceBy_0 : decode cX6_priceBy 0 = .ok (.aload_n 0, 1) := by decide +kernel
theorem dX6_priceBy_1 : decode cX6_priceBy 1 = .ok (.iload_n 1, 1) := by decide +kernel
theorem dX6_priceBy_2 : decode cX6_priceBy 2 = .ok (.invokespecial 15, 3) := by decide +kernel
theorem dX6_priceBy_5 : decode cX6_priceBy 5 = .ok (.iconst 4, 1) := by decide +kernel
theorem dX6_priceBy_6 : decode cX6_priceBy 6 = .ok (.iadd, 1) := by decide +kernel
theorem dX6_priceBy_7 : decode cX6_priceBy 7 = .ok (.ireturn, 1) := by decide +kernel
set_option maxRecDepth 20000 in
theorem ggX7_init_X4_init : GoodIn wsX7_init wsX4_init := goodIn_r _ [3, 4, 5, 6] (by decide +kernel) (by decide +kernel)
set_option maxRecDepth 20000 in
theorem gX7_init_X4_init_n1 : GoodIn wsX7_init (wsX4_init) := ggX7_init_X4_init
theorem dX7_init_0 : decode cX7_init 0 = .ok (.aload_n 0, 1) := by decide +kernel
theorem dX7_init_1 : decode cX7_init 1 = .ok (.invokespecial 1, 3) := by decide +kernel
theorem dX7_init_4 : decode cX7_init 4 = .ok (.return_, 1) := by decide +kernel
theorem dX7_leansMore_0 : decode cX7_leansMore 0 = .ok (.iload_n 1, 1) := by decide +kernel
theorem dX7_leansMore_1 : decode cX7_leansMore 1 = .ok (.iconst 0, 1) := by decide +kernel
theorem dX7_leansMore_2 : decode cX7_leansMore 2 = .ok (.iconst 1, 1) := by decide +kernel
theorem dX7_leansMore_3 : decode cX7_leansMore 3 = .ok (.invokestatic 7, 3) := by decide +kernel
theorem dX7_leansMore_6 : decode cX7_leansMore 6 = .ok (.ireturn, 1) := by decide +kernel
theorem dX7_uprightWithin_0 : decode cX7_uprightWithin 0 = .ok (.iconst 0, 1) := by decide +kernel
theorem dX7_uprightWithin_1 : decode cX7_uprightWithin 1 = .ok (.ireturn, 1) := by decide +kernel
theorem dX7_discountAt_0 : decode cX7_discountAt 0 = .ok (.iconst 2, 1) := by decide +kernel
theorem dX7_discountAt_1 : decode cX7_discountAt 1 = .ok (.iload_n 1, 1) := by decide +kernel
theorem dX7_discountAt_2 : decode cX7_discountAt 2 = .ok (.imul, 1) := by decide +kernel
theorem dX7_discountAt_3 : decode cX7_discountAt 3 = .ok (.ireturn, 1) := by decide +kernel
theorem dX7_priceBy_0 : decode cX7_priceBy 0 = .ok (.iconst 1, 1) := by decide +kernel
theorem dX7_priceBy_1 : decode cX7_priceBy 1 = .ok (.ireturn, 1) := by decide +kernel
theorem dX7_failsBy_0 : decode cX7_failsBy 0 = .ok (.return_, 1) := by decide +kernel
set_option maxRecDepth 20000 in
theorem ggX8_init_X7_init : GoodIn wsX8_init wsX7_init := goodIn_r _ [3, 4, 5, 6, 7, 8, 9] (by decide +kernel) (by decide +kernel)
set_option maxRecDepth 20000 in
theorem gX8_init_X7_init_n1 : GoodIn wsX8_init (wsX7_init) := ggX8_init_X7_init
theorem dX8_init_0 : decode cX8_init 0 = .ok (.aload_n 0, 1) := by decide +kernel
theorem dX8_init_1 : decode cX8_init 1 = .ok (.invokespecial 1, 3) := by decide +kernel
theorem dX8_init_4 : decode cX8_init 4 = .ok (.return_, 1) := by decide +kernel
theorem dX8_leansMore_0 : decode cX8_leansMore 0 = .ok (.iload_n 1, 1) := by decide +kernel
theorem dX8_leansMore_1 : decode cX8_leansMore 1 = .ok (.iconst 0, 1) := by decide +kernel
theorem dX8_leansMore_2 : decode cX8_leansMore 2 = .ok (.iconst 5, 1) := by decide +kernel
theorem dX8_leansMore_3 : decode cX8_leansMore 3 = .ok (.invokestatic 7, 3) := by decide +kernel
theorem dX8_leansMore_6 : decode cX8_leansMore 6 = .ok (.ireturn, 1) := by decide +kernel
theorem dX8_uprightWithin_0 : decode cX8_uprightWithin 0 = .ok (.bipush 9, 2) := by decide +kernel
theorem dX8_uprightWithin_2 : decode cX8_uprightWithin 2 = .ok (.ireturn, 1) := by decide +kernel
theorem dX8_discountAt_0 : decode cX8_discountAt 0 = .ok (.iconst 0, 1) := by decide +kernel
theorem dX8_discountAt_1 : decode cX8_discountAt 1 = .ok (.ireturn, 1) := by decide +kernel
theorem dX8_priceBy_0 : decode cX8_priceBy 0 = .ok (.iconst 0, 1) := by decide +kernel
theorem dX8_priceBy_1 : decode cX8_priceBy 1 = .ok (.ireturn, 1) := by decide +kernel
theorem dX9_init_0 : decode cX9_init 0 = .ok (.aload_n 0, 1) := by decide +kernel
theorem dX9_init_1 : decode cX9_init 1 = .ok (.invokespecial 3, 3) := by decide +kernel
theorem dX9_init_4 : decode cX9_init 4 = .ok (.aload_n 0, 1) := by decide +kernel
theorem dX9_init_5 : decode cX9_init 5 = .ok (.bipush 100, 2) := by decide +kernel
theorem dX9_init_7 : decode cX9_init 7 = .ok (.newarray .int, 2) := by decide +kernel
theorem dX9_init_9 : decode cX9_init 9 = .ok (.putfield 9, 3) := by decide +kernel
theorem dX9_init_12 : decode cX9_init 12 = .ok (.aload_n 0, 1) := by decide +kernel
theorem dX9_init_13 : decode cX9_init 13 = .ok (.aload_n 1, 1) := by decide +kernel
theorem dX9_init_14 : decode cX9_init 14 = .ok (.putfield 15, 3) := by decide +kernel
theorem dX9_init_17 : decode cX9_init 17 = .ok (.return_, 1) := by decide +kernel
theorem dX9_isEmpty_0 : decode cX9_isEmpty 0 = .ok (.aload_n 0, 1) := by decide +kernel
theorem dX9_isEmpty_1 : decode cX9_isEmpty 1 = .ok (.getfield 19, 3) := by decide +kernel
theorem dX9_isEmpty_4 : decode cX9_isEmpty 4 = .ok (.ifCond .ne 7, 3) := by decide +kernel
theorem dX9_isEmpty_7 : decode cX9_isEmpty 7 = .ok (.iconst 1, 1) := by decide +kernel
theorem dX9_isEmpty_8 : decode cX9_isEmpty 8 = .ok (.goto 4, 3) := by decide +kernel
theorem dX9_isEmpty_11 : decode cX9_isEmpty 11 = .ok (.iconst 0, 1) := by decide +kernel
theorem dX9_isEmpty_12 : decode cX9_isEmpty 12 = .ok (.ireturn, 1) := by decide +kernel
theorem dX9_hasRow_0 : decode cX9_hasRow 0 = .ok (.aload_n 0, 1) := by decide +kernel
theorem dX9_hasRow_1 : decode cX9_hasRow 1 = .ok (.getfield 19, 3) := by decide +kernel
theorem dX9_hasRow_4 : decode cX9_hasRow 4 = .ok (.iconst 2, 1) := by decide +kernel
theorem dX9_hasRow_5 : decode cX9_hasRow 5 = .ok (.if_icmp .ne 7, 3) := by decide +kernel
theorem dX9_hasRow_8 : decode cX9_hasRow 8 = .ok (.iconst 1, 1) := by decide +kernel
theorem dX9_hasRow_9 : decode cX9_hasRow 9 = .ok (.goto 4, 3) := by decide +kernel
theorem dX9_hasRow_12 : decode cX9_hasRow 12 = .ok (.iconst 0, 1) := by decide +kernel
theorem dX9_hasRow_13 : decode cX9_hasRow 13 = .ok (.ireturn, 1) := by decide +kernel
theorem dX9_clears_0 : decode cX9_clears 0 = .ok (.aload_n 0, 1) := by decide +kernel
theorem dX9_clears_1 : decode cX9_clears 1 = .ok (.iconst 0, 1) := by decide +kernel
theorem dX9_clears_2 : decode cX9_clears 2 = .ok (.putfield 19, 3) := by decide +kernel
theorem dX9_clears_5 : decode cX9_clears 5 = .ok (.return_, 1) := by decide +kernel
theorem dX9_holdsKind_0 : decode cX9_holdsKind 0 = .ok (.aload_n 0, 1) := by decide +kernel
theorem dX9_holdsKind_1 : decode cX9_holdsKind 1 = .ok (.iconst 1, 1) := by decide +kernel
theorem dX9_holdsKind_2 : decode cX9_holdsKind 2 = .ok (.putfield 19, 3) := by decide +kernel
theorem dX9_holdsKind_5 : decode cX9_holdsKind 5 = .ok (.aload_n 0, 1) := by decide +kernel
theorem dX9_holdsKind_6 : decode cX9_holdsKind 6 = .ok (.iload_n 1, 1) := by decide +kernel
theorem dX9_holdsKind_7 : decode cX9_holdsKind 7 = .ok (.putfield 23, 3) := by decide +kernel
theorem dX9_holdsKind_10 : decode cX9_holdsKind 10 = .ok (.aload_n 0, 1) := by decide +kernel
theorem dX9_holdsKind_11 : decode cX9_holdsKind 11 = .ok (.iload_n 2, 1) := by decide +kernel
theorem dX9_holdsKind_12 : decode cX9_holdsKind 12 = .ok (.putfield 26, 3) := by decide +kernel
theorem dX9_holdsKind_15 : decode cX9_holdsKind 15 = .ok (.return_, 1) := by decide +kernel
set_option maxRecDepth 20000 in
theorem ggX9_price_X0_priceBy : GoodIn wsX9_price wsX0_priceBy := goodIn_r _ [10, 11, 5, 12, 13, 14, 15] (by decide +kernel) (by decide +kernel)
set_option maxRecDepth 20000 in
theorem gX9_price_X0_priceBy_u29X0 : GoodIn wsX9_price (va_wsO RX9 29 RX0 "PlumbLine$Man" ⟨"PlumbLine$Man", "priceBy", "(I)I"⟩ yX0_priceBy wsX0_priceBy) := goodIn_app (goodIn_of _ (by decide +kernel)) ggX9_price_X0_priceBy
set_option maxRecDepth 20000 in
theorem ggX9_price_X1_priceBy : GoodIn wsX9_price wsX1_priceBy := goodIn_r _ [19, 20, 21, 22, 8, 9, 10, 11, 5, 12, 13, 14, 15] (by decide +kernel) (by decide +kernel)
set_option maxRecDepth 20000 in
theorem gX9_price_X1_priceBy_u29X1 : GoodIn wsX9_price (va_wsO RX9 29 RX1 "PlumbLine$Man" ⟨"PlumbLine$Man", "priceBy", "(I)I"⟩ yX1_priceBy wsX1_priceBy) := goodIn_app (goodIn_of _ (by decide +kernel)) ggX9_price_X1_priceBy
set_option maxRecDepth 20000 in
theorem ggX9_price_X3_priceBy : GoodIn wsX9_price wsX3_priceBy := goodIn_r _ [26] (by decide +kernel) (by decide +kernel)
set_option maxRecDepth 20000 in
theorem gX9_price_X3_priceBy_u29X3 : GoodIn wsX9_price (va_wsO RX9 29 RX3 "PlumbLine$Man" ⟨"PlumbLine$Man", "priceBy", "(I)I"⟩ yX3_priceBy wsX3_priceBy) := goodIn_app (goodIn_of _ (by decide +kernel)) ggX9_price_X3_priceBy
set_option maxRecDepth 20000 in
theorem ggX9_price_X4_priceBy : GoodIn wsX9_price wsX4_priceBy := goodIn_r _ [15] (by decide +kernel) (by decide +kernel)
set_option maxRecDepth 20000 in
theorem gX9_price_X4_priceBy : GoodIn wsX9_price (wsV RX9 29 RX4 yX4_priceBy wsX4_priceBy) := goodIn_app (goodIn_of _ (by decide +kernel)) ggX9_price_X4_priceBy
set_option maxRecDepth 20000 in
theorem ggX9_price_X6_priceBy : GoodIn wsX9_price wsX6_priceBy := goodIn_r _ [32, 33, 34, 35, 24, 25, 26] (by decide +kernel) (by decide +kernel)
set_option maxRecDepth 20000 in
theorem gX9_price_X6_priceBy_u29X6 : GoodIn wsX9_price (va_wsO RX9 29 RX6 "PlumbLine$Man" ⟨"PlumbLine$Man", "priceBy", "(I)I"⟩ yX6_priceBy wsX6_priceBy) := goodIn_app (goodIn_of _ (by decide +kernel)) ggX9_price_X6_priceBy
set_option maxRecDepth 20000 in
theorem ggX9_price_X7_priceBy : GoodIn wsX9_price wsX7_priceBy := goodIn_r _ [39] (by decide +kernel) (by decide +kernel)
set_option maxRecDepth 20000 in
theorem gX9_price_X7_priceBy_u29X7 : GoodIn wsX9_price (va_wsO RX9 29 RX7 "PlumbLine$Man" ⟨"PlumbLine$Man", "priceBy", "(I)I"⟩ yX7_priceBy wsX7_priceBy) := goodIn_app (goodIn_of _ (by decide +kernel)) ggX9_price_X7_priceBy
set_option maxRecDepth 20000 in
theorem ggX9_price_X8_priceBy : GoodIn wsX9_price wsX8_priceBy := goodIn_r _ [43] (by decide +kernel) (by decide +kernel)
set_option maxRecDepth 20000 in
theorem gX9_price_X8_priceBy_u29X8 : GoodIn wsX9_price (va_wsO RX9 29 RX8 "PlumbLine$Man" ⟨"PlumbLine$Man", "priceBy", "(I)I"⟩ yX8_priceBy wsX8_priceBy) := goodIn_app (goodIn_of _ (by decide +kernel)) ggX9_price_X8_priceBy
set_option maxRecDepth 20000 in
theorem gX9_price_X1_priceBy_u29X10 : GoodIn wsX9_price (va_wsO RX9 29 RX10 "PlumbLine$Man" ⟨"PlumbLine$Man", "priceBy", "(I)I"⟩ yX1_priceBy wsX1_priceBy) := goodIn_app (goodIn_of _ (by decide +kernel)) ggX9_price_X1_priceBy
theorem dX9_price_0 : decode cX9_price 0 = .ok (.aload_n 0, 1) := by decide +kernel
theorem dX9_price_1 : decode cX9_price 1 = .ok (.getfield 15, 3) := by decide +kernel
theorem dX9_price_4 : decode cX9_price 4 = .ok (.aload_n 0, 1) := by decide +kernel
theorem dX9_price_5 : decode cX9_price 5 = .ok (.getfield 23, 3) := by decide +kernel
theorem dX9_price_8 : decode cX9_price 8 = .ok (.aaload, 1) := by decide +kernel
theorem dX9_price_9 : decode cX9_price 9 = .ok (.aload_n 0, 1) := by decide +kernel
theorem dX9_price_10 : decode cX9_price 10 = .ok (.getfield 26, 3) := by decide +kernel
theorem dX9_price_13 : decode cX9_price 13 = .ok (.invokevirtual 29, 3) := by decide +kernel
theorem dX9_price_16 : decode cX9_price 16 = .ok (.ireturn, 1) := by decide +kernel
set_option maxRecDepth 20000 in
theorem ggX9_fails_X0_failsBy : GoodIn wsX9_fails wsX0_failsBy := goodIn_ca (goodIn_r _ [10, 11, 12] (by decide +kernel) (by decide +kernel)) (goodIn_sub (fun _ h => List.mem_cons_of_mem _ (List.mem_append_left _ (List.mem_append_left _ (List.mem_append_right _ h)))) (by decide +kernel))
set_option maxRecDepth 20000 in
theorem gX9_fails_X0_failsBy_u35X0 : GoodIn wsX9_fails (va_wsO RX9 35 RX0 "PlumbLine$Man" ⟨"PlumbLine$Man", "failsBy", "(I)V"⟩ yX0_failsBy wsX0_failsBy) := goodIn_app (goodIn_of _ (by decide +kernel)) ggX9_fails_X0_failsBy
set_option maxRecDepth 20000 in
theorem gX9_fails_X0_failsBy_u35X1 : GoodIn wsX9_fails (va_wsO RX9 35 RX1 "PlumbLine$Man" ⟨"PlumbLine$Man", "failsBy", "(I)V"⟩ yX0_failsBy wsX0_failsBy) := goodIn_app (goodIn_of _ (by decide +kernel)) ggX9_fails_X0_failsBy
set_option maxRecDepth 20000 in
theorem ggX9_fails_X4_failsBy : GoodIn wsX9_fails wsX4_failsBy := goodIn_ca (goodIn_r _ [13, 18, 19] (by decide +kernel) (by decide +kernel)) (goodIn_sub (fun _ h => List.mem_cons_of_mem _ (List.mem_append_left _ (List.mem_append_right _ h))) (by decide +kernel))
set_option maxRecDepth 20000 in
theorem gX9_fails_X4_failsBy_u35X3 : GoodIn wsX9_fails (va_wsU RX9 35 RX3 "PlumbLine$Man" ⟨"PlumbLine$Man", "failsBy", "(I)V"⟩ yX4_failsBy wsX4_failsBy) := goodIn_app (goodIn_of _ (by decide +kernel)) ggX9_fails_X4_failsBy
set_option maxRecDepth 20000 in
theorem gX9_fails_X4_failsBy : GoodIn wsX9_fails (wsV RX9 35 RX4 yX4_failsBy wsX4_failsBy) := goodIn_app (goodIn_of _ (by decide +kernel)) ggX9_fails_X4_failsBy
set_option maxRecDepth 20000 in
theorem gX9_fails_X4_failsBy_u35X6 : GoodIn wsX9_fails (va_wsU RX9 35 RX6 "PlumbLine$Man" ⟨"PlumbLine$Man", "failsBy", "(I)V"⟩ yX4_failsBy wsX4_failsBy) := goodIn_app (goodIn_of _ (by decide +kernel)) ggX9_fails_X4_failsBy
set_option maxRecDepth 20000 in
theorem ggX9_fails_X7_failsBy : GoodIn wsX9_fails wsX7_failsBy := goodIn_r _ [26] (by decide +kernel) (by decide +kernel)
set_option maxRecDepth 20000 in
theorem gX9_fails_X7_failsBy_u35X7 : GoodIn wsX9_fails (va_wsO RX9 35 RX7 "PlumbLine$Man" ⟨"PlumbLine$Man", "failsBy", "(I)V"⟩ yX7_failsBy wsX7_failsBy) := goodIn_app (goodIn_of _ (by decide +kernel)) ggX9_fails_X7_failsBy
set_option maxRecDepth 20000 in
theorem gX9_fails_X7_failsBy_u35X8 : GoodIn wsX9_fails (va_wsO RX9 35 RX8 "PlumbLine$Man" ⟨"PlumbLine$Man", "failsBy", "(I)V"⟩ yX7_failsBy wsX7_failsBy) := goodIn_app (goodIn_of _ (by decide +kernel)) ggX9_fails_X7_failsBy
set_option maxRecDepth 20000 in
theorem ggX9_fails_X10_failsBy : GoodIn wsX9_fails wsX10_failsBy := goodIn_ca (goodIn_r _ [31, 32, 33] (by decide +kernel) (by decide +kernel)) (goodIn_sub (fun _ h => List.mem_cons_of_mem _ (List.mem_append_right _ h)) (by decide +kernel))
set_option maxRecDepth 20000 in
theorem gX9_fails_X10_failsBy_u35X10 : GoodIn wsX9_fails (va_wsO RX9 35 RX10 "PlumbLine$Man" ⟨"PlumbLine$Man", "failsBy", "(I)V"⟩ yX10_failsBy wsX10_failsBy) := goodIn_app (goodIn_of _ (by decide +kernel)) ggX9_fails_X10_failsBy
theorem dX9_fails_0 : decode cX9_fails 0 = .ok (.aload_n 0, 1) := by decide +kernel
theorem dX9_fails_1 : decode cX9_fails 1 = .ok (.getfield 15, 3) := by decide +kernel
theorem dX9_fails_4 : decode cX9_fails 4 = .ok (.aload_n 0, 1) := by decide +kernel
theorem dX9_fails_5 : decode cX9_fails 5 = .ok (.getfield 23, 3) := by decide +kernel
theorem dX9_fails_8 : decode cX9_fails 8 = .ok (.aaload, 1) := by decide +kernel
theorem dX9_fails_9 : decode cX9_fails 9 = .ok (.aload_n 0, 1) := by decide +kernel
theorem dX9_fails_10 : decode cX9_fails 10 = .ok (.getfield 26, 3) := by decide +kernel
theorem dX9_fails_13 : decode cX9_fails 13 = .ok (.invokevirtual 35, 3) := by decide +kernel
theorem dX9_fails_16 : decode cX9_fails 16 = .ok (.return_, 1) := by decide +kernel
theorem dX9_holdsRow_0 : decode cX9_holdsRow 0 = .ok (.aload_n 0, 1) := by decide +kernel
theorem dX9_holdsRow_1 : decode cX9_holdsRow 1 = .ok (.iconst 2, 1) := by decide +kernel
theorem dX9_holdsRow_2 : decode cX9_holdsRow 2 = .ok (.putfield 19, 3) := by decide +kernel
theorem dX9_holdsRow_5 : decode cX9_holdsRow 5 = .ok (.aload_n 0, 1) := by decide +kernel
theorem dX9_holdsRow_6 : decode cX9_holdsRow 6 = .ok (.iload_n 1, 1) := by decide +kernel
theorem dX9_holdsRow_7 : decode cX9_holdsRow 7 = .ok (.putfield 39, 3) := by decide +kernel
theorem dX9_holdsRow_10 : decode cX9_holdsRow 10 = .ok (.aload_n 0, 1) := by decide +kernel
theorem dX9_holdsRow_11 : decode cX9_holdsRow 11 = .ok (.iload_n 2, 1) := by decide +kernel
theorem dX9_holdsRow_12 : decode cX9_holdsRow 12 = .ok (.putfield 42, 3) := by decide +kernel
theorem dX9_holdsRow_15 : decode cX9_holdsRow 15 = .ok (.iconst 0, 1) := by decide +kernel
theorem dX9_holdsRow_16 : decode cX9_holdsRow 16 = .ok (.istore_n 3, 1) := by decide +kernel
theorem dX9_holdsRow_17 : decode cX9_holdsRow 17 = .ok (.iload_n 3, 1) := by decide +kernel
theorem dX9_holdsRow_18 : decode cX9_holdsRow 18 = .ok (.bipush 100, 2) := by decide +kernel
theorem dX9_holdsRow_20 : decode cX9_holdsRow 20 = .ok (.if_icmp .ge 16, 3) := by decide +kernel
theorem dX9_holdsRow_23 : decode cX9_holdsRow 23 = .ok (.aload_n 0, 1) := by decide +kernel
theorem dX9_holdsRow_24 : decode cX9_holdsRow 24 = .ok (.getfield 9, 3) := by decide +kernel
theorem dX9_holdsRow_27 : decode cX9_holdsRow 27 = .ok (.iload_n 3, 1) := by decide +kernel
theorem dX9_holdsRow_28 : decode cX9_holdsRow 28 = .ok (.iconst 0, 1) := by decide +kernel
theorem dX9_holdsRow_29 : decode cX9_holdsRow 29 = .ok (.iastore, 1) := by decide +kernel
theorem dX9_holdsRow_30 : decode cX9_holdsRow 30 = .ok (.iinc 3 1, 3) := by decide +kernel
theorem dX9_holdsRow_33 : decode cX9_holdsRow 33 = .ok (.goto (-16), 3) := by decide +kernel
theorem dX9_holdsRow_36 : decode cX9_holdsRow 36 = .ok (.return_, 1) := by decide +kernel
theorem dX9_hasElement_0 : decode cX9_hasElement 0 = .ok (.iload_n 1, 1) := by decide +kernel
theorem dX9_hasElement_1 : decode cX9_hasElement 1 = .ok (.ifCond .lt 15, 3) := by decide +kernel
theorem dX9_hasElement_4 : decode cX9_hasElement 4 = .ok (.iload_n 1, 1) := by decide +kernel
theorem dX9_hasElement_5 : decode cX9_hasElement 5 = .ok (.aload_n 0, 1) := by decide +kernel
theorem dX9_hasElement_6 : decode cX9_hasElement 6 = .ok (.getfield 42, 3) := by decide +kernel
theorem dX9_hasElement_9 : decode cX9_hasElement 9 = .ok (.if_icmp .ge 7, 3) := by decide +kernel
theorem dX9_hasElement_12 : decode cX9_hasElement 12 = .ok (.iconst 1, 1) := by decide +kernel
theorem dX9_hasElement_13 : decode cX9_hasElement 13 = .ok (.goto 4, 3) := by decide +kernel
theorem dX9_hasElement_16 : decode cX9_hasElement 16 = .ok (.iconst 0, 1) := by decide +kernel
theorem dX9_hasElement_17 : decode cX9_hasElement 17 = .ok (.ireturn, 1) := by decide +kernel
theorem dX9_hasElements_0 : decode cX9_hasElements 0 = .ok (.iload_n 1, 1) := by decide +kernel
theorem dX9_hasElements_1 : decode cX9_hasElements 1 = .ok (.ifCond .lt 29, 3) := by decide +kernel
theorem dX9_hasElements_4 : decode cX9_hasElements 4 = .ok (.iload_n 2, 1) := by decide +kernel
theorem dX9_hasElements_5 : decode cX9_hasElements 5 = .ok (.ifCond .lt 25, 3) := by decide +kernel
theorem dX9_hasElements_8 : decode cX9_hasElements 8 = .ok (.iload_n 1, 1) := by decide +kernel
theorem dX9_hasElements_9 : decode cX9_hasElements 9 = .ok (.aload_n 0, 1) := by decide +kernel
theorem dX9_hasElements_10 : decode cX9_hasElements 10 = .ok (.getfield 42, 3) := by decide +kernel
theorem dX9_hasElements_13 : decode cX9_hasElements 13 = .ok (.if_icmp .gt 17, 3) := by decide +kernel
theorem dX9_hasElements_16 : decode cX9_hasElements 16 = .ok (.iload_n 2, 1) := by decide +kernel
theorem dX9_hasElements_17 : decode cX9_hasElements 17 = .ok (.aload_n 0, 1) := by decide +kernel
theorem dX9_hasElements_18 : decode cX9_hasElements 18 = .ok (.getfield 42, 3) := by decide +kernel
theorem dX9_hasElements_21 : decode cX9_hasElements 21 = .ok (.iload_n 1, 1) := by decide +kernel
theorem dX9_hasElements_22 : decode cX9_hasElements 22 = .ok (.isub, 1) := by decide +kernel
theorem dX9_hasElements_23 : decode cX9_hasElements 23 = .ok (.if_icmp .gt 7, 3) := by decide +kernel
theorem dX9_hasElements_26 : decode cX9_hasElements 26 = .ok (.iconst 1, 1) := by decide +kernel
theorem dX9_hasElements_27 : decode cX9_hasElements 27 = .ok (.goto 4, 3) := by decide +kernel
theorem dX9_hasElements_30 : decode cX9_hasElements 30 = .ok (.iconst 0, 1) := by decide +kernel
theorem dX9_hasElements_31 : decode cX9_hasElements 31 = .ok (.ireturn, 1) := by decide +kernel
theorem dX9_sets_0 : decode cX9_sets 0 = .ok (.aload_n 0, 1) := by decide +kernel
theorem dX9_sets_1 : decode cX9_sets 1 = .ok (.getfield 9, 3) := by decide +kernel
theorem dX9_sets_4 : decode cX9_sets 4 = .ok (.iload_n 1, 1) := by decide +kernel
theorem dX9_sets_5 : decode cX9_sets 5 = .ok (.aload_n 0, 1) := by decide +kernel
theorem dX9_sets_6 : decode cX9_sets 6 = .ok (.getfield 39, 3) := by decide +kernel
theorem dX9_sets_9 : decode cX9_sets 9 = .ok (.ifCond .ne 8, 3) := by decide +kernel
theorem dX9_sets_12 : decode cX9_sets 12 = .ok (.iload_n 2, 1) := by decide +kernel
theorem dX9_sets_13 : decode cX9_sets 13 = .ok (.i2b, 1) := by decide +kernel
theorem dX9_sets_14 : decode cX9_sets 14 = .ok (.goto 17, 3) := by decide +kernel
theorem dX9_sets_17 : decode cX9_sets 17 = .ok (.aload_n 0, 1) := by decide +kernel
theorem dX9_sets_18 : decode cX9_sets 18 = .ok (.getfield 39, 3) := by decide +kernel
theorem dX9_sets_21 : decode cX9_sets 21 = .ok (.iconst 1, 1) := by decide +kernel
theorem dX9_sets_22 : decode cX9_sets 22 = .ok (.if_icmp .ne 8, 3) := by decide +kernel
theorem dX9_sets_25 : decode cX9_sets 25 = .ok (.iload_n 2, 1) := by decide +kernel
theorem dX9_sets_26 : decode cX9_sets 26 = .ok (.i2s, 1) := by decide +kernel
theorem dX9_sets_27 : decode cX9_sets 27 = .ok (.goto 4, 3) := by decide +kernel
theorem dX9_sets_30 : decode cX9_sets 30 = .ok (.iload_n 2, 1) := by decide +kernel
theorem dX9_sets_31 : decode cX9_sets 31 = .ok (.iastore, 1) := by decide +kernel
theorem dX9_sets_32 : decode cX9_sets 32 = .ok (.return_, 1) := by decide +kernel
theorem dX9_leastOfSort_0 : decode cX9_leastOfSort 0 = .ok (.aload_n 0, 1) := by decide +kernel
theorem dX9_leastOfSort_1 : decode cX9_leastOfSort 1 = .ok (.getfield 39, 3) := by decide +kernel
theorem dX9_leastOfSort_4 : decode cX9_leastOfSort 4 = .ok (.ifCond .ne 8, 3) := by decide +kernel
theorem dX9_leastOfSort_7 : decode cX9_leastOfSort 7 = .ok (.bipush (-128), 2) := by decide +kernel
theorem dX9_leastOfSort_9 : decode cX9_leastOfSort 9 = .ok (.goto 19, 3) := by decide +kernel
theorem dX9_leastOfSort_12 : decode cX9_leastOfSort 12 = .ok (.aload_n 0, 1) := by decide +kernel
theorem dX9_leastOfSort_13 : decode cX9_leastOfSort 13 = .ok (.getfield 39, 3) := by decide +kernel
theorem dX9_leastOfSort_16 : decode cX9_leastOfSort 16 = .ok (.iconst 1, 1) := by decide +kernel
theorem dX9_leastOfSort_17 : decode cX9_leastOfSort 17 = .ok (.if_icmp .ne 9, 3) := by decide +kernel
theorem dX9_leastOfSort_20 : decode cX9_leastOfSort 20 = .ok (.sipush (-32768), 3) := by decide +kernel
theorem dX9_leastOfSort_23 : decode cX9_leastOfSort 23 = .ok (.goto 5, 3) := by decide +kernel
theorem dX9_leastOfSort_26 : decode cX9_leastOfSort 26 = .ok (.ldc 45, 2) := by decide +kernel
theorem dX9_leastOfSort_28 : decode cX9_leastOfSort 28 = .ok (.ireturn, 1) := by decide +kernel
set_option maxRecDepth 20000 in
theorem ggX9_agrees_X9_leastOfSort : GoodIn wsX9_agrees wsX9_leastOfSort := goodIn_r _ [6, 7, 8, 9, 10, 11, 12, 13, 14, 15] (by decide +kernel) (by decide +kernel)
set_option maxRecDepth 20000 in
theorem gX9_agrees_X9_leastOfSort : GoodIn wsX9_agrees (wsV RX9 46 RX9 yX9_leastOfSort wsX9_leastOfSort) := goodIn_app (goodIn_of _ (by decide +kernel)) ggX9_agrees_X9_leastOfSort
theorem dX9_agrees_0 : decode cX9_agrees 0 = .ok (.aload_n 0, 1) := by decide +kernel
theorem dX9_agrees_1 : decode cX9_agrees 1 = .ok (.getfield 9, 3) := by decide +kernel
theorem dX9_agrees_4 : decode cX9_agrees 4 = .ok (.iload_n 1, 1) := by decide +kernel
theorem dX9_agrees_5 : decode cX9_agrees 5 = .ok (.iaload, 1) := by decide +kernel
theorem dX9_agrees_6 : decode cX9_agrees 6 = .ok (.iload_n 2, 1) := by decide +kernel
theorem dX9_agrees_7 : decode cX9_agrees 7 = .ok (.if_icmp .eq 16, 3) := by decide +kernel
theorem dX9_agrees_10 : decode cX9_agrees 10 = .ok (.aload_n 0, 1) := by decide +kernel
theorem dX9_agrees_11 : decode cX9_agrees 11 = .ok (.getfield 9, 3) := by decide +kernel
theorem dX9_agrees_14 : decode cX9_agrees 14 = .ok (.iload_n 1, 1) := by decide +kernel
theorem dX9_agrees_15 : decode cX9_agrees 15 = .ok (.iaload, 1) := by decide +kernel
theorem dX9_agrees_16 : decode cX9_agrees 16 = .ok (.aload_n 0, 1) := by decide +kernel
theorem dX9_agrees_17 : decode cX9_agrees 17 = .ok (.invokevirtual 46, 3) := by decide +kernel
theorem dX9_agrees_20 : decode cX9_agrees 20 = .ok (.if_icmp .ne 7, 3) := by decide +kernel
theorem dX9_agrees_23 : decode cX9_agrees 23 = .ok (.iconst 1, 1) := by decide +kernel
theorem dX9_agrees_24 : decode cX9_agrees 24 = .ok (.goto 4, 3) := by decide +kernel
theorem dX9_agrees_27 : decode cX9_agrees 27 = .ok (.iconst 0, 1) := by decide +kernel
theorem dX9_agrees_28 : decode cX9_agrees 28 = .ok (.ireturn, 1) := by decide +kernel
theorem dX9_isText_0 : decode cX9_isText 0 = .ok (.aload_n 0, 1) := by decide +kernel
theorem dX9_isText_1 : decode cX9_isText 1 = .ok (.getfield 39, 3) := by decide +kernel
theorem dX9_isText_4 : decode cX9_isText 4 = .ok (.ifCond .ne 7, 3) := by decide +kernel
theorem dX9_isText_7 : decode cX9_isText 7 = .ok (.iconst 1, 1) := by decide +kernel
theorem dX9_isText_8 : decode cX9_isText 8 = .ok (.goto 4, 3) := by decide +kernel
theorem dX9_isText_11 : decode cX9_isText 11 = .ok (.iconst 0, 1) := by decide +kernel
theorem dX9_isText_12 : decode cX9_isText 12 = .ok (.ireturn, 1) := by decide +kernel
set_option maxRecDepth 20000 in
theorem ggX9_faultOfForm_X9_faultOfStatement : GoodIn wsX9_faultOfForm wsX9_faultOfStatement := goodIn_r _ [7, 1, 8, 9, 10, 6, 11, 2, 12, 13, 14, 15, 16, 17, 18, 19, 20, 21, 22, 23, 24, 25, 26, 27] (by decide +kernel) (by decide +kernel)
set_option maxRecDepth 20000 in
theorem gX9_faultOfForm_X9_faultOfStatement : GoodIn wsX9_faultOfForm (wsV RX9 50 RX9 yX9_faultOfStatement wsX9_faultOfStatement) := goodIn_app (goodIn_of _ (by decide +kernel)) ggX9_faultOfForm_X9_faultOfStatement
set_option maxRecDepth 20000 in
theorem ggX9_faultOfForm_X9_lengthBy : GoodIn wsX9_faultOfForm wsX9_lengthBy := goodIn_r _ [17, 12, 13, 6, 14] (by decide +kernel) (by decide +kernel)
set_option maxRecDepth 20000 in
theorem gX9_faultOfForm_X9_lengthBy : GoodIn wsX9_faultOfForm (va_wsS RX9 53 yX9_lengthBy wsX9_lengthBy) := goodIn_app (goodIn_of _ (by decide +kernel)) ggX9_faultOfForm_X9_lengthBy
theorem dX9_faultOfForm_0 : decode cX9_faultOfForm 0 = .ok (.iconst 0, 1) := by decide +kernel
theorem dX9_faultOfForm_1 : decode cX9_faultOfForm 1 = .ok (.istore_n 1, 1) := by decide +kernel
theorem dX9_faultOfForm_2 : decode cX9_faultOfForm 2 = .ok (.aload_n 0, 1) := by decide +kernel
theorem dX9_faultOfForm_3 : decode cX9_faultOfForm 3 = .ok (.iload_n 1, 1) := by decide +kernel
theorem dX9_faultOfForm_4 : decode cX9_faultOfForm 4 = .ok (.invokevirtual 50, 3) := by decide +kernel
theorem dX9_faultOfForm_7 : decode cX9_faultOfForm 7 = .ok (.istore_n 2, 1) := by decide +kernel
theorem dX9_faultOfForm_8 : decode cX9_faultOfForm 8 = .ok (.iload_n 2, 1) := by decide +kernel
theorem dX9_faultOfForm_9 : decode cX9_faultOfForm 9 = .ok (.ifCond .lt 5, 3) := by decide +kernel
theorem dX9_faultOfForm_12 : decode cX9_faultOfForm 12 = .ok (.iload_n 2, 1) := by decide +kernel
theorem dX9_faultOfForm_13 : decode cX9_faultOfForm 13 = .ok (.ireturn, 1) := by decide +kernel
theorem dX9_faultOfForm_14 : decode cX9_faultOfForm 14 = .ok (.iload_n 1, 1) := by decide +kernel
theorem dX9_faultOfForm_15 : decode cX9_faultOfForm 15 = .ok (.aload_n 0, 1) := by decide +kernel
theorem dX9_faultOfForm_16 : decode cX9_faultOfForm 16 = .ok (.getfield 9, 3) := by decide +kernel
theorem dX9_faultOfForm_19 : decode cX9_faultOfForm 19 = .ok (.iload_n 1, 1) := by decide +kernel
theorem dX9_faultOfForm_20 : decode cX9_faultOfForm 20 = .ok (.iaload, 1) := by decide +kernel
theorem dX9_faultOfForm_21 : decode cX9_faultOfForm 21 = .ok (.invokestatic 53, 3) := by decide +kernel
theorem dX9_faultOfForm_24 : decode cX9_faultOfForm 24 = .ok (.iadd, 1) := by decide +kernel
theorem dX9_faultOfForm_25 : decode cX9_faultOfForm 25 = .ok (.istore_n 1, 1) := by decide +kernel
theorem dX9_faultOfForm_26 : decode cX9_faultOfForm 26 = .ok (.iload_n 1, 1) := by decide +kernel
theorem dX9_faultOfForm_27 : decode cX9_faultOfForm 27 = .ok (.aload_n 0, 1) := by decide +kernel
theorem dX9_faultOfForm_28 : decode cX9_faultOfForm 28 = .ok (.getfield 42, 3) := by decide +kernel
theorem dX9_faultOfForm_31 : decode cX9_faultOfForm 31 = .ok (.if_icmp .lt (-29), 3) := by decide +kernel
theorem dX9_faultOfForm_34 : decode cX9_faultOfForm 34 = .ok (.iconst (-1), 1) := by decide +kernel
theorem dX9_faultOfForm_35 : decode cX9_faultOfForm 35 = .ok (.ireturn, 1) := by decide +kernel
set_option maxRecDepth 20000 in
theorem ggX9_faultOfStatement_X9_hasElement : GoodIn wsX9_faultOfStatement wsX9_hasElement := goodIn_r _ [6, 7, 17, 18, 19, 20, 21, 22, 23] (by decide +kernel) (by decide +kernel)
set_option maxRecDepth 20000 in
theorem gX9_faultOfStatement_X9_hasElement : GoodIn wsX9_faultOfStatement (wsV RX9 56 RX9 yX9_hasElement wsX9_hasElement) := goodIn_app (goodIn_of _ (by decide +kernel)) ggX9_faultOfStatement_X9_hasElement
set_option maxRecDepth 20000 in
theorem ggX9_faultOfStatement_X9_digitsBehind : GoodIn wsX9_faultOfStatement wsX9_digitsBehind := goodIn_r _ [10] (by decide +kernel) (by decide +kernel)
set_option maxRecDepth 20000 in
theorem gX9_faultOfStatement_X9_digitsBehind : GoodIn wsX9_faultOfStatement (va_wsS RX9 60 yX9_digitsBehind wsX9_digitsBehind) := goodIn_app (goodIn_of _ (by decide +kernel)) ggX9_faultOfStatement_X9_digitsBehind
set_option maxRecDepth 20000 in
theorem ggX9_faultOfStatement_X9_lengthBy : GoodIn wsX9_faultOfStatement wsX9_lengthBy := goodIn_r _ [13, 8, 9, 5, 10] (by decide +kernel) (by decide +kernel)
set_option maxRecDepth 20000 in
theorem gX9_faultOfStatement_X9_lengthBy : GoodIn wsX9_faultOfStatement (va_wsS RX9 53 yX9_lengthBy wsX9_lengthBy) := goodIn_app (goodIn_of _ (by decide +kernel)) ggX9_faultOfStatement_X9_lengthBy
set_option maxRecDepth 20000 in
theorem ggX9_faultOfStatement_X11_isIn : GoodIn wsX9_faultOfStatement wsX11_isIn := goodIn_r _ [16] (by decide +kernel) (by decide +kernel)
set_option maxRecDepth 20000 in
theorem gX9_faultOfStatement_X11_isIn_n63 : GoodIn wsX9_faultOfStatement (wsX11_isIn) := ggX9_faultOfStatement_X11_isIn
theorem dX9_faultOfStatement_0 : decode cX9_faultOfStatement 0 = .ok (.aload_n 0, 1) := by decide +kernel
theorem dX9_faultOfStatement_1 : decode cX9_faultOfStatement 1 = .ok (.iload_n 1, 1) := by decide +kernel
theorem dX9_faultOfStatement_2 : decode cX9_faultOfStatement 2 = .ok (.invokevirtual 56, 3) := by decide +kernel
theorem dX9_faultOfStatement_5 : decode cX9_faultOfStatement 5 = .ok (.ifCond .eq 15, 3) := by decide +kernel
theorem dX9_faultOfStatement_8 : decode cX9_faultOfStatement 8 = .ok (.aload_n 0, 1) := by decide +kernel
theorem dX9_faultOfStatement_9 : decode cX9_faultOfStatement 9 = .ok (.getfield 9, 3) := by decide +kernel
theorem dX9_faultOfStatement_12 : decode cX9_faultOfStatement 12 = .ok (.iload_n 1, 1) := by decide +kernel
theorem dX9_faultOfStatement_13 : decode cX9_faultOfStatement 13 = .ok (.iaload, 1) := by decide +kernel
theorem dX9_faultOfStatement_14 : decode cX9_faultOfStatement 14 = .ok (.invokestatic 60, 3) := by decide +kernel
theorem dX9_faultOfStatement_17 : decode cX9_faultOfStatement 17 = .ok (.ifCond .ne 5, 3) := by decide +kernel
theorem dX9_faultOfStatement_20 : decode cX9_faultOfStatement 20 = .ok (.iload_n 1, 1) := by decide +kernel
theorem dX9_faultOfStatement_21 : decode cX9_faultOfStatement 21 = .ok (.ireturn, 1) := by decide +kernel
theorem dX9_faultOfStatement_22 : decode cX9_faultOfStatement 22 = .ok (.iload_n 1, 1) := by decide +kernel
theorem dX9_faultOfStatement_23 : decode cX9_faultOfStatement 23 = .ok (.aload_n 0, 1) := by decide +kernel
theorem dX9_faultOfStatement_24 : decode cX9_faultOfStatement 24 = .ok (.getfield 9, 3) := by decide +kernel
theorem dX9_faultOfStatement_27 : decode cX9_faultOfStatement 27 = .ok (.iload_n 1, 1) := by decide +kernel
theorem dX9_faultOfStatement_28 : decode cX9_faultOfStatement 28 = .ok (.iaload, 1) := by decide +kernel
theorem dX9_faultOfStatement_29 : decode cX9_faultOfStatement 29 = .ok (.invokestatic 53, 3) := by decide +kernel
theorem dX9_faultOfStatement_32 : decode cX9_faultOfStatement 32 = .ok (.iadd, 1) := by decide +kernel
theorem dX9_faultOfStatement_33 : decode cX9_faultOfStatement 33 = .ok (.iconst 1, 1) := by decide +kernel
theorem dX9_faultOfStatement_34 : decode cX9_faultOfStatement 34 = .ok (.isub, 1) := by decide +kernel
theorem dX9_faultOfStatement_35 : decode cX9_faultOfStatement 35 = .ok (.istore_n 2, 1) := by decide +kernel
theorem dX9_faultOfStatement_36 : decode cX9_faultOfStatement 36 = .ok (.iload_n 1, 1) := by decide +kernel
theorem dX9_faultOfStatement_37 : decode cX9_faultOfStatement 37 = .ok (.iconst 1, 1) := by decide +kernel
theorem dX9_faultOfStatement_38 : decode cX9_faultOfStatement 38 = .ok (.iadd, 1) := by decide +kernel
theorem dX9_faultOfStatement_39 : decode cX9_faultOfStatement 39 = .ok (.istore_n 3, 1) := by decide +kernel
theorem dX9_faultOfStatement_40 : decode cX9_faultOfStatement 40 = .ok (.iload_n 3, 1) := by decide +kernel
theorem dX9_faultOfStatement_41 : decode cX9_faultOfStatement 41 = .ok (.iload_n 2, 1) := by decide +kernel
theorem dX9_faultOfStatement_42 : decode cX9_faultOfStatement 42 = .ok (.if_icmp .ge 35, 3) := by decide +kernel
theorem dX9_faultOfStatement_45 : decode cX9_faultOfStatement 45 = .ok (.aload_n 0, 1) := by decide +kernel
theorem dX9_faultOfStatement_46 : decode cX9_faultOfStatement 46 = .ok (.iload_n 3, 1) := by decide +kernel
theorem dX9_faultOfStatement_47 : decode cX9_faultOfStatement 47 = .ok (.invokevirtual 56, 3) := by decide +kernel
theorem dX9_faultOfStatement_50 : decode cX9_faultOfStatement 50 = .ok (.ifCond .eq 19, 3) := by decide +kernel
theorem dX9_faultOfStatement_53 : decode cX9_faultOfStatement 53 = .ok (.aload_n 0, 1) := by decide +kernel
theorem dX9_faultOfStatement_54 : decode cX9_faultOfStatement 54 = .ok (.getfield 9, 3) := by decide +kernel
theorem dX9_faultOfStatement_57 : decode cX9_faultOfStatement 57 = .ok (.iload_n 3, 1) := by decide +kernel
theorem dX9_faultOfStatement_58 : decode cX9_faultOfStatement 58 = .ok (.iaload, 1) := by decide +kernel
theorem dX9_faultOfStatement_59 : decode cX9_faultOfStatement 59 = .ok (.bipush 48, 2) := by decide +kernel
theorem dX9_faultOfStatement_61 : decode cX9_faultOfStatement 61 = .ok (.bipush 57, 2) := by decide +kernel
theorem dX9_faultOfStatement_63 : decode cX9_faultOfStatement 63 = .ok (.invokestatic 63, 3) := by decide +kernel
theorem dX9_faultOfStatement_66 : decode cX9_faultOfStatement 66 = .ok (.ifCond .ne 5, 3) := by decide +kernel
theorem dX9_faultOfStatement_69 : decode cX9_faultOfStatement 69 = .ok (.iload_n 3, 1) := by decide +kernel
theorem dX9_faultOfStatement_70 : decode cX9_faultOfStatement 70 = .ok (.ireturn, 1) := by decide +kernel
theorem dX9_faultOfStatement_71 : decode cX9_faultOfStatement 71 = .ok (.iinc 3 1, 3) := by decide +kernel
theorem dX9_faultOfStatement_74 : decode cX9_faultOfStatement 74 = .ok (.goto (-34), 3) := by decide +kernel
theorem dX9_faultOfStatement_77 : decode cX9_faultOfStatement 77 = .ok (.aload_n 0, 1) := by decide +kernel
theorem dX9_faultOfStatement_78 : decode cX9_faultOfStatement 78 = .ok (.iload_n 2, 1) := by decide +kernel
theorem dX9_faultOfStatement_79 : decode cX9_faultOfStatement 79 = .ok (.invokevirtual 56, 3) := by decide +kernel
theorem dX9_faultOfStatement_82 : decode cX9_faultOfStatement 82 = .ok (.ifCond .eq 18, 3) := by decide +kernel
theorem dX9_faultOfStatement_85 : decode cX9_faultOfStatement 85 = .ok (.aload_n 0, 1) := by decide +kernel
theorem dX9_faultOfStatement_86 : decode cX9_faultOfStatement 86 = .ok (.getfield 9, 3) := by decide +kernel
theorem dX9_faultOfStatement_89 : decode cX9_faultOfStatement 89 = .ok (.iload_n 2, 1) := by decide +kernel
theorem dX9_faultOfStatement_90 : decode cX9_faultOfStatement 90 = .ok (.iaload, 1) := by decide +kernel
theorem dX9_faultOfStatement_91 : decode cX9_faultOfStatement 91 = .ok (.bipush 59, 2) := by decide +kernel
theorem dX9_faultOfStatement_93 : decode cX9_faultOfStatement 93 = .ok (.if_icmp .ne 7, 3) := by decide +kernel
theorem dX9_faultOfStatement_96 : decode cX9_faultOfStatement 96 = .ok (.iconst (-1), 1) := by decide +kernel
theorem dX9_faultOfStatement_97 : decode cX9_faultOfStatement 97 = .ok (.goto 4, 3) := by decide +kernel
theorem dX9_faultOfStatement_100 : decode cX9_faultOfStatement 100 = .ok (.iload_n 2, 1) := by decide +kernel
theorem dX9_faultOfStatement_101 : decode cX9_faultOfStatement 101 = .ok (.ireturn, 1) := by decide +kernel
set_option maxRecDepth 20000 in
theorem ggX9_lengthBy_X9_digitsBehind : GoodIn wsX9_lengthBy wsX9_digitsBehind := goodIn_r _ [4] (by decide +kernel) (by decide +kernel)
set_option maxRecDepth 20000 in
theorem gX9_lengthBy_X9_digitsBehind : GoodIn wsX9_lengthBy (va_wsS RX9 60 yX9_digitsBehind wsX9_digitsBehind) := goodIn_app (goodIn_of _ (by decide +kernel)) ggX9_lengthBy_X9_digitsBehind
theorem dX9_lengthBy_0 : decode cX9_lengthBy 0 = .ok (.iload_n 0, 1) := by decide +kernel
theorem dX9_lengthBy_1 : decode cX9_lengthBy 1 = .ok (.invokestatic 60, 3) := by decide +kernel
theorem dX9_lengthBy_4 : decode cX9_lengthBy 4 = .ok (.iconst 2, 1) := by decide +kernel
theorem dX9_lengthBy_5 : decode cX9_lengthBy 5 = .ok (.iadd, 1) := by decide +kernel
theorem dX9_lengthBy_6 : decode cX9_lengthBy 6 = .ok (.ireturn, 1) := by decide +kernel
theorem dX9_digitsBehind_0 : decode cX9_digitsBehind 0 = .ok (.iload_n 0, 1) := by decide +kernel
theorem dX9_digitsBehind_1 : decode cX9_digitsBehind 1 = .ok (.lookupswitch 61 #[(100, 59), (108, 53), (109, 51), (114, 55), (119, 57)], 51) := by decide +kernel
theorem dX9_digitsBehind_52 : decode cX9_digitsBehind 52 = .ok (.iconst 4, 1) := by decide +kernel
theorem dX9_digitsBehind_53 : decode cX9_digitsBehind 53 = .ok (.ireturn, 1) := by decide +kernel
theorem dX9_digitsBehind_54 : decode cX9_digitsBehind 54 = .ok (.iconst 3, 1) := by decide +kernel
theorem dX9_digitsBehind_55 : decode cX9_digitsBehind 55 = .ok (.ireturn, 1) := by decide +kernel
theorem dX9_digitsBehind_56 : decode cX9_digitsBehind 56 = .ok (.iconst 1, 1) := by decide +kernel
theorem dX9_digitsBehind_57 : decode cX9_digitsBehind 57 = .ok (.ireturn, 1) := by decide +kernel
theorem dX9_digitsBehind_58 : decode cX9_digitsBehind 58 = .ok (.iconst 2, 1) := by decide +kernel
theorem dX9_digitsBehind_59 : decode cX9_digitsBehind 59 = .ok (.ireturn, 1) := by decide +kernel
theorem dX9_digitsBehind_60 : decode cX9_digitsBehind 60 = .ok (.iconst 2, 1) := by decide +kernel
theorem dX9_digitsBehind_61 : decode cX9_digitsBehind 61 = .ok (.ireturn, 1) := by decide +kernel
theorem dX9_digitsBehind_62 : decode cX9_digitsBehind 62 = .ok (.iconst 0, 1) := by decide +kernel
theorem dX9_digitsBehind_63 : decode cX9_digitsBehind 63 = .ok (.ireturn, 1) := by decide +kernel
set_option maxRecDepth 20000 in
theorem ggX9_digit_X9_hasElement : GoodIn wsX9_digit wsX9_hasElement := goodIn_r _ [6, 7, 8, 9, 10, 11, 12, 13, 14] (by decide +kernel) (by decide +kernel)
set_option maxRecDepth 20000 in
theorem gX9_digit_X9_hasElement : GoodIn wsX9_digit (wsV RX9 56 RX9 yX9_hasElement wsX9_hasElement) := goodIn_app (goodIn_of _ (by decide +kernel)) ggX9_digit_X9_hasElement
theorem dX9_digit_0 : decode cX9_digit 0 = .ok (.aload_n 0, 1) := by decide +kernel
theorem dX9_digit_1 : decode cX9_digit 1 = .ok (.iload_n 1, 1) := by decide +kernel
theorem dX9_digit_2 : decode cX9_digit 2 = .ok (.invokevirtual 56, 3) := by decide +kernel
theorem dX9_digit_5 : decode cX9_digit 5 = .ok (.ifCond .eq 15, 3) := by decide +kernel
theorem dX9_digit_8 : decode cX9_digit 8 = .ok (.aload_n 0, 1) := by decide +kernel
theorem dX9_digit_9 : decode cX9_digit 9 = .ok (.getfield 9, 3) := by decide +kernel
theorem dX9_digit_12 : decode cX9_digit 12 = .ok (.iload_n 1, 1) := by decide +kernel
theorem dX9_digit_13 : decode cX9_digit 13 = .ok (.iaload, 1) := by decide +kernel
theorem dX9_digit_14 : decode cX9_digit 14 = .ok (.bipush 48, 2) := by decide +kernel
theorem dX9_digit_16 : decode cX9_digit 16 = .ok (.isub, 1) := by decide +kernel
theorem dX9_digit_17 : decode cX9_digit 17 = .ok (.goto 4, 3) := by decide +kernel
theorem dX9_digit_20 : decode cX9_digit 20 = .ok (.iconst 0, 1) := by decide +kernel
theorem dX9_digit_21 : decode cX9_digit 21 = .ok (.ireturn, 1) := by decide +kernel
set_option maxRecDepth 20000 in
theorem ggX9_twoDigits_X9_digit : GoodIn wsX9_twoDigits wsX9_digit := goodIn_r _ [5, 6, 7, 8, 9, 4, 10, 11, 12, 13, 14, 15, 16, 17, 18] (by decide +kernel) (by decide +kernel)
set_option maxRecDepth 20000 in
theorem gX9_twoDigits_X9_digit : GoodIn wsX9_twoDigits (wsV RX9 67 RX9 yX9_digit wsX9_digit) := goodIn_app (goodIn_of _ (by decide +kernel)) ggX9_twoDigits_X9_digit
theorem dX9_twoDigits_0 : decode cX9_twoDigits 0 = .ok (.bipush 10, 2) := by decide +kernel
theorem dX9_twoDigits_2 : decode cX9_twoDigits 2 = .ok (.aload_n 0, 1) := by decide +kernel
theorem dX9_twoDigits_3 : decode cX9_twoDigits 3 = .ok (.iload_n 1, 1) := by decide +kernel
theorem dX9_twoDigits_4 : decode cX9_twoDigits 4 = .ok (.invokevirtual 67, 3) := by decide +kernel
theorem dX9_twoDigits_7 : decode cX9_twoDigits 7 = .ok (.imul, 1) := by decide +kernel
theorem dX9_twoDigits_8 : decode cX9_twoDigits 8 = .ok (.aload_n 0, 1) := by decide +kernel
theorem dX9_twoDigits_9 : decode cX9_twoDigits 9 = .ok (.iload_n 1, 1) := by decide +kernel
theorem dX9_twoDigits_10 : decode cX9_twoDigits 10 = .ok (.iconst 1, 1) := by decide +kernel
theorem dX9_twoDigits_11 : decode cX9_twoDigits 11 = .ok (.iadd, 1) := by decide +kernel
theorem dX9_twoDigits_12 : decode cX9_twoDigits 12 = .ok (.invokevirtual 67, 3) := by decide +kernel
theorem dX9_twoDigits_15 : decode cX9_twoDigits 15 = .ok (.iadd, 1) := by decide +kernel
theorem dX9_twoDigits_16 : decode cX9_twoDigits 16 = .ok (.ireturn, 1) := by decide +kernel
set_option maxRecDepth 20000 in
theorem ggX10_init_X1_init : GoodIn wsX10_init wsX1_init := goodIn_r _ [3, 4, 5, 6, 7, 8, 9, 10, 11, 12] (by decide +kernel) (by decide +kernel)
set_option maxRecDepth 20000 in
theorem gX10_init_X1_init_n1 : GoodIn wsX10_init (wsX1_init) := ggX10_init_X1_init
theorem dX10_init_0 : decode cX10_init 0 = .ok (.aload_n 0, 1) := by decide +kernel
theorem dX10_init_1 : decode cX10_init 1 = .ok (.invokespecial 1, 3) := by decide +kernel
theorem dX10_init_4 : decode cX10_init 4 = .ok (.return_, 1) := by decide +kernel
set_option maxRecDepth 20000 in
theorem ggX10_leansMore_X1_leansMore : GoodIn wsX10_leansMore wsX1_leansMore := goodIn_r _ [6] (by decide +kernel) (by decide +kernel)
set_option maxRecDepth 20000 in
theorem gX10_leansMore_X1_leansMore_s7 : GoodIn wsX10_leansMore (va_wsSU RX10 7 yX1_leansMore wsX1_leansMore) := goodIn_app (goodIn_of _ (by decide +kernel)) ggX10_leansMore_X1_leansMore
theorem dX10_leansMore_0 : decode cX10_leansMore 0 = .ok (.iconst 2, 1) := by decide +kernel
theorem dX10_leansMore_1 : decode cX10_leansMore 1 = .ok (.aload_n 0, 1) := by decide +kernel
theorem dX10_leansMore_2 : decode cX10_leansMore 2 = .ok (.iload_n 1, 1) := by decide +kernel
theorem dX10_leansMore_3 : decode cX10_leansMore 3 = .ok (.iload_n 2, 1) := by decide +kernel
theorem dX10_leansMore_4 : decode cX10_leansMore 4 = .ok (.iload_n 3, 1) := by decide +kernel
theorem dX10_leansMore_5 : decode cX10_leansMore 5 = .ok (.iload 4, 2) := by decide +kernel
theorem dX10_leansMore_7 : decode cX10_leansMore 7 = .ok (.invokespecial 7, 3) := by decide +kernel
theorem dX10_leansMore_10 : decode cX10_leansMore 10 = .ok (.imul, 1) := by decide +kernel
theorem dX10_leansMore_11 : decode cX10_leansMore 11 = .ok (.ireturn, 1) := by decide +kernel
theorem dX10_discountAt_0 : decode cX10_discountAt 0 = .ok (.iconst 0, 1) := by decide +kernel
theorem dX10_discountAt_1 : decode cX10_discountAt 1 = .ok (.ireturn, 1) := by decide +kernel
theorem dX10_failsBy_0 : decode cX10_failsBy 0 = .ok (.iload_n 1, 1) := by decide +kernel
theorem dX10_failsBy_1 : decode cX10_failsBy 1 = .ok (.ifCond .eq 13, 3) := by decide +kernel
theorem dX10_failsBy_4 : decode cX10_failsBy 4 = .ok (.new 11, 3) := by decide +kernel
theorem dX10_failsBy_7 : decode cX10_failsBy 7 = .ok (.dup, 1) := by decide +kernel
theorem dX10_failsBy_8 : decode cX10_failsBy 8 = .ok (.ldc 13, 2) := by decide +kernel
theorem dX10_failsBy_10 : decode cX10_failsBy 10 = .ok (.invokespecial 15, 3) := by decide +kernel
theorem dX10_failsBy_13 : decode cX10_failsBy 13 = .ok (.athrow, 1) := by decide +kernel
theorem dX10_failsBy_14 : decode cX10_failsBy 14 = .ok (.return_, 1) := by decide +kernel
