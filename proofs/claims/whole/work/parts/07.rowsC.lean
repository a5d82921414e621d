theorem dX12_init_0 : decode cX12_init 0 = .ok (.aload_n 0, 1) := by decide +kernel
theorem dX12_init_1 : decode cX12_init 1 = .ok (.invokespecial 1, 3) := by decide +kernel
theorem dX12_init_4 : decode cX12_init 4 = .ok (.aload_n 0, 1) := by decide +kernel
theorem dX12_init_5 : decode cX12_init 5 = .ok (.bipush 37, 2) := by decide +kernel
theorem dX12_init_7 : decode cX12_init 7 = .ok (.newarray .int, 2) := by decide +kernel
theorem dX12_init_9 : decode cX12_init 9 = .ok (.putfield 9, 3) := by decide +kernel
theorem dX12_init_12 : decode cX12_init 12 = .ok (.aload_n 0, 1) := by decide +kernel
theorem dX12_init_13 : decode cX12_init 13 = .ok (.bipush 37, 2) := by decide +kernel
theorem dX12_init_15 : decode cX12_init 15 = .ok (.newarray .int, 2) := by decide +kernel
theorem dX12_init_17 : decode cX12_init 17 = .ok (.putfield 13, 3) := by decide +kernel
theorem dX12_init_20 : decode cX12_init 20 = .ok (.aload_n 0, 1) := by decide +kernel
theorem dX12_init_21 : decode cX12_init 21 = .ok (.bipush 37, 2) := by decide +kernel
theorem dX12_init_23 : decode cX12_init 23 = .ok (.newarray .int, 2) := by decide +kernel
theorem dX12_init_25 : decode cX12_init 25 = .ok (.putfield 16, 3) := by decide +kernel
theorem dX12_init_28 : decode cX12_init 28 = .ok (.aload_n 0, 1) := by decide +kernel
theorem dX12_init_29 : decode cX12_init 29 = .ok (.bipush 37, 2) := by decide +kernel
theorem dX12_init_31 : decode cX12_init 31 = .ok (.newarray .int, 2) := by decide +kernel
theorem dX12_init_33 : decode cX12_init 33 = .ok (.putfield 19, 3) := by decide +kernel
theorem dX12_init_36 : decode cX12_init 36 = .ok (.aload_n 0, 1) := by decide +kernel
theorem dX12_init_37 : decode cX12_init 37 = .ok (.iconst 3, 1) := by decide +kernel
theorem dX12_init_38 : decode cX12_init 38 = .ok (.newarray .int, 2) := by decide +kernel
theorem dX12_init_40 : decode cX12_init 40 = .ok (.putfield 22, 3) := by decide +kernel
theorem dX12_init_43 : decode cX12_init 43 = .ok (.aload_n 0, 1) := by decide +kernel
theorem dX12_init_44 : decode cX12_init 44 = .ok (.bipush 8, 2) := by decide +kernel
theorem dX12_init_46 : decode cX12_init 46 = .ok (.newarray .int, 2) := by decide +kernel
theorem dX12_init_48 : decode cX12_init 48 = .ok (.putfield 25, 3) := by decide +kernel
theorem dX12_init_51 : decode cX12_init 51 = .ok (.aload_n 0, 1) := by decide +kernel
theorem dX12_init_52 : decode cX12_init 52 = .ok (.bipush 8, 2) := by decide +kernel
theorem dX12_init_54 : decode cX12_init 54 = .ok (.newarray .int, 2) := by decide +kernel
theorem dX12_init_56 : decode cX12_init 56 = .ok (.putfield 28, 3) := by decide +kernel
theorem dX12_init_59 : decode cX12_init 59 = .ok (.aload_n 0, 1) := by decide +kernel
theorem dX12_init_60 : decode cX12_init 60 = .ok (.bipush 8, 2) := by decide +kernel
theorem dX12_init_62 : decode cX12_init 62 = .ok (.newarray .int, 2) := by decide +kernel
theorem dX12_init_64 : decode cX12_init 64 = .ok (.putfield 31, 3) := by decide +kernel
theorem dX12_init_67 : decode cX12_init 67 = .ok (.aload_n 0, 1) := by decide +kernel
theorem dX12_init_68 : decode cX12_init 68 = .ok (.bipush 8, 2) := by decide +kernel
theorem dX12_init_70 : decode cX12_init 70 = .ok (.newarray .int, 2) := by decide +kernel
theorem dX12_init_72 : decode cX12_init 72 = .ok (.putfield 34, 3) := by decide +kernel
theorem dX12_init_75 : decode cX12_init 75 = .ok (.aload_n 0, 1) := by decide +kernel
theorem dX12_init_76 : decode cX12_init 76 = .ok (.bipush 8, 2) := by decide +kernel
theorem dX12_init_78 : decode cX12_init 78 = .ok (.newarray .int, 2) := by decide +kernel
theorem dX12_init_80 : decode cX12_init 80 = .ok (.putfield 37, 3) := by decide +kernel
theorem dX12_init_83 : decode cX12_init 83 = .ok (.aload_n 0, 1) := by decide +kernel
theorem dX12_init_84 : decode cX12_init 84 = .ok (.bipush 8, 2) := by decide +kernel
theorem dX12_init_86 : decode cX12_init 86 = .ok (.newarray .int, 2) := by decide +kernel
theorem dX12_init_88 : decode cX12_init 88 = .ok (.putfield 40, 3) := by decide +kernel
theorem dX12_init_91 : decode cX12_init 91 = .ok (.aload_n 0, 1) := by decide +kernel
theorem dX12_init_92 : decode cX12_init 92 = .ok (.sipush 800, 3) := by decide +kernel
theorem dX12_init_95 : decode cX12_init 95 = .ok (.newarray .int, 2) := by decide +kernel
theorem dX12_init_97 : decode cX12_init 97 = .ok (.putfield 43, 3) := by decide +kernel
theorem dX12_init_100 : decode cX12_init 100 = .ok (.return_, 1) := by decide +kernel
theorem dX12_isIn_0 : decode cX12_isIn 0 = .ok (.iload_n 0, 1) := by decide +kernel
theorem dX12_isIn_1 : decode cX12_isIn 1 = .ok (.iload_n 1, 1) := by decide +kernel
theorem dX12_isIn_2 : decode cX12_isIn 2 = .ok (.if_icmp .lt 12, 3) := by decide +kernel
theorem dX12_isIn_5 : decode cX12_isIn 5 = .ok (.iload_n 0, 1) := by decide +kernel
theorem dX12_isIn_6 : decode cX12_isIn 6 = .ok (.iload_n 2, 1) := by decide +kernel
theorem dX12_isIn_7 : decode cX12_isIn 7 = .ok (.if_icmp .gt 7, 3) := by decide +kernel
theorem dX12_isIn_10 : decode cX12_isIn 10 = .ok (.iconst 1, 1) := by decide +kernel
theorem dX12_isIn_11 : decode cX12_isIn 11 = .ok (.goto 4, 3) := by decide +kernel
theorem dX12_isIn_14 : decode cX12_isIn 14 = .ok (.iconst 0, 1) := by decide +kernel
theorem dX12_isIn_15 : decode cX12_isIn 15 = .ok (.ireturn, 1) := by decide +kernel
theorem dX12_sized_0 : decode cX12_sized 0 = .ok (.iload_n 0, 1) := by decide +kernel
theorem dX12_sized_1 : decode cX12_sized 1 = .ok (.ifCond .ge 8, 3) := by decide +kernel
theorem dX12_sized_4 : decode cX12_sized 4 = .ok (.iload_n 0, 1) := by decide +kernel
theorem dX12_sized_5 : decode cX12_sized 5 = .ok (.ineg, 1) := by decide +kernel
theorem dX12_sized_6 : decode cX12_sized 6 = .ok (.goto 4, 3) := by decide +kernel
theorem dX12_sized_9 : decode cX12_sized 9 = .ok (.iload_n 0, 1) := by decide +kernel
theorem dX12_sized_10 : decode cX12_sized 10 = .ok (.ireturn, 1) := by decide +kernel
theorem dX12_signOf_0 : decode cX12_signOf 0 = .ok (.iload_n 0, 1) := by decide +kernel
theorem dX12_signOf_1 : decode cX12_signOf 1 = .ok (.ifCond .le 7, 3) := by decide +kernel
theorem dX12_signOf_4 : decode cX12_signOf 4 = .ok (.iconst 1, 1) := by decide +kernel
theorem dX12_signOf_5 : decode cX12_signOf 5 = .ok (.goto 12, 3) := by decide +kernel
theorem dX12_signOf_8 : decode cX12_signOf 8 = .ok (.iload_n 0, 1) := by decide +kernel
theorem dX12_signOf_9 : decode cX12_signOf 9 = .ok (.ifCond .ge 7, 3) := by decide +kernel
theorem dX12_signOf_12 : decode cX12_signOf 12 = .ok (.iconst (-1), 1) := by decide +kernel
theorem dX12_signOf_13 : decode cX12_signOf 13 = .ok (.goto 4, 3) := by decide +kernel
theorem dX12_signOf_16 : decode cX12_signOf 16 = .ok (.iconst 0, 1) := by decide +kernel
theorem dX12_signOf_17 : decode cX12_signOf 17 = .ok (.ireturn, 1) := by decide +kernel
theorem dX12_least_0 : decode cX12_least 0 = .ok (.iload_n 0, 1) := by decide +kernel
theorem dX12_least_1 : decode cX12_least 1 = .ok (.iload_n 1, 1) := by decide +kernel
theorem dX12_least_2 : decode cX12_least 2 = .ok (.if_icmp .ge 7, 3) := by decide +kernel
theorem dX12_least_5 : decode cX12_least 5 = .ok (.iload_n 0, 1) := by decide +kernel
theorem dX12_least_6 : decode cX12_least 6 = .ok (.goto 4, 3) := by decide +kernel
theorem dX12_least_9 : decode cX12_least 9 = .ok (.iload_n 1, 1) := by decide +kernel
theorem dX12_least_10 : decode cX12_least 10 = .ok (.ireturn, 1) := by decide +kernel
theorem dX12_held_0 : decode cX12_held 0 = .ok (.iload_n 0, 1) := by decide +kernel
theorem dX12_held_1 : decode cX12_held 1 = .ok (.bipush (-45), 2) := by decide +kernel
theorem dX12_held_3 : decode cX12_held 3 = .ok (.if_icmp .ge 8, 3) := by decide +kernel
theorem dX12_held_6 : decode cX12_held 6 = .ok (.bipush (-45), 2) := by decide +kernel
theorem dX12_held_8 : decode cX12_held 8 = .ok (.goto 15, 3) := by decide +kernel
theorem dX12_held_11 : decode cX12_held 11 = .ok (.iload_n 0, 1) := by decide +kernel
theorem dX12_held_12 : decode cX12_held 12 = .ok (.bipush 45, 2) := by decide +kernel
theorem dX12_held_14 : decode cX12_held 14 = .ok (.if_icmp .le 8, 3) := by decide +kernel
theorem dX12_held_17 : decode cX12_held 17 = .ok (.bipush 45, 2) := by decide +kernel
theorem dX12_held_19 : decode cX12_held 19 = .ok (.goto 4, 3) := by decide +kernel
theorem dX12_held_22 : decode cX12_held 22 = .ok (.iload_n 0, 1) := by decide +kernel
theorem dX12_held_23 : decode cX12_held 23 = .ok (.ireturn, 1) := by decide +kernel
theorem dX12_copies_0 : decode cX12_copies 0 = .ok (.iconst 0, 1) := by decide +kernel
theorem dX12_copies_1 : decode cX12_copies 1 = .ok (.istore_n 2, 1) := by decide +kernel
theorem dX12_copies_2 : decode cX12_copies 2 = .ok (.iload_n 2, 1) := by decide +kernel
theorem dX12_copies_3 : decode cX12_copies 3 = .ok (.bipush 37, 2) := by decide +kernel
theorem dX12_copies_5 : decode cX12_copies 5 = .ok (.if_icmp .ge 15, 3) := by decide +kernel
theorem dX12_copies_8 : decode cX12_copies 8 = .ok (.aload_n 1, 1) := by decide +kernel
theorem dX12_copies_9 : decode cX12_copies 9 = .ok (.iload_n 2, 1) := by decide +kernel
theorem dX12_copies_10 : decode cX12_copies 10 = .ok (.aload_n 0, 1) := by decide +kernel
theorem dX12_copies_11 : decode cX12_copies 11 = .ok (.iload_n 2, 1) := by decide +kernel
theorem dX12_copies_12 : decode cX12_copies 12 = .ok (.iaload, 1) := by decide +kernel
theorem dX12_copies_13 : decode cX12_copies 13 = .ok (.iastore, 1) := by decide +kernel
theorem dX12_copies_14 : decode cX12_copies 14 = .ok (.iinc 2 1, 3) := by decide +kernel
theorem dX12_copies_17 : decode cX12_copies 17 = .ok (.goto (-15), 3) := by decide +kernel
theorem dX12_copies_20 : decode cX12_copies 20 = .ok (.return_, 1) := by decide +kernel
theorem dX12_of_0 : decode cX12_of 0 = .ok (.iconst 5, 1) := by decide +kernel
theorem dX12_of_1 : decode cX12_of 1 = .ok (.iconst 4, 1) := by decide +kernel
theorem dX12_of_2 : decode cX12_of 2 = .ok (.iload_n 0, 1) := by decide +kernel
theorem dX12_of_3 : decode cX12_of 3 = .ok (.imul, 1) := by decide +kernel
theorem dX12_of_4 : decode cX12_of 4 = .ok (.iadd, 1) := by decide +kernel
theorem dX12_of_5 : decode cX12_of 5 = .ok (.iload_n 1, 1) := by decide +kernel
theorem dX12_of_6 : decode cX12_of 6 = .ok (.iadd, 1) := by decide +kernel
theorem dX12_of_7 : decode cX12_of 7 = .ok (.ireturn, 1) := by decide +kernel
set_option maxRecDepth 20000 in
theorem ggX12_isMan_X12_isIn : GoodIn wsX12_isMan wsX12_isIn := goodIn_r _ [5] (by decide +kernel) (by decide +kernel)
set_option maxRecDepth 20000 in
theorem gX12_isMan_X12_isIn : GoodIn wsX12_isMan (va_wsS RX12 46 yX12_isIn wsX12_isIn) := goodIn_app (goodIn_of _ (by decide +kernel)) ggX12_isMan_X12_isIn
theorem dX12_isMan_0 : decode cX12_isMan 0 = .ok (.iload_n 1, 1) := by decide +kernel
theorem dX12_isMan_1 : decode cX12_isMan 1 = .ok (.iconst 0, 1) := by decide +kernel
theorem dX12_isMan_2 : decode cX12_isMan 2 = .ok (.aload_n 0, 1) := by decide +kernel
theorem dX12_isMan_3 : decode cX12_isMan 3 = .ok (.getfield 9, 3) := by decide +kernel
theorem dX12_isMan_6 : decode cX12_isMan 6 = .ok (.iconst 0, 1) := by decide +kernel
theorem dX12_isMan_7 : decode cX12_isMan 7 = .ok (.iaload, 1) := by decide +kernel
theorem dX12_isMan_8 : decode cX12_isMan 8 = .ok (.iconst 1, 1) := by decide +kernel
theorem dX12_isMan_9 : decode cX12_isMan 9 = .ok (.isub, 1) := by decide +kernel
theorem dX12_isMan_10 : decode cX12_isMan 10 = .ok (.invokestatic 46, 3) := by decide +kernel
theorem dX12_isMan_13 : decode cX12_isMan 13 = .ok (.ireturn, 1) := by decide +kernel
set_option maxRecDepth 20000 in
theorem ggX12_areTwo_X12_isMan : GoodIn wsX12_areTwo wsX12_isMan := goodIn_r _ [5, 6, 7, 8, 4, 9, 10, 11, 12, 13, 14, 15, 16, 17, 18, 19, 20, 21, 22, 23, 24, 25, 26, 27] (by decide +kernel) (by decide +kernel)
set_option maxRecDepth 20000 in
theorem gX12_areTwo_X12_isMan : GoodIn wsX12_areTwo (wsV RX12 50 RX12 yX12_isMan wsX12_isMan) := goodIn_app (goodIn_of _ (by decide +kernel)) ggX12_areTwo_X12_isMan
theorem dX12_areTwo_0 : decode cX12_areTwo 0 = .ok (.aload_n 0, 1) := by decide +kernel
theorem dX12_areTwo_1 : decode cX12_areTwo 1 = .ok (.iload_n 1, 1) := by decide +kernel
theorem dX12_areTwo_2 : decode cX12_areTwo 2 = .ok (.invokevirtual 50, 3) := by decide +kernel
theorem dX12_areTwo_5 : decode cX12_areTwo 5 = .ok (.ifCond .eq 20, 3) := by decide +kernel
theorem dX12_areTwo_8 : decode cX12_areTwo 8 = .ok (.aload_n 0, 1) := by decide +kernel
theorem dX12_areTwo_9 : decode cX12_areTwo 9 = .ok (.iload_n 2, 1) := by decide +kernel
theorem dX12_areTwo_10 : decode cX12_areTwo 10 = .ok (.invokevirtual 50, 3) := by decide +kernel
theorem dX12_areTwo_13 : decode cX12_areTwo 13 = .ok (.ifCond .eq 12, 3) := by decide +kernel
theorem dX12_areTwo_16 : decode cX12_areTwo 16 = .ok (.iload_n 1, 1) := by decide +kernel
theorem dX12_areTwo_17 : decode cX12_areTwo 17 = .ok (.iload_n 2, 1) := by decide +kernel
theorem dX12_areTwo_18 : decode cX12_areTwo 18 = .ok (.if_icmp .eq 7, 3) := by decide +kernel
theorem dX12_areTwo_21 : decode cX12_areTwo 21 = .ok (.iconst 1, 1) := by decide +kernel
theorem dX12_areTwo_22 : decode cX12_areTwo 22 = .ok (.goto 4, 3) := by decide +kernel
theorem dX12_areTwo_25 : decode cX12_areTwo 25 = .ok (.iconst 0, 1) := by decide +kernel
theorem dX12_areTwo_26 : decode cX12_areTwo 26 = .ok (.ireturn, 1) := by decide +kernel
set_option maxRecDepth 20000 in
theorem ggX12_isLean_X12_isIn : GoodIn wsX12_isLean wsX12_isIn := goodIn_r _ [4] (by decide +kernel) (by decide +kernel)
set_option maxRecDepth 20000 in
theorem gX12_isLean_X12_isIn : GoodIn wsX12_isLean (va_wsS RX12 46 yX12_isIn wsX12_isIn) := goodIn_app (goodIn_of _ (by decide +kernel)) ggX12_isLean_X12_isIn
theorem dX12_isLean_0 : decode cX12_isLean 0 = .ok (.iload_n 0, 1) := by decide +kernel
theorem dX12_isLean_1 : decode cX12_isLean 1 = .ok (.bipush (-45), 2) := by decide +kernel
theorem dX12_isLean_3 : decode cX12_isLean 3 = .ok (.bipush 45, 2) := by decide +kernel
theorem dX12_isLean_5 : decode cX12_isLean 5 = .ok (.invokestatic 46, 3) := by decide +kernel
theorem dX12_isLean_8 : decode cX12_isLean 8 = .ok (.ireturn, 1) := by decide +kernel
theorem dX12_has_0 : decode cX12_has 0 = .ok (.iload_n 0, 1) := by decide +kernel
theorem dX12_has_1 : decode cX12_has 1 = .ok (.iload_n 1, 1) := by decide +kernel
theorem dX12_has_2 : decode cX12_has 2 = .ok (.ishr, 1) := by decide +kernel
theorem dX12_has_3 : decode cX12_has 3 = .ok (.iconst 1, 1) := by decide +kernel
theorem dX12_has_4 : decode cX12_has 4 = .ok (.iand, 1) := by decide +kernel
theorem dX12_has_5 : decode cX12_has 5 = .ok (.iconst 1, 1) := by decide +kernel
theorem dX12_has_6 : decode cX12_has 6 = .ok (.if_icmp .ne 7, 3) := by decide +kernel
theorem dX12_has_9 : decode cX12_has 9 = .ok (.iconst 1, 1) := by decide +kernel
theorem dX12_has_10 : decode cX12_has 10 = .ok (.goto 4, 3) := by decide +kernel
theorem dX12_has_13 : decode cX12_has 13 = .ok (.iconst 0, 1) := by decide +kernel
theorem dX12_has_14 : decode cX12_has 14 = .ok (.ireturn, 1) := by decide +kernel
theorem dX12_bits_0 : decode cX12_bits 0 = .ok (.iconst 0, 1) := by decide +kernel
theorem dX12_bits_1 : decode cX12_bits 1 = .ok (.istore_n 1, 1) := by decide +kernel
theorem dX12_bits_2 : decode cX12_bits 2 = .ok (.iconst 0, 1) := by decide +kernel
theorem dX12_bits_3 : decode cX12_bits 3 = .ok (.istore_n 2, 1) := by decide +kernel
theorem dX12_bits_4 : decode cX12_bits 4 = .ok (.iload_n 2, 1) := by decide +kernel
theorem dX12_bits_5 : decode cX12_bits 5 = .ok (.bipush 8, 2) := by decide +kernel
theorem dX12_bits_7 : decode cX12_bits 7 = .ok (.if_icmp .ge 17, 3) := by decide +kernel
theorem dX12_bits_10 : decode cX12_bits 10 = .ok (.iload_n 1, 1) := by decide +kernel
theorem dX12_bits_11 : decode cX12_bits 11 = .ok (.iload_n 0, 1) := by decide +kernel
theorem dX12_bits_12 : decode cX12_bits 12 = .ok (.iload_n 2, 1) := by decide +kernel
theorem dX12_bits_13 : decode cX12_bits 13 = .ok (.ishr, 1) := by decide +kernel
theorem dX12_bits_14 : decode cX12_bits 14 = .ok (.iconst 1, 1) := by decide +kernel
theorem dX12_bits_15 : decode cX12_bits 15 = .ok (.iand, 1) := by decide +kernel
theorem dX12_bits_16 : decode cX12_bits 16 = .ok (.iadd, 1) := by decide +kernel
theorem dX12_bits_17 : decode cX12_bits 17 = .ok (.istore_n 1, 1) := by decide +kernel
theorem dX12_bits_18 : decode cX12_bits 18 = .ok (.iinc 2 1, 3) := by decide +kernel
theorem dX12_bits_21 : decode cX12_bits 21 = .ok (.goto (-17), 3) := by decide +kernel
theorem dX12_bits_24 : decode cX12_bits 24 = .ok (.iload_n 1, 1) := by decide +kernel
theorem dX12_bits_25 : decode cX12_bits 25 = .ok (.ireturn, 1) := by decide +kernel
set_option maxRecDepth 20000 in
theorem ggX12_towards_X12_signOf : GoodIn wsX12_towards wsX12_signOf := goodIn_r _ [4] (by decide +kernel) (by decide +kernel)
set_option maxRecDepth 20000 in
theorem gX12_towards_X12_signOf : GoodIn wsX12_towards (va_wsS RX12 54 yX12_signOf wsX12_signOf) := goodIn_app (goodIn_of _ (by decide +kernel)) ggX12_towards_X12_signOf
set_option maxRecDepth 20000 in
theorem ggX12_towards_X12_sized : GoodIn wsX12_towards wsX12_sized := goodIn_r _ [7] (by decide +kernel) (by decide +kernel)
set_option maxRecDepth 20000 in
theorem gX12_towards_X12_sized : GoodIn wsX12_towards (va_wsS RX12 58 yX12_sized wsX12_sized) := goodIn_app (goodIn_of _ (by decide +kernel)) ggX12_towards_X12_sized
set_option maxRecDepth 20000 in
theorem ggX12_towards_X12_least : GoodIn wsX12_towards wsX12_least := goodIn_r _ [10] (by decide +kernel) (by decide +kernel)
set_option maxRecDepth 20000 in
theorem gX12_towards_X12_least : GoodIn wsX12_towards (va_wsS RX12 61 yX12_least wsX12_least) := goodIn_app (goodIn_of _ (by decide +kernel)) ggX12_towards_X12_least
theorem dX12_towards_0 : decode cX12_towards 0 = .ok (.iload_n 1, 1) := by decide +kernel
theorem dX12_towards_1 : decode cX12_towards 1 = .ok (.iload_n 0, 1) := by decide +kernel
theorem dX12_towards_2 : decode cX12_towards 2 = .ok (.isub, 1) := by decide +kernel
theorem dX12_towards_3 : decode cX12_towards 3 = .ok (.invokestatic 54, 3) := by decide +kernel
theorem dX12_towards_6 : decode cX12_towards 6 = .ok (.iload_n 2, 1) := by decide +kernel
theorem dX12_towards_7 : decode cX12_towards 7 = .ok (.iload_n 1, 1) := by decide +kernel
theorem dX12_towards_8 : decode cX12_towards 8 = .ok (.iload_n 0, 1) := by decide +kernel
theorem dX12_towards_9 : decode cX12_towards 9 = .ok (.isub, 1) := by decide +kernel
theorem dX12_towards_10 : decode cX12_towards 10 = .ok (.invokestatic 58, 3) := by decide +kernel
theorem dX12_towards_13 : decode cX12_towards 13 = .ok (.invokestatic 61, 3) := by decide +kernel
theorem dX12_towards_16 : decode cX12_towards 16 = .ok (.imul, 1) := by decide +kernel
theorem dX12_towards_17 : decode cX12_towards 17 = .ok (.ireturn, 1) := by decide +kernel
theorem dX12_awayBy_0 : decode cX12_awayBy 0 = .ok (.iload_n 0, 1) := by decide +kernel
theorem dX12_awayBy_1 : decode cX12_awayBy 1 = .ok (.ifCond .ge 8, 3) := by decide +kernel
theorem dX12_awayBy_4 : decode cX12_awayBy 4 = .ok (.iload_n 1, 1) := by decide +kernel
theorem dX12_awayBy_5 : decode cX12_awayBy 5 = .ok (.ineg, 1) := by decide +kernel
theorem dX12_awayBy_6 : decode cX12_awayBy 6 = .ok (.goto 4, 3) := by decide +kernel
theorem dX12_awayBy_9 : decode cX12_awayBy 9 = .ok (.iload_n 1, 1) := by decide +kernel
theorem dX12_awayBy_10 : decode cX12_awayBy 10 = .ok (.ireturn, 1) := by decide +kernel
set_option maxRecDepth 20000 in
theorem ggX12_movesBy_X12_towards : GoodIn wsX12_movesBy wsX12_towards := goodIn_r _ [4, 5, 6, 3, 7, 8, 9, 10, 11, 12, 13] (by decide +kernel) (by decide +kernel)
set_option maxRecDepth 20000 in
theorem gX12_movesBy_X12_towards : GoodIn wsX12_movesBy (va_wsS RX12 65 yX12_towards wsX12_towards) := goodIn_app (goodIn_of _ (by decide +kernel)) ggX12_movesBy_X12_towards
set_option maxRecDepth 20000 in
theorem ggX12_movesBy_X12_awayBy : GoodIn wsX12_movesBy wsX12_awayBy := goodIn_r _ [16] (by decide +kernel) (by decide +kernel)
set_option maxRecDepth 20000 in
theorem gX12_movesBy_X12_awayBy : GoodIn wsX12_movesBy (va_wsS RX12 69 yX12_awayBy wsX12_awayBy) := goodIn_app (goodIn_of _ (by decide +kernel)) ggX12_movesBy_X12_awayBy
theorem dX12_movesBy_0 : decode cX12_movesBy 0 = .ok (.iload_n 0, 1) := by decide +kernel
theorem dX12_movesBy_1 : decode cX12_movesBy 1 = .ok (.tableswitch 106 1 7 #[43, 45, 52, 59, 69, 76, 88], 43) := by decide +kernel
theorem dX12_movesBy_44 : decode cX12_movesBy 44 = .ok (.iconst 0, 1) := by decide +kernel
theorem dX12_movesBy_45 : decode cX12_movesBy 45 = .ok (.ireturn, 1) := by decide +kernel
theorem dX12_movesBy_46 : decode cX12_movesBy 46 = .ok (.iload_n 2, 1) := by decide +kernel
theorem dX12_movesBy_47 : decode cX12_movesBy 47 = .ok (.iconst 0, 1) := by decide +kernel
theorem dX12_movesBy_48 : decode cX12_movesBy 48 = .ok (.iconst 1, 1) := by decide +kernel
theorem dX12_movesBy_49 : decode cX12_movesBy 49 = .ok (.invokestatic 65, 3) := by decide +kernel
theorem dX12_movesBy_52 : decode cX12_movesBy 52 = .ok (.ireturn, 1) := by decide +kernel
theorem dX12_movesBy_53 : decode cX12_movesBy 53 = .ok (.iload_n 2, 1) := by decide +kernel
theorem dX12_movesBy_54 : decode cX12_movesBy 54 = .ok (.iload_n 3, 1) := by decide +kernel
theorem dX12_movesBy_55 : decode cX12_movesBy 55 = .ok (.iconst 2, 1) := by decide +kernel
theorem dX12_movesBy_56 : decode cX12_movesBy 56 = .ok (.invokestatic 65, 3) := by decide +kernel
theorem dX12_movesBy_59 : decode cX12_movesBy 59 = .ok (.ireturn, 1) := by decide +kernel
theorem dX12_movesBy_60 : decode cX12_movesBy 60 = .ok (.iload_n 2, 1) := by decide +kernel
theorem dX12_movesBy_61 : decode cX12_movesBy 61 = .ok (.iload_n 1, 1) := by decide +kernel
theorem dX12_movesBy_62 : decode cX12_movesBy 62 = .ok (.iconst 3, 1) := by decide +kernel
theorem dX12_movesBy_63 : decode cX12_movesBy 63 = .ok (.idiv, 1) := by decide +kernel
theorem dX12_movesBy_64 : decode cX12_movesBy 64 = .ok (.iconst 1, 1) := by decide +kernel
theorem dX12_movesBy_65 : decode cX12_movesBy 65 = .ok (.iadd, 1) := by decide +kernel
theorem dX12_movesBy_66 : decode cX12_movesBy 66 = .ok (.invokestatic 69, 3) := by decide +kernel
theorem dX12_movesBy_69 : decode cX12_movesBy 69 = .ok (.ireturn, 1) := by decide +kernel
theorem dX12_movesBy_70 : decode cX12_movesBy 70 = .ok (.iload_n 2, 1) := by decide +kernel
theorem dX12_movesBy_71 : decode cX12_movesBy 71 = .ok (.iconst 0, 1) := by decide +kernel
theorem dX12_movesBy_72 : decode cX12_movesBy 72 = .ok (.iconst 5, 1) := by decide +kernel
theorem dX12_movesBy_73 : decode cX12_movesBy 73 = .ok (.invokestatic 65, 3) := by decide +kernel
theorem dX12_movesBy_76 : decode cX12_movesBy 76 = .ok (.ireturn, 1) := by decide +kernel
theorem dX12_movesBy_77 : decode cX12_movesBy 77 = .ok (.iload_n 2, 1) := by decide +kernel
theorem dX12_movesBy_78 : decode cX12_movesBy 78 = .ok (.iconst 2, 1) := by decide +kernel
theorem dX12_movesBy_79 : decode cX12_movesBy 79 = .ok (.iload_n 1, 1) := by decide +kernel
theorem dX12_movesBy_80 : decode cX12_movesBy 80 = .ok (.iconst 3, 1) := by decide +kernel
theorem dX12_movesBy_81 : decode cX12_movesBy 81 = .ok (.idiv, 1) := by decide +kernel
theorem dX12_movesBy_82 : decode cX12_movesBy 82 = .ok (.iconst 1, 1) := by decide +kernel
theorem dX12_movesBy_83 : decode cX12_movesBy 83 = .ok (.iadd, 1) := by decide +kernel
theorem dX12_movesBy_84 : decode cX12_movesBy 84 = .ok (.imul, 1) := by decide +kernel
theorem dX12_movesBy_85 : decode cX12_movesBy 85 = .ok (.invokestatic 69, 3) := by decide +kernel
theorem dX12_movesBy_88 : decode cX12_movesBy 88 = .ok (.ireturn, 1) := by decide +kernel
theorem dX12_movesBy_89 : decode cX12_movesBy 89 = .ok (.iload 4, 2) := by decide +kernel
theorem dX12_movesBy_91 : decode cX12_movesBy 91 = .ok (.iconst 2, 1) := by decide +kernel
theorem dX12_movesBy_92 : decode cX12_movesBy 92 = .ok (.irem, 1) := by decide +kernel
theorem dX12_movesBy_93 : decode cX12_movesBy 93 = .ok (.ifCond .ne 12, 3) := by decide +kernel
theorem dX12_movesBy_96 : decode cX12_movesBy 96 = .ok (.iload_n 2, 1) := by decide +kernel
theorem dX12_movesBy_97 : decode cX12_movesBy 97 = .ok (.iload_n 3, 1) := by decide +kernel
theorem dX12_movesBy_98 : decode cX12_movesBy 98 = .ok (.iconst 2, 1) := by decide +kernel
theorem dX12_movesBy_99 : decode cX12_movesBy 99 = .ok (.invokestatic 65, 3) := by decide +kernel
theorem dX12_movesBy_102 : decode cX12_movesBy 102 = .ok (.goto 4, 3) := by decide +kernel
theorem dX12_movesBy_105 : decode cX12_movesBy 105 = .ok (.iconst 0, 1) := by decide +kernel
theorem dX12_movesBy_106 : decode cX12_movesBy 106 = .ok (.ireturn, 1) := by decide +kernel
theorem dX12_movesBy_107 : decode cX12_movesBy 107 = .ok (.iload_n 2, 1) := by decide +kernel
theorem dX12_movesBy_108 : decode cX12_movesBy 108 = .ok (.iload_n 3, 1) := by decide +kernel
theorem dX12_movesBy_109 : decode cX12_movesBy 109 = .ok (.iconst 1, 1) := by decide +kernel
theorem dX12_movesBy_110 : decode cX12_movesBy 110 = .ok (.invokestatic 65, 3) := by decide +kernel
theorem dX12_movesBy_113 : decode cX12_movesBy 113 = .ok (.ireturn, 1) := by decide +kernel
theorem dX12_uprightBy_0 : decode cX12_uprightBy 0 = .ok (.iload_n 0, 1) := by decide +kernel
theorem dX12_uprightBy_1 : decode cX12_uprightBy 1 = .ok (.tableswitch 57 1 7 #[43, 45, 47, 50, 54, 50, 47], 43) := by decide +kernel
theorem dX12_uprightBy_44 : decode cX12_uprightBy 44 = .ok (.iload_n 1, 1) := by decide +kernel
theorem dX12_uprightBy_45 : decode cX12_uprightBy 45 = .ok (.ireturn, 1) := by decide +kernel
theorem dX12_uprightBy_46 : decode cX12_uprightBy 46 = .ok (.iconst 0, 1) := by decide +kernel
theorem dX12_uprightBy_47 : decode cX12_uprightBy 47 = .ok (.ireturn, 1) := by decide +kernel
theorem dX12_uprightBy_48 : decode cX12_uprightBy 48 = .ok (.bipush 8, 2) := by decide +kernel
theorem dX12_uprightBy_50 : decode cX12_uprightBy 50 = .ok (.ireturn, 1) := by decide +kernel
theorem dX12_uprightBy_51 : decode cX12_uprightBy 51 = .ok (.iconst 2, 1) := by decide +kernel
theorem dX12_uprightBy_52 : decode cX12_uprightBy 52 = .ok (.iload_n 1, 1) := by decide +kernel
theorem dX12_uprightBy_53 : decode cX12_uprightBy 53 = .ok (.imul, 1) := by decide +kernel
theorem dX12_uprightBy_54 : decode cX12_uprightBy 54 = .ok (.ireturn, 1) := by decide +kernel
theorem dX12_uprightBy_55 : decode cX12_uprightBy 55 = .ok (.bipush 9, 2) := by decide +kernel
theorem dX12_uprightBy_57 : decode cX12_uprightBy 57 = .ok (.ireturn, 1) := by decide +kernel
theorem dX12_uprightBy_58 : decode cX12_uprightBy 58 = .ok (.iconst 5, 1) := by decide +kernel
theorem dX12_uprightBy_59 : decode cX12_uprightBy 59 = .ok (.ireturn, 1) := by decide +kernel
set_option maxRecDepth 20000 in
theorem ggX12_discountBy_X12_sized : GoodIn wsX12_discountBy wsX12_sized := goodIn_r _ [4] (by decide +kernel) (by decide +kernel)
set_option maxRecDepth 20000 in
theorem gX12_discountBy_X12_sized : GoodIn wsX12_discountBy (va_wsS RX12 58 yX12_sized wsX12_sized) := goodIn_app (goodIn_of _ (by decide +kernel)) ggX12_discountBy_X12_sized
theorem dX12_discountBy_0 : decode cX12_discountBy 0 = .ok (.iload_n 2, 1) := by decide +kernel
theorem dX12_discountBy_1 : decode cX12_discountBy 1 = .ok (.invokestatic 58, 3) := by decide +kernel
theorem dX12_discountBy_4 : decode cX12_discountBy 4 = .ok (.istore_n 3, 1) := by decide +kernel
theorem dX12_discountBy_5 : decode cX12_discountBy 5 = .ok (.iload_n 0, 1) := by decide +kernel
theorem dX12_discountBy_6 : decode cX12_discountBy 6 = .ok (.tableswitch 62 1 7 #[42, 46, 62, 50, 56, 56, 58], 42) := by decide +kernel
theorem dX12_discountBy_48 : decode cX12_discountBy 48 = .ok (.iload_n 3, 1) := by decide +kernel
theorem dX12_discountBy_49 : decode cX12_discountBy 49 = .ok (.iconst 2, 1) := by decide +kernel
theorem dX12_discountBy_50 : decode cX12_discountBy 50 = .ok (.idiv, 1) := by decide +kernel
theorem dX12_discountBy_51 : decode cX12_discountBy 51 = .ok (.ireturn, 1) := by decide +kernel
theorem dX12_discountBy_52 : decode cX12_discountBy 52 = .ok (.iconst 2, 1) := by decide +kernel
theorem dX12_discountBy_53 : decode cX12_discountBy 53 = .ok (.iload_n 3, 1) := by decide +kernel
theorem dX12_discountBy_54 : decode cX12_discountBy 54 = .ok (.imul, 1) := by decide +kernel
theorem dX12_discountBy_55 : decode cX12_discountBy 55 = .ok (.ireturn, 1) := by decide +kernel
theorem dX12_discountBy_56 : decode cX12_discountBy 56 = .ok (.iload_n 3, 1) := by decide +kernel
theorem dX12_discountBy_57 : decode cX12_discountBy 57 = .ok (.iconst 2, 1) := by decide +kernel
theorem dX12_discountBy_58 : decode cX12_discountBy 58 = .ok (.idiv, 1) := by decide +kernel
theorem dX12_discountBy_59 : decode cX12_discountBy 59 = .ok (.iconst 3, 1) := by decide +kernel
theorem dX12_discountBy_60 : decode cX12_discountBy 60 = .ok (.iadd, 1) := by decide +kernel
theorem dX12_discountBy_61 : decode cX12_discountBy 61 = .ok (.ireturn, 1) := by decide +kernel
theorem dX12_discountBy_62 : decode cX12_discountBy 62 = .ok (.iconst 0, 1) := by decide +kernel
theorem dX12_discountBy_63 : decode cX12_discountBy 63 = .ok (.ireturn, 1) := by decide +kernel
theorem dX12_discountBy_64 : decode cX12_discountBy 64 = .ok (.iload_n 3, 1) := by decide +kernel
theorem dX12_discountBy_65 : decode cX12_discountBy 65 = .ok (.iload_n 1, 1) := by decide +kernel
theorem dX12_discountBy_66 : decode cX12_discountBy 66 = .ok (.iadd, 1) := by decide +kernel
theorem dX12_discountBy_67 : decode cX12_discountBy 67 = .ok (.ireturn, 1) := by decide +kernel
theorem dX12_discountBy_68 : decode cX12_discountBy 68 = .ok (.iload_n 3, 1) := by decide +kernel
theorem dX12_discountBy_69 : decode cX12_discountBy 69 = .ok (.ireturn, 1) := by decide +kernel
set_option maxRecDepth 20000 in
theorem ggX12_isUprightBy_X12_sized : GoodIn wsX12_isUprightBy wsX12_sized := goodIn_r _ [4] (by decide +kernel) (by decide +kernel)
set_option maxRecDepth 20000 in
theorem gX12_isUprightBy_X12_sized : GoodIn wsX12_isUprightBy (va_wsS RX12 58 yX12_sized wsX12_sized) := goodIn_app (goodIn_of _ (by decide +kernel)) ggX12_isUprightBy_X12_sized
set_option maxRecDepth 20000 in
theorem ggX12_isUprightBy_X12_of : GoodIn wsX12_isUprightBy wsX12_of := goodIn_r _ [7] (by decide +kernel) (by decide +kernel)
set_option maxRecDepth 20000 in
theorem gX12_isUprightBy_X12_of : GoodIn wsX12_isUprightBy (va_wsS RX12 72 yX12_of wsX12_of) := goodIn_app (goodIn_of _ (by decide +kernel)) ggX12_isUprightBy_X12_of
set_option maxRecDepth 20000 in
theorem ggX12_isUprightBy_X12_uprightBy : GoodIn wsX12_isUprightBy wsX12_uprightBy := goodIn_r _ [10] (by decide +kernel) (by decide +kernel)
set_option maxRecDepth 20000 in
theorem gX12_isUprightBy_X12_uprightBy : GoodIn wsX12_isUprightBy (va_wsS RX12 75 yX12_uprightBy wsX12_uprightBy) := goodIn_app (goodIn_of _ (by decide +kernel)) ggX12_isUprightBy_X12_uprightBy
theorem dX12_isUprightBy_0 : decode cX12_isUprightBy 0 = .ok (.iload_n 2, 1) := by decide +kernel
theorem dX12_isUprightBy_1 : decode cX12_isUprightBy 1 = .ok (.invokestatic 58, 3) := by decide +kernel
theorem dX12_isUprightBy_4 : decode cX12_isUprightBy 4 = .ok (.aload_n 0, 1) := by decide +kernel
theorem dX12_isUprightBy_5 : decode cX12_isUprightBy 5 = .ok (.iload_n 1, 1) := by decide +kernel
theorem dX12_isUprightBy_6 : decode cX12_isUprightBy 6 = .ok (.iconst 0, 1) := by decide +kernel
theorem dX12_isUprightBy_7 : decode cX12_isUprightBy 7 = .ok (.invokestatic 72, 3) := by decide +kernel
theorem dX12_isUprightBy_10 : decode cX12_isUprightBy 10 = .ok (.iaload, 1) := by decide +kernel
theorem dX12_isUprightBy_11 : decode cX12_isUprightBy 11 = .ok (.aload_n 0, 1) := by decide +kernel
theorem dX12_isUprightBy_12 : decode cX12_isUprightBy 12 = .ok (.iload_n 1, 1) := by decide +kernel
theorem dX12_isUprightBy_13 : decode cX12_isUprightBy 13 = .ok (.iconst 1, 1) := by decide +kernel
theorem dX12_isUprightBy_14 : decode cX12_isUprightBy 14 = .ok (.invokestatic 72, 3) := by decide +kernel
theorem dX12_isUprightBy_17 : decode cX12_isUprightBy 17 = .ok (.iaload, 1) := by decide +kernel
theorem dX12_isUprightBy_18 : decode cX12_isUprightBy 18 = .ok (.invokestatic 75, 3) := by decide +kernel
theorem dX12_isUprightBy_21 : decode cX12_isUprightBy 21 = .ok (.if_icmp .gt 7, 3) := by decide +kernel
theorem dX12_isUprightBy_24 : decode cX12_isUprightBy 24 = .ok (.iconst 1, 1) := by decide +kernel
theorem dX12_isUprightBy_25 : decode cX12_isUprightBy 25 = .ok (.goto 4, 3) := by decide +kernel
theorem dX12_isUprightBy_28 : decode cX12_isUprightBy 28 = .ok (.iconst 0, 1) := by decide +kernel
theorem dX12_isUprightBy_29 : decode cX12_isUprightBy 29 = .ok (.ireturn, 1) := by decide +kernel
set_option maxRecDepth 20000 in
theorem ggX12_upright_X12_of : GoodIn wsX12_upright wsX12_of := goodIn_r _ [4] (by decide +kernel) (by decide +kernel)
set_option maxRecDepth 20000 in
theorem gX12_upright_X12_of : GoodIn wsX12_upright (va_wsS RX12 72 yX12_of wsX12_of) := goodIn_app (goodIn_of _ (by decide +kernel)) ggX12_upright_X12_of
set_option maxRecDepth 20000 in
theorem ggX12_upright_X12_isUprightBy : GoodIn wsX12_upright wsX12_isUprightBy := goodIn_r _ [7, 8, 9, 3, 10, 1, 2, 4, 11, 12, 13] (by decide +kernel) (by decide +kernel)
set_option maxRecDepth 20000 in
theorem gX12_upright_X12_isUprightBy : GoodIn wsX12_upright (va_wsS RX12 78 yX12_isUprightBy wsX12_isUprightBy) := goodIn_app (goodIn_of _ (by decide +kernel)) ggX12_upright_X12_isUprightBy
theorem dX12_upright_0 : decode cX12_upright 0 = .ok (.iconst 0, 1) := by decide +kernel
theorem dX12_upright_1 : decode cX12_upright 1 = .ok (.istore_n 1, 1) := by decide +kernel
theorem dX12_upright_2 : decode cX12_upright 2 = .ok (.iconst 0, 1) := by decide +kernel
theorem dX12_upright_3 : decode cX12_upright 3 = .ok (.istore_n 2, 1) := by decide +kernel
theorem dX12_upright_4 : decode cX12_upright 4 = .ok (.iload_n 2, 1) := by decide +kernel
theorem dX12_upright_5 : decode cX12_upright 5 = .ok (.aload_n 0, 1) := by decide +kernel
theorem dX12_upright_6 : decode cX12_upright 6 = .ok (.iconst 0, 1) := by decide +kernel
theorem dX12_upright_7 : decode cX12_upright 7 = .ok (.iaload, 1) := by decide +kernel
theorem dX12_upright_8 : decode cX12_upright 8 = .ok (.if_icmp .ge 34, 3) := by decide +kernel
theorem dX12_upright_11 : decode cX12_upright 11 = .ok (.iload_n 1, 1) := by decide +kernel
theorem dX12_upright_12 : decode cX12_upright 12 = .ok (.aload_n 0, 1) := by decide +kernel
theorem dX12_upright_13 : decode cX12_upright 13 = .ok (.iload_n 2, 1) := by decide +kernel
theorem dX12_upright_14 : decode cX12_upright 14 = .ok (.aload_n 0, 1) := by decide +kernel
theorem dX12_upright_15 : decode cX12_upright 15 = .ok (.iload_n 2, 1) := by decide +kernel
theorem dX12_upright_16 : decode cX12_upright 16 = .ok (.iconst 2, 1) := by decide +kernel
theorem dX12_upright_17 : decode cX12_upright 17 = .ok (.invokestatic 72, 3) := by decide +kernel
theorem dX12_upright_20 : decode cX12_upright 20 = .ok (.iaload, 1) := by decide +kernel
theorem dX12_upright_21 : decode cX12_upright 21 = .ok (.invokestatic 78, 3) := by decide +kernel
theorem dX12_upright_24 : decode cX12_upright 24 = .ok (.ifCond .eq 9, 3) := by decide +kernel
theorem dX12_upright_27 : decode cX12_upright 27 = .ok (.iconst 1, 1) := by decide +kernel
theorem dX12_upright_28 : decode cX12_upright 28 = .ok (.iload_n 2, 1) := by decide +kernel
theorem dX12_upright_29 : decode cX12_upright 29 = .ok (.ishl, 1) := by decide +kernel
theorem dX12_upright_30 : decode cX12_upright 30 = .ok (.goto 4, 3) := by decide +kernel
theorem dX12_upright_33 : decode cX12_upright 33 = .ok (.iconst 0, 1) := by decide +kernel
theorem dX12_upright_34 : decode cX12_upright 34 = .ok (.ior, 1) := by decide +kernel
theorem dX12_upright_35 : decode cX12_upright 35 = .ok (.istore_n 1, 1) := by decide +kernel
theorem dX12_upright_36 : decode cX12_upright 36 = .ok (.iinc 2 1, 3) := by decide +kernel
theorem dX12_upright_39 : decode cX12_upright 39 = .ok (.goto (-35), 3) := by decide +kernel
theorem dX12_upright_42 : decode cX12_upright 42 = .ok (.iload_n 1, 1) := by decide +kernel
theorem dX12_upright_43 : decode cX12_upright 43 = .ok (.ireturn, 1) := by decide +kernel
set_option maxRecDepth 20000 in
theorem ggX12_leanSum_X12_of : GoodIn wsX12_leanSum wsX12_of := goodIn_r _ [4] (by decide +kernel) (by decide +kernel)
set_option maxRecDepth 20000 in
theorem gX12_leanSum_X12_of : GoodIn wsX12_leanSum (va_wsS RX12 72 yX12_of wsX12_of) := goodIn_app (goodIn_of _ (by decide +kernel)) ggX12_leanSum_X12_of
theorem dX12_leanSum_0 : decode cX12_leanSum 0 = .ok (.iconst 0, 1) := by decide +kernel
theorem dX12_leanSum_1 : decode cX12_leanSum 1 = .ok (.istore_n 1, 1) := by decide +kernel
theorem dX12_leanSum_2 : decode cX12_leanSum 2 = .ok (.iconst 0, 1) := by decide +kernel
theorem dX12_leanSum_3 : decode cX12_leanSum 3 = .ok (.istore_n 2, 1) := by decide +kernel
theorem dX12_leanSum_4 : decode cX12_leanSum 4 = .ok (.iload_n 2, 1) := by decide +kernel
theorem dX12_leanSum_5 : decode cX12_leanSum 5 = .ok (.aload_n 0, 1) := by decide +kernel
theorem dX12_leanSum_6 : decode cX12_leanSum 6 = .ok (.iconst 0, 1) := by decide +kernel
theorem dX12_leanSum_7 : decode cX12_leanSum 7 = .ok (.iaload, 1) := by decide +kernel
theorem dX12_leanSum_8 : decode cX12_leanSum 8 = .ok (.if_icmp .ge 19, 3) := by decide +kernel
theorem dX12_leanSum_11 : decode cX12_leanSum 11 = .ok (.iload_n 1, 1) := by decide +kernel
theorem dX12_leanSum_12 : decode cX12_leanSum 12 = .ok (.aload_n 0, 1) := by decide +kernel
theorem dX12_leanSum_13 : decode cX12_leanSum 13 = .ok (.iload_n 2, 1) := by decide +kernel
theorem dX12_leanSum_14 : decode cX12_leanSum 14 = .ok (.iconst 2, 1) := by decide +kernel
theorem dX12_leanSum_15 : decode cX12_leanSum 15 = .ok (.invokestatic 72, 3) := by decide +kernel
theorem dX12_leanSum_18 : decode cX12_leanSum 18 = .ok (.iaload, 1) := by decide +kernel
theorem dX12_leanSum_19 : decode cX12_leanSum 19 = .ok (.iadd, 1) := by decide +kernel
theorem dX12_leanSum_20 : decode cX12_leanSum 20 = .ok (.istore_n 1, 1) := by decide +kernel
theorem dX12_leanSum_21 : decode cX12_leanSum 21 = .ok (.iinc 2 1, 3) := by decide +kernel
theorem dX12_leanSum_24 : decode cX12_leanSum 24 = .ok (.goto (-20), 3) := by decide +kernel
theorem dX12_leanSum_27 : decode cX12_leanSum 27 = .ok (.iload_n 1, 1) := by decide +kernel
theorem dX12_leanSum_28 : decode cX12_leanSum 28 = .ok (.ireturn, 1) := by decide +kernel
set_option maxRecDepth 20000 in
theorem ggX12_plumb_X12_of : GoodIn wsX12_plumb wsX12_of := goodIn_r _ [4] (by decide +kernel) (by decide +kernel)
set_option maxRecDepth 20000 in
theorem gX12_plumb_X12_of : GoodIn wsX12_plumb (va_wsS RX12 72 yX12_of wsX12_of) := goodIn_app (goodIn_of _ (by decide +kernel)) ggX12_plumb_X12_of
set_option maxRecDepth 20000 in
theorem ggX12_plumb_X12_sized : GoodIn wsX12_plumb wsX12_sized := goodIn_r _ [7] (by decide +kernel) (by decide +kernel)
set_option maxRecDepth 20000 in
theorem gX12_plumb_X12_sized : GoodIn wsX12_plumb (va_wsS RX12 58 yX12_sized wsX12_sized) := goodIn_app (goodIn_of _ (by decide +kernel)) ggX12_plumb_X12_sized
theorem dX12_plumb_0 : decode cX12_plumb 0 = .ok (.bipush (-4), 2) := by decide +kernel
theorem dX12_plumb_2 : decode cX12_plumb 2 = .ok (.istore_n 1, 1) := by decide +kernel
theorem dX12_plumb_3 : decode cX12_plumb 3 = .ok (.iconst 0, 1) := by decide +kernel
theorem dX12_plumb_4 : decode cX12_plumb 4 = .ok (.istore_n 2, 1) := by decide +kernel
theorem dX12_plumb_5 : decode cX12_plumb 5 = .ok (.iload_n 2, 1) := by decide +kernel
theorem dX12_plumb_6 : decode cX12_plumb 6 = .ok (.aload_n 0, 1) := by decide +kernel
theorem dX12_plumb_7 : decode cX12_plumb 7 = .ok (.iconst 0, 1) := by decide +kernel
theorem dX12_plumb_8 : decode cX12_plumb 8 = .ok (.iaload, 1) := by decide +kernel
theorem dX12_plumb_9 : decode cX12_plumb 9 = .ok (.if_icmp .ge 38, 3) := by decide +kernel
theorem dX12_plumb_12 : decode cX12_plumb 12 = .ok (.iload_n 1, 1) := by decide +kernel
theorem dX12_plumb_13 : decode cX12_plumb 13 = .ok (.ifCond .lt 26, 3) := by decide +kernel
theorem dX12_plumb_16 : decode cX12_plumb 16 = .ok (.aload_n 0, 1) := by decide +kernel
theorem dX12_plumb_17 : decode cX12_plumb 17 = .ok (.iload_n 2, 1) := by decide +kernel
theorem dX12_plumb_18 : decode cX12_plumb 18 = .ok (.iconst 2, 1) := by decide +kernel
theorem dX12_plumb_19 : decode cX12_plumb 19 = .ok (.invokestatic 72, 3) := by decide +kernel
theorem dX12_plumb_22 : decode cX12_plumb 22 = .ok (.iaload, 1) := by decide +kernel
theorem dX12_plumb_23 : decode cX12_plumb 23 = .ok (.invokestatic 58, 3) := by decide +kernel
theorem dX12_plumb_26 : decode cX12_plumb 26 = .ok (.aload_n 0, 1) := by decide +kernel
theorem dX12_plumb_27 : decode cX12_plumb 27 = .ok (.iload_n 1, 1) := by decide +kernel
theorem dX12_plumb_28 : decode cX12_plumb 28 = .ok (.iconst 2, 1) := by decide +kernel
theorem dX12_plumb_29 : decode cX12_plumb 29 = .ok (.invokestatic 72, 3) := by decide +kernel
theorem dX12_plumb_32 : decode cX12_plumb 32 = .ok (.iaload, 1) := by decide +kernel
theorem dX12_plumb_33 : decode cX12_plumb 33 = .ok (.invokestatic 58, 3) := by decide +kernel
theorem dX12_plumb_36 : decode cX12_plumb 36 = .ok (.if_icmp .ge 5, 3) := by decide +kernel
theorem dX12_plumb_39 : decode cX12_plumb 39 = .ok (.iload_n 2, 1) := by decide +kernel
theorem dX12_plumb_40 : decode cX12_plumb 40 = .ok (.istore_n 1, 1) := by decide +kernel
theorem dX12_plumb_41 : decode cX12_plumb 41 = .ok (.iinc 2 1, 3) := by decide +kernel
theorem dX12_plumb_44 : decode cX12_plumb 44 = .ok (.goto (-39), 3) := by decide +kernel
theorem dX12_plumb_47 : decode cX12_plumb 47 = .ok (.iload_n 1, 1) := by decide +kernel
theorem dX12_plumb_48 : decode cX12_plumb 48 = .ok (.ireturn, 1) := by decide +kernel
set_option maxRecDepth 20000 in
theorem ggX12_turnsRound_X12_of : GoodIn wsX12_turnsRound wsX12_of := goodIn_r _ [4] (by decide +kernel) (by decide +kernel)
set_option maxRecDepth 20000 in
theorem gX12_turnsRound_X12_of : GoodIn wsX12_turnsRound (va_wsS RX12 72 yX12_of wsX12_of) := goodIn_app (goodIn_of _ (by decide +kernel)) ggX12_turnsRound_X12_of
theorem dX12_turnsRound_0 : decode cX12_turnsRound 0 = .ok (.iconst 0, 1) := by decide +kernel
theorem dX12_turnsRound_1 : decode cX12_turnsRound 1 = .ok (.istore_n 1, 1) := by decide +kernel
theorem dX12_turnsRound_2 : decode cX12_turnsRound 2 = .ok (.iload_n 1, 1) := by decide +kernel
theorem dX12_turnsRound_3 : decode cX12_turnsRound 3 = .ok (.aload_n 0, 1) := by decide +kernel
theorem dX12_turnsRound_4 : decode cX12_turnsRound 4 = .ok (.iconst 0, 1) := by decide +kernel
theorem dX12_turnsRound_5 : decode cX12_turnsRound 5 = .ok (.iaload, 1) := by decide +kernel
theorem dX12_turnsRound_6 : decode cX12_turnsRound 6 = .ok (.if_icmp .ge 34, 3) := by decide +kernel
theorem dX12_turnsRound_9 : decode cX12_turnsRound 9 = .ok (.aload_n 0, 1) := by decide +kernel
theorem dX12_turnsRound_10 : decode cX12_turnsRound 10 = .ok (.iload_n 1, 1) := by decide +kernel
theorem dX12_turnsRound_11 : decode cX12_turnsRound 11 = .ok (.iconst 3, 1) := by decide +kernel
theorem dX12_turnsRound_12 : decode cX12_turnsRound 12 = .ok (.invokestatic 72, 3) := by decide +kernel
theorem dX12_turnsRound_15 : decode cX12_turnsRound 15 = .ok (.iaload, 1) := by decide +kernel
theorem dX12_turnsRound_16 : decode cX12_turnsRound 16 = .ok (.ifCond .ne 18, 3) := by decide +kernel
theorem dX12_turnsRound_19 : decode cX12_turnsRound 19 = .ok (.aload_n 0, 1) := by decide +kernel
theorem dX12_turnsRound_20 : decode cX12_turnsRound 20 = .ok (.iload_n 1, 1) := by decide +kernel
theorem dX12_turnsRound_21 : decode cX12_turnsRound 21 = .ok (.iconst 2, 1) := by decide +kernel
theorem dX12_turnsRound_22 : decode cX12_turnsRound 22 = .ok (.invokestatic 72, 3) := by decide +kernel
theorem dX12_turnsRound_25 : decode cX12_turnsRound 25 = .ok (.aload_n 0, 1) := by decide +kernel
theorem dX12_turnsRound_26 : decode cX12_turnsRound 26 = .ok (.iload_n 1, 1) := by decide +kernel
theorem dX12_turnsRound_27 : decode cX12_turnsRound 27 = .ok (.iconst 2, 1) := by decide +kernel
theorem dX12_turnsRound_28 : decode cX12_turnsRound 28 = .ok (.invokestatic 72, 3) := by decide +kernel
theorem dX12_turnsRound_31 : decode cX12_turnsRound 31 = .ok (.iaload, 1) := by decide +kernel
theorem dX12_turnsRound_32 : decode cX12_turnsRound 32 = .ok (.ineg, 1) := by decide +kernel
theorem dX12_turnsRound_33 : decode cX12_turnsRound 33 = .ok (.iastore, 1) := by decide +kernel
theorem dX12_turnsRound_34 : decode cX12_turnsRound 34 = .ok (.iinc 1 1, 3) := by decide +kernel
theorem dX12_turnsRound_37 : decode cX12_turnsRound 37 = .ok (.goto (-35), 3) := by decide +kernel
theorem dX12_turnsRound_40 : decode cX12_turnsRound 40 = .ok (.return_, 1) := by decide +kernel
set_option maxRecDepth 20000 in
theorem ggX12_leadGoes_X12_plumb : GoodIn wsX12_leadGoes wsX12_plumb := goodIn_r _ [4, 5, 6, 3, 7, 8, 9, 10] (by decide +kernel) (by decide +kernel)
set_option maxRecDepth 20000 in
theorem gX12_leadGoes_X12_plumb : GoodIn wsX12_leadGoes (va_wsS RX12 82 yX12_plumb wsX12_plumb) := goodIn_app (goodIn_of _ (by decide +kernel)) ggX12_leadGoes_X12_plumb
set_option maxRecDepth 20000 in
theorem ggX12_leadGoes_X12_signOf : GoodIn wsX12_leadGoes wsX12_signOf := goodIn_r _ [13] (by decide +kernel) (by decide +kernel)
set_option maxRecDepth 20000 in
theorem gX12_leadGoes_X12_signOf : GoodIn wsX12_leadGoes (va_wsS RX12 54 yX12_signOf wsX12_signOf) := goodIn_app (goodIn_of _ (by decide +kernel)) ggX12_leadGoes_X12_signOf
theorem dX12_leadGoes_0 : decode cX12_leadGoes 0 = .ok (.aload_n 0, 1) := by decide +kernel
theorem dX12_leadGoes_1 : decode cX12_leadGoes 1 = .ok (.iconst 0, 1) := by decide +kernel
theorem dX12_leadGoes_2 : decode cX12_leadGoes 2 = .ok (.iaload, 1) := by decide +kernel
theorem dX12_leadGoes_3 : decode cX12_leadGoes 3 = .ok (.ifCond .ne 4, 3) := by decide +kernel
theorem dX12_leadGoes_6 : decode cX12_leadGoes 6 = .ok (.return_, 1) := by decide +kernel
theorem dX12_leadGoes_7 : decode cX12_leadGoes 7 = .ok (.aload_n 0, 1) := by decide +kernel
theorem dX12_leadGoes_8 : decode cX12_leadGoes 8 = .ok (.iconst 3, 1) := by decide +kernel
theorem dX12_leadGoes_9 : decode cX12_leadGoes 9 = .ok (.iaload, 1) := by decide +kernel
theorem dX12_leadGoes_10 : decode cX12_leadGoes 10 = .ok (.ifCond .le 27, 3) := by decide +kernel
theorem dX12_leadGoes_13 : decode cX12_leadGoes 13 = .ok (.aload_n 0, 1) := by decide +kernel
theorem dX12_leadGoes_14 : decode cX12_leadGoes 14 = .ok (.iconst 2, 1) := by decide +kernel
theorem dX12_leadGoes_15 : decode cX12_leadGoes 15 = .ok (.aload_n 0, 1) := by decide +kernel
theorem dX12_leadGoes_16 : decode cX12_leadGoes 16 = .ok (.iconst 2, 1) := by decide +kernel
theorem dX12_leadGoes_17 : decode cX12_leadGoes 17 = .ok (.iaload, 1) := by decide +kernel
theorem dX12_leadGoes_18 : decode cX12_leadGoes 18 = .ok (.iconst 1, 1) := by decide +kernel
theorem dX12_leadGoes_19 : decode cX12_leadGoes 19 = .ok (.iadd, 1) := by decide +kernel
theorem dX12_leadGoes_20 : decode cX12_leadGoes 20 = .ok (.aload_n 0, 1) := by decide +kernel
theorem dX12_leadGoes_21 : decode cX12_leadGoes 21 = .ok (.iconst 0, 1) := by decide +kernel
theorem dX12_leadGoes_22 : decode cX12_leadGoes 22 = .ok (.iaload, 1) := by decide +kernel
theorem dX12_leadGoes_23 : decode cX12_leadGoes 23 = .ok (.if_icmp .lt 7, 3) := by decide +kernel
theorem dX12_leadGoes_26 : decode cX12_leadGoes 26 = .ok (.iconst 0, 1) := by decide +kernel
theorem dX12_leadGoes_27 : decode cX12_leadGoes 27 = .ok (.goto 8, 3) := by decide +kernel
theorem dX12_leadGoes_30 : decode cX12_leadGoes 30 = .ok (.aload_n 0, 1) := by decide +kernel
theorem dX12_leadGoes_31 : decode cX12_leadGoes 31 = .ok (.iconst 2, 1) := by decide +kernel
theorem dX12_leadGoes_32 : decode cX12_leadGoes 32 = .ok (.iaload, 1) := by decide +kernel
theorem dX12_leadGoes_33 : decode cX12_leadGoes 33 = .ok (.iconst 1, 1) := by decide +kernel
theorem dX12_leadGoes_34 : decode cX12_leadGoes 34 = .ok (.iadd, 1) := by decide +kernel
theorem dX12_leadGoes_35 : decode cX12_leadGoes 35 = .ok (.iastore, 1) := by decide +kernel
theorem dX12_leadGoes_36 : decode cX12_leadGoes 36 = .ok (.return_, 1) := by decide +kernel
theorem dX12_leadGoes_37 : decode cX12_leadGoes 37 = .ok (.aload_n 0, 1) := by decide +kernel
theorem dX12_leadGoes_38 : decode cX12_leadGoes 38 = .ok (.iconst 2, 1) := by decide +kernel
theorem dX12_leadGoes_39 : decode cX12_leadGoes 39 = .ok (.dup2, 1) := by decide +kernel
theorem dX12_leadGoes_40 : decode cX12_leadGoes 40 = .ok (.iaload, 1) := by decide +kernel
theorem dX12_leadGoes_41 : decode cX12_leadGoes 41 = .ok (.aload_n 0, 1) := by decide +kernel
theorem dX12_leadGoes_42 : decode cX12_leadGoes 42 = .ok (.invokestatic 82, 3) := by decide +kernel
theorem dX12_leadGoes_45 : decode cX12_leadGoes 45 = .ok (.aload_n 0, 1) := by decide +kernel
theorem dX12_leadGoes_46 : decode cX12_leadGoes 46 = .ok (.iconst 2, 1) := by decide +kernel
theorem dX12_leadGoes_47 : decode cX12_leadGoes 47 = .ok (.iaload, 1) := by decide +kernel
theorem dX12_leadGoes_48 : decode cX12_leadGoes 48 = .ok (.isub, 1) := by decide +kernel
theorem dX12_leadGoes_49 : decode cX12_leadGoes 49 = .ok (.invokestatic 54, 3) := by decide +kernel
theorem dX12_leadGoes_52 : decode cX12_leadGoes 52 = .ok (.iadd, 1) := by decide +kernel
theorem dX12_leadGoes_53 : decode cX12_leadGoes 53 = .ok (.iastore, 1) := by decide +kernel
theorem dX12_leadGoes_54 : decode cX12_leadGoes 54 = .ok (.return_, 1) := by decide +kernel
set_option maxRecDepth 20000 in
theorem ggX12_day_X12_leanSum : GoodIn wsX12_day wsX12_leanSum := goodIn_r _ [4, 5, 6, 3, 7] (by decide +kernel) (by decide +kernel)
set_option maxRecDepth 20000 in
theorem gX12_day_X12_leanSum : GoodIn wsX12_day (va_wsS RX12 86 yX12_leanSum wsX12_leanSum) := goodIn_app (goodIn_of _ (by decide +kernel)) ggX12_day_X12_leanSum
set_option maxRecDepth 20000 in
theorem ggX12_day_X12_of : GoodIn wsX12_day wsX12_of := goodIn_r _ [7] (by decide +kernel) (by decide +kernel)
set_option maxRecDepth 20000 in
theorem gX12_day_X12_of : GoodIn wsX12_day (va_wsS RX12 72 yX12_of wsX12_of) := goodIn_app (goodIn_of _ (by decide +kernel)) ggX12_day_X12_of
set_option maxRecDepth 20000 in
theorem ggX12_day_X12_movesBy : GoodIn wsX12_day wsX12_movesBy := goodIn_r _ [10, 11, 12, 3, 13, 14, 15, 16, 17, 18, 19, 20, 21, 22, 23, 24, 25] (by decide +kernel) (by decide +kernel)
set_option maxRecDepth 20000 in
theorem gX12_day_X12_movesBy : GoodIn wsX12_day (va_wsS RX12 89 yX12_movesBy wsX12_movesBy) := goodIn_app (goodIn_of _ (by decide +kernel)) ggX12_day_X12_movesBy
set_option maxRecDepth 20000 in
theorem ggX12_day_X12_held : GoodIn wsX12_day wsX12_held := goodIn_r _ [28] (by decide +kernel) (by decide +kernel)
set_option maxRecDepth 20000 in
theorem gX12_day_X12_held : GoodIn wsX12_day (va_wsS RX12 93 yX12_held wsX12_held) := goodIn_app (goodIn_of _ (by decide +kernel)) ggX12_day_X12_held
set_option maxRecDepth 20000 in
theorem ggX12_day_X12_upright : GoodIn wsX12_day wsX12_upright := goodIn_r _ [31, 5, 6, 3, 7, 32, 33, 34, 17, 18, 19, 35, 36, 37] (by decide +kernel) (by decide +kernel)
set_option maxRecDepth 20000 in
theorem gX12_day_X12_upright : GoodIn wsX12_day (va_wsS RX12 96 yX12_upright wsX12_upright) := goodIn_app (goodIn_of _ (by decide +kernel)) ggX12_day_X12_upright
set_option maxRecDepth 20000 in
theorem ggX12_day_X12_bits : GoodIn wsX12_day wsX12_bits := goodIn_r _ [40] (by decide +kernel) (by decide +kernel)
set_option maxRecDepth 20000 in
theorem gX12_day_X12_bits : GoodIn wsX12_day (va_wsS RX12 99 yX12_bits wsX12_bits) := goodIn_app (goodIn_of _ (by decide +kernel)) ggX12_day_X12_bits
set_option maxRecDepth 20000 in
theorem ggX12_day_X12_least : GoodIn wsX12_day wsX12_least := goodIn_r _ [22] (by decide +kernel) (by decide +kernel)
set_option maxRecDepth 20000 in
theorem gX12_day_X12_least : GoodIn wsX12_day (va_wsS RX12 61 yX12_least wsX12_least) := goodIn_app (goodIn_of _ (by decide +kernel)) ggX12_day_X12_least
set_option maxRecDepth 20000 in
theorem ggX12_day_X12_turnsRound : GoodIn wsX12_day wsX12_turnsRound := goodIn_r _ [43, 5, 6, 3, 7] (by decide +kernel) (by decide +kernel)
set_option maxRecDepth 20000 in
theorem gX12_day_X12_turnsRound : GoodIn wsX12_day (va_wsS RX12 102 yX12_turnsRound wsX12_turnsRound) := goodIn_app (goodIn_of _ (by decide +kernel)) ggX12_day_X12_turnsRound
set_option maxRecDepth 20000 in
theorem ggX12_day_X12_leadGoes : GoodIn wsX12_day wsX12_leadGoes := goodIn_r _ [46, 47, 48, 3, 49, 5, 6, 7, 17, 18, 19, 14, 15, 16] (by decide +kernel) (by decide +kernel)
set_option maxRecDepth 20000 in
theorem gX12_day_X12_leadGoes : GoodIn wsX12_day (va_wsS RX12 106 yX12_leadGoes wsX12_leadGoes) := goodIn_app (goodIn_of _ (by decide +kernel)) ggX12_day_X12_leadGoes
theorem dX12_day_0 : decode cX12_day 0 = .ok (.aload_n 0, 1) := by decide +kernel
theorem dX12_day_1 : decode cX12_day 1 = .ok (.iconst 1, 1) := by decide +kernel
theorem dX12_day_2 : decode cX12_day 2 = .ok (.dup2, 1) := by decide +kernel
theorem dX12_day_3 : decode cX12_day 3 = .ok (.iaload, 1) := by decide +kernel
theorem dX12_day_4 : decode cX12_day 4 = .ok (.iconst 1, 1) := by decide +kernel
theorem dX12_day_5 : decode cX12_day 5 = .ok (.iadd, 1) := by decide +kernel
theorem dX12_day_6 : decode cX12_day 6 = .ok (.iastore, 1) := by decide +kernel
theorem dX12_day_7 : decode cX12_day 7 = .ok (.aload_n 0, 1) := by decide +kernel
theorem dX12_day_8 : decode cX12_day 8 = .ok (.iconst 0, 1) := by decide +kernel
theorem dX12_day_9 : decode cX12_day 9 = .ok (.iaload, 1) := by decide +kernel
theorem dX12_day_10 : decode cX12_day 10 = .ok (.ifCond .ne 7, 3) := by decide +kernel
theorem dX12_day_13 : decode cX12_day 13 = .ok (.iconst 0, 1) := by decide +kernel
theorem dX12_day_14 : decode cX12_day 14 = .ok (.goto 11, 3) := by decide +kernel
theorem dX12_day_17 : decode cX12_day 17 = .ok (.aload_n 0, 1) := by decide +kernel
theorem dX12_day_18 : decode cX12_day 18 = .ok (.invokestatic 86, 3) := by decide +kernel
theorem dX12_day_21 : decode cX12_day 21 = .ok (.aload_n 0, 1) := by decide +kernel
theorem dX12_day_22 : decode cX12_day 22 = .ok (.iconst 0, 1) := by decide +kernel
theorem dX12_day_23 : decode cX12_day 23 = .ok (.iaload, 1) := by decide +kernel
theorem dX12_day_24 : decode cX12_day 24 = .ok (.idiv, 1) := by decide +kernel
theorem dX12_day_25 : decode cX12_day 25 = .ok (.istore_n 1, 1) := by decide +kernel
theorem dX12_day_26 : decode cX12_day 26 = .ok (.iconst 0, 1) := by decide +kernel
theorem dX12_day_27 : decode cX12_day 27 = .ok (.istore_n 2, 1) := by decide +kernel
theorem dX12_day_28 : decode cX12_day 28 = .ok (.iload_n 2, 1) := by decide +kernel
theorem dX12_day_29 : decode cX12_day 29 = .ok (.aload_n 0, 1) := by decide +kernel
theorem dX12_day_30 : decode cX12_day 30 = .ok (.iconst 0, 1) := by decide +kernel
theorem dX12_day_31 : decode cX12_day 31 = .ok (.iaload, 1) := by decide +kernel
theorem dX12_day_32 : decode cX12_day 32 = .ok (.if_icmp .ge 65, 3) := by decide +kernel
theorem dX12_day_35 : decode cX12_day 35 = .ok (.aload_n 0, 1) := by decide +kernel
theorem dX12_day_36 : decode cX12_day 36 = .ok (.iload_n 2, 1) := by decide +kernel
theorem dX12_day_37 : decode cX12_day 37 = .ok (.iconst 3, 1) := by decide +kernel
theorem dX12_day_38 : decode cX12_day 38 = .ok (.invokestatic 72, 3) := by decide +kernel
theorem dX12_day_41 : decode cX12_day 41 = .ok (.iaload, 1) := by decide +kernel
theorem dX12_day_42 : decode cX12_day 42 = .ok (.iconst 1, 1) := by decide +kernel
theorem dX12_day_43 : decode cX12_day 43 = .ok (.if_icmp .ne 6, 3) := by decide +kernel
theorem dX12_day_46 : decode cX12_day 46 = .ok (.goto 45, 3) := by decide +kernel
theorem dX12_day_49 : decode cX12_day 49 = .ok (.aload_n 0, 1) := by decide +kernel
theorem dX12_day_50 : decode cX12_day 50 = .ok (.iload_n 2, 1) := by decide +kernel
theorem dX12_day_51 : decode cX12_day 51 = .ok (.iconst 2, 1) := by decide +kernel
theorem dX12_day_52 : decode cX12_day 52 = .ok (.invokestatic 72, 3) := by decide +kernel
theorem dX12_day_55 : decode cX12_day 55 = .ok (.iaload, 1) := by decide +kernel
theorem dX12_day_56 : decode cX12_day 56 = .ok (.istore_n 3, 1) := by decide +kernel
theorem dX12_day_57 : decode cX12_day 57 = .ok (.aload_n 0, 1) := by decide +kernel
theorem dX12_day_58 : decode cX12_day 58 = .ok (.iload_n 2, 1) := by decide +kernel
theorem dX12_day_59 : decode cX12_day 59 = .ok (.iconst 2, 1) := by decide +kernel
theorem dX12_day_60 : decode cX12_day 60 = .ok (.invokestatic 72, 3) := by decide +kernel
theorem dX12_day_63 : decode cX12_day 63 = .ok (.iload_n 3, 1) := by decide +kernel
theorem dX12_day_64 : decode cX12_day 64 = .ok (.aload_n 0, 1) := by decide +kernel
theorem dX12_day_65 : decode cX12_day 65 = .ok (.iload_n 2, 1) := by decide +kernel
theorem dX12_day_66 : decode cX12_day 66 = .ok (.iconst 0, 1) := by decide +kernel
theorem dX12_day_67 : decode cX12_day 67 = .ok (.invokestatic 72, 3) := by decide +kernel
theorem dX12_day_70 : decode cX12_day 70 = .ok (.iaload, 1) := by decide +kernel
theorem dX12_day_71 : decode cX12_day 71 = .ok (.aload_n 0, 1) := by decide +kernel
theorem dX12_day_72 : decode cX12_day 72 = .ok (.iload_n 2, 1) := by decide +kernel
theorem dX12_day_73 : decode cX12_day 73 = .ok (.iconst 1, 1) := by decide +kernel
theorem dX12_day_74 : decode cX12_day 74 = .ok (.invokestatic 72, 3) := by decide +kernel
theorem dX12_day_77 : decode cX12_day 77 = .ok (.iaload, 1) := by decide +kernel
theorem dX12_day_78 : decode cX12_day 78 = .ok (.iload_n 3, 1) := by decide +kernel
theorem dX12_day_79 : decode cX12_day 79 = .ok (.iload_n 1, 1) := by decide +kernel
theorem dX12_day_80 : decode cX12_day 80 = .ok (.aload_n 0, 1) := by decide +kernel
theorem dX12_day_81 : decode cX12_day 81 = .ok (.iconst 1, 1) := by decide +kernel
theorem dX12_day_82 : decode cX12_day 82 = .ok (.iaload, 1) := by decide +kernel
theorem dX12_day_83 : decode cX12_day 83 = .ok (.invokestatic 89, 3) := by decide +kernel
theorem dX12_day_86 : decode cX12_day 86 = .ok (.iadd, 1) := by decide +kernel
theorem dX12_day_87 : decode cX12_day 87 = .ok (.invokestatic 93, 3) := by decide +kernel
theorem dX12_day_90 : decode cX12_day 90 = .ok (.iastore, 1) := by decide +kernel
theorem dX12_day_91 : decode cX12_day 91 = .ok (.iinc 2 1, 3) := by decide +kernel
theorem dX12_day_94 : decode cX12_day 94 = .ok (.goto (-66), 3) := by decide +kernel
theorem dX12_day_97 : decode cX12_day 97 = .ok (.aload_n 0, 1) := by decide +kernel
theorem dX12_day_98 : decode cX12_day 98 = .ok (.invokestatic 96, 3) := by decide +kernel
theorem dX12_day_101 : decode cX12_day 101 = .ok (.invokestatic 99, 3) := by decide +kernel
theorem dX12_day_104 : decode cX12_day 104 = .ok (.aload_n 0, 1) := by decide +kernel
theorem dX12_day_105 : decode cX12_day 105 = .ok (.iconst 0, 1) := by decide +kernel
theorem dX12_day_106 : decode cX12_day 106 = .ok (.iaload, 1) := by decide +kernel
theorem dX12_day_107 : decode cX12_day 107 = .ok (.iconst 2, 1) := by decide +kernel
theorem dX12_day_108 : decode cX12_day 108 = .ok (.idiv, 1) := by decide +kernel
theorem dX12_day_109 : decode cX12_day 109 = .ok (.if_icmp .ge 29, 3) := by decide +kernel
theorem dX12_day_112 : decode cX12_day 112 = .ok (.aload_n 0, 1) := by decide +kernel
theorem dX12_day_113 : decode cX12_day 113 = .ok (.iconst 4, 1) := by decide +kernel
theorem dX12_day_114 : decode cX12_day 114 = .ok (.sipush 999, 3) := by decide +kernel
theorem dX12_day_117 : decode cX12_day 117 = .ok (.aload_n 0, 1) := by decide +kernel
theorem dX12_day_118 : decode cX12_day 118 = .ok (.iconst 4, 1) := by decide +kernel
theorem dX12_day_119 : decode cX12_day 119 = .ok (.iaload, 1) := by decide +kernel
theorem dX12_day_120 : decode cX12_day 120 = .ok (.iconst 1, 1) := by decide +kernel
theorem dX12_day_121 : decode cX12_day 121 = .ok (.iadd, 1) := by decide +kernel
theorem dX12_day_122 : decode cX12_day 122 = .ok (.invokestatic 61, 3) := by decide +kernel
theorem dX12_day_125 : decode cX12_day 125 = .ok (.iastore, 1) := by decide +kernel
theorem dX12_day_126 : decode cX12_day 126 = .ok (.aload_n 0, 1) := by decide +kernel
theorem dX12_day_127 : decode cX12_day 127 = .ok (.invokestatic 102, 3) := by decide +kernel
theorem dX12_day_130 : decode cX12_day 130 = .ok (.aload_n 0, 1) := by decide +kernel
theorem dX12_day_131 : decode cX12_day 131 = .ok (.iconst 3, 1) := by decide +kernel
theorem dX12_day_132 : decode cX12_day 132 = .ok (.bipush 9, 2) := by decide +kernel
theorem dX12_day_134 : decode cX12_day 134 = .ok (.iastore, 1) := by decide +kernel
theorem dX12_day_135 : decode cX12_day 135 = .ok (.goto 16, 3) := by decide +kernel
theorem dX12_day_138 : decode cX12_day 138 = .ok (.aload_n 0, 1) := by decide +kernel
theorem dX12_day_139 : decode cX12_day 139 = .ok (.iconst 3, 1) := by decide +kernel
theorem dX12_day_140 : decode cX12_day 140 = .ok (.iaload, 1) := by decide +kernel
theorem dX12_day_141 : decode cX12_day 141 = .ok (.ifCond .le 10, 3) := by decide +kernel
theorem dX12_day_144 : decode cX12_day 144 = .ok (.aload_n 0, 1) := by decide +kernel
theorem dX12_day_145 : decode cX12_day 145 = .ok (.iconst 3, 1) := by decide +kernel
theorem dX12_day_146 : decode cX12_day 146 = .ok (.dup2, 1) := by decide +kernel
theorem dX12_day_147 : decode cX12_day 147 = .ok (.iaload, 1) := by decide +kernel
theorem dX12_day_148 : decode cX12_day 148 = .ok (.iconst 1, 1) := by decide +kernel
theorem dX12_day_149 : decode cX12_day 149 = .ok (.isub, 1) := by decide +kernel
theorem dX12_day_150 : decode cX12_day 150 = .ok (.iastore, 1) := by decide +kernel
theorem dX12_day_151 : decode cX12_day 151 = .ok (.aload_n 0, 1) := by decide +kernel
theorem dX12_day_152 : decode cX12_day 152 = .ok (.invokestatic 106, 3) := by decide +kernel
theorem dX12_day_155 : decode cX12_day 155 = .ok (.return_, 1) := by decide +kernel
set_option maxRecDepth 20000 in
theorem ggX12_daysOn_X12_day : GoodIn wsX12_daysOn wsX12_day := goodIn_r _ [4, 5, 6, 3, 7, 8, 9, 10, 11, 12, 13, 14, 15, 16, 17, 18, 19, 20, 21, 22, 23, 24, 25, 26, 27, 28, 29, 30, 31, 32, 33, 34, 35, 36, 37, 38, 39, 40, 41, 42, 43, 44, 45, 46, 47, 48, 49, 50, 51, 52] (by decide +kernel) (by decide +kernel)
set_option maxRecDepth 20000 in
theorem gX12_daysOn_X12_day : GoodIn wsX12_daysOn (va_wsS RX12 109 yX12_day wsX12_day) := goodIn_app (goodIn_of _ (by decide +kernel)) ggX12_daysOn_X12_day
theorem dX12_daysOn_0 : decode cX12_daysOn 0 = .ok (.iconst 0, 1) := by decide +kernel
theorem dX12_daysOn_1 : decode cX12_daysOn 1 = .ok (.istore_n 2, 1) := by decide +kernel
theorem dX12_daysOn_2 : decode cX12_daysOn 2 = .ok (.iload_n 2, 1) := by decide +kernel
theorem dX12_daysOn_3 : decode cX12_daysOn 3 = .ok (.iload_n 1, 1) := by decide +kernel
theorem dX12_daysOn_4 : decode cX12_daysOn 4 = .ok (.if_icmp .ge 13, 3) := by decide +kernel
theorem dX12_daysOn_7 : decode cX12_daysOn 7 = .ok (.aload_n 0, 1) := by decide +kernel
theorem dX12_daysOn_8 : decode cX12_daysOn 8 = .ok (.invokestatic 109, 3) := by decide +kernel
theorem dX12_daysOn_11 : decode cX12_daysOn 11 = .ok (.iinc 2 1, 3) := by decide +kernel
theorem dX12_daysOn_14 : decode cX12_daysOn 14 = .ok (.goto (-12), 3) := by decide +kernel
theorem dX12_daysOn_17 : decode cX12_daysOn 17 = .ok (.return_, 1) := by decide +kernel
theorem dX12_here_0 : decode cX12_here 0 = .ok (.aload_n 0, 1) := by decide +kernel
theorem dX12_here_1 : decode cX12_here 1 = .ok (.getfield 112, 3) := by decide +kernel
theorem dX12_here_4 : decode cX12_here 4 = .ok (.aload_n 0, 1) := by decide +kernel
theorem dX12_here_5 : decode cX12_here 5 = .ok (.getfield 116, 3) := by decide +kernel
theorem dX12_here_8 : decode cX12_here 8 = .ok (.if_icmp .ge 24, 3) := by decide +kernel
theorem dX12_here_11 : decode cX12_here 11 = .ok (.aload_n 0, 1) := by decide +kernel
theorem dX12_here_12 : decode cX12_here 12 = .ok (.getfield 43, 3) := by decide +kernel
theorem dX12_here_15 : decode cX12_here 15 = .ok (.aload_n 0, 1) := by decide +kernel
theorem dX12_here_16 : decode cX12_here 16 = .ok (.getfield 119, 3) := by decide +kernel
theorem dX12_here_19 : decode cX12_here 19 = .ok (.aload_n 0, 1) := by decide +kernel
theorem dX12_here_20 : decode cX12_here 20 = .ok (.getfield 112, 3) := by decide +kernel
theorem dX12_here_23 : decode cX12_here 23 = .ok (.iadd, 1) := by decide +kernel
theorem dX12_here_24 : decode cX12_here 24 = .ok (.iaload, 1) := by decide +kernel
theorem dX12_here_25 : decode cX12_here 25 = .ok (.sipush 255, 3) := by decide +kernel
theorem dX12_here_28 : decode cX12_here 28 = .ok (.iand, 1) := by decide +kernel
theorem dX12_here_29 : decode cX12_here 29 = .ok (.goto 4, 3) := by decide +kernel
theorem dX12_here_32 : decode cX12_here 32 = .ok (.iconst (-1), 1) := by decide +kernel
theorem dX12_here_33 : decode cX12_here 33 = .ok (.ireturn, 1) := by decide +kernel
set_option maxRecDepth 20000 in
theorem ggX12_readsNumber_X12_here : GoodIn wsX12_readsNumber wsX12_here := goodIn_r _ [7, 2, 8, 9, 10, 14, 15, 16, 17, 18, 19, 20, 21, 22, 23, 24, 25, 26, 27, 28, 29, 30, 31] (by decide +kernel) (by decide +kernel)
set_option maxRecDepth 20000 in
theorem gX12_readsNumber_X12_here : GoodIn wsX12_readsNumber (wsV RX12 122 RX12 yX12_here wsX12_here) := goodIn_app (goodIn_of _ (by decide +kernel)) ggX12_readsNumber_X12_here
set_option maxRecDepth 20000 in
theorem ggX12_readsNumber_X12_isIn : GoodIn wsX12_readsNumber wsX12_isIn := goodIn_r _ [13] (by decide +kernel) (by decide +kernel)
set_option maxRecDepth 20000 in
theorem gX12_readsNumber_X12_isIn : GoodIn wsX12_readsNumber (va_wsS RX12 46 yX12_isIn wsX12_isIn) := goodIn_app (goodIn_of _ (by decide +kernel)) ggX12_readsNumber_X12_isIn
theorem dX12_readsNumber_0 : decode cX12_readsNumber 0 = .ok (.aload_n 0, 1) := by decide +kernel
theorem dX12_readsNumber_1 : decode cX12_readsNumber 1 = .ok (.getfield 22, 3) := by decide +kernel
theorem dX12_readsNumber_4 : decode cX12_readsNumber 4 = .ok (.iload_n 1, 1) := by decide +kernel
theorem dX12_readsNumber_5 : decode cX12_readsNumber 5 = .ok (.iconst 0, 1) := by decide +kernel
theorem dX12_readsNumber_6 : decode cX12_readsNumber 6 = .ok (.iastore, 1) := by decide +kernel
theorem dX12_readsNumber_7 : decode cX12_readsNumber 7 = .ok (.iconst 0, 1) := by decide +kernel
theorem dX12_readsNumber_8 : decode cX12_readsNumber 8 = .ok (.istore_n 3, 1) := by decide +kernel
theorem dX12_readsNumber_9 : decode cX12_readsNumber 9 = .ok (.iload_n 3, 1) := by decide +kernel
theorem dX12_readsNumber_10 : decode cX12_readsNumber 10 = .ok (.iload_n 2, 1) := by decide +kernel
theorem dX12_readsNumber_11 : decode cX12_readsNumber 11 = .ok (.if_icmp .ge 58, 3) := by decide +kernel
theorem dX12_readsNumber_14 : decode cX12_readsNumber 14 = .ok (.aload_n 0, 1) := by decide +kernel
theorem dX12_readsNumber_15 : decode cX12_readsNumber 15 = .ok (.invokevirtual 122, 3) := by decide +kernel
theorem dX12_readsNumber_18 : decode cX12_readsNumber 18 = .ok (.bipush 48, 2) := by decide +kernel
theorem dX12_readsNumber_20 : decode cX12_readsNumber 20 = .ok (.bipush 57, 2) := by decide +kernel
theorem dX12_readsNumber_22 : decode cX12_readsNumber 22 = .ok (.invokestatic 46, 3) := by decide +kernel
theorem dX12_readsNumber_25 : decode cX12_readsNumber 25 = .ok (.ifCond .ne 5, 3) := by decide +kernel
theorem dX12_readsNumber_28 : decode cX12_readsNumber 28 = .ok (.iconst 0, 1) := by decide +kernel
theorem dX12_readsNumber_29 : decode cX12_readsNumber 29 = .ok (.ireturn, 1) := by decide +kernel
theorem dX12_readsNumber_30 : decode cX12_readsNumber 30 = .ok (.aload_n 0, 1) := by decide +kernel
theorem dX12_readsNumber_31 : decode cX12_readsNumber 31 = .ok (.getfield 22, 3) := by decide +kernel
theorem dX12_readsNumber_34 : decode cX12_readsNumber 34 = .ok (.iload_n 1, 1) := by decide +kernel
theorem dX12_readsNumber_35 : decode cX12_readsNumber 35 = .ok (.bipush 10, 2) := by decide +kernel
theorem dX12_readsNumber_37 : decode cX12_readsNumber 37 = .ok (.aload_n 0, 1) := by decide +kernel
theorem dX12_readsNumber_38 : decode cX12_readsNumber 38 = .ok (.getfield 22, 3) := by decide +kernel
theorem dX12_readsNumber_41 : decode cX12_readsNumber 41 = .ok (.iload_n 1, 1) := by decide +kernel
theorem dX12_readsNumber_42 : decode cX12_readsNumber 42 = .ok (.iaload, 1) := by decide +kernel
theorem dX12_readsNumber_43 : decode cX12_readsNumber 43 = .ok (.imul, 1) := by decide +kernel
theorem dX12_readsNumber_44 : decode cX12_readsNumber 44 = .ok (.aload_n 0, 1) := by decide +kernel
theorem dX12_readsNumber_45 : decode cX12_readsNumber 45 = .ok (.invokevirtual 122, 3) := by decide +kernel
theorem dX12_readsNumber_48 : decode cX12_readsNumber 48 = .ok (.iadd, 1) := by decide +kernel
theorem dX12_readsNumber_49 : decode cX12_readsNumber 49 = .ok (.bipush 48, 2) := by decide +kernel
theorem dX12_readsNumber_51 : decode cX12_readsNumber 51 = .ok (.isub, 1) := by decide +kernel
theorem dX12_readsNumber_52 : decode cX12_readsNumber 52 = .ok (.iastore, 1) := by decide +kernel
theorem dX12_readsNumber_53 : decode cX12_readsNumber 53 = .ok (.aload_n 0, 1) := by decide +kernel
theorem dX12_readsNumber_54 : decode cX12_readsNumber 54 = .ok (.dup, 1) := by decide +kernel
theorem dX12_readsNumber_55 : decode cX12_readsNumber 55 = .ok (.getfield 112, 3) := by decide +kernel
theorem dX12_readsNumber_58 : decode cX12_readsNumber 58 = .ok (.iconst 1, 1) := by decide +kernel
theorem dX12_readsNumber_59 : decode cX12_readsNumber 59 = .ok (.iadd, 1) := by decide +kernel
theorem dX12_readsNumber_60 : decode cX12_readsNumber 60 = .ok (.putfield 112, 3) := by decide +kernel
theorem dX12_readsNumber_63 : decode cX12_readsNumber 63 = .ok (.iinc 3 1, 3) := by decide +kernel
theorem dX12_readsNumber_66 : decode cX12_readsNumber 66 = .ok (.goto (-57), 3) := by decide +kernel
theorem dX12_readsNumber_69 : decode cX12_readsNumber 69 = .ok (.iconst 1, 1) := by decide +kernel
theorem dX12_readsNumber_70 : decode cX12_readsNumber 70 = .ok (.ireturn, 1) := by decide +kernel
set_option maxRecDepth 20000 in
theorem ggX12_readsStatement_X12_here : GoodIn wsX12_readsStatement wsX12_here := goodIn_r _ [6, 1, 7, 8, 9, 18, 19, 20, 21, 22, 23, 24, 25, 26, 27, 28, 29, 30, 31, 32, 33, 34, 35] (by decide +kernel) (by decide +kernel)
set_option maxRecDepth 20000 in
theorem gX12_readsStatement_X12_here : GoodIn wsX12_readsStatement (wsV RX12 122 RX12 yX12_here wsX12_here) := goodIn_app (goodIn_of _ (by decide +kernel)) ggX12_readsStatement_X12_here
set_option maxRecDepth 20000 in
theorem ggX12_readsStatement_X12_readsNumber : GoodIn wsX12_readsStatement wsX12_readsNumber := goodIn_r _ [13, 14, 1, 2, 3, 4, 5, 6, 7, 8, 9, 15, 16, 17, 18, 19, 20, 21, 22, 23, 24, 25, 26, 27, 28, 29, 30, 31, 32, 33, 34, 35] (by decide +kernel) (by decide +kernel)
set_option maxRecDepth 20000 in
theorem gX12_readsStatement_X12_readsNumber : GoodIn wsX12_readsStatement (wsV RX12 126 RX12 yX12_readsNumber wsX12_readsNumber) := goodIn_app (goodIn_of _ (by decide +kernel)) ggX12_readsStatement_X12_readsNumber
theorem dX12_readsStatement_0 : decode cX12_readsStatement 0 = .ok (.aload_n 0, 1) := by decide +kernel
theorem dX12_readsStatement_1 : decode cX12_readsStatement 1 = .ok (.invokevirtual 122, 3) := by decide +kernel
theorem dX12_readsStatement_4 : decode cX12_readsStatement 4 = .ok (.istore_n 1, 1) := by decide +kernel
theorem dX12_readsStatement_5 : decode cX12_readsStatement 5 = .ok (.aload_n 0, 1) := by decide +kernel
theorem dX12_readsStatement_6 : decode cX12_readsStatement 6 = .ok (.dup, 1) := by decide +kernel
theorem dX12_readsStatement_7 : decode cX12_readsStatement 7 = .ok (.getfield 112, 3) := by decide +kernel
theorem dX12_readsStatement_10 : decode cX12_readsStatement 10 = .ok (.iconst 1, 1) := by decide +kernel
theorem dX12_readsStatement_11 : decode cX12_readsStatement 11 = .ok (.iadd, 1) := by decide +kernel
theorem dX12_readsStatement_12 : decode cX12_readsStatement 12 = .ok (.putfield 112, 3) := by decide +kernel
theorem dX12_readsStatement_15 : decode cX12_readsStatement 15 = .ok (.iload_n 1, 1) := by decide +kernel
theorem dX12_readsStatement_16 : decode cX12_readsStatement 16 = .ok (.lookupswitch 162 #[(100, 152), (108, 88), (109, 52), (114, 115), (119, 125)], 52) := by decide +kernel
theorem dX12_readsStatement_68 : decode cX12_readsStatement 68 = .ok (.aload_n 0, 1) := by decide +kernel
theorem dX12_readsStatement_69 : decode cX12_readsStatement 69 = .ok (.iconst 0, 1) := by decide +kernel
theorem dX12_readsStatement_70 : decode cX12_readsStatement 70 = .ok (.iconst 1, 1) := by decide +kernel
theorem dX12_readsStatement_71 : decode cX12_readsStatement 71 = .ok (.invokevirtual 126, 3) := by decide +kernel
theorem dX12_readsStatement_74 : decode cX12_readsStatement 74 = .ok (.ifCond .eq 25, 3) := by decide +kernel
theorem dX12_readsStatement_77 : decode cX12_readsStatement 77 = .ok (.aload_n 0, 1) := by decide +kernel
theorem dX12_readsStatement_78 : decode cX12_readsStatement 78 = .ok (.iconst 1, 1) := by decide +kernel
theorem dX12_readsStatement_79 : decode cX12_readsStatement 79 = .ok (.iconst 1, 1) := by decide +kernel
theorem dX12_readsStatement_80 : decode cX12_readsStatement 80 = .ok (.invokevirtual 126, 3) := by decide +kernel
theorem dX12_readsStatement_83 : decode cX12_readsStatement 83 = .ok (.ifCond .eq 16, 3) := by decide +kernel
theorem dX12_readsStatement_86 : decode cX12_readsStatement 86 = .ok (.aload_n 0, 1) := by decide +kernel
theorem dX12_readsStatement_87 : decode cX12_readsStatement 87 = .ok (.iconst 2, 1) := by decide +kernel
theorem dX12_readsStatement_88 : decode cX12_readsStatement 88 = .ok (.iconst 2, 1) := by decide +kernel
theorem dX12_readsStatement_89 : decode cX12_readsStatement 89 = .ok (.invokevirtual 126, 3) := by decide +kernel
theorem dX12_readsStatement_92 : decode cX12_readsStatement 92 = .ok (.ifCond .eq 7, 3) := by decide +kernel
theorem dX12_readsStatement_95 : decode cX12_readsStatement 95 = .ok (.iconst 1, 1) := by decide +kernel
theorem dX12_readsStatement_96 : decode cX12_readsStatement 96 = .ok (.goto 4, 3) := by decide +kernel
theorem dX12_readsStatement_99 : decode cX12_readsStatement 99 = .ok (.iconst 0, 1) := by decide +kernel
theorem dX12_readsStatement_100 : decode cX12_readsStatement 100 = .ok (.istore_n 2, 1) := by decide +kernel
theorem dX12_readsStatement_101 : decode cX12_readsStatement 101 = .ok (.goto 89, 3) := by decide +kernel
theorem dX12_readsStatement_104 : decode cX12_readsStatement 104 = .ok (.aload_n 0, 1) := by decide +kernel
theorem dX12_readsStatement_105 : decode cX12_readsStatement 105 = .ok (.iconst 0, 1) := by decide +kernel
theorem dX12_readsStatement_106 : decode cX12_readsStatement 106 = .ok (.iconst 1, 1) := by decide +kernel
theorem dX12_readsStatement_107 : decode cX12_readsStatement 107 = .ok (.invokevirtual 126, 3) := by decide +kernel
theorem dX12_readsStatement_110 : decode cX12_readsStatement 110 = .ok (.ifCond .eq 16, 3) := by decide +kernel
theorem dX12_readsStatement_113 : decode cX12_readsStatement 113 = .ok (.aload_n 0, 1) := by decide +kernel
theorem dX12_readsStatement_114 : decode cX12_readsStatement 114 = .ok (.iconst 1, 1) := by decide +kernel
theorem dX12_readsStatement_115 : decode cX12_readsStatement 115 = .ok (.iconst 2, 1) := by decide +kernel
theorem dX12_readsStatement_116 : decode cX12_readsStatement 116 = .ok (.invokevirtual 126, 3) := by decide +kernel
theorem dX12_readsStatement_119 : decode cX12_readsStatement 119 = .ok (.ifCond .eq 7, 3) := by decide +kernel
theorem dX12_readsStatement_122 : decode cX12_readsStatement 122 = .ok (.iconst 1, 1) := by decide +kernel
theorem dX12_readsStatement_123 : decode cX12_readsStatement 123 = .ok (.goto 4, 3) := by decide +kernel
theorem dX12_readsStatement_126 : decode cX12_readsStatement 126 = .ok (.iconst 0, 1) := by decide +kernel
theorem dX12_readsStatement_127 : decode cX12_readsStatement 127 = .ok (.istore_n 2, 1) := by decide +kernel
theorem dX12_readsStatement_128 : decode cX12_readsStatement 128 = .ok (.goto 62, 3) := by decide +kernel
theorem dX12_readsStatement_131 : decode cX12_readsStatement 131 = .ok (.aload_n 0, 1) := by decide +kernel
theorem dX12_readsStatement_132 : decode cX12_readsStatement 132 = .ok (.iconst 0, 1) := by decide +kernel
theorem dX12_readsStatement_133 : decode cX12_readsStatement 133 = .ok (.iconst 1, 1) := by decide +kernel
theorem dX12_readsStatement_134 : decode cX12_readsStatement 134 = .ok (.invokevirtual 126, 3) := by decide +kernel
theorem dX12_readsStatement_137 : decode cX12_readsStatement 137 = .ok (.istore_n 2, 1) := by decide +kernel
theorem dX12_readsStatement_138 : decode cX12_readsStatement 138 = .ok (.goto 52, 3) := by decide +kernel
theorem dX12_readsStatement_141 : decode cX12_readsStatement 141 = .ok (.aload_n 0, 1) := by decide +kernel
theorem dX12_readsStatement_142 : decode cX12_readsStatement 142 = .ok (.iconst 0, 1) := by decide +kernel
theorem dX12_readsStatement_143 : decode cX12_readsStatement 143 = .ok (.iconst 1, 1) := by decide +kernel
theorem dX12_readsStatement_144 : decode cX12_readsStatement 144 = .ok (.invokevirtual 126, 3) := by decide +kernel
theorem dX12_readsStatement_147 : decode cX12_readsStatement 147 = .ok (.ifCond .eq 16, 3) := by decide +kernel
theorem dX12_readsStatement_150 : decode cX12_readsStatement 150 = .ok (.aload_n 0, 1) := by decide +kernel
theorem dX12_readsStatement_151 : decode cX12_readsStatement 151 = .ok (.iconst 1, 1) := by decide +kernel
theorem dX12_readsStatement_152 : decode cX12_readsStatement 152 = .ok (.iconst 1, 1) := by decide +kernel
theorem dX12_readsStatement_153 : decode cX12_readsStatement 153 = .ok (.invokevirtual 126, 3) := by decide +kernel
theorem dX12_readsStatement_156 : decode cX12_readsStatement 156 = .ok (.ifCond .eq 7, 3) := by decide +kernel
theorem dX12_readsStatement_159 : decode cX12_readsStatement 159 = .ok (.iconst 1, 1) := by decide +kernel
theorem dX12_readsStatement_160 : decode cX12_readsStatement 160 = .ok (.goto 4, 3) := by decide +kernel
theorem dX12_readsStatement_163 : decode cX12_readsStatement 163 = .ok (.iconst 0, 1) := by decide +kernel
theorem dX12_readsStatement_164 : decode cX12_readsStatement 164 = .ok (.istore_n 2, 1) := by decide +kernel
theorem dX12_readsStatement_165 : decode cX12_readsStatement 165 = .ok (.goto 25, 3) := by decide +kernel
theorem dX12_readsStatement_168 : decode cX12_readsStatement 168 = .ok (.aload_n 0, 1) := by decide +kernel
theorem dX12_readsStatement_169 : decode cX12_readsStatement 169 = .ok (.iconst 0, 1) := by decide +kernel
theorem dX12_readsStatement_170 : decode cX12_readsStatement 170 = .ok (.iconst 2, 1) := by decide +kernel
theorem dX12_readsStatement_171 : decode cX12_readsStatement 171 = .ok (.invokevirtual 126, 3) := by decide +kernel
theorem dX12_readsStatement_174 : decode cX12_readsStatement 174 = .ok (.istore_n 2, 1) := by decide +kernel
theorem dX12_readsStatement_175 : decode cX12_readsStatement 175 = .ok (.goto 15, 3) := by decide +kernel
theorem dX12_readsStatement_178 : decode cX12_readsStatement 178 = .ok (.aload_n 0, 1) := by decide +kernel
theorem dX12_readsStatement_179 : decode cX12_readsStatement 179 = .ok (.dup, 1) := by decide +kernel
theorem dX12_readsStatement_180 : decode cX12_readsStatement 180 = .ok (.getfield 112, 3) := by decide +kernel
theorem dX12_readsStatement_183 : decode cX12_readsStatement 183 = .ok (.iconst 1, 1) := by decide +kernel
theorem dX12_readsStatement_184 : decode cX12_readsStatement 184 = .ok (.isub, 1) := by decide +kernel
theorem dX12_readsStatement_185 : decode cX12_readsStatement 185 = .ok (.putfield 112, 3) := by decide +kernel
theorem dX12_readsStatement_188 : decode cX12_readsStatement 188 = .ok (.iconst 0, 1) := by decide +kernel
theorem dX12_readsStatement_189 : decode cX12_readsStatement 189 = .ok (.ireturn, 1) := by decide +kernel
theorem dX12_readsStatement_190 : decode cX12_readsStatement 190 = .ok (.iload_n 2, 1) := by decide +kernel
theorem dX12_readsStatement_191 : decode cX12_readsStatement 191 = .ok (.ifCond .eq 12, 3) := by decide +kernel
theorem dX12_readsStatement_194 : decode cX12_readsStatement 194 = .ok (.aload_n 0, 1) := by decide +kernel
theorem dX12_readsStatement_195 : decode cX12_readsStatement 195 = .ok (.invokevirtual 122, 3) := by decide +kernel
theorem dX12_readsStatement_198 : decode cX12_readsStatement 198 = .ok (.bipush 59, 2) := by decide +kernel
theorem dX12_readsStatement_200 : decode cX12_readsStatement 200 = .ok (.if_icmp .eq 5, 3) := by decide +kernel
theorem dX12_readsStatement_203 : decode cX12_readsStatement 203 = .ok (.iconst 0, 1) := by decide +kernel
theorem dX12_readsStatement_204 : decode cX12_readsStatement 204 = .ok (.ireturn, 1) := by decide +kernel
theorem dX12_readsStatement_205 : decode cX12_readsStatement 205 = .ok (.aload_n 0, 1) := by decide +kernel
theorem dX12_readsStatement_206 : decode cX12_readsStatement 206 = .ok (.dup, 1) := by decide +kernel
theorem dX12_readsStatement_207 : decode cX12_readsStatement 207 = .ok (.getfield 112, 3) := by decide +kernel
theorem dX12_readsStatement_210 : decode cX12_readsStatement 210 = .ok (.iconst 1, 1) := by decide +kernel
theorem dX12_readsStatement_211 : decode cX12_readsStatement 211 = .ok (.iadd, 1) := by decide +kernel
theorem dX12_readsStatement_212 : decode cX12_readsStatement 212 = .ok (.putfield 112, 3) := by decide +kernel
theorem dX12_readsStatement_215 : decode cX12_readsStatement 215 = .ok (.iconst 1, 1) := by decide +kernel
theorem dX12_readsStatement_216 : decode cX12_readsStatement 216 = .ok (.ireturn, 1) := by decide +kernel
set_option maxRecDepth 20000 in
theorem ggX12_adds_X12_of : GoodIn wsX12_adds wsX12_of := goodIn_r _ [5] (by decide +kernel) (by decide +kernel)
set_option maxRecDepth 20000 in
theorem gX12_adds_X12_of : GoodIn wsX12_adds (va_wsS RX12 72 yX12_of wsX12_of) := goodIn_app (goodIn_of _ (by decide +kernel)) ggX12_adds_X12_of
theorem dX12_adds_0 : decode cX12_adds 0 = .ok (.aload_n 0, 1) := by decide +kernel
theorem dX12_adds_1 : decode cX12_adds 1 = .ok (.getfield 9, 3) := by decide +kernel
theorem dX12_adds_4 : decode cX12_adds 4 = .ok (.iconst 0, 1) := by decide +kernel
theorem dX12_adds_5 : decode cX12_adds 5 = .ok (.iaload, 1) := by decide +kernel
theorem dX12_adds_6 : decode cX12_adds 6 = .ok (.istore 4, 2) := by decide +kernel
theorem dX12_adds_8 : decode cX12_adds 8 = .ok (.aload_n 0, 1) := by decide +kernel
theorem dX12_adds_9 : decode cX12_adds 9 = .ok (.getfield 9, 3) := by decide +kernel
theorem dX12_adds_12 : decode cX12_adds 12 = .ok (.iload 4, 2) := by decide +kernel
theorem dX12_adds_14 : decode cX12_adds 14 = .ok (.iconst 0, 1) := by decide +kernel
theorem dX12_adds_15 : decode cX12_adds 15 = .ok (.invokestatic 72, 3) := by decide +kernel
theorem dX12_adds_18 : decode cX12_adds 18 = .ok (.iload_n 1, 1) := by decide +kernel
theorem dX12_adds_19 : decode cX12_adds 19 = .ok (.iastore, 1) := by decide +kernel
theorem dX12_adds_20 : decode cX12_adds 20 = .ok (.aload_n 0, 1) := by decide +kernel
theorem dX12_adds_21 : decode cX12_adds 21 = .ok (.getfield 9, 3) := by decide +kernel
theorem dX12_adds_24 : decode cX12_adds 24 = .ok (.iload 4, 2) := by decide +kernel
theorem dX12_adds_26 : decode cX12_adds 26 = .ok (.iconst 1, 1) := by decide +kernel
theorem dX12_adds_27 : decode cX12_adds 27 = .ok (.invokestatic 72, 3) := by decide +kernel
theorem dX12_adds_30 : decode cX12_adds 30 = .ok (.iload_n 2, 1) := by decide +kernel
theorem dX12_adds_31 : decode cX12_adds 31 = .ok (.iastore, 1) := by decide +kernel
theorem dX12_adds_32 : decode cX12_adds 32 = .ok (.aload_n 0, 1) := by decide +kernel
theorem dX12_adds_33 : decode cX12_adds 33 = .ok (.getfield 9, 3) := by decide +kernel
theorem dX12_adds_36 : decode cX12_adds 36 = .ok (.iload 4, 2) := by decide +kernel
theorem dX12_adds_38 : decode cX12_adds 38 = .ok (.iconst 2, 1) := by decide +kernel
theorem dX12_adds_39 : decode cX12_adds 39 = .ok (.invokestatic 72, 3) := by decide +kernel
theorem dX12_adds_42 : decode cX12_adds 42 = .ok (.iload_n 3, 1) := by decide +kernel
theorem dX12_adds_43 : decode cX12_adds 43 = .ok (.iastore, 1) := by decide +kernel
theorem dX12_adds_44 : decode cX12_adds 44 = .ok (.aload_n 0, 1) := by decide +kernel
theorem dX12_adds_45 : decode cX12_adds 45 = .ok (.getfield 9, 3) := by decide +kernel
theorem dX12_adds_48 : decode cX12_adds 48 = .ok (.iload 4, 2) := by decide +kernel
theorem dX12_adds_50 : decode cX12_adds 50 = .ok (.iconst 3, 1) := by decide +kernel
theorem dX12_adds_51 : decode cX12_adds 51 = .ok (.invokestatic 72, 3) := by decide +kernel
theorem dX12_adds_54 : decode cX12_adds 54 = .ok (.iconst 0, 1) := by decide +kernel
theorem dX12_adds_55 : decode cX12_adds 55 = .ok (.iastore, 1) := by decide +kernel
theorem dX12_adds_56 : decode cX12_adds 56 = .ok (.aload_n 0, 1) := by decide +kernel
theorem dX12_adds_57 : decode cX12_adds 57 = .ok (.getfield 9, 3) := by decide +kernel
theorem dX12_adds_60 : decode cX12_adds 60 = .ok (.iconst 0, 1) := by decide +kernel
theorem dX12_adds_61 : decode cX12_adds 61 = .ok (.dup2, 1) := by decide +kernel
theorem dX12_adds_62 : decode cX12_adds 62 = .ok (.iaload, 1) := by decide +kernel
theorem dX12_adds_63 : decode cX12_adds 63 = .ok (.iconst 1, 1) := by decide +kernel
theorem dX12_adds_64 : decode cX12_adds 64 = .ok (.iadd, 1) := by decide +kernel
theorem dX12_adds_65 : decode cX12_adds 65 = .ok (.iastore, 1) := by decide +kernel
theorem dX12_adds_66 : decode cX12_adds 66 = .ok (.return_, 1) := by decide +kernel
set_option maxRecDepth 20000 in
theorem ggX12_isDone_X12_adds : GoodIn wsX12_isDone wsX12_adds := goodIn_r _ [7, 2, 8, 9, 6, 10, 69, 70, 71, 72, 73, 74, 75, 76, 77, 78, 79, 80, 81, 82, 83, 84, 85, 86] (by decide +kernel) (by decide +kernel)
set_option maxRecDepth 20000 in
theorem gX12_isDone_X12_adds : GoodIn wsX12_isDone (wsV RX12 130 RX12 yX12_adds wsX12_adds) := goodIn_app (goodIn_of _ (by decide +kernel)) ggX12_isDone_X12_adds
set_option maxRecDepth 20000 in
theorem ggX12_isDone_X12_isMan : GoodIn wsX12_isDone wsX12_isMan := goodIn_r _ [14, 2, 15, 16, 6, 17, 69, 70, 71, 72, 73, 74, 75, 76, 77, 78, 79, 80, 81, 82, 83, 84, 85, 86] (by decide +kernel) (by decide +kernel)
set_option maxRecDepth 20000 in
theorem gX12_isDone_X12_isMan : GoodIn wsX12_isDone (wsV RX12 50 RX12 yX12_isMan wsX12_isMan) := goodIn_app (goodIn_of _ (by decide +kernel)) ggX12_isDone_X12_isMan
set_option maxRecDepth 20000 in
theorem ggX12_isDone_X12_of : GoodIn wsX12_isDone wsX12_of := goodIn_r _ [10] (by decide +kernel) (by decide +kernel)
set_option maxRecDepth 20000 in
theorem gX12_isDone_X12_of : GoodIn wsX12_isDone (va_wsS RX12 72 yX12_of wsX12_of) := goodIn_app (goodIn_of _ (by decide +kernel)) ggX12_isDone_X12_of
set_option maxRecDepth 20000 in
theorem ggX12_isDone_X12_isIn : GoodIn wsX12_isDone wsX12_isIn := goodIn_r _ [17] (by decide +kernel) (by decide +kernel)
set_option maxRecDepth 20000 in
theorem gX12_isDone_X12_isIn : GoodIn wsX12_isDone (va_wsS RX12 46 yX12_isIn wsX12_isIn) := goodIn_app (goodIn_of _ (by decide +kernel)) ggX12_isDone_X12_isIn
set_option maxRecDepth 20000 in
theorem ggX12_isDone_X12_daysOn : GoodIn wsX12_isDone wsX12_daysOn := goodIn_r _ [20, 21, 22, 6, 23, 24, 25, 26, 8, 9, 10, 27, 28, 29, 30, 31, 32, 33, 34, 35, 36, 37, 38, 39, 40, 41, 42, 43, 44, 45, 46, 47, 48, 49, 50, 51, 52, 53, 54, 55, 56, 57, 58, 59, 60, 61, 62, 63, 64, 65, 66, 67, 68] (by decide +kernel) (by decide +kernel)
set_option maxRecDepth 20000 in
theorem gX12_isDone_X12_daysOn : GoodIn wsX12_isDone (va_wsS RX12 134 yX12_daysOn wsX12_daysOn) := goodIn_app (goodIn_of _ (by decide +kernel)) ggX12_isDone_X12_daysOn
theorem dX12_isDone_0 : decode cX12_isDone 0 = .ok (.aload_n 0, 1) := by decide +kernel
theorem dX12_isDone_1 : decode cX12_isDone 1 = .ok (.getfield 22, 3) := by decide +kernel
theorem dX12_isDone_4 : decode cX12_isDone 4 = .ok (.iconst 0, 1) := by decide +kernel
theorem dX12_isDone_5 : decode cX12_isDone 5 = .ok (.iaload, 1) := by decide +kernel
theorem dX12_isDone_6 : decode cX12_isDone 6 = .ok (.istore_n 2, 1) := by decide +kernel
theorem dX12_isDone_7 : decode cX12_isDone 7 = .ok (.aload_n 0, 1) := by decide +kernel
theorem dX12_isDone_8 : decode cX12_isDone 8 = .ok (.getfield 22, 3) := by decide +kernel
theorem dX12_isDone_11 : decode cX12_isDone 11 = .ok (.iconst 1, 1) := by decide +kernel
theorem dX12_isDone_12 : decode cX12_isDone 12 = .ok (.iaload, 1) := by decide +kernel
theorem dX12_isDone_13 : decode cX12_isDone 13 = .ok (.istore_n 3, 1) := by decide +kernel
theorem dX12_isDone_14 : decode cX12_isDone 14 = .ok (.iload_n 1, 1) := by decide +kernel
theorem dX12_isDone_15 : decode cX12_isDone 15 = .ok (.lookupswitch 170 #[(108, 88), (109, 41), (114, 120), (119, 146)], 41) := by decide +kernel
theorem dX12_isDone_56 : decode cX12_isDone 56 = .ok (.iload_n 2, 1) := by decide +kernel
theorem dX12_isDone_57 : decode cX12_isDone 57 = .ok (.bipush 8, 2) := by decide +kernel
theorem dX12_isDone_59 : decode cX12_isDone 59 = .ok (.if_icmp .ge 25, 3) := by decide +kernel
theorem dX12_isDone_62 : decode cX12_isDone 62 = .ok (.aload_n 0, 1) := by decide +kernel
theorem dX12_isDone_63 : decode cX12_isDone 63 = .ok (.getfield 22, 3) := by decide +kernel
theorem dX12_isDone_66 : decode cX12_isDone 66 = .ok (.iconst 2, 1) := by decide +kernel
theorem dX12_isDone_67 : decode cX12_isDone 67 = .ok (.iaload, 1) := by decide +kernel
theorem dX12_isDone_68 : decode cX12_isDone 68 = .ok (.bipush 90, 2) := by decide +kernel
theorem dX12_isDone_70 : decode cX12_isDone 70 = .ok (.if_icmp .gt 14, 3) := by decide +kernel
theorem dX12_isDone_73 : decode cX12_isDone 73 = .ok (.aload_n 0, 1) := by decide +kernel
theorem dX12_isDone_74 : decode cX12_isDone 74 = .ok (.getfield 9, 3) := by decide +kernel
theorem dX12_isDone_77 : decode cX12_isDone 77 = .ok (.iconst 0, 1) := by decide +kernel
theorem dX12_isDone_78 : decode cX12_isDone 78 = .ok (.iaload, 1) := by decide +kernel
theorem dX12_isDone_79 : decode cX12_isDone 79 = .ok (.bipush 8, 2) := by decide +kernel
theorem dX12_isDone_81 : decode cX12_isDone 81 = .ok (.if_icmp .ne 5, 3) := by decide +kernel
theorem dX12_isDone_84 : decode cX12_isDone 84 = .ok (.iconst 0, 1) := by decide +kernel
theorem dX12_isDone_85 : decode cX12_isDone 85 = .ok (.ireturn, 1) := by decide +kernel
theorem dX12_isDone_86 : decode cX12_isDone 86 = .ok (.aload_n 0, 1) := by decide +kernel
theorem dX12_isDone_87 : decode cX12_isDone 87 = .ok (.iload_n 2, 1) := by decide +kernel
theorem dX12_isDone_88 : decode cX12_isDone 88 = .ok (.iload_n 3, 1) := by decide +kernel
theorem dX12_isDone_89 : decode cX12_isDone 89 = .ok (.aload_n 0, 1) := by decide +kernel
theorem dX12_isDone_90 : decode cX12_isDone 90 = .ok (.getfield 22, 3) := by decide +kernel
theorem dX12_isDone_93 : decode cX12_isDone 93 = .ok (.iconst 2, 1) := by decide +kernel
theorem dX12_isDone_94 : decode cX12_isDone 94 = .ok (.iaload, 1) := by decide +kernel
theorem dX12_isDone_95 : decode cX12_isDone 95 = .ok (.bipush 45, 2) := by decide +kernel
theorem dX12_isDone_97 : decode cX12_isDone 97 = .ok (.isub, 1) := by decide +kernel
theorem dX12_isDone_98 : decode cX12_isDone 98 = .ok (.invokevirtual 130, 3) := by decide +kernel
theorem dX12_isDone_101 : decode cX12_isDone 101 = .ok (.iconst 1, 1) := by decide +kernel
theorem dX12_isDone_102 : decode cX12_isDone 102 = .ok (.ireturn, 1) := by decide +kernel
theorem dX12_isDone_103 : decode cX12_isDone 103 = .ok (.aload_n 0, 1) := by decide +kernel
theorem dX12_isDone_104 : decode cX12_isDone 104 = .ok (.iload_n 2, 1) := by decide +kernel
theorem dX12_isDone_105 : decode cX12_isDone 105 = .ok (.invokevirtual 50, 3) := by decide +kernel
theorem dX12_isDone_108 : decode cX12_isDone 108 = .ok (.ifCond .eq 9, 3) := by decide +kernel
theorem dX12_isDone_111 : decode cX12_isDone 111 = .ok (.iload_n 3, 1) := by decide +kernel
theorem dX12_isDone_112 : decode cX12_isDone 112 = .ok (.bipush 90, 2) := by decide +kernel
theorem dX12_isDone_114 : decode cX12_isDone 114 = .ok (.if_icmp .le 5, 3) := by decide +kernel
theorem dX12_isDone_117 : decode cX12_isDone 117 = .ok (.iconst 0, 1) := by decide +kernel
theorem dX12_isDone_118 : decode cX12_isDone 118 = .ok (.ireturn, 1) := by decide +kernel
theorem dX12_isDone_119 : decode cX12_isDone 119 = .ok (.aload_n 0, 1) := by decide +kernel
theorem dX12_isDone_120 : decode cX12_isDone 120 = .ok (.getfield 9, 3) := by decide +kernel
theorem dX12_isDone_123 : decode cX12_isDone 123 = .ok (.iload_n 2, 1) := by decide +kernel
theorem dX12_isDone_124 : decode cX12_isDone 124 = .ok (.iconst 2, 1) := by decide +kernel
theorem dX12_isDone_125 : decode cX12_isDone 125 = .ok (.invokestatic 72, 3) := by decide +kernel
theorem dX12_isDone_128 : decode cX12_isDone 128 = .ok (.iload_n 3, 1) := by decide +kernel
theorem dX12_isDone_129 : decode cX12_isDone 129 = .ok (.bipush 45, 2) := by decide +kernel
theorem dX12_isDone_131 : decode cX12_isDone 131 = .ok (.isub, 1) := by decide +kernel
theorem dX12_isDone_132 : decode cX12_isDone 132 = .ok (.iastore, 1) := by decide +kernel
theorem dX12_isDone_133 : decode cX12_isDone 133 = .ok (.iconst 1, 1) := by decide +kernel
theorem dX12_isDone_134 : decode cX12_isDone 134 = .ok (.ireturn, 1) := by decide +kernel
theorem dX12_isDone_135 : decode cX12_isDone 135 = .ok (.aload_n 0, 1) := by decide +kernel
theorem dX12_isDone_136 : decode cX12_isDone 136 = .ok (.iload_n 2, 1) := by decide +kernel
theorem dX12_isDone_137 : decode cX12_isDone 137 = .ok (.invokevirtual 50, 3) := by decide +kernel
theorem dX12_isDone_140 : decode cX12_isDone 140 = .ok (.ifCond .ne 5, 3) := by decide +kernel
theorem dX12_isDone_143 : decode cX12_isDone 143 = .ok (.iconst 0, 1) := by decide +kernel
theorem dX12_isDone_144 : decode cX12_isDone 144 = .ok (.ireturn, 1) := by decide +kernel
theorem dX12_isDone_145 : decode cX12_isDone 145 = .ok (.aload_n 0, 1) := by decide +kernel
theorem dX12_isDone_146 : decode cX12_isDone 146 = .ok (.getfield 9, 3) := by decide +kernel
theorem dX12_isDone_149 : decode cX12_isDone 149 = .ok (.iload_n 2, 1) := by decide +kernel
theorem dX12_isDone_150 : decode cX12_isDone 150 = .ok (.iconst 3, 1) := by decide +kernel
theorem dX12_isDone_151 : decode cX12_isDone 151 = .ok (.invokestatic 72, 3) := by decide +kernel
theorem dX12_isDone_154 : decode cX12_isDone 154 = .ok (.dup2, 1) := by decide +kernel
theorem dX12_isDone_155 : decode cX12_isDone 155 = .ok (.iaload, 1) := by decide +kernel
theorem dX12_isDone_156 : decode cX12_isDone 156 = .ok (.iconst 1, 1) := by decide +kernel
theorem dX12_isDone_157 : decode cX12_isDone 157 = .ok (.ixor, 1) := by decide +kernel
theorem dX12_isDone_158 : decode cX12_isDone 158 = .ok (.iastore, 1) := by decide +kernel
theorem dX12_isDone_159 : decode cX12_isDone 159 = .ok (.iconst 1, 1) := by decide +kernel
theorem dX12_isDone_160 : decode cX12_isDone 160 = .ok (.ireturn, 1) := by decide +kernel
theorem dX12_isDone_161 : decode cX12_isDone 161 = .ok (.iload_n 3, 1) := by decide +kernel
theorem dX12_isDone_162 : decode cX12_isDone 162 = .ok (.bipush 8, 2) := by decide +kernel
theorem dX12_isDone_164 : decode cX12_isDone 164 = .ok (.if_icmp .lt 5, 3) := by decide +kernel
theorem dX12_isDone_167 : decode cX12_isDone 167 = .ok (.iconst 0, 1) := by decide +kernel
theorem dX12_isDone_168 : decode cX12_isDone 168 = .ok (.ireturn, 1) := by decide +kernel
theorem dX12_isDone_169 : decode cX12_isDone 169 = .ok (.aload_n 0, 1) := by decide +kernel
theorem dX12_isDone_170 : decode cX12_isDone 170 = .ok (.getfield 9, 3) := by decide +kernel
theorem dX12_isDone_173 : decode cX12_isDone 173 = .ok (.iconst 3, 1) := by decide +kernel
theorem dX12_isDone_174 : decode cX12_isDone 174 = .ok (.iload_n 2, 1) := by decide +kernel
theorem dX12_isDone_175 : decode cX12_isDone 175 = .ok (.iastore, 1) := by decide +kernel
theorem dX12_isDone_176 : decode cX12_isDone 176 = .ok (.aload_n 0, 1) := by decide +kernel
theorem dX12_isDone_177 : decode cX12_isDone 177 = .ok (.getfield 9, 3) := by decide +kernel
theorem dX12_isDone_180 : decode cX12_isDone 180 = .ok (.iconst 2, 1) := by decide +kernel
theorem dX12_isDone_181 : decode cX12_isDone 181 = .ok (.iload_n 3, 1) := by decide +kernel
theorem dX12_isDone_182 : decode cX12_isDone 182 = .ok (.iastore, 1) := by decide +kernel
theorem dX12_isDone_183 : decode cX12_isDone 183 = .ok (.iconst 1, 1) := by decide +kernel
theorem dX12_isDone_184 : decode cX12_isDone 184 = .ok (.ireturn, 1) := by decide +kernel
theorem dX12_isDone_185 : decode cX12_isDone 185 = .ok (.iload_n 2, 1) := by decide +kernel
theorem dX12_isDone_186 : decode cX12_isDone 186 = .ok (.iconst 1, 1) := by decide +kernel
theorem dX12_isDone_187 : decode cX12_isDone 187 = .ok (.bipush 60, 2) := by decide +kernel
theorem dX12_isDone_189 : decode cX12_isDone 189 = .ok (.invokestatic 46, 3) := by decide +kernel
theorem dX12_isDone_192 : decode cX12_isDone 192 = .ok (.ifCond .eq 17, 3) := by decide +kernel
theorem dX12_isDone_195 : decode cX12_isDone 195 = .ok (.aload_n 0, 1) := by decide +kernel
theorem dX12_isDone_196 : decode cX12_isDone 196 = .ok (.getfield 9, 3) := by decide +kernel
theorem dX12_isDone_199 : decode cX12_isDone 199 = .ok (.iconst 1, 1) := by decide +kernel
theorem dX12_isDone_200 : decode cX12_isDone 200 = .ok (.iaload, 1) := by decide +kernel
theorem dX12_isDone_201 : decode cX12_isDone 201 = .ok (.iload_n 2, 1) := by decide +kernel
theorem dX12_isDone_202 : decode cX12_isDone 202 = .ok (.iadd, 1) := by decide +kernel
theorem dX12_isDone_203 : decode cX12_isDone 203 = .ok (.sipush 999, 3) := by decide +kernel
theorem dX12_isDone_206 : decode cX12_isDone 206 = .ok (.if_icmp .le 5, 3) := by decide +kernel
theorem dX12_isDone_209 : decode cX12_isDone 209 = .ok (.iconst 0, 1) := by decide +kernel
theorem dX12_isDone_210 : decode cX12_isDone 210 = .ok (.ireturn, 1) := by decide +kernel
theorem dX12_isDone_211 : decode cX12_isDone 211 = .ok (.aload_n 0, 1) := by decide +kernel
theorem dX12_isDone_212 : decode cX12_isDone 212 = .ok (.getfield 9, 3) := by decide +kernel
theorem dX12_isDone_215 : decode cX12_isDone 215 = .ok (.iload_n 2, 1) := by decide +kernel
theorem dX12_isDone_216 : decode cX12_isDone 216 = .ok (.invokestatic 134, 3) := by decide +kernel
theorem dX12_isDone_219 : decode cX12_isDone 219 = .ok (.iconst 1, 1) := by decide +kernel
theorem dX12_isDone_220 : decode cX12_isDone 220 = .ok (.ireturn, 1) := by decide +kernel
set_option maxRecDepth 20000 in
theorem ggX12_city_X12_wrongRow : GoodIn wsX12_city wsX12_wrongRow := goodIn_r _ [11, 12, 13, 14, 15, 10, 16, 17, 18, 19, 103, 104, 105, 106, 107, 108, 109, 110, 111, 112, 113, 114, 115, 116, 117, 118, 119, 120] (by decide +kernel) (by decide +kernel)
set_option maxRecDepth 20000 in
theorem gX12_city_X12_wrongRow : GoodIn wsX12_city (wsV RX12 138 RX12 yX12_wrongRow wsX12_wrongRow) := goodIn_app (goodIn_of _ (by decide +kernel)) ggX12_city_X12_wrongRow
set_option maxRecDepth 20000 in
theorem ggX12_city_X12_readsStatement : GoodIn wsX12_city wsX12_readsStatement := goodIn_r _ [23, 4, 24, 25, 26, 10, 27, 3, 28, 1, 29, 30, 31, 32, 33, 17, 18, 19, 103, 104, 105, 106, 107, 108, 109, 110, 111, 112, 113, 114, 115, 116, 117, 118, 119, 120] (by decide +kernel) (by decide +kernel)
set_option maxRecDepth 20000 in
theorem gX12_city_X12_readsStatement : GoodIn wsX12_city (wsV RX12 141 RX12 yX12_readsStatement wsX12_readsStatement) := goodIn_app (goodIn_of _ (by decide +kernel)) ggX12_city_X12_readsStatement
set_option maxRecDepth 20000 in
theorem ggX12_city_X12_copies : GoodIn wsX12_city wsX12_copies := goodIn_r _ [36] (by decide +kernel) (by decide +kernel)
set_option maxRecDepth 20000 in
theorem gX12_city_X12_copies : GoodIn wsX12_city (va_wsS RX12 145 yX12_copies wsX12_copies) := goodIn_app (goodIn_of _ (by decide +kernel)) ggX12_city_X12_copies
set_option maxRecDepth 20000 in
theorem ggX12_city_X12_here : GoodIn wsX12_city wsX12_here := goodIn_r _ [27, 4, 3, 28, 1, 103, 104, 105, 106, 107, 108, 109, 110, 111, 112, 113, 114, 115, 116, 117, 118, 119, 120] (by decide +kernel) (by decide +kernel)
set_option maxRecDepth 20000 in
theorem gX12_city_X12_here : GoodIn wsX12_city (wsV RX12 122 RX12 yX12_here wsX12_here) := goodIn_app (goodIn_of _ (by decide +kernel)) ggX12_city_X12_here
set_option maxRecDepth 20000 in
theorem ggX12_city_X12_isDone : GoodIn wsX12_city wsX12_isDone := goodIn_r _ [40, 33, 5, 41, 42, 43, 10, 44, 45, 46, 47, 48, 49, 50, 51, 17, 18, 19, 52, 53, 54, 55, 56, 57, 58, 59, 60, 61, 62, 63, 64, 65, 66, 67, 68, 69, 70, 71, 72, 73, 74, 75, 76, 77, 78, 79, 80, 81, 82, 83, 84, 85, 86, 87, 88, 89, 90, 91, 92, 93, 94, 95, 96, 97, 98, 99, 100, 101, 102, 103, 104, 105, 106, 107, 108, 109, 110, 111, 112, 113, 114, 115, 116, 117, 118, 119, 120] (by decide +kernel) (by decide +kernel)
set_option maxRecDepth 20000 in
theorem gX12_city_X12_isDone : GoodIn wsX12_city (wsV RX12 149 RX12 yX12_isDone wsX12_isDone) := goodIn_app (goodIn_of _ (by decide +kernel)) ggX12_city_X12_isDone
theorem dX12_city_0 : decode cX12_city 0 = .ok (.aload_n 0, 1) := by decide +kernel
theorem dX12_city_1 : decode cX12_city 1 = .ok (.iload_n 1, 1) := by decide +kernel
theorem dX12_city_2 : decode cX12_city 2 = .ok (.iconst 0, 1) := by decide +kernel
theorem dX12_city_3 : decode cX12_city 3 = .ok (.invokevirtual 138, 3) := by decide +kernel
theorem dX12_city_6 : decode cX12_city 6 = .ok (.istore_n 2, 1) := by decide +kernel
theorem dX12_city_7 : decode cX12_city 7 = .ok (.iload_n 2, 1) := by decide +kernel
theorem dX12_city_8 : decode cX12_city 8 = .ok (.ifCond .eq 5, 3) := by decide +kernel
theorem dX12_city_11 : decode cX12_city 11 = .ok (.iload_n 2, 1) := by decide +kernel
theorem dX12_city_12 : decode cX12_city 12 = .ok (.ireturn, 1) := by decide +kernel
theorem dX12_city_13 : decode cX12_city 13 = .ok (.aload_n 0, 1) := by decide +kernel
theorem dX12_city_14 : decode cX12_city 14 = .ok (.bipush 100, 2) := by decide +kernel
theorem dX12_city_16 : decode cX12_city 16 = .ok (.iload_n 1, 1) := by decide +kernel
theorem dX12_city_17 : decode cX12_city 17 = .ok (.imul, 1) := by decide +kernel
theorem dX12_city_18 : decode cX12_city 18 = .ok (.putfield 119, 3) := by decide +kernel
theorem dX12_city_21 : decode cX12_city 21 = .ok (.aload_n 0, 1) := by decide +kernel
theorem dX12_city_22 : decode cX12_city 22 = .ok (.aload_n 0, 1) := by decide +kernel
theorem dX12_city_23 : decode cX12_city 23 = .ok (.getfield 40, 3) := by decide +kernel
theorem dX12_city_26 : decode cX12_city 26 = .ok (.iload_n 1, 1) := by decide +kernel
theorem dX12_city_27 : decode cX12_city 27 = .ok (.iaload, 1) := by decide +kernel
theorem dX12_city_28 : decode cX12_city 28 = .ok (.putfield 116, 3) := by decide +kernel
theorem dX12_city_31 : decode cX12_city 31 = .ok (.aload_n 0, 1) := by decide +kernel
theorem dX12_city_32 : decode cX12_city 32 = .ok (.iconst 0, 1) := by decide +kernel
theorem dX12_city_33 : decode cX12_city 33 = .ok (.putfield 112, 3) := by decide +kernel
theorem dX12_city_36 : decode cX12_city 36 = .ok (.iconst 0, 1) := by decide +kernel
theorem dX12_city_37 : decode cX12_city 37 = .ok (.istore_n 3, 1) := by decide +kernel
theorem dX12_city_38 : decode cX12_city 38 = .ok (.iconst 0, 1) := by decide +kernel
theorem dX12_city_39 : decode cX12_city 39 = .ok (.istore 4, 2) := by decide +kernel
theorem dX12_city_41 : decode cX12_city 41 = .ok (.aload_n 0, 1) := by decide +kernel
theorem dX12_city_42 : decode cX12_city 42 = .ok (.invokevirtual 141, 3) := by decide +kernel
theorem dX12_city_45 : decode cX12_city 45 = .ok (.ifCond .ne 13, 3) := by decide +kernel
theorem dX12_city_48 : decode cX12_city 48 = .ok (.sipush (-1000), 3) := by decide +kernel
theorem dX12_city_51 : decode cX12_city 51 = .ok (.aload_n 0, 1) := by decide +kernel
theorem dX12_city_52 : decode cX12_city 52 = .ok (.getfield 112, 3) := by decide +kernel
theorem dX12_city_55 : decode cX12_city 55 = .ok (.isub, 1) := by decide +kernel
theorem dX12_city_56 : decode cX12_city 56 = .ok (.istore 4, 2) := by decide +kernel
theorem dX12_city_58 : decode cX12_city 58 = .ok (.iinc 3 1, 3) := by decide +kernel
theorem dX12_city_61 : decode cX12_city 61 = .ok (.iload 4, 2) := by decide +kernel
theorem dX12_city_63 : decode cX12_city 63 = .ok (.ifCond .ne 14, 3) := by decide +kernel
theorem dX12_city_66 : decode cX12_city 66 = .ok (.aload_n 0, 1) := by decide +kernel
theorem dX12_city_67 : decode cX12_city 67 = .ok (.getfield 112, 3) := by decide +kernel
theorem dX12_city_70 : decode cX12_city 70 = .ok (.aload_n 0, 1) := by decide +kernel
theorem dX12_city_71 : decode cX12_city 71 = .ok (.getfield 116, 3) := by decide +kernel
theorem dX12_city_74 : decode cX12_city 74 = .ok (.if_icmp .lt (-33), 3) := by decide +kernel
theorem dX12_city_77 : decode cX12_city 77 = .ok (.aload_n 0, 1) := by decide +kernel
theorem dX12_city_78 : decode cX12_city 78 = .ok (.getfield 9, 3) := by decide +kernel
theorem dX12_city_81 : decode cX12_city 81 = .ok (.aload_n 0, 1) := by decide +kernel
theorem dX12_city_82 : decode cX12_city 82 = .ok (.getfield 19, 3) := by decide +kernel
theorem dX12_city_85 : decode cX12_city 85 = .ok (.invokestatic 145, 3) := by decide +kernel
theorem dX12_city_88 : decode cX12_city 88 = .ok (.aload_n 0, 1) := by decide +kernel
theorem dX12_city_89 : decode cX12_city 89 = .ok (.iconst 0, 1) := by decide +kernel
theorem dX12_city_90 : decode cX12_city 90 = .ok (.putfield 112, 3) := by decide +kernel
theorem dX12_city_93 : decode cX12_city 93 = .ok (.iload 4, 2) := by decide +kernel
theorem dX12_city_95 : decode cX12_city 95 = .ok (.ifCond .ne 66, 3) := by decide +kernel
theorem dX12_city_98 : decode cX12_city 98 = .ok (.aload_n 0, 1) := by decide +kernel
theorem dX12_city_99 : decode cX12_city 99 = .ok (.getfield 112, 3) := by decide +kernel
theorem dX12_city_102 : decode cX12_city 102 = .ok (.aload_n 0, 1) := by decide +kernel
theorem dX12_city_103 : decode cX12_city 103 = .ok (.getfield 116, 3) := by decide +kernel
theorem dX12_city_106 : decode cX12_city 106 = .ok (.if_icmp .ge 55, 3) := by decide +kernel
theorem dX12_city_109 : decode cX12_city 109 = .ok (.aload_n 0, 1) := by decide +kernel
theorem dX12_city_110 : decode cX12_city 110 = .ok (.getfield 112, 3) := by decide +kernel
theorem dX12_city_113 : decode cX12_city 113 = .ok (.istore 5, 2) := by decide +kernel
theorem dX12_city_115 : decode cX12_city 115 = .ok (.aload_n 0, 1) := by decide +kernel
theorem dX12_city_116 : decode cX12_city 116 = .ok (.invokevirtual 122, 3) := by decide +kernel
theorem dX12_city_119 : decode cX12_city 119 = .ok (.istore 6, 2) := by decide +kernel
theorem dX12_city_121 : decode cX12_city 121 = .ok (.aload_n 0, 1) := by decide +kernel
theorem dX12_city_122 : decode cX12_city 122 = .ok (.invokevirtual 141, 3) := by decide +kernel
theorem dX12_city_125 : decode cX12_city 125 = .ok (.istore 7, 2) := by decide +kernel
theorem dX12_city_127 : decode cX12_city 127 = .ok (.aload_n 0, 1) := by decide +kernel
theorem dX12_city_128 : decode cX12_city 128 = .ok (.iload 6, 2) := by decide +kernel
theorem dX12_city_130 : decode cX12_city 130 = .ok (.invokevirtual 149, 3) := by decide +kernel
theorem dX12_city_133 : decode cX12_city 133 = .ok (.ifCond .eq 6, 3) := by decide +kernel
theorem dX12_city_136 : decode cX12_city 136 = .ok (.goto (-43), 3) := by decide +kernel
theorem dX12_city_139 : decode cX12_city 139 = .ok (.sipush (-2000), 3) := by decide +kernel
theorem dX12_city_142 : decode cX12_city 142 = .ok (.iload 5, 2) := by decide +kernel
theorem dX12_city_144 : decode cX12_city 144 = .ok (.isub, 1) := by decide +kernel
theorem dX12_city_145 : decode cX12_city 145 = .ok (.istore 4, 2) := by decide +kernel
theorem dX12_city_147 : decode cX12_city 147 = .ok (.aload_n 0, 1) := by decide +kernel
theorem dX12_city_148 : decode cX12_city 148 = .ok (.getfield 19, 3) := by decide +kernel
theorem dX12_city_151 : decode cX12_city 151 = .ok (.aload_n 0, 1) := by decide +kernel
theorem dX12_city_152 : decode cX12_city 152 = .ok (.getfield 9, 3) := by decide +kernel
theorem dX12_city_155 : decode cX12_city 155 = .ok (.invokestatic 145, 3) := by decide +kernel
theorem dX12_city_158 : decode cX12_city 158 = .ok (.goto (-65), 3) := by decide +kernel
theorem dX12_city_161 : decode cX12_city 161 = .ok (.iload 4, 2) := by decide +kernel
theorem dX12_city_163 : decode cX12_city 163 = .ok (.ifCond .ne 7, 3) := by decide +kernel
theorem dX12_city_166 : decode cX12_city 166 = .ok (.iload_n 3, 1) := by decide +kernel
theorem dX12_city_167 : decode cX12_city 167 = .ok (.goto 5, 3) := by decide +kernel
theorem dX12_city_170 : decode cX12_city 170 = .ok (.iload 4, 2) := by decide +kernel
theorem dX12_city_172 : decode cX12_city 172 = .ok (.ireturn, 1) := by decide +kernel
set_option maxRecDepth 20000 in
theorem ggX12_doesTrust_X12_of : GoodIn wsX12_doesTrust wsX12_of := goodIn_r _ [5] (by decide +kernel) (by decide +kernel)
set_option maxRecDepth 20000 in
theorem gX12_doesTrust_X12_of : GoodIn wsX12_doesTrust (va_wsS RX12 72 yX12_of wsX12_of) := goodIn_app (goodIn_of _ (by decide +kernel)) ggX12_doesTrust_X12_of
set_option maxRecDepth 20000 in
theorem ggX12_doesTrust_X12_signOf : GoodIn wsX12_doesTrust wsX12_signOf := goodIn_r _ [8] (by decide +kernel) (by decide +kernel)
set_option maxRecDepth 20000 in
theorem gX12_doesTrust_X12_signOf : GoodIn wsX12_doesTrust (va_wsS RX12 54 yX12_signOf wsX12_signOf) := goodIn_app (goodIn_of _ (by decide +kernel)) ggX12_doesTrust_X12_signOf
set_option maxRecDepth 20000 in
theorem ggX12_doesTrust_X12_sized : GoodIn wsX12_doesTrust wsX12_sized := goodIn_r _ [11] (by decide +kernel) (by decide +kernel)
set_option maxRecDepth 20000 in
theorem gX12_doesTrust_X12_sized : GoodIn wsX12_doesTrust (va_wsS RX12 58 yX12_sized wsX12_sized) := goodIn_app (goodIn_of _ (by decide +kernel)) ggX12_doesTrust_X12_sized
theorem dX12_doesTrust_0 : decode cX12_doesTrust 0 = .ok (.aload_n 0, 1) := by decide +kernel
theorem dX12_doesTrust_1 : decode cX12_doesTrust 1 = .ok (.getfield 9, 3) := by decide +kernel
theorem dX12_doesTrust_4 : decode cX12_doesTrust 4 = .ok (.iload_n 1, 1) := by decide +kernel
theorem dX12_doesTrust_5 : decode cX12_doesTrust 5 = .ok (.iconst 2, 1) := by decide +kernel
theorem dX12_doesTrust_6 : decode cX12_doesTrust 6 = .ok (.invokestatic 72, 3) := by decide +kernel
theorem dX12_doesTrust_9 : decode cX12_doesTrust 9 = .ok (.iaload, 1) := by decide +kernel
theorem dX12_doesTrust_10 : decode cX12_doesTrust 10 = .ok (.istore_n 3, 1) := by decide +kernel
theorem dX12_doesTrust_11 : decode cX12_doesTrust 11 = .ok (.aload_n 0, 1) := by decide +kernel
theorem dX12_doesTrust_12 : decode cX12_doesTrust 12 = .ok (.getfield 9, 3) := by decide +kernel
theorem dX12_doesTrust_15 : decode cX12_doesTrust 15 = .ok (.iload_n 2, 1) := by decide +kernel
theorem dX12_doesTrust_16 : decode cX12_doesTrust 16 = .ok (.iconst 2, 1) := by decide +kernel
theorem dX12_doesTrust_17 : decode cX12_doesTrust 17 = .ok (.invokestatic 72, 3) := by decide +kernel
theorem dX12_doesTrust_20 : decode cX12_doesTrust 20 = .ok (.iaload, 1) := by decide +kernel
theorem dX12_doesTrust_21 : decode cX12_doesTrust 21 = .ok (.istore 4, 2) := by decide +kernel
theorem dX12_doesTrust_23 : decode cX12_doesTrust 23 = .ok (.iload_n 1, 1) := by decide +kernel
theorem dX12_doesTrust_24 : decode cX12_doesTrust 24 = .ok (.iload_n 2, 1) := by decide +kernel
theorem dX12_doesTrust_25 : decode cX12_doesTrust 25 = .ok (.if_icmp .eq 34, 3) := by decide +kernel
theorem dX12_doesTrust_28 : decode cX12_doesTrust 28 = .ok (.iload_n 3, 1) := by decide +kernel
theorem dX12_doesTrust_29 : decode cX12_doesTrust 29 = .ok (.invokestatic 54, 3) := by decide +kernel
theorem dX12_doesTrust_32 : decode cX12_doesTrust 32 = .ok (.iload 4, 2) := by decide +kernel
theorem dX12_doesTrust_34 : decode cX12_doesTrust 34 = .ok (.invokestatic 54, 3) := by decide +kernel
theorem dX12_doesTrust_37 : decode cX12_doesTrust 37 = .ok (.if_icmp .ne 22, 3) := by decide +kernel
theorem dX12_doesTrust_40 : decode cX12_doesTrust 40 = .ok (.iload 4, 2) := by decide +kernel
theorem dX12_doesTrust_42 : decode cX12_doesTrust 42 = .ok (.invokestatic 58, 3) := by decide +kernel
theorem dX12_doesTrust_45 : decode cX12_doesTrust 45 = .ok (.iload_n 3, 1) := by decide +kernel
theorem dX12_doesTrust_46 : decode cX12_doesTrust 46 = .ok (.invokestatic 58, 3) := by decide +kernel
theorem dX12_doesTrust_49 : decode cX12_doesTrust 49 = .ok (.bipush 10, 2) := by decide +kernel
theorem dX12_doesTrust_51 : decode cX12_doesTrust 51 = .ok (.iadd, 1) := by decide +kernel
theorem dX12_doesTrust_52 : decode cX12_doesTrust 52 = .ok (.if_icmp .gt 7, 3) := by decide +kernel
theorem dX12_doesTrust_55 : decode cX12_doesTrust 55 = .ok (.iconst 1, 1) := by decide +kernel
theorem dX12_doesTrust_56 : decode cX12_doesTrust 56 = .ok (.goto 4, 3) := by decide +kernel
theorem dX12_doesTrust_59 : decode cX12_doesTrust 59 = .ok (.iconst 0, 1) := by decide +kernel
theorem dX12_doesTrust_60 : decode cX12_doesTrust 60 = .ok (.ireturn, 1) := by decide +kernel
set_option maxRecDepth 20000 in
theorem ggX12_trustedBy_X12_doesTrust : GoodIn wsX12_trustedBy wsX12_doesTrust := goodIn_r _ [6, 1, 7, 8, 5, 9, 10, 11, 12, 13, 14, 15, 16, 17, 18, 19, 20, 21, 22, 23, 24, 25, 26, 27, 28, 29, 30, 31, 32, 33] (by decide +kernel) (by decide +kernel)
set_option maxRecDepth 20000 in
theorem gX12_trustedBy_X12_doesTrust : GoodIn wsX12_trustedBy (wsV RX12 152 RX12 yX12_doesTrust wsX12_doesTrust) := goodIn_app (goodIn_of _ (by decide +kernel)) ggX12_trustedBy_X12_doesTrust
theorem dX12_trustedBy_0 : decode cX12_trustedBy 0 = .ok (.iconst 0, 1) := by decide +kernel
theorem dX12_trustedBy_1 : decode cX12_trustedBy 1 = .ok (.istore_n 2, 1) := by decide +kernel
theorem dX12_trustedBy_2 : decode cX12_trustedBy 2 = .ok (.iconst 0, 1) := by decide +kernel
theorem dX12_trustedBy_3 : decode cX12_trustedBy 3 = .ok (.istore_n 3, 1) := by decide +kernel
theorem dX12_trustedBy_4 : decode cX12_trustedBy 4 = .ok (.iload_n 3, 1) := by decide +kernel
theorem dX12_trustedBy_5 : decode cX12_trustedBy 5 = .ok (.aload_n 0, 1) := by decide +kernel
theorem dX12_trustedBy_6 : decode cX12_trustedBy 6 = .ok (.getfield 9, 3) := by decide +kernel
theorem dX12_trustedBy_9 : decode cX12_trustedBy 9 = .ok (.iconst 0, 1) := by decide +kernel
theorem dX12_trustedBy_10 : decode cX12_trustedBy 10 = .ok (.iaload, 1) := by decide +kernel
theorem dX12_trustedBy_11 : decode cX12_trustedBy 11 = .ok (.if_icmp .ge 28, 3) := by decide +kernel
theorem dX12_trustedBy_14 : decode cX12_trustedBy 14 = .ok (.iload_n 2, 1) := by decide +kernel
theorem dX12_trustedBy_15 : decode cX12_trustedBy 15 = .ok (.aload_n 0, 1) := by decide +kernel
theorem dX12_trustedBy_16 : decode cX12_trustedBy 16 = .ok (.iload_n 3, 1) := by decide +kernel
theorem dX12_trustedBy_17 : decode cX12_trustedBy 17 = .ok (.iload_n 1, 1) := by decide +kernel
theorem dX12_trustedBy_18 : decode cX12_trustedBy 18 = .ok (.invokevirtual 152, 3) := by decide +kernel
theorem dX12_trustedBy_21 : decode cX12_trustedBy 21 = .ok (.ifCond .eq 9, 3) := by decide +kernel
theorem dX12_trustedBy_24 : decode cX12_trustedBy 24 = .ok (.iconst 1, 1) := by decide +kernel
theorem dX12_trustedBy_25 : decode cX12_trustedBy 25 = .ok (.iload_n 3, 1) := by decide +kernel
theorem dX12_trustedBy_26 : decode cX12_trustedBy 26 = .ok (.ishl, 1) := by decide +kernel
theorem dX12_trustedBy_27 : decode cX12_trustedBy 27 = .ok (.goto 4, 3) := by decide +kernel
theorem dX12_trustedBy_30 : decode cX12_trustedBy 30 = .ok (.iconst 0, 1) := by decide +kernel
theorem dX12_trustedBy_31 : decode cX12_trustedBy 31 = .ok (.ior, 1) := by decide +kernel
theorem dX12_trustedBy_32 : decode cX12_trustedBy 32 = .ok (.istore_n 2, 1) := by decide +kernel
theorem dX12_trustedBy_33 : decode cX12_trustedBy 33 = .ok (.iinc 3 1, 3) := by decide +kernel
theorem dX12_trustedBy_36 : decode cX12_trustedBy 36 = .ok (.goto (-32), 3) := by decide +kernel
theorem dX12_trustedBy_39 : decode cX12_trustedBy 39 = .ok (.iload_n 2, 1) := by decide +kernel
theorem dX12_trustedBy_40 : decode cX12_trustedBy 40 = .ok (.ireturn, 1) := by decide +kernel
set_option maxRecDepth 20000 in
theorem ggX12_lean_X12_isMan : GoodIn wsX12_lean wsX12_isMan := goodIn_r _ [7, 1, 8, 9, 6, 10, 14, 15, 16, 17, 18, 19, 20, 21, 22, 23, 24, 25, 26, 27, 28, 29, 30, 31] (by decide +kernel) (by decide +kernel)
set_option maxRecDepth 20000 in
theorem gX12_lean_X12_isMan : GoodIn wsX12_lean (wsV RX12 50 RX12 yX12_isMan wsX12_isMan) := goodIn_app (goodIn_of _ (by decide +kernel)) ggX12_lean_X12_isMan
set_option maxRecDepth 20000 in
theorem ggX12_lean_X12_of : GoodIn wsX12_lean wsX12_of := goodIn_r _ [13] (by decide +kernel) (by decide +kernel)
set_option maxRecDepth 20000 in
theorem gX12_lean_X12_of : GoodIn wsX12_lean (va_wsS RX12 72 yX12_of wsX12_of) := goodIn_app (goodIn_of _ (by decide +kernel)) ggX12_lean_X12_of
theorem dX12_lean_0 : decode cX12_lean 0 = .ok (.aload_n 0, 1) := by decide +kernel
theorem dX12_lean_1 : decode cX12_lean 1 = .ok (.iload_n 1, 1) := by decide +kernel
theorem dX12_lean_2 : decode cX12_lean 2 = .ok (.invokevirtual 50, 3) := by decide +kernel
theorem dX12_lean_5 : decode cX12_lean 5 = .ok (.ifCond .eq 16, 3) := by decide +kernel
theorem dX12_lean_8 : decode cX12_lean 8 = .ok (.aload_n 0, 1) := by decide +kernel
theorem dX12_lean_9 : decode cX12_lean 9 = .ok (.getfield 9, 3) := by decide +kernel
theorem dX12_lean_12 : decode cX12_lean 12 = .ok (.iload_n 1, 1) := by decide +kernel
theorem dX12_lean_13 : decode cX12_lean 13 = .ok (.iconst 2, 1) := by decide +kernel
theorem dX12_lean_14 : decode cX12_lean 14 = .ok (.invokestatic 72, 3) := by decide +kernel
theorem dX12_lean_17 : decode cX12_lean 17 = .ok (.iaload, 1) := by decide +kernel
theorem dX12_lean_18 : decode cX12_lean 18 = .ok (.goto 5, 3) := by decide +kernel
theorem dX12_lean_21 : decode cX12_lean 21 = .ok (.ldc 155, 2) := by decide +kernel
theorem dX12_lean_23 : decode cX12_lean 23 = .ok (.ireturn, 1) := by decide +kernel
set_option maxRecDepth 20000 in
theorem ggX12_discount_X12_of : GoodIn wsX12_discount wsX12_of := goodIn_r _ [5] (by decide +kernel) (by decide +kernel)
set_option maxRecDepth 20000 in
theorem gX12_discount_X12_of : GoodIn wsX12_discount (va_wsS RX12 72 yX12_of wsX12_of) := goodIn_app (goodIn_of _ (by decide +kernel)) ggX12_discount_X12_of
set_option maxRecDepth 20000 in
theorem ggX12_discount_X12_discountBy : GoodIn wsX12_discount wsX12_discountBy := goodIn_r _ [8, 9, 10, 4, 11] (by decide +kernel) (by decide +kernel)
set_option maxRecDepth 20000 in
theorem gX12_discount_X12_discountBy : GoodIn wsX12_discount (va_wsS RX12 156 yX12_discountBy wsX12_discountBy) := goodIn_app (goodIn_of _ (by decide +kernel)) ggX12_discount_X12_discountBy
theorem dX12_discount_0 : decode cX12_discount 0 = .ok (.aload_n 0, 1) := by decide +kernel
theorem dX12_discount_1 : decode cX12_discount 1 = .ok (.getfield 9, 3) := by decide +kernel
theorem dX12_discount_4 : decode cX12_discount 4 = .ok (.iload_n 1, 1) := by decide +kernel
theorem dX12_discount_5 : decode cX12_discount 5 = .ok (.iconst 0, 1) := by decide +kernel
theorem dX12_discount_6 : decode cX12_discount 6 = .ok (.invokestatic 72, 3) := by decide +kernel
theorem dX12_discount_9 : decode cX12_discount 9 = .ok (.iaload, 1) := by decide +kernel
theorem dX12_discount_10 : decode cX12_discount 10 = .ok (.aload_n 0, 1) := by decide +kernel
theorem dX12_discount_11 : decode cX12_discount 11 = .ok (.getfield 9, 3) := by decide +kernel
theorem dX12_discount_14 : decode cX12_discount 14 = .ok (.iload_n 1, 1) := by decide +kernel
theorem dX12_discount_15 : decode cX12_discount 15 = .ok (.iconst 1, 1) := by decide +kernel
theorem dX12_discount_16 : decode cX12_discount 16 = .ok (.invokestatic 72, 3) := by decide +kernel
theorem dX12_discount_19 : decode cX12_discount 19 = .ok (.iaload, 1) := by decide +kernel
theorem dX12_discount_20 : decode cX12_discount 20 = .ok (.aload_n 0, 1) := by decide +kernel
theorem dX12_discount_21 : decode cX12_discount 21 = .ok (.getfield 9, 3) := by decide +kernel
theorem dX12_discount_24 : decode cX12_discount 24 = .ok (.iload_n 1, 1) := by decide +kernel
theorem dX12_discount_25 : decode cX12_discount 25 = .ok (.iconst 2, 1) := by decide +kernel
theorem dX12_discount_26 : decode cX12_discount 26 = .ok (.invokestatic 72, 3) := by decide +kernel
theorem dX12_discount_29 : decode cX12_discount 29 = .ok (.iaload, 1) := by decide +kernel
theorem dX12_discount_30 : decode cX12_discount 30 = .ok (.invokestatic 156, 3) := by decide +kernel
theorem dX12_discount_33 : decode cX12_discount 33 = .ok (.ireturn, 1) := by decide +kernel
set_option maxRecDepth 20000 in
theorem ggX12_man_X12_isMan : GoodIn wsX12_man wsX12_isMan := goodIn_r _ [6, 1, 7, 8, 5, 9, 43, 44, 45, 46, 47, 48, 49, 50, 51, 52, 53, 54, 55, 56, 57, 58, 59, 60] (by decide +kernel) (by decide +kernel)
set_option maxRecDepth 20000 in
theorem gX12_man_X12_isMan : GoodIn wsX12_man (wsV RX12 50 RX12 yX12_isMan wsX12_isMan) := goodIn_app (goodIn_of _ (by decide +kernel)) ggX12_man_X12_isMan
set_option maxRecDepth 20000 in
theorem ggX12_man_X12_isIn : GoodIn wsX12_man wsX12_isIn := goodIn_r _ [9] (by decide +kernel) (by decide +kernel)
set_option maxRecDepth 20000 in
theorem gX12_man_X12_isIn : GoodIn wsX12_man (va_wsS RX12 46 yX12_isIn wsX12_isIn) := goodIn_app (goodIn_of _ (by decide +kernel)) ggX12_man_X12_isIn
set_option maxRecDepth 20000 in
theorem ggX12_man_X12_of : GoodIn wsX12_man wsX12_of := goodIn_r _ [12] (by decide +kernel) (by decide +kernel)
set_option maxRecDepth 20000 in
theorem gX12_man_X12_of : GoodIn wsX12_man (va_wsS RX12 72 yX12_of wsX12_of) := goodIn_app (goodIn_of _ (by decide +kernel)) ggX12_man_X12_of
set_option maxRecDepth 20000 in
theorem ggX12_man_X12_upright : GoodIn wsX12_man wsX12_upright := goodIn_r _ [15, 10, 11, 5, 12, 16, 17, 18, 19, 20, 21, 22, 23, 24] (by decide +kernel) (by decide +kernel)
set_option maxRecDepth 20000 in
theorem gX12_man_X12_upright : GoodIn wsX12_man (va_wsS RX12 96 yX12_upright wsX12_upright) := goodIn_app (goodIn_of _ (by decide +kernel)) ggX12_man_X12_upright
set_option maxRecDepth 20000 in
theorem ggX12_man_X12_discount : GoodIn wsX12_man wsX12_discount := goodIn_r _ [28, 1, 10, 11, 5, 12, 29, 30, 31, 19, 20, 21, 43, 44, 45, 46, 47, 48, 49, 50, 51, 52, 53, 54, 55, 56, 57, 58, 59, 60] (by decide +kernel) (by decide +kernel)
set_option maxRecDepth 20000 in
theorem gX12_man_X12_discount : GoodIn wsX12_man (wsV RX12 159 RX12 yX12_discount wsX12_discount) := goodIn_app (goodIn_of _ (by decide +kernel)) ggX12_man_X12_discount
set_option maxRecDepth 20000 in
theorem ggX12_man_X12_trustedBy : GoodIn wsX12_man wsX12_trustedBy := goodIn_r _ [35, 1, 36, 37, 38, 5, 39, 10, 11, 12, 40, 41, 42, 19, 20, 21, 43, 44, 45, 46, 47, 48, 49, 50, 51, 52, 53, 54, 55, 56, 57, 58, 59, 60] (by decide +kernel) (by decide +kernel)
set_option maxRecDepth 20000 in
theorem gX12_man_X12_trustedBy : GoodIn wsX12_man (wsV RX12 162 RX12 yX12_trustedBy wsX12_trustedBy) := goodIn_app (goodIn_of _ (by decide +kernel)) ggX12_man_X12_trustedBy
theorem dX12_man_0 : decode cX12_man 0 = .ok (.aload_n 0, 1) := by decide +kernel
theorem dX12_man_1 : decode cX12_man 1 = .ok (.iload_n 1, 1) := by decide +kernel
theorem dX12_man_2 : decode cX12_man 2 = .ok (.invokevirtual 50, 3) := by decide +kernel
theorem dX12_man_5 : decode cX12_man 5 = .ok (.ifCond .eq 12, 3) := by decide +kernel
theorem dX12_man_8 : decode cX12_man 8 = .ok (.iload_n 2, 1) := by decide +kernel
theorem dX12_man_9 : decode cX12_man 9 = .ok (.iconst 0, 1) := by decide +kernel
theorem dX12_man_10 : decode cX12_man 10 = .ok (.iconst 5, 1) := by decide +kernel
theorem dX12_man_11 : decode cX12_man 11 = .ok (.invokestatic 46, 3) := by decide +kernel
theorem dX12_man_14 : decode cX12_man 14 = .ok (.ifCond .ne 5, 3) := by decide +kernel
theorem dX12_man_17 : decode cX12_man 17 = .ok (.iconst (-1), 1) := by decide +kernel
theorem dX12_man_18 : decode cX12_man 18 = .ok (.ireturn, 1) := by decide +kernel
theorem dX12_man_19 : decode cX12_man 19 = .ok (.iload_n 2, 1) := by decide +kernel
theorem dX12_man_20 : decode cX12_man 20 = .ok (.tableswitch 67 2 5 #[32, 43, 55, 61], 32) := by decide +kernel
theorem dX12_man_52 : decode cX12_man 52 = .ok (.aload_n 0, 1) := by decide +kernel
theorem dX12_man_53 : decode cX12_man 53 = .ok (.getfield 9, 3) := by decide +kernel
theorem dX12_man_56 : decode cX12_man 56 = .ok (.iload_n 1, 1) := by decide +kernel
theorem dX12_man_57 : decode cX12_man 57 = .ok (.iconst 3, 1) := by decide +kernel
theorem dX12_man_58 : decode cX12_man 58 = .ok (.invokestatic 72, 3) := by decide +kernel
theorem dX12_man_61 : decode cX12_man 61 = .ok (.iaload, 1) := by decide +kernel
theorem dX12_man_62 : decode cX12_man 62 = .ok (.ireturn, 1) := by decide +kernel
theorem dX12_man_63 : decode cX12_man 63 = .ok (.aload_n 0, 1) := by decide +kernel
theorem dX12_man_64 : decode cX12_man 64 = .ok (.getfield 9, 3) := by decide +kernel
theorem dX12_man_67 : decode cX12_man 67 = .ok (.invokestatic 96, 3) := by decide +kernel
theorem dX12_man_70 : decode cX12_man 70 = .ok (.iload_n 1, 1) := by decide +kernel
theorem dX12_man_71 : decode cX12_man 71 = .ok (.ishr, 1) := by decide +kernel
theorem dX12_man_72 : decode cX12_man 72 = .ok (.iconst 1, 1) := by decide +kernel
theorem dX12_man_73 : decode cX12_man 73 = .ok (.iand, 1) := by decide +kernel
theorem dX12_man_74 : decode cX12_man 74 = .ok (.ireturn, 1) := by decide +kernel
theorem dX12_man_75 : decode cX12_man 75 = .ok (.aload_n 0, 1) := by decide +kernel
theorem dX12_man_76 : decode cX12_man 76 = .ok (.iload_n 1, 1) := by decide +kernel
theorem dX12_man_77 : decode cX12_man 77 = .ok (.invokevirtual 159, 3) := by decide +kernel
theorem dX12_man_80 : decode cX12_man 80 = .ok (.ireturn, 1) := by decide +kernel
theorem dX12_man_81 : decode cX12_man 81 = .ok (.aload_n 0, 1) := by decide +kernel
theorem dX12_man_82 : decode cX12_man 82 = .ok (.iload_n 1, 1) := by decide +kernel
theorem dX12_man_83 : decode cX12_man 83 = .ok (.invokevirtual 162, 3) := by decide +kernel
theorem dX12_man_86 : decode cX12_man 86 = .ok (.ireturn, 1) := by decide +kernel
theorem dX12_man_87 : decode cX12_man 87 = .ok (.aload_n 0, 1) := by decide +kernel
theorem dX12_man_88 : decode cX12_man 88 = .ok (.getfield 9, 3) := by decide +kernel
theorem dX12_man_91 : decode cX12_man 91 = .ok (.iload_n 1, 1) := by decide +kernel
theorem dX12_man_92 : decode cX12_man 92 = .ok (.iload_n 2, 1) := by decide +kernel
theorem dX12_man_93 : decode cX12_man 93 = .ok (.invokestatic 72, 3) := by decide +kernel
theorem dX12_man_96 : decode cX12_man 96 = .ok (.iaload, 1) := by decide +kernel
theorem dX12_man_97 : decode cX12_man 97 = .ok (.ireturn, 1) := by decide +kernel
set_option maxRecDepth 20000 in
theorem ggX12_comes_X12_isLean : GoodIn wsX12_comes wsX12_isLean := goodIn_r _ [7, 8, 9, 6, 10] (by decide +kernel) (by decide +kernel)
set_option maxRecDepth 20000 in
theorem gX12_comes_X12_isLean : GoodIn wsX12_comes (va_wsS RX12 165 yX12_isLean wsX12_isLean) := goodIn_app (goodIn_of _ (by decide +kernel)) ggX12_comes_X12_isLean
set_option maxRecDepth 20000 in
theorem ggX12_comes_X12_wrongKept : GoodIn wsX12_comes wsX12_wrongKept := goodIn_r _ [14, 15, 16, 17, 6, 18, 8, 9, 10, 26, 27, 28, 29, 30, 31, 32, 33, 34, 35, 36, 37, 38, 39, 40, 41, 42, 43] (by decide +kernel) (by decide +kernel)
set_option maxRecDepth 20000 in
theorem gX12_comes_X12_wrongKept : GoodIn wsX12_comes (wsV RX12 168 RX12 yX12_wrongKept wsX12_wrongKept) := goodIn_app (goodIn_of _ (by decide +kernel)) ggX12_comes_X12_wrongKept
set_option maxRecDepth 20000 in
theorem ggX12_comes_X12_adds : GoodIn wsX12_comes wsX12_adds := goodIn_r _ [22, 1, 23, 24, 6, 25, 26, 27, 28, 29, 30, 31, 32, 33, 34, 35, 36, 37, 38, 39, 40, 41, 42, 43] (by decide +kernel) (by decide +kernel)
set_option maxRecDepth 20000 in
theorem gX12_comes_X12_adds : GoodIn wsX12_comes (wsV RX12 130 RX12 yX12_adds wsX12_adds) := goodIn_app (goodIn_of _ (by decide +kernel)) ggX12_comes_X12_adds
theorem dX12_comes_0 : decode cX12_comes 0 = .ok (.iload_n 2, 1) := by decide +kernel
theorem dX12_comes_1 : decode cX12_comes 1 = .ok (.invokestatic 165, 3) := by decide +kernel
theorem dX12_comes_4 : decode cX12_comes 4 = .ok (.ifCond .ne 5, 3) := by decide +kernel
theorem dX12_comes_7 : decode cX12_comes 7 = .ok (.iconst (-1), 1) := by decide +kernel
theorem dX12_comes_8 : decode cX12_comes 8 = .ok (.ireturn, 1) := by decide +kernel
theorem dX12_comes_9 : decode cX12_comes 9 = .ok (.aload_n 0, 1) := by decide +kernel
theorem dX12_comes_10 : decode cX12_comes 10 = .ok (.iload_n 1, 1) := by decide +kernel
theorem dX12_comes_11 : decode cX12_comes 11 = .ok (.invokevirtual 168, 3) := by decide +kernel
theorem dX12_comes_14 : decode cX12_comes 14 = .ok (.istore_n 3, 1) := by decide +kernel
theorem dX12_comes_15 : decode cX12_comes 15 = .ok (.iload_n 3, 1) := by decide +kernel
theorem dX12_comes_16 : decode cX12_comes 16 = .ok (.ifCond .eq 5, 3) := by decide +kernel
theorem dX12_comes_19 : decode cX12_comes 19 = .ok (.iload_n 3, 1) := by decide +kernel
theorem dX12_comes_20 : decode cX12_comes 20 = .ok (.ireturn, 1) := by decide +kernel
theorem dX12_comes_21 : decode cX12_comes 21 = .ok (.aload_n 0, 1) := by decide +kernel
theorem dX12_comes_22 : decode cX12_comes 22 = .ok (.getfield 9, 3) := by decide +kernel
theorem dX12_comes_25 : decode cX12_comes 25 = .ok (.iconst 0, 1) := by decide +kernel
theorem dX12_comes_26 : decode cX12_comes 26 = .ok (.iaload, 1) := by decide +kernel
theorem dX12_comes_27 : decode cX12_comes 27 = .ok (.bipush 8, 2) := by decide +kernel
theorem dX12_comes_29 : decode cX12_comes 29 = .ok (.if_icmp .ne 6, 3) := by decide +kernel
theorem dX12_comes_32 : decode cX12_comes 32 = .ok (.bipush (-2), 2) := by decide +kernel
theorem dX12_comes_34 : decode cX12_comes 34 = .ok (.ireturn, 1) := by decide +kernel
theorem dX12_comes_35 : decode cX12_comes 35 = .ok (.aload_n 0, 1) := by decide +kernel
theorem dX12_comes_36 : decode cX12_comes 36 = .ok (.aload_n 0, 1) := by decide +kernel
theorem dX12_comes_37 : decode cX12_comes 37 = .ok (.getfield 31, 3) := by decide +kernel
theorem dX12_comes_40 : decode cX12_comes 40 = .ok (.iload_n 1, 1) := by decide +kernel
theorem dX12_comes_41 : decode cX12_comes 41 = .ok (.iaload, 1) := by decide +kernel
theorem dX12_comes_42 : decode cX12_comes 42 = .ok (.aload_n 0, 1) := by decide +kernel
theorem dX12_comes_43 : decode cX12_comes 43 = .ok (.getfield 34, 3) := by decide +kernel
theorem dX12_comes_46 : decode cX12_comes 46 = .ok (.iload_n 1, 1) := by decide +kernel
theorem dX12_comes_47 : decode cX12_comes 47 = .ok (.iaload, 1) := by decide +kernel
theorem dX12_comes_48 : decode cX12_comes 48 = .ok (.iload_n 2, 1) := by decide +kernel
theorem dX12_comes_49 : decode cX12_comes 49 = .ok (.invokevirtual 130, 3) := by decide +kernel
theorem dX12_comes_52 : decode cX12_comes 52 = .ok (.aload_n 0, 1) := by decide +kernel
theorem dX12_comes_53 : decode cX12_comes 53 = .ok (.getfield 9, 3) := by decide +kernel
theorem dX12_comes_56 : decode cX12_comes 56 = .ok (.iconst 0, 1) := by decide +kernel
theorem dX12_comes_57 : decode cX12_comes 57 = .ok (.iaload, 1) := by decide +kernel
theorem dX12_comes_58 : decode cX12_comes 58 = .ok (.iconst 1, 1) := by decide +kernel
theorem dX12_comes_59 : decode cX12_comes 59 = .ok (.isub, 1) := by decide +kernel
theorem dX12_comes_60 : decode cX12_comes 60 = .ok (.ireturn, 1) := by decide +kernel
set_option maxRecDepth 20000 in
theorem ggX12_pushes_X12_isMan : GoodIn wsX12_pushes wsX12_isMan := goodIn_r _ [7, 2, 8, 9, 6, 10, 17, 18, 19, 20, 21, 22, 23, 24, 25, 26, 27, 28, 29, 30, 31, 32, 33, 34] (by decide +kernel) (by decide +kernel)
set_option maxRecDepth 20000 in
theorem gX12_pushes_X12_isMan : GoodIn wsX12_pushes (wsV RX12 50 RX12 yX12_isMan wsX12_isMan) := goodIn_app (goodIn_of _ (by decide +kernel)) ggX12_pushes_X12_isMan
set_option maxRecDepth 20000 in
theorem ggX12_pushes_X12_isLean : GoodIn wsX12_pushes wsX12_isLean := goodIn_r _ [13, 8, 9, 6, 10] (by decide +kernel) (by decide +kernel)
set_option maxRecDepth 20000 in
theorem gX12_pushes_X12_isLean : GoodIn wsX12_pushes (va_wsS RX12 165 yX12_isLean wsX12_isLean) := goodIn_app (goodIn_of _ (by decide +kernel)) ggX12_pushes_X12_isLean
set_option maxRecDepth 20000 in
theorem ggX12_pushes_X12_of : GoodIn wsX12_pushes wsX12_of := goodIn_r _ [16] (by decide +kernel) (by decide +kernel)
set_option maxRecDepth 20000 in
theorem gX12_pushes_X12_of : GoodIn wsX12_pushes (va_wsS RX12 72 yX12_of wsX12_of) := goodIn_app (goodIn_of _ (by decide +kernel)) ggX12_pushes_X12_of
theorem dX12_pushes_0 : decode cX12_pushes 0 = .ok (.aload_n 0, 1) := by decide +kernel
theorem dX12_pushes_1 : decode cX12_pushes 1 = .ok (.iload_n 1, 1) := by decide +kernel
theorem dX12_pushes_2 : decode cX12_pushes 2 = .ok (.invokevirtual 50, 3) := by decide +kernel
theorem dX12_pushes_5 : decode cX12_pushes 5 = .ok (.ifCond .eq 10, 3) := by decide +kernel
theorem dX12_pushes_8 : decode cX12_pushes 8 = .ok (.iload_n 2, 1) := by decide +kernel
theorem dX12_pushes_9 : decode cX12_pushes 9 = .ok (.invokestatic 165, 3) := by decide +kernel
theorem dX12_pushes_12 : decode cX12_pushes 12 = .ok (.ifCond .ne 6, 3) := by decide +kernel
theorem dX12_pushes_15 : decode cX12_pushes 15 = .ok (.ldc 155, 2) := by decide +kernel
theorem dX12_pushes_17 : decode cX12_pushes 17 = .ok (.ireturn, 1) := by decide +kernel
theorem dX12_pushes_18 : decode cX12_pushes 18 = .ok (.aload_n 0, 1) := by decide +kernel
theorem dX12_pushes_19 : decode cX12_pushes 19 = .ok (.getfield 9, 3) := by decide +kernel
theorem dX12_pushes_22 : decode cX12_pushes 22 = .ok (.iload_n 1, 1) := by decide +kernel
theorem dX12_pushes_23 : decode cX12_pushes 23 = .ok (.iconst 2, 1) := by decide +kernel
theorem dX12_pushes_24 : decode cX12_pushes 24 = .ok (.invokestatic 72, 3) := by decide +kernel
theorem dX12_pushes_27 : decode cX12_pushes 27 = .ok (.iaload, 1) := by decide +kernel
theorem dX12_pushes_28 : decode cX12_pushes 28 = .ok (.istore_n 3, 1) := by decide +kernel
theorem dX12_pushes_29 : decode cX12_pushes 29 = .ok (.aload_n 0, 1) := by decide +kernel
theorem dX12_pushes_30 : decode cX12_pushes 30 = .ok (.getfield 9, 3) := by decide +kernel
theorem dX12_pushes_33 : decode cX12_pushes 33 = .ok (.iload_n 1, 1) := by decide +kernel
theorem dX12_pushes_34 : decode cX12_pushes 34 = .ok (.iconst 2, 1) := by decide +kernel
theorem dX12_pushes_35 : decode cX12_pushes 35 = .ok (.invokestatic 72, 3) := by decide +kernel
theorem dX12_pushes_38 : decode cX12_pushes 38 = .ok (.iload_n 2, 1) := by decide +kernel
theorem dX12_pushes_39 : decode cX12_pushes 39 = .ok (.iastore, 1) := by decide +kernel
theorem dX12_pushes_40 : decode cX12_pushes 40 = .ok (.iload_n 3, 1) := by decide +kernel
theorem dX12_pushes_41 : decode cX12_pushes 41 = .ok (.ireturn, 1) := by decide +kernel
set_option maxRecDepth 20000 in
theorem ggX12_props_X12_isMan : GoodIn wsX12_props wsX12_isMan := goodIn_r _ [6, 1, 7, 8, 5, 9, 13, 14, 15, 16, 17, 18, 19, 20, 21, 22, 23, 24, 25, 26, 27, 28, 29, 30] (by decide +kernel) (by decide +kernel)
set_option maxRecDepth 20000 in
theorem gX12_props_X12_isMan : GoodIn wsX12_props (wsV RX12 50 RX12 yX12_isMan wsX12_isMan) := goodIn_app (goodIn_of _ (by decide +kernel)) ggX12_props_X12_isMan
set_option maxRecDepth 20000 in
theorem ggX12_props_X12_of : GoodIn wsX12_props wsX12_of := goodIn_r _ [12] (by decide +kernel) (by decide +kernel)
set_option maxRecDepth 20000 in
theorem gX12_props_X12_of : GoodIn wsX12_props (va_wsS RX12 72 yX12_of wsX12_of) := goodIn_app (goodIn_of _ (by decide +kernel)) ggX12_props_X12_of
theorem dX12_props_0 : decode cX12_props 0 = .ok (.aload_n 0, 1) := by decide +kernel
theorem dX12_props_1 : decode cX12_props 1 = .ok (.iload_n 1, 1) := by decide +kernel
theorem dX12_props_2 : decode cX12_props 2 = .ok (.invokevirtual 50, 3) := by decide +kernel
theorem dX12_props_5 : decode cX12_props 5 = .ok (.ifCond .ne 5, 3) := by decide +kernel
theorem dX12_props_8 : decode cX12_props 8 = .ok (.iconst (-1), 1) := by decide +kernel
theorem dX12_props_9 : decode cX12_props 9 = .ok (.ireturn, 1) := by decide +kernel
theorem dX12_props_10 : decode cX12_props 10 = .ok (.aload_n 0, 1) := by decide +kernel
theorem dX12_props_11 : decode cX12_props 11 = .ok (.getfield 9, 3) := by decide +kernel
theorem dX12_props_14 : decode cX12_props 14 = .ok (.iload_n 1, 1) := by decide +kernel
theorem dX12_props_15 : decode cX12_props 15 = .ok (.iconst 3, 1) := by decide +kernel
theorem dX12_props_16 : decode cX12_props 16 = .ok (.invokestatic 72, 3) := by decide +kernel
theorem dX12_props_19 : decode cX12_props 19 = .ok (.dup2, 1) := by decide +kernel
theorem dX12_props_20 : decode cX12_props 20 = .ok (.iaload, 1) := by decide +kernel
theorem dX12_props_21 : decode cX12_props 21 = .ok (.iconst 1, 1) := by decide +kernel
theorem dX12_props_22 : decode cX12_props 22 = .ok (.ixor, 1) := by decide +kernel
theorem dX12_props_23 : decode cX12_props 23 = .ok (.iastore, 1) := by decide +kernel
theorem dX12_props_24 : decode cX12_props 24 = .ok (.aload_n 0, 1) := by decide +kernel
theorem dX12_props_25 : decode cX12_props 25 = .ok (.getfield 9, 3) := by decide +kernel
theorem dX12_props_28 : decode cX12_props 28 = .ok (.iload_n 1, 1) := by decide +kernel
theorem dX12_props_29 : decode cX12_props 29 = .ok (.iconst 3, 1) := by decide +kernel
theorem dX12_props_30 : decode cX12_props 30 = .ok (.invokestatic 72, 3) := by decide +kernel
theorem dX12_props_33 : decode cX12_props 33 = .ok (.iaload, 1) := by decide +kernel
theorem dX12_props_34 : decode cX12_props 34 = .ok (.ireturn, 1) := by decide +kernel
set_option maxRecDepth 20000 in
theorem ggX12_hangs_X12_isIn : GoodIn wsX12_hangs wsX12_isIn := goodIn_r _ [5] (by decide +kernel) (by decide +kernel)
set_option maxRecDepth 20000 in
theorem gX12_hangs_X12_isIn : GoodIn wsX12_hangs (va_wsS RX12 46 yX12_isIn wsX12_isIn) := goodIn_app (goodIn_of _ (by decide +kernel)) ggX12_hangs_X12_isIn
theorem dX12_hangs_0 : decode cX12_hangs 0 = .ok (.iload_n 1, 1) := by decide +kernel
theorem dX12_hangs_1 : decode cX12_hangs 1 = .ok (.iconst 0, 1) := by decide +kernel
theorem dX12_hangs_2 : decode cX12_hangs 2 = .ok (.bipush 9, 2) := by decide +kernel
theorem dX12_hangs_4 : decode cX12_hangs 4 = .ok (.invokestatic 46, 3) := by decide +kernel
theorem dX12_hangs_7 : decode cX12_hangs 7 = .ok (.ifCond .eq 13, 3) := by decide +kernel
theorem dX12_hangs_10 : decode cX12_hangs 10 = .ok (.iload_n 2, 1) := by decide +kernel
theorem dX12_hangs_11 : decode cX12_hangs 11 = .ok (.iconst 0, 1) := by decide +kernel
theorem dX12_hangs_12 : decode cX12_hangs 12 = .ok (.bipush 7, 2) := by decide +kernel
theorem dX12_hangs_14 : decode cX12_hangs 14 = .ok (.invokestatic 46, 3) := by decide +kernel
theorem dX12_hangs_17 : decode cX12_hangs 17 = .ok (.ifCond .ne 5, 3) := by decide +kernel
theorem dX12_hangs_20 : decode cX12_hangs 20 = .ok (.iconst (-1), 1) := by decide +kernel
theorem dX12_hangs_21 : decode cX12_hangs 21 = .ok (.ireturn, 1) := by decide +kernel
theorem dX12_hangs_22 : decode cX12_hangs 22 = .ok (.bipush 10, 2) := by decide +kernel
theorem dX12_hangs_24 : decode cX12_hangs 24 = .ok (.aload_n 0, 1) := by decide +kernel
theorem dX12_hangs_25 : decode cX12_hangs 25 = .ok (.getfield 9, 3) := by decide +kernel
theorem dX12_hangs_28 : decode cX12_hangs 28 = .ok (.iconst 3, 1) := by decide +kernel
theorem dX12_hangs_29 : decode cX12_hangs 29 = .ok (.iaload, 1) := by decide +kernel
theorem dX12_hangs_30 : decode cX12_hangs 30 = .ok (.imul, 1) := by decide +kernel
theorem dX12_hangs_31 : decode cX12_hangs 31 = .ok (.aload_n 0, 1) := by decide +kernel
theorem dX12_hangs_32 : decode cX12_hangs 32 = .ok (.getfield 9, 3) := by decide +kernel
theorem dX12_hangs_35 : decode cX12_hangs 35 = .ok (.iconst 2, 1) := by decide +kernel
theorem dX12_hangs_36 : decode cX12_hangs 36 = .ok (.iaload, 1) := by decide +kernel
theorem dX12_hangs_37 : decode cX12_hangs 37 = .ok (.iadd, 1) := by decide +kernel
theorem dX12_hangs_38 : decode cX12_hangs 38 = .ok (.istore_n 3, 1) := by decide +kernel
theorem dX12_hangs_39 : decode cX12_hangs 39 = .ok (.aload_n 0, 1) := by decide +kernel
theorem dX12_hangs_40 : decode cX12_hangs 40 = .ok (.getfield 9, 3) := by decide +kernel
theorem dX12_hangs_43 : decode cX12_hangs 43 = .ok (.iconst 3, 1) := by decide +kernel
theorem dX12_hangs_44 : decode cX12_hangs 44 = .ok (.iload_n 1, 1) := by decide +kernel
theorem dX12_hangs_45 : decode cX12_hangs 45 = .ok (.iastore, 1) := by decide +kernel
theorem dX12_hangs_46 : decode cX12_hangs 46 = .ok (.aload_n 0, 1) := by decide +kernel
theorem dX12_hangs_47 : decode cX12_hangs 47 = .ok (.getfield 9, 3) := by decide +kernel
theorem dX12_hangs_50 : decode cX12_hangs 50 = .ok (.iconst 2, 1) := by decide +kernel
theorem dX12_hangs_51 : decode cX12_hangs 51 = .ok (.iload_n 2, 1) := by decide +kernel
theorem dX12_hangs_52 : decode cX12_hangs 52 = .ok (.iastore, 1) := by decide +kernel
theorem dX12_hangs_53 : decode cX12_hangs 53 = .ok (.iload_n 3, 1) := by decide +kernel
theorem dX12_hangs_54 : decode cX12_hangs 54 = .ok (.ireturn, 1) := by decide +kernel
set_option maxRecDepth 20000 in
theorem ggX12_days_X12_isIn : GoodIn wsX12_days wsX12_isIn := goodIn_r _ [5] (by decide +kernel) (by decide +kernel)
set_option maxRecDepth 20000 in
theorem gX12_days_X12_isIn : GoodIn wsX12_days (va_wsS RX12 46 yX12_isIn wsX12_isIn) := goodIn_app (goodIn_of _ (by decide +kernel)) ggX12_days_X12_isIn
set_option maxRecDepth 20000 in
theorem ggX12_days_X12_daysOn : GoodIn wsX12_days wsX12_daysOn := goodIn_r _ [8, 9, 10, 4, 11, 12, 13, 14, 15, 16, 17, 18, 19, 20, 21, 22, 23, 24, 25, 26, 27, 28, 29, 30, 31, 32, 33, 34, 35, 36, 37, 38, 39, 40, 41, 42, 43, 44, 45, 46, 47, 48, 49, 50, 51, 52, 53, 54, 55, 56, 57, 58, 59] (by decide +kernel) (by decide +kernel)
set_option maxRecDepth 20000 in
theorem gX12_days_X12_daysOn : GoodIn wsX12_days (va_wsS RX12 134 yX12_daysOn wsX12_daysOn) := goodIn_app (goodIn_of _ (by decide +kernel)) ggX12_days_X12_daysOn
set_option maxRecDepth 20000 in
theorem ggX12_days_X12_upright : GoodIn wsX12_days wsX12_upright := goodIn_r _ [41, 15, 16, 4, 17, 42, 43, 44, 27, 28, 29, 45, 46, 47] (by decide +kernel) (by decide +kernel)
set_option maxRecDepth 20000 in
theorem gX12_days_X12_upright : GoodIn wsX12_days (va_wsS RX12 96 yX12_upright wsX12_upright) := goodIn_app (goodIn_of _ (by decide +kernel)) ggX12_days_X12_upright
set_option maxRecDepth 20000 in
theorem ggX12_days_X12_bits : GoodIn wsX12_days wsX12_bits := goodIn_r _ [50] (by decide +kernel) (by decide +kernel)
set_option maxRecDepth 20000 in
theorem gX12_days_X12_bits : GoodIn wsX12_days (va_wsS RX12 99 yX12_bits wsX12_bits) := goodIn_app (goodIn_of _ (by decide +kernel)) ggX12_days_X12_bits
theorem dX12_days_0 : decode cX12_days 0 = .ok (.iload_n 1, 1) := by decide +kernel
theorem dX12_days_1 : decode cX12_days 1 = .ok (.iconst 1, 1) := by decide +kernel
theorem dX12_days_2 : decode cX12_days 2 = .ok (.bipush 60, 2) := by decide +kernel
theorem dX12_days_4 : decode cX12_days 4 = .ok (.invokestatic 46, 3) := by decide +kernel
theorem dX12_days_7 : decode cX12_days 7 = .ok (.ifCond .ne 5, 3) := by decide +kernel
theorem dX12_days_10 : decode cX12_days 10 = .ok (.iconst (-1), 1) := by decide +kernel
theorem dX12_days_11 : decode cX12_days 11 = .ok (.ireturn, 1) := by decide +kernel
theorem dX12_days_12 : decode cX12_days 12 = .ok (.aload_n 0, 1) := by decide +kernel
theorem dX12_days_13 : decode cX12_days 13 = .ok (.getfield 9, 3) := by decide +kernel
theorem dX12_days_16 : decode cX12_days 16 = .ok (.iconst 1, 1) := by decide +kernel
theorem dX12_days_17 : decode cX12_days 17 = .ok (.iaload, 1) := by decide +kernel
theorem dX12_days_18 : decode cX12_days 18 = .ok (.iload_n 1, 1) := by decide +kernel
theorem dX12_days_19 : decode cX12_days 19 = .ok (.iadd, 1) := by decide +kernel
theorem dX12_days_20 : decode cX12_days 20 = .ok (.sipush 999, 3) := by decide +kernel
theorem dX12_days_23 : decode cX12_days 23 = .ok (.if_icmp .le 6, 3) := by decide +kernel
theorem dX12_days_26 : decode cX12_days 26 = .ok (.bipush (-3), 2) := by decide +kernel
theorem dX12_days_28 : decode cX12_days 28 = .ok (.ireturn, 1) := by decide +kernel
theorem dX12_days_29 : decode cX12_days 29 = .ok (.aload_n 0, 1) := by decide +kernel
theorem dX12_days_30 : decode cX12_days 30 = .ok (.getfield 9, 3) := by decide +kernel
theorem dX12_days_33 : decode cX12_days 33 = .ok (.iload_n 1, 1) := by decide +kernel
theorem dX12_days_34 : decode cX12_days 34 = .ok (.invokestatic 134, 3) := by decide +kernel
theorem dX12_days_37 : decode cX12_days 37 = .ok (.aload_n 0, 1) := by decide +kernel
theorem dX12_days_38 : decode cX12_days 38 = .ok (.getfield 9, 3) := by decide +kernel
theorem dX12_days_41 : decode cX12_days 41 = .ok (.invokestatic 96, 3) := by decide +kernel
theorem dX12_days_44 : decode cX12_days 44 = .ok (.invokestatic 99, 3) := by decide +kernel
theorem dX12_days_47 : decode cX12_days 47 = .ok (.ireturn, 1) := by decide +kernel
set_option maxRecDepth 20000 in
theorem ggX12_isLate_X12_isIn : GoodIn wsX12_isLate wsX12_isIn := goodIn_r _ [4] (by decide +kernel) (by decide +kernel)
set_option maxRecDepth 20000 in
theorem gX12_isLate_X12_isIn : GoodIn wsX12_isLate (va_wsS RX12 46 yX12_isIn wsX12_isIn) := goodIn_app (goodIn_of _ (by decide +kernel)) ggX12_isLate_X12_isIn
theorem dX12_isLate_0 : decode cX12_isLate 0 = .ok (.iload_n 0, 1) := by decide +kernel
theorem dX12_isLate_1 : decode cX12_isLate 1 = .ok (.iconst 0, 1) := by decide +kernel
theorem dX12_isLate_2 : decode cX12_isLate 2 = .ok (.bipush 60, 2) := by decide +kernel
theorem dX12_isLate_4 : decode cX12_isLate 4 = .ok (.invokestatic 46, 3) := by decide +kernel
theorem dX12_isLate_7 : decode cX12_isLate 7 = .ok (.ireturn, 1) := by decide +kernel
set_option maxRecDepth 20000 in
theorem ggX12_takes_X12_copies : GoodIn wsX12_takes wsX12_copies := goodIn_r _ [6] (by decide +kernel) (by decide +kernel)
set_option maxRecDepth 20000 in
theorem gX12_takes_X12_copies : GoodIn wsX12_takes (va_wsS RX12 145 yX12_copies wsX12_copies) := goodIn_app (goodIn_of _ (by decide +kernel)) ggX12_takes_X12_copies
set_option maxRecDepth 20000 in
theorem ggX12_takes_X12_daysOn : GoodIn wsX12_takes wsX12_daysOn := goodIn_r _ [9, 10, 11, 5, 12, 13, 14, 15, 16, 17, 18, 19, 20, 21, 22, 23, 24, 25, 26, 27, 28, 29, 30, 31, 32, 33, 34, 35, 36, 37, 38, 39, 40, 41, 42, 43, 44, 45, 46, 47, 48, 49, 50, 51, 52, 53, 54, 55, 56, 57, 58, 59, 60] (by decide +kernel) (by decide +kernel)
set_option maxRecDepth 20000 in
theorem gX12_takes_X12_daysOn : GoodIn wsX12_takes (va_wsS RX12 134 yX12_daysOn wsX12_daysOn) := goodIn_app (goodIn_of _ (by decide +kernel)) ggX12_takes_X12_daysOn
theorem dX12_takes_0 : decode cX12_takes 0 = .ok (.aload_n 0, 1) := by decide +kernel
theorem dX12_takes_1 : decode cX12_takes 1 = .ok (.getfield 9, 3) := by decide +kernel
theorem dX12_takes_4 : decode cX12_takes 4 = .ok (.aload_n 0, 1) := by decide +kernel
theorem dX12_takes_5 : decode cX12_takes 5 = .ok (.getfield 13, 3) := by decide +kernel
theorem dX12_takes_8 : decode cX12_takes 8 = .ok (.invokestatic 145, 3) := by decide +kernel
theorem dX12_takes_11 : decode cX12_takes 11 = .ok (.aload_n 0, 1) := by decide +kernel
theorem dX12_takes_12 : decode cX12_takes 12 = .ok (.getfield 13, 3) := by decide +kernel
theorem dX12_takes_15 : decode cX12_takes 15 = .ok (.iload_n 1, 1) := by decide +kernel
theorem dX12_takes_16 : decode cX12_takes 16 = .ok (.invokestatic 134, 3) := by decide +kernel
theorem dX12_takes_19 : decode cX12_takes 19 = .ok (.return_, 1) := by decide +kernel
set_option maxRecDepth 20000 in
theorem ggX12_leanThen_X12_isMan : GoodIn wsX12_leanThen wsX12_isMan := goodIn_r _ [7, 8, 9, 10, 6, 11, 76, 77, 78, 79, 80, 81, 82, 83, 84, 85, 86, 87, 88, 89, 90, 91, 92, 93] (by decide +kernel) (by decide +kernel)
set_option maxRecDepth 20000 in
theorem gX12_leanThen_X12_isMan : GoodIn wsX12_leanThen (wsV RX12 50 RX12 yX12_isMan wsX12_isMan) := goodIn_app (goodIn_of _ (by decide +kernel)) ggX12_leanThen_X12_isMan
set_option maxRecDepth 20000 in
theorem ggX12_leanThen_X12_isLate : GoodIn wsX12_leanThen wsX12_isLate := goodIn_r _ [14, 9, 10, 6, 11] (by decide +kernel) (by decide +kernel)
set_option maxRecDepth 20000 in
theorem gX12_leanThen_X12_isLate : GoodIn wsX12_leanThen (va_wsS RX12 171 yX12_isLate wsX12_isLate) := goodIn_app (goodIn_of _ (by decide +kernel)) ggX12_leanThen_X12_isLate
set_option maxRecDepth 20000 in
theorem ggX12_leanThen_X12_takes : GoodIn wsX12_leanThen wsX12_takes := goodIn_r _ [18, 8, 2, 19, 20, 6, 21, 22, 23, 24, 25, 26, 27, 28, 29, 30, 31, 32, 33, 34, 35, 36, 37, 38, 39, 40, 41, 42, 43, 44, 45, 46, 47, 48, 49, 50, 51, 52, 53, 54, 55, 56, 57, 58, 59, 60, 61, 62, 63, 64, 65, 66, 67, 68, 69, 70, 71, 72, 73, 74, 75, 76, 77, 78, 79, 80, 81, 82, 83, 84, 85, 86, 87, 88, 89, 90, 91, 92, 93] (by decide +kernel) (by decide +kernel)
set_option maxRecDepth 20000 in
theorem gX12_leanThen_X12_takes : GoodIn wsX12_leanThen (wsV RX12 174 RX12 yX12_takes wsX12_takes) := goodIn_app (goodIn_of _ (by decide +kernel)) ggX12_leanThen_X12_takes
set_option maxRecDepth 20000 in
theorem ggX12_leanThen_X12_of : GoodIn wsX12_leanThen wsX12_of := goodIn_r _ [33] (by decide +kernel) (by decide +kernel)
set_option maxRecDepth 20000 in
theorem gX12_leanThen_X12_of : GoodIn wsX12_leanThen (va_wsS RX12 72 yX12_of wsX12_of) := goodIn_app (goodIn_of _ (by decide +kernel)) ggX12_leanThen_X12_of
theorem dX12_leanThen_0 : decode cX12_leanThen 0 = .ok (.aload_n 0, 1) := by decide +kernel
theorem dX12_leanThen_1 : decode cX12_leanThen 1 = .ok (.iload_n 1, 1) := by decide +kernel
theorem dX12_leanThen_2 : decode cX12_leanThen 2 = .ok (.invokevirtual 50, 3) := by decide +kernel
theorem dX12_leanThen_5 : decode cX12_leanThen 5 = .ok (.ifCond .eq 10, 3) := by decide +kernel
theorem dX12_leanThen_8 : decode cX12_leanThen 8 = .ok (.iload_n 2, 1) := by decide +kernel
theorem dX12_leanThen_9 : decode cX12_leanThen 9 = .ok (.invokestatic 171, 3) := by decide +kernel
theorem dX12_leanThen_12 : decode cX12_leanThen 12 = .ok (.ifCond .ne 6, 3) := by decide +kernel
theorem dX12_leanThen_15 : decode cX12_leanThen 15 = .ok (.ldc 155, 2) := by decide +kernel
theorem dX12_leanThen_17 : decode cX12_leanThen 17 = .ok (.ireturn, 1) := by decide +kernel
theorem dX12_leanThen_18 : decode cX12_leanThen 18 = .ok (.aload_n 0, 1) := by decide +kernel
theorem dX12_leanThen_19 : decode cX12_leanThen 19 = .ok (.iload_n 2, 1) := by decide +kernel
theorem dX12_leanThen_20 : decode cX12_leanThen 20 = .ok (.invokevirtual 174, 3) := by decide +kernel
theorem dX12_leanThen_23 : decode cX12_leanThen 23 = .ok (.aload_n 0, 1) := by decide +kernel
theorem dX12_leanThen_24 : decode cX12_leanThen 24 = .ok (.getfield 13, 3) := by decide +kernel
theorem dX12_leanThen_27 : decode cX12_leanThen 27 = .ok (.iload_n 1, 1) := by decide +kernel
theorem dX12_leanThen_28 : decode cX12_leanThen 28 = .ok (.iconst 2, 1) := by decide +kernel
theorem dX12_leanThen_29 : decode cX12_leanThen 29 = .ok (.invokestatic 72, 3) := by decide +kernel
theorem dX12_leanThen_32 : decode cX12_leanThen 32 = .ok (.iaload, 1) := by decide +kernel
theorem dX12_leanThen_33 : decode cX12_leanThen 33 = .ok (.ireturn, 1) := by decide +kernel
set_option maxRecDepth 20000 in
theorem ggX12_then_X12_isLate : GoodIn wsX12_then wsX12_isLate := goodIn_r _ [5, 6, 7, 4, 8] (by decide +kernel) (by decide +kernel)
set_option maxRecDepth 20000 in
theorem gX12_then_X12_isLate : GoodIn wsX12_then (va_wsS RX12 171 yX12_isLate wsX12_isLate) := goodIn_app (goodIn_of _ (by decide +kernel)) ggX12_then_X12_isLate
set_option maxRecDepth 20000 in
theorem ggX12_then_X12_isIn : GoodIn wsX12_then wsX12_isIn := goodIn_r _ [8] (by decide +kernel) (by decide +kernel)
set_option maxRecDepth 20000 in
theorem gX12_then_X12_isIn : GoodIn wsX12_then (va_wsS RX12 46 yX12_isIn wsX12_isIn) := goodIn_app (goodIn_of _ (by decide +kernel)) ggX12_then_X12_isIn
set_option maxRecDepth 20000 in
theorem ggX12_then_X12_takes : GoodIn wsX12_then wsX12_takes := goodIn_r _ [12, 13, 1, 14, 15, 4, 16, 17, 18, 19, 20, 21, 22, 23, 24, 25, 26, 27, 28, 29, 30, 31, 32, 33, 34, 35, 36, 37, 38, 39, 40, 41, 42, 43, 44, 45, 46, 47, 48, 49, 50, 51, 52, 53, 54, 55, 56, 57, 58, 59, 60, 61, 62, 63, 64, 65, 66, 67, 68, 69, 70, 71, 72, 73, 74, 75, 76, 77, 78, 79, 80, 81, 82, 83, 84, 85, 86, 87, 88] (by decide +kernel) (by decide +kernel)
set_option maxRecDepth 20000 in
theorem gX12_then_X12_takes : GoodIn wsX12_then (wsV RX12 174 RX12 yX12_takes wsX12_takes) := goodIn_app (goodIn_of _ (by decide +kernel)) ggX12_then_X12_takes
set_option maxRecDepth 20000 in
theorem ggX12_then_X12_upright : GoodIn wsX12_then wsX12_upright := goodIn_r _ [52, 26, 27, 4, 28, 53, 54, 55, 38, 39, 40, 56, 57, 58] (by decide +kernel) (by decide +kernel)
set_option maxRecDepth 20000 in
theorem gX12_then_X12_upright : GoodIn wsX12_then (va_wsS RX12 96 yX12_upright wsX12_upright) := goodIn_app (goodIn_of _ (by decide +kernel)) ggX12_then_X12_upright
theorem dX12_then_0 : decode cX12_then 0 = .ok (.iload_n 1, 1) := by decide +kernel
theorem dX12_then_1 : decode cX12_then 1 = .ok (.invokestatic 171, 3) := by decide +kernel
theorem dX12_then_4 : decode cX12_then 4 = .ok (.ifCond .eq 12, 3) := by decide +kernel
theorem dX12_then_7 : decode cX12_then 7 = .ok (.iload_n 2, 1) := by decide +kernel
theorem dX12_then_8 : decode cX12_then 8 = .ok (.iconst 0, 1) := by decide +kernel
theorem dX12_then_9 : decode cX12_then 9 = .ok (.iconst 3, 1) := by decide +kernel
theorem dX12_then_10 : decode cX12_then 10 = .ok (.invokestatic 46, 3) := by decide +kernel
theorem dX12_then_13 : decode cX12_then 13 = .ok (.ifCond .ne 5, 3) := by decide +kernel
theorem dX12_then_16 : decode cX12_then 16 = .ok (.iconst (-1), 1) := by decide +kernel
theorem dX12_then_17 : decode cX12_then 17 = .ok (.ireturn, 1) := by decide +kernel
theorem dX12_then_18 : decode cX12_then 18 = .ok (.aload_n 0, 1) := by decide +kernel
theorem dX12_then_19 : decode cX12_then 19 = .ok (.iload_n 1, 1) := by decide +kernel
theorem dX12_then_20 : decode cX12_then 20 = .ok (.invokevirtual 174, 3) := by decide +kernel
theorem dX12_then_23 : decode cX12_then 23 = .ok (.iload_n 2, 1) := by decide +kernel
theorem dX12_then_24 : decode cX12_then 24 = .ok (.iconst 3, 1) := by decide +kernel
theorem dX12_then_25 : decode cX12_then 25 = .ok (.if_icmp .ne 13, 3) := by decide +kernel
theorem dX12_then_28 : decode cX12_then 28 = .ok (.aload_n 0, 1) := by decide +kernel
theorem dX12_then_29 : decode cX12_then 29 = .ok (.getfield 13, 3) := by decide +kernel
theorem dX12_then_32 : decode cX12_then 32 = .ok (.invokestatic 96, 3) := by decide +kernel
theorem dX12_then_35 : decode cX12_then 35 = .ok (.goto 11, 3) := by decide +kernel
theorem dX12_then_38 : decode cX12_then 38 = .ok (.aload_n 0, 1) := by decide +kernel
theorem dX12_then_39 : decode cX12_then 39 = .ok (.getfield 13, 3) := by decide +kernel
theorem dX12_then_42 : decode cX12_then 42 = .ok (.iconst 2, 1) := by decide +kernel
theorem dX12_then_43 : decode cX12_then 43 = .ok (.iload_n 2, 1) := by decide +kernel
theorem dX12_then_44 : decode cX12_then 44 = .ok (.iadd, 1) := by decide +kernel
theorem dX12_then_45 : decode cX12_then 45 = .ok (.iaload, 1) := by decide +kernel
theorem dX12_then_46 : decode cX12_then 46 = .ok (.ireturn, 1) := by decide +kernel
set_option maxRecDepth 20000 in
theorem ggX12_straight_X12_isMan : GoodIn wsX12_straight wsX12_isMan := goodIn_r _ [7, 1, 8, 9, 6, 10, 65, 66, 67, 68, 69, 70, 71, 72, 73, 74, 75, 76, 77, 78, 79, 80, 81, 82] (by decide +kernel) (by decide +kernel)
set_option maxRecDepth 20000 in
theorem gX12_straight_X12_isMan : GoodIn wsX12_straight (wsV RX12 50 RX12 yX12_isMan wsX12_isMan) := goodIn_app (goodIn_of _ (by decide +kernel)) ggX12_straight_X12_isMan
set_option maxRecDepth 20000 in
theorem ggX12_straight_X12_copies : GoodIn wsX12_straight wsX12_copies := goodIn_r _ [13] (by decide +kernel) (by decide +kernel)
set_option maxRecDepth 20000 in
theorem gX12_straight_X12_copies : GoodIn wsX12_straight (va_wsS RX12 145 yX12_copies wsX12_copies) := goodIn_app (goodIn_of _ (by decide +kernel)) ggX12_straight_X12_copies
set_option maxRecDepth 20000 in
theorem ggX12_straight_X12_of : GoodIn wsX12_straight wsX12_of := goodIn_r _ [16] (by decide +kernel) (by decide +kernel)
set_option maxRecDepth 20000 in
theorem gX12_straight_X12_of : GoodIn wsX12_straight (va_wsS RX12 72 yX12_of wsX12_of) := goodIn_app (goodIn_of _ (by decide +kernel)) ggX12_straight_X12_of
set_option maxRecDepth 20000 in
theorem ggX12_straight_X12_day : GoodIn wsX12_straight wsX12_day := goodIn_r _ [19, 20, 21, 6, 22, 14, 15, 16, 23, 24, 25, 26, 27, 28, 29, 30, 31, 32, 33, 34, 35, 36, 37, 38, 39, 40, 41, 42, 43, 44, 45, 46, 47, 48, 49, 50, 51, 52, 53, 54, 55, 56, 57, 58, 59, 60, 61, 62, 63, 64] (by decide +kernel) (by decide +kernel)
set_option maxRecDepth 20000 in
theorem gX12_straight_X12_day : GoodIn wsX12_straight (va_wsS RX12 109 yX12_day wsX12_day) := goodIn_app (goodIn_of _ (by decide +kernel)) ggX12_straight_X12_day
theorem dX12_straight_0 : decode cX12_straight 0 = .ok (.aload_n 0, 1) := by decide +kernel
theorem dX12_straight_1 : decode cX12_straight 1 = .ok (.iload_n 1, 1) := by decide +kernel
theorem dX12_straight_2 : decode cX12_straight 2 = .ok (.invokevirtual 50, 3) := by decide +kernel
theorem dX12_straight_5 : decode cX12_straight 5 = .ok (.ifCond .ne 5, 3) := by decide +kernel
theorem dX12_straight_8 : decode cX12_straight 8 = .ok (.iconst (-1), 1) := by decide +kernel
theorem dX12_straight_9 : decode cX12_straight 9 = .ok (.ireturn, 1) := by decide +kernel
theorem dX12_straight_10 : decode cX12_straight 10 = .ok (.aload_n 0, 1) := by decide +kernel
theorem dX12_straight_11 : decode cX12_straight 11 = .ok (.getfield 9, 3) := by decide +kernel
theorem dX12_straight_14 : decode cX12_straight 14 = .ok (.aload_n 0, 1) := by decide +kernel
theorem dX12_straight_15 : decode cX12_straight 15 = .ok (.getfield 13, 3) := by decide +kernel
theorem dX12_straight_18 : decode cX12_straight 18 = .ok (.invokestatic 145, 3) := by decide +kernel
theorem dX12_straight_21 : decode cX12_straight 21 = .ok (.iconst 0, 1) := by decide +kernel
theorem dX12_straight_22 : decode cX12_straight 22 = .ok (.istore_n 2, 1) := by decide +kernel
theorem dX12_straight_23 : decode cX12_straight 23 = .ok (.iload_n 2, 1) := by decide +kernel
theorem dX12_straight_24 : decode cX12_straight 24 = .ok (.bipush 60, 2) := by decide +kernel
theorem dX12_straight_26 : decode cX12_straight 26 = .ok (.if_icmp .gt 31, 3) := by decide +kernel
theorem dX12_straight_29 : decode cX12_straight 29 = .ok (.aload_n 0, 1) := by decide +kernel
theorem dX12_straight_30 : decode cX12_straight 30 = .ok (.getfield 13, 3) := by decide +kernel
theorem dX12_straight_33 : decode cX12_straight 33 = .ok (.iload_n 1, 1) := by decide +kernel
theorem dX12_straight_34 : decode cX12_straight 34 = .ok (.iconst 2, 1) := by decide +kernel
theorem dX12_straight_35 : decode cX12_straight 35 = .ok (.invokestatic 72, 3) := by decide +kernel
theorem dX12_straight_38 : decode cX12_straight 38 = .ok (.iaload, 1) := by decide +kernel
theorem dX12_straight_39 : decode cX12_straight 39 = .ok (.ifCond .ne 5, 3) := by decide +kernel
theorem dX12_straight_42 : decode cX12_straight 42 = .ok (.iload_n 2, 1) := by decide +kernel
theorem dX12_straight_43 : decode cX12_straight 43 = .ok (.ireturn, 1) := by decide +kernel
theorem dX12_straight_44 : decode cX12_straight 44 = .ok (.aload_n 0, 1) := by decide +kernel
theorem dX12_straight_45 : decode cX12_straight 45 = .ok (.getfield 13, 3) := by decide +kernel
theorem dX12_straight_48 : decode cX12_straight 48 = .ok (.invokestatic 109, 3) := by decide +kernel
theorem dX12_straight_51 : decode cX12_straight 51 = .ok (.iinc 2 1, 3) := by decide +kernel
theorem dX12_straight_54 : decode cX12_straight 54 = .ok (.goto (-31), 3) := by decide +kernel
theorem dX12_straight_57 : decode cX12_straight 57 = .ok (.bipush (-4), 2) := by decide +kernel
theorem dX12_straight_59 : decode cX12_straight 59 = .ok (.ireturn, 1) := by decide +kernel
set_option maxRecDepth 20000 in
theorem ggX12_firstCrash_X12_copies : GoodIn wsX12_firstCrash wsX12_copies := goodIn_r _ [6] (by decide +kernel) (by decide +kernel)
set_option maxRecDepth 20000 in
theorem gX12_firstCrash_X12_copies : GoodIn wsX12_firstCrash (va_wsS RX12 145 yX12_copies wsX12_copies) := goodIn_app (goodIn_of _ (by decide +kernel)) ggX12_firstCrash_X12_copies
set_option maxRecDepth 20000 in
theorem ggX12_firstCrash_X12_day : GoodIn wsX12_firstCrash wsX12_day := goodIn_r _ [9, 10, 11, 5, 12, 13, 14, 15, 16, 17, 18, 19, 20, 21, 22, 23, 24, 25, 26, 27, 28, 29, 30, 31, 32, 33, 34, 35, 36, 37, 38, 39, 40, 41, 42, 43, 44, 45, 46, 47, 48, 49, 50, 51, 52, 53, 54, 55, 56, 57] (by decide +kernel) (by decide +kernel)
set_option maxRecDepth 20000 in
theorem gX12_firstCrash_X12_day : GoodIn wsX12_firstCrash (va_wsS RX12 109 yX12_day wsX12_day) := goodIn_app (goodIn_of _ (by decide +kernel)) ggX12_firstCrash_X12_day
theorem dX12_firstCrash_0 : decode cX12_firstCrash 0 = .ok (.aload_n 0, 1) := by decide +kernel
theorem dX12_firstCrash_1 : decode cX12_firstCrash 1 = .ok (.getfield 9, 3) := by decide +kernel
theorem dX12_firstCrash_4 : decode cX12_firstCrash 4 = .ok (.aload_n 0, 1) := by decide +kernel
theorem dX12_firstCrash_5 : decode cX12_firstCrash 5 = .ok (.getfield 13, 3) := by decide +kernel
theorem dX12_firstCrash_8 : decode cX12_firstCrash 8 = .ok (.invokestatic 145, 3) := by decide +kernel
theorem dX12_firstCrash_11 : decode cX12_firstCrash 11 = .ok (.aload_n 0, 1) := by decide +kernel
theorem dX12_firstCrash_12 : decode cX12_firstCrash 12 = .ok (.getfield 13, 3) := by decide +kernel
theorem dX12_firstCrash_15 : decode cX12_firstCrash 15 = .ok (.iconst 4, 1) := by decide +kernel
theorem dX12_firstCrash_16 : decode cX12_firstCrash 16 = .ok (.iconst 0, 1) := by decide +kernel
theorem dX12_firstCrash_17 : decode cX12_firstCrash 17 = .ok (.iastore, 1) := by decide +kernel
theorem dX12_firstCrash_18 : decode cX12_firstCrash 18 = .ok (.iconst 1, 1) := by decide +kernel
theorem dX12_firstCrash_19 : decode cX12_firstCrash 19 = .ok (.istore_n 1, 1) := by decide +kernel
theorem dX12_firstCrash_20 : decode cX12_firstCrash 20 = .ok (.iload_n 1, 1) := by decide +kernel
theorem dX12_firstCrash_21 : decode cX12_firstCrash 21 = .ok (.bipush 60, 2) := by decide +kernel
theorem dX12_firstCrash_23 : decode cX12_firstCrash 23 = .ok (.if_icmp .gt 27, 3) := by decide +kernel
theorem dX12_firstCrash_26 : decode cX12_firstCrash 26 = .ok (.aload_n 0, 1) := by decide +kernel
theorem dX12_firstCrash_27 : decode cX12_firstCrash 27 = .ok (.getfield 13, 3) := by decide +kernel
theorem dX12_firstCrash_30 : decode cX12_firstCrash 30 = .ok (.invokestatic 109, 3) := by decide +kernel
theorem dX12_firstCrash_33 : decode cX12_firstCrash 33 = .ok (.aload_n 0, 1) := by decide +kernel
theorem dX12_firstCrash_34 : decode cX12_firstCrash 34 = .ok (.getfield 13, 3) := by decide +kernel
theorem dX12_firstCrash_37 : decode cX12_firstCrash 37 = .ok (.iconst 4, 1) := by decide +kernel
theorem dX12_firstCrash_38 : decode cX12_firstCrash 38 = .ok (.iaload, 1) := by decide +kernel
theorem dX12_firstCrash_39 : decode cX12_firstCrash 39 = .ok (.ifCond .le 5, 3) := by decide +kernel
theorem dX12_firstCrash_42 : decode cX12_firstCrash 42 = .ok (.iload_n 1, 1) := by decide +kernel
theorem dX12_firstCrash_43 : decode cX12_firstCrash 43 = .ok (.ireturn, 1) := by decide +kernel
theorem dX12_firstCrash_44 : decode cX12_firstCrash 44 = .ok (.iinc 1 1, 3) := by decide +kernel
theorem dX12_firstCrash_47 : decode cX12_firstCrash 47 = .ok (.goto (-27), 3) := by decide +kernel
theorem dX12_firstCrash_50 : decode cX12_firstCrash 50 = .ok (.bipush (-4), 2) := by decide +kernel
theorem dX12_firstCrash_52 : decode cX12_firstCrash 52 = .ok (.ireturn, 1) := by decide +kernel
set_option maxRecDepth 20000 in
theorem ggX12_isMoved_X12_copies : GoodIn wsX12_isMoved wsX12_copies := goodIn_r _ [6] (by decide +kernel) (by decide +kernel)
set_option maxRecDepth 20000 in
theorem gX12_isMoved_X12_copies : GoodIn wsX12_isMoved (va_wsS RX12 145 yX12_copies wsX12_copies) := goodIn_app (goodIn_of _ (by decide +kernel)) ggX12_isMoved_X12_copies
set_option maxRecDepth 20000 in
theorem ggX12_isMoved_X12_day : GoodIn wsX12_isMoved wsX12_day := goodIn_r _ [9, 10, 11, 5, 12, 13, 14, 15, 16, 17, 18, 19, 20, 21, 22, 23, 24, 25, 26, 27, 28, 29, 30, 31, 32, 33, 34, 35, 36, 37, 38, 39, 40, 41, 42, 43, 44, 45, 46, 47, 48, 49, 50, 51, 52, 53, 54, 55, 56, 57] (by decide +kernel) (by decide +kernel)
set_option maxRecDepth 20000 in
theorem gX12_isMoved_X12_day : GoodIn wsX12_isMoved (va_wsS RX12 109 yX12_day wsX12_day) := goodIn_app (goodIn_of _ (by decide +kernel)) ggX12_isMoved_X12_day
set_option maxRecDepth 20000 in
theorem ggX12_isMoved_X12_of : GoodIn wsX12_isMoved wsX12_of := goodIn_r _ [15] (by decide +kernel) (by decide +kernel)
set_option maxRecDepth 20000 in
theorem gX12_isMoved_X12_of : GoodIn wsX12_isMoved (va_wsS RX12 72 yX12_of wsX12_of) := goodIn_app (goodIn_of _ (by decide +kernel)) ggX12_isMoved_X12_of
theorem dX12_isMoved_0 : decode cX12_isMoved 0 = .ok (.iconst 0, 1) := by decide +kernel
theorem dX12_isMoved_1 : decode cX12_isMoved 1 = .ok (.istore_n 1, 1) := by decide +kernel
theorem dX12_isMoved_2 : decode cX12_isMoved 2 = .ok (.aload_n 0, 1) := by decide +kernel
theorem dX12_isMoved_3 : decode cX12_isMoved 3 = .ok (.getfield 13, 3) := by decide +kernel
theorem dX12_isMoved_6 : decode cX12_isMoved 6 = .ok (.aload_n 0, 1) := by decide +kernel
theorem dX12_isMoved_7 : decode cX12_isMoved 7 = .ok (.getfield 19, 3) := by decide +kernel
theorem dX12_isMoved_10 : decode cX12_isMoved 10 = .ok (.invokestatic 145, 3) := by decide +kernel
theorem dX12_isMoved_13 : decode cX12_isMoved 13 = .ok (.aload_n 0, 1) := by decide +kernel
theorem dX12_isMoved_14 : decode cX12_isMoved 14 = .ok (.getfield 13, 3) := by decide +kernel
theorem dX12_isMoved_17 : decode cX12_isMoved 17 = .ok (.invokestatic 109, 3) := by decide +kernel
theorem dX12_isMoved_20 : decode cX12_isMoved 20 = .ok (.iconst 0, 1) := by decide +kernel
theorem dX12_isMoved_21 : decode cX12_isMoved 21 = .ok (.istore_n 2, 1) := by decide +kernel
theorem dX12_isMoved_22 : decode cX12_isMoved 22 = .ok (.iload_n 2, 1) := by decide +kernel
theorem dX12_isMoved_23 : decode cX12_isMoved 23 = .ok (.aload_n 0, 1) := by decide +kernel
theorem dX12_isMoved_24 : decode cX12_isMoved 24 = .ok (.getfield 13, 3) := by decide +kernel
theorem dX12_isMoved_27 : decode cX12_isMoved 27 = .ok (.iconst 0, 1) := by decide +kernel
theorem dX12_isMoved_28 : decode cX12_isMoved 28 = .ok (.iaload, 1) := by decide +kernel
theorem dX12_isMoved_29 : decode cX12_isMoved 29 = .ok (.if_icmp .ge 40, 3) := by decide +kernel
theorem dX12_isMoved_32 : decode cX12_isMoved 32 = .ok (.iload_n 1, 1) := by decide +kernel
theorem dX12_isMoved_33 : decode cX12_isMoved 33 = .ok (.aload_n 0, 1) := by decide +kernel
theorem dX12_isMoved_34 : decode cX12_isMoved 34 = .ok (.getfield 13, 3) := by decide +kernel
theorem dX12_isMoved_37 : decode cX12_isMoved 37 = .ok (.iload_n 2, 1) := by decide +kernel
theorem dX12_isMoved_38 : decode cX12_isMoved 38 = .ok (.iconst 2, 1) := by decide +kernel
theorem dX12_isMoved_39 : decode cX12_isMoved 39 = .ok (.invokestatic 72, 3) := by decide +kernel
theorem dX12_isMoved_42 : decode cX12_isMoved 42 = .ok (.iaload, 1) := by decide +kernel
theorem dX12_isMoved_43 : decode cX12_isMoved 43 = .ok (.aload_n 0, 1) := by decide +kernel
theorem dX12_isMoved_44 : decode cX12_isMoved 44 = .ok (.getfield 19, 3) := by decide +kernel
theorem dX12_isMoved_47 : decode cX12_isMoved 47 = .ok (.iload_n 2, 1) := by decide +kernel
theorem dX12_isMoved_48 : decode cX12_isMoved 48 = .ok (.iconst 2, 1) := by decide +kernel
theorem dX12_isMoved_49 : decode cX12_isMoved 49 = .ok (.invokestatic 72, 3) := by decide +kernel
theorem dX12_isMoved_52 : decode cX12_isMoved 52 = .ok (.iaload, 1) := by decide +kernel
theorem dX12_isMoved_53 : decode cX12_isMoved 53 = .ok (.if_icmp .eq 7, 3) := by decide +kernel
theorem dX12_isMoved_56 : decode cX12_isMoved 56 = .ok (.iconst 1, 1) := by decide +kernel
theorem dX12_isMoved_57 : decode cX12_isMoved 57 = .ok (.goto 4, 3) := by decide +kernel
theorem dX12_isMoved_60 : decode cX12_isMoved 60 = .ok (.iconst 0, 1) := by decide +kernel
theorem dX12_isMoved_61 : decode cX12_isMoved 61 = .ok (.ior, 1) := by decide +kernel
theorem dX12_isMoved_62 : decode cX12_isMoved 62 = .ok (.istore_n 1, 1) := by decide +kernel
theorem dX12_isMoved_63 : decode cX12_isMoved 63 = .ok (.iinc 2 1, 3) := by decide +kernel
theorem dX12_isMoved_66 : decode cX12_isMoved 66 = .ok (.goto (-44), 3) := by decide +kernel
theorem dX12_isMoved_69 : decode cX12_isMoved 69 = .ok (.iload_n 1, 1) := by decide +kernel
theorem dX12_isMoved_70 : decode cX12_isMoved 70 = .ok (.ireturn, 1) := by decide +kernel
set_option maxRecDepth 20000 in
theorem ggX12_still_X12_copies : GoodIn wsX12_still wsX12_copies := goodIn_r _ [6] (by decide +kernel) (by decide +kernel)
set_option maxRecDepth 20000 in
theorem gX12_still_X12_copies : GoodIn wsX12_still (va_wsS RX12 145 yX12_copies wsX12_copies) := goodIn_app (goodIn_of _ (by decide +kernel)) ggX12_still_X12_copies
set_option maxRecDepth 20000 in
theorem ggX12_still_X12_isMoved : GoodIn wsX12_still wsX12_isMoved := goodIn_r _ [10, 2, 11, 3, 4, 5, 6, 12, 13, 14, 15, 16, 17, 18, 19, 20, 21, 22, 23, 24, 25, 26, 27, 28, 29, 30, 31, 32, 33, 34, 35, 36, 37, 38, 39, 40, 41, 42, 43, 44, 45, 46, 47, 48, 49, 50, 51, 52, 53, 54, 55, 56, 57, 58, 59, 60, 61, 62, 63, 64, 65, 66, 67, 68, 69, 70, 71, 72, 73, 74, 75, 76, 77, 78, 79, 80] (by decide +kernel) (by decide +kernel)
set_option maxRecDepth 20000 in
theorem gX12_still_X12_isMoved : GoodIn wsX12_still (wsV RX12 178 RX12 yX12_isMoved wsX12_isMoved) := goodIn_app (goodIn_of _ (by decide +kernel)) ggX12_still_X12_isMoved
theorem dX12_still_0 : decode cX12_still 0 = .ok (.aload_n 0, 1) := by decide +kernel
theorem dX12_still_1 : decode cX12_still 1 = .ok (.getfield 9, 3) := by decide +kernel
theorem dX12_still_4 : decode cX12_still 4 = .ok (.aload_n 0, 1) := by decide +kernel
theorem dX12_still_5 : decode cX12_still 5 = .ok (.getfield 13, 3) := by decide +kernel
theorem dX12_still_8 : decode cX12_still 8 = .ok (.invokestatic 145, 3) := by decide +kernel
theorem dX12_still_11 : decode cX12_still 11 = .ok (.iconst 0, 1) := by decide +kernel
theorem dX12_still_12 : decode cX12_still 12 = .ok (.istore_n 1, 1) := by decide +kernel
theorem dX12_still_13 : decode cX12_still 13 = .ok (.iconst 0, 1) := by decide +kernel
theorem dX12_still_14 : decode cX12_still 14 = .ok (.istore_n 2, 1) := by decide +kernel
theorem dX12_still_15 : decode cX12_still 15 = .ok (.iload_n 2, 1) := by decide +kernel
theorem dX12_still_16 : decode cX12_still 16 = .ok (.bipush 60, 2) := by decide +kernel
theorem dX12_still_18 : decode cX12_still 18 = .ok (.if_icmp .ge 35, 3) := by decide +kernel
theorem dX12_still_21 : decode cX12_still 21 = .ok (.aload_n 0, 1) := by decide +kernel
theorem dX12_still_22 : decode cX12_still 22 = .ok (.invokevirtual 178, 3) := by decide +kernel
theorem dX12_still_25 : decode cX12_still 25 = .ok (.ifCond .eq 7, 3) := by decide +kernel
theorem dX12_still_28 : decode cX12_still 28 = .ok (.iconst 0, 1) := by decide +kernel
theorem dX12_still_29 : decode cX12_still 29 = .ok (.goto 6, 3) := by decide +kernel
theorem dX12_still_32 : decode cX12_still 32 = .ok (.iload_n 1, 1) := by decide +kernel
theorem dX12_still_33 : decode cX12_still 33 = .ok (.iconst 1, 1) := by decide +kernel
theorem dX12_still_34 : decode cX12_still 34 = .ok (.iadd, 1) := by decide +kernel
theorem dX12_still_35 : decode cX12_still 35 = .ok (.istore_n 1, 1) := by decide +kernel
theorem dX12_still_36 : decode cX12_still 36 = .ok (.iload_n 1, 1) := by decide +kernel
theorem dX12_still_37 : decode cX12_still 37 = .ok (.bipush 10, 2) := by decide +kernel
theorem dX12_still_39 : decode cX12_still 39 = .ok (.if_icmp .ne 8, 3) := by decide +kernel
theorem dX12_still_42 : decode cX12_still 42 = .ok (.iload_n 2, 1) := by decide +kernel
theorem dX12_still_43 : decode cX12_still 43 = .ok (.bipush 9, 2) := by decide +kernel
theorem dX12_still_45 : decode cX12_still 45 = .ok (.isub, 1) := by decide +kernel
theorem dX12_still_46 : decode cX12_still 46 = .ok (.ireturn, 1) := by decide +kernel
theorem dX12_still_47 : decode cX12_still 47 = .ok (.iinc 2 1, 3) := by decide +kernel
theorem dX12_still_50 : decode cX12_still 50 = .ok (.goto (-35), 3) := by decide +kernel
theorem dX12_still_53 : decode cX12_still 53 = .ok (.bipush (-4), 2) := by decide +kernel
theorem dX12_still_55 : decode cX12_still 55 = .ok (.ireturn, 1) := by decide +kernel
set_option maxRecDepth 20000 in
theorem ggX12_crash_X12_firstCrash : GoodIn wsX12_crash wsX12_firstCrash := goodIn_r _ [5, 6, 7, 8, 9, 4, 10, 11, 12, 13, 14, 15, 16, 17, 18, 19, 20, 21, 22, 23, 24, 25, 26, 27, 28, 29, 30, 31, 32, 33, 34, 35, 36, 37, 38, 39, 40, 41, 42, 43, 44, 45, 46, 47, 48, 49, 50, 51, 52, 53, 54, 55, 56, 57, 58, 59, 60, 61, 71, 72, 73, 74, 75, 76, 77, 78, 79, 80, 81, 82, 83, 84, 85, 86, 87, 88] (by decide +kernel) (by decide +kernel)
set_option maxRecDepth 20000 in
theorem gX12_crash_X12_firstCrash : GoodIn wsX12_crash (wsV RX12 181 RX12 yX12_firstCrash wsX12_firstCrash) := goodIn_app (goodIn_of _ (by decide +kernel)) ggX12_crash_X12_firstCrash
set_option maxRecDepth 20000 in
theorem ggX12_crash_X12_still : GoodIn wsX12_crash wsX12_still := goodIn_r _ [65, 6, 7, 8, 9, 4, 10, 66, 67, 68, 69, 70, 11, 12, 13, 14, 15, 16, 17, 18, 19, 20, 21, 22, 23, 24, 25, 26, 27, 28, 29, 30, 31, 32, 33, 34, 35, 36, 37, 38, 39, 40, 41, 42, 43, 44, 45, 46, 47, 48, 49, 50, 51, 52, 53, 54, 55, 56, 57, 58, 59, 60, 61, 71, 72, 73, 74, 75, 76, 77, 78, 79, 80, 81, 82, 83, 84, 85, 86, 87, 88] (by decide +kernel) (by decide +kernel)
set_option maxRecDepth 20000 in
theorem gX12_crash_X12_still : GoodIn wsX12_crash (wsV RX12 184 RX12 yX12_still wsX12_still) := goodIn_app (goodIn_of _ (by decide +kernel)) ggX12_crash_X12_still
theorem dX12_crash_0 : decode cX12_crash 0 = .ok (.iload_n 1, 1) := by decide +kernel
theorem dX12_crash_1 : decode cX12_crash 1 = .ok (.ifCond .ne 10, 3) := by decide +kernel
theorem dX12_crash_4 : decode cX12_crash 4 = .ok (.aload_n 0, 1) := by decide +kernel
theorem dX12_crash_5 : decode cX12_crash 5 = .ok (.invokevirtual 181, 3) := by decide +kernel
theorem dX12_crash_8 : decode cX12_crash 8 = .ok (.goto 16, 3) := by decide +kernel
theorem dX12_crash_11 : decode cX12_crash 11 = .ok (.iload_n 1, 1) := by decide +kernel
theorem dX12_crash_12 : decode cX12_crash 12 = .ok (.iconst 1, 1) := by decide +kernel
theorem dX12_crash_13 : decode cX12_crash 13 = .ok (.if_icmp .ne 10, 3) := by decide +kernel
theorem dX12_crash_16 : decode cX12_crash 16 = .ok (.aload_n 0, 1) := by decide +kernel
theorem dX12_crash_17 : decode cX12_crash 17 = .ok (.invokevirtual 184, 3) := by decide +kernel
theorem dX12_crash_20 : decode cX12_crash 20 = .ok (.goto 4, 3) := by decide +kernel
theorem dX12_crash_23 : decode cX12_crash 23 = .ok (.iconst (-1), 1) := by decide +kernel
theorem dX12_crash_24 : decode cX12_crash 24 = .ok (.ireturn, 1) := by decide +kernel
set_option maxRecDepth 20000 in
theorem ggX12_finds_X12_isMan : GoodIn wsX12_finds wsX12_isMan := goodIn_r _ [7, 1, 8, 9, 6, 10, 65, 66, 67, 68, 69, 70, 71, 72, 73, 74, 75, 76, 77, 78, 79, 80, 81, 82] (by decide +kernel) (by decide +kernel)
set_option maxRecDepth 20000 in
theorem gX12_finds_X12_isMan : GoodIn wsX12_finds (wsV RX12 50 RX12 yX12_isMan wsX12_isMan) := goodIn_app (goodIn_of _ (by decide +kernel)) ggX12_finds_X12_isMan
set_option maxRecDepth 20000 in
theorem ggX12_finds_X12_copies : GoodIn wsX12_finds wsX12_copies := goodIn_r _ [13] (by decide +kernel) (by decide +kernel)
set_option maxRecDepth 20000 in
theorem gX12_finds_X12_copies : GoodIn wsX12_finds (va_wsS RX12 145 yX12_copies wsX12_copies) := goodIn_app (goodIn_of _ (by decide +kernel)) ggX12_finds_X12_copies
set_option maxRecDepth 20000 in
theorem ggX12_finds_X12_day : GoodIn wsX12_finds wsX12_day := goodIn_r _ [16, 17, 18, 6, 19, 20, 21, 22, 23, 24, 25, 26, 27, 28, 29, 30, 31, 32, 33, 34, 35, 36, 37, 38, 39, 40, 41, 42, 43, 44, 45, 46, 47, 48, 49, 50, 51, 52, 53, 54, 55, 56, 57, 58, 59, 60, 61, 62, 63, 64] (by decide +kernel) (by decide +kernel)
set_option maxRecDepth 20000 in
theorem gX12_finds_X12_day : GoodIn wsX12_finds (va_wsS RX12 109 yX12_day wsX12_day) := goodIn_app (goodIn_of _ (by decide +kernel)) ggX12_finds_X12_day
theorem dX12_finds_0 : decode cX12_finds 0 = .ok (.aload_n 0, 1) := by decide +kernel
theorem dX12_finds_1 : decode cX12_finds 1 = .ok (.iload_n 1, 1) := by decide +kernel
theorem dX12_finds_2 : decode cX12_finds 2 = .ok (.invokevirtual 50, 3) := by decide +kernel
theorem dX12_finds_5 : decode cX12_finds 5 = .ok (.ifCond .ne 5, 3) := by decide +kernel
theorem dX12_finds_8 : decode cX12_finds 8 = .ok (.iconst (-1), 1) := by decide +kernel
theorem dX12_finds_9 : decode cX12_finds 9 = .ok (.ireturn, 1) := by decide +kernel
theorem dX12_finds_10 : decode cX12_finds 10 = .ok (.aload_n 0, 1) := by decide +kernel
theorem dX12_finds_11 : decode cX12_finds 11 = .ok (.getfield 9, 3) := by decide +kernel
theorem dX12_finds_14 : decode cX12_finds 14 = .ok (.aload_n 0, 1) := by decide +kernel
theorem dX12_finds_15 : decode cX12_finds 15 = .ok (.getfield 13, 3) := by decide +kernel
theorem dX12_finds_18 : decode cX12_finds 18 = .ok (.invokestatic 145, 3) := by decide +kernel
theorem dX12_finds_21 : decode cX12_finds 21 = .ok (.iconst 0, 1) := by decide +kernel
theorem dX12_finds_22 : decode cX12_finds 22 = .ok (.istore_n 2, 1) := by decide +kernel
theorem dX12_finds_23 : decode cX12_finds 23 = .ok (.iload_n 2, 1) := by decide +kernel
theorem dX12_finds_24 : decode cX12_finds 24 = .ok (.bipush 60, 2) := by decide +kernel
theorem dX12_finds_26 : decode cX12_finds 26 = .ok (.if_icmp .gt 28, 3) := by decide +kernel
theorem dX12_finds_29 : decode cX12_finds 29 = .ok (.aload_n 0, 1) := by decide +kernel
theorem dX12_finds_30 : decode cX12_finds 30 = .ok (.getfield 13, 3) := by decide +kernel
theorem dX12_finds_33 : decode cX12_finds 33 = .ok (.iconst 2, 1) := by decide +kernel
theorem dX12_finds_34 : decode cX12_finds 34 = .ok (.iaload, 1) := by decide +kernel
theorem dX12_finds_35 : decode cX12_finds 35 = .ok (.iload_n 1, 1) := by decide +kernel
theorem dX12_finds_36 : decode cX12_finds 36 = .ok (.if_icmp .ne 5, 3) := by decide +kernel
theorem dX12_finds_39 : decode cX12_finds 39 = .ok (.iload_n 2, 1) := by decide +kernel
theorem dX12_finds_40 : decode cX12_finds 40 = .ok (.ireturn, 1) := by decide +kernel
theorem dX12_finds_41 : decode cX12_finds 41 = .ok (.aload_n 0, 1) := by decide +kernel
theorem dX12_finds_42 : decode cX12_finds 42 = .ok (.getfield 13, 3) := by decide +kernel
theorem dX12_finds_45 : decode cX12_finds 45 = .ok (.invokestatic 109, 3) := by decide +kernel
theorem dX12_finds_48 : decode cX12_finds 48 = .ok (.iinc 2 1, 3) := by decide +kernel
theorem dX12_finds_51 : decode cX12_finds 51 = .ok (.goto (-28), 3) := by decide +kernel
theorem dX12_finds_54 : decode cX12_finds 54 = .ok (.bipush (-4), 2) := by decide +kernel
theorem dX12_finds_56 : decode cX12_finds 56 = .ok (.ireturn, 1) := by decide +kernel
set_option maxRecDepth 20000 in
theorem ggX12_mostTrusted_X12_trustedBy : GoodIn wsX12_mostTrusted wsX12_trustedBy := goodIn_r _ [6, 1, 7, 8, 9, 5, 10, 11, 12, 13, 14, 15, 16, 17, 18, 19, 23, 24, 25, 26, 27, 28, 29, 30, 31, 32, 33, 34, 35, 36, 37, 38, 39, 40] (by decide +kernel) (by decide +kernel)
set_option maxRecDepth 20000 in
theorem gX12_mostTrusted_X12_trustedBy : GoodIn wsX12_mostTrusted (wsV RX12 162 RX12 yX12_trustedBy wsX12_trustedBy) := goodIn_app (goodIn_of _ (by decide +kernel)) ggX12_mostTrusted_X12_trustedBy
set_option maxRecDepth 20000 in
theorem ggX12_mostTrusted_X12_bits : GoodIn wsX12_mostTrusted wsX12_bits := goodIn_r _ [22] (by decide +kernel) (by decide +kernel)
set_option maxRecDepth 20000 in
theorem gX12_mostTrusted_X12_bits : GoodIn wsX12_mostTrusted (va_wsS RX12 99 yX12_bits wsX12_bits) := goodIn_app (goodIn_of _ (by decide +kernel)) ggX12_mostTrusted_X12_bits
theorem dX12_mostTrusted_0 : decode cX12_mostTrusted 0 = .ok (.bipush (-4), 2) := by decide +kernel
theorem dX12_mostTrusted_2 : decode cX12_mostTrusted 2 = .ok (.istore_n 1, 1) := by decide +kernel
theorem dX12_mostTrusted_3 : decode cX12_mostTrusted 3 = .ok (.iconst 0, 1) := by decide +kernel
theorem dX12_mostTrusted_4 : decode cX12_mostTrusted 4 = .ok (.istore_n 2, 1) := by decide +kernel
theorem dX12_mostTrusted_5 : decode cX12_mostTrusted 5 = .ok (.iload_n 2, 1) := by decide +kernel
theorem dX12_mostTrusted_6 : decode cX12_mostTrusted 6 = .ok (.aload_n 0, 1) := by decide +kernel
theorem dX12_mostTrusted_7 : decode cX12_mostTrusted 7 = .ok (.getfield 9, 3) := by decide +kernel
theorem dX12_mostTrusted_10 : decode cX12_mostTrusted 10 = .ok (.iconst 0, 1) := by decide +kernel
theorem dX12_mostTrusted_11 : decode cX12_mostTrusted 11 = .ok (.iaload, 1) := by decide +kernel
theorem dX12_mostTrusted_12 : decode cX12_mostTrusted 12 = .ok (.if_icmp .ge 34, 3) := by decide +kernel
theorem dX12_mostTrusted_15 : decode cX12_mostTrusted 15 = .ok (.iload_n 1, 1) := by decide +kernel
theorem dX12_mostTrusted_16 : decode cX12_mostTrusted 16 = .ok (.ifCond .lt 22, 3) := by decide +kernel
theorem dX12_mostTrusted_19 : decode cX12_mostTrusted 19 = .ok (.aload_n 0, 1) := by decide +kernel
theorem dX12_mostTrusted_20 : decode cX12_mostTrusted 20 = .ok (.iload_n 2, 1) := by decide +kernel
theorem dX12_mostTrusted_21 : decode cX12_mostTrusted 21 = .ok (.invokevirtual 162, 3) := by decide +kernel
theorem dX12_mostTrusted_24 : decode cX12_mostTrusted 24 = .ok (.invokestatic 99, 3) := by decide +kernel
theorem dX12_mostTrusted_27 : decode cX12_mostTrusted 27 = .ok (.aload_n 0, 1) := by decide +kernel
theorem dX12_mostTrusted_28 : decode cX12_mostTrusted 28 = .ok (.iload_n 1, 1) := by decide +kernel
theorem dX12_mostTrusted_29 : decode cX12_mostTrusted 29 = .ok (.invokevirtual 162, 3) := by decide +kernel
theorem dX12_mostTrusted_32 : decode cX12_mostTrusted 32 = .ok (.invokestatic 99, 3) := by decide +kernel
theorem dX12_mostTrusted_35 : decode cX12_mostTrusted 35 = .ok (.if_icmp .le 5, 3) := by decide +kernel
theorem dX12_mostTrusted_38 : decode cX12_mostTrusted 38 = .ok (.iload_n 2, 1) := by decide +kernel
theorem dX12_mostTrusted_39 : decode cX12_mostTrusted 39 = .ok (.istore_n 1, 1) := by decide +kernel
theorem dX12_mostTrusted_40 : decode cX12_mostTrusted 40 = .ok (.iinc 2 1, 3) := by decide +kernel
theorem dX12_mostTrusted_43 : decode cX12_mostTrusted 43 = .ok (.goto (-38), 3) := by decide +kernel
theorem dX12_mostTrusted_46 : decode cX12_mostTrusted 46 = .ok (.iload_n 1, 1) := by decide +kernel
theorem dX12_mostTrusted_47 : decode cX12_mostTrusted 47 = .ok (.ireturn, 1) := by decide +kernel
set_option maxRecDepth 20000 in
theorem ggX12_trust_X12_isIn : GoodIn wsX12_trust wsX12_isIn := goodIn_r _ [5] (by decide +kernel) (by decide +kernel)
set_option maxRecDepth 20000 in
theorem gX12_trust_X12_isIn : GoodIn wsX12_trust (va_wsS RX12 46 yX12_isIn wsX12_isIn) := goodIn_app (goodIn_of _ (by decide +kernel)) ggX12_trust_X12_isIn
set_option maxRecDepth 20000 in
theorem ggX12_trust_X12_of : GoodIn wsX12_trust wsX12_of := goodIn_r _ [8] (by decide +kernel) (by decide +kernel)
set_option maxRecDepth 20000 in
theorem gX12_trust_X12_of : GoodIn wsX12_trust (va_wsS RX12 72 yX12_of wsX12_of) := goodIn_app (goodIn_of _ (by decide +kernel)) ggX12_trust_X12_of
set_option maxRecDepth 20000 in
theorem ggX12_trust_X12_discount : GoodIn wsX12_trust wsX12_discount := goodIn_r _ [12, 1, 6, 7, 4, 8, 13, 14, 15, 16, 17, 18, 40, 41, 42, 43, 44, 45, 46, 47, 48, 49, 50, 51, 52, 53, 54, 55, 56, 57] (by decide +kernel) (by decide +kernel)
set_option maxRecDepth 20000 in
theorem gX12_trust_X12_discount : GoodIn wsX12_trust (wsV RX12 159 RX12 yX12_discount wsX12_discount) := goodIn_app (goodIn_of _ (by decide +kernel)) ggX12_trust_X12_discount
set_option maxRecDepth 20000 in
theorem ggX12_trust_X12_doesTrust : GoodIn wsX12_trust wsX12_doesTrust := goodIn_r _ [22, 1, 6, 7, 4, 8, 23, 24, 25, 16, 17, 18, 40, 41, 42, 43, 44, 45, 46, 47, 48, 49, 50, 51, 52, 53, 54, 55, 56, 57] (by decide +kernel) (by decide +kernel)
set_option maxRecDepth 20000 in
theorem gX12_trust_X12_doesTrust : GoodIn wsX12_trust (wsV RX12 152 RX12 yX12_doesTrust wsX12_doesTrust) := goodIn_app (goodIn_of _ (by decide +kernel)) ggX12_trust_X12_doesTrust
set_option maxRecDepth 20000 in
theorem ggX12_trust_X12_mostTrusted : GoodIn wsX12_trust wsX12_mostTrusted := goodIn_r _ [29, 1, 30, 31, 32, 4, 33, 19, 20, 21, 22, 6, 7, 8, 23, 24, 25, 16, 17, 18, 34, 35, 36, 40, 41, 42, 43, 44, 45, 46, 47, 48, 49, 50, 51, 52, 53, 54, 55, 56, 57] (by decide +kernel) (by decide +kernel)
set_option maxRecDepth 20000 in
theorem gX12_trust_X12_mostTrusted : GoodIn wsX12_trust (wsV RX12 187 RX12 yX12_mostTrusted wsX12_mostTrusted) := goodIn_app (goodIn_of _ (by decide +kernel)) ggX12_trust_X12_mostTrusted
set_option maxRecDepth 20000 in
theorem ggX12_trust_X12_plumb : GoodIn wsX12_trust wsX12_plumb := goodIn_r _ [39, 6, 7, 4, 8, 16, 17, 18] (by decide +kernel) (by decide +kernel)
set_option maxRecDepth 20000 in
theorem gX12_trust_X12_plumb : GoodIn wsX12_trust (va_wsS RX12 82 yX12_plumb wsX12_plumb) := goodIn_app (goodIn_of _ (by decide +kernel)) ggX12_trust_X12_plumb
theorem dX12_trust_0 : decode cX12_trust 0 = .ok (.iload_n 1, 1) := by decide +kernel
theorem dX12_trust_1 : decode cX12_trust 1 = .ok (.iconst 0, 1) := by decide +kernel
theorem dX12_trust_2 : decode cX12_trust 2 = .ok (.iconst 4, 1) := by decide +kernel
theorem dX12_trust_3 : decode cX12_trust 3 = .ok (.invokestatic 46, 3) := by decide +kernel
theorem dX12_trust_6 : decode cX12_trust 6 = .ok (.ifCond .ne 5, 3) := by decide +kernel
theorem dX12_trust_9 : decode cX12_trust 9 = .ok (.iconst (-1), 1) := by decide +kernel
theorem dX12_trust_10 : decode cX12_trust 10 = .ok (.ireturn, 1) := by decide +kernel
theorem dX12_trust_11 : decode cX12_trust 11 = .ok (.iconst 0, 1) := by decide +kernel
theorem dX12_trust_12 : decode cX12_trust 12 = .ok (.istore_n 2, 1) := by decide +kernel
theorem dX12_trust_13 : decode cX12_trust 13 = .ok (.iconst 0, 1) := by decide +kernel
theorem dX12_trust_14 : decode cX12_trust 14 = .ok (.istore_n 3, 1) := by decide +kernel
theorem dX12_trust_15 : decode cX12_trust 15 = .ok (.iconst 0, 1) := by decide +kernel
theorem dX12_trust_16 : decode cX12_trust 16 = .ok (.istore 4, 2) := by decide +kernel
theorem dX12_trust_18 : decode cX12_trust 18 = .ok (.iconst 0, 1) := by decide +kernel
theorem dX12_trust_19 : decode cX12_trust 19 = .ok (.istore 5, 2) := by decide +kernel
theorem dX12_trust_21 : decode cX12_trust 21 = .ok (.iload 5, 2) := by decide +kernel
theorem dX12_trust_23 : decode cX12_trust 23 = .ok (.aload_n 0, 1) := by decide +kernel
theorem dX12_trust_24 : decode cX12_trust 24 = .ok (.getfield 9, 3) := by decide +kernel
theorem dX12_trust_27 : decode cX12_trust 27 = .ok (.iconst 0, 1) := by decide +kernel
theorem dX12_trust_28 : decode cX12_trust 28 = .ok (.iaload, 1) := by decide +kernel
theorem dX12_trust_29 : decode cX12_trust 29 = .ok (.if_icmp .ge 95, 3) := by decide +kernel
theorem dX12_trust_32 : decode cX12_trust 32 = .ok (.iload_n 3, 1) := by decide +kernel
theorem dX12_trust_33 : decode cX12_trust 33 = .ok (.aload_n 0, 1) := by decide +kernel
theorem dX12_trust_34 : decode cX12_trust 34 = .ok (.getfield 9, 3) := by decide +kernel
theorem dX12_trust_37 : decode cX12_trust 37 = .ok (.iload 5, 2) := by decide +kernel
theorem dX12_trust_39 : decode cX12_trust 39 = .ok (.iconst 2, 1) := by decide +kernel
theorem dX12_trust_40 : decode cX12_trust 40 = .ok (.invokestatic 72, 3) := by decide +kernel
theorem dX12_trust_43 : decode cX12_trust 43 = .ok (.iaload, 1) := by decide +kernel
theorem dX12_trust_44 : decode cX12_trust 44 = .ok (.ifCond .le 7, 3) := by decide +kernel
theorem dX12_trust_47 : decode cX12_trust 47 = .ok (.iconst 1, 1) := by decide +kernel
theorem dX12_trust_48 : decode cX12_trust 48 = .ok (.goto 4, 3) := by decide +kernel
theorem dX12_trust_51 : decode cX12_trust 51 = .ok (.iconst 0, 1) := by decide +kernel
theorem dX12_trust_52 : decode cX12_trust 52 = .ok (.iadd, 1) := by decide +kernel
theorem dX12_trust_53 : decode cX12_trust 53 = .ok (.istore_n 3, 1) := by decide +kernel
theorem dX12_trust_54 : decode cX12_trust 54 = .ok (.iload 4, 2) := by decide +kernel
theorem dX12_trust_56 : decode cX12_trust 56 = .ok (.aload_n 0, 1) := by decide +kernel
theorem dX12_trust_57 : decode cX12_trust 57 = .ok (.iload 5, 2) := by decide +kernel
theorem dX12_trust_59 : decode cX12_trust 59 = .ok (.invokevirtual 159, 3) := by decide +kernel
theorem dX12_trust_62 : decode cX12_trust 62 = .ok (.iadd, 1) := by decide +kernel
theorem dX12_trust_63 : decode cX12_trust 63 = .ok (.istore 4, 2) := by decide +kernel
theorem dX12_trust_65 : decode cX12_trust 65 = .ok (.iload 5, 2) := by decide +kernel
theorem dX12_trust_67 : decode cX12_trust 67 = .ok (.iconst 1, 1) := by decide +kernel
theorem dX12_trust_68 : decode cX12_trust 68 = .ok (.iadd, 1) := by decide +kernel
theorem dX12_trust_69 : decode cX12_trust 69 = .ok (.istore 6, 2) := by decide +kernel
theorem dX12_trust_71 : decode cX12_trust 71 = .ok (.iload 6, 2) := by decide +kernel
theorem dX12_trust_73 : decode cX12_trust 73 = .ok (.aload_n 0, 1) := by decide +kernel
theorem dX12_trust_74 : decode cX12_trust 74 = .ok (.getfield 9, 3) := by decide +kernel
theorem dX12_trust_77 : decode cX12_trust 77 = .ok (.iconst 0, 1) := by decide +kernel
theorem dX12_trust_78 : decode cX12_trust 78 = .ok (.iaload, 1) := by decide +kernel
theorem dX12_trust_79 : decode cX12_trust 79 = .ok (.if_icmp .ge 39, 3) := by decide +kernel
theorem dX12_trust_82 : decode cX12_trust 82 = .ok (.iload_n 2, 1) := by decide +kernel
theorem dX12_trust_83 : decode cX12_trust 83 = .ok (.aload_n 0, 1) := by decide +kernel
theorem dX12_trust_84 : decode cX12_trust 84 = .ok (.iload 5, 2) := by decide +kernel
theorem dX12_trust_86 : decode cX12_trust 86 = .ok (.iload 6, 2) := by decide +kernel
theorem dX12_trust_88 : decode cX12_trust 88 = .ok (.invokevirtual 152, 3) := by decide +kernel
theorem dX12_trust_91 : decode cX12_trust 91 = .ok (.ifCond .ne 14, 3) := by decide +kernel
theorem dX12_trust_94 : decode cX12_trust 94 = .ok (.aload_n 0, 1) := by decide +kernel
theorem dX12_trust_95 : decode cX12_trust 95 = .ok (.iload 6, 2) := by decide +kernel
theorem dX12_trust_97 : decode cX12_trust 97 = .ok (.iload 5, 2) := by decide +kernel
theorem dX12_trust_99 : decode cX12_trust 99 = .ok (.invokevirtual 152, 3) := by decide +kernel
theorem dX12_trust_102 : decode cX12_trust 102 = .ok (.ifCond .eq 7, 3) := by decide +kernel
theorem dX12_trust_105 : decode cX12_trust 105 = .ok (.iconst 0, 1) := by decide +kernel
theorem dX12_trust_106 : decode cX12_trust 106 = .ok (.goto 4, 3) := by decide +kernel
theorem dX12_trust_109 : decode cX12_trust 109 = .ok (.iconst 1, 1) := by decide +kernel
theorem dX12_trust_110 : decode cX12_trust 110 = .ok (.iadd, 1) := by decide +kernel
theorem dX12_trust_111 : decode cX12_trust 111 = .ok (.istore_n 2, 1) := by decide +kernel
theorem dX12_trust_112 : decode cX12_trust 112 = .ok (.iinc 6 1, 3) := by decide +kernel
theorem dX12_trust_115 : decode cX12_trust 115 = .ok (.goto (-44), 3) := by decide +kernel
theorem dX12_trust_118 : decode cX12_trust 118 = .ok (.iinc 5 1, 3) := by decide +kernel
theorem dX12_trust_121 : decode cX12_trust 121 = .ok (.goto (-100), 3) := by decide +kernel
theorem dX12_trust_124 : decode cX12_trust 124 = .ok (.iload_n 1, 1) := by decide +kernel
theorem dX12_trust_125 : decode cX12_trust 125 = .ok (.ifCond .ne 10, 3) := by decide +kernel
theorem dX12_trust_128 : decode cX12_trust 128 = .ok (.aload_n 0, 1) := by decide +kernel
theorem dX12_trust_129 : decode cX12_trust 129 = .ok (.invokevirtual 187, 3) := by decide +kernel
theorem dX12_trust_132 : decode cX12_trust 132 = .ok (.goto 38, 3) := by decide +kernel
theorem dX12_trust_135 : decode cX12_trust 135 = .ok (.iload_n 1, 1) := by decide +kernel
theorem dX12_trust_136 : decode cX12_trust 136 = .ok (.iconst 1, 1) := by decide +kernel
theorem dX12_trust_137 : decode cX12_trust 137 = .ok (.if_icmp .ne 7, 3) := by decide +kernel
theorem dX12_trust_140 : decode cX12_trust 140 = .ok (.iload_n 2, 1) := by decide +kernel
theorem dX12_trust_141 : decode cX12_trust 141 = .ok (.goto 29, 3) := by decide +kernel
theorem dX12_trust_144 : decode cX12_trust 144 = .ok (.iload_n 1, 1) := by decide +kernel
theorem dX12_trust_145 : decode cX12_trust 145 = .ok (.iconst 2, 1) := by decide +kernel
theorem dX12_trust_146 : decode cX12_trust 146 = .ok (.if_icmp .ne 13, 3) := by decide +kernel
theorem dX12_trust_149 : decode cX12_trust 149 = .ok (.aload_n 0, 1) := by decide +kernel
theorem dX12_trust_150 : decode cX12_trust 150 = .ok (.getfield 9, 3) := by decide +kernel
theorem dX12_trust_153 : decode cX12_trust 153 = .ok (.invokestatic 82, 3) := by decide +kernel
theorem dX12_trust_156 : decode cX12_trust 156 = .ok (.goto 14, 3) := by decide +kernel
theorem dX12_trust_159 : decode cX12_trust 159 = .ok (.iload_n 1, 1) := by decide +kernel
theorem dX12_trust_160 : decode cX12_trust 160 = .ok (.iconst 3, 1) := by decide +kernel
theorem dX12_trust_161 : decode cX12_trust 161 = .ok (.if_icmp .ne 7, 3) := by decide +kernel
theorem dX12_trust_164 : decode cX12_trust 164 = .ok (.iload_n 3, 1) := by decide +kernel
theorem dX12_trust_165 : decode cX12_trust 165 = .ok (.goto 5, 3) := by decide +kernel
theorem dX12_trust_168 : decode cX12_trust 168 = .ok (.iload 4, 2) := by decide +kernel
theorem dX12_trust_170 : decode cX12_trust 170 = .ok (.ireturn, 1) := by decide +kernel
set_option maxRecDepth 20000 in
theorem ggX12_tells_X12_isMan : GoodIn wsX12_tells wsX12_isMan := goodIn_r _ [6, 1, 7, 8, 5, 9, 30, 31, 32, 33, 34, 35, 36, 37, 38, 39, 40, 41, 42, 43, 44, 45, 46, 47] (by decide +kernel) (by decide +kernel)
set_option maxRecDepth 20000 in
theorem gX12_tells_X12_isMan : GoodIn wsX12_tells (wsV RX12 50 RX12 yX12_isMan wsX12_isMan) := goodIn_app (goodIn_of _ (by decide +kernel)) ggX12_tells_X12_isMan
set_option maxRecDepth 20000 in
theorem ggX12_tells_X12_trustedBy : GoodIn wsX12_tells wsX12_trustedBy := goodIn_r _ [13, 1, 14, 15, 16, 5, 17, 18, 19, 20, 21, 22, 23, 24, 25, 26, 30, 31, 32, 33, 34, 35, 36, 37, 38, 39, 40, 41, 42, 43, 44, 45, 46, 47] (by decide +kernel) (by decide +kernel)
set_option maxRecDepth 20000 in
theorem gX12_tells_X12_trustedBy : GoodIn wsX12_tells (wsV RX12 162 RX12 yX12_trustedBy wsX12_trustedBy) := goodIn_app (goodIn_of _ (by decide +kernel)) ggX12_tells_X12_trustedBy
set_option maxRecDepth 20000 in
theorem ggX12_tells_X12_has : GoodIn wsX12_tells wsX12_has := goodIn_r _ [29] (by decide +kernel) (by decide +kernel)
set_option maxRecDepth 20000 in
theorem gX12_tells_X12_has : GoodIn wsX12_tells (va_wsS RX12 190 yX12_has wsX12_has) := goodIn_app (goodIn_of _ (by decide +kernel)) ggX12_tells_X12_has
theorem dX12_tells_0 : decode cX12_tells 0 = .ok (.aload_n 0, 1) := by decide +kernel
theorem dX12_tells_1 : decode cX12_tells 1 = .ok (.iload_n 1, 1) := by decide +kernel
theorem dX12_tells_2 : decode cX12_tells 2 = .ok (.invokevirtual 50, 3) := by decide +kernel
theorem dX12_tells_5 : decode cX12_tells 5 = .ok (.ifCond .ne 5, 3) := by decide +kernel
theorem dX12_tells_8 : decode cX12_tells 8 = .ok (.iconst (-1), 1) := by decide +kernel
theorem dX12_tells_9 : decode cX12_tells 9 = .ok (.ireturn, 1) := by decide +kernel
theorem dX12_tells_10 : decode cX12_tells 10 = .ok (.aload_n 0, 1) := by decide +kernel
theorem dX12_tells_11 : decode cX12_tells 11 = .ok (.iload_n 1, 1) := by decide +kernel
theorem dX12_tells_12 : decode cX12_tells 12 = .ok (.invokevirtual 162, 3) := by decide +kernel
theorem dX12_tells_15 : decode cX12_tells 15 = .ok (.istore_n 2, 1) := by decide +kernel
theorem dX12_tells_16 : decode cX12_tells 16 = .ok (.iconst 0, 1) := by decide +kernel
theorem dX12_tells_17 : decode cX12_tells 17 = .ok (.istore_n 3, 1) := by decide +kernel
theorem dX12_tells_18 : decode cX12_tells 18 = .ok (.iload_n 3, 1) := by decide +kernel
theorem dX12_tells_19 : decode cX12_tells 19 = .ok (.bipush 8, 2) := by decide +kernel
theorem dX12_tells_21 : decode cX12_tells 21 = .ok (.if_icmp .ge 47, 3) := by decide +kernel
theorem dX12_tells_24 : decode cX12_tells 24 = .ok (.iconst 0, 1) := by decide +kernel
theorem dX12_tells_25 : decode cX12_tells 25 = .ok (.istore 4, 2) := by decide +kernel
theorem dX12_tells_27 : decode cX12_tells 27 = .ok (.iload 4, 2) := by decide +kernel
theorem dX12_tells_29 : decode cX12_tells 29 = .ok (.aload_n 0, 1) := by decide +kernel
theorem dX12_tells_30 : decode cX12_tells 30 = .ok (.getfield 9, 3) := by decide +kernel
theorem dX12_tells_33 : decode cX12_tells 33 = .ok (.iconst 0, 1) := by decide +kernel
theorem dX12_tells_34 : decode cX12_tells 34 = .ok (.iaload, 1) := by decide +kernel
theorem dX12_tells_35 : decode cX12_tells 35 = .ok (.if_icmp .ge 27, 3) := by decide +kernel
theorem dX12_tells_38 : decode cX12_tells 38 = .ok (.iload_n 2, 1) := by decide +kernel
theorem dX12_tells_39 : decode cX12_tells 39 = .ok (.iload 4, 2) := by decide +kernel
theorem dX12_tells_41 : decode cX12_tells 41 = .ok (.invokestatic 190, 3) := by decide +kernel
theorem dX12_tells_44 : decode cX12_tells 44 = .ok (.ifCond .eq 12, 3) := by decide +kernel
theorem dX12_tells_47 : decode cX12_tells 47 = .ok (.iload_n 2, 1) := by decide +kernel
theorem dX12_tells_48 : decode cX12_tells 48 = .ok (.aload_n 0, 1) := by decide +kernel
theorem dX12_tells_49 : decode cX12_tells 49 = .ok (.iload 4, 2) := by decide +kernel
theorem dX12_tells_51 : decode cX12_tells 51 = .ok (.invokevirtual 162, 3) := by decide +kernel
theorem dX12_tells_54 : decode cX12_tells 54 = .ok (.ior, 1) := by decide +kernel
theorem dX12_tells_55 : decode cX12_tells 55 = .ok (.istore_n 2, 1) := by decide +kernel
theorem dX12_tells_56 : decode cX12_tells 56 = .ok (.iinc 4 1, 3) := by decide +kernel
theorem dX12_tells_59 : decode cX12_tells 59 = .ok (.goto (-32), 3) := by decide +kernel
theorem dX12_tells_62 : decode cX12_tells 62 = .ok (.iinc 3 1, 3) := by decide +kernel
theorem dX12_tells_65 : decode cX12_tells 65 = .ok (.goto (-47), 3) := by decide +kernel
theorem dX12_tells_68 : decode cX12_tells 68 = .ok (.iload_n 2, 1) := by decide +kernel
theorem dX12_tells_69 : decode cX12_tells 69 = .ok (.ireturn, 1) := by decide +kernel
set_option maxRecDepth 20000 in
theorem ggX12_fewestProps_X12_isIn : GoodIn wsX12_fewestProps wsX12_isIn := goodIn_r _ [6] (by decide +kernel) (by decide +kernel)
set_option maxRecDepth 20000 in
theorem gX12_fewestProps_X12_isIn : GoodIn wsX12_fewestProps (va_wsS RX12 46 yX12_isIn wsX12_isIn) := goodIn_app (goodIn_of _ (by decide +kernel)) ggX12_fewestProps_X12_isIn
set_option maxRecDepth 20000 in
theorem ggX12_fewestProps_X12_bits : GoodIn wsX12_fewestProps wsX12_bits := goodIn_r _ [9] (by decide +kernel) (by decide +kernel)
set_option maxRecDepth 20000 in
theorem gX12_fewestProps_X12_bits : GoodIn wsX12_fewestProps (va_wsS RX12 99 yX12_bits wsX12_bits) := goodIn_app (goodIn_of _ (by decide +kernel)) ggX12_fewestProps_X12_bits
set_option maxRecDepth 20000 in
theorem ggX12_fewestProps_X12_copies : GoodIn wsX12_fewestProps wsX12_copies := goodIn_r _ [12] (by decide +kernel) (by decide +kernel)
set_option maxRecDepth 20000 in
theorem gX12_fewestProps_X12_copies : GoodIn wsX12_fewestProps (va_wsS RX12 145 yX12_copies wsX12_copies) := goodIn_app (goodIn_of _ (by decide +kernel)) ggX12_fewestProps_X12_copies
set_option maxRecDepth 20000 in
theorem ggX12_fewestProps_X12_has : GoodIn wsX12_fewestProps wsX12_has := goodIn_r _ [15] (by decide +kernel) (by decide +kernel)
set_option maxRecDepth 20000 in
theorem gX12_fewestProps_X12_has : GoodIn wsX12_fewestProps (va_wsS RX12 190 yX12_has wsX12_has) := goodIn_app (goodIn_of _ (by decide +kernel)) ggX12_fewestProps_X12_has
set_option maxRecDepth 20000 in
theorem ggX12_fewestProps_X12_of : GoodIn wsX12_fewestProps wsX12_of := goodIn_r _ [18] (by decide +kernel) (by decide +kernel)
set_option maxRecDepth 20000 in
theorem gX12_fewestProps_X12_of : GoodIn wsX12_fewestProps (va_wsS RX12 72 yX12_of wsX12_of) := goodIn_app (goodIn_of _ (by decide +kernel)) ggX12_fewestProps_X12_of
set_option maxRecDepth 20000 in
theorem ggX12_fewestProps_X12_daysOn : GoodIn wsX12_fewestProps wsX12_daysOn := goodIn_r _ [21, 22, 23, 5, 24, 25, 26, 27, 16, 17, 18, 28, 29, 30, 31, 32, 33, 34, 35, 36, 37, 38, 39, 40, 41, 42, 43, 44, 45, 46, 47, 48, 49, 50, 51, 52, 53, 54, 55, 56, 57, 7, 8, 9, 58, 59, 60, 61, 62, 63, 64, 65, 66] (by decide +kernel) (by decide +kernel)
set_option maxRecDepth 20000 in
theorem gX12_fewestProps_X12_daysOn : GoodIn wsX12_fewestProps (va_wsS RX12 134 yX12_daysOn wsX12_daysOn) := goodIn_app (goodIn_of _ (by decide +kernel)) ggX12_fewestProps_X12_daysOn
theorem dX12_fewestProps_0 : decode cX12_fewestProps 0 = .ok (.iload_n 1, 1) := by decide +kernel
theorem dX12_fewestProps_1 : decode cX12_fewestProps 1 = .ok (.iconst 1, 1) := by decide +kernel
theorem dX12_fewestProps_2 : decode cX12_fewestProps 2 = .ok (.bipush 30, 2) := by decide +kernel
theorem dX12_fewestProps_4 : decode cX12_fewestProps 4 = .ok (.invokestatic 46, 3) := by decide +kernel
theorem dX12_fewestProps_7 : decode cX12_fewestProps 7 = .ok (.ifCond .ne 5, 3) := by decide +kernel
theorem dX12_fewestProps_10 : decode cX12_fewestProps 10 = .ok (.iconst (-1), 1) := by decide +kernel
theorem dX12_fewestProps_11 : decode cX12_fewestProps 11 = .ok (.ireturn, 1) := by decide +kernel
theorem dX12_fewestProps_12 : decode cX12_fewestProps 12 = .ok (.bipush (-4), 2) := by decide +kernel
theorem dX12_fewestProps_14 : decode cX12_fewestProps 14 = .ok (.istore_n 2, 1) := by decide +kernel
theorem dX12_fewestProps_15 : decode cX12_fewestProps 15 = .ok (.iconst 0, 1) := by decide +kernel
theorem dX12_fewestProps_16 : decode cX12_fewestProps 16 = .ok (.istore_n 3, 1) := by decide +kernel
theorem dX12_fewestProps_17 : decode cX12_fewestProps 17 = .ok (.iload_n 3, 1) := by decide +kernel
theorem dX12_fewestProps_18 : decode cX12_fewestProps 18 = .ok (.iconst 1, 1) := by decide +kernel
theorem dX12_fewestProps_19 : decode cX12_fewestProps 19 = .ok (.aload_n 0, 1) := by decide +kernel
theorem dX12_fewestProps_20 : decode cX12_fewestProps 20 = .ok (.getfield 9, 3) := by decide +kernel
theorem dX12_fewestProps_23 : decode cX12_fewestProps 23 = .ok (.iconst 0, 1) := by decide +kernel
theorem dX12_fewestProps_24 : decode cX12_fewestProps 24 = .ok (.iaload, 1) := by decide +kernel
theorem dX12_fewestProps_25 : decode cX12_fewestProps 25 = .ok (.ishl, 1) := by decide +kernel
theorem dX12_fewestProps_26 : decode cX12_fewestProps 26 = .ok (.if_icmp .ge 105, 3) := by decide +kernel
theorem dX12_fewestProps_29 : decode cX12_fewestProps 29 = .ok (.iload_n 2, 1) := by decide +kernel
theorem dX12_fewestProps_30 : decode cX12_fewestProps 30 = .ok (.ifCond .lt 17, 3) := by decide +kernel
theorem dX12_fewestProps_33 : decode cX12_fewestProps 33 = .ok (.iload_n 3, 1) := by decide +kernel
theorem dX12_fewestProps_34 : decode cX12_fewestProps 34 = .ok (.invokestatic 99, 3) := by decide +kernel
theorem dX12_fewestProps_37 : decode cX12_fewestProps 37 = .ok (.iload_n 2, 1) := by decide +kernel
theorem dX12_fewestProps_38 : decode cX12_fewestProps 38 = .ok (.invokestatic 99, 3) := by decide +kernel
theorem dX12_fewestProps_41 : decode cX12_fewestProps 41 = .ok (.if_icmp .lt 6, 3) := by decide +kernel
theorem dX12_fewestProps_44 : decode cX12_fewestProps 44 = .ok (.goto 81, 3) := by decide +kernel
theorem dX12_fewestProps_47 : decode cX12_fewestProps 47 = .ok (.aload_n 0, 1) := by decide +kernel
theorem dX12_fewestProps_48 : decode cX12_fewestProps 48 = .ok (.getfield 9, 3) := by decide +kernel
theorem dX12_fewestProps_51 : decode cX12_fewestProps 51 = .ok (.aload_n 0, 1) := by decide +kernel
theorem dX12_fewestProps_52 : decode cX12_fewestProps 52 = .ok (.getfield 13, 3) := by decide +kernel
theorem dX12_fewestProps_55 : decode cX12_fewestProps 55 = .ok (.invokestatic 145, 3) := by decide +kernel
theorem dX12_fewestProps_58 : decode cX12_fewestProps 58 = .ok (.aload_n 0, 1) := by decide +kernel
theorem dX12_fewestProps_59 : decode cX12_fewestProps 59 = .ok (.getfield 13, 3) := by decide +kernel
theorem dX12_fewestProps_62 : decode cX12_fewestProps 62 = .ok (.iconst 4, 1) := by decide +kernel
theorem dX12_fewestProps_63 : decode cX12_fewestProps 63 = .ok (.iconst 0, 1) := by decide +kernel
theorem dX12_fewestProps_64 : decode cX12_fewestProps 64 = .ok (.iastore, 1) := by decide +kernel
theorem dX12_fewestProps_65 : decode cX12_fewestProps 65 = .ok (.iconst 0, 1) := by decide +kernel
theorem dX12_fewestProps_66 : decode cX12_fewestProps 66 = .ok (.istore 4, 2) := by decide +kernel
theorem dX12_fewestProps_68 : decode cX12_fewestProps 68 = .ok (.iload 4, 2) := by decide +kernel
theorem dX12_fewestProps_70 : decode cX12_fewestProps 70 = .ok (.aload_n 0, 1) := by decide +kernel
theorem dX12_fewestProps_71 : decode cX12_fewestProps 71 = .ok (.getfield 9, 3) := by decide +kernel
theorem dX12_fewestProps_74 : decode cX12_fewestProps 74 = .ok (.iconst 0, 1) := by decide +kernel
theorem dX12_fewestProps_75 : decode cX12_fewestProps 75 = .ok (.iaload, 1) := by decide +kernel
theorem dX12_fewestProps_76 : decode cX12_fewestProps 76 = .ok (.if_icmp .ge 30, 3) := by decide +kernel
theorem dX12_fewestProps_79 : decode cX12_fewestProps 79 = .ok (.iload_n 3, 1) := by decide +kernel
theorem dX12_fewestProps_80 : decode cX12_fewestProps 80 = .ok (.iload 4, 2) := by decide +kernel
theorem dX12_fewestProps_82 : decode cX12_fewestProps 82 = .ok (.invokestatic 190, 3) := by decide +kernel
theorem dX12_fewestProps_85 : decode cX12_fewestProps 85 = .ok (.ifCond .eq 15, 3) := by decide +kernel
theorem dX12_fewestProps_88 : decode cX12_fewestProps 88 = .ok (.aload_n 0, 1) := by decide +kernel
theorem dX12_fewestProps_89 : decode cX12_fewestProps 89 = .ok (.getfield 13, 3) := by decide +kernel
theorem dX12_fewestProps_92 : decode cX12_fewestProps 92 = .ok (.iload 4, 2) := by decide +kernel
theorem dX12_fewestProps_94 : decode cX12_fewestProps 94 = .ok (.iconst 3, 1) := by decide +kernel
theorem dX12_fewestProps_95 : decode cX12_fewestProps 95 = .ok (.invokestatic 72, 3) := by decide +kernel
theorem dX12_fewestProps_98 : decode cX12_fewestProps 98 = .ok (.iconst 1, 1) := by decide +kernel
theorem dX12_fewestProps_99 : decode cX12_fewestProps 99 = .ok (.iastore, 1) := by decide +kernel
theorem dX12_fewestProps_100 : decode cX12_fewestProps 100 = .ok (.iinc 4 1, 3) := by decide +kernel
theorem dX12_fewestProps_103 : decode cX12_fewestProps 103 = .ok (.goto (-35), 3) := by decide +kernel
theorem dX12_fewestProps_106 : decode cX12_fewestProps 106 = .ok (.aload_n 0, 1) := by decide +kernel
theorem dX12_fewestProps_107 : decode cX12_fewestProps 107 = .ok (.getfield 13, 3) := by decide +kernel
theorem dX12_fewestProps_110 : decode cX12_fewestProps 110 = .ok (.iload_n 1, 1) := by decide +kernel
theorem dX12_fewestProps_111 : decode cX12_fewestProps 111 = .ok (.invokestatic 134, 3) := by decide +kernel
theorem dX12_fewestProps_114 : decode cX12_fewestProps 114 = .ok (.aload_n 0, 1) := by decide +kernel
theorem dX12_fewestProps_115 : decode cX12_fewestProps 115 = .ok (.getfield 13, 3) := by decide +kernel
theorem dX12_fewestProps_118 : decode cX12_fewestProps 118 = .ok (.iconst 4, 1) := by decide +kernel
theorem dX12_fewestProps_119 : decode cX12_fewestProps 119 = .ok (.iaload, 1) := by decide +kernel
theorem dX12_fewestProps_120 : decode cX12_fewestProps 120 = .ok (.ifCond .ne 5, 3) := by decide +kernel
theorem dX12_fewestProps_123 : decode cX12_fewestProps 123 = .ok (.iload_n 3, 1) := by decide +kernel
theorem dX12_fewestProps_124 : decode cX12_fewestProps 124 = .ok (.istore_n 2, 1) := by decide +kernel
theorem dX12_fewestProps_125 : decode cX12_fewestProps 125 = .ok (.iinc 3 1, 3) := by decide +kernel
theorem dX12_fewestProps_128 : decode cX12_fewestProps 128 = .ok (.goto (-111), 3) := by decide +kernel
theorem dX12_fewestProps_131 : decode cX12_fewestProps 131 = .ok (.iload_n 2, 1) := by decide +kernel
theorem dX12_fewestProps_132 : decode cX12_fewestProps 132 = .ok (.ireturn, 1) := by decide +kernel
set_option maxRecDepth 20000 in
theorem ggX12_push_X12_isIn : GoodIn wsX12_push wsX12_isIn := goodIn_r _ [6] (by decide +kernel) (by decide +kernel)
set_option maxRecDepth 20000 in
theorem gX12_push_X12_isIn : GoodIn wsX12_push (va_wsS RX12 46 yX12_isIn wsX12_isIn) := goodIn_app (goodIn_of _ (by decide +kernel)) ggX12_push_X12_isIn
set_option maxRecDepth 20000 in
theorem ggX12_push_X12_takes : GoodIn wsX12_push wsX12_takes := goodIn_r _ [10, 2, 1, 11, 12, 5, 13, 14, 15, 16, 17, 18, 19, 20, 21, 22, 23, 24, 25, 26, 27, 28, 29, 30, 31, 32, 33, 34, 35, 36, 37, 38, 39, 40, 41, 42, 43, 44, 45, 46, 47, 48, 49, 50, 51, 52, 53, 54, 55, 56, 57, 58, 59, 60, 61, 62, 63, 64, 65, 66, 67, 68, 69, 70, 71, 72, 73, 74, 75, 76, 77, 78, 79, 80, 81, 82, 83, 84, 85] (by decide +kernel) (by decide +kernel)
set_option maxRecDepth 20000 in
theorem gX12_push_X12_takes : GoodIn wsX12_push (wsV RX12 174 RX12 yX12_takes wsX12_takes) := goodIn_app (goodIn_of _ (by decide +kernel)) ggX12_push_X12_takes
set_option maxRecDepth 20000 in
theorem ggX12_push_X12_upright : GoodIn wsX12_push wsX12_upright := goodIn_r _ [49, 23, 24, 5, 25, 50, 51, 52, 35, 36, 37, 53, 54, 55] (by decide +kernel) (by decide +kernel)
set_option maxRecDepth 20000 in
theorem gX12_push_X12_upright : GoodIn wsX12_push (va_wsS RX12 96 yX12_upright wsX12_upright) := goodIn_app (goodIn_of _ (by decide +kernel)) ggX12_push_X12_upright
set_option maxRecDepth 20000 in
theorem ggX12_push_X12_bits : GoodIn wsX12_push wsX12_bits := goodIn_r _ [58] (by decide +kernel) (by decide +kernel)
set_option maxRecDepth 20000 in
theorem gX12_push_X12_bits : GoodIn wsX12_push (va_wsS RX12 99 yX12_bits wsX12_bits) := goodIn_app (goodIn_of _ (by decide +kernel)) ggX12_push_X12_bits
set_option maxRecDepth 20000 in
theorem ggX12_push_X12_copies : GoodIn wsX12_push wsX12_copies := goodIn_r _ [13] (by decide +kernel) (by decide +kernel)
set_option maxRecDepth 20000 in
theorem gX12_push_X12_copies : GoodIn wsX12_push (va_wsS RX12 145 yX12_copies wsX12_copies) := goodIn_app (goodIn_of _ (by decide +kernel)) ggX12_push_X12_copies
set_option maxRecDepth 20000 in
theorem ggX12_push_X12_of : GoodIn wsX12_push wsX12_of := goodIn_r _ [25] (by decide +kernel) (by decide +kernel)
set_option maxRecDepth 20000 in
theorem gX12_push_X12_of : GoodIn wsX12_push (va_wsS RX12 72 yX12_of wsX12_of) := goodIn_app (goodIn_of _ (by decide +kernel)) ggX12_push_X12_of
set_option maxRecDepth 20000 in
theorem ggX12_push_X12_daysOn : GoodIn wsX12_push wsX12_daysOn := goodIn_r _ [16, 17, 18, 5, 19, 20, 21, 22, 23, 24, 25, 26, 27, 28, 29, 30, 31, 32, 33, 34, 35, 36, 37, 38, 39, 40, 41, 42, 43, 44, 45, 46, 47, 48, 49, 50, 51, 52, 53, 54, 55, 56, 57, 58, 59, 60, 61, 62, 63, 64, 65, 66, 67] (by decide +kernel) (by decide +kernel)
set_option maxRecDepth 20000 in
theorem gX12_push_X12_daysOn : GoodIn wsX12_push (va_wsS RX12 134 yX12_daysOn wsX12_daysOn) := goodIn_app (goodIn_of _ (by decide +kernel)) ggX12_push_X12_daysOn
theorem dX12_push_0 : decode cX12_push 0 = .ok (.iload_n 1, 1) := by decide +kernel
theorem dX12_push_1 : decode cX12_push 1 = .ok (.iconst 0, 1) := by decide +kernel
theorem dX12_push_2 : decode cX12_push 2 = .ok (.bipush 20, 2) := by decide +kernel
theorem dX12_push_4 : decode cX12_push 4 = .ok (.invokestatic 46, 3) := by decide +kernel
theorem dX12_push_7 : decode cX12_push 7 = .ok (.ifCond .ne 5, 3) := by decide +kernel
theorem dX12_push_10 : decode cX12_push 10 = .ok (.iconst (-1), 1) := by decide +kernel
theorem dX12_push_11 : decode cX12_push 11 = .ok (.ireturn, 1) := by decide +kernel
theorem dX12_push_12 : decode cX12_push 12 = .ok (.aload_n 0, 1) := by decide +kernel
theorem dX12_push_13 : decode cX12_push 13 = .ok (.iload_n 1, 1) := by decide +kernel
theorem dX12_push_14 : decode cX12_push 14 = .ok (.invokevirtual 174, 3) := by decide +kernel
theorem dX12_push_17 : decode cX12_push 17 = .ok (.aload_n 0, 1) := by decide +kernel
theorem dX12_push_18 : decode cX12_push 18 = .ok (.getfield 13, 3) := by decide +kernel
theorem dX12_push_21 : decode cX12_push 21 = .ok (.invokestatic 96, 3) := by decide +kernel
theorem dX12_push_24 : decode cX12_push 24 = .ok (.invokestatic 99, 3) := by decide +kernel
theorem dX12_push_27 : decode cX12_push 27 = .ok (.istore_n 2, 1) := by decide +kernel
theorem dX12_push_28 : decode cX12_push 28 = .ok (.bipush (-4), 2) := by decide +kernel
theorem dX12_push_30 : decode cX12_push 30 = .ok (.istore_n 3, 1) := by decide +kernel
theorem dX12_push_31 : decode cX12_push 31 = .ok (.iconst 0, 1) := by decide +kernel
theorem dX12_push_32 : decode cX12_push 32 = .ok (.istore 4, 2) := by decide +kernel
theorem dX12_push_34 : decode cX12_push 34 = .ok (.iload 4, 2) := by decide +kernel
theorem dX12_push_36 : decode cX12_push 36 = .ok (.aload_n 0, 1) := by decide +kernel
theorem dX12_push_37 : decode cX12_push 37 = .ok (.getfield 9, 3) := by decide +kernel
theorem dX12_push_40 : decode cX12_push 40 = .ok (.iconst 0, 1) := by decide +kernel
theorem dX12_push_41 : decode cX12_push 41 = .ok (.iaload, 1) := by decide +kernel
theorem dX12_push_42 : decode cX12_push 42 = .ok (.if_icmp .ge 98, 3) := by decide +kernel
theorem dX12_push_45 : decode cX12_push 45 = .ok (.bipush (-45), 2) := by decide +kernel
theorem dX12_push_47 : decode cX12_push 47 = .ok (.istore 5, 2) := by decide +kernel
theorem dX12_push_49 : decode cX12_push 49 = .ok (.iload 5, 2) := by decide +kernel
theorem dX12_push_51 : decode cX12_push 51 = .ok (.bipush 45, 2) := by decide +kernel
theorem dX12_push_53 : decode cX12_push 53 = .ok (.if_icmp .gt 81, 3) := by decide +kernel
theorem dX12_push_56 : decode cX12_push 56 = .ok (.aload_n 0, 1) := by decide +kernel
theorem dX12_push_57 : decode cX12_push 57 = .ok (.getfield 9, 3) := by decide +kernel
theorem dX12_push_60 : decode cX12_push 60 = .ok (.aload_n 0, 1) := by decide +kernel
theorem dX12_push_61 : decode cX12_push 61 = .ok (.getfield 13, 3) := by decide +kernel
theorem dX12_push_64 : decode cX12_push 64 = .ok (.invokestatic 145, 3) := by decide +kernel
theorem dX12_push_67 : decode cX12_push 67 = .ok (.aload_n 0, 1) := by decide +kernel
theorem dX12_push_68 : decode cX12_push 68 = .ok (.getfield 13, 3) := by decide +kernel
theorem dX12_push_71 : decode cX12_push 71 = .ok (.iload 4, 2) := by decide +kernel
theorem dX12_push_73 : decode cX12_push 73 = .ok (.iconst 2, 1) := by decide +kernel
theorem dX12_push_74 : decode cX12_push 74 = .ok (.invokestatic 72, 3) := by decide +kernel
theorem dX12_push_77 : decode cX12_push 77 = .ok (.iload 5, 2) := by decide +kernel
theorem dX12_push_79 : decode cX12_push 79 = .ok (.iastore, 1) := by decide +kernel
theorem dX12_push_80 : decode cX12_push 80 = .ok (.aload_n 0, 1) := by decide +kernel
theorem dX12_push_81 : decode cX12_push 81 = .ok (.getfield 13, 3) := by decide +kernel
theorem dX12_push_84 : decode cX12_push 84 = .ok (.iload_n 1, 1) := by decide +kernel
theorem dX12_push_85 : decode cX12_push 85 = .ok (.invokestatic 134, 3) := by decide +kernel
theorem dX12_push_88 : decode cX12_push 88 = .ok (.aload_n 0, 1) := by decide +kernel
theorem dX12_push_89 : decode cX12_push 89 = .ok (.getfield 13, 3) := by decide +kernel
theorem dX12_push_92 : decode cX12_push 92 = .ok (.invokestatic 96, 3) := by decide +kernel
theorem dX12_push_95 : decode cX12_push 95 = .ok (.invokestatic 99, 3) := by decide +kernel
theorem dX12_push_98 : decode cX12_push 98 = .ok (.iload_n 2, 1) := by decide +kernel
theorem dX12_push_99 : decode cX12_push 99 = .ok (.if_icmp .gt 6, 3) := by decide +kernel
theorem dX12_push_102 : decode cX12_push 102 = .ok (.goto 26, 3) := by decide +kernel
theorem dX12_push_105 : decode cX12_push 105 = .ok (.bipush 100, 2) := by decide +kernel
theorem dX12_push_107 : decode cX12_push 107 = .ok (.iload 4, 2) := by decide +kernel
theorem dX12_push_109 : decode cX12_push 109 = .ok (.imul, 1) := by decide +kernel
theorem dX12_push_110 : decode cX12_push 110 = .ok (.iload 5, 2) := by decide +kernel
theorem dX12_push_112 : decode cX12_push 112 = .ok (.iadd, 1) := by decide +kernel
theorem dX12_push_113 : decode cX12_push 113 = .ok (.bipush 45, 2) := by decide +kernel
theorem dX12_push_115 : decode cX12_push 115 = .ok (.iadd, 1) := by decide +kernel
theorem dX12_push_116 : decode cX12_push 116 = .ok (.istore_n 3, 1) := by decide +kernel
theorem dX12_push_117 : decode cX12_push 117 = .ok (.aload_n 0, 1) := by decide +kernel
theorem dX12_push_118 : decode cX12_push 118 = .ok (.getfield 13, 3) := by decide +kernel
theorem dX12_push_121 : decode cX12_push 121 = .ok (.invokestatic 96, 3) := by decide +kernel
theorem dX12_push_124 : decode cX12_push 124 = .ok (.invokestatic 99, 3) := by decide +kernel
theorem dX12_push_127 : decode cX12_push 127 = .ok (.istore_n 2, 1) := by decide +kernel
theorem dX12_push_128 : decode cX12_push 128 = .ok (.iinc 5 1, 3) := by decide +kernel
theorem dX12_push_131 : decode cX12_push 131 = .ok (.goto (-82), 3) := by decide +kernel
theorem dX12_push_134 : decode cX12_push 134 = .ok (.iinc 4 1, 3) := by decide +kernel
theorem dX12_push_137 : decode cX12_push 137 = .ok (.goto (-103), 3) := by decide +kernel
theorem dX12_push_140 : decode cX12_push 140 = .ok (.iload_n 3, 1) := by decide +kernel
theorem dX12_push_141 : decode cX12_push 141 = .ok (.ireturn, 1) := by decide +kernel
set_option maxRecDepth 20000 in
theorem ggX12_rightOne_X12_of : GoodIn wsX12_rightOne wsX12_of := goodIn_r _ [5] (by decide +kernel) (by decide +kernel)
set_option maxRecDepth 20000 in
theorem gX12_rightOne_X12_of : GoodIn wsX12_rightOne (va_wsS RX12 72 yX12_of wsX12_of) := goodIn_app (goodIn_of _ (by decide +kernel)) ggX12_rightOne_X12_of
set_option maxRecDepth 20000 in
theorem ggX12_rightOne_X12_isUprightBy : GoodIn wsX12_rightOne wsX12_isUprightBy := goodIn_r _ [8, 9, 10, 4, 11, 2, 3, 5, 12, 13, 14] (by decide +kernel) (by decide +kernel)
set_option maxRecDepth 20000 in
theorem gX12_rightOne_X12_isUprightBy : GoodIn wsX12_rightOne (va_wsS RX12 78 yX12_isUprightBy wsX12_isUprightBy) := goodIn_app (goodIn_of _ (by decide +kernel)) ggX12_rightOne_X12_isUprightBy
theorem dX12_rightOne_0 : decode cX12_rightOne 0 = .ok (.bipush (-4), 2) := by decide +kernel
theorem dX12_rightOne_2 : decode cX12_rightOne 2 = .ok (.istore_n 1, 1) := by decide +kernel
theorem dX12_rightOne_3 : decode cX12_rightOne 3 = .ok (.iconst (-1), 1) := by decide +kernel
theorem dX12_rightOne_4 : decode cX12_rightOne 4 = .ok (.istore_n 2, 1) := by decide +kernel
theorem dX12_rightOne_5 : decode cX12_rightOne 5 = .ok (.iconst 0, 1) := by decide +kernel
theorem dX12_rightOne_6 : decode cX12_rightOne 6 = .ok (.istore_n 3, 1) := by decide +kernel
theorem dX12_rightOne_7 : decode cX12_rightOne 7 = .ok (.iload_n 3, 1) := by decide +kernel
theorem dX12_rightOne_8 : decode cX12_rightOne 8 = .ok (.aload_n 0, 1) := by decide +kernel
theorem dX12_rightOne_9 : decode cX12_rightOne 9 = .ok (.getfield 9, 3) := by decide +kernel
theorem dX12_rightOne_12 : decode cX12_rightOne 12 = .ok (.iconst 0, 1) := by decide +kernel
theorem dX12_rightOne_13 : decode cX12_rightOne 13 = .ok (.iaload, 1) := by decide +kernel
theorem dX12_rightOne_14 : decode cX12_rightOne 14 = .ok (.if_icmp .ge 96, 3) := by decide +kernel
theorem dX12_rightOne_17 : decode cX12_rightOne 17 = .ok (.iconst 0, 1) := by decide +kernel
theorem dX12_rightOne_18 : decode cX12_rightOne 18 = .ok (.istore 4, 2) := by decide +kernel
theorem dX12_rightOne_20 : decode cX12_rightOne 20 = .ok (.iconst 0, 1) := by decide +kernel
theorem dX12_rightOne_21 : decode cX12_rightOne 21 = .ok (.istore 5, 2) := by decide +kernel
theorem dX12_rightOne_23 : decode cX12_rightOne 23 = .ok (.iload 5, 2) := by decide +kernel
theorem dX12_rightOne_25 : decode cX12_rightOne 25 = .ok (.aload_n 0, 1) := by decide +kernel
theorem dX12_rightOne_26 : decode cX12_rightOne 26 = .ok (.getfield 9, 3) := by decide +kernel
theorem dX12_rightOne_29 : decode cX12_rightOne 29 = .ok (.iconst 0, 1) := by decide +kernel
theorem dX12_rightOne_30 : decode cX12_rightOne 30 = .ok (.iaload, 1) := by decide +kernel
theorem dX12_rightOne_31 : decode cX12_rightOne 31 = .ok (.if_icmp .ge 59, 3) := by decide +kernel
theorem dX12_rightOne_34 : decode cX12_rightOne 34 = .ok (.iload 4, 2) := by decide +kernel
theorem dX12_rightOne_36 : decode cX12_rightOne 36 = .ok (.iload 5, 2) := by decide +kernel
theorem dX12_rightOne_38 : decode cX12_rightOne 38 = .ok (.iload_n 3, 1) := by decide +kernel
theorem dX12_rightOne_39 : decode cX12_rightOne 39 = .ok (.if_icmp .eq 41, 3) := by decide +kernel
theorem dX12_rightOne_42 : decode cX12_rightOne 42 = .ok (.aload_n 0, 1) := by decide +kernel
theorem dX12_rightOne_43 : decode cX12_rightOne 43 = .ok (.getfield 9, 3) := by decide +kernel
theorem dX12_rightOne_46 : decode cX12_rightOne 46 = .ok (.iload 5, 2) := by decide +kernel
theorem dX12_rightOne_48 : decode cX12_rightOne 48 = .ok (.aload_n 0, 1) := by decide +kernel
theorem dX12_rightOne_49 : decode cX12_rightOne 49 = .ok (.getfield 9, 3) := by decide +kernel
theorem dX12_rightOne_52 : decode cX12_rightOne 52 = .ok (.iload 5, 2) := by decide +kernel
theorem dX12_rightOne_54 : decode cX12_rightOne 54 = .ok (.iconst 2, 1) := by decide +kernel
theorem dX12_rightOne_55 : decode cX12_rightOne 55 = .ok (.invokestatic 72, 3) := by decide +kernel
theorem dX12_rightOne_58 : decode cX12_rightOne 58 = .ok (.iaload, 1) := by decide +kernel
theorem dX12_rightOne_59 : decode cX12_rightOne 59 = .ok (.aload_n 0, 1) := by decide +kernel
theorem dX12_rightOne_60 : decode cX12_rightOne 60 = .ok (.getfield 9, 3) := by decide +kernel
theorem dX12_rightOne_63 : decode cX12_rightOne 63 = .ok (.iload_n 3, 1) := by decide +kernel
theorem dX12_rightOne_64 : decode cX12_rightOne 64 = .ok (.iconst 2, 1) := by decide +kernel
theorem dX12_rightOne_65 : decode cX12_rightOne 65 = .ok (.invokestatic 72, 3) := by decide +kernel
theorem dX12_rightOne_68 : decode cX12_rightOne 68 = .ok (.iaload, 1) := by decide +kernel
theorem dX12_rightOne_69 : decode cX12_rightOne 69 = .ok (.isub, 1) := by decide +kernel
theorem dX12_rightOne_70 : decode cX12_rightOne 70 = .ok (.invokestatic 78, 3) := by decide +kernel
theorem dX12_rightOne_73 : decode cX12_rightOne 73 = .ok (.ifCond .eq 7, 3) := by decide +kernel
theorem dX12_rightOne_76 : decode cX12_rightOne 76 = .ok (.iconst 1, 1) := by decide +kernel
theorem dX12_rightOne_77 : decode cX12_rightOne 77 = .ok (.goto 4, 3) := by decide +kernel
theorem dX12_rightOne_80 : decode cX12_rightOne 80 = .ok (.iconst 0, 1) := by decide +kernel
theorem dX12_rightOne_81 : decode cX12_rightOne 81 = .ok (.iadd, 1) := by decide +kernel
theorem dX12_rightOne_82 : decode cX12_rightOne 82 = .ok (.istore 4, 2) := by decide +kernel
theorem dX12_rightOne_84 : decode cX12_rightOne 84 = .ok (.iinc 5 1, 3) := by decide +kernel
theorem dX12_rightOne_87 : decode cX12_rightOne 87 = .ok (.goto (-64), 3) := by decide +kernel
theorem dX12_rightOne_90 : decode cX12_rightOne 90 = .ok (.iload 4, 2) := by decide +kernel
theorem dX12_rightOne_92 : decode cX12_rightOne 92 = .ok (.iload_n 2, 1) := by decide +kernel
theorem dX12_rightOne_93 : decode cX12_rightOne 93 = .ok (.if_icmp .gt 6, 3) := by decide +kernel
theorem dX12_rightOne_96 : decode cX12_rightOne 96 = .ok (.goto 8, 3) := by decide +kernel
theorem dX12_rightOne_99 : decode cX12_rightOne 99 = .ok (.iload_n 3, 1) := by decide +kernel
theorem dX12_rightOne_100 : decode cX12_rightOne 100 = .ok (.istore_n 1, 1) := by decide +kernel
theorem dX12_rightOne_101 : decode cX12_rightOne 101 = .ok (.iload 4, 2) := by decide +kernel
theorem dX12_rightOne_103 : decode cX12_rightOne 103 = .ok (.istore_n 2, 1) := by decide +kernel
theorem dX12_rightOne_104 : decode cX12_rightOne 104 = .ok (.iinc 3 1, 3) := by decide +kernel
theorem dX12_rightOne_107 : decode cX12_rightOne 107 = .ok (.goto (-100), 3) := by decide +kernel
theorem dX12_rightOne_110 : decode cX12_rightOne 110 = .ok (.iload_n 1, 1) := by decide +kernel
theorem dX12_rightOne_111 : decode cX12_rightOne 111 = .ok (.ireturn, 1) := by decide +kernel
set_option maxRecDepth 20000 in
theorem ggX12_walls_X12_of : GoodIn wsX12_walls wsX12_of := goodIn_r _ [6] (by decide +kernel) (by decide +kernel)
set_option maxRecDepth 20000 in
theorem gX12_walls_X12_of : GoodIn wsX12_walls (va_wsS RX12 72 yX12_of wsX12_of) := goodIn_app (goodIn_of _ (by decide +kernel)) ggX12_walls_X12_of
theorem dX12_walls_0 : decode cX12_walls 0 = .ok (.bipush (-4), 2) := by decide +kernel
theorem dX12_walls_2 : decode cX12_walls 2 = .ok (.istore_n 1, 1) := by decide +kernel
theorem dX12_walls_3 : decode cX12_walls 3 = .ok (.iconst 0, 1) := by decide +kernel
theorem dX12_walls_4 : decode cX12_walls 4 = .ok (.istore_n 2, 1) := by decide +kernel
theorem dX12_walls_5 : decode cX12_walls 5 = .ok (.iload_n 2, 1) := by decide +kernel
theorem dX12_walls_6 : decode cX12_walls 6 = .ok (.aload_n 0, 1) := by decide +kernel
theorem dX12_walls_7 : decode cX12_walls 7 = .ok (.getfield 9, 3) := by decide +kernel
theorem dX12_walls_10 : decode cX12_walls 10 = .ok (.iconst 0, 1) := by decide +kernel
theorem dX12_walls_11 : decode cX12_walls 11 = .ok (.iaload, 1) := by decide +kernel
theorem dX12_walls_12 : decode cX12_walls 12 = .ok (.if_icmp .ge 104, 3) := by decide +kernel
theorem dX12_walls_15 : decode cX12_walls 15 = .ok (.aload_n 0, 1) := by decide +kernel
theorem dX12_walls_16 : decode cX12_walls 16 = .ok (.getfield 25, 3) := by decide +kernel
theorem dX12_walls_19 : decode cX12_walls 19 = .ok (.iload_n 2, 1) := by decide +kernel
theorem dX12_walls_20 : decode cX12_walls 20 = .ok (.iconst 1, 1) := by decide +kernel
theorem dX12_walls_21 : decode cX12_walls 21 = .ok (.iastore, 1) := by decide +kernel
theorem dX12_walls_22 : decode cX12_walls 22 = .ok (.iconst 0, 1) := by decide +kernel
theorem dX12_walls_23 : decode cX12_walls 23 = .ok (.istore_n 3, 1) := by decide +kernel
theorem dX12_walls_24 : decode cX12_walls 24 = .ok (.iload_n 3, 1) := by decide +kernel
theorem dX12_walls_25 : decode cX12_walls 25 = .ok (.iload_n 2, 1) := by decide +kernel
theorem dX12_walls_26 : decode cX12_walls 26 = .ok (.if_icmp .ge 63, 3) := by decide +kernel
theorem dX12_walls_29 : decode cX12_walls 29 = .ok (.aload_n 0, 1) := by decide +kernel
theorem dX12_walls_30 : decode cX12_walls 30 = .ok (.getfield 9, 3) := by decide +kernel
theorem dX12_walls_33 : decode cX12_walls 33 = .ok (.iload_n 3, 1) := by decide +kernel
theorem dX12_walls_34 : decode cX12_walls 34 = .ok (.iconst 2, 1) := by decide +kernel
theorem dX12_walls_35 : decode cX12_walls 35 = .ok (.invokestatic 72, 3) := by decide +kernel
theorem dX12_walls_38 : decode cX12_walls 38 = .ok (.iaload, 1) := by decide +kernel
theorem dX12_walls_39 : decode cX12_walls 39 = .ok (.aload_n 0, 1) := by decide +kernel
theorem dX12_walls_40 : decode cX12_walls 40 = .ok (.getfield 9, 3) := by decide +kernel
theorem dX12_walls_43 : decode cX12_walls 43 = .ok (.iload_n 2, 1) := by decide +kernel
theorem dX12_walls_44 : decode cX12_walls 44 = .ok (.iconst 2, 1) := by decide +kernel
theorem dX12_walls_45 : decode cX12_walls 45 = .ok (.invokestatic 72, 3) := by decide +kernel
theorem dX12_walls_48 : decode cX12_walls 48 = .ok (.iaload, 1) := by decide +kernel
theorem dX12_walls_49 : decode cX12_walls 49 = .ok (.if_icmp .gt 34, 3) := by decide +kernel
theorem dX12_walls_52 : decode cX12_walls 52 = .ok (.aload_n 0, 1) := by decide +kernel
theorem dX12_walls_53 : decode cX12_walls 53 = .ok (.getfield 25, 3) := by decide +kernel
theorem dX12_walls_56 : decode cX12_walls 56 = .ok (.iload_n 3, 1) := by decide +kernel
theorem dX12_walls_57 : decode cX12_walls 57 = .ok (.iaload, 1) := by decide +kernel
theorem dX12_walls_58 : decode cX12_walls 58 = .ok (.iconst 1, 1) := by decide +kernel
theorem dX12_walls_59 : decode cX12_walls 59 = .ok (.iadd, 1) := by decide +kernel
theorem dX12_walls_60 : decode cX12_walls 60 = .ok (.aload_n 0, 1) := by decide +kernel
theorem dX12_walls_61 : decode cX12_walls 61 = .ok (.getfield 25, 3) := by decide +kernel
theorem dX12_walls_64 : decode cX12_walls 64 = .ok (.iload_n 2, 1) := by decide +kernel
theorem dX12_walls_65 : decode cX12_walls 65 = .ok (.iaload, 1) := by decide +kernel
theorem dX12_walls_66 : decode cX12_walls 66 = .ok (.if_icmp .le 17, 3) := by decide +kernel
theorem dX12_walls_69 : decode cX12_walls 69 = .ok (.aload_n 0, 1) := by decide +kernel
theorem dX12_walls_70 : decode cX12_walls 70 = .ok (.getfield 25, 3) := by decide +kernel
theorem dX12_walls_73 : decode cX12_walls 73 = .ok (.iload_n 2, 1) := by decide +kernel
theorem dX12_walls_74 : decode cX12_walls 74 = .ok (.aload_n 0, 1) := by decide +kernel
theorem dX12_walls_75 : decode cX12_walls 75 = .ok (.getfield 25, 3) := by decide +kernel
theorem dX12_walls_78 : decode cX12_walls 78 = .ok (.iload_n 3, 1) := by decide +kernel
theorem dX12_walls_79 : decode cX12_walls 79 = .ok (.iaload, 1) := by decide +kernel
theorem dX12_walls_80 : decode cX12_walls 80 = .ok (.iconst 1, 1) := by decide +kernel
theorem dX12_walls_81 : decode cX12_walls 81 = .ok (.iadd, 1) := by decide +kernel
theorem dX12_walls_82 : decode cX12_walls 82 = .ok (.iastore, 1) := by decide +kernel
theorem dX12_walls_83 : decode cX12_walls 83 = .ok (.iinc 3 1, 3) := by decide +kernel
theorem dX12_walls_86 : decode cX12_walls 86 = .ok (.goto (-62), 3) := by decide +kernel
theorem dX12_walls_89 : decode cX12_walls 89 = .ok (.aload_n 0, 1) := by decide +kernel
theorem dX12_walls_90 : decode cX12_walls 90 = .ok (.getfield 25, 3) := by decide +kernel
theorem dX12_walls_93 : decode cX12_walls 93 = .ok (.iload_n 2, 1) := by decide +kernel
theorem dX12_walls_94 : decode cX12_walls 94 = .ok (.iaload, 1) := by decide +kernel
theorem dX12_walls_95 : decode cX12_walls 95 = .ok (.iload_n 1, 1) := by decide +kernel
theorem dX12_walls_96 : decode cX12_walls 96 = .ok (.if_icmp .le 12, 3) := by decide +kernel
theorem dX12_walls_99 : decode cX12_walls 99 = .ok (.aload_n 0, 1) := by decide +kernel
theorem dX12_walls_100 : decode cX12_walls 100 = .ok (.getfield 25, 3) := by decide +kernel
theorem dX12_walls_103 : decode cX12_walls 103 = .ok (.iload_n 2, 1) := by decide +kernel
theorem dX12_walls_104 : decode cX12_walls 104 = .ok (.iaload, 1) := by decide +kernel
theorem dX12_walls_105 : decode cX12_walls 105 = .ok (.goto 4, 3) := by decide +kernel
theorem dX12_walls_108 : decode cX12_walls 108 = .ok (.iload_n 1, 1) := by decide +kernel
theorem dX12_walls_109 : decode cX12_walls 109 = .ok (.istore_n 1, 1) := by decide +kernel
theorem dX12_walls_110 : decode cX12_walls 110 = .ok (.iinc 2 1, 3) := by decide +kernel
theorem dX12_walls_113 : decode cX12_walls 113 = .ok (.goto (-108), 3) := by decide +kernel
theorem dX12_walls_116 : decode cX12_walls 116 = .ok (.iload_n 1, 1) := by decide +kernel
theorem dX12_walls_117 : decode cX12_walls 117 = .ok (.ireturn, 1) := by decide +kernel
set_option maxRecDepth 20000 in
theorem ggX12_balance_X12_has : GoodIn wsX12_balance wsX12_has := goodIn_r _ [5] (by decide +kernel) (by decide +kernel)
set_option maxRecDepth 20000 in
theorem gX12_balance_X12_has : GoodIn wsX12_balance (va_wsS RX12 190 yX12_has wsX12_has) := goodIn_app (goodIn_of _ (by decide +kernel)) ggX12_balance_X12_has
set_option maxRecDepth 20000 in
theorem ggX12_balance_X12_of : GoodIn wsX12_balance wsX12_of := goodIn_r _ [8] (by decide +kernel) (by decide +kernel)
set_option maxRecDepth 20000 in
theorem gX12_balance_X12_of : GoodIn wsX12_balance (va_wsS RX12 72 yX12_of wsX12_of) := goodIn_app (goodIn_of _ (by decide +kernel)) ggX12_balance_X12_of
set_option maxRecDepth 20000 in
theorem ggX12_balance_X12_bits : GoodIn wsX12_balance wsX12_bits := goodIn_r _ [11] (by decide +kernel) (by decide +kernel)
set_option maxRecDepth 20000 in
theorem gX12_balance_X12_bits : GoodIn wsX12_balance (va_wsS RX12 99 yX12_bits wsX12_bits) := goodIn_app (goodIn_of _ (by decide +kernel)) ggX12_balance_X12_bits
theorem dX12_balance_0 : decode cX12_balance 0 = .ok (.iconst 0, 1) := by decide +kernel
theorem dX12_balance_1 : decode cX12_balance 1 = .ok (.istore_n 1, 1) := by decide +kernel
theorem dX12_balance_2 : decode cX12_balance 2 = .ok (.iconst 0, 1) := by decide +kernel
theorem dX12_balance_3 : decode cX12_balance 3 = .ok (.istore_n 2, 1) := by decide +kernel
theorem dX12_balance_4 : decode cX12_balance 4 = .ok (.iload_n 2, 1) := by decide +kernel
theorem dX12_balance_5 : decode cX12_balance 5 = .ok (.iconst 1, 1) := by decide +kernel
theorem dX12_balance_6 : decode cX12_balance 6 = .ok (.aload_n 0, 1) := by decide +kernel
theorem dX12_balance_7 : decode cX12_balance 7 = .ok (.getfield 9, 3) := by decide +kernel
theorem dX12_balance_10 : decode cX12_balance 10 = .ok (.iconst 0, 1) := by decide +kernel
theorem dX12_balance_11 : decode cX12_balance 11 = .ok (.iaload, 1) := by decide +kernel
theorem dX12_balance_12 : decode cX12_balance 12 = .ok (.ishl, 1) := by decide +kernel
theorem dX12_balance_13 : decode cX12_balance 13 = .ok (.if_icmp .ge 75, 3) := by decide +kernel
theorem dX12_balance_16 : decode cX12_balance 16 = .ok (.iconst 0, 1) := by decide +kernel
theorem dX12_balance_17 : decode cX12_balance 17 = .ok (.istore_n 3, 1) := by decide +kernel
theorem dX12_balance_18 : decode cX12_balance 18 = .ok (.iconst 0, 1) := by decide +kernel
theorem dX12_balance_19 : decode cX12_balance 19 = .ok (.istore 4, 2) := by decide +kernel
theorem dX12_balance_21 : decode cX12_balance 21 = .ok (.iload 4, 2) := by decide +kernel
theorem dX12_balance_23 : decode cX12_balance 23 = .ok (.aload_n 0, 1) := by decide +kernel
theorem dX12_balance_24 : decode cX12_balance 24 = .ok (.getfield 9, 3) := by decide +kernel
theorem dX12_balance_27 : decode cX12_balance 27 = .ok (.iconst 0, 1) := by decide +kernel
theorem dX12_balance_28 : decode cX12_balance 28 = .ok (.iaload, 1) := by decide +kernel
theorem dX12_balance_29 : decode cX12_balance 29 = .ok (.if_icmp .ge 36, 3) := by decide +kernel
theorem dX12_balance_32 : decode cX12_balance 32 = .ok (.iload_n 3, 1) := by decide +kernel
theorem dX12_balance_33 : decode cX12_balance 33 = .ok (.iload_n 2, 1) := by decide +kernel
theorem dX12_balance_34 : decode cX12_balance 34 = .ok (.iload 4, 2) := by decide +kernel
theorem dX12_balance_36 : decode cX12_balance 36 = .ok (.invokestatic 190, 3) := by decide +kernel
theorem dX12_balance_39 : decode cX12_balance 39 = .ok (.ifCond .eq 17, 3) := by decide +kernel
theorem dX12_balance_42 : decode cX12_balance 42 = .ok (.aload_n 0, 1) := by decide +kernel
theorem dX12_balance_43 : decode cX12_balance 43 = .ok (.getfield 9, 3) := by decide +kernel
theorem dX12_balance_46 : decode cX12_balance 46 = .ok (.iload 4, 2) := by decide +kernel
theorem dX12_balance_48 : decode cX12_balance 48 = .ok (.iconst 2, 1) := by decide +kernel
theorem dX12_balance_49 : decode cX12_balance 49 = .ok (.invokestatic 72, 3) := by decide +kernel
theorem dX12_balance_52 : decode cX12_balance 52 = .ok (.iaload, 1) := by decide +kernel
theorem dX12_balance_53 : decode cX12_balance 53 = .ok (.goto 4, 3) := by decide +kernel
theorem dX12_balance_56 : decode cX12_balance 56 = .ok (.iconst 0, 1) := by decide +kernel
theorem dX12_balance_57 : decode cX12_balance 57 = .ok (.iadd, 1) := by decide +kernel
theorem dX12_balance_58 : decode cX12_balance 58 = .ok (.istore_n 3, 1) := by decide +kernel
theorem dX12_balance_59 : decode cX12_balance 59 = .ok (.iinc 4 1, 3) := by decide +kernel
theorem dX12_balance_62 : decode cX12_balance 62 = .ok (.goto (-41), 3) := by decide +kernel
theorem dX12_balance_65 : decode cX12_balance 65 = .ok (.iload_n 3, 1) := by decide +kernel
theorem dX12_balance_66 : decode cX12_balance 66 = .ok (.ifCond .ne 16, 3) := by decide +kernel
theorem dX12_balance_69 : decode cX12_balance 69 = .ok (.iload_n 2, 1) := by decide +kernel
theorem dX12_balance_70 : decode cX12_balance 70 = .ok (.invokestatic 99, 3) := by decide +kernel
theorem dX12_balance_73 : decode cX12_balance 73 = .ok (.iload_n 1, 1) := by decide +kernel
theorem dX12_balance_74 : decode cX12_balance 74 = .ok (.invokestatic 99, 3) := by decide +kernel
theorem dX12_balance_77 : decode cX12_balance 77 = .ok (.if_icmp .le 5, 3) := by decide +kernel
theorem dX12_balance_80 : decode cX12_balance 80 = .ok (.iload_n 2, 1) := by decide +kernel
theorem dX12_balance_81 : decode cX12_balance 81 = .ok (.istore_n 1, 1) := by decide +kernel
theorem dX12_balance_82 : decode cX12_balance 82 = .ok (.iinc 2 1, 3) := by decide +kernel
theorem dX12_balance_85 : decode cX12_balance 85 = .ok (.goto (-81), 3) := by decide +kernel
theorem dX12_balance_88 : decode cX12_balance 88 = .ok (.iload_n 1, 1) := by decide +kernel
theorem dX12_balance_89 : decode cX12_balance 89 = .ok (.ireturn, 1) := by decide +kernel
set_option maxRecDepth 20000 in
theorem ggX12_right_X12_rightOne : GoodIn wsX12_right wsX12_rightOne := goodIn_r _ [5, 6, 7, 8, 4, 9, 10, 11, 12, 13, 14, 15, 16, 17, 18, 34, 35, 36, 37, 38, 39, 40, 41, 42, 43, 44, 45, 46, 47, 48, 49, 50, 51] (by decide +kernel) (by decide +kernel)
set_option maxRecDepth 20000 in
theorem gX12_right_X12_rightOne : GoodIn wsX12_right (wsV RX12 193 RX12 yX12_rightOne wsX12_rightOne) := goodIn_app (goodIn_of _ (by decide +kernel)) ggX12_right_X12_rightOne
set_option maxRecDepth 20000 in
theorem ggX12_right_X12_walls : GoodIn wsX12_right wsX12_walls := goodIn_r _ [22, 6, 23, 7, 8, 4, 9, 34, 35, 36, 37, 38, 39, 40, 41, 42, 43, 44, 45, 46, 47, 48, 49, 50, 51] (by decide +kernel) (by decide +kernel)
set_option maxRecDepth 20000 in
theorem gX12_right_X12_walls : GoodIn wsX12_right (wsV RX12 196 RX12 yX12_walls wsX12_walls) := goodIn_app (goodIn_of _ (by decide +kernel)) ggX12_right_X12_walls
set_option maxRecDepth 20000 in
theorem ggX12_right_X12_balance : GoodIn wsX12_right wsX12_balance := goodIn_r _ [27, 6, 28, 29, 4, 30, 7, 8, 9, 31, 32, 33, 34, 35, 36, 37, 38, 39, 40, 41, 42, 43, 44, 45, 46, 47, 48, 49, 50, 51] (by decide +kernel) (by decide +kernel)
set_option maxRecDepth 20000 in
theorem gX12_right_X12_balance : GoodIn wsX12_right (wsV RX12 199 RX12 yX12_balance wsX12_balance) := goodIn_app (goodIn_of _ (by decide +kernel)) ggX12_right_X12_balance
theorem dX12_right_0 : decode cX12_right 0 = .ok (.iload_n 1, 1) := by decide +kernel
theorem dX12_right_1 : decode cX12_right 1 = .ok (.ifCond .ne 10, 3) := by decide +kernel
theorem dX12_right_4 : decode cX12_right 4 = .ok (.aload_n 0, 1) := by decide +kernel
theorem dX12_right_5 : decode cX12_right 5 = .ok (.invokevirtual 193, 3) := by decide +kernel
theorem dX12_right_8 : decode cX12_right 8 = .ok (.goto 28, 3) := by decide +kernel
theorem dX12_right_11 : decode cX12_right 11 = .ok (.iload_n 1, 1) := by decide +kernel
theorem dX12_right_12 : decode cX12_right 12 = .ok (.iconst 1, 1) := by decide +kernel
theorem dX12_right_13 : decode cX12_right 13 = .ok (.if_icmp .ne 10, 3) := by decide +kernel
theorem dX12_right_16 : decode cX12_right 16 = .ok (.aload_n 0, 1) := by decide +kernel
theorem dX12_right_17 : decode cX12_right 17 = .ok (.invokevirtual 196, 3) := by decide +kernel
theorem dX12_right_20 : decode cX12_right 20 = .ok (.goto 16, 3) := by decide +kernel
theorem dX12_right_23 : decode cX12_right 23 = .ok (.iload_n 1, 1) := by decide +kernel
theorem dX12_right_24 : decode cX12_right 24 = .ok (.iconst 2, 1) := by decide +kernel
theorem dX12_right_25 : decode cX12_right 25 = .ok (.if_icmp .ne 10, 3) := by decide +kernel
theorem dX12_right_28 : decode cX12_right 28 = .ok (.aload_n 0, 1) := by decide +kernel
theorem dX12_right_29 : decode cX12_right 29 = .ok (.invokevirtual 199, 3) := by decide +kernel
theorem dX12_right_32 : decode cX12_right 32 = .ok (.goto 4, 3) := by decide +kernel
theorem dX12_right_35 : decode cX12_right 35 = .ok (.iconst (-1), 1) := by decide +kernel
theorem dX12_right_36 : decode cX12_right 36 = .ok (.ireturn, 1) := by decide +kernel
theorem dX12_leastOf_0 : decode cX12_leastOf 0 = .ok (.iload_n 0, 1) := by decide +kernel
theorem dX12_leastOf_1 : decode cX12_leastOf 1 = .ok (.ifCond .ne 8, 3) := by decide +kernel
theorem dX12_leastOf_4 : decode cX12_leastOf 4 = .ok (.bipush (-128), 2) := by decide +kernel
theorem dX12_leastOf_6 : decode cX12_leastOf 6 = .ok (.goto 16, 3) := by decide +kernel
theorem dX12_leastOf_9 : decode cX12_leastOf 9 = .ok (.iload_n 0, 1) := by decide +kernel
theorem dX12_leastOf_10 : decode cX12_leastOf 10 = .ok (.iconst 1, 1) := by decide +kernel
theorem dX12_leastOf_11 : decode cX12_leastOf 11 = .ok (.if_icmp .ne 9, 3) := by decide +kernel
theorem dX12_leastOf_14 : decode cX12_leastOf 14 = .ok (.sipush (-32768), 3) := by decide +kernel
theorem dX12_leastOf_17 : decode cX12_leastOf 17 = .ok (.goto 5, 3) := by decide +kernel
theorem dX12_leastOf_20 : decode cX12_leastOf 20 = .ok (.ldc 202, 2) := by decide +kernel
theorem dX12_leastOf_22 : decode cX12_leastOf 22 = .ok (.ireturn, 1) := by decide +kernel
set_option maxRecDepth 20000 in
theorem ggX12_isTold_X12_leastOf : GoodIn wsX12_isTold wsX12_leastOf := goodIn_r _ [6, 7] (by decide +kernel) (by decide +kernel)
set_option maxRecDepth 20000 in
theorem gX12_isTold_X12_leastOf : GoodIn wsX12_isTold (va_wsS RX12 203 yX12_leastOf wsX12_leastOf) := goodIn_app (goodIn_of _ (by decide +kernel)) ggX12_isTold_X12_leastOf
theorem dX12_isTold_0 : decode cX12_isTold 0 = .ok (.aload_n 0, 1) := by decide +kernel
theorem dX12_isTold_1 : decode cX12_isTold 1 = .ok (.getfield 43, 3) := by decide +kernel
theorem dX12_isTold_4 : decode cX12_isTold 4 = .ok (.bipush 100, 2) := by decide +kernel
theorem dX12_isTold_6 : decode cX12_isTold 6 = .ok (.iload_n 1, 1) := by decide +kernel
theorem dX12_isTold_7 : decode cX12_isTold 7 = .ok (.imul, 1) := by decide +kernel
theorem dX12_isTold_8 : decode cX12_isTold 8 = .ok (.iload_n 2, 1) := by decide +kernel
theorem dX12_isTold_9 : decode cX12_isTold 9 = .ok (.iadd, 1) := by decide +kernel
theorem dX12_isTold_10 : decode cX12_isTold 10 = .ok (.iaload, 1) := by decide +kernel
theorem dX12_isTold_11 : decode cX12_isTold 11 = .ok (.aload_n 0, 1) := by decide +kernel
theorem dX12_isTold_12 : decode cX12_isTold 12 = .ok (.getfield 37, 3) := by decide +kernel
theorem dX12_isTold_15 : decode cX12_isTold 15 = .ok (.iload_n 1, 1) := by decide +kernel
theorem dX12_isTold_16 : decode cX12_isTold 16 = .ok (.iaload, 1) := by decide +kernel
theorem dX12_isTold_17 : decode cX12_isTold 17 = .ok (.invokestatic 203, 3) := by decide +kernel
theorem dX12_isTold_20 : decode cX12_isTold 20 = .ok (.if_icmp .eq 18, 3) := by decide +kernel
theorem dX12_isTold_23 : decode cX12_isTold 23 = .ok (.aload_n 0, 1) := by decide +kernel
theorem dX12_isTold_24 : decode cX12_isTold 24 = .ok (.getfield 43, 3) := by decide +kernel
theorem dX12_isTold_27 : decode cX12_isTold 27 = .ok (.bipush 100, 2) := by decide +kernel
theorem dX12_isTold_29 : decode cX12_isTold 29 = .ok (.iload_n 1, 1) := by decide +kernel
theorem dX12_isTold_30 : decode cX12_isTold 30 = .ok (.imul, 1) := by decide +kernel
theorem dX12_isTold_31 : decode cX12_isTold 31 = .ok (.iload_n 2, 1) := by decide +kernel
theorem dX12_isTold_32 : decode cX12_isTold 32 = .ok (.iadd, 1) := by decide +kernel
theorem dX12_isTold_33 : decode cX12_isTold 33 = .ok (.iaload, 1) := by decide +kernel
theorem dX12_isTold_34 : decode cX12_isTold 34 = .ok (.iload_n 3, 1) := by decide +kernel
theorem dX12_isTold_35 : decode cX12_isTold 35 = .ok (.if_icmp .ne 7, 3) := by decide +kernel
theorem dX12_isTold_38 : decode cX12_isTold 38 = .ok (.iconst 1, 1) := by decide +kernel
theorem dX12_isTold_39 : decode cX12_isTold 39 = .ok (.goto 4, 3) := by decide +kernel
theorem dX12_isTold_42 : decode cX12_isTold 42 = .ok (.iconst 0, 1) := by decide +kernel
theorem dX12_isTold_43 : decode cX12_isTold 43 = .ok (.ireturn, 1) := by decide +kernel
set_option maxRecDepth 20000 in
theorem ggX12_whatIs_X12_isMan : GoodIn wsX12_whatIs wsX12_isMan := goodIn_r _ [8, 1, 9, 10, 7, 11, 84, 85, 86, 87, 88, 89, 90, 91, 92, 93, 94, 95, 96, 97, 98, 99, 100, 101] (by decide +kernel) (by decide +kernel)
set_option maxRecDepth 20000 in
theorem gX12_whatIs_X12_isMan : GoodIn wsX12_whatIs (wsV RX12 50 RX12 yX12_isMan wsX12_isMan) := goodIn_app (goodIn_of _ (by decide +kernel)) ggX12_whatIs_X12_isMan
set_option maxRecDepth 20000 in
theorem ggX12_whatIs_X12_isIn : GoodIn wsX12_whatIs wsX12_isIn := goodIn_r _ [11] (by decide +kernel) (by decide +kernel)
set_option maxRecDepth 20000 in
theorem gX12_whatIs_X12_isIn : GoodIn wsX12_whatIs (va_wsS RX12 46 yX12_isIn wsX12_isIn) := goodIn_app (goodIn_of _ (by decide +kernel)) ggX12_whatIs_X12_isIn
set_option maxRecDepth 20000 in
theorem ggX12_whatIs_X12_wrongRow : GoodIn wsX12_whatIs wsX12_wrongRow := goodIn_r _ [15, 16, 17, 18, 19, 7, 20, 9, 10, 11, 84, 85, 86, 87, 88, 89, 90, 91, 92, 93, 94, 95, 96, 97, 98, 99, 100, 101] (by decide +kernel) (by decide +kernel)
set_option maxRecDepth 20000 in
theorem gX12_whatIs_X12_wrongRow : GoodIn wsX12_whatIs (wsV RX12 138 RX12 yX12_wrongRow wsX12_wrongRow) := goodIn_app (goodIn_of _ (by decide +kernel)) ggX12_whatIs_X12_wrongRow
set_option maxRecDepth 20000 in
theorem ggX12_whatIs_X12_copies : GoodIn wsX12_whatIs wsX12_copies := goodIn_r _ [23] (by decide +kernel) (by decide +kernel)
set_option maxRecDepth 20000 in
theorem gX12_whatIs_X12_copies : GoodIn wsX12_whatIs (va_wsS RX12 145 yX12_copies wsX12_copies) := goodIn_app (goodIn_of _ (by decide +kernel)) ggX12_whatIs_X12_copies
set_option maxRecDepth 20000 in
theorem ggX12_whatIs_X12_of : GoodIn wsX12_whatIs wsX12_of := goodIn_r _ [26] (by decide +kernel) (by decide +kernel)
set_option maxRecDepth 20000 in
theorem gX12_whatIs_X12_of : GoodIn wsX12_whatIs (va_wsS RX12 72 yX12_of wsX12_of) := goodIn_app (goodIn_of _ (by decide +kernel)) ggX12_whatIs_X12_of
set_option maxRecDepth 20000 in
theorem ggX12_whatIs_X12_isTold : GoodIn wsX12_whatIs wsX12_isTold := goodIn_r _ [30, 31, 17, 32, 33, 7, 34, 35, 84, 85, 86, 87, 88, 89, 90, 91, 92, 93, 94, 95, 96, 97, 98, 99, 100, 101] (by decide +kernel) (by decide +kernel)
set_option maxRecDepth 20000 in
theorem gX12_whatIs_X12_isTold : GoodIn wsX12_whatIs (wsV RX12 206 RX12 yX12_isTold wsX12_isTold) := goodIn_app (goodIn_of _ (by decide +kernel)) ggX12_whatIs_X12_isTold
set_option maxRecDepth 20000 in
theorem ggX12_whatIs_X12_day : GoodIn wsX12_whatIs wsX12_day := goodIn_r _ [38, 39, 40, 7, 41, 24, 25, 26, 42, 43, 44, 45, 46, 47, 48, 49, 50, 51, 52, 53, 54, 55, 56, 57, 58, 59, 60, 61, 62, 63, 64, 65, 66, 67, 68, 69, 70, 71, 72, 73, 74, 75, 76, 77, 78, 79, 80, 81, 82, 83] (by decide +kernel) (by decide +kernel)
set_option maxRecDepth 20000 in
theorem gX12_whatIs_X12_day : GoodIn wsX12_whatIs (va_wsS RX12 109 yX12_day wsX12_day) := goodIn_app (goodIn_of _ (by decide +kernel)) ggX12_whatIs_X12_day
theorem dX12_whatIs_0 : decode cX12_whatIs 0 = .ok (.aload_n 0, 1) := by decide +kernel
theorem dX12_whatIs_1 : decode cX12_whatIs 1 = .ok (.iload_n 2, 1) := by decide +kernel
theorem dX12_whatIs_2 : decode cX12_whatIs 2 = .ok (.invokevirtual 50, 3) := by decide +kernel
theorem dX12_whatIs_5 : decode cX12_whatIs 5 = .ok (.ifCond .eq 12, 3) := by decide +kernel
theorem dX12_whatIs_8 : decode cX12_whatIs 8 = .ok (.iload_n 3, 1) := by decide +kernel
theorem dX12_whatIs_9 : decode cX12_whatIs 9 = .ok (.iconst 0, 1) := by decide +kernel
theorem dX12_whatIs_10 : decode cX12_whatIs 10 = .ok (.iconst 1, 1) := by decide +kernel
theorem dX12_whatIs_11 : decode cX12_whatIs 11 = .ok (.invokestatic 46, 3) := by decide +kernel
theorem dX12_whatIs_14 : decode cX12_whatIs 14 = .ok (.ifCond .ne 5, 3) := by decide +kernel
theorem dX12_whatIs_17 : decode cX12_whatIs 17 = .ok (.iconst (-1), 1) := by decide +kernel
theorem dX12_whatIs_18 : decode cX12_whatIs 18 = .ok (.ireturn, 1) := by decide +kernel
theorem dX12_whatIs_19 : decode cX12_whatIs 19 = .ok (.aload_n 0, 1) := by decide +kernel
theorem dX12_whatIs_20 : decode cX12_whatIs 20 = .ok (.iload_n 1, 1) := by decide +kernel
theorem dX12_whatIs_21 : decode cX12_whatIs 21 = .ok (.iconst (-1), 1) := by decide +kernel
theorem dX12_whatIs_22 : decode cX12_whatIs 22 = .ok (.invokevirtual 138, 3) := by decide +kernel
theorem dX12_whatIs_25 : decode cX12_whatIs 25 = .ok (.istore 4, 2) := by decide +kernel
theorem dX12_whatIs_27 : decode cX12_whatIs 27 = .ok (.iload 4, 2) := by decide +kernel
theorem dX12_whatIs_29 : decode cX12_whatIs 29 = .ok (.ifCond .eq 6, 3) := by decide +kernel
theorem dX12_whatIs_32 : decode cX12_whatIs 32 = .ok (.iload 4, 2) := by decide +kernel
theorem dX12_whatIs_34 : decode cX12_whatIs 34 = .ok (.ireturn, 1) := by decide +kernel
theorem dX12_whatIs_35 : decode cX12_whatIs 35 = .ok (.iconst 0, 1) := by decide +kernel
theorem dX12_whatIs_36 : decode cX12_whatIs 36 = .ok (.istore 5, 2) := by decide +kernel
theorem dX12_whatIs_38 : decode cX12_whatIs 38 = .ok (.iconst 0, 1) := by decide +kernel
theorem dX12_whatIs_39 : decode cX12_whatIs 39 = .ok (.istore 6, 2) := by decide +kernel
theorem dX12_whatIs_41 : decode cX12_whatIs 41 = .ok (.iload 6, 2) := by decide +kernel
theorem dX12_whatIs_43 : decode cX12_whatIs 43 = .ok (.iload_n 3, 1) := by decide +kernel
theorem dX12_whatIs_44 : decode cX12_whatIs 44 = .ok (.ifCond .ne 8, 3) := by decide +kernel
theorem dX12_whatIs_47 : decode cX12_whatIs 47 = .ok (.bipush 8, 2) := by decide +kernel
theorem dX12_whatIs_49 : decode cX12_whatIs 49 = .ok (.goto 5, 3) := by decide +kernel
theorem dX12_whatIs_52 : decode cX12_whatIs 52 = .ok (.bipush 10, 2) := by decide +kernel
theorem dX12_whatIs_54 : decode cX12_whatIs 54 = .ok (.if_icmp .ge 102, 3) := by decide +kernel
theorem dX12_whatIs_57 : decode cX12_whatIs 57 = .ok (.iconst 1, 1) := by decide +kernel
theorem dX12_whatIs_58 : decode cX12_whatIs 58 = .ok (.istore 7, 2) := by decide +kernel
theorem dX12_whatIs_60 : decode cX12_whatIs 60 = .ok (.aload_n 0, 1) := by decide +kernel
theorem dX12_whatIs_61 : decode cX12_whatIs 61 = .ok (.getfield 9, 3) := by decide +kernel
theorem dX12_whatIs_64 : decode cX12_whatIs 64 = .ok (.aload_n 0, 1) := by decide +kernel
theorem dX12_whatIs_65 : decode cX12_whatIs 65 = .ok (.getfield 13, 3) := by decide +kernel
theorem dX12_whatIs_68 : decode cX12_whatIs 68 = .ok (.invokestatic 145, 3) := by decide +kernel
theorem dX12_whatIs_71 : decode cX12_whatIs 71 = .ok (.aload_n 0, 1) := by decide +kernel
theorem dX12_whatIs_72 : decode cX12_whatIs 72 = .ok (.getfield 13, 3) := by decide +kernel
theorem dX12_whatIs_75 : decode cX12_whatIs 75 = .ok (.iload_n 2, 1) := by decide +kernel
theorem dX12_whatIs_76 : decode cX12_whatIs 76 = .ok (.iload_n 3, 1) := by decide +kernel
theorem dX12_whatIs_77 : decode cX12_whatIs 77 = .ok (.invokestatic 72, 3) := by decide +kernel
theorem dX12_whatIs_80 : decode cX12_whatIs 80 = .ok (.iload 6, 2) := by decide +kernel
theorem dX12_whatIs_82 : decode cX12_whatIs 82 = .ok (.iastore, 1) := by decide +kernel
theorem dX12_whatIs_83 : decode cX12_whatIs 83 = .ok (.iconst 0, 1) := by decide +kernel
theorem dX12_whatIs_84 : decode cX12_whatIs 84 = .ok (.istore 8, 2) := by decide +kernel
theorem dX12_whatIs_86 : decode cX12_whatIs 86 = .ok (.iload 8, 2) := by decide +kernel
theorem dX12_whatIs_88 : decode cX12_whatIs 88 = .ok (.aload_n 0, 1) := by decide +kernel
theorem dX12_whatIs_89 : decode cX12_whatIs 89 = .ok (.getfield 40, 3) := by decide +kernel
theorem dX12_whatIs_92 : decode cX12_whatIs 92 = .ok (.iload_n 1, 1) := by decide +kernel
theorem dX12_whatIs_93 : decode cX12_whatIs 93 = .ok (.iaload, 1) := by decide +kernel
theorem dX12_whatIs_94 : decode cX12_whatIs 94 = .ok (.if_icmp .ge 38, 3) := by decide +kernel
theorem dX12_whatIs_97 : decode cX12_whatIs 97 = .ok (.iload 7, 2) := by decide +kernel
theorem dX12_whatIs_99 : decode cX12_whatIs 99 = .ok (.aload_n 0, 1) := by decide +kernel
theorem dX12_whatIs_100 : decode cX12_whatIs 100 = .ok (.iload_n 1, 1) := by decide +kernel
theorem dX12_whatIs_101 : decode cX12_whatIs 101 = .ok (.iload 8, 2) := by decide +kernel
theorem dX12_whatIs_103 : decode cX12_whatIs 103 = .ok (.aload_n 0, 1) := by decide +kernel
theorem dX12_whatIs_104 : decode cX12_whatIs 104 = .ok (.getfield 13, 3) := by decide +kernel
theorem dX12_whatIs_107 : decode cX12_whatIs 107 = .ok (.iload_n 2, 1) := by decide +kernel
theorem dX12_whatIs_108 : decode cX12_whatIs 108 = .ok (.iconst 2, 1) := by decide +kernel
theorem dX12_whatIs_109 : decode cX12_whatIs 109 = .ok (.invokestatic 72, 3) := by decide +kernel
theorem dX12_whatIs_112 : decode cX12_whatIs 112 = .ok (.iaload, 1) := by decide +kernel
theorem dX12_whatIs_113 : decode cX12_whatIs 113 = .ok (.invokevirtual 206, 3) := by decide +kernel
theorem dX12_whatIs_116 : decode cX12_whatIs 116 = .ok (.iand, 1) := by decide +kernel
theorem dX12_whatIs_117 : decode cX12_whatIs 117 = .ok (.istore 7, 2) := by decide +kernel
theorem dX12_whatIs_119 : decode cX12_whatIs 119 = .ok (.aload_n 0, 1) := by decide +kernel
theorem dX12_whatIs_120 : decode cX12_whatIs 120 = .ok (.getfield 13, 3) := by decide +kernel
theorem dX12_whatIs_123 : decode cX12_whatIs 123 = .ok (.invokestatic 109, 3) := by decide +kernel
theorem dX12_whatIs_126 : decode cX12_whatIs 126 = .ok (.iinc 8 1, 3) := by decide +kernel
theorem dX12_whatIs_129 : decode cX12_whatIs 129 = .ok (.goto (-43), 3) := by decide +kernel
theorem dX12_whatIs_132 : decode cX12_whatIs 132 = .ok (.iload 5, 2) := by decide +kernel
theorem dX12_whatIs_134 : decode cX12_whatIs 134 = .ok (.iload 7, 2) := by decide +kernel
theorem dX12_whatIs_136 : decode cX12_whatIs 136 = .ok (.ifCond .eq 10, 3) := by decide +kernel
theorem dX12_whatIs_139 : decode cX12_whatIs 139 = .ok (.iconst 1, 1) := by decide +kernel
theorem dX12_whatIs_140 : decode cX12_whatIs 140 = .ok (.iload 6, 2) := by decide +kernel
theorem dX12_whatIs_142 : decode cX12_whatIs 142 = .ok (.ishl, 1) := by decide +kernel
theorem dX12_whatIs_143 : decode cX12_whatIs 143 = .ok (.goto 4, 3) := by decide +kernel
theorem dX12_whatIs_146 : decode cX12_whatIs 146 = .ok (.iconst 0, 1) := by decide +kernel
theorem dX12_whatIs_147 : decode cX12_whatIs 147 = .ok (.ior, 1) := by decide +kernel
theorem dX12_whatIs_148 : decode cX12_whatIs 148 = .ok (.istore 5, 2) := by decide +kernel
theorem dX12_whatIs_150 : decode cX12_whatIs 150 = .ok (.iinc 6 1, 3) := by decide +kernel
theorem dX12_whatIs_153 : decode cX12_whatIs 153 = .ok (.goto (-112), 3) := by decide +kernel
theorem dX12_whatIs_156 : decode cX12_whatIs 156 = .ok (.iload 5, 2) := by decide +kernel
theorem dX12_whatIs_158 : decode cX12_whatIs 158 = .ok (.ireturn, 1) := by decide +kernel
set_option maxRecDepth 20000 in
theorem ggX12_hasHungSo_X12_copies : GoodIn wsX12_hasHungSo wsX12_copies := goodIn_r _ [7] (by decide +kernel) (by decide +kernel)
set_option maxRecDepth 20000 in
theorem gX12_hasHungSo_X12_copies : GoodIn wsX12_hasHungSo (va_wsS RX12 145 yX12_copies wsX12_copies) := goodIn_app (goodIn_of _ (by decide +kernel)) ggX12_hasHungSo_X12_copies
set_option maxRecDepth 20000 in
theorem ggX12_hasHungSo_X12_isTold : GoodIn wsX12_hasHungSo wsX12_isTold := goodIn_r _ [11, 12, 13, 14, 15, 6, 16, 17, 69, 70, 71, 72, 73, 74, 75, 76, 77, 78, 79, 80, 81, 82, 83, 84, 85, 86] (by decide +kernel) (by decide +kernel)
set_option maxRecDepth 20000 in
theorem gX12_hasHungSo_X12_isTold : GoodIn wsX12_hasHungSo (wsV RX12 206 RX12 yX12_isTold wsX12_isTold) := goodIn_app (goodIn_of _ (by decide +kernel)) ggX12_hasHungSo_X12_isTold
set_option maxRecDepth 20000 in
theorem ggX12_hasHungSo_X12_day : GoodIn wsX12_hasHungSo wsX12_day := goodIn_r _ [20, 21, 22, 6, 23, 24, 25, 26, 27, 28, 29, 30, 31, 32, 33, 34, 35, 36, 37, 38, 39, 40, 41, 42, 43, 44, 45, 46, 47, 48, 49, 50, 51, 52, 53, 54, 55, 56, 57, 58, 59, 60, 61, 62, 63, 64, 65, 66, 67, 68] (by decide +kernel) (by decide +kernel)
set_option maxRecDepth 20000 in
theorem gX12_hasHungSo_X12_day : GoodIn wsX12_hasHungSo (va_wsS RX12 109 yX12_day wsX12_day) := goodIn_app (goodIn_of _ (by decide +kernel)) ggX12_hasHungSo_X12_day
theorem dX12_hasHungSo_0 : decode cX12_hasHungSo 0 = .ok (.aload_n 0, 1) := by decide +kernel
theorem dX12_hasHungSo_1 : decode cX12_hasHungSo 1 = .ok (.getfield 9, 3) := by decide +kernel
theorem dX12_hasHungSo_4 : decode cX12_hasHungSo 4 = .ok (.aload_n 0, 1) := by decide +kernel
theorem dX12_hasHungSo_5 : decode cX12_hasHungSo 5 = .ok (.getfield 13, 3) := by decide +kernel
theorem dX12_hasHungSo_8 : decode cX12_hasHungSo 8 = .ok (.invokestatic 145, 3) := by decide +kernel
theorem dX12_hasHungSo_11 : decode cX12_hasHungSo 11 = .ok (.aload_n 0, 1) := by decide +kernel
theorem dX12_hasHungSo_12 : decode cX12_hasHungSo 12 = .ok (.getfield 13, 3) := by decide +kernel
theorem dX12_hasHungSo_15 : decode cX12_hasHungSo 15 = .ok (.iconst 3, 1) := by decide +kernel
theorem dX12_hasHungSo_16 : decode cX12_hasHungSo 16 = .ok (.iload_n 2, 1) := by decide +kernel
theorem dX12_hasHungSo_17 : decode cX12_hasHungSo 17 = .ok (.iastore, 1) := by decide +kernel
theorem dX12_hasHungSo_18 : decode cX12_hasHungSo 18 = .ok (.aload_n 0, 1) := by decide +kernel
theorem dX12_hasHungSo_19 : decode cX12_hasHungSo 19 = .ok (.getfield 13, 3) := by decide +kernel
theorem dX12_hasHungSo_22 : decode cX12_hasHungSo 22 = .ok (.iconst 2, 1) := by decide +kernel
theorem dX12_hasHungSo_23 : decode cX12_hasHungSo 23 = .ok (.iload_n 3, 1) := by decide +kernel
theorem dX12_hasHungSo_24 : decode cX12_hasHungSo 24 = .ok (.iastore, 1) := by decide +kernel
theorem dX12_hasHungSo_25 : decode cX12_hasHungSo 25 = .ok (.iconst 0, 1) := by decide +kernel
theorem dX12_hasHungSo_26 : decode cX12_hasHungSo 26 = .ok (.istore 4, 2) := by decide +kernel
theorem dX12_hasHungSo_28 : decode cX12_hasHungSo 28 = .ok (.iload 4, 2) := by decide +kernel
theorem dX12_hasHungSo_30 : decode cX12_hasHungSo 30 = .ok (.aload_n 0, 1) := by decide +kernel
theorem dX12_hasHungSo_31 : decode cX12_hasHungSo 31 = .ok (.getfield 40, 3) := by decide +kernel
theorem dX12_hasHungSo_34 : decode cX12_hasHungSo 34 = .ok (.iload_n 1, 1) := by decide +kernel
theorem dX12_hasHungSo_35 : decode cX12_hasHungSo 35 = .ok (.iaload, 1) := by decide +kernel
theorem dX12_hasHungSo_36 : decode cX12_hasHungSo 36 = .ok (.if_icmp .ge 34, 3) := by decide +kernel
theorem dX12_hasHungSo_39 : decode cX12_hasHungSo 39 = .ok (.aload_n 0, 1) := by decide +kernel
theorem dX12_hasHungSo_40 : decode cX12_hasHungSo 40 = .ok (.iload_n 1, 1) := by decide +kernel
theorem dX12_hasHungSo_41 : decode cX12_hasHungSo 41 = .ok (.iload 4, 2) := by decide +kernel
theorem dX12_hasHungSo_43 : decode cX12_hasHungSo 43 = .ok (.aload_n 0, 1) := by decide +kernel
theorem dX12_hasHungSo_44 : decode cX12_hasHungSo 44 = .ok (.getfield 13, 3) := by decide +kernel
theorem dX12_hasHungSo_47 : decode cX12_hasHungSo 47 = .ok (.iconst 2, 1) := by decide +kernel
theorem dX12_hasHungSo_48 : decode cX12_hasHungSo 48 = .ok (.iaload, 1) := by decide +kernel
theorem dX12_hasHungSo_49 : decode cX12_hasHungSo 49 = .ok (.invokevirtual 206, 3) := by decide +kernel
theorem dX12_hasHungSo_52 : decode cX12_hasHungSo 52 = .ok (.ifCond .ne 5, 3) := by decide +kernel
theorem dX12_hasHungSo_55 : decode cX12_hasHungSo 55 = .ok (.iconst 0, 1) := by decide +kernel
theorem dX12_hasHungSo_56 : decode cX12_hasHungSo 56 = .ok (.ireturn, 1) := by decide +kernel
theorem dX12_hasHungSo_57 : decode cX12_hasHungSo 57 = .ok (.aload_n 0, 1) := by decide +kernel
theorem dX12_hasHungSo_58 : decode cX12_hasHungSo 58 = .ok (.getfield 13, 3) := by decide +kernel
theorem dX12_hasHungSo_61 : decode cX12_hasHungSo 61 = .ok (.invokestatic 109, 3) := by decide +kernel
theorem dX12_hasHungSo_64 : decode cX12_hasHungSo 64 = .ok (.iinc 4 1, 3) := by decide +kernel
theorem dX12_hasHungSo_67 : decode cX12_hasHungSo 67 = .ok (.goto (-39), 3) := by decide +kernel
theorem dX12_hasHungSo_70 : decode cX12_hasHungSo 70 = .ok (.iconst 1, 1) := by decide +kernel
theorem dX12_hasHungSo_71 : decode cX12_hasHungSo 71 = .ok (.ireturn, 1) := by decide +kernel
set_option maxRecDepth 20000 in
theorem ggX12_whereHung_X12_isIn : GoodIn wsX12_whereHung wsX12_isIn := goodIn_r _ [4] (by decide +kernel) (by decide +kernel)
set_option maxRecDepth 20000 in
theorem gX12_whereHung_X12_isIn : GoodIn wsX12_whereHung (va_wsS RX12 46 yX12_isIn wsX12_isIn) := goodIn_app (goodIn_of _ (by decide +kernel)) ggX12_whereHung_X12_isIn
set_option maxRecDepth 20000 in
theorem ggX12_whereHung_X12_wrongRow : GoodIn wsX12_whereHung wsX12_wrongRow := goodIn_r _ [8, 9, 10, 11, 12, 3, 13, 1, 2, 4, 84, 85, 86, 87, 88, 89, 90, 91, 92, 93, 94, 95, 96, 97, 98, 99, 100, 101] (by decide +kernel) (by decide +kernel)
set_option maxRecDepth 20000 in
theorem gX12_whereHung_X12_wrongRow : GoodIn wsX12_whereHung (wsV RX12 138 RX12 yX12_wrongRow wsX12_wrongRow) := goodIn_app (goodIn_of _ (by decide +kernel)) ggX12_whereHung_X12_wrongRow
set_option maxRecDepth 20000 in
theorem ggX12_whereHung_X12_hasHungSo : GoodIn wsX12_whereHung wsX12_hasHungSo := goodIn_r _ [17, 18, 19, 20, 21, 22, 3, 23, 24, 25, 26, 27, 28, 10, 29, 30, 31, 32, 33, 34, 35, 36, 37, 38, 39, 40, 41, 42, 43, 44, 45, 46, 47, 48, 49, 50, 51, 52, 53, 54, 55, 56, 57, 58, 59, 60, 61, 62, 63, 64, 65, 66, 67, 68, 69, 70, 71, 72, 73, 74, 75, 76, 77, 78, 79, 80, 81, 82, 83, 84, 85, 86, 87, 88, 89, 90, 91, 92, 93, 94, 95, 96, 97, 98, 99, 100, 101] (by decide +kernel) (by decide +kernel)
set_option maxRecDepth 20000 in
theorem gX12_whereHung_X12_hasHungSo : GoodIn wsX12_whereHung (wsV RX12 209 RX12 yX12_hasHungSo wsX12_hasHungSo) := goodIn_app (goodIn_of _ (by decide +kernel)) ggX12_whereHung_X12_hasHungSo
theorem dX12_whereHung_0 : decode cX12_whereHung 0 = .ok (.iload_n 2, 1) := by decide +kernel
theorem dX12_whereHung_1 : decode cX12_whereHung 1 = .ok (.iconst 0, 1) := by decide +kernel
theorem dX12_whereHung_2 : decode cX12_whereHung 2 = .ok (.iconst 2, 1) := by decide +kernel
theorem dX12_whereHung_3 : decode cX12_whereHung 3 = .ok (.invokestatic 46, 3) := by decide +kernel
theorem dX12_whereHung_6 : decode cX12_whereHung 6 = .ok (.ifCond .ne 5, 3) := by decide +kernel
theorem dX12_whereHung_9 : decode cX12_whereHung 9 = .ok (.iconst (-1), 1) := by decide +kernel
theorem dX12_whereHung_10 : decode cX12_whereHung 10 = .ok (.ireturn, 1) := by decide +kernel
theorem dX12_whereHung_11 : decode cX12_whereHung 11 = .ok (.aload_n 0, 1) := by decide +kernel
theorem dX12_whereHung_12 : decode cX12_whereHung 12 = .ok (.iload_n 1, 1) := by decide +kernel
theorem dX12_whereHung_13 : decode cX12_whereHung 13 = .ok (.iconst (-1), 1) := by decide +kernel
theorem dX12_whereHung_14 : decode cX12_whereHung 14 = .ok (.invokevirtual 138, 3) := by decide +kernel
theorem dX12_whereHung_17 : decode cX12_whereHung 17 = .ok (.istore_n 3, 1) := by decide +kernel
theorem dX12_whereHung_18 : decode cX12_whereHung 18 = .ok (.iload_n 3, 1) := by decide +kernel
theorem dX12_whereHung_19 : decode cX12_whereHung 19 = .ok (.ifCond .eq 5, 3) := by decide +kernel
theorem dX12_whereHung_22 : decode cX12_whereHung 22 = .ok (.iload_n 3, 1) := by decide +kernel
theorem dX12_whereHung_23 : decode cX12_whereHung 23 = .ok (.ireturn, 1) := by decide +kernel
theorem dX12_whereHung_24 : decode cX12_whereHung 24 = .ok (.iconst 0, 1) := by decide +kernel
theorem dX12_whereHung_25 : decode cX12_whereHung 25 = .ok (.istore 4, 2) := by decide +kernel
theorem dX12_whereHung_27 : decode cX12_whereHung 27 = .ok (.bipush (-4), 2) := by decide +kernel
theorem dX12_whereHung_29 : decode cX12_whereHung 29 = .ok (.istore 5, 2) := by decide +kernel
theorem dX12_whereHung_31 : decode cX12_whereHung 31 = .ok (.bipush (-4), 2) := by decide +kernel
theorem dX12_whereHung_33 : decode cX12_whereHung 33 = .ok (.istore 6, 2) := by decide +kernel
theorem dX12_whereHung_35 : decode cX12_whereHung 35 = .ok (.iconst 0, 1) := by decide +kernel
theorem dX12_whereHung_36 : decode cX12_whereHung 36 = .ok (.istore 7, 2) := by decide +kernel
theorem dX12_whereHung_38 : decode cX12_whereHung 38 = .ok (.iload 7, 2) := by decide +kernel
theorem dX12_whereHung_40 : decode cX12_whereHung 40 = .ok (.bipush 100, 2) := by decide +kernel
theorem dX12_whereHung_42 : decode cX12_whereHung 42 = .ok (.if_icmp .ge 61, 3) := by decide +kernel
theorem dX12_whereHung_45 : decode cX12_whereHung 45 = .ok (.iload 7, 2) := by decide +kernel
theorem dX12_whereHung_47 : decode cX12_whereHung 47 = .ok (.bipush 10, 2) := by decide +kernel
theorem dX12_whereHung_49 : decode cX12_whereHung 49 = .ok (.irem, 1) := by decide +kernel
theorem dX12_whereHung_50 : decode cX12_whereHung 50 = .ok (.bipush 8, 2) := by decide +kernel
theorem dX12_whereHung_52 : decode cX12_whereHung 52 = .ok (.if_icmp .ge 45, 3) := by decide +kernel
theorem dX12_whereHung_55 : decode cX12_whereHung 55 = .ok (.aload_n 0, 1) := by decide +kernel
theorem dX12_whereHung_56 : decode cX12_whereHung 56 = .ok (.iload_n 1, 1) := by decide +kernel
theorem dX12_whereHung_57 : decode cX12_whereHung 57 = .ok (.iload 7, 2) := by decide +kernel
theorem dX12_whereHung_59 : decode cX12_whereHung 59 = .ok (.bipush 10, 2) := by decide +kernel
theorem dX12_whereHung_61 : decode cX12_whereHung 61 = .ok (.idiv, 1) := by decide +kernel
theorem dX12_whereHung_62 : decode cX12_whereHung 62 = .ok (.iload 7, 2) := by decide +kernel
theorem dX12_whereHung_64 : decode cX12_whereHung 64 = .ok (.bipush 10, 2) := by decide +kernel
theorem dX12_whereHung_66 : decode cX12_whereHung 66 = .ok (.irem, 1) := by decide +kernel
theorem dX12_whereHung_67 : decode cX12_whereHung 67 = .ok (.invokevirtual 209, 3) := by decide +kernel
theorem dX12_whereHung_70 : decode cX12_whereHung 70 = .ok (.ifCond .ne 6, 3) := by decide +kernel
theorem dX12_whereHung_73 : decode cX12_whereHung 73 = .ok (.goto 24, 3) := by decide +kernel
theorem dX12_whereHung_76 : decode cX12_whereHung 76 = .ok (.iload 4, 2) := by decide +kernel
theorem dX12_whereHung_78 : decode cX12_whereHung 78 = .ok (.ifCond .ne 8, 3) := by decide +kernel
theorem dX12_whereHung_81 : decode cX12_whereHung 81 = .ok (.iload 7, 2) := by decide +kernel
theorem dX12_whereHung_83 : decode cX12_whereHung 83 = .ok (.goto 5, 3) := by decide +kernel
theorem dX12_whereHung_86 : decode cX12_whereHung 86 = .ok (.iload 5, 2) := by decide +kernel
theorem dX12_whereHung_88 : decode cX12_whereHung 88 = .ok (.istore 5, 2) := by decide +kernel
theorem dX12_whereHung_90 : decode cX12_whereHung 90 = .ok (.iload 7, 2) := by decide +kernel
theorem dX12_whereHung_92 : decode cX12_whereHung 92 = .ok (.istore 6, 2) := by decide +kernel
theorem dX12_whereHung_94 : decode cX12_whereHung 94 = .ok (.iinc 4 1, 3) := by decide +kernel
theorem dX12_whereHung_97 : decode cX12_whereHung 97 = .ok (.iinc 7 1, 3) := by decide +kernel
theorem dX12_whereHung_100 : decode cX12_whereHung 100 = .ok (.goto (-62), 3) := by decide +kernel
theorem dX12_whereHung_103 : decode cX12_whereHung 103 = .ok (.iload_n 2, 1) := by decide +kernel
theorem dX12_whereHung_104 : decode cX12_whereHung 104 = .ok (.ifCond .ne 8, 3) := by decide +kernel
theorem dX12_whereHung_107 : decode cX12_whereHung 107 = .ok (.iload 4, 2) := by decide +kernel
theorem dX12_whereHung_109 : decode cX12_whereHung 109 = .ok (.goto 15, 3) := by decide +kernel
theorem dX12_whereHung_112 : decode cX12_whereHung 112 = .ok (.iload_n 2, 1) := by decide +kernel
theorem dX12_whereHung_113 : decode cX12_whereHung 113 = .ok (.iconst 1, 1) := by decide +kernel
theorem dX12_whereHung_114 : decode cX12_whereHung 114 = .ok (.if_icmp .ne 8, 3) := by decide +kernel
theorem dX12_whereHung_117 : decode cX12_whereHung 117 = .ok (.iload 5, 2) := by decide +kernel
theorem dX12_whereHung_119 : decode cX12_whereHung 119 = .ok (.goto 5, 3) := by decide +kernel
theorem dX12_whereHung_122 : decode cX12_whereHung 122 = .ok (.iload 6, 2) := by decide +kernel
theorem dX12_whereHung_124 : decode cX12_whereHung 124 = .ok (.ireturn, 1) := by decide +kernel
set_option maxRecDepth 20000 in
theorem ggX12_hasBy_X12_copies : GoodIn wsX12_hasBy wsX12_copies := goodIn_r _ [6] (by decide +kernel) (by decide +kernel)
set_option maxRecDepth 20000 in
theorem gX12_hasBy_X12_copies : GoodIn wsX12_hasBy (va_wsS RX12 145 yX12_copies wsX12_copies) := goodIn_app (goodIn_of _ (by decide +kernel)) ggX12_hasBy_X12_copies
set_option maxRecDepth 20000 in
theorem ggX12_hasBy_X12_of : GoodIn wsX12_hasBy wsX12_of := goodIn_r _ [9] (by decide +kernel) (by decide +kernel)
set_option maxRecDepth 20000 in
theorem gX12_hasBy_X12_of : GoodIn wsX12_hasBy (va_wsS RX12 72 yX12_of wsX12_of) := goodIn_app (goodIn_of _ (by decide +kernel)) ggX12_hasBy_X12_of
set_option maxRecDepth 20000 in
theorem ggX12_hasBy_X12_daysOn : GoodIn wsX12_hasBy wsX12_daysOn := goodIn_r _ [12, 13, 14, 5, 15, 16, 17, 18, 7, 8, 9, 19, 20, 21, 22, 23, 24, 25, 26, 27, 28, 29, 30, 31, 32, 33, 34, 35, 36, 37, 38, 39, 40, 41, 42, 43, 44, 45, 46, 47, 48, 49, 50, 51, 52, 53, 54, 55, 56, 57, 58, 59, 60] (by decide +kernel) (by decide +kernel)
set_option maxRecDepth 20000 in
theorem gX12_hasBy_X12_daysOn : GoodIn wsX12_hasBy (va_wsS RX12 134 yX12_daysOn wsX12_daysOn) := goodIn_app (goodIn_of _ (by decide +kernel)) ggX12_hasBy_X12_daysOn
set_option maxRecDepth 20000 in
theorem ggX12_hasBy_X12_upright : GoodIn wsX12_hasBy wsX12_upright := goodIn_r _ [42, 7, 8, 5, 9, 43, 44, 45, 28, 29, 30, 46, 47, 48] (by decide +kernel) (by decide +kernel)
set_option maxRecDepth 20000 in
theorem gX12_hasBy_X12_upright : GoodIn wsX12_hasBy (va_wsS RX12 96 yX12_upright wsX12_upright) := goodIn_app (goodIn_of _ (by decide +kernel)) ggX12_hasBy_X12_upright
set_option maxRecDepth 20000 in
theorem ggX12_hasBy_X12_has : GoodIn wsX12_hasBy wsX12_has := goodIn_r _ [63] (by decide +kernel) (by decide +kernel)
set_option maxRecDepth 20000 in
theorem gX12_hasBy_X12_has : GoodIn wsX12_hasBy (va_wsS RX12 190 yX12_has wsX12_has) := goodIn_app (goodIn_of _ (by decide +kernel)) ggX12_hasBy_X12_has
theorem dX12_hasBy_0 : decode cX12_hasBy 0 = .ok (.aload_n 0, 1) := by decide +kernel
theorem dX12_hasBy_1 : decode cX12_hasBy 1 = .ok (.getfield 9, 3) := by decide +kernel
theorem dX12_hasBy_4 : decode cX12_hasBy 4 = .ok (.aload_n 0, 1) := by decide +kernel
theorem dX12_hasBy_5 : decode cX12_hasBy 5 = .ok (.getfield 13, 3) := by decide +kernel
theorem dX12_hasBy_8 : decode cX12_hasBy 8 = .ok (.invokestatic 145, 3) := by decide +kernel
theorem dX12_hasBy_11 : decode cX12_hasBy 11 = .ok (.aload_n 0, 1) := by decide +kernel
theorem dX12_hasBy_12 : decode cX12_hasBy 12 = .ok (.getfield 13, 3) := by decide +kernel
theorem dX12_hasBy_15 : decode cX12_hasBy 15 = .ok (.iconst 4, 1) := by decide +kernel
theorem dX12_hasBy_16 : decode cX12_hasBy 16 = .ok (.iconst 0, 1) := by decide +kernel
theorem dX12_hasBy_17 : decode cX12_hasBy 17 = .ok (.iastore, 1) := by decide +kernel
theorem dX12_hasBy_18 : decode cX12_hasBy 18 = .ok (.iload_n 3, 1) := by decide +kernel
theorem dX12_hasBy_19 : decode cX12_hasBy 19 = .ok (.iconst 1, 1) := by decide +kernel
theorem dX12_hasBy_20 : decode cX12_hasBy 20 = .ok (.if_icmp .ne 14, 3) := by decide +kernel
theorem dX12_hasBy_23 : decode cX12_hasBy 23 = .ok (.aload_n 0, 1) := by decide +kernel
theorem dX12_hasBy_24 : decode cX12_hasBy 24 = .ok (.getfield 13, 3) := by decide +kernel
theorem dX12_hasBy_27 : decode cX12_hasBy 27 = .ok (.iload_n 2, 1) := by decide +kernel
theorem dX12_hasBy_28 : decode cX12_hasBy 28 = .ok (.iconst 3, 1) := by decide +kernel
theorem dX12_hasBy_29 : decode cX12_hasBy 29 = .ok (.invokestatic 72, 3) := by decide +kernel
theorem dX12_hasBy_32 : decode cX12_hasBy 32 = .ok (.iconst 1, 1) := by decide +kernel
theorem dX12_hasBy_33 : decode cX12_hasBy 33 = .ok (.iastore, 1) := by decide +kernel
theorem dX12_hasBy_34 : decode cX12_hasBy 34 = .ok (.iload 5, 2) := by decide +kernel
theorem dX12_hasBy_36 : decode cX12_hasBy 36 = .ok (.iconst 1, 1) := by decide +kernel
theorem dX12_hasBy_37 : decode cX12_hasBy 37 = .ok (.if_icmp .ne 15, 3) := by decide +kernel
theorem dX12_hasBy_40 : decode cX12_hasBy 40 = .ok (.aload_n 0, 1) := by decide +kernel
theorem dX12_hasBy_41 : decode cX12_hasBy 41 = .ok (.getfield 13, 3) := by decide +kernel
theorem dX12_hasBy_44 : decode cX12_hasBy 44 = .ok (.iload 4, 2) := by decide +kernel
theorem dX12_hasBy_46 : decode cX12_hasBy 46 = .ok (.iconst 3, 1) := by decide +kernel
theorem dX12_hasBy_47 : decode cX12_hasBy 47 = .ok (.invokestatic 72, 3) := by decide +kernel
theorem dX12_hasBy_50 : decode cX12_hasBy 50 = .ok (.iconst 1, 1) := by decide +kernel
theorem dX12_hasBy_51 : decode cX12_hasBy 51 = .ok (.iastore, 1) := by decide +kernel
theorem dX12_hasBy_52 : decode cX12_hasBy 52 = .ok (.aload_n 0, 1) := by decide +kernel
theorem dX12_hasBy_53 : decode cX12_hasBy 53 = .ok (.getfield 13, 3) := by decide +kernel
theorem dX12_hasBy_56 : decode cX12_hasBy 56 = .ok (.iload 6, 2) := by decide +kernel
theorem dX12_hasBy_58 : decode cX12_hasBy 58 = .ok (.invokestatic 134, 3) := by decide +kernel
theorem dX12_hasBy_61 : decode cX12_hasBy 61 = .ok (.aload_n 0, 1) := by decide +kernel
theorem dX12_hasBy_62 : decode cX12_hasBy 62 = .ok (.getfield 13, 3) := by decide +kernel
theorem dX12_hasBy_65 : decode cX12_hasBy 65 = .ok (.invokestatic 96, 3) := by decide +kernel
theorem dX12_hasBy_68 : decode cX12_hasBy 68 = .ok (.iload_n 1, 1) := by decide +kernel
theorem dX12_hasBy_69 : decode cX12_hasBy 69 = .ok (.invokestatic 190, 3) := by decide +kernel
theorem dX12_hasBy_72 : decode cX12_hasBy 72 = .ok (.ifCond .eq 8, 3) := by decide +kernel
theorem dX12_hasBy_75 : decode cX12_hasBy 75 = .ok (.bipush 6, 2) := by decide +kernel
theorem dX12_hasBy_77 : decode cX12_hasBy 77 = .ok (.goto 4, 3) := by decide +kernel
theorem dX12_hasBy_80 : decode cX12_hasBy 80 = .ok (.iconst 0, 1) := by decide +kernel
theorem dX12_hasBy_81 : decode cX12_hasBy 81 = .ok (.iconst 2, 1) := by decide +kernel
theorem dX12_hasBy_82 : decode cX12_hasBy 82 = .ok (.iload_n 1, 1) := by decide +kernel
theorem dX12_hasBy_83 : decode cX12_hasBy 83 = .ok (.iload_n 2, 1) := by decide +kernel
theorem dX12_hasBy_84 : decode cX12_hasBy 84 = .ok (.if_icmp .ne 7, 3) := by decide +kernel
theorem dX12_hasBy_87 : decode cX12_hasBy 87 = .ok (.iload_n 3, 1) := by decide +kernel
theorem dX12_hasBy_88 : decode cX12_hasBy 88 = .ok (.goto 5, 3) := by decide +kernel
theorem dX12_hasBy_91 : decode cX12_hasBy 91 = .ok (.iload 5, 2) := by decide +kernel
theorem dX12_hasBy_93 : decode cX12_hasBy 93 = .ok (.imul, 1) := by decide +kernel
theorem dX12_hasBy_94 : decode cX12_hasBy 94 = .ok (.isub, 1) := by decide +kernel
theorem dX12_hasBy_95 : decode cX12_hasBy 95 = .ok (.aload_n 0, 1) := by decide +kernel
theorem dX12_hasBy_96 : decode cX12_hasBy 96 = .ok (.getfield 13, 3) := by decide +kernel
theorem dX12_hasBy_99 : decode cX12_hasBy 99 = .ok (.iconst 4, 1) := by decide +kernel
theorem dX12_hasBy_100 : decode cX12_hasBy 100 = .ok (.iaload, 1) := by decide +kernel
theorem dX12_hasBy_101 : decode cX12_hasBy 101 = .ok (.isub, 1) := by decide +kernel
theorem dX12_hasBy_102 : decode cX12_hasBy 102 = .ok (.ireturn, 1) := by decide +kernel
set_option maxRecDepth 20000 in
theorem ggX12_two_X12_areTwo : GoodIn wsX12_two wsX12_areTwo := goodIn_r _ [5, 6, 7, 8, 4, 9, 10, 11, 12, 13, 79, 80, 81, 82, 83, 84, 85, 86, 87, 88, 89, 90, 91, 92, 93, 94, 95, 96] (by decide +kernel) (by decide +kernel)
set_option maxRecDepth 20000 in
theorem gX12_two_X12_areTwo : GoodIn wsX12_two (wsV RX12 212 RX12 yX12_areTwo wsX12_areTwo) := goodIn_app (goodIn_of _ (by decide +kernel)) ggX12_two_X12_areTwo
set_option maxRecDepth 20000 in
theorem ggX12_two_X12_isIn : GoodIn wsX12_two wsX12_isIn := goodIn_r _ [13] (by decide +kernel) (by decide +kernel)
set_option maxRecDepth 20000 in
theorem gX12_two_X12_isIn : GoodIn wsX12_two (va_wsS RX12 46 yX12_isIn wsX12_isIn) := goodIn_app (goodIn_of _ (by decide +kernel)) ggX12_two_X12_isIn
set_option maxRecDepth 20000 in
theorem ggX12_two_X12_hasBy : GoodIn wsX12_two wsX12_hasBy := goodIn_r _ [17, 10, 18, 19, 20, 4, 21, 22, 23, 24, 25, 26, 27, 28, 29, 30, 31, 32, 33, 34, 35, 36, 37, 38, 39, 40, 41, 42, 43, 44, 45, 46, 47, 48, 49, 50, 51, 52, 53, 54, 55, 56, 57, 58, 59, 60, 61, 62, 63, 64, 65, 66, 67, 68, 69, 70, 71, 72, 73, 74, 75, 76, 77, 78, 79, 80, 81, 82, 83, 84, 85, 86, 87, 88, 89, 90, 91, 92, 93, 94, 95, 96] (by decide +kernel) (by decide +kernel)
set_option maxRecDepth 20000 in
theorem gX12_two_X12_hasBy : GoodIn wsX12_two (wsV RX12 215 RX12 yX12_hasBy wsX12_hasBy) := goodIn_app (goodIn_of _ (by decide +kernel)) ggX12_two_X12_hasBy
theorem dX12_two_0 : decode cX12_two 0 = .ok (.aload_n 0, 1) := by decide +kernel
theorem dX12_two_1 : decode cX12_two 1 = .ok (.iload_n 1, 1) := by decide +kernel
theorem dX12_two_2 : decode cX12_two 2 = .ok (.iload_n 2, 1) := by decide +kernel
theorem dX12_two_3 : decode cX12_two 3 = .ok (.invokevirtual 212, 3) := by decide +kernel
theorem dX12_two_6 : decode cX12_two 6 = .ok (.ifCond .eq 13, 3) := by decide +kernel
theorem dX12_two_9 : decode cX12_two 9 = .ok (.iload_n 3, 1) := by decide +kernel
theorem dX12_two_10 : decode cX12_two 10 = .ok (.iconst 1, 1) := by decide +kernel
theorem dX12_two_11 : decode cX12_two 11 = .ok (.bipush 30, 2) := by decide +kernel
theorem dX12_two_13 : decode cX12_two 13 = .ok (.invokestatic 46, 3) := by decide +kernel
theorem dX12_two_16 : decode cX12_two 16 = .ok (.ifCond .ne 5, 3) := by decide +kernel
theorem dX12_two_19 : decode cX12_two 19 = .ok (.iconst (-1), 1) := by decide +kernel
theorem dX12_two_20 : decode cX12_two 20 = .ok (.ireturn, 1) := by decide +kernel
theorem dX12_two_21 : decode cX12_two 21 = .ok (.iconst 0, 1) := by decide +kernel
theorem dX12_two_22 : decode cX12_two 22 = .ok (.istore 4, 2) := by decide +kernel
theorem dX12_two_24 : decode cX12_two 24 = .ok (.iload 4, 2) := by decide +kernel
theorem dX12_two_26 : decode cX12_two 26 = .ok (.iconst 4, 1) := by decide +kernel
theorem dX12_two_27 : decode cX12_two 27 = .ok (.if_icmp .ge 88, 3) := by decide +kernel
theorem dX12_two_30 : decode cX12_two 30 = .ok (.iload 4, 2) := by decide +kernel
theorem dX12_two_32 : decode cX12_two 32 = .ok (.iconst 2, 1) := by decide +kernel
theorem dX12_two_33 : decode cX12_two 33 = .ok (.idiv, 1) := by decide +kernel
theorem dX12_two_34 : decode cX12_two 34 = .ok (.istore 5, 2) := by decide +kernel
theorem dX12_two_36 : decode cX12_two 36 = .ok (.iload 4, 2) := by decide +kernel
theorem dX12_two_38 : decode cX12_two 38 = .ok (.iconst 2, 1) := by decide +kernel
theorem dX12_two_39 : decode cX12_two 39 = .ok (.irem, 1) := by decide +kernel
theorem dX12_two_40 : decode cX12_two 40 = .ok (.istore 6, 2) := by decide +kernel
theorem dX12_two_42 : decode cX12_two 42 = .ok (.aload_n 0, 1) := by decide +kernel
theorem dX12_two_43 : decode cX12_two 43 = .ok (.iload_n 1, 1) := by decide +kernel
theorem dX12_two_44 : decode cX12_two 44 = .ok (.iload_n 1, 1) := by decide +kernel
theorem dX12_two_45 : decode cX12_two 45 = .ok (.iconst 1, 1) := by decide +kernel
theorem dX12_two_46 : decode cX12_two 46 = .ok (.iload 5, 2) := by decide +kernel
theorem dX12_two_48 : decode cX12_two 48 = .ok (.isub, 1) := by decide +kernel
theorem dX12_two_49 : decode cX12_two 49 = .ok (.iload_n 2, 1) := by decide +kernel
theorem dX12_two_50 : decode cX12_two 50 = .ok (.iload 6, 2) := by decide +kernel
theorem dX12_two_52 : decode cX12_two 52 = .ok (.iload_n 3, 1) := by decide +kernel
theorem dX12_two_53 : decode cX12_two 53 = .ok (.invokevirtual 215, 3) := by decide +kernel
theorem dX12_two_56 : decode cX12_two 56 = .ok (.aload_n 0, 1) := by decide +kernel
theorem dX12_two_57 : decode cX12_two 57 = .ok (.iload_n 1, 1) := by decide +kernel
theorem dX12_two_58 : decode cX12_two 58 = .ok (.iload_n 1, 1) := by decide +kernel
theorem dX12_two_59 : decode cX12_two 59 = .ok (.iload 5, 2) := by decide +kernel
theorem dX12_two_61 : decode cX12_two 61 = .ok (.iload_n 2, 1) := by decide +kernel
theorem dX12_two_62 : decode cX12_two 62 = .ok (.iload 6, 2) := by decide +kernel
theorem dX12_two_64 : decode cX12_two 64 = .ok (.iload_n 3, 1) := by decide +kernel
theorem dX12_two_65 : decode cX12_two 65 = .ok (.invokevirtual 215, 3) := by decide +kernel
theorem dX12_two_68 : decode cX12_two 68 = .ok (.if_icmp .gt 41, 3) := by decide +kernel
theorem dX12_two_71 : decode cX12_two 71 = .ok (.aload_n 0, 1) := by decide +kernel
theorem dX12_two_72 : decode cX12_two 72 = .ok (.iload_n 2, 1) := by decide +kernel
theorem dX12_two_73 : decode cX12_two 73 = .ok (.iload_n 1, 1) := by decide +kernel
theorem dX12_two_74 : decode cX12_two 74 = .ok (.iload 5, 2) := by decide +kernel
theorem dX12_two_76 : decode cX12_two 76 = .ok (.iload_n 2, 1) := by decide +kernel
theorem dX12_two_77 : decode cX12_two 77 = .ok (.iconst 1, 1) := by decide +kernel
theorem dX12_two_78 : decode cX12_two 78 = .ok (.iload 6, 2) := by decide +kernel
theorem dX12_two_80 : decode cX12_two 80 = .ok (.isub, 1) := by decide +kernel
theorem dX12_two_81 : decode cX12_two 81 = .ok (.iload_n 3, 1) := by decide +kernel
theorem dX12_two_82 : decode cX12_two 82 = .ok (.invokevirtual 215, 3) := by decide +kernel
theorem dX12_two_85 : decode cX12_two 85 = .ok (.aload_n 0, 1) := by decide +kernel
theorem dX12_two_86 : decode cX12_two 86 = .ok (.iload_n 2, 1) := by decide +kernel
theorem dX12_two_87 : decode cX12_two 87 = .ok (.iload_n 1, 1) := by decide +kernel
theorem dX12_two_88 : decode cX12_two 88 = .ok (.iload 5, 2) := by decide +kernel
theorem dX12_two_90 : decode cX12_two 90 = .ok (.iload_n 2, 1) := by decide +kernel
theorem dX12_two_91 : decode cX12_two 91 = .ok (.iload 6, 2) := by decide +kernel
theorem dX12_two_93 : decode cX12_two 93 = .ok (.iload_n 3, 1) := by decide +kernel
theorem dX12_two_94 : decode cX12_two 94 = .ok (.invokevirtual 215, 3) := by decide +kernel
theorem dX12_two_97 : decode cX12_two 97 = .ok (.if_icmp .gt 12, 3) := by decide +kernel
theorem dX12_two_100 : decode cX12_two 100 = .ok (.bipush 10, 2) := by decide +kernel
theorem dX12_two_102 : decode cX12_two 102 = .ok (.iload 5, 2) := by decide +kernel
theorem dX12_two_104 : decode cX12_two 104 = .ok (.imul, 1) := by decide +kernel
theorem dX12_two_105 : decode cX12_two 105 = .ok (.iload 6, 2) := by decide +kernel
theorem dX12_two_107 : decode cX12_two 107 = .ok (.iadd, 1) := by decide +kernel
theorem dX12_two_108 : decode cX12_two 108 = .ok (.ireturn, 1) := by decide +kernel
theorem dX12_two_109 : decode cX12_two 109 = .ok (.iinc 4 1, 3) := by decide +kernel
theorem dX12_two_112 : decode cX12_two 112 = .ok (.goto (-88), 3) := by decide +kernel
theorem dX12_two_115 : decode cX12_two 115 = .ok (.bipush (-4), 2) := by decide +kernel
theorem dX12_two_117 : decode cX12_two 117 = .ok (.ireturn, 1) := by decide +kernel
theorem dX12_gcd_0 : decode cX12_gcd 0 = .ok (.lload_n 0, 1) := by decide +kernel
theorem dX12_gcd_1 : decode cX12_gcd 1 = .ok (.lstore 4, 2) := by decide +kernel
theorem dX12_gcd_3 : decode cX12_gcd 3 = .ok (.lload_n 2, 1) := by decide +kernel
theorem dX12_gcd_4 : decode cX12_gcd 4 = .ok (.lstore 6, 2) := by decide +kernel
theorem dX12_gcd_6 : decode cX12_gcd 6 = .ok (.lload 6, 2) := by decide +kernel
theorem dX12_gcd_8 : decode cX12_gcd 8 = .ok (.lconst 0, 1) := by decide +kernel
theorem dX12_gcd_9 : decode cX12_gcd 9 = .ok (.lcmp, 1) := by decide +kernel
theorem dX12_gcd_10 : decode cX12_gcd 10 = .ok (.ifCond .eq 21, 3) := by decide +kernel
theorem dX12_gcd_13 : decode cX12_gcd 13 = .ok (.lload 4, 2) := by decide +kernel
theorem dX12_gcd_15 : decode cX12_gcd 15 = .ok (.lload 6, 2) := by decide +kernel
theorem dX12_gcd_17 : decode cX12_gcd 17 = .ok (.lrem, 1) := by decide +kernel
theorem dX12_gcd_18 : decode cX12_gcd 18 = .ok (.lstore 8, 2) := by decide +kernel
theorem dX12_gcd_20 : decode cX12_gcd 20 = .ok (.lload 6, 2) := by decide +kernel
theorem dX12_gcd_22 : decode cX12_gcd 22 = .ok (.lstore 4, 2) := by decide +kernel
theorem dX12_gcd_24 : decode cX12_gcd 24 = .ok (.lload 8, 2) := by decide +kernel
theorem dX12_gcd_26 : decode cX12_gcd 26 = .ok (.lstore 6, 2) := by decide +kernel
theorem dX12_gcd_28 : decode cX12_gcd 28 = .ok (.goto (-22), 3) := by decide +kernel
theorem dX12_gcd_31 : decode cX12_gcd 31 = .ok (.lload 4, 2) := by decide +kernel
theorem dX12_gcd_33 : decode cX12_gcd 33 = .ok (.lreturn, 1) := by decide +kernel
set_option maxRecDepth 20000 in
theorem ggX12_partOf_X12_gcd : GoodIn wsX12_partOf wsX12_gcd := goodIn_r _ [4] (by decide +kernel) (by decide +kernel)
set_option maxRecDepth 20000 in
theorem gX12_partOf_X12_gcd : GoodIn wsX12_partOf (va_wsS RX12 219 yX12_gcd wsX12_gcd) := goodIn_app (goodIn_of _ (by decide +kernel)) ggX12_partOf_X12_gcd
theorem dX12_partOf_0 : decode cX12_partOf 0 = .ok (.lload_n 0, 1) := by decide +kernel
theorem dX12_partOf_1 : decode cX12_partOf 1 = .ok (.lconst 0, 1) := by decide +kernel
theorem dX12_partOf_2 : decode cX12_partOf 2 = .ok (.lcmp, 1) := by decide +kernel
theorem dX12_partOf_3 : decode cX12_partOf 3 = .ok (.ifCond .ne 7, 3) := by decide +kernel
theorem dX12_partOf_6 : decode cX12_partOf 6 = .ok (.iload 4, 2) := by decide +kernel
theorem dX12_partOf_8 : decode cX12_partOf 8 = .ok (.i2l, 1) := by decide +kernel
theorem dX12_partOf_9 : decode cX12_partOf 9 = .ok (.lreturn, 1) := by decide +kernel
theorem dX12_partOf_10 : decode cX12_partOf 10 = .ok (.iload 4, 2) := by decide +kernel
theorem dX12_partOf_12 : decode cX12_partOf 12 = .ok (.ifCond .ne 7, 3) := by decide +kernel
theorem dX12_partOf_15 : decode cX12_partOf 15 = .ok (.lload_n 0, 1) := by decide +kernel
theorem dX12_partOf_16 : decode cX12_partOf 16 = .ok (.goto 4, 3) := by decide +kernel
theorem dX12_partOf_19 : decode cX12_partOf 19 = .ok (.lload_n 2, 1) := by decide +kernel
theorem dX12_partOf_20 : decode cX12_partOf 20 = .ok (.lload_n 0, 1) := by decide +kernel
theorem dX12_partOf_21 : decode cX12_partOf 21 = .ok (.lload_n 2, 1) := by decide +kernel
theorem dX12_partOf_22 : decode cX12_partOf 22 = .ok (.invokestatic 219, 3) := by decide +kernel
theorem dX12_partOf_25 : decode cX12_partOf 25 = .ok (.ldiv, 1) := by decide +kernel
theorem dX12_partOf_26 : decode cX12_partOf 26 = .ok (.lreturn, 1) := by decide +kernel
set_option maxRecDepth 20000 in
theorem ggX12_shocks_X12_isMan : GoodIn wsX12_shocks wsX12_isMan := goodIn_r _ [8, 2, 9, 10, 7, 11, 75, 76, 77, 78, 79, 80, 81, 82, 83, 84, 85, 86, 87, 88, 89, 90, 91, 92] (by decide +kernel) (by decide +kernel)
set_option maxRecDepth 20000 in
theorem gX12_shocks_X12_isMan : GoodIn wsX12_shocks (wsV RX12 50 RX12 yX12_isMan wsX12_isMan) := goodIn_app (goodIn_of _ (by decide +kernel)) ggX12_shocks_X12_isMan
set_option maxRecDepth 20000 in
theorem ggX12_shocks_X12_isIn : GoodIn wsX12_shocks wsX12_isIn := goodIn_r _ [11] (by decide +kernel) (by decide +kernel)
set_option maxRecDepth 20000 in
theorem gX12_shocks_X12_isIn : GoodIn wsX12_shocks (va_wsS RX12 46 yX12_isIn wsX12_isIn) := goodIn_app (goodIn_of _ (by decide +kernel)) ggX12_shocks_X12_isIn
set_option maxRecDepth 20000 in
theorem ggX12_shocks_X12_copies : GoodIn wsX12_shocks wsX12_copies := goodIn_r _ [14] (by decide +kernel) (by decide +kernel)
set_option maxRecDepth 20000 in
theorem gX12_shocks_X12_copies : GoodIn wsX12_shocks (va_wsS RX12 145 yX12_copies wsX12_copies) := goodIn_app (goodIn_of _ (by decide +kernel)) ggX12_shocks_X12_copies
set_option maxRecDepth 20000 in
theorem ggX12_shocks_X12_has : GoodIn wsX12_shocks wsX12_has := goodIn_r _ [17] (by decide +kernel) (by decide +kernel)
set_option maxRecDepth 20000 in
theorem gX12_shocks_X12_has : GoodIn wsX12_shocks (va_wsS RX12 190 yX12_has wsX12_has) := goodIn_app (goodIn_of _ (by decide +kernel)) ggX12_shocks_X12_has
set_option maxRecDepth 20000 in
theorem ggX12_shocks_X12_turnsRound : GoodIn wsX12_shocks wsX12_turnsRound := goodIn_r _ [20, 21, 22, 7, 23] (by decide +kernel) (by decide +kernel)
set_option maxRecDepth 20000 in
theorem gX12_shocks_X12_turnsRound : GoodIn wsX12_shocks (va_wsS RX12 102 yX12_turnsRound wsX12_turnsRound) := goodIn_app (goodIn_of _ (by decide +kernel)) ggX12_shocks_X12_turnsRound
set_option maxRecDepth 20000 in
theorem ggX12_shocks_X12_day : GoodIn wsX12_shocks wsX12_day := goodIn_r _ [26, 27, 28, 7, 29, 21, 22, 23, 30, 31, 32, 33, 34, 35, 36, 37, 38, 39, 40, 41, 42, 43, 44, 45, 46, 47, 48, 49, 50, 51, 52, 53, 54, 55, 56, 57, 58, 59, 60, 61, 62, 18, 19, 20, 63, 64, 65, 66, 67, 68] (by decide +kernel) (by decide +kernel)
set_option maxRecDepth 20000 in
theorem gX12_shocks_X12_day : GoodIn wsX12_shocks (va_wsS RX12 109 yX12_day wsX12_day) := goodIn_app (goodIn_of _ (by decide +kernel)) ggX12_shocks_X12_day
set_option maxRecDepth 20000 in
theorem ggX12_shocks_X12_upright : GoodIn wsX12_shocks wsX12_upright := goodIn_r _ [53, 21, 22, 7, 23, 54, 55, 56, 39, 40, 41, 57, 58, 59] (by decide +kernel) (by decide +kernel)
set_option maxRecDepth 20000 in
theorem gX12_shocks_X12_upright : GoodIn wsX12_shocks (va_wsS RX12 96 yX12_upright wsX12_upright) := goodIn_app (goodIn_of _ (by decide +kernel)) ggX12_shocks_X12_upright
set_option maxRecDepth 20000 in
theorem ggX12_shocks_X12_partOf : GoodIn wsX12_shocks wsX12_partOf := goodIn_r _ [71, 72, 73, 7, 74] (by decide +kernel) (by decide +kernel)
set_option maxRecDepth 20000 in
theorem gX12_shocks_X12_partOf : GoodIn wsX12_shocks (va_wsS RX12 225 yX12_partOf wsX12_partOf) := goodIn_app (goodIn_of _ (by decide +kernel)) ggX12_shocks_X12_partOf
theorem dX12_shocks_0 : decode cX12_shocks 0 = .ok (.aload_n 0, 1) := by decide +kernel
theorem dX12_shocks_1 : decode cX12_shocks 1 = .ok (.iload_n 1, 1) := by decide +kernel
theorem dX12_shocks_2 : decode cX12_shocks 2 = .ok (.invokevirtual 50, 3) := by decide +kernel
theorem dX12_shocks_5 : decode cX12_shocks 5 = .ok (.ifCond .eq 33, 3) := by decide +kernel
theorem dX12_shocks_8 : decode cX12_shocks 8 = .ok (.iload_n 2, 1) := by decide +kernel
theorem dX12_shocks_9 : decode cX12_shocks 9 = .ok (.iconst 0, 1) := by decide +kernel
theorem dX12_shocks_10 : decode cX12_shocks 10 = .ok (.bipush 7, 2) := by decide +kernel
theorem dX12_shocks_12 : decode cX12_shocks 12 = .ok (.invokestatic 46, 3) := by decide +kernel
theorem dX12_shocks_15 : decode cX12_shocks 15 = .ok (.ifCond .eq 23, 3) := by decide +kernel
theorem dX12_shocks_18 : decode cX12_shocks 18 = .ok (.iload_n 3, 1) := by decide +kernel
theorem dX12_shocks_19 : decode cX12_shocks 19 = .ok (.iconst 2, 1) := by decide +kernel
theorem dX12_shocks_20 : decode cX12_shocks 20 = .ok (.bipush 20, 2) := by decide +kernel
theorem dX12_shocks_22 : decode cX12_shocks 22 = .ok (.invokestatic 46, 3) := by decide +kernel
theorem dX12_shocks_25 : decode cX12_shocks 25 = .ok (.ifCond .eq 13, 3) := by decide +kernel
theorem dX12_shocks_28 : decode cX12_shocks 28 = .ok (.iload 4, 2) := by decide +kernel
theorem dX12_shocks_30 : decode cX12_shocks 30 = .ok (.iconst 0, 1) := by decide +kernel
theorem dX12_shocks_31 : decode cX12_shocks 31 = .ok (.iconst 1, 1) := by decide +kernel
theorem dX12_shocks_32 : decode cX12_shocks 32 = .ok (.invokestatic 46, 3) := by decide +kernel
theorem dX12_shocks_35 : decode cX12_shocks 35 = .ok (.ifCond .ne 7, 3) := by decide +kernel
theorem dX12_shocks_38 : decode cX12_shocks 38 = .ok (.ldc2_w 223, 3) := by decide +kernel
theorem dX12_shocks_41 : decode cX12_shocks 41 = .ok (.lreturn, 1) := by decide +kernel
theorem dX12_shocks_42 : decode cX12_shocks 42 = .ok (.lconst 0, 1) := by decide +kernel
theorem dX12_shocks_43 : decode cX12_shocks 43 = .ok (.lstore 5, 2) := by decide +kernel
theorem dX12_shocks_45 : decode cX12_shocks 45 = .ok (.lconst 1, 1) := by decide +kernel
theorem dX12_shocks_46 : decode cX12_shocks 46 = .ok (.lstore 7, 2) := by decide +kernel
theorem dX12_shocks_48 : decode cX12_shocks 48 = .ok (.iconst 0, 1) := by decide +kernel
theorem dX12_shocks_49 : decode cX12_shocks 49 = .ok (.istore 9, 2) := by decide +kernel
theorem dX12_shocks_51 : decode cX12_shocks 51 = .ok (.iload 9, 2) := by decide +kernel
theorem dX12_shocks_53 : decode cX12_shocks 53 = .ok (.iload_n 2, 1) := by decide +kernel
theorem dX12_shocks_54 : decode cX12_shocks 54 = .ok (.if_icmp .ge 16, 3) := by decide +kernel
theorem dX12_shocks_57 : decode cX12_shocks 57 = .ok (.lload 7, 2) := by decide +kernel
theorem dX12_shocks_59 : decode cX12_shocks 59 = .ok (.iload_n 3, 1) := by decide +kernel
theorem dX12_shocks_60 : decode cX12_shocks 60 = .ok (.i2l, 1) := by decide +kernel
theorem dX12_shocks_61 : decode cX12_shocks 61 = .ok (.lmul, 1) := by decide +kernel
theorem dX12_shocks_62 : decode cX12_shocks 62 = .ok (.lstore 7, 2) := by decide +kernel
theorem dX12_shocks_64 : decode cX12_shocks 64 = .ok (.iinc 9 1, 3) := by decide +kernel
theorem dX12_shocks_67 : decode cX12_shocks 67 = .ok (.goto (-16), 3) := by decide +kernel
theorem dX12_shocks_70 : decode cX12_shocks 70 = .ok (.iconst 0, 1) := by decide +kernel
theorem dX12_shocks_71 : decode cX12_shocks 71 = .ok (.istore 9, 2) := by decide +kernel
theorem dX12_shocks_73 : decode cX12_shocks 73 = .ok (.iload 9, 2) := by decide +kernel
theorem dX12_shocks_75 : decode cX12_shocks 75 = .ok (.iconst 1, 1) := by decide +kernel
theorem dX12_shocks_76 : decode cX12_shocks 76 = .ok (.iload_n 2, 1) := by decide +kernel
theorem dX12_shocks_77 : decode cX12_shocks 77 = .ok (.ishl, 1) := by decide +kernel
theorem dX12_shocks_78 : decode cX12_shocks 78 = .ok (.if_icmp .ge 110, 3) := by decide +kernel
theorem dX12_shocks_81 : decode cX12_shocks 81 = .ok (.lconst 1, 1) := by decide +kernel
theorem dX12_shocks_82 : decode cX12_shocks 82 = .ok (.lstore 10, 2) := by decide +kernel
theorem dX12_shocks_84 : decode cX12_shocks 84 = .ok (.aload_n 0, 1) := by decide +kernel
theorem dX12_shocks_85 : decode cX12_shocks 85 = .ok (.getfield 9, 3) := by decide +kernel
theorem dX12_shocks_88 : decode cX12_shocks 88 = .ok (.aload_n 0, 1) := by decide +kernel
theorem dX12_shocks_89 : decode cX12_shocks 89 = .ok (.getfield 13, 3) := by decide +kernel
theorem dX12_shocks_92 : decode cX12_shocks 92 = .ok (.invokestatic 145, 3) := by decide +kernel
theorem dX12_shocks_95 : decode cX12_shocks 95 = .ok (.iconst 0, 1) := by decide +kernel
theorem dX12_shocks_96 : decode cX12_shocks 96 = .ok (.istore 12, 2) := by decide +kernel
theorem dX12_shocks_98 : decode cX12_shocks 98 = .ok (.iload 12, 2) := by decide +kernel
theorem dX12_shocks_100 : decode cX12_shocks 100 = .ok (.iload_n 2, 1) := by decide +kernel
theorem dX12_shocks_101 : decode cX12_shocks 101 = .ok (.if_icmp .ge 56, 3) := by decide +kernel
theorem dX12_shocks_104 : decode cX12_shocks 104 = .ok (.lload 10, 2) := by decide +kernel
theorem dX12_shocks_106 : decode cX12_shocks 106 = .ok (.iload 9, 2) := by decide +kernel
theorem dX12_shocks_108 : decode cX12_shocks 108 = .ok (.iload 12, 2) := by decide +kernel
theorem dX12_shocks_110 : decode cX12_shocks 110 = .ok (.invokestatic 190, 3) := by decide +kernel
theorem dX12_shocks_113 : decode cX12_shocks 113 = .ok (.ifCond .eq 7, 3) := by decide +kernel
theorem dX12_shocks_116 : decode cX12_shocks 116 = .ok (.lconst 1, 1) := by decide +kernel
theorem dX12_shocks_117 : decode cX12_shocks 117 = .ok (.goto 7, 3) := by decide +kernel
theorem dX12_shocks_120 : decode cX12_shocks 120 = .ok (.iload_n 3, 1) := by decide +kernel
theorem dX12_shocks_121 : decode cX12_shocks 121 = .ok (.iconst 1, 1) := by decide +kernel
theorem dX12_shocks_122 : decode cX12_shocks 122 = .ok (.isub, 1) := by decide +kernel
theorem dX12_shocks_123 : decode cX12_shocks 123 = .ok (.i2l, 1) := by decide +kernel
theorem dX12_shocks_124 : decode cX12_shocks 124 = .ok (.lmul, 1) := by decide +kernel
theorem dX12_shocks_125 : decode cX12_shocks 125 = .ok (.lstore 10, 2) := by decide +kernel
theorem dX12_shocks_127 : decode cX12_shocks 127 = .ok (.iload 9, 2) := by decide +kernel
theorem dX12_shocks_129 : decode cX12_shocks 129 = .ok (.iload 12, 2) := by decide +kernel
theorem dX12_shocks_131 : decode cX12_shocks 131 = .ok (.invokestatic 190, 3) := by decide +kernel
theorem dX12_shocks_134 : decode cX12_shocks 134 = .ok (.ifCond .eq 10, 3) := by decide +kernel
theorem dX12_shocks_137 : decode cX12_shocks 137 = .ok (.aload_n 0, 1) := by decide +kernel
theorem dX12_shocks_138 : decode cX12_shocks 138 = .ok (.getfield 13, 3) := by decide +kernel
theorem dX12_shocks_141 : decode cX12_shocks 141 = .ok (.invokestatic 102, 3) := by decide +kernel
theorem dX12_shocks_144 : decode cX12_shocks 144 = .ok (.aload_n 0, 1) := by decide +kernel
theorem dX12_shocks_145 : decode cX12_shocks 145 = .ok (.getfield 13, 3) := by decide +kernel
theorem dX12_shocks_148 : decode cX12_shocks 148 = .ok (.invokestatic 109, 3) := by decide +kernel
theorem dX12_shocks_151 : decode cX12_shocks 151 = .ok (.iinc 12 1, 3) := by decide +kernel
theorem dX12_shocks_154 : decode cX12_shocks 154 = .ok (.goto (-56), 3) := by decide +kernel
theorem dX12_shocks_157 : decode cX12_shocks 157 = .ok (.lload 5, 2) := by decide +kernel
theorem dX12_shocks_159 : decode cX12_shocks 159 = .ok (.aload_n 0, 1) := by decide +kernel
theorem dX12_shocks_160 : decode cX12_shocks 160 = .ok (.getfield 13, 3) := by decide +kernel
theorem dX12_shocks_163 : decode cX12_shocks 163 = .ok (.invokestatic 96, 3) := by decide +kernel
theorem dX12_shocks_166 : decode cX12_shocks 166 = .ok (.iload_n 1, 1) := by decide +kernel
theorem dX12_shocks_167 : decode cX12_shocks 167 = .ok (.invokestatic 190, 3) := by decide +kernel
theorem dX12_shocks_170 : decode cX12_shocks 170 = .ok (.ifCond .eq 8, 3) := by decide +kernel
theorem dX12_shocks_173 : decode cX12_shocks 173 = .ok (.lload 10, 2) := by decide +kernel
theorem dX12_shocks_175 : decode cX12_shocks 175 = .ok (.goto 4, 3) := by decide +kernel
theorem dX12_shocks_178 : decode cX12_shocks 178 = .ok (.lconst 0, 1) := by decide +kernel
theorem dX12_shocks_179 : decode cX12_shocks 179 = .ok (.ladd, 1) := by decide +kernel
theorem dX12_shocks_180 : decode cX12_shocks 180 = .ok (.lstore 5, 2) := by decide +kernel
theorem dX12_shocks_182 : decode cX12_shocks 182 = .ok (.iinc 9 1, 3) := by decide +kernel
theorem dX12_shocks_185 : decode cX12_shocks 185 = .ok (.goto (-112), 3) := by decide +kernel
theorem dX12_shocks_188 : decode cX12_shocks 188 = .ok (.lload 5, 2) := by decide +kernel
theorem dX12_shocks_190 : decode cX12_shocks 190 = .ok (.lload 7, 2) := by decide +kernel
theorem dX12_shocks_192 : decode cX12_shocks 192 = .ok (.iload 4, 2) := by decide +kernel
theorem dX12_shocks_194 : decode cX12_shocks 194 = .ok (.invokestatic 225, 3) := by decide +kernel
theorem dX12_shocks_197 : decode cX12_shocks 197 = .ok (.lreturn, 1) := by decide +kernel
set_option maxRecDepth 20000 in
theorem ggX12_mean_X12_isIn : GoodIn wsX12_mean wsX12_isIn := goodIn_r _ [6] (by decide +kernel) (by decide +kernel)
set_option maxRecDepth 20000 in
theorem gX12_mean_X12_isIn : GoodIn wsX12_mean (va_wsS RX12 46 yX12_isIn wsX12_isIn) := goodIn_app (goodIn_of _ (by decide +kernel)) ggX12_mean_X12_isIn
set_option maxRecDepth 20000 in
theorem ggX12_mean_X12_leanSum : GoodIn wsX12_mean wsX12_leanSum := goodIn_r _ [9, 10, 11, 5, 12] (by decide +kernel) (by decide +kernel)
set_option maxRecDepth 20000 in
theorem gX12_mean_X12_leanSum : GoodIn wsX12_mean (va_wsS RX12 86 yX12_leanSum wsX12_leanSum) := goodIn_app (goodIn_of _ (by decide +kernel)) ggX12_mean_X12_leanSum
set_option maxRecDepth 20000 in
theorem ggX12_mean_X12_partOf : GoodIn wsX12_mean wsX12_partOf := goodIn_r _ [15, 16, 17, 5, 18] (by decide +kernel) (by decide +kernel)
set_option maxRecDepth 20000 in
theorem gX12_mean_X12_partOf : GoodIn wsX12_mean (va_wsS RX12 225 yX12_partOf wsX12_partOf) := goodIn_app (goodIn_of _ (by decide +kernel)) ggX12_mean_X12_partOf
theorem dX12_mean_0 : decode cX12_mean 0 = .ok (.iload_n 1, 1) := by decide +kernel
theorem dX12_mean_1 : decode cX12_mean 1 = .ok (.iconst 0, 1) := by decide +kernel
theorem dX12_mean_2 : decode cX12_mean 2 = .ok (.iconst 1, 1) := by decide +kernel
theorem dX12_mean_3 : decode cX12_mean 3 = .ok (.invokestatic 46, 3) := by decide +kernel
theorem dX12_mean_6 : decode cX12_mean 6 = .ok (.ifCond .eq 35, 3) := by decide +kernel
theorem dX12_mean_9 : decode cX12_mean 9 = .ok (.aload_n 0, 1) := by decide +kernel
theorem dX12_mean_10 : decode cX12_mean 10 = .ok (.getfield 9, 3) := by decide +kernel
theorem dX12_mean_13 : decode cX12_mean 13 = .ok (.invokestatic 86, 3) := by decide +kernel
theorem dX12_mean_16 : decode cX12_mean 16 = .ok (.bipush 45, 2) := by decide +kernel
theorem dX12_mean_18 : decode cX12_mean 18 = .ok (.aload_n 0, 1) := by decide +kernel
theorem dX12_mean_19 : decode cX12_mean 19 = .ok (.getfield 9, 3) := by decide +kernel
theorem dX12_mean_22 : decode cX12_mean 22 = .ok (.iconst 0, 1) := by decide +kernel
theorem dX12_mean_23 : decode cX12_mean 23 = .ok (.iaload, 1) := by decide +kernel
theorem dX12_mean_24 : decode cX12_mean 24 = .ok (.imul, 1) := by decide +kernel
theorem dX12_mean_25 : decode cX12_mean 25 = .ok (.iadd, 1) := by decide +kernel
theorem dX12_mean_26 : decode cX12_mean 26 = .ok (.i2l, 1) := by decide +kernel
theorem dX12_mean_27 : decode cX12_mean 27 = .ok (.aload_n 0, 1) := by decide +kernel
theorem dX12_mean_28 : decode cX12_mean 28 = .ok (.getfield 9, 3) := by decide +kernel
theorem dX12_mean_31 : decode cX12_mean 31 = .ok (.iconst 0, 1) := by decide +kernel
theorem dX12_mean_32 : decode cX12_mean 32 = .ok (.iaload, 1) := by decide +kernel
theorem dX12_mean_33 : decode cX12_mean 33 = .ok (.i2l, 1) := by decide +kernel
theorem dX12_mean_34 : decode cX12_mean 34 = .ok (.iload_n 1, 1) := by decide +kernel
theorem dX12_mean_35 : decode cX12_mean 35 = .ok (.invokestatic 225, 3) := by decide +kernel
theorem dX12_mean_38 : decode cX12_mean 38 = .ok (.goto 6, 3) := by decide +kernel
theorem dX12_mean_41 : decode cX12_mean 41 = .ok (.ldc2_w 223, 3) := by decide +kernel
theorem dX12_mean_44 : decode cX12_mean 44 = .ok (.lreturn, 1) := by decide +kernel
set_option maxRecDepth 20000 in
theorem ggX12_forged_X12_wrongRow : GoodIn wsX12_forged wsX12_wrongRow := goodIn_r _ [8, 9, 10, 11, 12, 7, 13, 14, 15, 16, 24, 25, 26, 27, 28, 29, 30, 31, 32, 33, 34, 35, 36, 37, 38, 39, 40, 41] (by decide +kernel) (by decide +kernel)
set_option maxRecDepth 20000 in
theorem gX12_forged_X12_wrongRow : GoodIn wsX12_forged (wsV RX12 138 RX12 yX12_wrongRow wsX12_wrongRow) := goodIn_app (goodIn_of _ (by decide +kernel)) ggX12_forged_X12_wrongRow
set_option maxRecDepth 20000 in
theorem ggX12_forged_X12_isMan : GoodIn wsX12_forged wsX12_isMan := goodIn_r _ [20, 3, 14, 15, 7, 16, 24, 25, 26, 27, 28, 29, 30, 31, 32, 33, 34, 35, 36, 37, 38, 39, 40, 41] (by decide +kernel) (by decide +kernel)
set_option maxRecDepth 20000 in
theorem gX12_forged_X12_isMan : GoodIn wsX12_forged (wsV RX12 50 RX12 yX12_isMan wsX12_isMan) := goodIn_app (goodIn_of _ (by decide +kernel)) ggX12_forged_X12_isMan
set_option maxRecDepth 20000 in
theorem ggX12_forged_X12_of : GoodIn wsX12_forged wsX12_of := goodIn_r _ [23] (by decide +kernel) (by decide +kernel)
set_option maxRecDepth 20000 in
theorem gX12_forged_X12_of : GoodIn wsX12_forged (va_wsS RX12 72 yX12_of wsX12_of) := goodIn_app (goodIn_of _ (by decide +kernel)) ggX12_forged_X12_of
theorem dX12_forged_0 : decode cX12_forged 0 = .ok (.aload_n 0, 1) := by decide +kernel
theorem dX12_forged_1 : decode cX12_forged 1 = .ok (.iload_n 1, 1) := by decide +kernel
theorem dX12_forged_2 : decode cX12_forged 2 = .ok (.iconst (-1), 1) := by decide +kernel
theorem dX12_forged_3 : decode cX12_forged 3 = .ok (.invokevirtual 138, 3) := by decide +kernel
theorem dX12_forged_6 : decode cX12_forged 6 = .ok (.istore_n 2, 1) := by decide +kernel
theorem dX12_forged_7 : decode cX12_forged 7 = .ok (.iload_n 2, 1) := by decide +kernel
theorem dX12_forged_8 : decode cX12_forged 8 = .ok (.ifCond .eq 5, 3) := by decide +kernel
theorem dX12_forged_11 : decode cX12_forged 11 = .ok (.iload_n 2, 1) := by decide +kernel
theorem dX12_forged_12 : decode cX12_forged 12 = .ok (.ireturn, 1) := by decide +kernel
theorem dX12_forged_13 : decode cX12_forged 13 = .ok (.iconst 0, 1) := by decide +kernel
theorem dX12_forged_14 : decode cX12_forged 14 = .ok (.istore_n 3, 1) := by decide +kernel
theorem dX12_forged_15 : decode cX12_forged 15 = .ok (.iload_n 3, 1) := by decide +kernel
theorem dX12_forged_16 : decode cX12_forged 16 = .ok (.aload_n 0, 1) := by decide +kernel
theorem dX12_forged_17 : decode cX12_forged 17 = .ok (.getfield 40, 3) := by decide +kernel
theorem dX12_forged_20 : decode cX12_forged 20 = .ok (.iload_n 1, 1) := by decide +kernel
theorem dX12_forged_21 : decode cX12_forged 21 = .ok (.iaload, 1) := by decide +kernel
theorem dX12_forged_22 : decode cX12_forged 22 = .ok (.if_icmp .ge 43, 3) := by decide +kernel
theorem dX12_forged_25 : decode cX12_forged 25 = .ok (.aload_n 0, 1) := by decide +kernel
theorem dX12_forged_26 : decode cX12_forged 26 = .ok (.iload_n 3, 1) := by decide +kernel
theorem dX12_forged_27 : decode cX12_forged 27 = .ok (.invokevirtual 50, 3) := by decide +kernel
theorem dX12_forged_30 : decode cX12_forged 30 = .ok (.ifCond .eq 27, 3) := by decide +kernel
theorem dX12_forged_33 : decode cX12_forged 33 = .ok (.aload_n 0, 1) := by decide +kernel
theorem dX12_forged_34 : decode cX12_forged 34 = .ok (.getfield 43, 3) := by decide +kernel
theorem dX12_forged_37 : decode cX12_forged 37 = .ok (.bipush 100, 2) := by decide +kernel
theorem dX12_forged_39 : decode cX12_forged 39 = .ok (.iload_n 1, 1) := by decide +kernel
theorem dX12_forged_40 : decode cX12_forged 40 = .ok (.imul, 1) := by decide +kernel
theorem dX12_forged_41 : decode cX12_forged 41 = .ok (.iload_n 3, 1) := by decide +kernel
theorem dX12_forged_42 : decode cX12_forged 42 = .ok (.iadd, 1) := by decide +kernel
theorem dX12_forged_43 : decode cX12_forged 43 = .ok (.iaload, 1) := by decide +kernel
theorem dX12_forged_44 : decode cX12_forged 44 = .ok (.aload_n 0, 1) := by decide +kernel
theorem dX12_forged_45 : decode cX12_forged 45 = .ok (.getfield 9, 3) := by decide +kernel
theorem dX12_forged_48 : decode cX12_forged 48 = .ok (.iload_n 3, 1) := by decide +kernel
theorem dX12_forged_49 : decode cX12_forged 49 = .ok (.iconst 2, 1) := by decide +kernel
theorem dX12_forged_50 : decode cX12_forged 50 = .ok (.invokestatic 72, 3) := by decide +kernel
theorem dX12_forged_53 : decode cX12_forged 53 = .ok (.iaload, 1) := by decide +kernel
theorem dX12_forged_54 : decode cX12_forged 54 = .ok (.if_icmp .eq 5, 3) := by decide +kernel
theorem dX12_forged_57 : decode cX12_forged 57 = .ok (.iload_n 3, 1) := by decide +kernel
theorem dX12_forged_58 : decode cX12_forged 58 = .ok (.ireturn, 1) := by decide +kernel
theorem dX12_forged_59 : decode cX12_forged 59 = .ok (.iinc 3 1, 3) := by decide +kernel
theorem dX12_forged_62 : decode cX12_forged 62 = .ok (.goto (-47), 3) := by decide +kernel
theorem dX12_forged_65 : decode cX12_forged 65 = .ok (.bipush (-4), 2) := by decide +kernel
theorem dX12_forged_67 : decode cX12_forged 67 = .ok (.ireturn, 1) := by decide +kernel
set_option maxRecDepth 20000 in
theorem ggX12_judge_X12_wrongRow : GoodIn wsX12_judge wsX12_wrongRow := goodIn_r _ [8, 9, 10, 11, 12, 7, 13, 14, 15, 16, 80, 81, 82, 83, 84, 85, 86, 87, 88, 89, 90, 91, 92, 93, 94, 95, 96, 97] (by decide +kernel) (by decide +kernel)
set_option maxRecDepth 20000 in
theorem gX12_judge_X12_wrongRow : GoodIn wsX12_judge (wsV RX12 138 RX12 yX12_wrongRow wsX12_wrongRow) := goodIn_app (goodIn_of _ (by decide +kernel)) ggX12_judge_X12_wrongRow
set_option maxRecDepth 20000 in
theorem ggX12_judge_X12_copies : GoodIn wsX12_judge wsX12_copies := goodIn_r _ [19] (by decide +kernel) (by decide +kernel)
set_option maxRecDepth 20000 in
theorem gX12_judge_X12_copies : GoodIn wsX12_judge (va_wsS RX12 145 yX12_copies wsX12_copies) := goodIn_app (goodIn_of _ (by decide +kernel)) ggX12_judge_X12_copies
set_option maxRecDepth 20000 in
theorem ggX12_judge_X12_upright : GoodIn wsX12_judge wsX12_upright := goodIn_r _ [22, 23, 24, 7, 25, 26, 27, 28, 29, 30, 31, 32, 33, 34] (by decide +kernel) (by decide +kernel)
set_option maxRecDepth 20000 in
theorem gX12_judge_X12_upright : GoodIn wsX12_judge (va_wsS RX12 96 yX12_upright wsX12_upright) := goodIn_app (goodIn_of _ (by decide +kernel)) ggX12_judge_X12_upright
set_option maxRecDepth 20000 in
theorem ggX12_judge_X12_bits : GoodIn wsX12_judge wsX12_bits := goodIn_r _ [37] (by decide +kernel) (by decide +kernel)
set_option maxRecDepth 20000 in
theorem gX12_judge_X12_bits : GoodIn wsX12_judge (va_wsS RX12 99 yX12_bits wsX12_bits) := goodIn_app (goodIn_of _ (by decide +kernel)) ggX12_judge_X12_bits
set_option maxRecDepth 20000 in
theorem ggX12_judge_X12_isTold : GoodIn wsX12_judge wsX12_isTold := goodIn_r _ [41, 42, 10, 43, 44, 7, 45, 46, 80, 81, 82, 83, 84, 85, 86, 87, 88, 89, 90, 91, 92, 93, 94, 95, 96, 97] (by decide +kernel) (by decide +kernel)
set_option maxRecDepth 20000 in
theorem gX12_judge_X12_isTold : GoodIn wsX12_judge (wsV RX12 206 RX12 yX12_isTold wsX12_isTold) := goodIn_app (goodIn_of _ (by decide +kernel)) ggX12_judge_X12_isTold
set_option maxRecDepth 20000 in
theorem ggX12_judge_X12_day : GoodIn wsX12_judge wsX12_day := goodIn_r _ [49, 50, 51, 7, 52, 23, 24, 25, 53, 54, 55, 56, 57, 58, 59, 60, 61, 29, 30, 31, 62, 63, 64, 65, 66, 67, 68, 69, 70, 20, 21, 22, 26, 27, 28, 32, 33, 34, 35, 36, 37, 71, 72, 73, 74, 75, 76, 77, 78, 79] (by decide +kernel) (by decide +kernel)
set_option maxRecDepth 20000 in
theorem gX12_judge_X12_day : GoodIn wsX12_judge (va_wsS RX12 109 yX12_day wsX12_day) := goodIn_app (goodIn_of _ (by decide +kernel)) ggX12_judge_X12_day
theorem dX12_judge_0 : decode cX12_judge 0 = .ok (.aload_n 0, 1) := by decide +kernel
theorem dX12_judge_1 : decode cX12_judge 1 = .ok (.iload_n 1, 1) := by decide +kernel
theorem dX12_judge_2 : decode cX12_judge 2 = .ok (.iconst (-1), 1) := by decide +kernel
theorem dX12_judge_3 : decode cX12_judge 3 = .ok (.invokevirtual 138, 3) := by decide +kernel
theorem dX12_judge_6 : decode cX12_judge 6 = .ok (.istore_n 2, 1) := by decide +kernel
theorem dX12_judge_7 : decode cX12_judge 7 = .ok (.iload_n 2, 1) := by decide +kernel
theorem dX12_judge_8 : decode cX12_judge 8 = .ok (.ifCond .eq 5, 3) := by decide +kernel
theorem dX12_judge_11 : decode cX12_judge 11 = .ok (.iload_n 2, 1) := by decide +kernel
theorem dX12_judge_12 : decode cX12_judge 12 = .ok (.ireturn, 1) := by decide +kernel
theorem dX12_judge_13 : decode cX12_judge 13 = .ok (.aload_n 0, 1) := by decide +kernel
theorem dX12_judge_14 : decode cX12_judge 14 = .ok (.getfield 9, 3) := by decide +kernel
theorem dX12_judge_17 : decode cX12_judge 17 = .ok (.aload_n 0, 1) := by decide +kernel
theorem dX12_judge_18 : decode cX12_judge 18 = .ok (.getfield 13, 3) := by decide +kernel
theorem dX12_judge_21 : decode cX12_judge 21 = .ok (.invokestatic 145, 3) := by decide +kernel
theorem dX12_judge_24 : decode cX12_judge 24 = .ok (.iconst 0, 1) := by decide +kernel
theorem dX12_judge_25 : decode cX12_judge 25 = .ok (.istore_n 3, 1) := by decide +kernel
theorem dX12_judge_26 : decode cX12_judge 26 = .ok (.iload_n 3, 1) := by decide +kernel
theorem dX12_judge_27 : decode cX12_judge 27 = .ok (.aload_n 0, 1) := by decide +kernel
theorem dX12_judge_28 : decode cX12_judge 28 = .ok (.getfield 40, 3) := by decide +kernel
theorem dX12_judge_31 : decode cX12_judge 31 = .ok (.iload_n 1, 1) := by decide +kernel
theorem dX12_judge_32 : decode cX12_judge 32 = .ok (.iaload, 1) := by decide +kernel
theorem dX12_judge_33 : decode cX12_judge 33 = .ok (.if_icmp .ge 37, 3) := by decide +kernel
theorem dX12_judge_36 : decode cX12_judge 36 = .ok (.aload_n 0, 1) := by decide +kernel
theorem dX12_judge_37 : decode cX12_judge 37 = .ok (.iload_n 1, 1) := by decide +kernel
theorem dX12_judge_38 : decode cX12_judge 38 = .ok (.iload_n 3, 1) := by decide +kernel
theorem dX12_judge_39 : decode cX12_judge 39 = .ok (.aload_n 0, 1) := by decide +kernel
theorem dX12_judge_40 : decode cX12_judge 40 = .ok (.getfield 13, 3) := by decide +kernel
theorem dX12_judge_43 : decode cX12_judge 43 = .ok (.invokestatic 96, 3) := by decide +kernel
theorem dX12_judge_46 : decode cX12_judge 46 = .ok (.invokestatic 99, 3) := by decide +kernel
theorem dX12_judge_49 : decode cX12_judge 49 = .ok (.invokevirtual 206, 3) := by decide +kernel
theorem dX12_judge_52 : decode cX12_judge 52 = .ok (.ifCond .ne 5, 3) := by decide +kernel
theorem dX12_judge_55 : decode cX12_judge 55 = .ok (.iload_n 3, 1) := by decide +kernel
theorem dX12_judge_56 : decode cX12_judge 56 = .ok (.ireturn, 1) := by decide +kernel
theorem dX12_judge_57 : decode cX12_judge 57 = .ok (.aload_n 0, 1) := by decide +kernel
theorem dX12_judge_58 : decode cX12_judge 58 = .ok (.getfield 13, 3) := by decide +kernel
theorem dX12_judge_61 : decode cX12_judge 61 = .ok (.invokestatic 109, 3) := by decide +kernel
theorem dX12_judge_64 : decode cX12_judge 64 = .ok (.iinc 3 1, 3) := by decide +kernel
theorem dX12_judge_67 : decode cX12_judge 67 = .ok (.goto (-41), 3) := by decide +kernel
theorem dX12_judge_70 : decode cX12_judge 70 = .ok (.bipush (-4), 2) := by decide +kernel
theorem dX12_judge_72 : decode cX12_judge 72 = .ok (.ireturn, 1) := by decide +kernel
theorem dX12_drawn_0 : decode cX12_drawn 0 = .ok (.aload_n 0, 1) := by decide +kernel
theorem dX12_drawn_1 : decode cX12_drawn 1 = .ok (.aload_n 0, 1) := by decide +kernel
theorem dX12_drawn_2 : decode cX12_drawn 2 = .ok (.getfield 229, 3) := by decide +kernel
theorem dX12_drawn_5 : decode cX12_drawn 5 = .ok (.ldc 232, 2) := by decide +kernel
theorem dX12_drawn_7 : decode cX12_drawn 7 = .ok (.imul, 1) := by decide +kernel
theorem dX12_drawn_8 : decode cX12_drawn 8 = .ok (.sipush 12345, 3) := by decide +kernel
theorem dX12_drawn_11 : decode cX12_drawn 11 = .ok (.iadd, 1) := by decide +kernel
theorem dX12_drawn_12 : decode cX12_drawn 12 = .ok (.putfield 229, 3) := by decide +kernel
theorem dX12_drawn_15 : decode cX12_drawn 15 = .ok (.aload_n 0, 1) := by decide +kernel
theorem dX12_drawn_16 : decode cX12_drawn 16 = .ok (.getfield 229, 3) := by decide +kernel
theorem dX12_drawn_19 : decode cX12_drawn 19 = .ok (.ldc 233, 2) := by decide +kernel
theorem dX12_drawn_21 : decode cX12_drawn 21 = .ok (.iand, 1) := by decide +kernel
theorem dX12_drawn_22 : decode cX12_drawn 22 = .ok (.ldc 234, 2) := by decide +kernel
theorem dX12_drawn_24 : decode cX12_drawn 24 = .ok (.idiv, 1) := by decide +kernel
theorem dX12_drawn_25 : decode cX12_drawn 25 = .ok (.iload_n 1, 1) := by decide +kernel
theorem dX12_drawn_26 : decode cX12_drawn 26 = .ok (.irem, 1) := by decide +kernel
theorem dX12_drawn_27 : decode cX12_drawn 27 = .ok (.ireturn, 1) := by decide +kernel
set_option maxRecDepth 20000 in
theorem ggX12_years_X12_isIn : GoodIn wsX12_years wsX12_isIn := goodIn_r _ [7] (by decide +kernel) (by decide +kernel)
set_option maxRecDepth 20000 in
theorem gX12_years_X12_isIn : GoodIn wsX12_years (va_wsS RX12 46 yX12_isIn wsX12_isIn) := goodIn_app (goodIn_of _ (by decide +kernel)) ggX12_years_X12_isIn
set_option maxRecDepth 20000 in
theorem ggX12_years_X12_copies : GoodIn wsX12_years wsX12_copies := goodIn_r _ [10] (by decide +kernel) (by decide +kernel)
set_option maxRecDepth 20000 in
theorem gX12_years_X12_copies : GoodIn wsX12_years (va_wsS RX12 145 yX12_copies wsX12_copies) := goodIn_app (goodIn_of _ (by decide +kernel)) ggX12_years_X12_copies
set_option maxRecDepth 20000 in
theorem ggX12_years_X12_of : GoodIn wsX12_years wsX12_of := goodIn_r _ [13] (by decide +kernel) (by decide +kernel)
set_option maxRecDepth 20000 in
theorem gX12_years_X12_of : GoodIn wsX12_years (va_wsS RX12 72 yX12_of wsX12_of) := goodIn_app (goodIn_of _ (by decide +kernel)) ggX12_years_X12_of
set_option maxRecDepth 20000 in
theorem ggX12_years_X12_drawn : GoodIn wsX12_years wsX12_drawn := goodIn_r _ [17, 1, 18, 19, 20, 72, 73, 74, 75, 76, 77, 78, 79, 80, 81, 82, 83, 84, 85, 86, 87, 88, 89] (by decide +kernel) (by decide +kernel)
set_option maxRecDepth 20000 in
theorem gX12_years_X12_drawn : GoodIn wsX12_years (wsV RX12 235 RX12 yX12_drawn wsX12_drawn) := goodIn_app (goodIn_of _ (by decide +kernel)) ggX12_years_X12_drawn
set_option maxRecDepth 20000 in
theorem ggX12_years_X12_daysOn : GoodIn wsX12_years wsX12_daysOn := goodIn_r _ [23, 24, 25, 6, 26, 27, 28, 29, 11, 12, 13, 30, 31, 32, 33, 34, 35, 36, 37, 38, 39, 40, 41, 42, 43, 44, 45, 46, 47, 48, 49, 50, 51, 52, 53, 54, 55, 56, 57, 58, 59, 60, 61, 62, 63, 64, 65, 66, 67, 68, 69, 70, 71] (by decide +kernel) (by decide +kernel)
set_option maxRecDepth 20000 in
theorem gX12_years_X12_daysOn : GoodIn wsX12_years (va_wsS RX12 134 yX12_daysOn wsX12_daysOn) := goodIn_app (goodIn_of _ (by decide +kernel)) ggX12_years_X12_daysOn
set_option maxRecDepth 20000 in
theorem ggX12_years_X12_upright : GoodIn wsX12_years wsX12_upright := goodIn_r _ [53, 11, 12, 6, 13, 54, 55, 56, 39, 40, 41, 57, 58, 59] (by decide +kernel) (by decide +kernel)
set_option maxRecDepth 20000 in
theorem gX12_years_X12_upright : GoodIn wsX12_years (va_wsS RX12 96 yX12_upright wsX12_upright) := goodIn_app (goodIn_of _ (by decide +kernel)) ggX12_years_X12_upright
set_option maxRecDepth 20000 in
theorem ggX12_years_X12_bits : GoodIn wsX12_years wsX12_bits := goodIn_r _ [62] (by decide +kernel) (by decide +kernel)
set_option maxRecDepth 20000 in
theorem gX12_years_X12_bits : GoodIn wsX12_years (va_wsS RX12 99 yX12_bits wsX12_bits) := goodIn_app (goodIn_of _ (by decide +kernel)) ggX12_years_X12_bits
theorem dX12_years_0 : decode cX12_years 0 = .ok (.iload_n 1, 1) := by decide +kernel
theorem dX12_years_1 : decode cX12_years 1 = .ok (.iconst 1, 1) := by decide +kernel
theorem dX12_years_2 : decode cX12_years 2 = .ok (.bipush 20, 2) := by decide +kernel
theorem dX12_years_4 : decode cX12_years 4 = .ok (.invokestatic 46, 3) := by decide +kernel
theorem dX12_years_7 : decode cX12_years 7 = .ok (.ifCond .eq 12, 3) := by decide +kernel
theorem dX12_years_10 : decode cX12_years 10 = .ok (.iload_n 3, 1) := by decide +kernel
theorem dX12_years_11 : decode cX12_years 11 = .ok (.iconst 0, 1) := by decide +kernel
theorem dX12_years_12 : decode cX12_years 12 = .ok (.iconst 1, 1) := by decide +kernel
theorem dX12_years_13 : decode cX12_years 13 = .ok (.invokestatic 46, 3) := by decide +kernel
theorem dX12_years_16 : decode cX12_years 16 = .ok (.ifCond .ne 5, 3) := by decide +kernel
theorem dX12_years_19 : decode cX12_years 19 = .ok (.iconst (-1), 1) := by decide +kernel
theorem dX12_years_20 : decode cX12_years 20 = .ok (.ireturn, 1) := by decide +kernel
theorem dX12_years_21 : decode cX12_years 21 = .ok (.aload_n 0, 1) := by decide +kernel
theorem dX12_years_22 : decode cX12_years 22 = .ok (.iload_n 2, 1) := by decide +kernel
theorem dX12_years_23 : decode cX12_years 23 = .ok (.putfield 229, 3) := by decide +kernel
theorem dX12_years_26 : decode cX12_years 26 = .ok (.iconst 0, 1) := by decide +kernel
theorem dX12_years_27 : decode cX12_years 27 = .ok (.istore 4, 2) := by decide +kernel
theorem dX12_years_29 : decode cX12_years 29 = .ok (.iconst 0, 1) := by decide +kernel
theorem dX12_years_30 : decode cX12_years 30 = .ok (.istore 5, 2) := by decide +kernel
theorem dX12_years_32 : decode cX12_years 32 = .ok (.iload 5, 2) := by decide +kernel
theorem dX12_years_34 : decode cX12_years 34 = .ok (.iload_n 1, 1) := by decide +kernel
theorem dX12_years_35 : decode cX12_years 35 = .ok (.if_icmp .ge 104, 3) := by decide +kernel
theorem dX12_years_38 : decode cX12_years 38 = .ok (.aload_n 0, 1) := by decide +kernel
theorem dX12_years_39 : decode cX12_years 39 = .ok (.getfield 9, 3) := by decide +kernel
theorem dX12_years_42 : decode cX12_years 42 = .ok (.aload_n 0, 1) := by decide +kernel
theorem dX12_years_43 : decode cX12_years 43 = .ok (.getfield 13, 3) := by decide +kernel
theorem dX12_years_46 : decode cX12_years 46 = .ok (.invokestatic 145, 3) := by decide +kernel
theorem dX12_years_49 : decode cX12_years 49 = .ok (.iconst 0, 1) := by decide +kernel
theorem dX12_years_50 : decode cX12_years 50 = .ok (.istore 6, 2) := by decide +kernel
theorem dX12_years_52 : decode cX12_years 52 = .ok (.iload 6, 2) := by decide +kernel
theorem dX12_years_54 : decode cX12_years 54 = .ok (.aload_n 0, 1) := by decide +kernel
theorem dX12_years_55 : decode cX12_years 55 = .ok (.getfield 9, 3) := by decide +kernel
theorem dX12_years_58 : decode cX12_years 58 = .ok (.iconst 0, 1) := by decide +kernel
theorem dX12_years_59 : decode cX12_years 59 = .ok (.iaload, 1) := by decide +kernel
theorem dX12_years_60 : decode cX12_years 60 = .ok (.if_icmp .ge 29, 3) := by decide +kernel
theorem dX12_years_63 : decode cX12_years 63 = .ok (.aload_n 0, 1) := by decide +kernel
theorem dX12_years_64 : decode cX12_years 64 = .ok (.getfield 13, 3) := by decide +kernel
theorem dX12_years_67 : decode cX12_years 67 = .ok (.iload 6, 2) := by decide +kernel
theorem dX12_years_69 : decode cX12_years 69 = .ok (.iconst 2, 1) := by decide +kernel
theorem dX12_years_70 : decode cX12_years 70 = .ok (.invokestatic 72, 3) := by decide +kernel
theorem dX12_years_73 : decode cX12_years 73 = .ok (.aload_n 0, 1) := by decide +kernel
theorem dX12_years_74 : decode cX12_years 74 = .ok (.bipush 91, 2) := by decide +kernel
theorem dX12_years_76 : decode cX12_years 76 = .ok (.invokevirtual 235, 3) := by decide +kernel
theorem dX12_years_79 : decode cX12_years 79 = .ok (.bipush 45, 2) := by decide +kernel
theorem dX12_years_81 : decode cX12_years 81 = .ok (.isub, 1) := by decide +kernel
theorem dX12_years_82 : decode cX12_years 82 = .ok (.iastore, 1) := by decide +kernel
theorem dX12_years_83 : decode cX12_years 83 = .ok (.iinc 6 1, 3) := by decide +kernel
theorem dX12_years_86 : decode cX12_years 86 = .ok (.goto (-34), 3) := by decide +kernel
theorem dX12_years_89 : decode cX12_years 89 = .ok (.aload_n 0, 1) := by decide +kernel
theorem dX12_years_90 : decode cX12_years 90 = .ok (.getfield 13, 3) := by decide +kernel
theorem dX12_years_93 : decode cX12_years 93 = .ok (.bipush 12, 2) := by decide +kernel
theorem dX12_years_95 : decode cX12_years 95 = .ok (.invokestatic 134, 3) := by decide +kernel
theorem dX12_years_98 : decode cX12_years 98 = .ok (.iload 4, 2) := by decide +kernel
theorem dX12_years_100 : decode cX12_years 100 = .ok (.iload_n 3, 1) := by decide +kernel
theorem dX12_years_101 : decode cX12_years 101 = .ok (.ifCond .ne 16, 3) := by decide +kernel
theorem dX12_years_104 : decode cX12_years 104 = .ok (.aload_n 0, 1) := by decide +kernel
theorem dX12_years_105 : decode cX12_years 105 = .ok (.getfield 13, 3) := by decide +kernel
theorem dX12_years_108 : decode cX12_years 108 = .ok (.invokestatic 96, 3) := by decide +kernel
theorem dX12_years_111 : decode cX12_years 111 = .ok (.invokestatic 99, 3) := by decide +kernel
theorem dX12_years_114 : decode cX12_years 114 = .ok (.goto 16, 3) := by decide +kernel
theorem dX12_years_117 : decode cX12_years 117 = .ok (.aload_n 0, 1) := by decide +kernel
theorem dX12_years_118 : decode cX12_years 118 = .ok (.getfield 13, 3) := by decide +kernel
theorem dX12_years_121 : decode cX12_years 121 = .ok (.iconst 4, 1) := by decide +kernel
theorem dX12_years_122 : decode cX12_years 122 = .ok (.iaload, 1) := by decide +kernel
theorem dX12_years_123 : decode cX12_years 123 = .ok (.aload_n 0, 1) := by decide +kernel
theorem dX12_years_124 : decode cX12_years 124 = .ok (.getfield 9, 3) := by decide +kernel
theorem dX12_years_127 : decode cX12_years 127 = .ok (.iconst 4, 1) := by decide +kernel
theorem dX12_years_128 : decode cX12_years 128 = .ok (.iaload, 1) := by decide +kernel
theorem dX12_years_129 : decode cX12_years 129 = .ok (.isub, 1) := by decide +kernel
theorem dX12_years_130 : decode cX12_years 130 = .ok (.iadd, 1) := by decide +kernel
theorem dX12_years_131 : decode cX12_years 131 = .ok (.istore 4, 2) := by decide +kernel
theorem dX12_years_133 : decode cX12_years 133 = .ok (.iinc 5 1, 3) := by decide +kernel
theorem dX12_years_136 : decode cX12_years 136 = .ok (.goto (-104), 3) := by decide +kernel
theorem dX12_years_139 : decode cX12_years 139 = .ok (.iload 4, 2) := by decide +kernel
theorem dX12_years_141 : decode cX12_years 141 = .ok (.ireturn, 1) := by decide +kernel
set_option maxRecDepth 20000 in
theorem ggX12_image_X12_copies : GoodIn wsX12_image wsX12_copies := goodIn_r _ [7] (by decide +kernel) (by decide +kernel)
set_option maxRecDepth 20000 in
theorem gX12_image_X12_copies : GoodIn wsX12_image (va_wsS RX12 145 yX12_copies wsX12_copies) := goodIn_app (goodIn_of _ (by decide +kernel)) ggX12_image_X12_copies
theorem dX12_image_0 : decode cX12_image 0 = .ok (.aload_n 0, 1) := by decide +kernel
theorem dX12_image_1 : decode cX12_image 1 = .ok (.getfield 9, 3) := by decide +kernel
theorem dX12_image_4 : decode cX12_image 4 = .ok (.aload_n 0, 1) := by decide +kernel
theorem dX12_image_5 : decode cX12_image 5 = .ok (.getfield 16, 3) := by decide +kernel
theorem dX12_image_8 : decode cX12_image 8 = .ok (.invokestatic 145, 3) := by decide +kernel
theorem dX12_image_11 : decode cX12_image 11 = .ok (.aload_n 0, 1) := by decide +kernel
theorem dX12_image_12 : decode cX12_image 12 = .ok (.iconst 1, 1) := by decide +kernel
theorem dX12_image_13 : decode cX12_image 13 = .ok (.putfield 238, 3) := by decide +kernel
theorem dX12_image_16 : decode cX12_image 16 = .ok (.aload_n 0, 1) := by decide +kernel
theorem dX12_image_17 : decode cX12_image 17 = .ok (.getfield 9, 3) := by decide +kernel
theorem dX12_image_20 : decode cX12_image 20 = .ok (.iconst 1, 1) := by decide +kernel
theorem dX12_image_21 : decode cX12_image 21 = .ok (.iaload, 1) := by decide +kernel
theorem dX12_image_22 : decode cX12_image 22 = .ok (.ireturn, 1) := by decide +kernel
set_option maxRecDepth 20000 in
theorem ggX12_restore_X12_copies : GoodIn wsX12_restore wsX12_copies := goodIn_r _ [7] (by decide +kernel) (by decide +kernel)
set_option maxRecDepth 20000 in
theorem gX12_restore_X12_copies : GoodIn wsX12_restore (va_wsS RX12 145 yX12_copies wsX12_copies) := goodIn_app (goodIn_of _ (by decide +kernel)) ggX12_restore_X12_copies
theorem dX12_restore_0 : decode cX12_restore 0 = .ok (.aload_n 0, 1) := by decide +kernel
theorem dX12_restore_1 : decode cX12_restore 1 = .ok (.getfield 238, 3) := by decide +kernel
theorem dX12_restore_4 : decode cX12_restore 4 = .ok (.ifCond .ne 6, 3) := by decide +kernel
theorem dX12_restore_7 : decode cX12_restore 7 = .ok (.bipush (-3), 2) := by decide +kernel
theorem dX12_restore_9 : decode cX12_restore 9 = .ok (.ireturn, 1) := by decide +kernel
theorem dX12_restore_10 : decode cX12_restore 10 = .ok (.aload_n 0, 1) := by decide +kernel
theorem dX12_restore_11 : decode cX12_restore 11 = .ok (.getfield 16, 3) := by decide +kernel
theorem dX12_restore_14 : decode cX12_restore 14 = .ok (.aload_n 0, 1) := by decide +kernel
theorem dX12_restore_15 : decode cX12_restore 15 = .ok (.getfield 9, 3) := by decide +kernel
theorem dX12_restore_18 : decode cX12_restore 18 = .ok (.invokestatic 145, 3) := by decide +kernel
theorem dX12_restore_21 : decode cX12_restore 21 = .ok (.aload_n 0, 1) := by decide +kernel
theorem dX12_restore_22 : decode cX12_restore 22 = .ok (.getfield 9, 3) := by decide +kernel
theorem dX12_restore_25 : decode cX12_restore 25 = .ok (.iconst 1, 1) := by decide +kernel
theorem dX12_restore_26 : decode cX12_restore 26 = .ok (.iaload, 1) := by decide +kernel
theorem dX12_restore_27 : decode cX12_restore 27 = .ok (.ireturn, 1) := by decide +kernel
set_option maxRecDepth 20000 in
theorem ggX12_count_X12_isIn : GoodIn wsX12_count wsX12_isIn := goodIn_r _ [5] (by decide +kernel) (by decide +kernel)
set_option maxRecDepth 20000 in
theorem gX12_count_X12_isIn : GoodIn wsX12_count (va_wsS RX12 46 yX12_isIn wsX12_isIn) := goodIn_app (goodIn_of _ (by decide +kernel)) ggX12_count_X12_isIn
set_option maxRecDepth 20000 in
theorem ggX12_count_X12_upright : GoodIn wsX12_count wsX12_upright := goodIn_r _ [8, 9, 10, 4, 11, 12, 13, 14, 15, 16, 17, 18, 19, 20] (by decide +kernel) (by decide +kernel)
set_option maxRecDepth 20000 in
theorem gX12_count_X12_upright : GoodIn wsX12_count (va_wsS RX12 96 yX12_upright wsX12_upright) := goodIn_app (goodIn_of _ (by decide +kernel)) ggX12_count_X12_upright
set_option maxRecDepth 20000 in
theorem ggX12_count_X12_of : GoodIn wsX12_count wsX12_of := goodIn_r _ [11] (by decide +kernel) (by decide +kernel)
set_option maxRecDepth 20000 in
theorem gX12_count_X12_of : GoodIn wsX12_count (va_wsS RX12 72 yX12_of wsX12_of) := goodIn_app (goodIn_of _ (by decide +kernel)) ggX12_count_X12_of
theorem dX12_count_0 : decode cX12_count 0 = .ok (.iload_n 1, 1) := by decide +kernel
theorem dX12_count_1 : decode cX12_count 1 = .ok (.iconst 0, 1) := by decide +kernel
theorem dX12_count_2 : decode cX12_count 2 = .ok (.iconst 4, 1) := by decide +kernel
theorem dX12_count_3 : decode cX12_count 3 = .ok (.invokestatic 46, 3) := by decide +kernel
theorem dX12_count_6 : decode cX12_count 6 = .ok (.ifCond .eq 10, 3) := by decide +kernel
theorem dX12_count_9 : decode cX12_count 9 = .ok (.aload_n 0, 1) := by decide +kernel
theorem dX12_count_10 : decode cX12_count 10 = .ok (.getfield 9, 3) := by decide +kernel
theorem dX12_count_13 : decode cX12_count 13 = .ok (.iload_n 1, 1) := by decide +kernel
theorem dX12_count_14 : decode cX12_count 14 = .ok (.iaload, 1) := by decide +kernel
theorem dX12_count_15 : decode cX12_count 15 = .ok (.ireturn, 1) := by decide +kernel
theorem dX12_count_16 : decode cX12_count 16 = .ok (.iload_n 1, 1) := by decide +kernel
theorem dX12_count_17 : decode cX12_count 17 = .ok (.iconst 5, 1) := by decide +kernel
theorem dX12_count_18 : decode cX12_count 18 = .ok (.if_icmp .ne 11, 3) := by decide +kernel
theorem dX12_count_21 : decode cX12_count 21 = .ok (.aload_n 0, 1) := by decide +kernel
theorem dX12_count_22 : decode cX12_count 22 = .ok (.getfield 9, 3) := by decide +kernel
theorem dX12_count_25 : decode cX12_count 25 = .ok (.invokestatic 96, 3) := by decide +kernel
theorem dX12_count_28 : decode cX12_count 28 = .ok (.ireturn, 1) := by decide +kernel
theorem dX12_count_29 : decode cX12_count 29 = .ok (.iload_n 1, 1) := by decide +kernel
theorem dX12_count_30 : decode cX12_count 30 = .ok (.bipush 6, 2) := by decide +kernel
theorem dX12_count_32 : decode cX12_count 32 = .ok (.if_icmp .eq 5, 3) := by decide +kernel
theorem dX12_count_35 : decode cX12_count 35 = .ok (.iconst (-1), 1) := by decide +kernel
theorem dX12_count_36 : decode cX12_count 36 = .ok (.ireturn, 1) := by decide +kernel
theorem dX12_count_37 : decode cX12_count 37 = .ok (.iconst 0, 1) := by decide +kernel
theorem dX12_count_38 : decode cX12_count 38 = .ok (.istore_n 2, 1) := by decide +kernel
theorem dX12_count_39 : decode cX12_count 39 = .ok (.iconst 0, 1) := by decide +kernel
theorem dX12_count_40 : decode cX12_count 40 = .ok (.istore_n 3, 1) := by decide +kernel
theorem dX12_count_41 : decode cX12_count 41 = .ok (.iload_n 3, 1) := by decide +kernel
theorem dX12_count_42 : decode cX12_count 42 = .ok (.aload_n 0, 1) := by decide +kernel
theorem dX12_count_43 : decode cX12_count 43 = .ok (.getfield 9, 3) := by decide +kernel
theorem dX12_count_46 : decode cX12_count 46 = .ok (.iconst 0, 1) := by decide +kernel
theorem dX12_count_47 : decode cX12_count 47 = .ok (.iaload, 1) := by decide +kernel
theorem dX12_count_48 : decode cX12_count 48 = .ok (.if_icmp .ge 24, 3) := by decide +kernel
theorem dX12_count_51 : decode cX12_count 51 = .ok (.iload_n 2, 1) := by decide +kernel
theorem dX12_count_52 : decode cX12_count 52 = .ok (.aload_n 0, 1) := by decide +kernel
theorem dX12_count_53 : decode cX12_count 53 = .ok (.getfield 9, 3) := by decide +kernel
theorem dX12_count_56 : decode cX12_count 56 = .ok (.iload_n 3, 1) := by decide +kernel
theorem dX12_count_57 : decode cX12_count 57 = .ok (.iconst 3, 1) := by decide +kernel
theorem dX12_count_58 : decode cX12_count 58 = .ok (.invokestatic 72, 3) := by decide +kernel
theorem dX12_count_61 : decode cX12_count 61 = .ok (.iaload, 1) := by decide +kernel
theorem dX12_count_62 : decode cX12_count 62 = .ok (.iload_n 3, 1) := by decide +kernel
theorem dX12_count_63 : decode cX12_count 63 = .ok (.ishl, 1) := by decide +kernel
theorem dX12_count_64 : decode cX12_count 64 = .ok (.ior, 1) := by decide +kernel
theorem dX12_count_65 : decode cX12_count 65 = .ok (.istore_n 2, 1) := by decide +kernel
theorem dX12_count_66 : decode cX12_count 66 = .ok (.iinc 3 1, 3) := by decide +kernel
theorem dX12_count_69 : decode cX12_count 69 = .ok (.goto (-28), 3) := by decide +kernel
theorem dX12_count_72 : decode cX12_count 72 = .ok (.iload_n 2, 1) := by decide +kernel
theorem dX12_count_73 : decode cX12_count 73 = .ok (.ireturn, 1) := by decide +kernel
theorem dX12_thrown_0 : decode cX12_thrown 0 = .ok (.aload_n 0, 1) := by decide +kernel
theorem dX12_thrown_1 : decode cX12_thrown 1 = .ok (.getfield 242, 3) := by decide +kernel
theorem dX12_thrown_4 : decode cX12_thrown 4 = .ok (.ireturn, 1) := by decide +kernel
set_option maxRecDepth 20000 in
theorem ggX12_isShelf_X12_isIn : GoodIn wsX12_isShelf wsX12_isIn := goodIn_r _ [4] (by decide +kernel) (by decide +kernel)
set_option maxRecDepth 20000 in
theorem gX12_isShelf_X12_isIn : GoodIn wsX12_isShelf (va_wsS RX12 46 yX12_isIn wsX12_isIn) := goodIn_app (goodIn_of _ (by decide +kernel)) ggX12_isShelf_X12_isIn
theorem dX12_isShelf_0 : decode cX12_isShelf 0 = .ok (.iload_n 0, 1) := by decide +kernel
theorem dX12_isShelf_1 : decode cX12_isShelf 1 = .ok (.iconst 0, 1) := by decide +kernel
theorem dX12_isShelf_2 : decode cX12_isShelf 2 = .ok (.bipush 7, 2) := by decide +kernel
theorem dX12_isShelf_4 : decode cX12_isShelf 4 = .ok (.invokestatic 46, 3) := by decide +kernel
theorem dX12_isShelf_7 : decode cX12_isShelf 7 = .ok (.ireturn, 1) := by decide +kernel
set_option maxRecDepth 20000 in
theorem ggX12_wrongRow_X12_isShelf : GoodIn wsX12_wrongRow wsX12_isShelf := goodIn_r _ [6, 7, 8, 5, 9] (by decide +kernel) (by decide +kernel)
set_option maxRecDepth 20000 in
theorem gX12_wrongRow_X12_isShelf : GoodIn wsX12_wrongRow (va_wsS RX12 245 yX12_isShelf wsX12_isShelf) := goodIn_app (goodIn_of _ (by decide +kernel)) ggX12_wrongRow_X12_isShelf
theorem dX12_wrongRow_0 : decode cX12_wrongRow 0 = .ok (.iload_n 1, 1) := by decide +kernel
theorem dX12_wrongRow_1 : decode cX12_wrongRow 1 = .ok (.invokestatic 245, 3) := by decide +kernel
theorem dX12_wrongRow_4 : decode cX12_wrongRow 4 = .ok (.ifCond .ne 7, 3) := by decide +kernel
theorem dX12_wrongRow_7 : decode cX12_wrongRow 7 = .ok (.iconst (-1), 1) := by decide +kernel
theorem dX12_wrongRow_8 : decode cX12_wrongRow 8 = .ok (.goto 47, 3) := by decide +kernel
theorem dX12_wrongRow_11 : decode cX12_wrongRow 11 = .ok (.aload_n 0, 1) := by decide +kernel
theorem dX12_wrongRow_12 : decode cX12_wrongRow 12 = .ok (.getfield 28, 3) := by decide +kernel
theorem dX12_wrongRow_15 : decode cX12_wrongRow 15 = .ok (.iload_n 1, 1) := by decide +kernel
theorem dX12_wrongRow_16 : decode cX12_wrongRow 16 = .ok (.iaload, 1) := by decide +kernel
theorem dX12_wrongRow_17 : decode cX12_wrongRow 17 = .ok (.ifCond .ne 8, 3) := by decide +kernel
theorem dX12_wrongRow_20 : decode cX12_wrongRow 20 = .ok (.bipush (-11), 2) := by decide +kernel
theorem dX12_wrongRow_22 : decode cX12_wrongRow 22 = .ok (.goto 33, 3) := by decide +kernel
theorem dX12_wrongRow_25 : decode cX12_wrongRow 25 = .ok (.aload_n 0, 1) := by decide +kernel
theorem dX12_wrongRow_26 : decode cX12_wrongRow 26 = .ok (.getfield 28, 3) := by decide +kernel
theorem dX12_wrongRow_29 : decode cX12_wrongRow 29 = .ok (.iload_n 1, 1) := by decide +kernel
theorem dX12_wrongRow_30 : decode cX12_wrongRow 30 = .ok (.iaload, 1) := by decide +kernel
theorem dX12_wrongRow_31 : decode cX12_wrongRow 31 = .ok (.iconst 2, 1) := by decide +kernel
theorem dX12_wrongRow_32 : decode cX12_wrongRow 32 = .ok (.if_icmp .ne 17, 3) := by decide +kernel
theorem dX12_wrongRow_35 : decode cX12_wrongRow 35 = .ok (.iload_n 2, 1) := by decide +kernel
theorem dX12_wrongRow_36 : decode cX12_wrongRow 36 = .ok (.ifCond .lt 18, 3) := by decide +kernel
theorem dX12_wrongRow_39 : decode cX12_wrongRow 39 = .ok (.aload_n 0, 1) := by decide +kernel
theorem dX12_wrongRow_40 : decode cX12_wrongRow 40 = .ok (.getfield 37, 3) := by decide +kernel
theorem dX12_wrongRow_43 : decode cX12_wrongRow 43 = .ok (.iload_n 1, 1) := by decide +kernel
theorem dX12_wrongRow_44 : decode cX12_wrongRow 44 = .ok (.iaload, 1) := by decide +kernel
theorem dX12_wrongRow_45 : decode cX12_wrongRow 45 = .ok (.iload_n 2, 1) := by decide +kernel
theorem dX12_wrongRow_46 : decode cX12_wrongRow 46 = .ok (.if_icmp .eq 8, 3) := by decide +kernel
theorem dX12_wrongRow_49 : decode cX12_wrongRow 49 = .ok (.bipush (-12), 2) := by decide +kernel
theorem dX12_wrongRow_51 : decode cX12_wrongRow 51 = .ok (.goto 4, 3) := by decide +kernel
theorem dX12_wrongRow_54 : decode cX12_wrongRow 54 = .ok (.iconst 0, 1) := by decide +kernel
theorem dX12_wrongRow_55 : decode cX12_wrongRow 55 = .ok (.ireturn, 1) := by decide +kernel
set_option maxRecDepth 20000 in
theorem ggX12_wrongKept_X12_isShelf : GoodIn wsX12_wrongKept wsX12_isShelf := goodIn_r _ [5, 6, 7, 4, 8] (by decide +kernel) (by decide +kernel)
set_option maxRecDepth 20000 in
theorem gX12_wrongKept_X12_isShelf : GoodIn wsX12_wrongKept (va_wsS RX12 245 yX12_isShelf wsX12_isShelf) := goodIn_app (goodIn_of _ (by decide +kernel)) ggX12_wrongKept_X12_isShelf
theorem dX12_wrongKept_0 : decode cX12_wrongKept 0 = .ok (.iload_n 1, 1) := by decide +kernel
theorem dX12_wrongKept_1 : decode cX12_wrongKept 1 = .ok (.invokestatic 245, 3) := by decide +kernel
theorem dX12_wrongKept_4 : decode cX12_wrongKept 4 = .ok (.ifCond .ne 7, 3) := by decide +kernel
theorem dX12_wrongKept_7 : decode cX12_wrongKept 7 = .ok (.iconst (-1), 1) := by decide +kernel
theorem dX12_wrongKept_8 : decode cX12_wrongKept 8 = .ok (.goto 33, 3) := by decide +kernel
theorem dX12_wrongKept_11 : decode cX12_wrongKept 11 = .ok (.aload_n 0, 1) := by decide +kernel
theorem dX12_wrongKept_12 : decode cX12_wrongKept 12 = .ok (.getfield 28, 3) := by decide +kernel
theorem dX12_wrongKept_15 : decode cX12_wrongKept 15 = .ok (.iload_n 1, 1) := by decide +kernel
theorem dX12_wrongKept_16 : decode cX12_wrongKept 16 = .ok (.iaload, 1) := by decide +kernel
theorem dX12_wrongKept_17 : decode cX12_wrongKept 17 = .ok (.ifCond .ne 8, 3) := by decide +kernel
theorem dX12_wrongKept_20 : decode cX12_wrongKept 20 = .ok (.bipush (-11), 2) := by decide +kernel
theorem dX12_wrongKept_22 : decode cX12_wrongKept 22 = .ok (.goto 19, 3) := by decide +kernel
theorem dX12_wrongKept_25 : decode cX12_wrongKept 25 = .ok (.aload_n 0, 1) := by decide +kernel
theorem dX12_wrongKept_26 : decode cX12_wrongKept 26 = .ok (.getfield 28, 3) := by decide +kernel
theorem dX12_wrongKept_29 : decode cX12_wrongKept 29 = .ok (.iload_n 1, 1) := by decide +kernel
theorem dX12_wrongKept_30 : decode cX12_wrongKept 30 = .ok (.iaload, 1) := by decide +kernel
theorem dX12_wrongKept_31 : decode cX12_wrongKept 31 = .ok (.iconst 2, 1) := by decide +kernel
theorem dX12_wrongKept_32 : decode cX12_wrongKept 32 = .ok (.if_icmp .ne 8, 3) := by decide +kernel
theorem dX12_wrongKept_35 : decode cX12_wrongKept 35 = .ok (.bipush (-12), 2) := by decide +kernel
theorem dX12_wrongKept_37 : decode cX12_wrongKept 37 = .ok (.goto 4, 3) := by decide +kernel
theorem dX12_wrongKept_40 : decode cX12_wrongKept 40 = .ok (.iconst 0, 1) := by decide +kernel
theorem dX12_wrongKept_41 : decode cX12_wrongKept 41 = .ok (.ireturn, 1) := by decide +kernel
set_option maxRecDepth 20000 in
theorem ggX12_keep_X12_isShelf : GoodIn wsX12_keep wsX12_isShelf := goodIn_r _ [7, 8, 9, 6, 10] (by decide +kernel) (by decide +kernel)
set_option maxRecDepth 20000 in
theorem gX12_keep_X12_isShelf : GoodIn wsX12_keep (va_wsS RX12 245 yX12_isShelf wsX12_isShelf) := goodIn_app (goodIn_of _ (by decide +kernel)) ggX12_keep_X12_isShelf
set_option maxRecDepth 20000 in
theorem ggX12_keep_X12_isIn : GoodIn wsX12_keep wsX12_isIn := goodIn_r _ [10] (by decide +kernel) (by decide +kernel)
set_option maxRecDepth 20000 in
theorem gX12_keep_X12_isIn : GoodIn wsX12_keep (va_wsS RX12 46 yX12_isIn wsX12_isIn) := goodIn_app (goodIn_of _ (by decide +kernel)) ggX12_keep_X12_isIn
theorem dX12_keep_0 : decode cX12_keep 0 = .ok (.iload_n 1, 1) := by decide +kernel
theorem dX12_keep_1 : decode cX12_keep 1 = .ok (.invokestatic 245, 3) := by decide +kernel
theorem dX12_keep_4 : decode cX12_keep 4 = .ok (.ifCond .eq 38, 3) := by decide +kernel
theorem dX12_keep_7 : decode cX12_keep 7 = .ok (.iload_n 2, 1) := by decide +kernel
theorem dX12_keep_8 : decode cX12_keep 8 = .ok (.iconst 0, 1) := by decide +kernel
theorem dX12_keep_9 : decode cX12_keep 9 = .ok (.iconst 1, 1) := by decide +kernel
theorem dX12_keep_10 : decode cX12_keep 10 = .ok (.invokestatic 46, 3) := by decide +kernel
theorem dX12_keep_13 : decode cX12_keep 13 = .ok (.ifCond .eq 29, 3) := by decide +kernel
theorem dX12_keep_16 : decode cX12_keep 16 = .ok (.iload_n 2, 1) := by decide +kernel
theorem dX12_keep_17 : decode cX12_keep 17 = .ok (.iconst 1, 1) := by decide +kernel
theorem dX12_keep_18 : decode cX12_keep 18 = .ok (.if_icmp .ne 26, 3) := by decide +kernel
theorem dX12_keep_21 : decode cX12_keep 21 = .ok (.iload_n 3, 1) := by decide +kernel
theorem dX12_keep_22 : decode cX12_keep 22 = .ok (.iconst 0, 1) := by decide +kernel
theorem dX12_keep_23 : decode cX12_keep 23 = .ok (.bipush 7, 2) := by decide +kernel
theorem dX12_keep_25 : decode cX12_keep 25 = .ok (.invokestatic 46, 3) := by decide +kernel
theorem dX12_keep_28 : decode cX12_keep 28 = .ok (.ifCond .eq 14, 3) := by decide +kernel
theorem dX12_keep_31 : decode cX12_keep 31 = .ok (.iload 4, 2) := by decide +kernel
theorem dX12_keep_33 : decode cX12_keep 33 = .ok (.iconst 0, 1) := by decide +kernel
theorem dX12_keep_34 : decode cX12_keep 34 = .ok (.bipush 9, 2) := by decide +kernel
theorem dX12_keep_36 : decode cX12_keep 36 = .ok (.invokestatic 46, 3) := by decide +kernel
theorem dX12_keep_39 : decode cX12_keep 39 = .ok (.ifCond .ne 5, 3) := by decide +kernel
theorem dX12_keep_42 : decode cX12_keep 42 = .ok (.iconst (-1), 1) := by decide +kernel
theorem dX12_keep_43 : decode cX12_keep 43 = .ok (.ireturn, 1) := by decide +kernel
theorem dX12_keep_44 : decode cX12_keep 44 = .ok (.aload_n 0, 1) := by decide +kernel
theorem dX12_keep_45 : decode cX12_keep 45 = .ok (.getfield 28, 3) := by decide +kernel
theorem dX12_keep_48 : decode cX12_keep 48 = .ok (.iload_n 1, 1) := by decide +kernel
theorem dX12_keep_49 : decode cX12_keep 49 = .ok (.iload_n 2, 1) := by decide +kernel
theorem dX12_keep_50 : decode cX12_keep 50 = .ok (.iastore, 1) := by decide +kernel
theorem dX12_keep_51 : decode cX12_keep 51 = .ok (.aload_n 0, 1) := by decide +kernel
theorem dX12_keep_52 : decode cX12_keep 52 = .ok (.getfield 31, 3) := by decide +kernel
theorem dX12_keep_55 : decode cX12_keep 55 = .ok (.iload_n 1, 1) := by decide +kernel
theorem dX12_keep_56 : decode cX12_keep 56 = .ok (.iload_n 3, 1) := by decide +kernel
theorem dX12_keep_57 : decode cX12_keep 57 = .ok (.iastore, 1) := by decide +kernel
theorem dX12_keep_58 : decode cX12_keep 58 = .ok (.aload_n 0, 1) := by decide +kernel
theorem dX12_keep_59 : decode cX12_keep 59 = .ok (.getfield 34, 3) := by decide +kernel
theorem dX12_keep_62 : decode cX12_keep 62 = .ok (.iload_n 1, 1) := by decide +kernel
theorem dX12_keep_63 : decode cX12_keep 63 = .ok (.iload 4, 2) := by decide +kernel
theorem dX12_keep_65 : decode cX12_keep 65 = .ok (.iastore, 1) := by decide +kernel
theorem dX12_keep_66 : decode cX12_keep 66 = .ok (.iconst 0, 1) := by decide +kernel
theorem dX12_keep_67 : decode cX12_keep 67 = .ok (.ireturn, 1) := by decide +kernel
set_option maxRecDepth 20000 in
theorem ggX12_row_X12_isShelf : GoodIn wsX12_row wsX12_isShelf := goodIn_r _ [8, 9, 10, 7, 11] (by decide +kernel) (by decide +kernel)
set_option maxRecDepth 20000 in
theorem gX12_row_X12_isShelf : GoodIn wsX12_row (va_wsS RX12 245 yX12_isShelf wsX12_isShelf) := goodIn_app (goodIn_of _ (by decide +kernel)) ggX12_row_X12_isShelf
set_option maxRecDepth 20000 in
theorem ggX12_row_X12_isIn : GoodIn wsX12_row wsX12_isIn := goodIn_r _ [11] (by decide +kernel) (by decide +kernel)
set_option maxRecDepth 20000 in
theorem gX12_row_X12_isIn : GoodIn wsX12_row (va_wsS RX12 46 yX12_isIn wsX12_isIn) := goodIn_app (goodIn_of _ (by decide +kernel)) ggX12_row_X12_isIn
theorem dX12_row_0 : decode cX12_row 0 = .ok (.iload_n 1, 1) := by decide +kernel
theorem dX12_row_1 : decode cX12_row 1 = .ok (.invokestatic 245, 3) := by decide +kernel
theorem dX12_row_4 : decode cX12_row 4 = .ok (.ifCond .eq 18, 3) := by decide +kernel
theorem dX12_row_7 : decode cX12_row 7 = .ok (.iload_n 2, 1) := by decide +kernel
theorem dX12_row_8 : decode cX12_row 8 = .ok (.iconst 0, 1) := by decide +kernel
theorem dX12_row_9 : decode cX12_row 9 = .ok (.iconst 2, 1) := by decide +kernel
theorem dX12_row_10 : decode cX12_row 10 = .ok (.invokestatic 46, 3) := by decide +kernel
theorem dX12_row_13 : decode cX12_row 13 = .ok (.ifCond .eq 9, 3) := by decide +kernel
theorem dX12_row_16 : decode cX12_row 16 = .ok (.iload_n 3, 1) := by decide +kernel
theorem dX12_row_17 : decode cX12_row 17 = .ok (.bipush 100, 2) := by decide +kernel
theorem dX12_row_19 : decode cX12_row 19 = .ok (.if_icmp .le 5, 3) := by decide +kernel
theorem dX12_row_22 : decode cX12_row 22 = .ok (.iconst (-1), 1) := by decide +kernel
theorem dX12_row_23 : decode cX12_row 23 = .ok (.ireturn, 1) := by decide +kernel
theorem dX12_row_24 : decode cX12_row 24 = .ok (.iload_n 3, 1) := by decide +kernel
theorem dX12_row_25 : decode cX12_row 25 = .ok (.ifCond .ge 6, 3) := by decide +kernel
theorem dX12_row_28 : decode cX12_row 28 = .ok (.bipush (-14), 2) := by decide +kernel
theorem dX12_row_30 : decode cX12_row 30 = .ok (.ireturn, 1) := by decide +kernel
theorem dX12_row_31 : decode cX12_row 31 = .ok (.aload_n 0, 1) := by decide +kernel
theorem dX12_row_32 : decode cX12_row 32 = .ok (.getfield 28, 3) := by decide +kernel
theorem dX12_row_35 : decode cX12_row 35 = .ok (.iload_n 1, 1) := by decide +kernel
theorem dX12_row_36 : decode cX12_row 36 = .ok (.iconst 2, 1) := by decide +kernel
theorem dX12_row_37 : decode cX12_row 37 = .ok (.iastore, 1) := by decide +kernel
theorem dX12_row_38 : decode cX12_row 38 = .ok (.aload_n 0, 1) := by decide +kernel
theorem dX12_row_39 : decode cX12_row 39 = .ok (.getfield 37, 3) := by decide +kernel
theorem dX12_row_42 : decode cX12_row 42 = .ok (.iload_n 1, 1) := by decide +kernel
theorem dX12_row_43 : decode cX12_row 43 = .ok (.iload_n 2, 1) := by decide +kernel
theorem dX12_row_44 : decode cX12_row 44 = .ok (.iastore, 1) := by decide +kernel
theorem dX12_row_45 : decode cX12_row 45 = .ok (.aload_n 0, 1) := by decide +kernel
theorem dX12_row_46 : decode cX12_row 46 = .ok (.getfield 40, 3) := by decide +kernel
theorem dX12_row_49 : decode cX12_row 49 = .ok (.iload_n 1, 1) := by decide +kernel
theorem dX12_row_50 : decode cX12_row 50 = .ok (.iload_n 3, 1) := by decide +kernel
theorem dX12_row_51 : decode cX12_row 51 = .ok (.iastore, 1) := by decide +kernel
theorem dX12_row_52 : decode cX12_row 52 = .ok (.iconst 0, 1) := by decide +kernel
theorem dX12_row_53 : decode cX12_row 53 = .ok (.istore 4, 2) := by decide +kernel
theorem dX12_row_55 : decode cX12_row 55 = .ok (.iload 4, 2) := by decide +kernel
theorem dX12_row_57 : decode cX12_row 57 = .ok (.bipush 100, 2) := by decide +kernel
theorem dX12_row_59 : decode cX12_row 59 = .ok (.if_icmp .ge 22, 3) := by decide +kernel
theorem dX12_row_62 : decode cX12_row 62 = .ok (.aload_n 0, 1) := by decide +kernel
theorem dX12_row_63 : decode cX12_row 63 = .ok (.getfield 43, 3) := by decide +kernel
theorem dX12_row_66 : decode cX12_row 66 = .ok (.bipush 100, 2) := by decide +kernel
theorem dX12_row_68 : decode cX12_row 68 = .ok (.iload_n 1, 1) := by decide +kernel
theorem dX12_row_69 : decode cX12_row 69 = .ok (.imul, 1) := by decide +kernel
theorem dX12_row_70 : decode cX12_row 70 = .ok (.iload 4, 2) := by decide +kernel
theorem dX12_row_72 : decode cX12_row 72 = .ok (.iadd, 1) := by decide +kernel
theorem dX12_row_73 : decode cX12_row 73 = .ok (.iconst 0, 1) := by decide +kernel
theorem dX12_row_74 : decode cX12_row 74 = .ok (.iastore, 1) := by decide +kernel
theorem dX12_row_75 : decode cX12_row 75 = .ok (.iinc 4 1, 3) := by decide +kernel
theorem dX12_row_78 : decode cX12_row 78 = .ok (.goto (-23), 3) := by decide +kernel
theorem dX12_row_81 : decode cX12_row 81 = .ok (.iconst 0, 1) := by decide +kernel
theorem dX12_row_82 : decode cX12_row 82 = .ok (.ireturn, 1) := by decide +kernel
set_option maxRecDepth 20000 in
theorem ggX12_put_X12_wrongRow : GoodIn wsX12_put wsX12_wrongRow := goodIn_r _ [8, 9, 3, 10, 11, 7, 12, 13, 14, 15, 16, 17, 18, 19, 20, 21, 22, 23, 24, 25, 26, 27, 28, 29, 30, 31, 32, 33] (by decide +kernel) (by decide +kernel)
set_option maxRecDepth 20000 in
theorem gX12_put_X12_wrongRow : GoodIn wsX12_put (wsV RX12 138 RX12 yX12_wrongRow wsX12_wrongRow) := goodIn_app (goodIn_of _ (by decide +kernel)) ggX12_put_X12_wrongRow
set_option maxRecDepth 20000 in
theorem ggX12_put_X12_isIn : GoodIn wsX12_put wsX12_isIn := goodIn_r _ [15] (by decide +kernel) (by decide +kernel)
set_option maxRecDepth 20000 in
theorem gX12_put_X12_isIn : GoodIn wsX12_put (va_wsS RX12 46 yX12_isIn wsX12_isIn) := goodIn_app (goodIn_of _ (by decide +kernel)) ggX12_put_X12_isIn
theorem dX12_put_0 : decode cX12_put 0 = .ok (.aload_n 0, 1) := by decide +kernel
theorem dX12_put_1 : decode cX12_put 1 = .ok (.iload_n 1, 1) := by decide +kernel
theorem dX12_put_2 : decode cX12_put 2 = .ok (.iconst (-1), 1) := by decide +kernel
theorem dX12_put_3 : decode cX12_put 3 = .ok (.invokevirtual 138, 3) := by decide +kernel
theorem dX12_put_6 : decode cX12_put 6 = .ok (.istore 4, 2) := by decide +kernel
theorem dX12_put_8 : decode cX12_put 8 = .ok (.iload 4, 2) := by decide +kernel
theorem dX12_put_10 : decode cX12_put 10 = .ok (.ifCond .eq 6, 3) := by decide +kernel
theorem dX12_put_13 : decode cX12_put 13 = .ok (.iload 4, 2) := by decide +kernel
theorem dX12_put_15 : decode cX12_put 15 = .ok (.ireturn, 1) := by decide +kernel
theorem dX12_put_16 : decode cX12_put 16 = .ok (.iload_n 2, 1) := by decide +kernel
theorem dX12_put_17 : decode cX12_put 17 = .ok (.iconst 0, 1) := by decide +kernel
theorem dX12_put_18 : decode cX12_put 18 = .ok (.aload_n 0, 1) := by decide +kernel
theorem dX12_put_19 : decode cX12_put 19 = .ok (.getfield 40, 3) := by decide +kernel
theorem dX12_put_22 : decode cX12_put 22 = .ok (.iload_n 1, 1) := by decide +kernel
theorem dX12_put_23 : decode cX12_put 23 = .ok (.iaload, 1) := by decide +kernel
theorem dX12_put_24 : decode cX12_put 24 = .ok (.iconst 1, 1) := by decide +kernel
theorem dX12_put_25 : decode cX12_put 25 = .ok (.isub, 1) := by decide +kernel
theorem dX12_put_26 : decode cX12_put 26 = .ok (.invokestatic 46, 3) := by decide +kernel
theorem dX12_put_29 : decode cX12_put 29 = .ok (.ifCond .ne 6, 3) := by decide +kernel
theorem dX12_put_32 : decode cX12_put 32 = .ok (.bipush (-13), 2) := by decide +kernel
theorem dX12_put_34 : decode cX12_put 34 = .ok (.ireturn, 1) := by decide +kernel
theorem dX12_put_35 : decode cX12_put 35 = .ok (.aload_n 0, 1) := by decide +kernel
theorem dX12_put_36 : decode cX12_put 36 = .ok (.getfield 43, 3) := by decide +kernel
theorem dX12_put_39 : decode cX12_put 39 = .ok (.bipush 100, 2) := by decide +kernel
theorem dX12_put_41 : decode cX12_put 41 = .ok (.iload_n 1, 1) := by decide +kernel
theorem dX12_put_42 : decode cX12_put 42 = .ok (.imul, 1) := by decide +kernel
theorem dX12_put_43 : decode cX12_put 43 = .ok (.iload_n 2, 1) := by decide +kernel
theorem dX12_put_44 : decode cX12_put 44 = .ok (.iadd, 1) := by decide +kernel
theorem dX12_put_45 : decode cX12_put 45 = .ok (.aload_n 0, 1) := by decide +kernel
theorem dX12_put_46 : decode cX12_put 46 = .ok (.getfield 37, 3) := by decide +kernel
theorem dX12_put_49 : decode cX12_put 49 = .ok (.iload_n 1, 1) := by decide +kernel
theorem dX12_put_50 : decode cX12_put 50 = .ok (.iaload, 1) := by decide +kernel
theorem dX12_put_51 : decode cX12_put 51 = .ok (.ifCond .ne 8, 3) := by decide +kernel
theorem dX12_put_54 : decode cX12_put 54 = .ok (.iload_n 3, 1) := by decide +kernel
theorem dX12_put_55 : decode cX12_put 55 = .ok (.i2b, 1) := by decide +kernel
theorem dX12_put_56 : decode cX12_put 56 = .ok (.goto 19, 3) := by decide +kernel
theorem dX12_put_59 : decode cX12_put 59 = .ok (.aload_n 0, 1) := by decide +kernel
theorem dX12_put_60 : decode cX12_put 60 = .ok (.getfield 37, 3) := by decide +kernel
theorem dX12_put_63 : decode cX12_put 63 = .ok (.iload_n 1, 1) := by decide +kernel
theorem dX12_put_64 : decode cX12_put 64 = .ok (.iaload, 1) := by decide +kernel
theorem dX12_put_65 : decode cX12_put 65 = .ok (.iconst 1, 1) := by decide +kernel
theorem dX12_put_66 : decode cX12_put 66 = .ok (.if_icmp .ne 8, 3) := by decide +kernel
theorem dX12_put_69 : decode cX12_put 69 = .ok (.iload_n 3, 1) := by decide +kernel
theorem dX12_put_70 : decode cX12_put 70 = .ok (.i2s, 1) := by decide +kernel
theorem dX12_put_71 : decode cX12_put 71 = .ok (.goto 4, 3) := by decide +kernel
theorem dX12_put_74 : decode cX12_put 74 = .ok (.iload_n 3, 1) := by decide +kernel
theorem dX12_put_75 : decode cX12_put 75 = .ok (.iastore, 1) := by decide +kernel
theorem dX12_put_76 : decode cX12_put 76 = .ok (.iconst 0, 1) := by decide +kernel
theorem dX12_put_77 : decode cX12_put 77 = .ok (.ireturn, 1) := by decide +kernel
set_option maxRecDepth 20000 in
theorem ggX12_element_X12_isShelf : GoodIn wsX12_element wsX12_isShelf := goodIn_r _ [8, 9, 10, 7, 11] (by decide +kernel) (by decide +kernel)
set_option maxRecDepth 20000 in
theorem gX12_element_X12_isShelf : GoodIn wsX12_element (va_wsS RX12 245 yX12_isShelf wsX12_isShelf) := goodIn_app (goodIn_of _ (by decide +kernel)) ggX12_element_X12_isShelf
set_option maxRecDepth 20000 in
theorem ggX12_element_X12_isIn : GoodIn wsX12_element wsX12_isIn := goodIn_r _ [11] (by decide +kernel) (by decide +kernel)
set_option maxRecDepth 20000 in
theorem gX12_element_X12_isIn : GoodIn wsX12_element (va_wsS RX12 46 yX12_isIn wsX12_isIn) := goodIn_app (goodIn_of _ (by decide +kernel)) ggX12_element_X12_isIn
theorem dX12_element_0 : decode cX12_element 0 = .ok (.aload_n 0, 1) := by decide +kernel
theorem dX12_element_1 : decode cX12_element 1 = .ok (.iload_n 1, 1) := by decide +kernel
theorem dX12_element_2 : decode cX12_element 2 = .ok (.invokestatic 245, 3) := by decide +kernel
theorem dX12_element_5 : decode cX12_element 5 = .ok (.ifCond .ne 7, 3) := by decide +kernel
theorem dX12_element_8 : decode cX12_element 8 = .ok (.iconst 1, 1) := by decide +kernel
theorem dX12_element_9 : decode cX12_element 9 = .ok (.goto 34, 3) := by decide +kernel
theorem dX12_element_12 : decode cX12_element 12 = .ok (.aload_n 0, 1) := by decide +kernel
theorem dX12_element_13 : decode cX12_element 13 = .ok (.getfield 28, 3) := by decide +kernel
theorem dX12_element_16 : decode cX12_element 16 = .ok (.iload_n 1, 1) := by decide +kernel
theorem dX12_element_17 : decode cX12_element 17 = .ok (.iaload, 1) := by decide +kernel
theorem dX12_element_18 : decode cX12_element 18 = .ok (.iconst 2, 1) := by decide +kernel
theorem dX12_element_19 : decode cX12_element 19 = .ok (.if_icmp .ne 19, 3) := by decide +kernel
theorem dX12_element_22 : decode cX12_element 22 = .ok (.iload_n 2, 1) := by decide +kernel
theorem dX12_element_23 : decode cX12_element 23 = .ok (.iconst 0, 1) := by decide +kernel
theorem dX12_element_24 : decode cX12_element 24 = .ok (.aload_n 0, 1) := by decide +kernel
theorem dX12_element_25 : decode cX12_element 25 = .ok (.getfield 40, 3) := by decide +kernel
theorem dX12_element_28 : decode cX12_element 28 = .ok (.iload_n 1, 1) := by decide +kernel
theorem dX12_element_29 : decode cX12_element 29 = .ok (.iaload, 1) := by decide +kernel
theorem dX12_element_30 : decode cX12_element 30 = .ok (.iconst 1, 1) := by decide +kernel
theorem dX12_element_31 : decode cX12_element 31 = .ok (.isub, 1) := by decide +kernel
theorem dX12_element_32 : decode cX12_element 32 = .ok (.invokestatic 46, 3) := by decide +kernel
theorem dX12_element_35 : decode cX12_element 35 = .ok (.ifCond .ne 7, 3) := by decide +kernel
theorem dX12_element_38 : decode cX12_element 38 = .ok (.iconst 2, 1) := by decide +kernel
theorem dX12_element_39 : decode cX12_element 39 = .ok (.goto 4, 3) := by decide +kernel
theorem dX12_element_42 : decode cX12_element 42 = .ok (.iconst 0, 1) := by decide +kernel
theorem dX12_element_43 : decode cX12_element 43 = .ok (.putfield 242, 3) := by decide +kernel
theorem dX12_element_46 : decode cX12_element 46 = .ok (.aload_n 0, 1) := by decide +kernel
theorem dX12_element_47 : decode cX12_element 47 = .ok (.getfield 242, 3) := by decide +kernel
theorem dX12_element_50 : decode cX12_element 50 = .ok (.ifCond .ne 18, 3) := by decide +kernel
theorem dX12_element_53 : decode cX12_element 53 = .ok (.aload_n 0, 1) := by decide +kernel
theorem dX12_element_54 : decode cX12_element 54 = .ok (.getfield 43, 3) := by decide +kernel
theorem dX12_element_57 : decode cX12_element 57 = .ok (.bipush 100, 2) := by decide +kernel
theorem dX12_element_59 : decode cX12_element 59 = .ok (.iload_n 1, 1) := by decide +kernel
theorem dX12_element_60 : decode cX12_element 60 = .ok (.imul, 1) := by decide +kernel
theorem dX12_element_61 : decode cX12_element 61 = .ok (.iload_n 2, 1) := by decide +kernel
theorem dX12_element_62 : decode cX12_element 62 = .ok (.iadd, 1) := by decide +kernel
theorem dX12_element_63 : decode cX12_element 63 = .ok (.iaload, 1) := by decide +kernel
theorem dX12_element_64 : decode cX12_element 64 = .ok (.i2l, 1) := by decide +kernel
theorem dX12_element_65 : decode cX12_element 65 = .ok (.goto 4, 3) := by decide +kernel
theorem dX12_element_68 : decode cX12_element 68 = .ok (.lconst 0, 1) := by decide +kernel
theorem dX12_element_69 : decode cX12_element 69 = .ok (.lreturn, 1) := by decide +kernel
set_option maxRecDepth 20000 in
theorem ggX12_copy_X12_isShelf : GoodIn wsX12_copy wsX12_isShelf := goodIn_r _ [8, 9, 10, 7, 11] (by decide +kernel) (by decide +kernel)
set_option maxRecDepth 20000 in
theorem gX12_copy_X12_isShelf : GoodIn wsX12_copy (va_wsS RX12 245 yX12_isShelf wsX12_isShelf) := goodIn_app (goodIn_of _ (by decide +kernel)) ggX12_copy_X12_isShelf
theorem dX12_copy_0 : decode cX12_copy 0 = .ok (.iload_n 1, 1) := by decide +kernel
theorem dX12_copy_1 : decode cX12_copy 1 = .ok (.invokestatic 245, 3) := by decide +kernel
theorem dX12_copy_4 : decode cX12_copy 4 = .ok (.ifCond .eq 10, 3) := by decide +kernel
theorem dX12_copy_7 : decode cX12_copy 7 = .ok (.iload_n 3, 1) := by decide +kernel
theorem dX12_copy_8 : decode cX12_copy 8 = .ok (.invokestatic 245, 3) := by decide +kernel
theorem dX12_copy_11 : decode cX12_copy 11 = .ok (.ifCond .ne 5, 3) := by decide +kernel
theorem dX12_copy_14 : decode cX12_copy 14 = .ok (.iconst (-1), 1) := by decide +kernel
theorem dX12_copy_15 : decode cX12_copy 15 = .ok (.ireturn, 1) := by decide +kernel
theorem dX12_copy_16 : decode cX12_copy 16 = .ok (.aload_n 0, 1) := by decide +kernel
theorem dX12_copy_17 : decode cX12_copy 17 = .ok (.getfield 28, 3) := by decide +kernel
theorem dX12_copy_20 : decode cX12_copy 20 = .ok (.iload_n 1, 1) := by decide +kernel
theorem dX12_copy_21 : decode cX12_copy 21 = .ok (.iaload, 1) := by decide +kernel
theorem dX12_copy_22 : decode cX12_copy 22 = .ok (.ifCond .eq 12, 3) := by decide +kernel
theorem dX12_copy_25 : decode cX12_copy 25 = .ok (.aload_n 0, 1) := by decide +kernel
theorem dX12_copy_26 : decode cX12_copy 26 = .ok (.getfield 28, 3) := by decide +kernel
theorem dX12_copy_29 : decode cX12_copy 29 = .ok (.iload_n 3, 1) := by decide +kernel
theorem dX12_copy_30 : decode cX12_copy 30 = .ok (.iaload, 1) := by decide +kernel
theorem dX12_copy_31 : decode cX12_copy 31 = .ok (.ifCond .ne 6, 3) := by decide +kernel
theorem dX12_copy_34 : decode cX12_copy 34 = .ok (.bipush (-11), 2) := by decide +kernel
theorem dX12_copy_36 : decode cX12_copy 36 = .ok (.ireturn, 1) := by decide +kernel
theorem dX12_copy_37 : decode cX12_copy 37 = .ok (.aload_n 0, 1) := by decide +kernel
theorem dX12_copy_38 : decode cX12_copy 38 = .ok (.getfield 28, 3) := by decide +kernel
theorem dX12_copy_41 : decode cX12_copy 41 = .ok (.iload_n 1, 1) := by decide +kernel
theorem dX12_copy_42 : decode cX12_copy 42 = .ok (.iaload, 1) := by decide +kernel
theorem dX12_copy_43 : decode cX12_copy 43 = .ok (.iconst 2, 1) := by decide +kernel
theorem dX12_copy_44 : decode cX12_copy 44 = .ok (.if_icmp .ne 28, 3) := by decide +kernel
theorem dX12_copy_47 : decode cX12_copy 47 = .ok (.aload_n 0, 1) := by decide +kernel
theorem dX12_copy_48 : decode cX12_copy 48 = .ok (.getfield 28, 3) := by decide +kernel
theorem dX12_copy_51 : decode cX12_copy 51 = .ok (.iload_n 3, 1) := by decide +kernel
theorem dX12_copy_52 : decode cX12_copy 52 = .ok (.iaload, 1) := by decide +kernel
theorem dX12_copy_53 : decode cX12_copy 53 = .ok (.iconst 2, 1) := by decide +kernel
theorem dX12_copy_54 : decode cX12_copy 54 = .ok (.if_icmp .ne 18, 3) := by decide +kernel
theorem dX12_copy_57 : decode cX12_copy 57 = .ok (.aload_n 0, 1) := by decide +kernel
theorem dX12_copy_58 : decode cX12_copy 58 = .ok (.getfield 37, 3) := by decide +kernel
theorem dX12_copy_61 : decode cX12_copy 61 = .ok (.iload_n 1, 1) := by decide +kernel
theorem dX12_copy_62 : decode cX12_copy 62 = .ok (.iaload, 1) := by decide +kernel
theorem dX12_copy_63 : decode cX12_copy 63 = .ok (.aload_n 0, 1) := by decide +kernel
theorem dX12_copy_64 : decode cX12_copy 64 = .ok (.getfield 37, 3) := by decide +kernel
theorem dX12_copy_67 : decode cX12_copy 67 = .ok (.iload_n 3, 1) := by decide +kernel
theorem dX12_copy_68 : decode cX12_copy 68 = .ok (.iaload, 1) := by decide +kernel
theorem dX12_copy_69 : decode cX12_copy 69 = .ok (.if_icmp .eq 6, 3) := by decide +kernel
theorem dX12_copy_72 : decode cX12_copy 72 = .ok (.bipush (-12), 2) := by decide +kernel
theorem dX12_copy_74 : decode cX12_copy 74 = .ok (.ireturn, 1) := by decide +kernel
theorem dX12_copy_75 : decode cX12_copy 75 = .ok (.iload 5, 2) := by decide +kernel
theorem dX12_copy_77 : decode cX12_copy 77 = .ok (.ifCond .lt 39, 3) := by decide +kernel
theorem dX12_copy_80 : decode cX12_copy 80 = .ok (.iload_n 2, 1) := by decide +kernel
theorem dX12_copy_81 : decode cX12_copy 81 = .ok (.ifCond .lt 35, 3) := by decide +kernel
theorem dX12_copy_84 : decode cX12_copy 84 = .ok (.iload 4, 2) := by decide +kernel
theorem dX12_copy_86 : decode cX12_copy 86 = .ok (.ifCond .lt 30, 3) := by decide +kernel
theorem dX12_copy_89 : decode cX12_copy 89 = .ok (.iload 5, 2) := by decide +kernel
theorem dX12_copy_91 : decode cX12_copy 91 = .ok (.aload_n 0, 1) := by decide +kernel
theorem dX12_copy_92 : decode cX12_copy 92 = .ok (.getfield 40, 3) := by decide +kernel
theorem dX12_copy_95 : decode cX12_copy 95 = .ok (.iload_n 1, 1) := by decide +kernel
theorem dX12_copy_96 : decode cX12_copy 96 = .ok (.iaload, 1) := by decide +kernel
theorem dX12_copy_97 : decode cX12_copy 97 = .ok (.iload_n 2, 1) := by decide +kernel
theorem dX12_copy_98 : decode cX12_copy 98 = .ok (.isub, 1) := by decide +kernel
theorem dX12_copy_99 : decode cX12_copy 99 = .ok (.if_icmp .gt 17, 3) := by decide +kernel
theorem dX12_copy_102 : decode cX12_copy 102 = .ok (.iload 5, 2) := by decide +kernel
theorem dX12_copy_104 : decode cX12_copy 104 = .ok (.aload_n 0, 1) := by decide +kernel
theorem dX12_copy_105 : decode cX12_copy 105 = .ok (.getfield 40, 3) := by decide +kernel
theorem dX12_copy_108 : decode cX12_copy 108 = .ok (.iload_n 3, 1) := by decide +kernel
theorem dX12_copy_109 : decode cX12_copy 109 = .ok (.iaload, 1) := by decide +kernel
theorem dX12_copy_110 : decode cX12_copy 110 = .ok (.iload 4, 2) := by decide +kernel
theorem dX12_copy_112 : decode cX12_copy 112 = .ok (.isub, 1) := by decide +kernel
theorem dX12_copy_113 : decode cX12_copy 113 = .ok (.if_icmp .le 6, 3) := by decide +kernel
theorem dX12_copy_116 : decode cX12_copy 116 = .ok (.bipush (-13), 2) := by decide +kernel
theorem dX12_copy_118 : decode cX12_copy 118 = .ok (.ireturn, 1) := by decide +kernel
theorem dX12_copy_119 : decode cX12_copy 119 = .ok (.iconst 0, 1) := by decide +kernel
theorem dX12_copy_120 : decode cX12_copy 120 = .ok (.istore 6, 2) := by decide +kernel
theorem dX12_copy_122 : decode cX12_copy 122 = .ok (.iload 6, 2) := by decide +kernel
theorem dX12_copy_124 : decode cX12_copy 124 = .ok (.iload 5, 2) := by decide +kernel
theorem dX12_copy_126 : decode cX12_copy 126 = .ok (.if_icmp .ge 58, 3) := by decide +kernel
theorem dX12_copy_129 : decode cX12_copy 129 = .ok (.iload_n 2, 1) := by decide +kernel
theorem dX12_copy_130 : decode cX12_copy 130 = .ok (.iload 4, 2) := by decide +kernel
theorem dX12_copy_132 : decode cX12_copy 132 = .ok (.if_icmp .le 8, 3) := by decide +kernel
theorem dX12_copy_135 : decode cX12_copy 135 = .ok (.iload 6, 2) := by decide +kernel
theorem dX12_copy_137 : decode cX12_copy 137 = .ok (.goto 10, 3) := by decide +kernel
theorem dX12_copy_140 : decode cX12_copy 140 = .ok (.iload 5, 2) := by decide +kernel
theorem dX12_copy_142 : decode cX12_copy 142 = .ok (.iconst 1, 1) := by decide +kernel
theorem dX12_copy_143 : decode cX12_copy 143 = .ok (.isub, 1) := by decide +kernel
theorem dX12_copy_144 : decode cX12_copy 144 = .ok (.iload 6, 2) := by decide +kernel
theorem dX12_copy_146 : decode cX12_copy 146 = .ok (.isub, 1) := by decide +kernel
theorem dX12_copy_147 : decode cX12_copy 147 = .ok (.istore 7, 2) := by decide +kernel
theorem dX12_copy_149 : decode cX12_copy 149 = .ok (.aload_n 0, 1) := by decide +kernel
theorem dX12_copy_150 : decode cX12_copy 150 = .ok (.getfield 43, 3) := by decide +kernel
theorem dX12_copy_153 : decode cX12_copy 153 = .ok (.bipush 100, 2) := by decide +kernel
theorem dX12_copy_155 : decode cX12_copy 155 = .ok (.iload_n 3, 1) := by decide +kernel
theorem dX12_copy_156 : decode cX12_copy 156 = .ok (.imul, 1) := by decide +kernel
theorem dX12_copy_157 : decode cX12_copy 157 = .ok (.iload 4, 2) := by decide +kernel
theorem dX12_copy_159 : decode cX12_copy 159 = .ok (.iadd, 1) := by decide +kernel
theorem dX12_copy_160 : decode cX12_copy 160 = .ok (.iload 7, 2) := by decide +kernel
theorem dX12_copy_162 : decode cX12_copy 162 = .ok (.iadd, 1) := by decide +kernel
theorem dX12_copy_163 : decode cX12_copy 163 = .ok (.aload_n 0, 1) := by decide +kernel
theorem dX12_copy_164 : decode cX12_copy 164 = .ok (.getfield 43, 3) := by decide +kernel
theorem dX12_copy_167 : decode cX12_copy 167 = .ok (.bipush 100, 2) := by decide +kernel
theorem dX12_copy_169 : decode cX12_copy 169 = .ok (.iload_n 1, 1) := by decide +kernel
theorem dX12_copy_170 : decode cX12_copy 170 = .ok (.imul, 1) := by decide +kernel
theorem dX12_copy_171 : decode cX12_copy 171 = .ok (.iload_n 2, 1) := by decide +kernel
theorem dX12_copy_172 : decode cX12_copy 172 = .ok (.iadd, 1) := by decide +kernel
theorem dX12_copy_173 : decode cX12_copy 173 = .ok (.iload 7, 2) := by decide +kernel
theorem dX12_copy_175 : decode cX12_copy 175 = .ok (.iadd, 1) := by decide +kernel
theorem dX12_copy_176 : decode cX12_copy 176 = .ok (.iaload, 1) := by decide +kernel
theorem dX12_copy_177 : decode cX12_copy 177 = .ok (.iastore, 1) := by decide +kernel
theorem dX12_copy_178 : decode cX12_copy 178 = .ok (.iinc 6 1, 3) := by decide +kernel
theorem dX12_copy_181 : decode cX12_copy 181 = .ok (.goto (-59), 3) := by decide +kernel
theorem dX12_copy_184 : decode cX12_copy 184 = .ok (.iload 5, 2) := by decide +kernel
theorem dX12_copy_186 : decode cX12_copy 186 = .ok (.ireturn, 1) := by decide +kernel
theorem dX12_costBy_0 : decode cX12_costBy 0 = .ok (.iload_n 0, 1) := by decide +kernel
theorem dX12_costBy_1 : decode cX12_costBy 1 = .ok (.tableswitch 62 1 7 #[43, 47, 49, 51, 57, 51, 59], 43) := by decide +kernel
theorem dX12_costBy_44 : decode cX12_costBy 44 = .ok (.iconst 3, 1) := by decide +kernel
theorem dX12_costBy_45 : decode cX12_costBy 45 = .ok (.iload_n 1, 1) := by decide +kernel
theorem dX12_costBy_46 : decode cX12_costBy 46 = .ok (.iadd, 1) := by decide +kernel
theorem dX12_costBy_47 : decode cX12_costBy 47 = .ok (.ireturn, 1) := by decide +kernel
theorem dX12_costBy_48 : decode cX12_costBy 48 = .ok (.iconst 1, 1) := by decide +kernel
theorem dX12_costBy_49 : decode cX12_costBy 49 = .ok (.ireturn, 1) := by decide +kernel
theorem dX12_costBy_50 : decode cX12_costBy 50 = .ok (.iconst 2, 1) := by decide +kernel
theorem dX12_costBy_51 : decode cX12_costBy 51 = .ok (.ireturn, 1) := by decide +kernel
theorem dX12_costBy_52 : decode cX12_costBy 52 = .ok (.iconst 2, 1) := by decide +kernel
theorem dX12_costBy_53 : decode cX12_costBy 53 = .ok (.iconst 3, 1) := by decide +kernel
theorem dX12_costBy_54 : decode cX12_costBy 54 = .ok (.iload_n 1, 1) := by decide +kernel
theorem dX12_costBy_55 : decode cX12_costBy 55 = .ok (.iadd, 1) := by decide +kernel
theorem dX12_costBy_56 : decode cX12_costBy 56 = .ok (.imul, 1) := by decide +kernel
theorem dX12_costBy_57 : decode cX12_costBy 57 = .ok (.ireturn, 1) := by decide +kernel
theorem dX12_costBy_58 : decode cX12_costBy 58 = .ok (.iconst 0, 1) := by decide +kernel
theorem dX12_costBy_59 : decode cX12_costBy 59 = .ok (.ireturn, 1) := by decide +kernel
theorem dX12_costBy_60 : decode cX12_costBy 60 = .ok (.bipush 6, 2) := by decide +kernel
theorem dX12_costBy_62 : decode cX12_costBy 62 = .ok (.ireturn, 1) := by decide +kernel
theorem dX12_costBy_63 : decode cX12_costBy 63 = .ok (.iconst 3, 1) := by decide +kernel
theorem dX12_costBy_64 : decode cX12_costBy 64 = .ok (.ireturn, 1) := by decide +kernel
set_option maxRecDepth 20000 in
theorem ggX12_cost_X12_wrongKept : GoodIn wsX12_cost wsX12_wrongKept := goodIn_r _ [7, 8, 9, 10, 6, 11, 12, 13, 14, 18, 19, 20, 21, 22, 23, 24, 25, 26, 27, 28, 29, 30, 31, 32, 33, 34, 35] (by decide +kernel) (by decide +kernel)
set_option maxRecDepth 20000 in
theorem gX12_cost_X12_wrongKept : GoodIn wsX12_cost (wsV RX12 168 RX12 yX12_wrongKept wsX12_wrongKept) := goodIn_app (goodIn_of _ (by decide +kernel)) ggX12_cost_X12_wrongKept
set_option maxRecDepth 20000 in
theorem ggX12_cost_X12_costBy : GoodIn wsX12_cost wsX12_costBy := goodIn_r _ [17] (by decide +kernel) (by decide +kernel)
set_option maxRecDepth 20000 in
theorem gX12_cost_X12_costBy : GoodIn wsX12_cost (va_wsS RX12 248 yX12_costBy wsX12_costBy) := goodIn_app (goodIn_of _ (by decide +kernel)) ggX12_cost_X12_costBy
theorem dX12_cost_0 : decode cX12_cost 0 = .ok (.aload_n 0, 1) := by decide +kernel
theorem dX12_cost_1 : decode cX12_cost 1 = .ok (.iload_n 1, 1) := by decide +kernel
theorem dX12_cost_2 : decode cX12_cost 2 = .ok (.invokevirtual 168, 3) := by decide +kernel
theorem dX12_cost_5 : decode cX12_cost 5 = .ok (.istore_n 2, 1) := by decide +kernel
theorem dX12_cost_6 : decode cX12_cost 6 = .ok (.iload_n 2, 1) := by decide +kernel
theorem dX12_cost_7 : decode cX12_cost 7 = .ok (.ifCond .eq 7, 3) := by decide +kernel
theorem dX12_cost_10 : decode cX12_cost 10 = .ok (.iload_n 2, 1) := by decide +kernel
theorem dX12_cost_11 : decode cX12_cost 11 = .ok (.goto 18, 3) := by decide +kernel
theorem dX12_cost_14 : decode cX12_cost 14 = .ok (.aload_n 0, 1) := by decide +kernel
theorem dX12_cost_15 : decode cX12_cost 15 = .ok (.getfield 31, 3) := by decide +kernel
theorem dX12_cost_18 : decode cX12_cost 18 = .ok (.iload_n 1, 1) := by decide +kernel
theorem dX12_cost_19 : decode cX12_cost 19 = .ok (.iaload, 1) := by decide +kernel
theorem dX12_cost_20 : decode cX12_cost 20 = .ok (.aload_n 0, 1) := by decide +kernel
theorem dX12_cost_21 : decode cX12_cost 21 = .ok (.getfield 34, 3) := by decide +kernel
theorem dX12_cost_24 : decode cX12_cost 24 = .ok (.iload_n 1, 1) := by decide +kernel
theorem dX12_cost_25 : decode cX12_cost 25 = .ok (.iaload, 1) := by decide +kernel
theorem dX12_cost_26 : decode cX12_cost 26 = .ok (.invokestatic 248, 3) := by decide +kernel
theorem dX12_cost_29 : decode cX12_cost 29 = .ok (.ireturn, 1) := by decide +kernel
set_option maxRecDepth 20000 in
theorem ggX12_toss_X12_wrongKept : GoodIn wsX12_toss wsX12_wrongKept := goodIn_r _ [7, 8, 9, 10, 6, 11, 12, 13, 14, 18, 19, 20, 21, 22, 23, 24, 25, 26, 27, 28, 29, 30, 31, 32, 33, 34, 35] (by decide +kernel) (by decide +kernel)
set_option maxRecDepth 20000 in
theorem gX12_toss_X12_wrongKept : GoodIn wsX12_toss (wsV RX12 168 RX12 yX12_wrongKept wsX12_wrongKept) := goodIn_app (goodIn_of _ (by decide +kernel)) ggX12_toss_X12_wrongKept
set_option maxRecDepth 20000 in
theorem ggX12_toss_X12_costBy : GoodIn wsX12_toss wsX12_costBy := goodIn_r _ [17] (by decide +kernel) (by decide +kernel)
set_option maxRecDepth 20000 in
theorem gX12_toss_X12_costBy : GoodIn wsX12_toss (va_wsS RX12 248 yX12_costBy wsX12_costBy) := goodIn_app (goodIn_of _ (by decide +kernel)) ggX12_toss_X12_costBy
theorem dX12_toss_0 : decode cX12_toss 0 = .ok (.aload_n 0, 1) := by decide +kernel
theorem dX12_toss_1 : decode cX12_toss 1 = .ok (.iload_n 1, 1) := by decide +kernel
theorem dX12_toss_2 : decode cX12_toss 2 = .ok (.invokevirtual 168, 3) := by decide +kernel
theorem dX12_toss_5 : decode cX12_toss 5 = .ok (.istore_n 2, 1) := by decide +kernel
theorem dX12_toss_6 : decode cX12_toss 6 = .ok (.iload_n 2, 1) := by decide +kernel
theorem dX12_toss_7 : decode cX12_toss 7 = .ok (.ifCond .eq 5, 3) := by decide +kernel
theorem dX12_toss_10 : decode cX12_toss 10 = .ok (.iload_n 2, 1) := by decide +kernel
theorem dX12_toss_11 : decode cX12_toss 11 = .ok (.ireturn, 1) := by decide +kernel
theorem dX12_toss_12 : decode cX12_toss 12 = .ok (.aload_n 0, 1) := by decide +kernel
theorem dX12_toss_13 : decode cX12_toss 13 = .ok (.getfield 31, 3) := by decide +kernel
theorem dX12_toss_16 : decode cX12_toss 16 = .ok (.iload_n 1, 1) := by decide +kernel
theorem dX12_toss_17 : decode cX12_toss 17 = .ok (.iaload, 1) := by decide +kernel
theorem dX12_toss_18 : decode cX12_toss 18 = .ok (.istore_n 3, 1) := by decide +kernel
theorem dX12_toss_19 : decode cX12_toss 19 = .ok (.aload_n 0, 1) := by decide +kernel
theorem dX12_toss_20 : decode cX12_toss 20 = .ok (.getfield 34, 3) := by decide +kernel
theorem dX12_toss_23 : decode cX12_toss 23 = .ok (.iload_n 1, 1) := by decide +kernel
theorem dX12_toss_24 : decode cX12_toss 24 = .ok (.iaload, 1) := by decide +kernel
theorem dX12_toss_25 : decode cX12_toss 25 = .ok (.istore 4, 2) := by decide +kernel
theorem dX12_toss_27 : decode cX12_toss 27 = .ok (.iload_n 3, 1) := by decide +kernel
theorem dX12_toss_28 : decode cX12_toss 28 = .ok (.iconst 2, 1) := by decide +kernel
theorem dX12_toss_29 : decode cX12_toss 29 = .ok (.if_icmp .eq 13, 3) := by decide +kernel
theorem dX12_toss_32 : decode cX12_toss 32 = .ok (.iload_n 3, 1) := by decide +kernel
theorem dX12_toss_33 : decode cX12_toss 33 = .ok (.iconst 5, 1) := by decide +kernel
theorem dX12_toss_34 : decode cX12_toss 34 = .ok (.if_icmp .eq 8, 3) := by decide +kernel
theorem dX12_toss_37 : decode cX12_toss 37 = .ok (.iload 4, 2) := by decide +kernel
theorem dX12_toss_39 : decode cX12_toss 39 = .ok (.ifCond .ne 6, 3) := by decide +kernel
theorem dX12_toss_42 : decode cX12_toss 42 = .ok (.bipush (-15), 2) := by decide +kernel
theorem dX12_toss_44 : decode cX12_toss 44 = .ok (.ireturn, 1) := by decide +kernel
theorem dX12_toss_45 : decode cX12_toss 45 = .ok (.iload_n 3, 1) := by decide +kernel
theorem dX12_toss_46 : decode cX12_toss 46 = .ok (.bipush 6, 2) := by decide +kernel
theorem dX12_toss_48 : decode cX12_toss 48 = .ok (.if_icmp .ne 16, 3) := by decide +kernel
theorem dX12_toss_51 : decode cX12_toss 51 = .ok (.sipush 200, 3) := by decide +kernel
theorem dX12_toss_54 : decode cX12_toss 54 = .ok (.iload_n 3, 1) := by decide +kernel
theorem dX12_toss_55 : decode cX12_toss 55 = .ok (.iload 4, 2) := by decide +kernel
theorem dX12_toss_57 : decode cX12_toss 57 = .ok (.invokestatic 248, 3) := by decide +kernel
theorem dX12_toss_60 : decode cX12_toss 60 = .ok (.iadd, 1) := by decide +kernel
theorem dX12_toss_61 : decode cX12_toss 61 = .ok (.goto 23, 3) := by decide +kernel
theorem dX12_toss_64 : decode cX12_toss 64 = .ok (.iload_n 3, 1) := by decide +kernel
theorem dX12_toss_65 : decode cX12_toss 65 = .ok (.iconst 1, 1) := by decide +kernel
theorem dX12_toss_66 : decode cX12_toss 66 = .ok (.if_icmp .eq 8, 3) := by decide +kernel
theorem dX12_toss_69 : decode cX12_toss 69 = .ok (.iload_n 3, 1) := by decide +kernel
theorem dX12_toss_70 : decode cX12_toss 70 = .ok (.iconst 4, 1) := by decide +kernel
theorem dX12_toss_71 : decode cX12_toss 71 = .ok (.if_icmp .ne 11, 3) := by decide +kernel
theorem dX12_toss_74 : decode cX12_toss 74 = .ok (.bipush 100, 2) := by decide +kernel
theorem dX12_toss_76 : decode cX12_toss 76 = .ok (.iload 4, 2) := by decide +kernel
theorem dX12_toss_78 : decode cX12_toss 78 = .ok (.iadd, 1) := by decide +kernel
theorem dX12_toss_79 : decode cX12_toss 79 = .ok (.goto 5, 3) := by decide +kernel
theorem dX12_toss_82 : decode cX12_toss 82 = .ok (.iload 4, 2) := by decide +kernel
theorem dX12_toss_84 : decode cX12_toss 84 = .ok (.ireturn, 1) := by decide +kernel
