set_option maxRecDepth 20000 in
theorem ggX11_init_X4_init : GoodIn wsX11_init wsX4_init := goodIn_r _ [43, 44, 2, 3] (by decide +kernel) (by decide +kernel)
set_option maxRecDepth 20000 in
theorem gX11_init_X4_init_n9 : GoodIn wsX11_init (wsX4_init) := ggX11_init_X4_init
set_option maxRecDepth 20000 in
theorem ggX11_init_X0_init : GoodIn wsX11_init wsX0_init := goodIn_r _ [46, 42, 6, 43, 44, 2, 3] (by decide +kernel) (by decide +kernel)
set_option maxRecDepth 20000 in
theorem gX11_init_X0_init_n12 : GoodIn wsX11_init (wsX0_init) := ggX11_init_X0_init
set_option maxRecDepth 20000 in
theorem ggX11_init_X7_init : GoodIn wsX11_init wsX7_init := goodIn_r _ [48, 42, 6, 43, 44, 2, 3] (by decide +kernel) (by decide +kernel)
set_option maxRecDepth 20000 in
theorem gX11_init_X7_init_n15 : GoodIn wsX11_init (wsX7_init) := ggX11_init_X7_init
set_option maxRecDepth 20000 in
theorem ggX11_init_X3_init : GoodIn wsX11_init wsX3_init := goodIn_r _ [50, 42, 6, 43, 44, 2, 3] (by decide +kernel) (by decide +kernel)
set_option maxRecDepth 20000 in
theorem gX11_init_X3_init_n18 : GoodIn wsX11_init (wsX3_init) := ggX11_init_X3_init
set_option maxRecDepth 20000 in
theorem ggX11_init_X1_init : GoodIn wsX11_init wsX1_init := goodIn_r _ [52, 45, 9, 46, 42, 6, 43, 44, 2, 3] (by decide +kernel) (by decide +kernel)
set_option maxRecDepth 20000 in
theorem gX11_init_X1_init_n21 : GoodIn wsX11_init (wsX1_init) := ggX11_init_X1_init
set_option maxRecDepth 20000 in
theorem ggX11_init_X8_init : GoodIn wsX11_init wsX8_init := goodIn_r _ [54, 47, 12, 48, 42, 6, 43, 44, 2, 3] (by decide +kernel) (by decide +kernel)
set_option maxRecDepth 20000 in
theorem gX11_init_X8_init_n24 : GoodIn wsX11_init (wsX8_init) := ggX11_init_X8_init
set_option maxRecDepth 20000 in
theorem ggX11_init_X10_init : GoodIn wsX11_init wsX10_init := goodIn_r _ [56, 51, 18, 52, 45, 9, 46, 42, 6, 43, 44, 2, 3] (by decide +kernel) (by decide +kernel)
set_option maxRecDepth 20000 in
theorem gX11_init_X10_init_n27 : GoodIn wsX11_init (wsX10_init) := ggX11_init_X10_init
set_option maxRecDepth 20000 in
theorem ggX11_init_X6_init : GoodIn wsX11_init wsX6_init := goodIn_r _ [58, 49, 15, 50, 42, 6, 43, 44, 2, 3] (by decide +kernel) (by decide +kernel)
set_option maxRecDepth 20000 in
theorem gX11_init_X6_init_n30 : GoodIn wsX11_init (wsX6_init) := ggX11_init_X6_init
set_option maxRecDepth 20000 in
theorem ggX11_init_X2_init : GoodIn wsX11_init wsX2_init := goodIn_r _ [61, 62, 2, 3, 63, 64, 65, 66, 67, 68, 84, 85, 86, 87, 88, 89, 90, 91, 92, 93, 94, 95] (by decide +kernel) (by decide +kernel)
set_option maxRecDepth 20000 in
theorem gX11_init_X2_init : GoodIn wsX11_init (wsX2_init) := ggX11_init_X2_init
set_option maxRecDepth 20000 in
theorem ggX11_init_X5_init : GoodIn wsX11_init wsX5_init := goodIn_r _ [71, 72, 2, 3, 63, 73, 74, 75, 76, 77, 102, 103, 104, 105, 106] (by decide +kernel) (by decide +kernel)
set_option maxRecDepth 20000 in
theorem gX11_init_X5_init : GoodIn wsX11_init (wsX5_init) := ggX11_init_X5_init
set_option maxRecDepth 20000 in
theorem ggX11_init_X9_init : GoodIn wsX11_init wsX9_init := goodIn_r _ [80, 81, 2, 3, 63, 82, 83, 107, 108, 109, 110, 111, 112, 113] (by decide +kernel) (by decide +kernel)
set_option maxRecDepth 20000 in
theorem gX11_init_X9_init : GoodIn wsX11_init (wsX9_init) := ggX11_init_X9_init
theorem dX11_init_0 : decode cX11_init 0 = .ok (.aload_n 0, 1) := by decide +kernel
theorem dX11_init_1 : decode cX11_init 1 = .ok (.invokespecial 1, 3) := by decide +kernel
theorem dX11_init_4 : decode cX11_init 4 = .ok (.bipush 8, 2) := by decide +kernel
theorem dX11_init_6 : decode cX11_init 6 = .ok (.anewarray 7, 3) := by decide +kernel
theorem dX11_init_9 : decode cX11_init 9 = .ok (.dup, 1) := by decide +kernel
theorem dX11_init_10 : decode cX11_init 10 = .ok (.iconst 0, 1) := by decide +kernel
theorem dX11_init_11 : decode cX11_init 11 = .ok (.new 7, 3) := by decide +kernel
theorem dX11_init_14 : decode cX11_init 14 = .ok (.dup, 1) := by decide +kernel
theorem dX11_init_15 : decode cX11_init 15 = .ok (.invokespecial 9, 3) := by decide +kernel
theorem dX11_init_18 : decode cX11_init 18 = .ok (.aastore, 1) := by decide +kernel
theorem dX11_init_19 : decode cX11_init 19 = .ok (.dup, 1) := by decide +kernel
theorem dX11_init_20 : decode cX11_init 20 = .ok (.iconst 1, 1) := by decide +kernel
theorem dX11_init_21 : decode cX11_init 21 = .ok (.new 10, 3) := by decide +kernel
theorem dX11_init_24 : decode cX11_init 24 = .ok (.dup, 1) := by decide +kernel
theorem dX11_init_25 : decode cX11_init 25 = .ok (.invokespecial 12, 3) := by decide +kernel
theorem dX11_init_28 : decode cX11_init 28 = .ok (.aastore, 1) := by decide +kernel
theorem dX11_init_29 : decode cX11_init 29 = .ok (.dup, 1) := by decide +kernel
theorem dX11_init_30 : decode cX11_init 30 = .ok (.iconst 2, 1) := by decide +kernel
theorem dX11_init_31 : decode cX11_init 31 = .ok (.new 13, 3) := by decide +kernel
theorem dX11_init_34 : decode cX11_init 34 = .ok (.dup, 1) := by decide +kernel
theorem dX11_init_35 : decode cX11_init 35 = .ok (.invokespecial 15, 3) := by decide +kernel
theorem dX11_init_38 : decode cX11_init 38 = .ok (.aastore, 1) := by decide +kernel
theorem dX11_init_39 : decode cX11_init 39 = .ok (.dup, 1) := by decide +kernel
theorem dX11_init_40 : decode cX11_init 40 = .ok (.iconst 3, 1) := by decide +kernel
theorem dX11_init_41 : decode cX11_init 41 = .ok (.new 16, 3) := by decide +kernel
theorem dX11_init_44 : decode cX11_init 44 = .ok (.dup, 1) := by decide +kernel
theorem dX11_init_45 : decode cX11_init 45 = .ok (.invokespecial 18, 3) := by decide +kernel
theorem dX11_init_48 : decode cX11_init 48 = .ok (.aastore, 1) := by decide +kernel
theorem dX11_init_49 : decode cX11_init 49 = .ok (.dup, 1) := by decide +kernel
theorem dX11_init_50 : decode cX11_init 50 = .ok (.iconst 4, 1) := by decide +kernel
theorem dX11_init_51 : decode cX11_init 51 = .ok (.new 19, 3) := by decide +kernel
theorem dX11_init_54 : decode cX11_init 54 = .ok (.dup, 1) := by decide +kernel
theorem dX11_init_55 : decode cX11_init 55 = .ok (.invokespecial 21, 3) := by decide +kernel
theorem dX11_init_58 : decode cX11_init 58 = .ok (.aastore, 1) := by decide +kernel
theorem dX11_init_59 : decode cX11_init 59 = .ok (.dup, 1) := by decide +kernel
theorem dX11_init_60 : decode cX11_init 60 = .ok (.iconst 5, 1) := by decide +kernel
theorem dX11_init_61 : decode cX11_init 61 = .ok (.new 22, 3) := by decide +kernel
theorem dX11_init_64 : decode cX11_init 64 = .ok (.dup, 1) := by decide +kernel
theorem dX11_init_65 : decode cX11_init 65 = .ok (.invokespecial 24, 3) := by decide +kernel
theorem dX11_init_68 : decode cX11_init 68 = .ok (.aastore, 1) := by decide +kernel
theorem dX11_init_69 : decode cX11_init 69 = .ok (.dup, 1) := by decide +kernel
theorem dX11_init_70 : decode cX11_init 70 = .ok (.bipush 6, 2) := by decide +kernel
theorem dX11_init_72 : decode cX11_init 72 = .ok (.new 25, 3) := by decide +kernel
theorem dX11_init_75 : decode cX11_init 75 = .ok (.dup, 1) := by decide +kernel
theorem dX11_init_76 : decode cX11_init 76 = .ok (.invokespecial 27, 3) := by decide +kernel
theorem dX11_init_79 : decode cX11_init 79 = .ok (.aastore, 1) := by decide +kernel
theorem dX11_init_80 : decode cX11_init 80 = .ok (.dup, 1) := by decide +kernel
theorem dX11_init_81 : decode cX11_init 81 = .ok (.bipush 7, 2) := by decide +kernel
theorem dX11_init_83 : decode cX11_init 83 = .ok (.new 28, 3) := by decide +kernel
theorem dX11_init_86 : decode cX11_init 86 = .ok (.dup, 1) := by decide +kernel
theorem dX11_init_87 : decode cX11_init 87 = .ok (.invokespecial 30, 3) := by decide +kernel
theorem dX11_init_90 : decode cX11_init 90 = .ok (.aastore, 1) := by decide +kernel
theorem dX11_init_91 : decode cX11_init 91 = .ok (.astore_n 1, 1) := by decide +kernel
theorem dX11_init_92 : decode cX11_init 92 = .ok (.aload_n 0, 1) := by decide +kernel
theorem dX11_init_93 : decode cX11_init 93 = .ok (.new 31, 3) := by decide +kernel
theorem dX11_init_96 : decode cX11_init 96 = .ok (.dup, 1) := by decide +kernel
theorem dX11_init_97 : decode cX11_init 97 = .ok (.aload_n 1, 1) := by decide +kernel
theorem dX11_init_98 : decode cX11_init 98 = .ok (.invokespecial 33, 3) := by decide +kernel
theorem dX11_init_101 : decode cX11_init 101 = .ok (.putfield 36, 3) := by decide +kernel
theorem dX11_init_104 : decode cX11_init 104 = .ok (.aload_n 0, 1) := by decide +kernel
theorem dX11_init_105 : decode cX11_init 105 = .ok (.new 31, 3) := by decide +kernel
theorem dX11_init_108 : decode cX11_init 108 = .ok (.dup, 1) := by decide +kernel
theorem dX11_init_109 : decode cX11_init 109 = .ok (.aload_n 1, 1) := by decide +kernel
theorem dX11_init_110 : decode cX11_init 110 = .ok (.invokespecial 33, 3) := by decide +kernel
theorem dX11_init_113 : decode cX11_init 113 = .ok (.putfield 42, 3) := by decide +kernel
theorem dX11_init_116 : decode cX11_init 116 = .ok (.aload_n 0, 1) := by decide +kernel
theorem dX11_init_117 : decode cX11_init 117 = .ok (.new 31, 3) := by decide +kernel
theorem dX11_init_120 : decode cX11_init 120 = .ok (.dup, 1) := by decide +kernel
theorem dX11_init_121 : decode cX11_init 121 = .ok (.aload_n 1, 1) := by decide +kernel
theorem dX11_init_122 : decode cX11_init 122 = .ok (.invokespecial 33, 3) := by decide +kernel
theorem dX11_init_125 : decode cX11_init 125 = .ok (.putfield 45, 3) := by decide +kernel
theorem dX11_init_128 : decode cX11_init 128 = .ok (.aload_n 0, 1) := by decide +kernel
theorem dX11_init_129 : decode cX11_init 129 = .ok (.new 48, 3) := by decide +kernel
theorem dX11_init_132 : decode cX11_init 132 = .ok (.dup, 1) := by decide +kernel
theorem dX11_init_133 : decode cX11_init 133 = .ok (.aload_n 0, 1) := by decide +kernel
theorem dX11_init_134 : decode cX11_init 134 = .ok (.getfield 36, 3) := by decide +kernel
theorem dX11_init_137 : decode cX11_init 137 = .ok (.new 31, 3) := by decide +kernel
theorem dX11_init_140 : decode cX11_init 140 = .ok (.dup, 1) := by decide +kernel
theorem dX11_init_141 : decode cX11_init 141 = .ok (.aload_n 1, 1) := by decide +kernel
theorem dX11_init_142 : decode cX11_init 142 = .ok (.invokespecial 33, 3) := by decide +kernel
theorem dX11_init_145 : decode cX11_init 145 = .ok (.invokespecial 50, 3) := by decide +kernel
theorem dX11_init_148 : decode cX11_init 148 = .ok (.putfield 53, 3) := by decide +kernel
theorem dX11_init_151 : decode cX11_init 151 = .ok (.aload_n 0, 1) := by decide +kernel
theorem dX11_init_152 : decode cX11_init 152 = .ok (.bipush 8, 2) := by decide +kernel
theorem dX11_init_154 : decode cX11_init 154 = .ok (.anewarray 57, 3) := by decide +kernel
theorem dX11_init_157 : decode cX11_init 157 = .ok (.putfield 59, 3) := by decide +kernel
theorem dX11_init_160 : decode cX11_init 160 = .ok (.iconst 0, 1) := by decide +kernel
theorem dX11_init_161 : decode cX11_init 161 = .ok (.istore_n 2, 1) := by decide +kernel
theorem dX11_init_162 : decode cX11_init 162 = .ok (.iload_n 2, 1) := by decide +kernel
theorem dX11_init_163 : decode cX11_init 163 = .ok (.bipush 8, 2) := by decide +kernel
theorem dX11_init_165 : decode cX11_init 165 = .ok (.if_icmp .ge 23, 3) := by decide +kernel
theorem dX11_init_168 : decode cX11_init 168 = .ok (.aload_n 0, 1) := by decide +kernel
theorem dX11_init_169 : decode cX11_init 169 = .ok (.getfield 59, 3) := by decide +kernel
theorem dX11_init_172 : decode cX11_init 172 = .ok (.iload_n 2, 1) := by decide +kernel
theorem dX11_init_173 : decode cX11_init 173 = .ok (.new 57, 3) := by decide +kernel
theorem dX11_init_176 : decode cX11_init 176 = .ok (.dup, 1) := by decide +kernel
theorem dX11_init_177 : decode cX11_init 177 = .ok (.aload_n 1, 1) := by decide +kernel
theorem dX11_init_178 : decode cX11_init 178 = .ok (.invokespecial 63, 3) := by decide +kernel
theorem dX11_init_181 : decode cX11_init 181 = .ok (.aastore, 1) := by decide +kernel
theorem dX11_init_182 : decode cX11_init 182 = .ok (.iinc 2 1, 3) := by decide +kernel
theorem dX11_init_185 : decode cX11_init 185 = .ok (.goto (-23), 3) := by decide +kernel
theorem dX11_init_188 : decode cX11_init 188 = .ok (.return_, 1) := by decide +kernel
set_option maxRecDepth 20000 in
theorem ggX11_city_X11_refusalOfRow : GoodIn wsX11_city wsX11_refusalOfRow := goodIn_r _ [10, 1, 11, 12, 9, 13, 14, 15, 16, 17, 18, 19, 20, 21, 22, 23, 24, 25, 26, 243, 244, 245, 246, 247, 248, 249, 250, 251, 252, 253, 254, 255] (by decide +kernel) (by decide +kernel)
set_option maxRecDepth 20000 in
theorem gX11_city_X11_refusalOfRow : GoodIn wsX11_city (wsV RX11 64 RX11 yX11_refusalOfRow wsX11_refusalOfRow) := goodIn_app (goodIn_of _ (by decide +kernel)) ggX11_city_X11_refusalOfRow
set_option maxRecDepth 20000 in
theorem ggX11_city_X9_isText : GoodIn wsX11_city wsX9_isText := goodIn_r _ [30, 31, 249, 250, 251, 252, 253, 254, 255] (by decide +kernel) (by decide +kernel)
set_option maxRecDepth 20000 in
theorem gX11_city_X9_isText : GoodIn wsX11_city (wsV RX11 68 RX9 yX9_isText wsX9_isText) := goodIn_app (goodIn_of _ (by decide +kernel)) ggX11_city_X9_isText
set_option maxRecDepth 20000 in
theorem ggX11_city_X9_faultOfForm : GoodIn wsX11_city wsX9_faultOfForm := goodIn_r _ [35, 36, 37, 38, 39, 40, 20, 41, 42, 43, 44, 45, 46, 47, 48, 49, 50, 51, 15, 9, 16, 249, 250, 251, 252, 253, 254, 255] (by decide +kernel) (by decide +kernel)
set_option maxRecDepth 20000 in
theorem gX11_city_X9_faultOfForm : GoodIn wsX11_city (wsV RX11 72 RX9 yX9_faultOfForm wsX9_faultOfForm) := goodIn_app (goodIn_of _ (by decide +kernel)) ggX11_city_X9_faultOfForm
set_option maxRecDepth 20000 in
theorem ggX11_city_X2_becomes : GoodIn wsX11_city wsX2_becomes := goodIn_r _ [56, 57, 58, 59, 60, 61, 62, 63, 64, 65, 66, 67, 68, 69, 256, 257, 258, 259, 260, 261, 262, 263, 264, 265, 266, 267] (by decide +kernel) (by decide +kernel)
set_option maxRecDepth 20000 in
theorem gX11_city_X2_becomes : GoodIn wsX11_city (wsV RX11 76 RX2 yX2_becomes wsX2_becomes) := goodIn_app (goodIn_of _ (by decide +kernel)) ggX11_city_X2_becomes
set_option maxRecDepth 20000 in
theorem ggX11_city_X2_takesStatement : GoodIn wsX11_city wsX2_takesStatement := goodIn_r _ [73, 74, 75, 76, 77, 55, 78, 79, 80, 81, 20, 82, 36, 42, 43, 44, 45, 37, 83, 84, 85, 86, 87, 88, 89, 90, 91, 64, 57, 62, 63, 92, 93, 94, 95, 96, 97, 98, 99, 100, 101, 102, 103, 104, 105, 106, 107, 65, 108, 109, 110, 111, 67, 66, 112, 113, 114, 115, 69, 15, 9, 16, 116, 117, 118, 119, 120, 121, 122, 123, 124, 125, 126, 127, 128, 129, 130, 131, 132, 68, 133, 134, 135, 136, 137, 138, 139, 140, 141, 142, 143, 144, 145, 146, 147, 148, 149, 150, 151, 152, 153, 154, 155, 156, 157, 158, 159, 160, 161, 162, 163, 164, 165, 166, 167, 168, 169, 170, 171, 172, 173, 174, 175, 176, 177, 178, 179, 180, 181, 182, 183, 184, 185, 186, 187, 188, 189, 190, 191, 192, 193, 194, 195, 196, 197, 198, 199, 200, 201, 202, 203, 204, 205, 206, 207, 208, 209, 210, 211, 212, 213, 214, 215, 216, 217, 218, 219, 220, 221, 222, 223, 224, 225, 226, 227, 228, 229, 230, 231, 232, 233, 234, 235, 236, 237, 238, 239, 240, 241, 249, 250, 251, 252, 253, 254, 255, 256, 257, 258, 259, 260, 261, 262, 263, 264, 265, 266, 267] (by decide +kernel) (by decide +kernel)
set_option maxRecDepth 20000 in
theorem gX11_city_X2_takesStatement : GoodIn wsX11_city (wsV RX11 84 RX2 yX2_takesStatement wsX2_takesStatement) := goodIn_app (goodIn_of _ (by decide +kernel)) ggX11_city_X2_takesStatement
set_option maxRecDepth 20000 in
theorem ggX11_city_X9_lengthBy : GoodIn wsX11_city wsX9_lengthBy := goodIn_r _ [51, 46, 47, 20, 48] (by decide +kernel) (by decide +kernel)
set_option maxRecDepth 20000 in
theorem gX11_city_X9_lengthBy : GoodIn wsX11_city (va_wsS RX11 92 yX9_lengthBy wsX9_lengthBy) := goodIn_app (goodIn_of _ (by decide +kernel)) ggX11_city_X9_lengthBy
theorem dX11_city_0 : decode cX11_city 0 = .ok (.aload_n 0, 1) := by decide +kernel
theorem dX11_city_1 : decode cX11_city 1 = .ok (.iload_n 1, 1) := by decide +kernel
theorem dX11_city_2 : decode cX11_city 2 = .ok (.invokevirtual 64, 3) := by decide +kernel
theorem dX11_city_5 : decode cX11_city 5 = .ok (.istore_n 2, 1) := by decide +kernel
theorem dX11_city_6 : decode cX11_city 6 = .ok (.iload_n 2, 1) := by decide +kernel
theorem dX11_city_7 : decode cX11_city 7 = .ok (.ifCond .eq 5, 3) := by decide +kernel
theorem dX11_city_10 : decode cX11_city 10 = .ok (.iload_n 2, 1) := by decide +kernel
theorem dX11_city_11 : decode cX11_city 11 = .ok (.ireturn, 1) := by decide +kernel
theorem dX11_city_12 : decode cX11_city 12 = .ok (.aload_n 0, 1) := by decide +kernel
theorem dX11_city_13 : decode cX11_city 13 = .ok (.getfield 59, 3) := by decide +kernel
theorem dX11_city_16 : decode cX11_city 16 = .ok (.iload_n 1, 1) := by decide +kernel
theorem dX11_city_17 : decode cX11_city 17 = .ok (.aaload, 1) := by decide +kernel
theorem dX11_city_18 : decode cX11_city 18 = .ok (.astore_n 3, 1) := by decide +kernel
theorem dX11_city_19 : decode cX11_city 19 = .ok (.aload_n 3, 1) := by decide +kernel
theorem dX11_city_20 : decode cX11_city 20 = .ok (.invokevirtual 68, 3) := by decide +kernel
theorem dX11_city_23 : decode cX11_city 23 = .ok (.ifCond .ne 6, 3) := by decide +kernel
theorem dX11_city_26 : decode cX11_city 26 = .ok (.bipush (-12), 2) := by decide +kernel
theorem dX11_city_28 : decode cX11_city 28 = .ok (.ireturn, 1) := by decide +kernel
theorem dX11_city_29 : decode cX11_city 29 = .ok (.aload_n 3, 1) := by decide +kernel
theorem dX11_city_30 : decode cX11_city 30 = .ok (.invokevirtual 72, 3) := by decide +kernel
theorem dX11_city_33 : decode cX11_city 33 = .ok (.istore 4, 2) := by decide +kernel
theorem dX11_city_35 : decode cX11_city 35 = .ok (.iload 4, 2) := by decide +kernel
theorem dX11_city_37 : decode cX11_city 37 = .ok (.ifCond .lt 10, 3) := by decide +kernel
theorem dX11_city_40 : decode cX11_city 40 = .ok (.sipush (-1000), 3) := by decide +kernel
theorem dX11_city_43 : decode cX11_city 43 = .ok (.iload 4, 2) := by decide +kernel
theorem dX11_city_45 : decode cX11_city 45 = .ok (.isub, 1) := by decide +kernel
theorem dX11_city_46 : decode cX11_city 46 = .ok (.ireturn, 1) := by decide +kernel
theorem dX11_city_47 : decode cX11_city 47 = .ok (.aload_n 0, 1) := by decide +kernel
theorem dX11_city_48 : decode cX11_city 48 = .ok (.getfield 45, 3) := by decide +kernel
theorem dX11_city_51 : decode cX11_city 51 = .ok (.aload_n 0, 1) := by decide +kernel
theorem dX11_city_52 : decode cX11_city 52 = .ok (.getfield 36, 3) := by decide +kernel
theorem dX11_city_55 : decode cX11_city 55 = .ok (.invokevirtual 76, 3) := by decide +kernel
theorem dX11_city_58 : decode cX11_city 58 = .ok (.iconst 0, 1) := by decide +kernel
theorem dX11_city_59 : decode cX11_city 59 = .ok (.istore 5, 2) := by decide +kernel
theorem dX11_city_61 : decode cX11_city 61 = .ok (.iconst 0, 1) := by decide +kernel
theorem dX11_city_62 : decode cX11_city 62 = .ok (.istore 6, 2) := by decide +kernel
theorem dX11_city_64 : decode cX11_city 64 = .ok (.iload 6, 2) := by decide +kernel
theorem dX11_city_66 : decode cX11_city 66 = .ok (.aload_n 3, 1) := by decide +kernel
theorem dX11_city_67 : decode cX11_city 67 = .ok (.getfield 80, 3) := by decide +kernel
theorem dX11_city_70 : decode cX11_city 70 = .ok (.if_icmp .ge 44, 3) := by decide +kernel
theorem dX11_city_73 : decode cX11_city 73 = .ok (.aload_n 0, 1) := by decide +kernel
theorem dX11_city_74 : decode cX11_city 74 = .ok (.getfield 45, 3) := by decide +kernel
theorem dX11_city_77 : decode cX11_city 77 = .ok (.aload_n 3, 1) := by decide +kernel
theorem dX11_city_78 : decode cX11_city 78 = .ok (.iload 6, 2) := by decide +kernel
theorem dX11_city_80 : decode cX11_city 80 = .ok (.invokevirtual 84, 3) := by decide +kernel
theorem dX11_city_83 : decode cX11_city 83 = .ok (.ifCond .ne 10, 3) := by decide +kernel
theorem dX11_city_86 : decode cX11_city 86 = .ok (.sipush (-2000), 3) := by decide +kernel
theorem dX11_city_89 : decode cX11_city 89 = .ok (.iload 6, 2) := by decide +kernel
theorem dX11_city_91 : decode cX11_city 91 = .ok (.isub, 1) := by decide +kernel
theorem dX11_city_92 : decode cX11_city 92 = .ok (.ireturn, 1) := by decide +kernel
theorem dX11_city_93 : decode cX11_city 93 = .ok (.iinc 5 1, 3) := by decide +kernel
theorem dX11_city_96 : decode cX11_city 96 = .ok (.iload 6, 2) := by decide +kernel
theorem dX11_city_98 : decode cX11_city 98 = .ok (.aload_n 3, 1) := by decide +kernel
theorem dX11_city_99 : decode cX11_city 99 = .ok (.getfield 88, 3) := by decide +kernel
theorem dX11_city_102 : decode cX11_city 102 = .ok (.iload 6, 2) := by decide +kernel
theorem dX11_city_104 : decode cX11_city 104 = .ok (.iaload, 1) := by decide +kernel
theorem dX11_city_105 : decode cX11_city 105 = .ok (.invokestatic 92, 3) := by decide +kernel
theorem dX11_city_108 : decode cX11_city 108 = .ok (.iadd, 1) := by decide +kernel
theorem dX11_city_109 : decode cX11_city 109 = .ok (.istore 6, 2) := by decide +kernel
theorem dX11_city_111 : decode cX11_city 111 = .ok (.goto (-47), 3) := by decide +kernel
theorem dX11_city_114 : decode cX11_city 114 = .ok (.aload_n 0, 1) := by decide +kernel
theorem dX11_city_115 : decode cX11_city 115 = .ok (.getfield 36, 3) := by decide +kernel
theorem dX11_city_118 : decode cX11_city 118 = .ok (.aload_n 0, 1) := by decide +kernel
theorem dX11_city_119 : decode cX11_city 119 = .ok (.getfield 45, 3) := by decide +kernel
theorem dX11_city_122 : decode cX11_city 122 = .ok (.invokevirtual 76, 3) := by decide +kernel
theorem dX11_city_125 : decode cX11_city 125 = .ok (.iload 5, 2) := by decide +kernel
theorem dX11_city_127 : decode cX11_city 127 = .ok (.ireturn, 1) := by decide +kernel
set_option maxRecDepth 20000 in
theorem ggX11_lean_X2_has : GoodIn wsX11_lean wsX2_has := goodIn_r _ [8, 9, 16, 17, 18, 19, 20, 21, 22, 23, 24, 25, 26, 27] (by decide +kernel) (by decide +kernel)
set_option maxRecDepth 20000 in
theorem gX11_lean_X2_has : GoodIn wsX11_lean (wsV RX11 95 RX2 yX2_has wsX2_has) := goodIn_app (goodIn_of _ (by decide +kernel)) ggX11_lean_X2_has
theorem dX11_lean_0 : decode cX11_lean 0 = .ok (.aload_n 0, 1) := by decide +kernel
theorem dX11_lean_1 : decode cX11_lean 1 = .ok (.getfield 36, 3) := by decide +kernel
theorem dX11_lean_4 : decode cX11_lean 4 = .ok (.iload_n 1, 1) := by decide +kernel
theorem dX11_lean_5 : decode cX11_lean 5 = .ok (.invokevirtual 95, 3) := by decide +kernel
theorem dX11_lean_8 : decode cX11_lean 8 = .ok (.ifCond .eq 15, 3) := by decide +kernel
theorem dX11_lean_11 : decode cX11_lean 11 = .ok (.aload_n 0, 1) := by decide +kernel
theorem dX11_lean_12 : decode cX11_lean 12 = .ok (.getfield 36, 3) := by decide +kernel
theorem dX11_lean_15 : decode cX11_lean 15 = .ok (.getfield 99, 3) := by decide +kernel
theorem dX11_lean_18 : decode cX11_lean 18 = .ok (.iload_n 1, 1) := by decide +kernel
theorem dX11_lean_19 : decode cX11_lean 19 = .ok (.iaload, 1) := by decide +kernel
theorem dX11_lean_20 : decode cX11_lean 20 = .ok (.goto 5, 3) := by decide +kernel
theorem dX11_lean_23 : decode cX11_lean 23 = .ok (.ldc 102, 2) := by decide +kernel
theorem dX11_lean_25 : decode cX11_lean 25 = .ok (.ireturn, 1) := by decide +kernel
set_option maxRecDepth 20000 in
theorem ggX11_man_X2_has : GoodIn wsX11_man wsX2_has := goodIn_r _ [8, 9, 122, 123, 124, 125, 126, 127, 128, 129, 130, 131, 132, 133] (by decide +kernel) (by decide +kernel)
set_option maxRecDepth 20000 in
theorem gX11_man_X2_has : GoodIn wsX11_man (wsV RX11 95 RX2 yX2_has wsX2_has) := goodIn_app (goodIn_of _ (by decide +kernel)) ggX11_man_X2_has
set_option maxRecDepth 20000 in
theorem ggX11_man_X2_isPropped : GoodIn wsX11_man wsX2_isPropped := goodIn_r _ [13, 14, 122, 123, 124, 125, 126, 127, 128, 129, 130, 131, 132, 133] (by decide +kernel) (by decide +kernel)
set_option maxRecDepth 20000 in
theorem gX11_man_X2_isPropped : GoodIn wsX11_man (wsV RX11 109 RX2 yX2_isPropped wsX2_isPropped) := goodIn_app (goodIn_of _ (by decide +kernel)) ggX11_man_X2_isPropped
set_option maxRecDepth 20000 in
theorem ggX11_man_X2_isUpright : GoodIn wsX11_man wsX2_isUpright := goodIn_r _ [18, 19, 20, 21, 7, 22, 23, 24, 25, 26, 27, 28, 29, 30, 31, 32, 33, 34, 35, 36, 37, 38, 39, 40, 41, 42, 43, 44, 45, 46, 47, 48, 49, 50, 51, 52, 53, 54, 55, 56, 57, 58, 59, 60, 61, 62, 63, 64, 65, 66, 67, 68, 69, 122, 123, 124, 125, 126, 127, 128, 129, 130, 131, 132, 133] (by decide +kernel) (by decide +kernel)
set_option maxRecDepth 20000 in
theorem gX11_man_X2_isUpright : GoodIn wsX11_man (wsV RX11 112 RX2 yX2_isUpright wsX2_isUpright) := goodIn_app (goodIn_of _ (by decide +kernel)) ggX11_man_X2_isUpright
set_option maxRecDepth 20000 in
theorem ggX11_man_X2_discountOf : GoodIn wsX11_man wsX2_discountOf := goodIn_r _ [73, 32, 33, 34, 19, 20, 21, 7, 22, 23, 24, 25, 26, 27, 74, 75, 76, 77, 78, 40, 79, 80, 81, 82, 45, 83, 84, 85, 49, 86, 87, 57, 88, 89, 90, 91, 92, 93, 94, 95, 63, 96, 97, 98, 67, 99, 100, 101, 102, 103, 122, 123, 124, 125, 126, 127, 128, 129, 130, 131, 132, 133] (by decide +kernel) (by decide +kernel)
set_option maxRecDepth 20000 in
theorem gX11_man_X2_discountOf : GoodIn wsX11_man (wsV RX11 115 RX2 yX2_discountOf wsX2_discountOf) := goodIn_app (goodIn_of _ (by decide +kernel)) ggX11_man_X2_discountOf
set_option maxRecDepth 20000 in
theorem ggX11_man_X2_trustedBy : GoodIn wsX11_man wsX2_trustedBy := goodIn_r _ [107, 9, 108, 109, 110, 7, 111, 112, 113, 114, 115, 23, 19, 20, 21, 22, 24, 25, 26, 27, 122, 123, 124, 125, 126, 127, 128, 129, 130, 131, 132, 133] (by decide +kernel) (by decide +kernel)
set_option maxRecDepth 20000 in
theorem gX11_man_X2_trustedBy : GoodIn wsX11_man (wsV RX11 118 RX2 yX2_trustedBy wsX2_trustedBy) := goodIn_app (goodIn_of _ (by decide +kernel)) ggX11_man_X2_trustedBy
theorem dX11_man_0 : decode cX11_man 0 = .ok (.aload_n 0, 1) := by decide +kernel
theorem dX11_man_1 : decode cX11_man 1 = .ok (.getfield 36, 3) := by decide +kernel
theorem dX11_man_4 : decode cX11_man 4 = .ok (.iload_n 1, 1) := by decide +kernel
theorem dX11_man_5 : decode cX11_man 5 = .ok (.invokevirtual 95, 3) := by decide +kernel
theorem dX11_man_8 : decode cX11_man 8 = .ok (.ifCond .ne 5, 3) := by decide +kernel
theorem dX11_man_11 : decode cX11_man 11 = .ok (.iconst (-1), 1) := by decide +kernel
theorem dX11_man_12 : decode cX11_man 12 = .ok (.ireturn, 1) := by decide +kernel
theorem dX11_man_13 : decode cX11_man 13 = .ok (.iload_n 2, 1) := by decide +kernel
theorem dX11_man_14 : decode cX11_man 14 = .ok (.tableswitch 110 0 5 #[38, 48, 58, 75, 92, 101], 38) := by decide +kernel
theorem dX11_man_52 : decode cX11_man 52 = .ok (.aload_n 0, 1) := by decide +kernel
theorem dX11_man_53 : decode cX11_man 53 = .ok (.getfield 36, 3) := by decide +kernel
theorem dX11_man_56 : decode cX11_man 56 = .ok (.getfield 103, 3) := by decide +kernel
theorem dX11_man_59 : decode cX11_man 59 = .ok (.iload_n 1, 1) := by decide +kernel
theorem dX11_man_60 : decode cX11_man 60 = .ok (.iaload, 1) := by decide +kernel
theorem dX11_man_61 : decode cX11_man 61 = .ok (.ireturn, 1) := by decide +kernel
theorem dX11_man_62 : decode cX11_man 62 = .ok (.aload_n 0, 1) := by decide +kernel
theorem dX11_man_63 : decode cX11_man 63 = .ok (.getfield 36, 3) := by decide +kernel
theorem dX11_man_66 : decode cX11_man 66 = .ok (.getfield 106, 3) := by decide +kernel
theorem dX11_man_69 : decode cX11_man 69 = .ok (.iload_n 1, 1) := by decide +kernel
theorem dX11_man_70 : decode cX11_man 70 = .ok (.iaload, 1) := by decide +kernel
theorem dX11_man_71 : decode cX11_man 71 = .ok (.ireturn, 1) := by decide +kernel
theorem dX11_man_72 : decode cX11_man 72 = .ok (.aload_n 0, 1) := by decide +kernel
theorem dX11_man_73 : decode cX11_man 73 = .ok (.getfield 36, 3) := by decide +kernel
theorem dX11_man_76 : decode cX11_man 76 = .ok (.iload_n 1, 1) := by decide +kernel
theorem dX11_man_77 : decode cX11_man 77 = .ok (.invokevirtual 109, 3) := by decide +kernel
theorem dX11_man_80 : decode cX11_man 80 = .ok (.ifCond .eq 7, 3) := by decide +kernel
theorem dX11_man_83 : decode cX11_man 83 = .ok (.iconst 1, 1) := by decide +kernel
theorem dX11_man_84 : decode cX11_man 84 = .ok (.goto 4, 3) := by decide +kernel
theorem dX11_man_87 : decode cX11_man 87 = .ok (.iconst 0, 1) := by decide +kernel
theorem dX11_man_88 : decode cX11_man 88 = .ok (.ireturn, 1) := by decide +kernel
theorem dX11_man_89 : decode cX11_man 89 = .ok (.aload_n 0, 1) := by decide +kernel
theorem dX11_man_90 : decode cX11_man 90 = .ok (.getfield 36, 3) := by decide +kernel
theorem dX11_man_93 : decode cX11_man 93 = .ok (.iload_n 1, 1) := by decide +kernel
theorem dX11_man_94 : decode cX11_man 94 = .ok (.invokevirtual 112, 3) := by decide +kernel
theorem dX11_man_97 : decode cX11_man 97 = .ok (.ifCond .eq 7, 3) := by decide +kernel
theorem dX11_man_100 : decode cX11_man 100 = .ok (.iconst 1, 1) := by decide +kernel
theorem dX11_man_101 : decode cX11_man 101 = .ok (.goto 4, 3) := by decide +kernel
theorem dX11_man_104 : decode cX11_man 104 = .ok (.iconst 0, 1) := by decide +kernel
theorem dX11_man_105 : decode cX11_man 105 = .ok (.ireturn, 1) := by decide +kernel
theorem dX11_man_106 : decode cX11_man 106 = .ok (.aload_n 0, 1) := by decide +kernel
theorem dX11_man_107 : decode cX11_man 107 = .ok (.getfield 36, 3) := by decide +kernel
theorem dX11_man_110 : decode cX11_man 110 = .ok (.iload_n 1, 1) := by decide +kernel
theorem dX11_man_111 : decode cX11_man 111 = .ok (.invokevirtual 115, 3) := by decide +kernel
theorem dX11_man_114 : decode cX11_man 114 = .ok (.ireturn, 1) := by decide +kernel
theorem dX11_man_115 : decode cX11_man 115 = .ok (.aload_n 0, 1) := by decide +kernel
theorem dX11_man_116 : decode cX11_man 116 = .ok (.getfield 36, 3) := by decide +kernel
theorem dX11_man_119 : decode cX11_man 119 = .ok (.iload_n 1, 1) := by decide +kernel
theorem dX11_man_120 : decode cX11_man 120 = .ok (.invokevirtual 118, 3) := by decide +kernel
theorem dX11_man_123 : decode cX11_man 123 = .ok (.ireturn, 1) := by decide +kernel
theorem dX11_man_124 : decode cX11_man 124 = .ok (.iconst (-1), 1) := by decide +kernel
theorem dX11_man_125 : decode cX11_man 125 = .ok (.ireturn, 1) := by decide +kernel
set_option maxRecDepth 20000 in
theorem ggX11_comes_X11_isIn : GoodIn wsX11_comes wsX11_isIn := goodIn_r _ [9] (by decide +kernel) (by decide +kernel)
set_option maxRecDepth 20000 in
theorem gX11_comes_X11_isIn : GoodIn wsX11_comes (va_wsS RX11 121 yX11_isIn wsX11_isIn) := goodIn_app (goodIn_of _ (by decide +kernel)) ggX11_comes_X11_isIn
set_option maxRecDepth 20000 in
theorem ggX11_comes_X11_refusalOfKind : GoodIn wsX11_comes wsX11_refusalOfKind := goodIn_r _ [13, 1, 14, 15, 8, 16, 6, 7, 9, 17, 18, 19, 20, 21, 22, 23, 24, 25, 26, 36, 37, 38, 39, 40, 41, 42, 43, 44, 45, 46, 47, 48] (by decide +kernel) (by decide +kernel)
set_option maxRecDepth 20000 in
theorem gX11_comes_X11_refusalOfKind : GoodIn wsX11_comes (wsV RX11 125 RX11 yX11_refusalOfKind wsX11_refusalOfKind) := goodIn_app (goodIn_of _ (by decide +kernel)) ggX11_comes_X11_refusalOfKind
set_option maxRecDepth 20000 in
theorem ggX11_comes_X2_takesIn : GoodIn wsX11_comes wsX2_takesIn := goodIn_r _ [31, 32, 33, 34, 35, 49, 50, 51, 52, 53, 54, 55, 56, 57, 58, 59, 60] (by decide +kernel) (by decide +kernel)
set_option maxRecDepth 20000 in
theorem gX11_comes_X2_takesIn : GoodIn wsX11_comes (wsV RX11 132 RX2 yX2_takesIn wsX2_takesIn) := goodIn_app (goodIn_of _ (by decide +kernel)) ggX11_comes_X2_takesIn
theorem dX11_comes_0 : decode cX11_comes 0 = .ok (.iload_n 2, 1) := by decide +kernel
theorem dX11_comes_1 : decode cX11_comes 1 = .ok (.bipush (-45), 2) := by decide +kernel
theorem dX11_comes_3 : decode cX11_comes 3 = .ok (.bipush 45, 2) := by decide +kernel
theorem dX11_comes_5 : decode cX11_comes 5 = .ok (.invokestatic 121, 3) := by decide +kernel
theorem dX11_comes_8 : decode cX11_comes 8 = .ok (.ifCond .ne 5, 3) := by decide +kernel
theorem dX11_comes_11 : decode cX11_comes 11 = .ok (.iconst (-1), 1) := by decide +kernel
theorem dX11_comes_12 : decode cX11_comes 12 = .ok (.ireturn, 1) := by decide +kernel
theorem dX11_comes_13 : decode cX11_comes 13 = .ok (.aload_n 0, 1) := by decide +kernel
theorem dX11_comes_14 : decode cX11_comes 14 = .ok (.iload_n 1, 1) := by decide +kernel
theorem dX11_comes_15 : decode cX11_comes 15 = .ok (.invokevirtual 125, 3) := by decide +kernel
theorem dX11_comes_18 : decode cX11_comes 18 = .ok (.istore_n 3, 1) := by decide +kernel
theorem dX11_comes_19 : decode cX11_comes 19 = .ok (.iload_n 3, 1) := by decide +kernel
theorem dX11_comes_20 : decode cX11_comes 20 = .ok (.ifCond .eq 5, 3) := by decide +kernel
theorem dX11_comes_23 : decode cX11_comes 23 = .ok (.iload_n 3, 1) := by decide +kernel
theorem dX11_comes_24 : decode cX11_comes 24 = .ok (.ireturn, 1) := by decide +kernel
theorem dX11_comes_25 : decode cX11_comes 25 = .ok (.aload_n 0, 1) := by decide +kernel
theorem dX11_comes_26 : decode cX11_comes 26 = .ok (.getfield 59, 3) := by decide +kernel
theorem dX11_comes_29 : decode cX11_comes 29 = .ok (.iload_n 1, 1) := by decide +kernel
theorem dX11_comes_30 : decode cX11_comes 30 = .ok (.aaload, 1) := by decide +kernel
theorem dX11_comes_31 : decode cX11_comes 31 = .ok (.astore 4, 2) := by decide +kernel
theorem dX11_comes_33 : decode cX11_comes 33 = .ok (.aload_n 0, 1) := by decide +kernel
theorem dX11_comes_34 : decode cX11_comes 34 = .ok (.getfield 36, 3) := by decide +kernel
theorem dX11_comes_37 : decode cX11_comes 37 = .ok (.aload 4, 2) := by decide +kernel
theorem dX11_comes_39 : decode cX11_comes 39 = .ok (.getfield 128, 3) := by decide +kernel
theorem dX11_comes_42 : decode cX11_comes 42 = .ok (.aload 4, 2) := by decide +kernel
theorem dX11_comes_44 : decode cX11_comes 44 = .ok (.getfield 130, 3) := by decide +kernel
theorem dX11_comes_47 : decode cX11_comes 47 = .ok (.iload_n 2, 1) := by decide +kernel
theorem dX11_comes_48 : decode cX11_comes 48 = .ok (.invokevirtual 132, 3) := by decide +kernel
theorem dX11_comes_51 : decode cX11_comes 51 = .ok (.ifCond .eq 15, 3) := by decide +kernel
theorem dX11_comes_54 : decode cX11_comes 54 = .ok (.aload_n 0, 1) := by decide +kernel
theorem dX11_comes_55 : decode cX11_comes 55 = .ok (.getfield 36, 3) := by decide +kernel
theorem dX11_comes_58 : decode cX11_comes 58 = .ok (.getfield 135, 3) := by decide +kernel
theorem dX11_comes_61 : decode cX11_comes 61 = .ok (.iconst 1, 1) := by decide +kernel
theorem dX11_comes_62 : decode cX11_comes 62 = .ok (.isub, 1) := by decide +kernel
theorem dX11_comes_63 : decode cX11_comes 63 = .ok (.goto 5, 3) := by decide +kernel
theorem dX11_comes_66 : decode cX11_comes 66 = .ok (.bipush (-2), 2) := by decide +kernel
theorem dX11_comes_68 : decode cX11_comes 68 = .ok (.ireturn, 1) := by decide +kernel
set_option maxRecDepth 20000 in
theorem ggX11_pushes_X2_has : GoodIn wsX11_pushes wsX2_has := goodIn_r _ [8, 9, 20, 21, 22, 23, 24, 25, 26, 27, 28, 29, 30, 31] (by decide +kernel) (by decide +kernel)
set_option maxRecDepth 20000 in
theorem gX11_pushes_X2_has : GoodIn wsX11_pushes (wsV RX11 95 RX2 yX2_has wsX2_has) := goodIn_app (goodIn_of _ (by decide +kernel)) ggX11_pushes_X2_has
set_option maxRecDepth 20000 in
theorem ggX11_pushes_X11_isIn : GoodIn wsX11_pushes wsX11_isIn := goodIn_r _ [13] (by decide +kernel) (by decide +kernel)
set_option maxRecDepth 20000 in
theorem gX11_pushes_X11_isIn : GoodIn wsX11_pushes (va_wsS RX11 121 yX11_isIn wsX11_isIn) := goodIn_app (goodIn_of _ (by decide +kernel)) ggX11_pushes_X11_isIn
theorem dX11_pushes_0 : decode cX11_pushes 0 = .ok (.aload_n 0, 1) := by decide +kernel
theorem dX11_pushes_1 : decode cX11_pushes 1 = .ok (.getfield 36, 3) := by decide +kernel
theorem dX11_pushes_4 : decode cX11_pushes 4 = .ok (.iload_n 1, 1) := by decide +kernel
theorem dX11_pushes_5 : decode cX11_pushes 5 = .ok (.invokevirtual 95, 3) := by decide +kernel
theorem dX11_pushes_8 : decode cX11_pushes 8 = .ok (.ifCond .eq 14, 3) := by decide +kernel
theorem dX11_pushes_11 : decode cX11_pushes 11 = .ok (.iload_n 2, 1) := by decide +kernel
theorem dX11_pushes_12 : decode cX11_pushes 12 = .ok (.bipush (-45), 2) := by decide +kernel
theorem dX11_pushes_14 : decode cX11_pushes 14 = .ok (.bipush 45, 2) := by decide +kernel
theorem dX11_pushes_16 : decode cX11_pushes 16 = .ok (.invokestatic 121, 3) := by decide +kernel
theorem dX11_pushes_19 : decode cX11_pushes 19 = .ok (.ifCond .ne 6, 3) := by decide +kernel
theorem dX11_pushes_22 : decode cX11_pushes 22 = .ok (.ldc 102, 2) := by decide +kernel
theorem dX11_pushes_24 : decode cX11_pushes 24 = .ok (.ireturn, 1) := by decide +kernel
theorem dX11_pushes_25 : decode cX11_pushes 25 = .ok (.aload_n 0, 1) := by decide +kernel
theorem dX11_pushes_26 : decode cX11_pushes 26 = .ok (.getfield 36, 3) := by decide +kernel
theorem dX11_pushes_29 : decode cX11_pushes 29 = .ok (.getfield 99, 3) := by decide +kernel
theorem dX11_pushes_32 : decode cX11_pushes 32 = .ok (.iload_n 1, 1) := by decide +kernel
theorem dX11_pushes_33 : decode cX11_pushes 33 = .ok (.iaload, 1) := by decide +kernel
theorem dX11_pushes_34 : decode cX11_pushes 34 = .ok (.istore_n 3, 1) := by decide +kernel
theorem dX11_pushes_35 : decode cX11_pushes 35 = .ok (.aload_n 0, 1) := by decide +kernel
theorem dX11_pushes_36 : decode cX11_pushes 36 = .ok (.getfield 36, 3) := by decide +kernel
theorem dX11_pushes_39 : decode cX11_pushes 39 = .ok (.getfield 99, 3) := by decide +kernel
theorem dX11_pushes_42 : decode cX11_pushes 42 = .ok (.iload_n 1, 1) := by decide +kernel
theorem dX11_pushes_43 : decode cX11_pushes 43 = .ok (.iload_n 2, 1) := by decide +kernel
theorem dX11_pushes_44 : decode cX11_pushes 44 = .ok (.iastore, 1) := by decide +kernel
theorem dX11_pushes_45 : decode cX11_pushes 45 = .ok (.iload_n 3, 1) := by decide +kernel
theorem dX11_pushes_46 : decode cX11_pushes 46 = .ok (.ireturn, 1) := by decide +kernel
set_option maxRecDepth 20000 in
theorem ggX11_props_X2_has : GoodIn wsX11_props wsX2_has := goodIn_r _ [6, 7, 23, 24, 25, 26, 27, 28, 29, 30, 31, 32, 33, 34] (by decide +kernel) (by decide +kernel)
set_option maxRecDepth 20000 in
theorem gX11_props_X2_has : GoodIn wsX11_props (wsV RX11 95 RX2 yX2_has wsX2_has) := goodIn_app (goodIn_of _ (by decide +kernel)) ggX11_props_X2_has
set_option maxRecDepth 20000 in
theorem ggX11_props_X2_turnProp : GoodIn wsX11_props wsX2_turnProp := goodIn_r _ [11, 12, 23, 24, 25, 26, 27, 28, 29, 30, 31, 32, 33, 34] (by decide +kernel) (by decide +kernel)
set_option maxRecDepth 20000 in
theorem gX11_props_X2_turnProp : GoodIn wsX11_props (wsV RX11 138 RX2 yX2_turnProp wsX2_turnProp) := goodIn_app (goodIn_of _ (by decide +kernel)) ggX11_props_X2_turnProp
set_option maxRecDepth 20000 in
theorem ggX11_props_X2_isPropped : GoodIn wsX11_props wsX2_isPropped := goodIn_r _ [16, 12, 23, 24, 25, 26, 27, 28, 29, 30, 31, 32, 33, 34] (by decide +kernel) (by decide +kernel)
set_option maxRecDepth 20000 in
theorem gX11_props_X2_isPropped : GoodIn wsX11_props (wsV RX11 109 RX2 yX2_isPropped wsX2_isPropped) := goodIn_app (goodIn_of _ (by decide +kernel)) ggX11_props_X2_isPropped
theorem dX11_props_0 : decode cX11_props 0 = .ok (.aload_n 0, 1) := by decide +kernel
theorem dX11_props_1 : decode cX11_props 1 = .ok (.getfield 36, 3) := by decide +kernel
theorem dX11_props_4 : decode cX11_props 4 = .ok (.iload_n 1, 1) := by decide +kernel
theorem dX11_props_5 : decode cX11_props 5 = .ok (.invokevirtual 95, 3) := by decide +kernel
theorem dX11_props_8 : decode cX11_props 8 = .ok (.ifCond .ne 5, 3) := by decide +kernel
theorem dX11_props_11 : decode cX11_props 11 = .ok (.iconst (-1), 1) := by decide +kernel
theorem dX11_props_12 : decode cX11_props 12 = .ok (.ireturn, 1) := by decide +kernel
theorem dX11_props_13 : decode cX11_props 13 = .ok (.aload_n 0, 1) := by decide +kernel
theorem dX11_props_14 : decode cX11_props 14 = .ok (.getfield 36, 3) := by decide +kernel
theorem dX11_props_17 : decode cX11_props 17 = .ok (.iload_n 1, 1) := by decide +kernel
theorem dX11_props_18 : decode cX11_props 18 = .ok (.invokevirtual 138, 3) := by decide +kernel
theorem dX11_props_21 : decode cX11_props 21 = .ok (.aload_n 0, 1) := by decide +kernel
theorem dX11_props_22 : decode cX11_props 22 = .ok (.getfield 36, 3) := by decide +kernel
theorem dX11_props_25 : decode cX11_props 25 = .ok (.iload_n 1, 1) := by decide +kernel
theorem dX11_props_26 : decode cX11_props 26 = .ok (.invokevirtual 109, 3) := by decide +kernel
theorem dX11_props_29 : decode cX11_props 29 = .ok (.ifCond .eq 7, 3) := by decide +kernel
theorem dX11_props_32 : decode cX11_props 32 = .ok (.iconst 1, 1) := by decide +kernel
theorem dX11_props_33 : decode cX11_props 33 = .ok (.goto 4, 3) := by decide +kernel
theorem dX11_props_36 : decode cX11_props 36 = .ok (.iconst 0, 1) := by decide +kernel
theorem dX11_props_37 : decode cX11_props 37 = .ok (.ireturn, 1) := by decide +kernel
set_option maxRecDepth 20000 in
theorem ggX11_hangs_X11_isIn : GoodIn wsX11_hangs wsX11_isIn := goodIn_r _ [7] (by decide +kernel) (by decide +kernel)
set_option maxRecDepth 20000 in
theorem gX11_hangs_X11_isIn : GoodIn wsX11_hangs (va_wsS RX11 121 yX11_isIn wsX11_isIn) := goodIn_app (goodIn_of _ (by decide +kernel)) ggX11_hangs_X11_isIn
theorem dX11_hangs_0 : decode cX11_hangs 0 = .ok (.iload_n 1, 1) := by decide +kernel
theorem dX11_hangs_1 : decode cX11_hangs 1 = .ok (.iconst 0, 1) := by decide +kernel
theorem dX11_hangs_2 : decode cX11_hangs 2 = .ok (.bipush 9, 2) := by decide +kernel
theorem dX11_hangs_4 : decode cX11_hangs 4 = .ok (.invokestatic 121, 3) := by decide +kernel
theorem dX11_hangs_7 : decode cX11_hangs 7 = .ok (.ifCond .eq 13, 3) := by decide +kernel
theorem dX11_hangs_10 : decode cX11_hangs 10 = .ok (.iload_n 2, 1) := by decide +kernel
theorem dX11_hangs_11 : decode cX11_hangs 11 = .ok (.iconst 0, 1) := by decide +kernel
theorem dX11_hangs_12 : decode cX11_hangs 12 = .ok (.bipush 7, 2) := by decide +kernel
theorem dX11_hangs_14 : decode cX11_hangs 14 = .ok (.invokestatic 121, 3) := by decide +kernel
theorem dX11_hangs_17 : decode cX11_hangs 17 = .ok (.ifCond .ne 5, 3) := by decide +kernel
theorem dX11_hangs_20 : decode cX11_hangs 20 = .ok (.iconst (-1), 1) := by decide +kernel
theorem dX11_hangs_21 : decode cX11_hangs 21 = .ok (.ireturn, 1) := by decide +kernel
theorem dX11_hangs_22 : decode cX11_hangs 22 = .ok (.bipush 10, 2) := by decide +kernel
theorem dX11_hangs_24 : decode cX11_hangs 24 = .ok (.aload_n 0, 1) := by decide +kernel
theorem dX11_hangs_25 : decode cX11_hangs 25 = .ok (.getfield 36, 3) := by decide +kernel
theorem dX11_hangs_28 : decode cX11_hangs 28 = .ok (.getfield 142, 3) := by decide +kernel
theorem dX11_hangs_31 : decode cX11_hangs 31 = .ok (.imul, 1) := by decide +kernel
theorem dX11_hangs_32 : decode cX11_hangs 32 = .ok (.aload_n 0, 1) := by decide +kernel
theorem dX11_hangs_33 : decode cX11_hangs 33 = .ok (.getfield 36, 3) := by decide +kernel
theorem dX11_hangs_36 : decode cX11_hangs 36 = .ok (.getfield 145, 3) := by decide +kernel
theorem dX11_hangs_39 : decode cX11_hangs 39 = .ok (.iadd, 1) := by decide +kernel
theorem dX11_hangs_40 : decode cX11_hangs 40 = .ok (.istore_n 3, 1) := by decide +kernel
theorem dX11_hangs_41 : decode cX11_hangs 41 = .ok (.aload_n 0, 1) := by decide +kernel
theorem dX11_hangs_42 : decode cX11_hangs 42 = .ok (.getfield 36, 3) := by decide +kernel
theorem dX11_hangs_45 : decode cX11_hangs 45 = .ok (.iload_n 1, 1) := by decide +kernel
theorem dX11_hangs_46 : decode cX11_hangs 46 = .ok (.putfield 142, 3) := by decide +kernel
theorem dX11_hangs_49 : decode cX11_hangs 49 = .ok (.aload_n 0, 1) := by decide +kernel
theorem dX11_hangs_50 : decode cX11_hangs 50 = .ok (.getfield 36, 3) := by decide +kernel
theorem dX11_hangs_53 : decode cX11_hangs 53 = .ok (.iload_n 2, 1) := by decide +kernel
theorem dX11_hangs_54 : decode cX11_hangs 54 = .ok (.putfield 145, 3) := by decide +kernel
theorem dX11_hangs_57 : decode cX11_hangs 57 = .ok (.iload_n 3, 1) := by decide +kernel
theorem dX11_hangs_58 : decode cX11_hangs 58 = .ok (.ireturn, 1) := by decide +kernel
set_option maxRecDepth 20000 in
theorem ggX11_days_X11_isIn : GoodIn wsX11_days wsX11_isIn := goodIn_r _ [6] (by decide +kernel) (by decide +kernel)
set_option maxRecDepth 20000 in
theorem gX11_days_X11_isIn : GoodIn wsX11_days (va_wsS RX11 121 yX11_isIn wsX11_isIn) := goodIn_app (goodIn_of _ (by decide +kernel)) ggX11_days_X11_isIn
set_option maxRecDepth 20000 in
theorem ggX11_days_X2_passDays : GoodIn wsX11_days wsX2_passDays := goodIn_r _ [11, 12, 13, 14, 15, 10, 16, 17, 18, 19, 20, 21, 22, 23, 24, 25, 26, 27, 28, 29, 30, 31, 32, 33, 34, 35, 36, 37, 38, 39, 40, 41, 42, 43, 44, 45, 46, 47, 48, 49, 50, 51, 52, 53, 54, 55, 56, 57, 58, 59, 60, 61, 62, 63, 64, 65, 66, 67, 68, 69, 70, 71, 72, 73, 74, 75, 76, 77, 78, 79, 80, 81, 82, 83, 84, 85, 86, 87, 88, 89, 90, 91, 92, 93, 94, 95, 96, 97, 98, 99, 100, 101, 102, 103, 104, 105, 106, 107, 108, 109, 110, 111, 112, 113, 114, 115, 116, 117, 118, 119, 120, 121, 122, 123, 124, 125, 126, 127, 128, 129, 130, 131, 132, 133, 134, 135, 136, 137, 138, 139, 140, 141, 142, 151, 152, 153, 154, 155, 156, 157, 158, 159, 160, 161, 162] (by decide +kernel) (by decide +kernel)
set_option maxRecDepth 20000 in
theorem gX11_days_X2_passDays : GoodIn wsX11_days (wsV RX11 151 RX2 yX2_passDays wsX2_passDays) := goodIn_app (goodIn_of _ (by decide +kernel)) ggX11_days_X2_passDays
set_option maxRecDepth 20000 in
theorem ggX11_days_X2_upright : GoodIn wsX11_days wsX2_upright := goodIn_r _ [89, 18, 21, 90, 91, 25, 92, 19, 20, 22, 93, 94, 95, 96, 97, 46, 98, 99, 100, 101, 51, 102, 103, 104, 105, 106, 107, 55, 108, 109, 110, 111, 60, 112, 113, 114, 115, 116, 73, 117, 118, 119, 77, 120, 121, 151, 152, 153, 154, 155, 156, 157, 158, 159, 160, 161, 162] (by decide +kernel) (by decide +kernel)
set_option maxRecDepth 20000 in
theorem gX11_days_X2_upright : GoodIn wsX11_days (wsV RX11 154 RX2 yX2_upright wsX2_upright) := goodIn_app (goodIn_of _ (by decide +kernel)) ggX11_days_X2_upright
set_option maxRecDepth 20000 in
theorem ggX11_days_J6_bitCount_0f7a4 : GoodIn wsX11_days wsJ6_bitCount_0f7a4 := goodIn_r _ [125, 126, 127, 128] (by decide +kernel) (by decide +kernel)
set_option maxRecDepth 20000 in
theorem gX11_days_J6_bitCount_0f7a4 : GoodIn wsX11_days (va_wsS RX11 157 yJ6_bitCount_0f7a4 wsJ6_bitCount_0f7a4) := goodIn_app (goodIn_of _ (by decide +kernel)) ggX11_days_J6_bitCount_0f7a4
theorem dX11_days_0 : decode cX11_days 0 = .ok (.iload_n 1, 1) := by decide +kernel
theorem dX11_days_1 : decode cX11_days 1 = .ok (.iconst 1, 1) := by decide +kernel
theorem dX11_days_2 : decode cX11_days 2 = .ok (.bipush 60, 2) := by decide +kernel
theorem dX11_days_4 : decode cX11_days 4 = .ok (.invokestatic 121, 3) := by decide +kernel
theorem dX11_days_7 : decode cX11_days 7 = .ok (.ifCond .ne 5, 3) := by decide +kernel
theorem dX11_days_10 : decode cX11_days 10 = .ok (.iconst (-1), 1) := by decide +kernel
theorem dX11_days_11 : decode cX11_days 11 = .ok (.ireturn, 1) := by decide +kernel
theorem dX11_days_12 : decode cX11_days 12 = .ok (.aload_n 0, 1) := by decide +kernel
theorem dX11_days_13 : decode cX11_days 13 = .ok (.getfield 36, 3) := by decide +kernel
theorem dX11_days_16 : decode cX11_days 16 = .ok (.getfield 148, 3) := by decide +kernel
theorem dX11_days_19 : decode cX11_days 19 = .ok (.iload_n 1, 1) := by decide +kernel
theorem dX11_days_20 : decode cX11_days 20 = .ok (.iadd, 1) := by decide +kernel
theorem dX11_days_21 : decode cX11_days 21 = .ok (.sipush 999, 3) := by decide +kernel
theorem dX11_days_24 : decode cX11_days 24 = .ok (.if_icmp .le 6, 3) := by decide +kernel
theorem dX11_days_27 : decode cX11_days 27 = .ok (.bipush (-3), 2) := by decide +kernel
theorem dX11_days_29 : decode cX11_days 29 = .ok (.ireturn, 1) := by decide +kernel
theorem dX11_days_30 : decode cX11_days 30 = .ok (.aload_n 0, 1) := by decide +kernel
theorem dX11_days_31 : decode cX11_days 31 = .ok (.getfield 36, 3) := by decide +kernel
theorem dX11_days_34 : decode cX11_days 34 = .ok (.iload_n 1, 1) := by decide +kernel
theorem dX11_days_35 : decode cX11_days 35 = .ok (.invokevirtual 151, 3) := by decide +kernel
theorem dX11_days_38 : decode cX11_days 38 = .ok (.pop, 1) := by decide +kernel
theorem dX11_days_39 : decode cX11_days 39 = .ok (.aload_n 0, 1) := by decide +kernel
theorem dX11_days_40 : decode cX11_days 40 = .ok (.getfield 36, 3) := by decide +kernel
theorem dX11_days_43 : decode cX11_days 43 = .ok (.invokevirtual 154, 3) := by decide +kernel
theorem dX11_days_46 : decode cX11_days 46 = .ok (.invokestatic 157, 3) := by decide +kernel
theorem dX11_days_49 : decode cX11_days 49 = .ok (.ireturn, 1) := by decide +kernel
set_option maxRecDepth 20000 in
theorem ggX11_leanThen_X2_has : GoodIn wsX11_leanThen wsX2_has := goodIn_r _ [9, 10, 170, 171, 172, 173, 174, 175, 176, 177, 178, 179, 180, 181] (by decide +kernel) (by decide +kernel)
set_option maxRecDepth 20000 in
theorem gX11_leanThen_X2_has : GoodIn wsX11_leanThen (wsV RX11 95 RX2 yX2_has wsX2_has) := goodIn_app (goodIn_of _ (by decide +kernel)) ggX11_leanThen_X2_has
set_option maxRecDepth 20000 in
theorem ggX11_leanThen_X11_isIn : GoodIn wsX11_leanThen wsX11_isIn := goodIn_r _ [14] (by decide +kernel) (by decide +kernel)
set_option maxRecDepth 20000 in
theorem gX11_leanThen_X11_isIn : GoodIn wsX11_leanThen (va_wsS RX11 121 yX11_isIn wsX11_isIn) := goodIn_app (goodIn_of _ (by decide +kernel)) ggX11_leanThen_X11_isIn
set_option maxRecDepth 20000 in
theorem ggX11_leanThen_X5_after : GoodIn wsX11_leanThen wsX5_after := goodIn_r _ [19, 20, 21, 22, 23, 24, 8, 25, 26, 27, 28, 29, 30, 31, 32, 10, 33, 34, 35, 36, 37, 38, 39, 40, 41, 42, 43, 44, 45, 46, 47, 48, 49, 50, 51, 52, 53, 54, 55, 56, 57, 58, 59, 60, 61, 62, 63, 64, 65, 66, 67, 68, 69, 70, 71, 72, 73, 74, 75, 76, 77, 78, 79, 80, 81, 82, 83, 84, 85, 86, 87, 88, 89, 90, 91, 92, 93, 94, 95, 96, 97, 98, 99, 100, 101, 102, 103, 104, 105, 106, 107, 108, 109, 110, 111, 112, 113, 114, 115, 116, 117, 118, 119, 120, 121, 122, 123, 124, 125, 126, 127, 128, 129, 130, 131, 132, 133, 134, 135, 136, 137, 138, 139, 140, 141, 142, 143, 144, 145, 146, 147, 148, 149, 150, 151, 152, 153, 154, 155, 156, 157, 158, 159, 160, 161, 162, 163, 182, 183, 184, 185, 186, 170, 171, 172, 173, 174, 175, 176, 177, 178, 179, 180, 181] (by decide +kernel) (by decide +kernel)
set_option maxRecDepth 20000 in
theorem gX11_leanThen_X5_after : GoodIn wsX11_leanThen (wsV RX11 162 RX5 yX5_after wsX5_after) := goodIn_app (goodIn_of _ (by decide +kernel)) ggX11_leanThen_X5_after
theorem dX11_leanThen_0 : decode cX11_leanThen 0 = .ok (.aload_n 0, 1) := by decide +kernel
theorem dX11_leanThen_1 : decode cX11_leanThen 1 = .ok (.getfield 36, 3) := by decide +kernel
theorem dX11_leanThen_4 : decode cX11_leanThen 4 = .ok (.iload_n 1, 1) := by decide +kernel
theorem dX11_leanThen_5 : decode cX11_leanThen 5 = .ok (.invokevirtual 95, 3) := by decide +kernel
theorem dX11_leanThen_8 : decode cX11_leanThen 8 = .ok (.ifCond .eq 13, 3) := by decide +kernel
theorem dX11_leanThen_11 : decode cX11_leanThen 11 = .ok (.iload_n 2, 1) := by decide +kernel
theorem dX11_leanThen_12 : decode cX11_leanThen 12 = .ok (.iconst 0, 1) := by decide +kernel
theorem dX11_leanThen_13 : decode cX11_leanThen 13 = .ok (.bipush 60, 2) := by decide +kernel
theorem dX11_leanThen_15 : decode cX11_leanThen 15 = .ok (.invokestatic 121, 3) := by decide +kernel
theorem dX11_leanThen_18 : decode cX11_leanThen 18 = .ok (.ifCond .ne 6, 3) := by decide +kernel
theorem dX11_leanThen_21 : decode cX11_leanThen 21 = .ok (.ldc 102, 2) := by decide +kernel
theorem dX11_leanThen_23 : decode cX11_leanThen 23 = .ok (.ireturn, 1) := by decide +kernel
theorem dX11_leanThen_24 : decode cX11_leanThen 24 = .ok (.aload_n 0, 1) := by decide +kernel
theorem dX11_leanThen_25 : decode cX11_leanThen 25 = .ok (.getfield 53, 3) := by decide +kernel
theorem dX11_leanThen_28 : decode cX11_leanThen 28 = .ok (.iload_n 2, 1) := by decide +kernel
theorem dX11_leanThen_29 : decode cX11_leanThen 29 = .ok (.invokevirtual 162, 3) := by decide +kernel
theorem dX11_leanThen_32 : decode cX11_leanThen 32 = .ok (.getfield 99, 3) := by decide +kernel
theorem dX11_leanThen_35 : decode cX11_leanThen 35 = .ok (.iload_n 1, 1) := by decide +kernel
theorem dX11_leanThen_36 : decode cX11_leanThen 36 = .ok (.iaload, 1) := by decide +kernel
theorem dX11_leanThen_37 : decode cX11_leanThen 37 = .ok (.ireturn, 1) := by decide +kernel
set_option maxRecDepth 20000 in
theorem ggX11_then_X11_isIn : GoodIn wsX11_then wsX11_isIn := goodIn_r _ [8] (by decide +kernel) (by decide +kernel)
set_option maxRecDepth 20000 in
theorem gX11_then_X11_isIn : GoodIn wsX11_then (va_wsS RX11 121 yX11_isIn wsX11_isIn) := goodIn_app (goodIn_of _ (by decide +kernel)) ggX11_then_X11_isIn
set_option maxRecDepth 20000 in
theorem ggX11_then_X5_after : GoodIn wsX11_then wsX5_after := goodIn_r _ [13, 14, 15, 16, 17, 18, 19, 20, 21, 22, 23, 24, 25, 26, 27, 28, 29, 30, 31, 32, 33, 34, 35, 36, 37, 38, 39, 40, 41, 42, 43, 44, 45, 46, 47, 48, 49, 50, 51, 52, 53, 54, 55, 56, 57, 58, 59, 60, 61, 62, 63, 64, 65, 66, 67, 68, 69, 70, 71, 72, 73, 74, 75, 76, 77, 78, 79, 80, 81, 82, 83, 84, 85, 86, 87, 88, 89, 90, 91, 92, 93, 94, 95, 96, 97, 98, 99, 100, 101, 102, 103, 104, 105, 106, 107, 108, 109, 110, 111, 112, 113, 114, 115, 116, 117, 118, 119, 120, 121, 122, 123, 124, 125, 126, 127, 128, 129, 130, 131, 132, 133, 134, 135, 136, 137, 138, 139, 140, 141, 142, 143, 144, 145, 146, 147, 148, 149, 150, 151, 152, 153, 154, 155, 156, 157, 158, 159, 179, 180, 181, 182, 183, 167, 168, 169, 170, 171, 172, 173, 174, 175, 176, 177, 178] (by decide +kernel) (by decide +kernel)
set_option maxRecDepth 20000 in
theorem gX11_then_X5_after : GoodIn wsX11_then (wsV RX11 162 RX5 yX5_after wsX5_after) := goodIn_app (goodIn_of _ (by decide +kernel)) ggX11_then_X5_after
set_option maxRecDepth 20000 in
theorem ggX11_then_X2_upright : GoodIn wsX11_then wsX2_upright := goodIn_r _ [107, 28, 27, 108, 109, 46, 110, 43, 21, 26, 111, 112, 113, 114, 115, 64, 116, 117, 118, 119, 69, 120, 121, 122, 123, 124, 125, 73, 126, 127, 128, 129, 78, 130, 131, 132, 133, 134, 91, 135, 136, 137, 95, 138, 139, 167, 168, 169, 170, 171, 172, 173, 174, 175, 176, 177, 178] (by decide +kernel) (by decide +kernel)
set_option maxRecDepth 20000 in
theorem gX11_then_X2_upright : GoodIn wsX11_then (wsV RX11 154 RX2 yX2_upright wsX2_upright) := goodIn_app (goodIn_of _ (by decide +kernel)) ggX11_then_X2_upright
theorem dX11_then_0 : decode cX11_then 0 = .ok (.iload_n 1, 1) := by decide +kernel
theorem dX11_then_1 : decode cX11_then 1 = .ok (.iconst 0, 1) := by decide +kernel
theorem dX11_then_2 : decode cX11_then 2 = .ok (.bipush 60, 2) := by decide +kernel
theorem dX11_then_4 : decode cX11_then 4 = .ok (.invokestatic 121, 3) := by decide +kernel
theorem dX11_then_7 : decode cX11_then 7 = .ok (.ifCond .eq 12, 3) := by decide +kernel
theorem dX11_then_10 : decode cX11_then 10 = .ok (.iload_n 2, 1) := by decide +kernel
theorem dX11_then_11 : decode cX11_then 11 = .ok (.iconst 0, 1) := by decide +kernel
theorem dX11_then_12 : decode cX11_then 12 = .ok (.iconst 3, 1) := by decide +kernel
theorem dX11_then_13 : decode cX11_then 13 = .ok (.invokestatic 121, 3) := by decide +kernel
theorem dX11_then_16 : decode cX11_then 16 = .ok (.ifCond .ne 5, 3) := by decide +kernel
theorem dX11_then_19 : decode cX11_then 19 = .ok (.iconst (-1), 1) := by decide +kernel
theorem dX11_then_20 : decode cX11_then 20 = .ok (.ireturn, 1) := by decide +kernel
theorem dX11_then_21 : decode cX11_then 21 = .ok (.aload_n 0, 1) := by decide +kernel
theorem dX11_then_22 : decode cX11_then 22 = .ok (.getfield 53, 3) := by decide +kernel
theorem dX11_then_25 : decode cX11_then 25 = .ok (.iload_n 1, 1) := by decide +kernel
theorem dX11_then_26 : decode cX11_then 26 = .ok (.invokevirtual 162, 3) := by decide +kernel
theorem dX11_then_29 : decode cX11_then 29 = .ok (.astore_n 3, 1) := by decide +kernel
theorem dX11_then_30 : decode cX11_then 30 = .ok (.iload_n 2, 1) := by decide +kernel
theorem dX11_then_31 : decode cX11_then 31 = .ok (.tableswitch 40 0 2 #[25, 30, 35], 25) := by decide +kernel
theorem dX11_then_56 : decode cX11_then 56 = .ok (.aload_n 3, 1) := by decide +kernel
theorem dX11_then_57 : decode cX11_then 57 = .ok (.getfield 145, 3) := by decide +kernel
theorem dX11_then_60 : decode cX11_then 60 = .ok (.ireturn, 1) := by decide +kernel
theorem dX11_then_61 : decode cX11_then 61 = .ok (.aload_n 3, 1) := by decide +kernel
theorem dX11_then_62 : decode cX11_then 62 = .ok (.getfield 142, 3) := by decide +kernel
theorem dX11_then_65 : decode cX11_then 65 = .ok (.ireturn, 1) := by decide +kernel
theorem dX11_then_66 : decode cX11_then 66 = .ok (.aload_n 3, 1) := by decide +kernel
theorem dX11_then_67 : decode cX11_then 67 = .ok (.getfield 166, 3) := by decide +kernel
theorem dX11_then_70 : decode cX11_then 70 = .ok (.ireturn, 1) := by decide +kernel
theorem dX11_then_71 : decode cX11_then 71 = .ok (.aload_n 3, 1) := by decide +kernel
theorem dX11_then_72 : decode cX11_then 72 = .ok (.invokevirtual 154, 3) := by decide +kernel
theorem dX11_then_75 : decode cX11_then 75 = .ok (.ireturn, 1) := by decide +kernel
set_option maxRecDepth 20000 in
theorem ggX11_straight_X2_has : GoodIn wsX11_straight wsX2_has := goodIn_r _ [7, 8, 161, 162, 163, 164, 165, 166, 167, 168, 169, 170, 171, 172] (by decide +kernel) (by decide +kernel)
set_option maxRecDepth 20000 in
theorem gX11_straight_X2_has : GoodIn wsX11_straight (wsV RX11 95 RX2 yX2_has wsX2_has) := goodIn_app (goodIn_of _ (by decide +kernel)) ggX11_straight_X2_has
set_option maxRecDepth 20000 in
theorem ggX11_straight_X5_daysToStraight : GoodIn wsX11_straight wsX5_daysToStraight := goodIn_r _ [13, 14, 15, 16, 17, 18, 19, 6, 20, 21, 22, 23, 24, 25, 26, 27, 8, 28, 29, 30, 31, 32, 33, 34, 35, 36, 37, 38, 39, 40, 41, 42, 43, 44, 45, 46, 47, 48, 49, 50, 51, 52, 53, 54, 55, 56, 57, 58, 59, 60, 61, 62, 63, 64, 65, 66, 67, 68, 69, 70, 71, 72, 73, 74, 75, 76, 77, 78, 79, 80, 81, 82, 83, 84, 85, 86, 87, 88, 89, 90, 91, 92, 93, 94, 95, 96, 97, 98, 99, 100, 101, 102, 103, 104, 105, 106, 107, 108, 109, 110, 111, 112, 113, 114, 115, 116, 117, 118, 119, 120, 121, 122, 123, 124, 125, 126, 127, 128, 129, 130, 131, 132, 133, 134, 135, 136, 137, 138, 139, 140, 141, 142, 143, 144, 145, 146, 147, 148, 149, 150, 151, 152, 153, 154, 173, 174, 175, 176, 177, 161, 162, 163, 164, 165, 166, 167, 168, 169, 170, 171, 172] (by decide +kernel) (by decide +kernel)
set_option maxRecDepth 20000 in
theorem gX11_straight_X5_daysToStraight : GoodIn wsX11_straight (wsV RX11 169 RX5 yX5_daysToStraight wsX5_daysToStraight) := goodIn_app (goodIn_of _ (by decide +kernel)) ggX11_straight_X5_daysToStraight
theorem dX11_straight_0 : decode cX11_straight 0 = .ok (.aload_n 0, 1) := by decide +kernel
theorem dX11_straight_1 : decode cX11_straight 1 = .ok (.getfield 36, 3) := by decide +kernel
theorem dX11_straight_4 : decode cX11_straight 4 = .ok (.iload_n 1, 1) := by decide +kernel
theorem dX11_straight_5 : decode cX11_straight 5 = .ok (.invokevirtual 95, 3) := by decide +kernel
theorem dX11_straight_8 : decode cX11_straight 8 = .ok (.ifCond .eq 14, 3) := by decide +kernel
theorem dX11_straight_11 : decode cX11_straight 11 = .ok (.aload_n 0, 1) := by decide +kernel
theorem dX11_straight_12 : decode cX11_straight 12 = .ok (.getfield 53, 3) := by decide +kernel
theorem dX11_straight_15 : decode cX11_straight 15 = .ok (.iload_n 1, 1) := by decide +kernel
theorem dX11_straight_16 : decode cX11_straight 16 = .ok (.invokevirtual 169, 3) := by decide +kernel
theorem dX11_straight_19 : decode cX11_straight 19 = .ok (.goto 4, 3) := by decide +kernel
theorem dX11_straight_22 : decode cX11_straight 22 = .ok (.iconst (-1), 1) := by decide +kernel
theorem dX11_straight_23 : decode cX11_straight 23 = .ok (.ireturn, 1) := by decide +kernel
set_option maxRecDepth 20000 in
theorem ggX11_crash_X5_daysToCrash : GoodIn wsX11_crash wsX5_daysToCrash := goodIn_r _ [6, 7, 8, 9, 10, 11, 12, 13, 14, 15, 16, 17, 18, 19, 20, 21, 22, 23, 24, 25, 26, 27, 28, 29, 30, 31, 32, 33, 34, 35, 36, 37, 38, 39, 40, 41, 42, 43, 44, 45, 46, 47, 48, 49, 50, 51, 52, 53, 54, 55, 56, 57, 58, 59, 60, 61, 62, 63, 64, 65, 66, 67, 68, 69, 70, 71, 72, 73, 74, 75, 76, 77, 78, 79, 80, 81, 82, 83, 84, 85, 86, 87, 88, 89, 90, 91, 92, 93, 94, 95, 96, 97, 98, 99, 100, 101, 102, 103, 104, 105, 106, 107, 108, 109, 110, 111, 112, 113, 114, 115, 116, 117, 118, 119, 120, 121, 122, 123, 124, 125, 126, 127, 128, 129, 130, 131, 132, 133, 134, 135, 136, 137, 138, 139, 140, 141, 142, 143, 144, 145, 146, 147, 148, 149, 168, 169, 170, 171, 172, 173, 174, 175, 176, 177, 178, 179, 180, 181, 182, 183, 184] (by decide +kernel) (by decide +kernel)
set_option maxRecDepth 20000 in
theorem gX11_crash_X5_daysToCrash : GoodIn wsX11_crash (wsV RX11 172 RX5 yX5_daysToCrash wsX5_daysToCrash) := goodIn_app (goodIn_of _ (by decide +kernel)) ggX11_crash_X5_daysToCrash
set_option maxRecDepth 20000 in
theorem ggX11_crash_X5_daysToStill : GoodIn wsX11_crash wsX5_daysToStill := goodIn_r _ [153, 7, 8, 10, 11, 12, 13, 14, 15, 16, 17, 18, 19, 20, 21, 22, 23, 24, 25, 26, 27, 154, 155, 156, 5, 157, 158, 159, 160, 161, 28, 29, 30, 31, 32, 33, 34, 35, 36, 37, 38, 39, 40, 41, 42, 43, 44, 45, 46, 47, 48, 49, 50, 51, 52, 53, 54, 55, 56, 57, 58, 59, 60, 61, 62, 63, 64, 65, 66, 67, 68, 69, 70, 71, 72, 73, 74, 75, 76, 77, 78, 79, 80, 81, 82, 83, 84, 85, 86, 87, 88, 89, 90, 91, 92, 93, 94, 95, 96, 97, 98, 99, 100, 101, 102, 103, 104, 105, 106, 107, 108, 109, 110, 111, 112, 113, 114, 115, 116, 117, 118, 119, 120, 121, 122, 123, 124, 125, 126, 127, 128, 129, 130, 131, 132, 133, 134, 135, 136, 137, 138, 139, 140, 141, 142, 143, 144, 145, 146, 147, 148, 149, 168, 169, 170, 171, 172, 173, 174, 175, 176, 177, 178, 179, 180, 181, 182, 183, 184] (by decide +kernel) (by decide +kernel)
set_option maxRecDepth 20000 in
theorem gX11_crash_X5_daysToStill : GoodIn wsX11_crash (wsV RX11 175 RX5 yX5_daysToStill wsX5_daysToStill) := goodIn_app (goodIn_of _ (by decide +kernel)) ggX11_crash_X5_daysToStill
theorem dX11_crash_0 : decode cX11_crash 0 = .ok (.iload_n 1, 1) := by decide +kernel
theorem dX11_crash_1 : decode cX11_crash 1 = .ok (.lookupswitch 43 #[(0, 27), (1, 35)], 27) := by decide +kernel
theorem dX11_crash_28 : decode cX11_crash 28 = .ok (.aload_n 0, 1) := by decide +kernel
theorem dX11_crash_29 : decode cX11_crash 29 = .ok (.getfield 53, 3) := by decide +kernel
theorem dX11_crash_32 : decode cX11_crash 32 = .ok (.invokevirtual 172, 3) := by decide +kernel
theorem dX11_crash_35 : decode cX11_crash 35 = .ok (.ireturn, 1) := by decide +kernel
theorem dX11_crash_36 : decode cX11_crash 36 = .ok (.aload_n 0, 1) := by decide +kernel
theorem dX11_crash_37 : decode cX11_crash 37 = .ok (.getfield 53, 3) := by decide +kernel
theorem dX11_crash_40 : decode cX11_crash 40 = .ok (.invokevirtual 175, 3) := by decide +kernel
theorem dX11_crash_43 : decode cX11_crash 43 = .ok (.ireturn, 1) := by decide +kernel
theorem dX11_crash_44 : decode cX11_crash 44 = .ok (.iconst (-1), 1) := by decide +kernel
theorem dX11_crash_45 : decode cX11_crash 45 = .ok (.ireturn, 1) := by decide +kernel
set_option maxRecDepth 20000 in
theorem ggX11_finds_X2_has : GoodIn wsX11_finds wsX2_has := goodIn_r _ [7, 8, 161, 162, 163, 164, 165, 166, 167, 168, 169, 170, 171, 172] (by decide +kernel) (by decide +kernel)
set_option maxRecDepth 20000 in
theorem gX11_finds_X2_has : GoodIn wsX11_finds (wsV RX11 95 RX2 yX2_has wsX2_has) := goodIn_app (goodIn_of _ (by decide +kernel)) ggX11_finds_X2_has
set_option maxRecDepth 20000 in
theorem ggX11_finds_X5_daysToFind : GoodIn wsX11_finds wsX5_daysToFind := goodIn_r _ [13, 14, 15, 16, 17, 18, 19, 6, 20, 21, 22, 23, 24, 25, 26, 27, 8, 28, 29, 30, 31, 32, 33, 34, 35, 36, 37, 38, 39, 40, 41, 42, 43, 44, 45, 46, 47, 48, 49, 50, 51, 52, 53, 54, 55, 56, 57, 58, 59, 60, 61, 62, 63, 64, 65, 66, 67, 68, 69, 70, 71, 72, 73, 74, 75, 76, 77, 78, 79, 80, 81, 82, 83, 84, 85, 86, 87, 88, 89, 90, 91, 92, 93, 94, 95, 96, 97, 98, 99, 100, 101, 102, 103, 104, 105, 106, 107, 108, 109, 110, 111, 112, 113, 114, 115, 116, 117, 118, 119, 120, 121, 122, 123, 124, 125, 126, 127, 128, 129, 130, 131, 132, 133, 134, 135, 136, 137, 138, 139, 140, 141, 142, 143, 144, 145, 146, 147, 148, 149, 150, 151, 152, 153, 154, 173, 174, 175, 176, 177, 161, 162, 163, 164, 165, 166, 167, 168, 169, 170, 171, 172] (by decide +kernel) (by decide +kernel)
set_option maxRecDepth 20000 in
theorem gX11_finds_X5_daysToFind : GoodIn wsX11_finds (wsV RX11 178 RX5 yX5_daysToFind wsX5_daysToFind) := goodIn_app (goodIn_of _ (by decide +kernel)) ggX11_finds_X5_daysToFind
theorem dX11_finds_0 : decode cX11_finds 0 = .ok (.aload_n 0, 1) := by decide +kernel
theorem dX11_finds_1 : decode cX11_finds 1 = .ok (.getfield 36, 3) := by decide +kernel
theorem dX11_finds_4 : decode cX11_finds 4 = .ok (.iload_n 1, 1) := by decide +kernel
theorem dX11_finds_5 : decode cX11_finds 5 = .ok (.invokevirtual 95, 3) := by decide +kernel
theorem dX11_finds_8 : decode cX11_finds 8 = .ok (.ifCond .eq 14, 3) := by decide +kernel
theorem dX11_finds_11 : decode cX11_finds 11 = .ok (.aload_n 0, 1) := by decide +kernel
theorem dX11_finds_12 : decode cX11_finds 12 = .ok (.getfield 53, 3) := by decide +kernel
theorem dX11_finds_15 : decode cX11_finds 15 = .ok (.iload_n 1, 1) := by decide +kernel
theorem dX11_finds_16 : decode cX11_finds 16 = .ok (.invokevirtual 178, 3) := by decide +kernel
theorem dX11_finds_19 : decode cX11_finds 19 = .ok (.goto 4, 3) := by decide +kernel
theorem dX11_finds_22 : decode cX11_finds 22 = .ok (.iconst (-1), 1) := by decide +kernel
theorem dX11_finds_23 : decode cX11_finds 23 = .ok (.ireturn, 1) := by decide +kernel
set_option maxRecDepth 20000 in
theorem ggX11_trust_X2_mostTrusted : GoodIn wsX11_trust wsX2_mostTrusted := goodIn_r _ [6, 7, 8, 9, 10, 5, 11, 12, 13, 14, 15, 16, 17, 18, 19, 20, 21, 22, 23, 24, 25, 26, 27, 28, 29, 30, 31, 32, 33, 34, 35, 101, 102, 103, 104, 105, 106, 107, 108, 109, 110, 111, 112] (by decide +kernel) (by decide +kernel)
set_option maxRecDepth 20000 in
theorem gX11_trust_X2_mostTrusted : GoodIn wsX11_trust (wsV RX11 181 RX2 yX2_mostTrusted wsX2_mostTrusted) := goodIn_app (goodIn_of _ (by decide +kernel)) ggX11_trust_X2_mostTrusted
set_option maxRecDepth 20000 in
theorem ggX11_trust_X2_rivals : GoodIn wsX11_trust wsX2_rivals := goodIn_r _ [39, 7, 12, 13, 14, 5, 15, 16, 17, 18, 19, 20, 21, 22, 23, 24, 25, 26, 27, 28, 101, 102, 103, 104, 105, 106, 107, 108, 109, 110, 111, 112] (by decide +kernel) (by decide +kernel)
set_option maxRecDepth 20000 in
theorem gX11_trust_X2_rivals : GoodIn wsX11_trust (wsV RX11 184 RX2 yX2_rivals wsX2_rivals) := goodIn_app (goodIn_of _ (by decide +kernel)) ggX11_trust_X2_rivals
set_option maxRecDepth 20000 in
theorem ggX11_trust_X2_plumb : GoodIn wsX11_trust wsX2_plumb := goodIn_r _ [43, 7, 20, 25, 26, 27, 28, 101, 102, 103, 104, 105, 106, 107, 108, 109, 110, 111, 112] (by decide +kernel) (by decide +kernel)
set_option maxRecDepth 20000 in
theorem gX11_trust_X2_plumb : GoodIn wsX11_trust (wsV RX11 187 RX2 yX2_plumb wsX2_plumb) := goodIn_app (goodIn_of _ (by decide +kernel)) ggX11_trust_X2_plumb
set_option maxRecDepth 20000 in
theorem ggX11_trust_X2_east : GoodIn wsX11_trust wsX2_east := goodIn_r _ [47, 7, 20, 101, 102, 103, 104, 105, 106, 107, 108, 109, 110, 111, 112] (by decide +kernel) (by decide +kernel)
set_option maxRecDepth 20000 in
theorem gX11_trust_X2_east : GoodIn wsX11_trust (wsV RX11 190 RX2 yX2_east wsX2_east) := goodIn_app (goodIn_of _ (by decide +kernel)) ggX11_trust_X2_east
set_option maxRecDepth 20000 in
theorem ggX11_trust_X2_discountOfAll : GoodIn wsX11_trust wsX2_discountOfAll := goodIn_r _ [51, 7, 52, 53, 54, 5, 55, 56, 57, 58, 21, 22, 23, 24, 20, 25, 26, 27, 28, 59, 60, 61, 62, 63, 64, 65, 66, 67, 68, 69, 70, 71, 72, 73, 74, 75, 76, 77, 78, 79, 80, 81, 82, 83, 84, 85, 86, 87, 88, 89, 90, 91, 92, 93, 94, 101, 102, 103, 104, 105, 106, 107, 108, 109, 110, 111, 112] (by decide +kernel) (by decide +kernel)
set_option maxRecDepth 20000 in
theorem gX11_trust_X2_discountOfAll : GoodIn wsX11_trust (wsV RX11 193 RX2 yX2_discountOfAll wsX2_discountOfAll) := goodIn_app (goodIn_of _ (by decide +kernel)) ggX11_trust_X2_discountOfAll
theorem dX11_trust_0 : decode cX11_trust 0 = .ok (.iload_n 1, 1) := by decide +kernel
theorem dX11_trust_1 : decode cX11_trust 1 = .ok (.tableswitch 75 0 4 #[35, 43, 51, 59, 67], 35) := by decide +kernel
theorem dX11_trust_36 : decode cX11_trust 36 = .ok (.aload_n 0, 1) := by decide +kernel
theorem dX11_trust_37 : decode cX11_trust 37 = .ok (.getfield 36, 3) := by decide +kernel
theorem dX11_trust_40 : decode cX11_trust 40 = .ok (.invokevirtual 181, 3) := by decide +kernel
theorem dX11_trust_43 : decode cX11_trust 43 = .ok (.ireturn, 1) := by decide +kernel
theorem dX11_trust_44 : decode cX11_trust 44 = .ok (.aload_n 0, 1) := by decide +kernel
theorem dX11_trust_45 : decode cX11_trust 45 = .ok (.getfield 36, 3) := by decide +kernel
theorem dX11_trust_48 : decode cX11_trust 48 = .ok (.invokevirtual 184, 3) := by decide +kernel
theorem dX11_trust_51 : decode cX11_trust 51 = .ok (.ireturn, 1) := by decide +kernel
theorem dX11_trust_52 : decode cX11_trust 52 = .ok (.aload_n 0, 1) := by decide +kernel
theorem dX11_trust_53 : decode cX11_trust 53 = .ok (.getfield 36, 3) := by decide +kernel
theorem dX11_trust_56 : decode cX11_trust 56 = .ok (.invokevirtual 187, 3) := by decide +kernel
theorem dX11_trust_59 : decode cX11_trust 59 = .ok (.ireturn, 1) := by decide +kernel
theorem dX11_trust_60 : decode cX11_trust 60 = .ok (.aload_n 0, 1) := by decide +kernel
theorem dX11_trust_61 : decode cX11_trust 61 = .ok (.getfield 36, 3) := by decide +kernel
theorem dX11_trust_64 : decode cX11_trust 64 = .ok (.invokevirtual 190, 3) := by decide +kernel
theorem dX11_trust_67 : decode cX11_trust 67 = .ok (.ireturn, 1) := by decide +kernel
theorem dX11_trust_68 : decode cX11_trust 68 = .ok (.aload_n 0, 1) := by decide +kernel
theorem dX11_trust_69 : decode cX11_trust 69 = .ok (.getfield 36, 3) := by decide +kernel
theorem dX11_trust_72 : decode cX11_trust 72 = .ok (.invokevirtual 193, 3) := by decide +kernel
theorem dX11_trust_75 : decode cX11_trust 75 = .ok (.ireturn, 1) := by decide +kernel
theorem dX11_trust_76 : decode cX11_trust 76 = .ok (.iconst (-1), 1) := by decide +kernel
theorem dX11_trust_77 : decode cX11_trust 77 = .ok (.ireturn, 1) := by decide +kernel
set_option maxRecDepth 20000 in
theorem ggX11_tells_X2_has : GoodIn wsX11_tells wsX2_has := goodIn_r _ [6, 7, 39, 40, 41, 42, 43, 44, 45, 46, 47, 48, 49, 50] (by decide +kernel) (by decide +kernel)
set_option maxRecDepth 20000 in
theorem gX11_tells_X2_has : GoodIn wsX11_tells (wsV RX11 95 RX2 yX2_has wsX2_has) := goodIn_app (goodIn_of _ (by decide +kernel)) ggX11_tells_X2_has
set_option maxRecDepth 20000 in
theorem ggX11_tells_X2_tellers : GoodIn wsX11_tells wsX2_tellers := goodIn_r _ [11, 7, 12, 13, 14, 5, 15, 16, 17, 18, 19, 20, 21, 22, 23, 24, 25, 26, 27, 28, 29, 30, 31, 32, 39, 40, 41, 42, 43, 44, 45, 46, 47, 48, 49, 50] (by decide +kernel) (by decide +kernel)
set_option maxRecDepth 20000 in
theorem gX11_tells_X2_tellers : GoodIn wsX11_tells (wsV RX11 196 RX2 yX2_tellers wsX2_tellers) := goodIn_app (goodIn_of _ (by decide +kernel)) ggX11_tells_X2_tellers
theorem dX11_tells_0 : decode cX11_tells 0 = .ok (.aload_n 0, 1) := by decide +kernel
theorem dX11_tells_1 : decode cX11_tells 1 = .ok (.getfield 36, 3) := by decide +kernel
theorem dX11_tells_4 : decode cX11_tells 4 = .ok (.iload_n 1, 1) := by decide +kernel
theorem dX11_tells_5 : decode cX11_tells 5 = .ok (.invokevirtual 95, 3) := by decide +kernel
theorem dX11_tells_8 : decode cX11_tells 8 = .ok (.ifCond .eq 14, 3) := by decide +kernel
theorem dX11_tells_11 : decode cX11_tells 11 = .ok (.aload_n 0, 1) := by decide +kernel
theorem dX11_tells_12 : decode cX11_tells 12 = .ok (.getfield 36, 3) := by decide +kernel
theorem dX11_tells_15 : decode cX11_tells 15 = .ok (.iload_n 1, 1) := by decide +kernel
theorem dX11_tells_16 : decode cX11_tells 16 = .ok (.invokevirtual 196, 3) := by decide +kernel
theorem dX11_tells_19 : decode cX11_tells 19 = .ok (.goto 4, 3) := by decide +kernel
theorem dX11_tells_22 : decode cX11_tells 22 = .ok (.iconst (-1), 1) := by decide +kernel
theorem dX11_tells_23 : decode cX11_tells 23 = .ok (.ireturn, 1) := by decide +kernel
set_option maxRecDepth 20000 in
theorem ggX11_fewestProps_X11_isIn : GoodIn wsX11_fewestProps wsX11_isIn := goodIn_r _ [5] (by decide +kernel) (by decide +kernel)
set_option maxRecDepth 20000 in
theorem gX11_fewestProps_X11_isIn : GoodIn wsX11_fewestProps (va_wsS RX11 121 yX11_isIn wsX11_isIn) := goodIn_app (goodIn_of _ (by decide +kernel)) ggX11_fewestProps_X11_isIn
set_option maxRecDepth 20000 in
theorem ggX11_fewestProps_X5_propsAgainstCrash : GoodIn wsX11_fewestProps wsX5_propsAgainstCrash := goodIn_r _ [10, 11, 12, 13, 14, 15, 16, 17, 18, 19, 20, 21, 22, 23, 9, 24, 25, 26, 27, 28, 29, 30, 31, 32, 33, 34, 35, 36, 37, 38, 39, 40, 41, 42, 43, 44, 45, 46, 47, 48, 49, 50, 51, 52, 53, 54, 55, 56, 57, 58, 59, 60, 61, 62, 63, 64, 65, 66, 67, 68, 69, 70, 71, 72, 73, 74, 75, 76, 77, 78, 79, 80, 81, 82, 83, 84, 85, 86, 87, 88, 89, 90, 91, 92, 93, 94, 95, 96, 97, 98, 99, 100, 101, 102, 103, 104, 105, 106, 107, 108, 109, 110, 111, 112, 113, 114, 115, 116, 117, 118, 119, 120, 121, 122, 123, 124, 125, 126, 127, 128, 129, 130, 131, 132, 133, 134, 135, 136, 137, 138, 139, 140, 141, 142, 143, 144, 145, 146, 147, 148, 149, 150, 151, 152, 153, 154, 155, 156, 157, 158, 159, 160, 167, 168, 169, 170, 171, 172, 173, 174, 175, 176, 177, 178, 179, 180, 181, 182, 183] (by decide +kernel) (by decide +kernel)
set_option maxRecDepth 20000 in
theorem gX11_fewestProps_X5_propsAgainstCrash : GoodIn wsX11_fewestProps (wsV RX11 199 RX5 yX5_propsAgainstCrash wsX5_propsAgainstCrash) := goodIn_app (goodIn_of _ (by decide +kernel)) ggX11_fewestProps_X5_propsAgainstCrash
theorem dX11_fewestProps_0 : decode cX11_fewestProps 0 = .ok (.iload_n 1, 1) := by decide +kernel
theorem dX11_fewestProps_1 : decode cX11_fewestProps 1 = .ok (.iconst 1, 1) := by decide +kernel
theorem dX11_fewestProps_2 : decode cX11_fewestProps 2 = .ok (.bipush 30, 2) := by decide +kernel
theorem dX11_fewestProps_4 : decode cX11_fewestProps 4 = .ok (.invokestatic 121, 3) := by decide +kernel
theorem dX11_fewestProps_7 : decode cX11_fewestProps 7 = .ok (.ifCond .eq 14, 3) := by decide +kernel
theorem dX11_fewestProps_10 : decode cX11_fewestProps 10 = .ok (.aload_n 0, 1) := by decide +kernel
theorem dX11_fewestProps_11 : decode cX11_fewestProps 11 = .ok (.getfield 53, 3) := by decide +kernel
theorem dX11_fewestProps_14 : decode cX11_fewestProps 14 = .ok (.iload_n 1, 1) := by decide +kernel
theorem dX11_fewestProps_15 : decode cX11_fewestProps 15 = .ok (.invokevirtual 199, 3) := by decide +kernel
theorem dX11_fewestProps_18 : decode cX11_fewestProps 18 = .ok (.goto 4, 3) := by decide +kernel
theorem dX11_fewestProps_21 : decode cX11_fewestProps 21 = .ok (.iconst (-1), 1) := by decide +kernel
theorem dX11_fewestProps_22 : decode cX11_fewestProps 22 = .ok (.ireturn, 1) := by decide +kernel
set_option maxRecDepth 20000 in
theorem ggX11_push_X11_isIn : GoodIn wsX11_push wsX11_isIn := goodIn_r _ [5] (by decide +kernel) (by decide +kernel)
set_option maxRecDepth 20000 in
theorem gX11_push_X11_isIn : GoodIn wsX11_push (va_wsS RX11 121 yX11_isIn wsX11_isIn) := goodIn_app (goodIn_of _ (by decide +kernel)) ggX11_push_X11_isIn
set_option maxRecDepth 20000 in
theorem ggX11_push_X5_bestPush : GoodIn wsX11_push wsX5_bestPush := goodIn_r _ [10, 11, 12, 13, 14, 15, 16, 17, 9, 18, 19, 20, 21, 22, 23, 24, 25, 26, 27, 28, 29, 30, 31, 32, 33, 34, 35, 36, 37, 38, 39, 40, 41, 42, 43, 44, 45, 46, 47, 48, 49, 50, 51, 52, 53, 54, 55, 56, 57, 58, 59, 60, 61, 62, 63, 64, 65, 66, 67, 68, 69, 70, 71, 72, 73, 74, 75, 76, 77, 78, 79, 80, 81, 82, 83, 84, 85, 86, 87, 88, 89, 90, 91, 92, 93, 94, 95, 96, 97, 98, 99, 100, 101, 102, 103, 104, 105, 106, 107, 108, 109, 110, 111, 112, 113, 114, 115, 116, 117, 118, 119, 120, 121, 122, 123, 124, 125, 126, 127, 128, 129, 130, 131, 132, 133, 134, 135, 136, 137, 138, 139, 140, 141, 142, 143, 144, 145, 146, 147, 148, 149, 150, 151, 152, 153, 154, 155, 156, 157, 158, 159, 160, 161, 162, 163, 164, 171, 172, 173, 174, 175, 176, 177, 178, 179, 180, 181, 182, 183, 184, 185, 186, 187] (by decide +kernel) (by decide +kernel)
set_option maxRecDepth 20000 in
theorem gX11_push_X5_bestPush : GoodIn wsX11_push (wsV RX11 202 RX5 yX5_bestPush wsX5_bestPush) := goodIn_app (goodIn_of _ (by decide +kernel)) ggX11_push_X5_bestPush
theorem dX11_push_0 : decode cX11_push 0 = .ok (.iload_n 1, 1) := by decide +kernel
theorem dX11_push_1 : decode cX11_push 1 = .ok (.iconst 0, 1) := by decide +kernel
theorem dX11_push_2 : decode cX11_push 2 = .ok (.bipush 20, 2) := by decide +kernel
theorem dX11_push_4 : decode cX11_push 4 = .ok (.invokestatic 121, 3) := by decide +kernel
theorem dX11_push_7 : decode cX11_push 7 = .ok (.ifCond .eq 14, 3) := by decide +kernel
theorem dX11_push_10 : decode cX11_push 10 = .ok (.aload_n 0, 1) := by decide +kernel
theorem dX11_push_11 : decode cX11_push 11 = .ok (.getfield 53, 3) := by decide +kernel
theorem dX11_push_14 : decode cX11_push 14 = .ok (.iload_n 1, 1) := by decide +kernel
theorem dX11_push_15 : decode cX11_push 15 = .ok (.invokevirtual 202, 3) := by decide +kernel
theorem dX11_push_18 : decode cX11_push 18 = .ok (.goto 4, 3) := by decide +kernel
theorem dX11_push_21 : decode cX11_push 21 = .ok (.iconst (-1), 1) := by decide +kernel
theorem dX11_push_22 : decode cX11_push 22 = .ok (.ireturn, 1) := by decide +kernel
set_option maxRecDepth 20000 in
theorem ggX11_right_X2_rightOne : GoodIn wsX11_right wsX2_rightOne := goodIn_r _ [6, 7, 8, 9, 10, 5, 11, 12, 13, 14, 15, 16, 17, 18, 19, 20, 21, 22, 23, 24, 25, 26, 27, 28, 29, 30, 31, 32, 33, 34, 35, 36, 37, 38, 39, 40, 41, 42, 43, 44, 45, 46, 47, 48, 49, 50, 51, 52, 53, 54, 55, 56, 57, 58, 88, 89, 90, 91, 92, 93, 94, 95, 96, 97, 98, 99] (by decide +kernel) (by decide +kernel)
set_option maxRecDepth 20000 in
theorem gX11_right_X2_rightOne : GoodIn wsX11_right (wsV RX11 205 RX2 yX2_rightOne wsX2_rightOne) := goodIn_app (goodIn_of _ (by decide +kernel)) ggX11_right_X2_rightOne
set_option maxRecDepth 20000 in
theorem ggX11_right_X2_walls : GoodIn wsX11_right wsX2_walls := goodIn_r _ [62, 7, 63, 12, 64, 65, 15, 66, 88, 89, 90, 91, 92, 93, 94, 95, 96, 97, 98, 99] (by decide +kernel) (by decide +kernel)
set_option maxRecDepth 20000 in
theorem gX11_right_X2_walls : GoodIn wsX11_right (wsV RX11 208 RX2 yX2_walls wsX2_walls) := goodIn_app (goodIn_of _ (by decide +kernel)) ggX11_right_X2_walls
set_option maxRecDepth 20000 in
theorem ggX11_right_X2_balance : GoodIn wsX11_right wsX2_balance := goodIn_r _ [70, 7, 71, 72, 73, 74, 75, 76, 77, 78, 79, 80, 5, 81, 12, 88, 89, 90, 91, 92, 93, 94, 95, 96, 97, 98, 99] (by decide +kernel) (by decide +kernel)
set_option maxRecDepth 20000 in
theorem gX11_right_X2_balance : GoodIn wsX11_right (wsV RX11 211 RX2 yX2_balance wsX2_balance) := goodIn_app (goodIn_of _ (by decide +kernel)) ggX11_right_X2_balance
theorem dX11_right_0 : decode cX11_right 0 = .ok (.iload_n 1, 1) := by decide +kernel
theorem dX11_right_1 : decode cX11_right 1 = .ok (.tableswitch 51 0 2 #[27, 35, 43], 27) := by decide +kernel
theorem dX11_right_28 : decode cX11_right 28 = .ok (.aload_n 0, 1) := by decide +kernel
theorem dX11_right_29 : decode cX11_right 29 = .ok (.getfield 36, 3) := by decide +kernel
theorem dX11_right_32 : decode cX11_right 32 = .ok (.invokevirtual 205, 3) := by decide +kernel
theorem dX11_right_35 : decode cX11_right 35 = .ok (.ireturn, 1) := by decide +kernel
theorem dX11_right_36 : decode cX11_right 36 = .ok (.aload_n 0, 1) := by decide +kernel
theorem dX11_right_37 : decode cX11_right 37 = .ok (.getfield 36, 3) := by decide +kernel
theorem dX11_right_40 : decode cX11_right 40 = .ok (.invokevirtual 208, 3) := by decide +kernel
theorem dX11_right_43 : decode cX11_right 43 = .ok (.ireturn, 1) := by decide +kernel
theorem dX11_right_44 : decode cX11_right 44 = .ok (.aload_n 0, 1) := by decide +kernel
theorem dX11_right_45 : decode cX11_right 45 = .ok (.getfield 36, 3) := by decide +kernel
theorem dX11_right_48 : decode cX11_right 48 = .ok (.invokevirtual 211, 3) := by decide +kernel
theorem dX11_right_51 : decode cX11_right 51 = .ok (.ireturn, 1) := by decide +kernel
theorem dX11_right_52 : decode cX11_right 52 = .ok (.iconst (-1), 1) := by decide +kernel
theorem dX11_right_53 : decode cX11_right 53 = .ok (.ireturn, 1) := by decide +kernel
set_option maxRecDepth 20000 in
theorem ggX11_whatIs_X2_has : GoodIn wsX11_whatIs wsX2_has := goodIn_r _ [8, 9, 205, 206, 207, 208, 209, 210, 211, 212, 213, 214, 215, 216] (by decide +kernel) (by decide +kernel)
set_option maxRecDepth 20000 in
theorem gX11_whatIs_X2_has : GoodIn wsX11_whatIs (wsV RX11 95 RX2 yX2_has wsX2_has) := goodIn_app (goodIn_of _ (by decide +kernel)) ggX11_whatIs_X2_has
set_option maxRecDepth 20000 in
theorem ggX11_whatIs_X11_isIn : GoodIn wsX11_whatIs wsX11_isIn := goodIn_r _ [13] (by decide +kernel) (by decide +kernel)
set_option maxRecDepth 20000 in
theorem gX11_whatIs_X11_isIn : GoodIn wsX11_whatIs (va_wsS RX11 121 yX11_isIn wsX11_isIn) := goodIn_app (goodIn_of _ (by decide +kernel)) ggX11_whatIs_X11_isIn
set_option maxRecDepth 20000 in
theorem ggX11_whatIs_X11_refusalOfRow : GoodIn wsX11_whatIs wsX11_refusalOfRow := goodIn_r _ [17, 3, 18, 19, 12, 20, 10, 11, 13, 21, 22, 23, 24, 25, 26, 27, 28, 29, 30, 199, 200, 201, 202, 203, 204, 217, 218, 219, 220, 221, 222, 223] (by decide +kernel) (by decide +kernel)
set_option maxRecDepth 20000 in
theorem gX11_whatIs_X11_refusalOfRow : GoodIn wsX11_whatIs (wsV RX11 64 RX11 yX11_refusalOfRow wsX11_refusalOfRow) := goodIn_app (goodIn_of _ (by decide +kernel)) ggX11_whatIs_X11_refusalOfRow
set_option maxRecDepth 20000 in
theorem ggX11_whatIs_X5_kindsThatDid : GoodIn wsX11_whatIs wsX5_kindsThatDid := goodIn_r _ [35, 36, 37, 38, 39, 40, 41, 7, 42, 43, 44, 45, 46, 47, 48, 49, 9, 50, 51, 52, 53, 54, 55, 56, 57, 34, 58, 59, 60, 61, 62, 63, 24, 64, 65, 66, 67, 68, 69, 70, 71, 72, 73, 74, 75, 76, 77, 78, 79, 80, 81, 82, 83, 84, 85, 86, 87, 88, 89, 90, 91, 92, 93, 94, 95, 96, 97, 98, 99, 100, 101, 102, 103, 104, 105, 106, 107, 108, 109, 110, 111, 112, 113, 114, 115, 116, 117, 118, 119, 120, 121, 122, 123, 124, 125, 126, 127, 128, 129, 130, 131, 132, 133, 134, 135, 136, 137, 138, 139, 140, 141, 142, 143, 144, 145, 146, 147, 148, 149, 150, 151, 152, 153, 154, 155, 156, 157, 158, 159, 160, 161, 162, 163, 164, 165, 166, 167, 168, 169, 170, 171, 172, 173, 174, 175, 176, 177, 178, 179, 180, 181, 182, 183, 184, 185, 186, 187, 188, 189, 190, 191, 192, 193, 224, 225, 226, 227, 228, 205, 206, 207, 208, 209, 210, 211, 212, 213, 214, 215, 216, 217, 218, 219, 220, 221, 222, 223] (by decide +kernel) (by decide +kernel)
set_option maxRecDepth 20000 in
theorem gX11_whatIs_X5_kindsThatDid : GoodIn wsX11_whatIs (wsV RX11 214 RX5 yX5_kindsThatDid wsX5_kindsThatDid) := goodIn_app (goodIn_of _ (by decide +kernel)) ggX11_whatIs_X5_kindsThatDid
set_option maxRecDepth 20000 in
theorem ggX11_whatIs_X5_figuresThatDid : GoodIn wsX11_whatIs wsX5_figuresThatDid := goodIn_r _ [197, 36, 37, 198, 39, 40, 41, 7, 42, 43, 44, 45, 46, 47, 48, 49, 9, 50, 51, 52, 53, 54, 55, 56, 57, 34, 58, 59, 60, 61, 62, 63, 24, 64, 65, 66, 67, 68, 69, 70, 71, 72, 73, 74, 75, 76, 77, 78, 79, 80, 81, 82, 83, 84, 85, 86, 87, 88, 89, 90, 91, 92, 93, 94, 95, 96, 97, 98, 99, 100, 101, 102, 103, 104, 105, 106, 107, 108, 109, 110, 111, 112, 113, 114, 115, 116, 117, 118, 119, 120, 121, 122, 123, 124, 125, 126, 127, 128, 129, 130, 131, 132, 133, 134, 135, 136, 137, 138, 139, 140, 141, 142, 143, 144, 145, 146, 147, 148, 149, 150, 151, 152, 153, 154, 155, 156, 157, 158, 159, 160, 161, 162, 163, 164, 165, 166, 167, 168, 169, 170, 171, 172, 173, 174, 175, 176, 177, 178, 179, 180, 181, 182, 183, 184, 185, 186, 187, 188, 189, 190, 191, 192, 193, 224, 225, 226, 227, 228, 205, 206, 207, 208, 209, 210, 211, 212, 213, 214, 215, 216, 217, 218, 219, 220, 221, 222, 223] (by decide +kernel) (by decide +kernel)
set_option maxRecDepth 20000 in
theorem gX11_whatIs_X5_figuresThatDid : GoodIn wsX11_whatIs (wsV RX11 218 RX5 yX5_figuresThatDid wsX5_figuresThatDid) := goodIn_app (goodIn_of _ (by decide +kernel)) ggX11_whatIs_X5_figuresThatDid
theorem dX11_whatIs_0 : decode cX11_whatIs 0 = .ok (.aload_n 0, 1) := by decide +kernel
theorem dX11_whatIs_1 : decode cX11_whatIs 1 = .ok (.getfield 36, 3) := by decide +kernel
theorem dX11_whatIs_4 : decode cX11_whatIs 4 = .ok (.iload_n 2, 1) := by decide +kernel
theorem dX11_whatIs_5 : decode cX11_whatIs 5 = .ok (.invokevirtual 95, 3) := by decide +kernel
theorem dX11_whatIs_8 : decode cX11_whatIs 8 = .ok (.ifCond .eq 12, 3) := by decide +kernel
theorem dX11_whatIs_11 : decode cX11_whatIs 11 = .ok (.iload_n 3, 1) := by decide +kernel
theorem dX11_whatIs_12 : decode cX11_whatIs 12 = .ok (.iconst 0, 1) := by decide +kernel
theorem dX11_whatIs_13 : decode cX11_whatIs 13 = .ok (.iconst 1, 1) := by decide +kernel
theorem dX11_whatIs_14 : decode cX11_whatIs 14 = .ok (.invokestatic 121, 3) := by decide +kernel
theorem dX11_whatIs_17 : decode cX11_whatIs 17 = .ok (.ifCond .ne 5, 3) := by decide +kernel
theorem dX11_whatIs_20 : decode cX11_whatIs 20 = .ok (.iconst (-1), 1) := by decide +kernel
theorem dX11_whatIs_21 : decode cX11_whatIs 21 = .ok (.ireturn, 1) := by decide +kernel
theorem dX11_whatIs_22 : decode cX11_whatIs 22 = .ok (.aload_n 0, 1) := by decide +kernel
theorem dX11_whatIs_23 : decode cX11_whatIs 23 = .ok (.iload_n 1, 1) := by decide +kernel
theorem dX11_whatIs_24 : decode cX11_whatIs 24 = .ok (.invokevirtual 64, 3) := by decide +kernel
theorem dX11_whatIs_27 : decode cX11_whatIs 27 = .ok (.istore 4, 2) := by decide +kernel
theorem dX11_whatIs_29 : decode cX11_whatIs 29 = .ok (.iload 4, 2) := by decide +kernel
theorem dX11_whatIs_31 : decode cX11_whatIs 31 = .ok (.ifCond .eq 6, 3) := by decide +kernel
theorem dX11_whatIs_34 : decode cX11_whatIs 34 = .ok (.iload 4, 2) := by decide +kernel
theorem dX11_whatIs_36 : decode cX11_whatIs 36 = .ok (.ireturn, 1) := by decide +kernel
theorem dX11_whatIs_37 : decode cX11_whatIs 37 = .ok (.iload_n 3, 1) := by decide +kernel
theorem dX11_whatIs_38 : decode cX11_whatIs 38 = .ok (.ifCond .ne 20, 3) := by decide +kernel
theorem dX11_whatIs_41 : decode cX11_whatIs 41 = .ok (.aload_n 0, 1) := by decide +kernel
theorem dX11_whatIs_42 : decode cX11_whatIs 42 = .ok (.getfield 53, 3) := by decide +kernel
theorem dX11_whatIs_45 : decode cX11_whatIs 45 = .ok (.iload_n 2, 1) := by decide +kernel
theorem dX11_whatIs_46 : decode cX11_whatIs 46 = .ok (.aload_n 0, 1) := by decide +kernel
theorem dX11_whatIs_47 : decode cX11_whatIs 47 = .ok (.getfield 59, 3) := by decide +kernel
theorem dX11_whatIs_50 : decode cX11_whatIs 50 = .ok (.iload_n 1, 1) := by decide +kernel
theorem dX11_whatIs_51 : decode cX11_whatIs 51 = .ok (.aaload, 1) := by decide +kernel
theorem dX11_whatIs_52 : decode cX11_whatIs 52 = .ok (.invokevirtual 214, 3) := by decide +kernel
theorem dX11_whatIs_55 : decode cX11_whatIs 55 = .ok (.goto 17, 3) := by decide +kernel
theorem dX11_whatIs_58 : decode cX11_whatIs 58 = .ok (.aload_n 0, 1) := by decide +kernel
theorem dX11_whatIs_59 : decode cX11_whatIs 59 = .ok (.getfield 53, 3) := by decide +kernel
theorem dX11_whatIs_62 : decode cX11_whatIs 62 = .ok (.iload_n 2, 1) := by decide +kernel
theorem dX11_whatIs_63 : decode cX11_whatIs 63 = .ok (.aload_n 0, 1) := by decide +kernel
theorem dX11_whatIs_64 : decode cX11_whatIs 64 = .ok (.getfield 59, 3) := by decide +kernel
theorem dX11_whatIs_67 : decode cX11_whatIs 67 = .ok (.iload_n 1, 1) := by decide +kernel
theorem dX11_whatIs_68 : decode cX11_whatIs 68 = .ok (.aaload, 1) := by decide +kernel
theorem dX11_whatIs_69 : decode cX11_whatIs 69 = .ok (.invokevirtual 218, 3) := by decide +kernel
theorem dX11_whatIs_72 : decode cX11_whatIs 72 = .ok (.ireturn, 1) := by decide +kernel
set_option maxRecDepth 20000 in
theorem ggX11_whereHung_X11_isIn : GoodIn wsX11_whereHung wsX11_isIn := goodIn_r _ [6] (by decide +kernel) (by decide +kernel)
set_option maxRecDepth 20000 in
theorem gX11_whereHung_X11_isIn : GoodIn wsX11_whereHung (va_wsS RX11 121 yX11_isIn wsX11_isIn) := goodIn_app (goodIn_of _ (by decide +kernel)) ggX11_whereHung_X11_isIn
set_option maxRecDepth 20000 in
theorem ggX11_whereHung_X11_refusalOfRow : GoodIn wsX11_whereHung wsX11_refusalOfRow := goodIn_r _ [10, 2, 11, 12, 5, 13, 3, 4, 6, 14, 15, 16, 17, 18, 19, 20, 21, 22, 23, 189, 190, 191, 192, 193, 194, 195, 196, 197, 198, 199, 200, 201] (by decide +kernel) (by decide +kernel)
set_option maxRecDepth 20000 in
theorem gX11_whereHung_X11_refusalOfRow : GoodIn wsX11_whereHung (wsV RX11 64 RX11 yX11_refusalOfRow wsX11_refusalOfRow) := goodIn_app (goodIn_of _ (by decide +kernel)) ggX11_whereHung_X11_refusalOfRow
set_option maxRecDepth 20000 in
theorem ggX11_whereHung_X5_hangings : GoodIn wsX11_whereHung wsX5_hangings := goodIn_r _ [28, 29, 30, 31, 27, 32, 33, 34, 35, 36, 37, 38, 39, 40, 41, 42, 43, 44, 45, 46, 47, 48, 49, 50, 51, 52, 53, 54, 55, 56, 57, 58, 17, 59, 60, 61, 62, 63, 64, 65, 66, 67, 68, 69, 70, 71, 72, 73, 74, 75, 76, 77, 78, 79, 80, 81, 82, 83, 84, 85, 86, 87, 88, 89, 90, 91, 92, 93, 94, 95, 96, 97, 98, 99, 100, 101, 102, 103, 104, 105, 106, 107, 108, 109, 110, 111, 112, 113, 114, 115, 116, 117, 118, 119, 120, 121, 122, 123, 124, 125, 126, 127, 128, 129, 130, 131, 132, 133, 134, 135, 136, 137, 138, 139, 140, 141, 142, 143, 144, 145, 146, 147, 148, 149, 150, 151, 152, 153, 154, 155, 156, 157, 158, 159, 160, 161, 162, 163, 164, 165, 166, 167, 168, 169, 170, 171, 172, 173, 174, 175, 176, 177, 178, 179, 180, 181, 182, 183, 184, 185, 186, 187, 188, 202, 203, 204, 205, 206, 207, 208, 209, 210, 211, 212, 213, 214, 215, 216, 217, 218, 195, 196, 197, 198, 199, 200, 201] (by decide +kernel) (by decide +kernel)
set_option maxRecDepth 20000 in
theorem gX11_whereHung_X5_hangings : GoodIn wsX11_whereHung (wsV RX11 221 RX5 yX5_hangings wsX5_hangings) := goodIn_app (goodIn_of _ (by decide +kernel)) ggX11_whereHung_X5_hangings
theorem dX11_whereHung_0 : decode cX11_whereHung 0 = .ok (.iload_n 2, 1) := by decide +kernel
theorem dX11_whereHung_1 : decode cX11_whereHung 1 = .ok (.iconst 0, 1) := by decide +kernel
theorem dX11_whereHung_2 : decode cX11_whereHung 2 = .ok (.iconst 2, 1) := by decide +kernel
theorem dX11_whereHung_3 : decode cX11_whereHung 3 = .ok (.invokestatic 121, 3) := by decide +kernel
theorem dX11_whereHung_6 : decode cX11_whereHung 6 = .ok (.ifCond .ne 5, 3) := by decide +kernel
theorem dX11_whereHung_9 : decode cX11_whereHung 9 = .ok (.iconst (-1), 1) := by decide +kernel
theorem dX11_whereHung_10 : decode cX11_whereHung 10 = .ok (.ireturn, 1) := by decide +kernel
theorem dX11_whereHung_11 : decode cX11_whereHung 11 = .ok (.aload_n 0, 1) := by decide +kernel
theorem dX11_whereHung_12 : decode cX11_whereHung 12 = .ok (.iload_n 1, 1) := by decide +kernel
theorem dX11_whereHung_13 : decode cX11_whereHung 13 = .ok (.invokevirtual 64, 3) := by decide +kernel
theorem dX11_whereHung_16 : decode cX11_whereHung 16 = .ok (.istore_n 3, 1) := by decide +kernel
theorem dX11_whereHung_17 : decode cX11_whereHung 17 = .ok (.iload_n 3, 1) := by decide +kernel
theorem dX11_whereHung_18 : decode cX11_whereHung 18 = .ok (.ifCond .eq 7, 3) := by decide +kernel
theorem dX11_whereHung_21 : decode cX11_whereHung 21 = .ok (.iload_n 3, 1) := by decide +kernel
theorem dX11_whereHung_22 : decode cX11_whereHung 22 = .ok (.goto 17, 3) := by decide +kernel
theorem dX11_whereHung_25 : decode cX11_whereHung 25 = .ok (.aload_n 0, 1) := by decide +kernel
theorem dX11_whereHung_26 : decode cX11_whereHung 26 = .ok (.getfield 53, 3) := by decide +kernel
theorem dX11_whereHung_29 : decode cX11_whereHung 29 = .ok (.aload_n 0, 1) := by decide +kernel
theorem dX11_whereHung_30 : decode cX11_whereHung 30 = .ok (.getfield 59, 3) := by decide +kernel
theorem dX11_whereHung_33 : decode cX11_whereHung 33 = .ok (.iload_n 1, 1) := by decide +kernel
theorem dX11_whereHung_34 : decode cX11_whereHung 34 = .ok (.aaload, 1) := by decide +kernel
theorem dX11_whereHung_35 : decode cX11_whereHung 35 = .ok (.iload_n 2, 1) := by decide +kernel
theorem dX11_whereHung_36 : decode cX11_whereHung 36 = .ok (.invokevirtual 221, 3) := by decide +kernel
theorem dX11_whereHung_39 : decode cX11_whereHung 39 = .ok (.ireturn, 1) := by decide +kernel
set_option maxRecDepth 20000 in
theorem ggX11_two_X2_has : GoodIn wsX11_two wsX2_has := goodIn_r _ [7, 8, 187, 188, 189, 190, 191, 192, 193, 194, 195, 196, 197, 198] (by decide +kernel) (by decide +kernel)
set_option maxRecDepth 20000 in
theorem gX11_two_X2_has : GoodIn wsX11_two (wsV RX11 95 RX2 yX2_has wsX2_has) := goodIn_app (goodIn_of _ (by decide +kernel)) ggX11_two_X2_has
set_option maxRecDepth 20000 in
theorem ggX11_two_X11_isIn : GoodIn wsX11_two wsX11_isIn := goodIn_r _ [12] (by decide +kernel) (by decide +kernel)
set_option maxRecDepth 20000 in
theorem gX11_two_X11_isIn : GoodIn wsX11_two (va_wsS RX11 121 yX11_isIn wsX11_isIn) := goodIn_app (goodIn_of _ (by decide +kernel)) ggX11_two_X11_isIn
set_option maxRecDepth 20000 in
theorem ggX11_two_X5_settledPair : GoodIn wsX11_two wsX5_settledPair := goodIn_r _ [17, 18, 19, 20, 21, 22, 23, 24, 25, 6, 26, 27, 28, 29, 30, 31, 32, 33, 8, 34, 35, 36, 37, 38, 39, 40, 41, 42, 43, 44, 45, 46, 47, 48, 49, 50, 51, 52, 53, 54, 55, 56, 57, 58, 59, 60, 61, 62, 63, 64, 65, 66, 67, 68, 69, 70, 71, 72, 73, 74, 75, 76, 77, 78, 79, 80, 81, 82, 83, 84, 85, 86, 87, 88, 89, 90, 91, 92, 93, 94, 95, 96, 97, 98, 99, 100, 101, 102, 103, 104, 105, 106, 107, 108, 109, 110, 111, 112, 113, 114, 115, 116, 117, 118, 119, 120, 121, 122, 123, 124, 125, 126, 127, 128, 129, 130, 131, 132, 133, 134, 135, 136, 137, 138, 139, 140, 141, 142, 143, 144, 145, 146, 147, 148, 149, 150, 151, 152, 153, 154, 155, 156, 157, 158, 159, 160, 161, 162, 163, 164, 165, 166, 167, 16, 168, 169, 170, 171, 172, 173, 174, 175, 176, 177, 178, 179, 180, 199, 200, 201, 202, 203, 187, 188, 189, 190, 191, 192, 193, 194, 195, 196, 197, 198] (by decide +kernel) (by decide +kernel)
set_option maxRecDepth 20000 in
theorem gX11_two_X5_settledPair : GoodIn wsX11_two (wsV RX11 225 RX5 yX5_settledPair wsX5_settledPair) := goodIn_app (goodIn_of _ (by decide +kernel)) ggX11_two_X5_settledPair
theorem dX11_two_0 : decode cX11_two 0 = .ok (.aload_n 0, 1) := by decide +kernel
theorem dX11_two_1 : decode cX11_two 1 = .ok (.getfield 36, 3) := by decide +kernel
theorem dX11_two_4 : decode cX11_two 4 = .ok (.iload_n 1, 1) := by decide +kernel
theorem dX11_two_5 : decode cX11_two 5 = .ok (.invokevirtual 95, 3) := by decide +kernel
theorem dX11_two_8 : decode cX11_two 8 = .ok (.ifCond .eq 29, 3) := by decide +kernel
theorem dX11_two_11 : decode cX11_two 11 = .ok (.aload_n 0, 1) := by decide +kernel
theorem dX11_two_12 : decode cX11_two 12 = .ok (.getfield 36, 3) := by decide +kernel
theorem dX11_two_15 : decode cX11_two 15 = .ok (.iload_n 2, 1) := by decide +kernel
theorem dX11_two_16 : decode cX11_two 16 = .ok (.invokevirtual 95, 3) := by decide +kernel
theorem dX11_two_19 : decode cX11_two 19 = .ok (.ifCond .eq 18, 3) := by decide +kernel
theorem dX11_two_22 : decode cX11_two 22 = .ok (.iload_n 1, 1) := by decide +kernel
theorem dX11_two_23 : decode cX11_two 23 = .ok (.iload_n 2, 1) := by decide +kernel
theorem dX11_two_24 : decode cX11_two 24 = .ok (.if_icmp .eq 13, 3) := by decide +kernel
theorem dX11_two_27 : decode cX11_two 27 = .ok (.iload_n 3, 1) := by decide +kernel
theorem dX11_two_28 : decode cX11_two 28 = .ok (.iconst 1, 1) := by decide +kernel
theorem dX11_two_29 : decode cX11_two 29 = .ok (.bipush 30, 2) := by decide +kernel
theorem dX11_two_31 : decode cX11_two 31 = .ok (.invokestatic 121, 3) := by decide +kernel
theorem dX11_two_34 : decode cX11_two 34 = .ok (.ifCond .ne 5, 3) := by decide +kernel
theorem dX11_two_37 : decode cX11_two 37 = .ok (.iconst (-1), 1) := by decide +kernel
theorem dX11_two_38 : decode cX11_two 38 = .ok (.ireturn, 1) := by decide +kernel
theorem dX11_two_39 : decode cX11_two 39 = .ok (.aload_n 0, 1) := by decide +kernel
theorem dX11_two_40 : decode cX11_two 40 = .ok (.getfield 53, 3) := by decide +kernel
theorem dX11_two_43 : decode cX11_two 43 = .ok (.iload_n 1, 1) := by decide +kernel
theorem dX11_two_44 : decode cX11_two 44 = .ok (.iload_n 2, 1) := by decide +kernel
theorem dX11_two_45 : decode cX11_two 45 = .ok (.iload_n 3, 1) := by decide +kernel
theorem dX11_two_46 : decode cX11_two 46 = .ok (.invokevirtual 225, 3) := by decide +kernel
theorem dX11_two_49 : decode cX11_two 49 = .ok (.ireturn, 1) := by decide +kernel
set_option maxRecDepth 20000 in
theorem ggX11_shocks_X2_has : GoodIn wsX11_shocks wsX2_has := goodIn_r _ [8, 9, 188, 189, 190, 191, 192, 193, 194, 195, 196, 197, 198, 199] (by decide +kernel) (by decide +kernel)
set_option maxRecDepth 20000 in
theorem gX11_shocks_X2_has : GoodIn wsX11_shocks (wsV RX11 95 RX2 yX2_has wsX2_has) := goodIn_app (goodIn_of _ (by decide +kernel)) ggX11_shocks_X2_has
set_option maxRecDepth 20000 in
theorem ggX11_shocks_X11_isIn : GoodIn wsX11_shocks wsX11_isIn := goodIn_r _ [13] (by decide +kernel) (by decide +kernel)
set_option maxRecDepth 20000 in
theorem gX11_shocks_X11_isIn : GoodIn wsX11_shocks (va_wsS RX11 121 yX11_isIn wsX11_isIn) := goodIn_app (goodIn_of _ (by decide +kernel)) ggX11_shocks_X11_isIn
set_option maxRecDepth 20000 in
theorem ggX11_shocks_X5_shockedUpright : GoodIn wsX11_shocks wsX5_shockedUpright := goodIn_r _ [18, 19, 20, 21, 22, 23, 7, 24, 25, 26, 27, 28, 29, 30, 31, 9, 32, 33, 34, 35, 36, 37, 38, 39, 40, 41, 42, 43, 44, 45, 46, 47, 48, 49, 50, 51, 52, 53, 54, 55, 56, 57, 58, 59, 60, 61, 62, 63, 64, 65, 66, 67, 68, 69, 70, 71, 72, 73, 74, 75, 76, 77, 78, 79, 80, 81, 82, 83, 84, 85, 86, 87, 88, 89, 90, 91, 92, 93, 94, 95, 96, 97, 98, 99, 100, 101, 102, 103, 104, 105, 106, 107, 108, 109, 110, 111, 112, 113, 114, 115, 116, 117, 118, 119, 120, 121, 122, 123, 124, 125, 126, 127, 128, 129, 130, 131, 132, 133, 134, 135, 136, 137, 138, 139, 140, 141, 142, 143, 144, 145, 146, 147, 148, 149, 150, 151, 152, 153, 154, 155, 156, 157, 158, 159, 160, 161, 162, 163, 164, 165, 166, 167, 168, 169, 170, 171, 172, 173, 12, 174, 200, 201, 202, 203, 204, 188, 189, 190, 191, 192, 193, 194, 195, 196, 197, 198, 199] (by decide +kernel) (by decide +kernel)
set_option maxRecDepth 20000 in
theorem gX11_shocks_X5_shockedUpright : GoodIn wsX11_shocks (wsV RX11 231 RX5 yX5_shockedUpright wsX5_shockedUpright) := goodIn_app (goodIn_of _ (by decide +kernel)) ggX11_shocks_X5_shockedUpright
set_option maxRecDepth 20000 in
theorem ggX11_shocks_X11_power : GoodIn wsX11_shocks wsX11_power := goodIn_r _ [174] (by decide +kernel) (by decide +kernel)
set_option maxRecDepth 20000 in
theorem gX11_shocks_X11_power : GoodIn wsX11_shocks (va_wsS RX11 235 yX11_power wsX11_power) := goodIn_app (goodIn_of _ (by decide +kernel)) ggX11_shocks_X11_power
set_option maxRecDepth 20000 in
theorem ggX11_shocks_X11_leastTerm : GoodIn wsX11_shocks wsX11_leastTerm := goodIn_r _ [178, 179, 180, 12, 181] (by decide +kernel) (by decide +kernel)
set_option maxRecDepth 20000 in
theorem gX11_shocks_X11_leastTerm : GoodIn wsX11_shocks (va_wsS RX11 239 yX11_leastTerm wsX11_leastTerm) := goodIn_app (goodIn_of _ (by decide +kernel)) ggX11_shocks_X11_leastTerm
theorem dX11_shocks_0 : decode cX11_shocks 0 = .ok (.aload_n 0, 1) := by decide +kernel
theorem dX11_shocks_1 : decode cX11_shocks 1 = .ok (.getfield 36, 3) := by decide +kernel
theorem dX11_shocks_4 : decode cX11_shocks 4 = .ok (.iload_n 1, 1) := by decide +kernel
theorem dX11_shocks_5 : decode cX11_shocks 5 = .ok (.invokevirtual 95, 3) := by decide +kernel
theorem dX11_shocks_8 : decode cX11_shocks 8 = .ok (.ifCond .eq 33, 3) := by decide +kernel
theorem dX11_shocks_11 : decode cX11_shocks 11 = .ok (.iload_n 2, 1) := by decide +kernel
theorem dX11_shocks_12 : decode cX11_shocks 12 = .ok (.iconst 0, 1) := by decide +kernel
theorem dX11_shocks_13 : decode cX11_shocks 13 = .ok (.bipush 7, 2) := by decide +kernel
theorem dX11_shocks_15 : decode cX11_shocks 15 = .ok (.invokestatic 121, 3) := by decide +kernel
theorem dX11_shocks_18 : decode cX11_shocks 18 = .ok (.ifCond .eq 23, 3) := by decide +kernel
theorem dX11_shocks_21 : decode cX11_shocks 21 = .ok (.iload_n 3, 1) := by decide +kernel
theorem dX11_shocks_22 : decode cX11_shocks 22 = .ok (.iconst 2, 1) := by decide +kernel
theorem dX11_shocks_23 : decode cX11_shocks 23 = .ok (.bipush 20, 2) := by decide +kernel
theorem dX11_shocks_25 : decode cX11_shocks 25 = .ok (.invokestatic 121, 3) := by decide +kernel
theorem dX11_shocks_28 : decode cX11_shocks 28 = .ok (.ifCond .eq 13, 3) := by decide +kernel
theorem dX11_shocks_31 : decode cX11_shocks 31 = .ok (.iload 4, 2) := by decide +kernel
theorem dX11_shocks_33 : decode cX11_shocks 33 = .ok (.iconst 0, 1) := by decide +kernel
theorem dX11_shocks_34 : decode cX11_shocks 34 = .ok (.iconst 1, 1) := by decide +kernel
theorem dX11_shocks_35 : decode cX11_shocks 35 = .ok (.invokestatic 121, 3) := by decide +kernel
theorem dX11_shocks_38 : decode cX11_shocks 38 = .ok (.ifCond .ne 7, 3) := by decide +kernel
theorem dX11_shocks_41 : decode cX11_shocks 41 = .ok (.ldc2_w 229, 3) := by decide +kernel
theorem dX11_shocks_44 : decode cX11_shocks 44 = .ok (.lreturn, 1) := by decide +kernel
theorem dX11_shocks_45 : decode cX11_shocks 45 = .ok (.aload_n 0, 1) := by decide +kernel
theorem dX11_shocks_46 : decode cX11_shocks 46 = .ok (.getfield 53, 3) := by decide +kernel
theorem dX11_shocks_49 : decode cX11_shocks 49 = .ok (.iload_n 1, 1) := by decide +kernel
theorem dX11_shocks_50 : decode cX11_shocks 50 = .ok (.iload_n 2, 1) := by decide +kernel
theorem dX11_shocks_51 : decode cX11_shocks 51 = .ok (.iload_n 3, 1) := by decide +kernel
theorem dX11_shocks_52 : decode cX11_shocks 52 = .ok (.invokevirtual 231, 3) := by decide +kernel
theorem dX11_shocks_55 : decode cX11_shocks 55 = .ok (.iload_n 3, 1) := by decide +kernel
theorem dX11_shocks_56 : decode cX11_shocks 56 = .ok (.iload_n 2, 1) := by decide +kernel
theorem dX11_shocks_57 : decode cX11_shocks 57 = .ok (.invokestatic 235, 3) := by decide +kernel
theorem dX11_shocks_60 : decode cX11_shocks 60 = .ok (.iload 4, 2) := by decide +kernel
theorem dX11_shocks_62 : decode cX11_shocks 62 = .ok (.invokestatic 239, 3) := by decide +kernel
theorem dX11_shocks_65 : decode cX11_shocks 65 = .ok (.lreturn, 1) := by decide +kernel
set_option maxRecDepth 20000 in
theorem ggX11_mean_X11_isIn : GoodIn wsX11_mean wsX11_isIn := goodIn_r _ [7] (by decide +kernel) (by decide +kernel)
set_option maxRecDepth 20000 in
theorem gX11_mean_X11_isIn : GoodIn wsX11_mean (va_wsS RX11 121 yX11_isIn wsX11_isIn) := goodIn_app (goodIn_of _ (by decide +kernel)) ggX11_mean_X11_isIn
set_option maxRecDepth 20000 in
theorem ggX11_mean_X2_sumOfLeans : GoodIn wsX11_mean wsX2_sumOfLeans := goodIn_r _ [12, 13, 14, 27, 28, 29, 30, 31, 32, 33, 34, 35, 36, 37, 38] (by decide +kernel) (by decide +kernel)
set_option maxRecDepth 20000 in
theorem gX11_mean_X2_sumOfLeans : GoodIn wsX11_mean (wsV RX11 243 RX2 yX2_sumOfLeans wsX2_sumOfLeans) := goodIn_app (goodIn_of _ (by decide +kernel)) ggX11_mean_X2_sumOfLeans
set_option maxRecDepth 20000 in
theorem ggX11_mean_X11_leastTerm : GoodIn wsX11_mean wsX11_leastTerm := goodIn_r _ [17, 18, 19, 6, 20] (by decide +kernel) (by decide +kernel)
set_option maxRecDepth 20000 in
theorem gX11_mean_X11_leastTerm : GoodIn wsX11_mean (va_wsS RX11 239 yX11_leastTerm wsX11_leastTerm) := goodIn_app (goodIn_of _ (by decide +kernel)) ggX11_mean_X11_leastTerm
theorem dX11_mean_0 : decode cX11_mean 0 = .ok (.iload_n 1, 1) := by decide +kernel
theorem dX11_mean_1 : decode cX11_mean 1 = .ok (.iconst 0, 1) := by decide +kernel
theorem dX11_mean_2 : decode cX11_mean 2 = .ok (.iconst 1, 1) := by decide +kernel
theorem dX11_mean_3 : decode cX11_mean 3 = .ok (.invokestatic 121, 3) := by decide +kernel
theorem dX11_mean_6 : decode cX11_mean 6 = .ok (.ifCond .ne 7, 3) := by decide +kernel
theorem dX11_mean_9 : decode cX11_mean 9 = .ok (.ldc2_w 229, 3) := by decide +kernel
theorem dX11_mean_12 : decode cX11_mean 12 = .ok (.lreturn, 1) := by decide +kernel
theorem dX11_mean_13 : decode cX11_mean 13 = .ok (.aload_n 0, 1) := by decide +kernel
theorem dX11_mean_14 : decode cX11_mean 14 = .ok (.getfield 36, 3) := by decide +kernel
theorem dX11_mean_17 : decode cX11_mean 17 = .ok (.getfield 135, 3) := by decide +kernel
theorem dX11_mean_20 : decode cX11_mean 20 = .ok (.ifCond .ne 6, 3) := by decide +kernel
theorem dX11_mean_23 : decode cX11_mean 23 = .ok (.iload_n 1, 1) := by decide +kernel
theorem dX11_mean_24 : decode cX11_mean 24 = .ok (.i2l, 1) := by decide +kernel
theorem dX11_mean_25 : decode cX11_mean 25 = .ok (.lreturn, 1) := by decide +kernel
theorem dX11_mean_26 : decode cX11_mean 26 = .ok (.aload_n 0, 1) := by decide +kernel
theorem dX11_mean_27 : decode cX11_mean 27 = .ok (.getfield 36, 3) := by decide +kernel
theorem dX11_mean_30 : decode cX11_mean 30 = .ok (.invokevirtual 243, 3) := by decide +kernel
theorem dX11_mean_33 : decode cX11_mean 33 = .ok (.bipush 45, 2) := by decide +kernel
theorem dX11_mean_35 : decode cX11_mean 35 = .ok (.aload_n 0, 1) := by decide +kernel
theorem dX11_mean_36 : decode cX11_mean 36 = .ok (.getfield 36, 3) := by decide +kernel
theorem dX11_mean_39 : decode cX11_mean 39 = .ok (.getfield 135, 3) := by decide +kernel
theorem dX11_mean_42 : decode cX11_mean 42 = .ok (.imul, 1) := by decide +kernel
theorem dX11_mean_43 : decode cX11_mean 43 = .ok (.iadd, 1) := by decide +kernel
theorem dX11_mean_44 : decode cX11_mean 44 = .ok (.i2l, 1) := by decide +kernel
theorem dX11_mean_45 : decode cX11_mean 45 = .ok (.aload_n 0, 1) := by decide +kernel
theorem dX11_mean_46 : decode cX11_mean 46 = .ok (.getfield 36, 3) := by decide +kernel
theorem dX11_mean_49 : decode cX11_mean 49 = .ok (.getfield 135, 3) := by decide +kernel
theorem dX11_mean_52 : decode cX11_mean 52 = .ok (.i2l, 1) := by decide +kernel
theorem dX11_mean_53 : decode cX11_mean 53 = .ok (.iload_n 1, 1) := by decide +kernel
theorem dX11_mean_54 : decode cX11_mean 54 = .ok (.invokestatic 239, 3) := by decide +kernel
theorem dX11_mean_57 : decode cX11_mean 57 = .ok (.lreturn, 1) := by decide +kernel
set_option maxRecDepth 20000 in
theorem ggX11_forged_X11_refusalOfRow : GoodIn wsX11_forged wsX11_refusalOfRow := goodIn_r _ [6, 1, 7, 8, 5, 9, 10, 11, 12, 13, 14, 15, 16, 17, 18, 19, 20, 21, 22, 37, 38, 39, 40, 41, 42, 43, 44, 45, 46, 47, 48, 49] (by decide +kernel) (by decide +kernel)
set_option maxRecDepth 20000 in
theorem gX11_forged_X11_refusalOfRow : GoodIn wsX11_forged (wsV RX11 64 RX11 yX11_refusalOfRow wsX11_refusalOfRow) := goodIn_app (goodIn_of _ (by decide +kernel)) ggX11_forged_X11_refusalOfRow
set_option maxRecDepth 20000 in
theorem ggX11_forged_X11_firstForged : GoodIn wsX11_forged wsX11_firstForged := goodIn_r _ [26, 27, 28, 29, 30, 31, 32, 33, 34, 35, 36, 43, 44, 45, 46, 47, 48, 49, 37, 38, 39, 40, 41, 42, 50, 51, 52, 53, 54, 55, 56, 57, 58, 59, 60, 61] (by decide +kernel) (by decide +kernel)
set_option maxRecDepth 20000 in
theorem gX11_forged_X11_firstForged : GoodIn wsX11_forged (wsV RX11 246 RX11 yX11_firstForged wsX11_firstForged) := goodIn_app (goodIn_of _ (by decide +kernel)) ggX11_forged_X11_firstForged
theorem dX11_forged_0 : decode cX11_forged 0 = .ok (.aload_n 0, 1) := by decide +kernel
theorem dX11_forged_1 : decode cX11_forged 1 = .ok (.iload_n 1, 1) := by decide +kernel
theorem dX11_forged_2 : decode cX11_forged 2 = .ok (.invokevirtual 64, 3) := by decide +kernel
theorem dX11_forged_5 : decode cX11_forged 5 = .ok (.istore_n 2, 1) := by decide +kernel
theorem dX11_forged_6 : decode cX11_forged 6 = .ok (.iload_n 2, 1) := by decide +kernel
theorem dX11_forged_7 : decode cX11_forged 7 = .ok (.ifCond .eq 7, 3) := by decide +kernel
theorem dX11_forged_10 : decode cX11_forged 10 = .ok (.iload_n 2, 1) := by decide +kernel
theorem dX11_forged_11 : decode cX11_forged 11 = .ok (.goto 13, 3) := by decide +kernel
theorem dX11_forged_14 : decode cX11_forged 14 = .ok (.aload_n 0, 1) := by decide +kernel
theorem dX11_forged_15 : decode cX11_forged 15 = .ok (.aload_n 0, 1) := by decide +kernel
theorem dX11_forged_16 : decode cX11_forged 16 = .ok (.getfield 59, 3) := by decide +kernel
theorem dX11_forged_19 : decode cX11_forged 19 = .ok (.iload_n 1, 1) := by decide +kernel
theorem dX11_forged_20 : decode cX11_forged 20 = .ok (.aaload, 1) := by decide +kernel
theorem dX11_forged_21 : decode cX11_forged 21 = .ok (.invokevirtual 246, 3) := by decide +kernel
theorem dX11_forged_24 : decode cX11_forged 24 = .ok (.ireturn, 1) := by decide +kernel
set_option maxRecDepth 20000 in
theorem ggX11_judge_X11_refusalOfRow : GoodIn wsX11_judge wsX11_refusalOfRow := goodIn_r _ [7, 2, 8, 9, 6, 10, 11, 12, 13, 14, 15, 16, 17, 18, 19, 20, 21, 22, 23, 185, 186, 187, 188, 189, 190, 191, 192, 193, 194, 195, 196, 197] (by decide +kernel) (by decide +kernel)
set_option maxRecDepth 20000 in
theorem gX11_judge_X11_refusalOfRow : GoodIn wsX11_judge (wsV RX11 64 RX11 yX11_refusalOfRow wsX11_refusalOfRow) := goodIn_app (goodIn_of _ (by decide +kernel)) ggX11_judge_X11_refusalOfRow
set_option maxRecDepth 20000 in
theorem ggX11_judge_X5_firstMisjudged : GoodIn wsX11_judge wsX5_firstMisjudged := goodIn_r _ [28, 29, 30, 31, 32, 33, 34, 35, 36, 37, 38, 39, 40, 41, 42, 43, 44, 45, 46, 47, 48, 49, 50, 51, 52, 53, 54, 55, 56, 57, 58, 59, 60, 61, 62, 63, 64, 65, 66, 67, 68, 69, 70, 71, 72, 73, 74, 75, 76, 77, 78, 79, 80, 81, 82, 83, 84, 85, 86, 87, 88, 89, 90, 91, 92, 93, 94, 95, 96, 97, 98, 99, 100, 101, 102, 103, 17, 104, 105, 106, 107, 108, 109, 110, 111, 112, 113, 114, 115, 116, 117, 118, 119, 120, 121, 122, 123, 124, 125, 126, 127, 128, 129, 130, 131, 132, 133, 134, 135, 136, 137, 138, 139, 140, 141, 142, 143, 144, 145, 146, 147, 148, 149, 150, 151, 152, 153, 154, 155, 156, 157, 158, 159, 160, 161, 162, 163, 164, 165, 166, 167, 168, 169, 170, 171, 172, 173, 174, 175, 176, 177, 178, 179, 180, 181, 182, 183, 184, 198, 199, 200, 201, 202, 191, 192, 193, 194, 195, 196, 197, 203, 204, 205, 206, 207, 208, 209, 210, 211, 212, 213, 214] (by decide +kernel) (by decide +kernel)
set_option maxRecDepth 20000 in
theorem gX11_judge_X5_firstMisjudged : GoodIn wsX11_judge (wsV RX11 250 RX5 yX5_firstMisjudged wsX5_firstMisjudged) := goodIn_app (goodIn_of _ (by decide +kernel)) ggX11_judge_X5_firstMisjudged
theorem dX11_judge_0 : decode cX11_judge 0 = .ok (.aload_n 0, 1) := by decide +kernel
theorem dX11_judge_1 : decode cX11_judge 1 = .ok (.iload_n 1, 1) := by decide +kernel
theorem dX11_judge_2 : decode cX11_judge 2 = .ok (.invokevirtual 64, 3) := by decide +kernel
theorem dX11_judge_5 : decode cX11_judge 5 = .ok (.istore_n 2, 1) := by decide +kernel
theorem dX11_judge_6 : decode cX11_judge 6 = .ok (.iload_n 2, 1) := by decide +kernel
theorem dX11_judge_7 : decode cX11_judge 7 = .ok (.ifCond .eq 7, 3) := by decide +kernel
theorem dX11_judge_10 : decode cX11_judge 10 = .ok (.iload_n 2, 1) := by decide +kernel
theorem dX11_judge_11 : decode cX11_judge 11 = .ok (.goto 16, 3) := by decide +kernel
theorem dX11_judge_14 : decode cX11_judge 14 = .ok (.aload_n 0, 1) := by decide +kernel
theorem dX11_judge_15 : decode cX11_judge 15 = .ok (.getfield 53, 3) := by decide +kernel
theorem dX11_judge_18 : decode cX11_judge 18 = .ok (.aload_n 0, 1) := by decide +kernel
theorem dX11_judge_19 : decode cX11_judge 19 = .ok (.getfield 59, 3) := by decide +kernel
theorem dX11_judge_22 : decode cX11_judge 22 = .ok (.iload_n 1, 1) := by decide +kernel
theorem dX11_judge_23 : decode cX11_judge 23 = .ok (.aaload, 1) := by decide +kernel
theorem dX11_judge_24 : decode cX11_judge 24 = .ok (.invokevirtual 250, 3) := by decide +kernel
theorem dX11_judge_27 : decode cX11_judge 27 = .ok (.ireturn, 1) := by decide +kernel
set_option maxRecDepth 20000 in
theorem ggX11_years_X11_isIn : GoodIn wsX11_years wsX11_isIn := goodIn_r _ [5] (by decide +kernel) (by decide +kernel)
set_option maxRecDepth 20000 in
theorem gX11_years_X11_isIn : GoodIn wsX11_years (va_wsS RX11 121 yX11_isIn wsX11_isIn) := goodIn_app (goodIn_of _ (by decide +kernel)) ggX11_years_X11_isIn
set_option maxRecDepth 20000 in
theorem ggX11_years_X5_drawnYears : GoodIn wsX11_years wsX5_drawnYears := goodIn_r _ [10, 11, 12, 13, 14, 15, 16, 17, 18, 19, 20, 21, 22, 23, 24, 25, 26, 27, 28, 29, 30, 31, 32, 33, 34, 35, 36, 37, 38, 39, 40, 41, 42, 43, 44, 45, 46, 47, 48, 49, 50, 51, 52, 53, 54, 55, 56, 57, 58, 59, 60, 61, 62, 63, 64, 65, 66, 67, 68, 69, 70, 71, 72, 73, 74, 75, 76, 77, 78, 79, 80, 81, 82, 83, 84, 85, 86, 87, 88, 89, 90, 91, 92, 93, 94, 95, 96, 97, 98, 99, 100, 101, 102, 103, 104, 105, 106, 107, 108, 109, 110, 111, 112, 113, 114, 115, 116, 117, 118, 119, 120, 121, 122, 123, 124, 125, 126, 127, 128, 129, 130, 131, 132, 133, 134, 135, 136, 137, 138, 139, 140, 141, 142, 143, 144, 145, 146, 147, 148, 149, 150, 151, 152, 153, 154, 155, 156, 157, 158, 159, 160, 161, 162, 163, 164, 171, 172, 173, 174, 175, 176, 177, 178, 179, 180, 181, 182, 183, 184, 185, 186, 187] (by decide +kernel) (by decide +kernel)
set_option maxRecDepth 20000 in
theorem gX11_years_X5_drawnYears : GoodIn wsX11_years (wsV RX11 253 RX5 yX5_drawnYears wsX5_drawnYears) := goodIn_app (goodIn_of _ (by decide +kernel)) ggX11_years_X5_drawnYears
theorem dX11_years_0 : decode cX11_years 0 = .ok (.iload_n 1, 1) := by decide +kernel
theorem dX11_years_1 : decode cX11_years 1 = .ok (.iconst 1, 1) := by decide +kernel
theorem dX11_years_2 : decode cX11_years 2 = .ok (.bipush 20, 2) := by decide +kernel
theorem dX11_years_4 : decode cX11_years 4 = .ok (.invokestatic 121, 3) := by decide +kernel
theorem dX11_years_7 : decode cX11_years 7 = .ok (.ifCond .eq 12, 3) := by decide +kernel
theorem dX11_years_10 : decode cX11_years 10 = .ok (.iload_n 3, 1) := by decide +kernel
theorem dX11_years_11 : decode cX11_years 11 = .ok (.iconst 0, 1) := by decide +kernel
theorem dX11_years_12 : decode cX11_years 12 = .ok (.iconst 1, 1) := by decide +kernel
theorem dX11_years_13 : decode cX11_years 13 = .ok (.invokestatic 121, 3) := by decide +kernel
theorem dX11_years_16 : decode cX11_years 16 = .ok (.ifCond .ne 5, 3) := by decide +kernel
theorem dX11_years_19 : decode cX11_years 19 = .ok (.iconst (-1), 1) := by decide +kernel
theorem dX11_years_20 : decode cX11_years 20 = .ok (.ireturn, 1) := by decide +kernel
theorem dX11_years_21 : decode cX11_years 21 = .ok (.aload_n 0, 1) := by decide +kernel
theorem dX11_years_22 : decode cX11_years 22 = .ok (.getfield 53, 3) := by decide +kernel
theorem dX11_years_25 : decode cX11_years 25 = .ok (.iload_n 1, 1) := by decide +kernel
theorem dX11_years_26 : decode cX11_years 26 = .ok (.iload_n 2, 1) := by decide +kernel
theorem dX11_years_27 : decode cX11_years 27 = .ok (.iload_n 3, 1) := by decide +kernel
theorem dX11_years_28 : decode cX11_years 28 = .ok (.invokevirtual 253, 3) := by decide +kernel
theorem dX11_years_31 : decode cX11_years 31 = .ok (.ireturn, 1) := by decide +kernel
set_option maxRecDepth 20000 in
theorem ggX11_image_X2_becomes : GoodIn wsX11_image wsX2_becomes := goodIn_r _ [9, 10, 11, 12, 13, 14, 15, 16, 17, 18, 19, 20, 21, 22, 29, 30, 31, 32, 33, 34, 35, 36, 37, 38, 39, 40] (by decide +kernel) (by decide +kernel)
set_option maxRecDepth 20000 in
theorem gX11_image_X2_becomes : GoodIn wsX11_image (wsV RX11 76 RX2 yX2_becomes wsX2_becomes) := goodIn_app (goodIn_of _ (by decide +kernel)) ggX11_image_X2_becomes
theorem dX11_image_0 : decode cX11_image 0 = .ok (.aload_n 0, 1) := by decide +kernel
theorem dX11_image_1 : decode cX11_image 1 = .ok (.getfield 42, 3) := by decide +kernel
theorem dX11_image_4 : decode cX11_image 4 = .ok (.aload_n 0, 1) := by decide +kernel
theorem dX11_image_5 : decode cX11_image 5 = .ok (.getfield 36, 3) := by decide +kernel
theorem dX11_image_8 : decode cX11_image 8 = .ok (.invokevirtual 76, 3) := by decide +kernel
theorem dX11_image_11 : decode cX11_image 11 = .ok (.aload_n 0, 1) := by decide +kernel
theorem dX11_image_12 : decode cX11_image 12 = .ok (.iconst 1, 1) := by decide +kernel
theorem dX11_image_13 : decode cX11_image 13 = .ok (.putfield 256, 3) := by decide +kernel
theorem dX11_image_16 : decode cX11_image 16 = .ok (.aload_n 0, 1) := by decide +kernel
theorem dX11_image_17 : decode cX11_image 17 = .ok (.getfield 36, 3) := by decide +kernel
theorem dX11_image_20 : decode cX11_image 20 = .ok (.getfield 148, 3) := by decide +kernel
theorem dX11_image_23 : decode cX11_image 23 = .ok (.ireturn, 1) := by decide +kernel
set_option maxRecDepth 20000 in
theorem ggX11_restore_X2_becomes : GoodIn wsX11_restore wsX2_becomes := goodIn_r _ [9, 10, 11, 12, 13, 14, 15, 16, 17, 18, 19, 20, 21, 22, 29, 30, 31, 32, 33, 34, 35, 36, 37, 38, 39, 40] (by decide +kernel) (by decide +kernel)
set_option maxRecDepth 20000 in
theorem gX11_restore_X2_becomes : GoodIn wsX11_restore (wsV RX11 76 RX2 yX2_becomes wsX2_becomes) := goodIn_app (goodIn_of _ (by decide +kernel)) ggX11_restore_X2_becomes
theorem dX11_restore_0 : decode cX11_restore 0 = .ok (.aload_n 0, 1) := by decide +kernel
theorem dX11_restore_1 : decode cX11_restore 1 = .ok (.getfield 256, 3) := by decide +kernel
theorem dX11_restore_4 : decode cX11_restore 4 = .ok (.ifCond .ne 6, 3) := by decide +kernel
theorem dX11_restore_7 : decode cX11_restore 7 = .ok (.bipush (-3), 2) := by decide +kernel
theorem dX11_restore_9 : decode cX11_restore 9 = .ok (.ireturn, 1) := by decide +kernel
theorem dX11_restore_10 : decode cX11_restore 10 = .ok (.aload_n 0, 1) := by decide +kernel
theorem dX11_restore_11 : decode cX11_restore 11 = .ok (.getfield 36, 3) := by decide +kernel
theorem dX11_restore_14 : decode cX11_restore 14 = .ok (.aload_n 0, 1) := by decide +kernel
theorem dX11_restore_15 : decode cX11_restore 15 = .ok (.getfield 42, 3) := by decide +kernel
theorem dX11_restore_18 : decode cX11_restore 18 = .ok (.invokevirtual 76, 3) := by decide +kernel
theorem dX11_restore_21 : decode cX11_restore 21 = .ok (.aload_n 0, 1) := by decide +kernel
theorem dX11_restore_22 : decode cX11_restore 22 = .ok (.getfield 36, 3) := by decide +kernel
theorem dX11_restore_25 : decode cX11_restore 25 = .ok (.getfield 148, 3) := by decide +kernel
theorem dX11_restore_28 : decode cX11_restore 28 = .ok (.ireturn, 1) := by decide +kernel
set_option maxRecDepth 20000 in
theorem ggX11_count_X2_upright : GoodIn wsX11_count wsX2_upright := goodIn_r _ [12, 13, 14, 15, 16, 17, 18, 19, 20, 21, 22, 23, 24, 25, 26, 27, 28, 29, 30, 31, 32, 33, 34, 35, 36, 37, 38, 39, 40, 41, 42, 43, 44, 45, 46, 47, 48, 49, 50, 51, 52, 53, 54, 55, 56, 63, 64, 65, 66, 67, 68, 69, 70, 71, 72, 73, 74] (by decide +kernel) (by decide +kernel)
set_option maxRecDepth 20000 in
theorem gX11_count_X2_upright : GoodIn wsX11_count (wsV RX11 154 RX2 yX2_upright wsX2_upright) := goodIn_app (goodIn_of _ (by decide +kernel)) ggX11_count_X2_upright
theorem dX11_count_0 : decode cX11_count 0 = .ok (.iload_n 1, 1) := by decide +kernel
theorem dX11_count_1 : decode cX11_count 1 = .ok (.tableswitch 99 0 6 #[43, 51, 59, 67, 75, 83, 91], 43) := by decide +kernel
theorem dX11_count_44 : decode cX11_count 44 = .ok (.aload_n 0, 1) := by decide +kernel
theorem dX11_count_45 : decode cX11_count 45 = .ok (.getfield 36, 3) := by decide +kernel
theorem dX11_count_48 : decode cX11_count 48 = .ok (.getfield 135, 3) := by decide +kernel
theorem dX11_count_51 : decode cX11_count 51 = .ok (.ireturn, 1) := by decide +kernel
theorem dX11_count_52 : decode cX11_count 52 = .ok (.aload_n 0, 1) := by decide +kernel
theorem dX11_count_53 : decode cX11_count 53 = .ok (.getfield 36, 3) := by decide +kernel
theorem dX11_count_56 : decode cX11_count 56 = .ok (.getfield 148, 3) := by decide +kernel
theorem dX11_count_59 : decode cX11_count 59 = .ok (.ireturn, 1) := by decide +kernel
theorem dX11_count_60 : decode cX11_count 60 = .ok (.aload_n 0, 1) := by decide +kernel
theorem dX11_count_61 : decode cX11_count 61 = .ok (.getfield 36, 3) := by decide +kernel
theorem dX11_count_64 : decode cX11_count 64 = .ok (.getfield 145, 3) := by decide +kernel
theorem dX11_count_67 : decode cX11_count 67 = .ok (.ireturn, 1) := by decide +kernel
theorem dX11_count_68 : decode cX11_count 68 = .ok (.aload_n 0, 1) := by decide +kernel
theorem dX11_count_69 : decode cX11_count 69 = .ok (.getfield 36, 3) := by decide +kernel
theorem dX11_count_72 : decode cX11_count 72 = .ok (.getfield 142, 3) := by decide +kernel
theorem dX11_count_75 : decode cX11_count 75 = .ok (.ireturn, 1) := by decide +kernel
theorem dX11_count_76 : decode cX11_count 76 = .ok (.aload_n 0, 1) := by decide +kernel
theorem dX11_count_77 : decode cX11_count 77 = .ok (.getfield 36, 3) := by decide +kernel
theorem dX11_count_80 : decode cX11_count 80 = .ok (.getfield 166, 3) := by decide +kernel
theorem dX11_count_83 : decode cX11_count 83 = .ok (.ireturn, 1) := by decide +kernel
theorem dX11_count_84 : decode cX11_count 84 = .ok (.aload_n 0, 1) := by decide +kernel
theorem dX11_count_85 : decode cX11_count 85 = .ok (.getfield 36, 3) := by decide +kernel
theorem dX11_count_88 : decode cX11_count 88 = .ok (.invokevirtual 154, 3) := by decide +kernel
theorem dX11_count_91 : decode cX11_count 91 = .ok (.ireturn, 1) := by decide +kernel
theorem dX11_count_92 : decode cX11_count 92 = .ok (.aload_n 0, 1) := by decide +kernel
theorem dX11_count_93 : decode cX11_count 93 = .ok (.getfield 36, 3) := by decide +kernel
theorem dX11_count_96 : decode cX11_count 96 = .ok (.getfield 260, 3) := by decide +kernel
theorem dX11_count_99 : decode cX11_count 99 = .ok (.ireturn, 1) := by decide +kernel
theorem dX11_count_100 : decode cX11_count 100 = .ok (.iconst (-1), 1) := by decide +kernel
theorem dX11_count_101 : decode cX11_count 101 = .ok (.ireturn, 1) := by decide +kernel
set_option maxRecDepth 20000 in
theorem ggX11_keep_X11_isShelf : GoodIn wsX11_keep wsX11_isShelf := goodIn_r _ [5, 6, 7, 4, 8] (by decide +kernel) (by decide +kernel)
set_option maxRecDepth 20000 in
theorem gX11_keep_X11_isShelf : GoodIn wsX11_keep (va_wsS RX11 263 yX11_isShelf wsX11_isShelf) := goodIn_app (goodIn_of _ (by decide +kernel)) ggX11_keep_X11_isShelf
set_option maxRecDepth 20000 in
theorem ggX11_keep_X11_isIn : GoodIn wsX11_keep wsX11_isIn := goodIn_r _ [8] (by decide +kernel) (by decide +kernel)
set_option maxRecDepth 20000 in
theorem gX11_keep_X11_isIn : GoodIn wsX11_keep (va_wsS RX11 121 yX11_isIn wsX11_isIn) := goodIn_app (goodIn_of _ (by decide +kernel)) ggX11_keep_X11_isIn
set_option maxRecDepth 20000 in
theorem ggX11_keep_X9_clears : GoodIn wsX11_keep wsX9_clears := goodIn_r _ [13, 14, 27, 28, 29, 30, 31, 32, 33] (by decide +kernel) (by decide +kernel)
set_option maxRecDepth 20000 in
theorem gX11_keep_X9_clears : GoodIn wsX11_keep (wsV RX11 266 RX9 yX9_clears wsX9_clears) := goodIn_app (goodIn_of _ (by decide +kernel)) ggX11_keep_X9_clears
set_option maxRecDepth 20000 in
theorem ggX11_keep_X9_holdsKind : GoodIn wsX11_keep wsX9_holdsKind := goodIn_r _ [18, 14, 19, 20, 27, 28, 29, 30, 31, 32, 33] (by decide +kernel) (by decide +kernel)
set_option maxRecDepth 20000 in
theorem gX11_keep_X9_holdsKind : GoodIn wsX11_keep (wsV RX11 269 RX9 yX9_holdsKind wsX9_holdsKind) := goodIn_app (goodIn_of _ (by decide +kernel)) ggX11_keep_X9_holdsKind
theorem dX11_keep_0 : decode cX11_keep 0 = .ok (.iload_n 1, 1) := by decide +kernel
theorem dX11_keep_1 : decode cX11_keep 1 = .ok (.invokestatic 263, 3) := by decide +kernel
theorem dX11_keep_4 : decode cX11_keep 4 = .ok (.ifCond .eq 12, 3) := by decide +kernel
theorem dX11_keep_7 : decode cX11_keep 7 = .ok (.iload_n 2, 1) := by decide +kernel
theorem dX11_keep_8 : decode cX11_keep 8 = .ok (.iconst 0, 1) := by decide +kernel
theorem dX11_keep_9 : decode cX11_keep 9 = .ok (.iconst 1, 1) := by decide +kernel
theorem dX11_keep_10 : decode cX11_keep 10 = .ok (.invokestatic 121, 3) := by decide +kernel
theorem dX11_keep_13 : decode cX11_keep 13 = .ok (.ifCond .ne 5, 3) := by decide +kernel
theorem dX11_keep_16 : decode cX11_keep 16 = .ok (.iconst (-1), 1) := by decide +kernel
theorem dX11_keep_17 : decode cX11_keep 17 = .ok (.ireturn, 1) := by decide +kernel
theorem dX11_keep_18 : decode cX11_keep 18 = .ok (.iload_n 2, 1) := by decide +kernel
theorem dX11_keep_19 : decode cX11_keep 19 = .ok (.ifCond .ne 14, 3) := by decide +kernel
theorem dX11_keep_22 : decode cX11_keep 22 = .ok (.aload_n 0, 1) := by decide +kernel
theorem dX11_keep_23 : decode cX11_keep 23 = .ok (.getfield 59, 3) := by decide +kernel
theorem dX11_keep_26 : decode cX11_keep 26 = .ok (.iload_n 1, 1) := by decide +kernel
theorem dX11_keep_27 : decode cX11_keep 27 = .ok (.aaload, 1) := by decide +kernel
theorem dX11_keep_28 : decode cX11_keep 28 = .ok (.invokevirtual 266, 3) := by decide +kernel
theorem dX11_keep_31 : decode cX11_keep 31 = .ok (.iconst 0, 1) := by decide +kernel
theorem dX11_keep_32 : decode cX11_keep 32 = .ok (.ireturn, 1) := by decide +kernel
theorem dX11_keep_33 : decode cX11_keep 33 = .ok (.iload_n 3, 1) := by decide +kernel
theorem dX11_keep_34 : decode cX11_keep 34 = .ok (.iconst 0, 1) := by decide +kernel
theorem dX11_keep_35 : decode cX11_keep 35 = .ok (.bipush 7, 2) := by decide +kernel
theorem dX11_keep_37 : decode cX11_keep 37 = .ok (.invokestatic 121, 3) := by decide +kernel
theorem dX11_keep_40 : decode cX11_keep 40 = .ok (.ifCond .eq 14, 3) := by decide +kernel
theorem dX11_keep_43 : decode cX11_keep 43 = .ok (.iload 4, 2) := by decide +kernel
theorem dX11_keep_45 : decode cX11_keep 45 = .ok (.iconst 0, 1) := by decide +kernel
theorem dX11_keep_46 : decode cX11_keep 46 = .ok (.bipush 9, 2) := by decide +kernel
theorem dX11_keep_48 : decode cX11_keep 48 = .ok (.invokestatic 121, 3) := by decide +kernel
theorem dX11_keep_51 : decode cX11_keep 51 = .ok (.ifCond .ne 5, 3) := by decide +kernel
theorem dX11_keep_54 : decode cX11_keep 54 = .ok (.iconst (-1), 1) := by decide +kernel
theorem dX11_keep_55 : decode cX11_keep 55 = .ok (.ireturn, 1) := by decide +kernel
theorem dX11_keep_56 : decode cX11_keep 56 = .ok (.aload_n 0, 1) := by decide +kernel
theorem dX11_keep_57 : decode cX11_keep 57 = .ok (.getfield 59, 3) := by decide +kernel
theorem dX11_keep_60 : decode cX11_keep 60 = .ok (.iload_n 1, 1) := by decide +kernel
theorem dX11_keep_61 : decode cX11_keep 61 = .ok (.aaload, 1) := by decide +kernel
theorem dX11_keep_62 : decode cX11_keep 62 = .ok (.iload_n 3, 1) := by decide +kernel
theorem dX11_keep_63 : decode cX11_keep 63 = .ok (.iload 4, 2) := by decide +kernel
theorem dX11_keep_65 : decode cX11_keep 65 = .ok (.invokevirtual 269, 3) := by decide +kernel
theorem dX11_keep_68 : decode cX11_keep 68 = .ok (.iconst 0, 1) := by decide +kernel
theorem dX11_keep_69 : decode cX11_keep 69 = .ok (.ireturn, 1) := by decide +kernel
set_option maxRecDepth 20000 in
theorem ggX11_row_X11_isShelf : GoodIn wsX11_row wsX11_isShelf := goodIn_r _ [5, 6, 7, 4, 8] (by decide +kernel) (by decide +kernel)
set_option maxRecDepth 20000 in
theorem gX11_row_X11_isShelf : GoodIn wsX11_row (va_wsS RX11 263 yX11_isShelf wsX11_isShelf) := goodIn_app (goodIn_of _ (by decide +kernel)) ggX11_row_X11_isShelf
set_option maxRecDepth 20000 in
theorem ggX11_row_X11_isIn : GoodIn wsX11_row wsX11_isIn := goodIn_r _ [8] (by decide +kernel) (by decide +kernel)
set_option maxRecDepth 20000 in
theorem gX11_row_X11_isIn : GoodIn wsX11_row (va_wsS RX11 121 yX11_isIn wsX11_isIn) := goodIn_app (goodIn_of _ (by decide +kernel)) ggX11_row_X11_isIn
set_option maxRecDepth 20000 in
theorem ggX11_row_X9_holdsRow : GoodIn wsX11_row wsX9_holdsRow := goodIn_r _ [13, 14, 15, 16, 17, 24, 25, 26, 27, 28, 29, 30] (by decide +kernel) (by decide +kernel)
set_option maxRecDepth 20000 in
theorem gX11_row_X9_holdsRow : GoodIn wsX11_row (wsV RX11 273 RX9 yX9_holdsRow wsX9_holdsRow) := goodIn_app (goodIn_of _ (by decide +kernel)) ggX11_row_X9_holdsRow
theorem dX11_row_0 : decode cX11_row 0 = .ok (.iload_n 1, 1) := by decide +kernel
theorem dX11_row_1 : decode cX11_row 1 = .ok (.invokestatic 263, 3) := by decide +kernel
theorem dX11_row_4 : decode cX11_row 4 = .ok (.ifCond .eq 18, 3) := by decide +kernel
theorem dX11_row_7 : decode cX11_row 7 = .ok (.iload_n 2, 1) := by decide +kernel
theorem dX11_row_8 : decode cX11_row 8 = .ok (.iconst 0, 1) := by decide +kernel
theorem dX11_row_9 : decode cX11_row 9 = .ok (.iconst 2, 1) := by decide +kernel
theorem dX11_row_10 : decode cX11_row 10 = .ok (.invokestatic 121, 3) := by decide +kernel
theorem dX11_row_13 : decode cX11_row 13 = .ok (.ifCond .eq 9, 3) := by decide +kernel
theorem dX11_row_16 : decode cX11_row 16 = .ok (.iload_n 3, 1) := by decide +kernel
theorem dX11_row_17 : decode cX11_row 17 = .ok (.bipush 100, 2) := by decide +kernel
theorem dX11_row_19 : decode cX11_row 19 = .ok (.if_icmp .le 5, 3) := by decide +kernel
theorem dX11_row_22 : decode cX11_row 22 = .ok (.iconst (-1), 1) := by decide +kernel
theorem dX11_row_23 : decode cX11_row 23 = .ok (.ireturn, 1) := by decide +kernel
theorem dX11_row_24 : decode cX11_row 24 = .ok (.iload_n 3, 1) := by decide +kernel
theorem dX11_row_25 : decode cX11_row 25 = .ok (.ifCond .ge 6, 3) := by decide +kernel
theorem dX11_row_28 : decode cX11_row 28 = .ok (.bipush (-14), 2) := by decide +kernel
theorem dX11_row_30 : decode cX11_row 30 = .ok (.ireturn, 1) := by decide +kernel
theorem dX11_row_31 : decode cX11_row 31 = .ok (.aload_n 0, 1) := by decide +kernel
theorem dX11_row_32 : decode cX11_row 32 = .ok (.getfield 59, 3) := by decide +kernel
theorem dX11_row_35 : decode cX11_row 35 = .ok (.iload_n 1, 1) := by decide +kernel
theorem dX11_row_36 : decode cX11_row 36 = .ok (.aaload, 1) := by decide +kernel
theorem dX11_row_37 : decode cX11_row 37 = .ok (.iload_n 2, 1) := by decide +kernel
theorem dX11_row_38 : decode cX11_row 38 = .ok (.iload_n 3, 1) := by decide +kernel
theorem dX11_row_39 : decode cX11_row 39 = .ok (.invokevirtual 273, 3) := by decide +kernel
theorem dX11_row_42 : decode cX11_row 42 = .ok (.iconst 0, 1) := by decide +kernel
theorem dX11_row_43 : decode cX11_row 43 = .ok (.ireturn, 1) := by decide +kernel
set_option maxRecDepth 20000 in
theorem ggX11_put_X11_refusalOfRow : GoodIn wsX11_put wsX11_refusalOfRow := goodIn_r _ [6, 1, 7, 8, 5, 9, 10, 11, 12, 13, 14, 15, 16, 17, 18, 19, 20, 21, 22, 34, 35, 36, 37, 38, 39, 40, 41, 42, 43, 44, 45, 46] (by decide +kernel) (by decide +kernel)
set_option maxRecDepth 20000 in
theorem gX11_put_X11_refusalOfRow : GoodIn wsX11_put (wsV RX11 64 RX11 yX11_refusalOfRow wsX11_refusalOfRow) := goodIn_app (goodIn_of _ (by decide +kernel)) ggX11_put_X11_refusalOfRow
set_option maxRecDepth 20000 in
theorem ggX11_put_X9_hasElement : GoodIn wsX11_put wsX9_hasElement := goodIn_r _ [26, 27, 40, 41, 42, 43, 44, 45, 46] (by decide +kernel) (by decide +kernel)
set_option maxRecDepth 20000 in
theorem gX11_put_X9_hasElement : GoodIn wsX11_put (wsV RX11 276 RX9 yX9_hasElement wsX9_hasElement) := goodIn_app (goodIn_of _ (by decide +kernel)) ggX11_put_X9_hasElement
set_option maxRecDepth 20000 in
theorem ggX11_put_X9_sets : GoodIn wsX11_put wsX9_sets := goodIn_r _ [31, 32, 33, 40, 41, 42, 43, 44, 45, 46] (by decide +kernel) (by decide +kernel)
set_option maxRecDepth 20000 in
theorem gX11_put_X9_sets : GoodIn wsX11_put (wsV RX11 279 RX9 yX9_sets wsX9_sets) := goodIn_app (goodIn_of _ (by decide +kernel)) ggX11_put_X9_sets
theorem dX11_put_0 : decode cX11_put 0 = .ok (.aload_n 0, 1) := by decide +kernel
theorem dX11_put_1 : decode cX11_put 1 = .ok (.iload_n 1, 1) := by decide +kernel
theorem dX11_put_2 : decode cX11_put 2 = .ok (.invokevirtual 64, 3) := by decide +kernel
theorem dX11_put_5 : decode cX11_put 5 = .ok (.istore 4, 2) := by decide +kernel
theorem dX11_put_7 : decode cX11_put 7 = .ok (.iload 4, 2) := by decide +kernel
theorem dX11_put_9 : decode cX11_put 9 = .ok (.ifCond .eq 6, 3) := by decide +kernel
theorem dX11_put_12 : decode cX11_put 12 = .ok (.iload 4, 2) := by decide +kernel
theorem dX11_put_14 : decode cX11_put 14 = .ok (.ireturn, 1) := by decide +kernel
theorem dX11_put_15 : decode cX11_put 15 = .ok (.aload_n 0, 1) := by decide +kernel
theorem dX11_put_16 : decode cX11_put 16 = .ok (.getfield 59, 3) := by decide +kernel
theorem dX11_put_19 : decode cX11_put 19 = .ok (.iload_n 1, 1) := by decide +kernel
theorem dX11_put_20 : decode cX11_put 20 = .ok (.aaload, 1) := by decide +kernel
theorem dX11_put_21 : decode cX11_put 21 = .ok (.iload_n 2, 1) := by decide +kernel
theorem dX11_put_22 : decode cX11_put 22 = .ok (.invokevirtual 276, 3) := by decide +kernel
theorem dX11_put_25 : decode cX11_put 25 = .ok (.ifCond .ne 6, 3) := by decide +kernel
theorem dX11_put_28 : decode cX11_put 28 = .ok (.bipush (-13), 2) := by decide +kernel
theorem dX11_put_30 : decode cX11_put 30 = .ok (.ireturn, 1) := by decide +kernel
theorem dX11_put_31 : decode cX11_put 31 = .ok (.aload_n 0, 1) := by decide +kernel
theorem dX11_put_32 : decode cX11_put 32 = .ok (.getfield 59, 3) := by decide +kernel
theorem dX11_put_35 : decode cX11_put 35 = .ok (.iload_n 1, 1) := by decide +kernel
theorem dX11_put_36 : decode cX11_put 36 = .ok (.aaload, 1) := by decide +kernel
theorem dX11_put_37 : decode cX11_put 37 = .ok (.iload_n 2, 1) := by decide +kernel
theorem dX11_put_38 : decode cX11_put 38 = .ok (.iload_n 3, 1) := by decide +kernel
theorem dX11_put_39 : decode cX11_put 39 = .ok (.invokevirtual 279, 3) := by decide +kernel
theorem dX11_put_42 : decode cX11_put 42 = .ok (.iconst 0, 1) := by decide +kernel
theorem dX11_put_43 : decode cX11_put 43 = .ok (.ireturn, 1) := by decide +kernel
set_option maxRecDepth 20000 in
theorem ggX11_element_X11_isShelf : GoodIn wsX11_element wsX11_isShelf := goodIn_r _ [10, 11, 12, 9, 13] (by decide +kernel) (by decide +kernel)
set_option maxRecDepth 20000 in
theorem gX11_element_X11_isShelf : GoodIn wsX11_element (va_wsS RX11 263 yX11_isShelf wsX11_isShelf) := goodIn_app (goodIn_of _ (by decide +kernel)) ggX11_element_X11_isShelf
set_option maxRecDepth 20000 in
theorem ggX11_element_X9_hasRow : GoodIn wsX11_element wsX9_hasRow := goodIn_r _ [18, 19, 31, 32, 33, 34, 35, 36, 37] (by decide +kernel) (by decide +kernel)
set_option maxRecDepth 20000 in
theorem gX11_element_X9_hasRow : GoodIn wsX11_element (wsV RX11 289 RX9 yX9_hasRow wsX9_hasRow) := goodIn_app (goodIn_of _ (by decide +kernel)) ggX11_element_X9_hasRow
set_option maxRecDepth 20000 in
theorem ggX11_element_X9_hasElement : GoodIn wsX11_element wsX9_hasElement := goodIn_r _ [23, 24, 31, 32, 33, 34, 35, 36, 37] (by decide +kernel) (by decide +kernel)
set_option maxRecDepth 20000 in
theorem gX11_element_X9_hasElement : GoodIn wsX11_element (wsV RX11 276 RX9 yX9_hasElement wsX9_hasElement) := goodIn_app (goodIn_of _ (by decide +kernel)) ggX11_element_X9_hasElement
theorem dX11_element_0 : decode cX11_element 0 = .ok (.iload_n 1, 1) := by decide +kernel
theorem dX11_element_1 : decode cX11_element 1 = .ok (.invokestatic 263, 3) := by decide +kernel
theorem dX11_element_4 : decode cX11_element 4 = .ok (.ifCond .ne 14, 3) := by decide +kernel
theorem dX11_element_7 : decode cX11_element 7 = .ok (.new 282, 3) := by decide +kernel
theorem dX11_element_10 : decode cX11_element 10 = .ok (.dup, 1) := by decide +kernel
theorem dX11_element_11 : decode cX11_element 11 = .ok (.ldc_w 284, 3) := by decide +kernel
theorem dX11_element_14 : decode cX11_element 14 = .ok (.invokespecial 286, 3) := by decide +kernel
theorem dX11_element_17 : decode cX11_element 17 = .ok (.athrow, 1) := by decide +kernel
theorem dX11_element_18 : decode cX11_element 18 = .ok (.aload_n 0, 1) := by decide +kernel
theorem dX11_element_19 : decode cX11_element 19 = .ok (.getfield 59, 3) := by decide +kernel
theorem dX11_element_22 : decode cX11_element 22 = .ok (.iload_n 1, 1) := by decide +kernel
theorem dX11_element_23 : decode cX11_element 23 = .ok (.aaload, 1) := by decide +kernel
theorem dX11_element_24 : decode cX11_element 24 = .ok (.invokevirtual 289, 3) := by decide +kernel
theorem dX11_element_27 : decode cX11_element 27 = .ok (.ifCond .eq 16, 3) := by decide +kernel
theorem dX11_element_30 : decode cX11_element 30 = .ok (.aload_n 0, 1) := by decide +kernel
theorem dX11_element_31 : decode cX11_element 31 = .ok (.getfield 59, 3) := by decide +kernel
theorem dX11_element_34 : decode cX11_element 34 = .ok (.iload_n 1, 1) := by decide +kernel
theorem dX11_element_35 : decode cX11_element 35 = .ok (.aaload, 1) := by decide +kernel
theorem dX11_element_36 : decode cX11_element 36 = .ok (.iload_n 2, 1) := by decide +kernel
theorem dX11_element_37 : decode cX11_element 37 = .ok (.invokevirtual 276, 3) := by decide +kernel
theorem dX11_element_40 : decode cX11_element 40 = .ok (.ifCond .ne 14, 3) := by decide +kernel
theorem dX11_element_43 : decode cX11_element 43 = .ok (.new 292, 3) := by decide +kernel
theorem dX11_element_46 : decode cX11_element 46 = .ok (.dup, 1) := by decide +kernel
theorem dX11_element_47 : decode cX11_element 47 = .ok (.ldc_w 294, 3) := by decide +kernel
theorem dX11_element_50 : decode cX11_element 50 = .ok (.invokespecial 296, 3) := by decide +kernel
theorem dX11_element_53 : decode cX11_element 53 = .ok (.athrow, 1) := by decide +kernel
theorem dX11_element_54 : decode cX11_element 54 = .ok (.aload_n 0, 1) := by decide +kernel
theorem dX11_element_55 : decode cX11_element 55 = .ok (.getfield 59, 3) := by decide +kernel
theorem dX11_element_58 : decode cX11_element 58 = .ok (.iload_n 1, 1) := by decide +kernel
theorem dX11_element_59 : decode cX11_element 59 = .ok (.aaload, 1) := by decide +kernel
theorem dX11_element_60 : decode cX11_element 60 = .ok (.getfield 88, 3) := by decide +kernel
theorem dX11_element_63 : decode cX11_element 63 = .ok (.iload_n 2, 1) := by decide +kernel
theorem dX11_element_64 : decode cX11_element 64 = .ok (.iaload, 1) := by decide +kernel
theorem dX11_element_65 : decode cX11_element 65 = .ok (.i2l, 1) := by decide +kernel
theorem dX11_element_66 : decode cX11_element 66 = .ok (.lreturn, 1) := by decide +kernel
set_option maxRecDepth 20000 in
theorem ggX11_copy_X11_isShelf : GoodIn wsX11_copy wsX11_isShelf := goodIn_r _ [11, 12, 13, 10, 14] (by decide +kernel) (by decide +kernel)
set_option maxRecDepth 20000 in
theorem gX11_copy_X11_isShelf : GoodIn wsX11_copy (va_wsS RX11 263 yX11_isShelf wsX11_isShelf) := goodIn_app (goodIn_of _ (by decide +kernel)) ggX11_copy_X11_isShelf
set_option maxRecDepth 20000 in
theorem ggX11_copy_X9_isEmpty : GoodIn wsX11_copy wsX9_isEmpty := goodIn_r _ [19, 20, 36, 37, 38, 39, 40, 41, 42] (by decide +kernel) (by decide +kernel)
set_option maxRecDepth 20000 in
theorem gX11_copy_X9_isEmpty : GoodIn wsX11_copy (wsV RX11 297 RX9 yX9_isEmpty wsX9_isEmpty) := goodIn_app (goodIn_of _ (by decide +kernel)) ggX11_copy_X9_isEmpty
set_option maxRecDepth 20000 in
theorem ggX11_copy_X9_hasRow : GoodIn wsX11_copy wsX9_hasRow := goodIn_r _ [24, 20, 36, 37, 38, 39, 40, 41, 42] (by decide +kernel) (by decide +kernel)
set_option maxRecDepth 20000 in
theorem gX11_copy_X9_hasRow : GoodIn wsX11_copy (wsV RX11 289 RX9 yX9_hasRow wsX9_hasRow) := goodIn_app (goodIn_of _ (by decide +kernel)) ggX11_copy_X9_hasRow
set_option maxRecDepth 20000 in
theorem ggX11_copy_X9_hasElements : GoodIn wsX11_copy wsX9_hasElements := goodIn_r _ [28, 29, 36, 37, 38, 39, 40, 41, 42] (by decide +kernel) (by decide +kernel)
set_option maxRecDepth 20000 in
theorem gX11_copy_X9_hasElements : GoodIn wsX11_copy (wsV RX11 303 RX9 yX9_hasElements wsX9_hasElements) := goodIn_app (goodIn_of _ (by decide +kernel)) ggX11_copy_X9_hasElements
theorem dX11_copy_0 : decode cX11_copy 0 = .ok (.iload_n 1, 1) := by decide +kernel
theorem dX11_copy_1 : decode cX11_copy 1 = .ok (.invokestatic 263, 3) := by decide +kernel
theorem dX11_copy_4 : decode cX11_copy 4 = .ok (.ifCond .eq 10, 3) := by decide +kernel
theorem dX11_copy_7 : decode cX11_copy 7 = .ok (.iload_n 3, 1) := by decide +kernel
theorem dX11_copy_8 : decode cX11_copy 8 = .ok (.invokestatic 263, 3) := by decide +kernel
theorem dX11_copy_11 : decode cX11_copy 11 = .ok (.ifCond .ne 5, 3) := by decide +kernel
theorem dX11_copy_14 : decode cX11_copy 14 = .ok (.iconst (-1), 1) := by decide +kernel
theorem dX11_copy_15 : decode cX11_copy 15 = .ok (.ireturn, 1) := by decide +kernel
theorem dX11_copy_16 : decode cX11_copy 16 = .ok (.aload_n 0, 1) := by decide +kernel
theorem dX11_copy_17 : decode cX11_copy 17 = .ok (.getfield 59, 3) := by decide +kernel
theorem dX11_copy_20 : decode cX11_copy 20 = .ok (.iload_n 1, 1) := by decide +kernel
theorem dX11_copy_21 : decode cX11_copy 21 = .ok (.aaload, 1) := by decide +kernel
theorem dX11_copy_22 : decode cX11_copy 22 = .ok (.astore 6, 2) := by decide +kernel
theorem dX11_copy_24 : decode cX11_copy 24 = .ok (.aload_n 0, 1) := by decide +kernel
theorem dX11_copy_25 : decode cX11_copy 25 = .ok (.getfield 59, 3) := by decide +kernel
theorem dX11_copy_28 : decode cX11_copy 28 = .ok (.iload_n 3, 1) := by decide +kernel
theorem dX11_copy_29 : decode cX11_copy 29 = .ok (.aaload, 1) := by decide +kernel
theorem dX11_copy_30 : decode cX11_copy 30 = .ok (.astore 7, 2) := by decide +kernel
theorem dX11_copy_32 : decode cX11_copy 32 = .ok (.aload 6, 2) := by decide +kernel
theorem dX11_copy_34 : decode cX11_copy 34 = .ok (.invokevirtual 297, 3) := by decide +kernel
theorem dX11_copy_37 : decode cX11_copy 37 = .ok (.ifCond .ne 11, 3) := by decide +kernel
theorem dX11_copy_40 : decode cX11_copy 40 = .ok (.aload 7, 2) := by decide +kernel
theorem dX11_copy_42 : decode cX11_copy 42 = .ok (.invokevirtual 297, 3) := by decide +kernel
theorem dX11_copy_45 : decode cX11_copy 45 = .ok (.ifCond .eq 6, 3) := by decide +kernel
theorem dX11_copy_48 : decode cX11_copy 48 = .ok (.bipush (-11), 2) := by decide +kernel
theorem dX11_copy_50 : decode cX11_copy 50 = .ok (.ireturn, 1) := by decide +kernel
theorem dX11_copy_51 : decode cX11_copy 51 = .ok (.aload 6, 2) := by decide +kernel
theorem dX11_copy_53 : decode cX11_copy 53 = .ok (.invokevirtual 289, 3) := by decide +kernel
theorem dX11_copy_56 : decode cX11_copy 56 = .ok (.ifCond .eq 24, 3) := by decide +kernel
theorem dX11_copy_59 : decode cX11_copy 59 = .ok (.aload 7, 2) := by decide +kernel
theorem dX11_copy_61 : decode cX11_copy 61 = .ok (.invokevirtual 289, 3) := by decide +kernel
theorem dX11_copy_64 : decode cX11_copy 64 = .ok (.ifCond .eq 16, 3) := by decide +kernel
theorem dX11_copy_67 : decode cX11_copy 67 = .ok (.aload 6, 2) := by decide +kernel
theorem dX11_copy_69 : decode cX11_copy 69 = .ok (.getfield 300, 3) := by decide +kernel
theorem dX11_copy_72 : decode cX11_copy 72 = .ok (.aload 7, 2) := by decide +kernel
theorem dX11_copy_74 : decode cX11_copy 74 = .ok (.getfield 300, 3) := by decide +kernel
theorem dX11_copy_77 : decode cX11_copy 77 = .ok (.if_icmp .eq 6, 3) := by decide +kernel
theorem dX11_copy_80 : decode cX11_copy 80 = .ok (.bipush (-12), 2) := by decide +kernel
theorem dX11_copy_82 : decode cX11_copy 82 = .ok (.ireturn, 1) := by decide +kernel
theorem dX11_copy_83 : decode cX11_copy 83 = .ok (.aload 6, 2) := by decide +kernel
theorem dX11_copy_85 : decode cX11_copy 85 = .ok (.iload_n 2, 1) := by decide +kernel
theorem dX11_copy_86 : decode cX11_copy 86 = .ok (.iload 5, 2) := by decide +kernel
theorem dX11_copy_88 : decode cX11_copy 88 = .ok (.invokevirtual 303, 3) := by decide +kernel
theorem dX11_copy_91 : decode cX11_copy 91 = .ok (.ifCond .eq 15, 3) := by decide +kernel
theorem dX11_copy_94 : decode cX11_copy 94 = .ok (.aload 7, 2) := by decide +kernel
theorem dX11_copy_96 : decode cX11_copy 96 = .ok (.iload 4, 2) := by decide +kernel
theorem dX11_copy_98 : decode cX11_copy 98 = .ok (.iload 5, 2) := by decide +kernel
theorem dX11_copy_100 : decode cX11_copy 100 = .ok (.invokevirtual 303, 3) := by decide +kernel
theorem dX11_copy_103 : decode cX11_copy 103 = .ok (.ifCond .ne 6, 3) := by decide +kernel
theorem dX11_copy_106 : decode cX11_copy 106 = .ok (.bipush (-13), 2) := by decide +kernel
theorem dX11_copy_108 : decode cX11_copy 108 = .ok (.ireturn, 1) := by decide +kernel
theorem dX11_copy_109 : decode cX11_copy 109 = .ok (.aload 6, 2) := by decide +kernel
theorem dX11_copy_111 : decode cX11_copy 111 = .ok (.getfield 88, 3) := by decide +kernel
theorem dX11_copy_114 : decode cX11_copy 114 = .ok (.iload_n 2, 1) := by decide +kernel
theorem dX11_copy_115 : decode cX11_copy 115 = .ok (.aload 7, 2) := by decide +kernel
theorem dX11_copy_117 : decode cX11_copy 117 = .ok (.getfield 88, 3) := by decide +kernel
theorem dX11_copy_120 : decode cX11_copy 120 = .ok (.iload 4, 2) := by decide +kernel
theorem dX11_copy_122 : decode cX11_copy 122 = .ok (.iload 5, 2) := by decide +kernel
theorem dX11_copy_124 : decode cX11_copy 124 = .ok (.invokestatic 307, 3) := by decide +kernel
theorem dX11_copy_127 : decode cX11_copy 127 = .ok (.iload 5, 2) := by decide +kernel
theorem dX11_copy_129 : decode cX11_copy 129 = .ok (.ireturn, 1) := by decide +kernel
set_option maxRecDepth 20000 in
theorem ggX11_cost_X11_refusalOfKind : GoodIn wsX11_cost wsX11_refusalOfKind := goodIn_r _ [6, 1, 7, 8, 5, 9, 10, 11, 12, 13, 14, 15, 16, 17, 18, 19, 20, 21, 22, 71, 72, 73, 74, 75, 76, 77, 78, 79, 80, 81, 82, 83] (by decide +kernel) (by decide +kernel)
set_option maxRecDepth 20000 in
theorem gX11_cost_X11_refusalOfKind : GoodIn wsX11_cost (wsV RX11 125 RX11 yX11_refusalOfKind wsX11_refusalOfKind) := goodIn_app (goodIn_of _ (by decide +kernel)) ggX11_cost_X11_refusalOfKind
set_option maxRecDepth 20000 in
theorem ggX11_cost_X9_price : GoodIn wsX11_cost wsX9_price := goodIn_r _ [26, 27, 28, 29, 30, 31, 32, 33, 34, 35, 36, 37, 38, 39, 40, 41, 42, 43, 44, 45, 46, 47, 48, 49, 50, 51, 52, 53, 54, 55, 56, 57, 58, 59, 60, 61, 62, 63, 64, 65, 66, 67, 68, 69, 70, 77, 78, 79, 80, 81, 82, 83] (by decide +kernel) (by decide +kernel)
set_option maxRecDepth 20000 in
theorem gX11_cost_X9_price : GoodIn wsX11_cost (wsV RX11 313 RX9 yX9_price wsX9_price) := goodIn_app (goodIn_of _ (by decide +kernel)) ggX11_cost_X9_price
theorem dX11_cost_0 : decode cX11_cost 0 = .ok (.aload_n 0, 1) := by decide +kernel
theorem dX11_cost_1 : decode cX11_cost 1 = .ok (.iload_n 1, 1) := by decide +kernel
theorem dX11_cost_2 : decode cX11_cost 2 = .ok (.invokevirtual 125, 3) := by decide +kernel
theorem dX11_cost_5 : decode cX11_cost 5 = .ok (.istore_n 2, 1) := by decide +kernel
theorem dX11_cost_6 : decode cX11_cost 6 = .ok (.iload_n 2, 1) := by decide +kernel
theorem dX11_cost_7 : decode cX11_cost 7 = .ok (.ifCond .eq 7, 3) := by decide +kernel
theorem dX11_cost_10 : decode cX11_cost 10 = .ok (.iload_n 2, 1) := by decide +kernel
theorem dX11_cost_11 : decode cX11_cost 11 = .ok (.goto 12, 3) := by decide +kernel
theorem dX11_cost_14 : decode cX11_cost 14 = .ok (.aload_n 0, 1) := by decide +kernel
theorem dX11_cost_15 : decode cX11_cost 15 = .ok (.getfield 59, 3) := by decide +kernel
theorem dX11_cost_18 : decode cX11_cost 18 = .ok (.iload_n 1, 1) := by decide +kernel
theorem dX11_cost_19 : decode cX11_cost 19 = .ok (.aaload, 1) := by decide +kernel
theorem dX11_cost_20 : decode cX11_cost 20 = .ok (.invokevirtual 313, 3) := by decide +kernel
theorem dX11_cost_23 : decode cX11_cost 23 = .ok (.ireturn, 1) := by decide +kernel
set_option maxRecDepth 20000 in
theorem ggX11_toss_X11_refusalOfKind : GoodIn wsX11_toss wsX11_refusalOfKind := goodIn_r _ [10, 4, 11, 12, 9, 13, 14, 15, 16, 17, 18, 19, 20, 21, 22, 23, 24, 25, 26, 106, 107, 108, 109, 110, 111, 112, 113, 114, 115, 116, 117, 118] (by decide +kernel) (by decide +kernel)
set_option maxRecDepth 20000 in
theorem gX11_toss_X11_refusalOfKind : GoodIn wsX11_toss (wsV RX11 125 RX11 yX11_refusalOfKind wsX11_refusalOfKind) := goodIn_app (goodIn_of _ (by decide +kernel)) ggX11_toss_X11_refusalOfKind
set_option maxRecDepth 20000 in
theorem ggX11_toss_X9_fails : GoodIn wsX11_toss wsX9_fails := goodIn_ca (goodIn_ca (goodIn_ca (goodIn_r _ [30, 31, 32, 33, 34, 35, 36, 37, 38, 39, 40, 41, 42, 43, 44, 45, 46, 47, 48, 49, 50, 51, 52, 53, 54, 55, 56, 57, 58, 59, 60, 61, 62, 63, 112, 113, 114, 115, 116, 117, 118] (by decide +kernel) (by decide +kernel)) (goodIn_sub (fun _ h => List.mem_cons_of_mem _ (List.mem_append_left _ (List.mem_append_left _ (List.mem_append_right _ h)))) (by decide +kernel))) (goodIn_sub (fun _ h => List.mem_cons_of_mem _ (List.mem_append_left _ (List.mem_append_right _ h))) (by decide +kernel))) (goodIn_sub (fun _ h => List.mem_cons_of_mem _ (List.mem_append_right _ h)) (by decide +kernel))
set_option maxRecDepth 20000 in
theorem gX11_toss_X9_fails : GoodIn wsX11_toss (wsV RX11 316 RX9 yX9_fails wsX9_fails) := goodIn_app (goodIn_of _ (by decide +kernel)) ggX11_toss_X9_fails
set_option maxRecDepth 20000 in
theorem ggX11_toss_X9_price : GoodIn wsX11_toss wsX9_price := goodIn_r _ [67, 31, 32, 33, 68, 69, 70, 71, 72, 39, 73, 74, 75, 76, 47, 77, 78, 79, 80, 81, 82, 83, 84, 85, 86, 87, 88, 89, 90, 91, 92, 93, 94, 95, 96, 97, 98, 99, 55, 100, 101, 102, 103, 104, 105, 112, 113, 114, 115, 116, 117, 118] (by decide +kernel) (by decide +kernel)
set_option maxRecDepth 20000 in
theorem gX11_toss_X9_price : GoodIn wsX11_toss (wsV RX11 313 RX9 yX9_price wsX9_price) := goodIn_app (goodIn_of _ (by decide +kernel)) ggX11_toss_X9_price
theorem dX11_toss_0 : decode cX11_toss 0 = .ok (.aload_n 0, 1) := by decide +kernel
theorem dX11_toss_1 : decode cX11_toss 1 = .ok (.iload_n 1, 1) := by decide +kernel
theorem dX11_toss_2 : decode cX11_toss 2 = .ok (.invokevirtual 125, 3) := by decide +kernel
theorem dX11_toss_5 : decode cX11_toss 5 = .ok (.istore_n 2, 1) := by decide +kernel
theorem dX11_toss_6 : decode cX11_toss 6 = .ok (.iload_n 2, 1) := by decide +kernel
theorem dX11_toss_7 : decode cX11_toss 7 = .ok (.ifCond .eq 5, 3) := by decide +kernel
theorem dX11_toss_10 : decode cX11_toss 10 = .ok (.iload_n 2, 1) := by decide +kernel
theorem dX11_toss_11 : decode cX11_toss 11 = .ok (.ireturn, 1) := by decide +kernel
theorem dX11_toss_12 : decode cX11_toss 12 = .ok (.aload_n 0, 1) := by decide +kernel
theorem dX11_toss_13 : decode cX11_toss 13 = .ok (.getfield 59, 3) := by decide +kernel
theorem dX11_toss_16 : decode cX11_toss 16 = .ok (.iload_n 1, 1) := by decide +kernel
theorem dX11_toss_17 : decode cX11_toss 17 = .ok (.aaload, 1) := by decide +kernel
theorem dX11_toss_18 : decode cX11_toss 18 = .ok (.astore_n 3, 1) := by decide +kernel
theorem dX11_toss_19 : decode cX11_toss 19 = .ok (.aload_n 3, 1) := by decide +kernel
theorem dX11_toss_20 : decode cX11_toss 20 = .ok (.invokevirtual 316, 3) := by decide +kernel
theorem dX11_toss_23 : decode cX11_toss 23 = .ok (.goto 31, 3) := by decide +kernel
theorem dX11_toss_26 : decode cX11_toss 26 = .ok (.astore 4, 2) := by decide +kernel
theorem dX11_toss_28 : decode cX11_toss 28 = .ok (.sipush 200, 3) := by decide +kernel
theorem dX11_toss_31 : decode cX11_toss 31 = .ok (.aload_n 3, 1) := by decide +kernel
theorem dX11_toss_32 : decode cX11_toss 32 = .ok (.invokevirtual 313, 3) := by decide +kernel
theorem dX11_toss_35 : decode cX11_toss 35 = .ok (.iadd, 1) := by decide +kernel
theorem dX11_toss_36 : decode cX11_toss 36 = .ok (.ireturn, 1) := by decide +kernel
theorem dX11_toss_37 : decode cX11_toss 37 = .ok (.astore 4, 2) := by decide +kernel
theorem dX11_toss_39 : decode cX11_toss 39 = .ok (.bipush 100, 2) := by decide +kernel
theorem dX11_toss_41 : decode cX11_toss 41 = .ok (.aload_n 3, 1) := by decide +kernel
theorem dX11_toss_42 : decode cX11_toss 42 = .ok (.getfield 130, 3) := by decide +kernel
theorem dX11_toss_45 : decode cX11_toss 45 = .ok (.iadd, 1) := by decide +kernel
theorem dX11_toss_46 : decode cX11_toss 46 = .ok (.ireturn, 1) := by decide +kernel
theorem dX11_toss_47 : decode cX11_toss 47 = .ok (.astore 4, 2) := by decide +kernel
theorem dX11_toss_49 : decode cX11_toss 49 = .ok (.aload_n 3, 1) := by decide +kernel
theorem dX11_toss_50 : decode cX11_toss 50 = .ok (.getfield 130, 3) := by decide +kernel
theorem dX11_toss_53 : decode cX11_toss 53 = .ok (.ireturn, 1) := by decide +kernel
theorem dX11_toss_54 : decode cX11_toss 54 = .ok (.bipush (-15), 2) := by decide +kernel
theorem dX11_toss_56 : decode cX11_toss 56 = .ok (.ireturn, 1) := by decide +kernel
theorem dX11_isIn_0 : decode cX11_isIn 0 = .ok (.iload_n 0, 1) := by decide +kernel
theorem dX11_isIn_1 : decode cX11_isIn 1 = .ok (.iload_n 1, 1) := by decide +kernel
theorem dX11_isIn_2 : decode cX11_isIn 2 = .ok (.if_icmp .lt 12, 3) := by decide +kernel
theorem dX11_isIn_5 : decode cX11_isIn 5 = .ok (.iload_n 0, 1) := by decide +kernel
theorem dX11_isIn_6 : decode cX11_isIn 6 = .ok (.iload_n 2, 1) := by decide +kernel
theorem dX11_isIn_7 : decode cX11_isIn 7 = .ok (.if_icmp .gt 7, 3) := by decide +kernel
theorem dX11_isIn_10 : decode cX11_isIn 10 = .ok (.iconst 1, 1) := by decide +kernel
theorem dX11_isIn_11 : decode cX11_isIn 11 = .ok (.goto 4, 3) := by decide +kernel
theorem dX11_isIn_14 : decode cX11_isIn 14 = .ok (.iconst 0, 1) := by decide +kernel
theorem dX11_isIn_15 : decode cX11_isIn 15 = .ok (.ireturn, 1) := by decide +kernel
set_option maxRecDepth 20000 in
theorem ggX11_isShelf_X11_isIn : GoodIn wsX11_isShelf wsX11_isIn := goodIn_r _ [4] (by decide +kernel) (by decide +kernel)
set_option maxRecDepth 20000 in
theorem gX11_isShelf_X11_isIn : GoodIn wsX11_isShelf (va_wsS RX11 121 yX11_isIn wsX11_isIn) := goodIn_app (goodIn_of _ (by decide +kernel)) ggX11_isShelf_X11_isIn
theorem dX11_isShelf_0 : decode cX11_isShelf 0 = .ok (.iload_n 0, 1) := by decide +kernel
theorem dX11_isShelf_1 : decode cX11_isShelf 1 = .ok (.iconst 0, 1) := by decide +kernel
theorem dX11_isShelf_2 : decode cX11_isShelf 2 = .ok (.bipush 7, 2) := by decide +kernel
theorem dX11_isShelf_4 : decode cX11_isShelf 4 = .ok (.invokestatic 121, 3) := by decide +kernel
theorem dX11_isShelf_7 : decode cX11_isShelf 7 = .ok (.ireturn, 1) := by decide +kernel
set_option maxRecDepth 20000 in
theorem ggX11_refusalOfRow_X11_isShelf : GoodIn wsX11_refusalOfRow wsX11_isShelf := goodIn_r _ [5, 6, 7, 4, 8] (by decide +kernel) (by decide +kernel)
set_option maxRecDepth 20000 in
theorem gX11_refusalOfRow_X11_isShelf : GoodIn wsX11_refusalOfRow (va_wsS RX11 263 yX11_isShelf wsX11_isShelf) := goodIn_app (goodIn_of _ (by decide +kernel)) ggX11_refusalOfRow_X11_isShelf
set_option maxRecDepth 20000 in
theorem ggX11_refusalOfRow_X9_isEmpty : GoodIn wsX11_refusalOfRow wsX9_isEmpty := goodIn_r _ [13, 14, 25, 26, 27, 28, 29, 30, 31] (by decide +kernel) (by decide +kernel)
set_option maxRecDepth 20000 in
theorem gX11_refusalOfRow_X9_isEmpty : GoodIn wsX11_refusalOfRow (wsV RX11 297 RX9 yX9_isEmpty wsX9_isEmpty) := goodIn_app (goodIn_of _ (by decide +kernel)) ggX11_refusalOfRow_X9_isEmpty
set_option maxRecDepth 20000 in
theorem ggX11_refusalOfRow_X9_hasRow : GoodIn wsX11_refusalOfRow wsX9_hasRow := goodIn_r _ [18, 14, 25, 26, 27, 28, 29, 30, 31] (by decide +kernel) (by decide +kernel)
set_option maxRecDepth 20000 in
theorem gX11_refusalOfRow_X9_hasRow : GoodIn wsX11_refusalOfRow (wsV RX11 289 RX9 yX9_hasRow wsX9_hasRow) := goodIn_app (goodIn_of _ (by decide +kernel)) ggX11_refusalOfRow_X9_hasRow
theorem dX11_refusalOfRow_0 : decode cX11_refusalOfRow 0 = .ok (.iload_n 1, 1) := by decide +kernel
theorem dX11_refusalOfRow_1 : decode cX11_refusalOfRow 1 = .ok (.invokestatic 263, 3) := by decide +kernel
theorem dX11_refusalOfRow_4 : decode cX11_refusalOfRow 4 = .ok (.ifCond .ne 5, 3) := by decide +kernel
theorem dX11_refusalOfRow_7 : decode cX11_refusalOfRow 7 = .ok (.iconst (-1), 1) := by decide +kernel
theorem dX11_refusalOfRow_8 : decode cX11_refusalOfRow 8 = .ok (.ireturn, 1) := by decide +kernel
theorem dX11_refusalOfRow_9 : decode cX11_refusalOfRow 9 = .ok (.aload_n 0, 1) := by decide +kernel
theorem dX11_refusalOfRow_10 : decode cX11_refusalOfRow 10 = .ok (.getfield 59, 3) := by decide +kernel
theorem dX11_refusalOfRow_13 : decode cX11_refusalOfRow 13 = .ok (.iload_n 1, 1) := by decide +kernel
theorem dX11_refusalOfRow_14 : decode cX11_refusalOfRow 14 = .ok (.aaload, 1) := by decide +kernel
theorem dX11_refusalOfRow_15 : decode cX11_refusalOfRow 15 = .ok (.invokevirtual 297, 3) := by decide +kernel
theorem dX11_refusalOfRow_18 : decode cX11_refusalOfRow 18 = .ok (.ifCond .eq 6, 3) := by decide +kernel
theorem dX11_refusalOfRow_21 : decode cX11_refusalOfRow 21 = .ok (.bipush (-11), 2) := by decide +kernel
theorem dX11_refusalOfRow_23 : decode cX11_refusalOfRow 23 = .ok (.ireturn, 1) := by decide +kernel
theorem dX11_refusalOfRow_24 : decode cX11_refusalOfRow 24 = .ok (.aload_n 0, 1) := by decide +kernel
theorem dX11_refusalOfRow_25 : decode cX11_refusalOfRow 25 = .ok (.getfield 59, 3) := by decide +kernel
theorem dX11_refusalOfRow_28 : decode cX11_refusalOfRow 28 = .ok (.iload_n 1, 1) := by decide +kernel
theorem dX11_refusalOfRow_29 : decode cX11_refusalOfRow 29 = .ok (.aaload, 1) := by decide +kernel
theorem dX11_refusalOfRow_30 : decode cX11_refusalOfRow 30 = .ok (.invokevirtual 289, 3) := by decide +kernel
theorem dX11_refusalOfRow_33 : decode cX11_refusalOfRow 33 = .ok (.ifCond .eq 7, 3) := by decide +kernel
theorem dX11_refusalOfRow_36 : decode cX11_refusalOfRow 36 = .ok (.iconst 0, 1) := by decide +kernel
theorem dX11_refusalOfRow_37 : decode cX11_refusalOfRow 37 = .ok (.goto 5, 3) := by decide +kernel
theorem dX11_refusalOfRow_40 : decode cX11_refusalOfRow 40 = .ok (.bipush (-12), 2) := by decide +kernel
theorem dX11_refusalOfRow_42 : decode cX11_refusalOfRow 42 = .ok (.ireturn, 1) := by decide +kernel
set_option maxRecDepth 20000 in
theorem ggX11_refusalOfKind_X11_isShelf : GoodIn wsX11_refusalOfKind wsX11_isShelf := goodIn_r _ [5, 6, 7, 4, 8] (by decide +kernel) (by decide +kernel)
set_option maxRecDepth 20000 in
theorem gX11_refusalOfKind_X11_isShelf : GoodIn wsX11_refusalOfKind (va_wsS RX11 263 yX11_isShelf wsX11_isShelf) := goodIn_app (goodIn_of _ (by decide +kernel)) ggX11_refusalOfKind_X11_isShelf
set_option maxRecDepth 20000 in
theorem ggX11_refusalOfKind_X9_isEmpty : GoodIn wsX11_refusalOfKind wsX9_isEmpty := goodIn_r _ [13, 14, 25, 26, 27, 28, 29, 30, 31] (by decide +kernel) (by decide +kernel)
set_option maxRecDepth 20000 in
theorem gX11_refusalOfKind_X9_isEmpty : GoodIn wsX11_refusalOfKind (wsV RX11 297 RX9 yX9_isEmpty wsX9_isEmpty) := goodIn_app (goodIn_of _ (by decide +kernel)) ggX11_refusalOfKind_X9_isEmpty
set_option maxRecDepth 20000 in
theorem ggX11_refusalOfKind_X9_hasRow : GoodIn wsX11_refusalOfKind wsX9_hasRow := goodIn_r _ [18, 14, 25, 26, 27, 28, 29, 30, 31] (by decide +kernel) (by decide +kernel)
set_option maxRecDepth 20000 in
theorem gX11_refusalOfKind_X9_hasRow : GoodIn wsX11_refusalOfKind (wsV RX11 289 RX9 yX9_hasRow wsX9_hasRow) := goodIn_app (goodIn_of _ (by decide +kernel)) ggX11_refusalOfKind_X9_hasRow
theorem dX11_refusalOfKind_0 : decode cX11_refusalOfKind 0 = .ok (.iload_n 1, 1) := by decide +kernel
theorem dX11_refusalOfKind_1 : decode cX11_refusalOfKind 1 = .ok (.invokestatic 263, 3) := by decide +kernel
theorem dX11_refusalOfKind_4 : decode cX11_refusalOfKind 4 = .ok (.ifCond .ne 5, 3) := by decide +kernel
theorem dX11_refusalOfKind_7 : decode cX11_refusalOfKind 7 = .ok (.iconst (-1), 1) := by decide +kernel
theorem dX11_refusalOfKind_8 : decode cX11_refusalOfKind 8 = .ok (.ireturn, 1) := by decide +kernel
theorem dX11_refusalOfKind_9 : decode cX11_refusalOfKind 9 = .ok (.aload_n 0, 1) := by decide +kernel
theorem dX11_refusalOfKind_10 : decode cX11_refusalOfKind 10 = .ok (.getfield 59, 3) := by decide +kernel
theorem dX11_refusalOfKind_13 : decode cX11_refusalOfKind 13 = .ok (.iload_n 1, 1) := by decide +kernel
theorem dX11_refusalOfKind_14 : decode cX11_refusalOfKind 14 = .ok (.aaload, 1) := by decide +kernel
theorem dX11_refusalOfKind_15 : decode cX11_refusalOfKind 15 = .ok (.invokevirtual 297, 3) := by decide +kernel
theorem dX11_refusalOfKind_18 : decode cX11_refusalOfKind 18 = .ok (.ifCond .eq 6, 3) := by decide +kernel
theorem dX11_refusalOfKind_21 : decode cX11_refusalOfKind 21 = .ok (.bipush (-11), 2) := by decide +kernel
theorem dX11_refusalOfKind_23 : decode cX11_refusalOfKind 23 = .ok (.ireturn, 1) := by decide +kernel
theorem dX11_refusalOfKind_24 : decode cX11_refusalOfKind 24 = .ok (.aload_n 0, 1) := by decide +kernel
theorem dX11_refusalOfKind_25 : decode cX11_refusalOfKind 25 = .ok (.getfield 59, 3) := by decide +kernel
theorem dX11_refusalOfKind_28 : decode cX11_refusalOfKind 28 = .ok (.iload_n 1, 1) := by decide +kernel
theorem dX11_refusalOfKind_29 : decode cX11_refusalOfKind 29 = .ok (.aaload, 1) := by decide +kernel
theorem dX11_refusalOfKind_30 : decode cX11_refusalOfKind 30 = .ok (.invokevirtual 289, 3) := by decide +kernel
theorem dX11_refusalOfKind_33 : decode cX11_refusalOfKind 33 = .ok (.ifCond .eq 8, 3) := by decide +kernel
theorem dX11_refusalOfKind_36 : decode cX11_refusalOfKind 36 = .ok (.bipush (-12), 2) := by decide +kernel
theorem dX11_refusalOfKind_38 : decode cX11_refusalOfKind 38 = .ok (.goto 4, 3) := by decide +kernel
theorem dX11_refusalOfKind_41 : decode cX11_refusalOfKind 41 = .ok (.iconst 0, 1) := by decide +kernel
theorem dX11_refusalOfKind_42 : decode cX11_refusalOfKind 42 = .ok (.ireturn, 1) := by decide +kernel
set_option maxRecDepth 20000 in
theorem ggX11_firstForged_X2_has : GoodIn wsX11_firstForged wsX2_has := goodIn_r _ [9, 10, 24, 25, 26, 27, 28, 29, 30, 31, 32, 33, 34, 35] (by decide +kernel) (by decide +kernel)
set_option maxRecDepth 20000 in
theorem gX11_firstForged_X2_has : GoodIn wsX11_firstForged (wsV RX11 95 RX2 yX2_has wsX2_has) := goodIn_app (goodIn_of _ (by decide +kernel)) ggX11_firstForged_X2_has
theorem dX11_firstForged_0 : decode cX11_firstForged 0 = .ok (.iconst 0, 1) := by decide +kernel
theorem dX11_firstForged_1 : decode cX11_firstForged 1 = .ok (.istore_n 2, 1) := by decide +kernel
theorem dX11_firstForged_2 : decode cX11_firstForged 2 = .ok (.iload_n 2, 1) := by decide +kernel
theorem dX11_firstForged_3 : decode cX11_firstForged 3 = .ok (.aload_n 1, 1) := by decide +kernel
theorem dX11_firstForged_4 : decode cX11_firstForged 4 = .ok (.getfield 80, 3) := by decide +kernel
theorem dX11_firstForged_7 : decode cX11_firstForged 7 = .ok (.if_icmp .ge 40, 3) := by decide +kernel
theorem dX11_firstForged_10 : decode cX11_firstForged 10 = .ok (.aload_n 0, 1) := by decide +kernel
theorem dX11_firstForged_11 : decode cX11_firstForged 11 = .ok (.getfield 36, 3) := by decide +kernel
theorem dX11_firstForged_14 : decode cX11_firstForged 14 = .ok (.iload_n 2, 1) := by decide +kernel
theorem dX11_firstForged_15 : decode cX11_firstForged 15 = .ok (.invokevirtual 95, 3) := by decide +kernel
theorem dX11_firstForged_18 : decode cX11_firstForged 18 = .ok (.ifCond .eq 21, 3) := by decide +kernel
theorem dX11_firstForged_21 : decode cX11_firstForged 21 = .ok (.aload_n 1, 1) := by decide +kernel
theorem dX11_firstForged_22 : decode cX11_firstForged 22 = .ok (.getfield 88, 3) := by decide +kernel
theorem dX11_firstForged_25 : decode cX11_firstForged 25 = .ok (.iload_n 2, 1) := by decide +kernel
theorem dX11_firstForged_26 : decode cX11_firstForged 26 = .ok (.iaload, 1) := by decide +kernel
theorem dX11_firstForged_27 : decode cX11_firstForged 27 = .ok (.aload_n 0, 1) := by decide +kernel
theorem dX11_firstForged_28 : decode cX11_firstForged 28 = .ok (.getfield 36, 3) := by decide +kernel
theorem dX11_firstForged_31 : decode cX11_firstForged 31 = .ok (.getfield 99, 3) := by decide +kernel
theorem dX11_firstForged_34 : decode cX11_firstForged 34 = .ok (.iload_n 2, 1) := by decide +kernel
theorem dX11_firstForged_35 : decode cX11_firstForged 35 = .ok (.iaload, 1) := by decide +kernel
theorem dX11_firstForged_36 : decode cX11_firstForged 36 = .ok (.if_icmp .eq 5, 3) := by decide +kernel
theorem dX11_firstForged_39 : decode cX11_firstForged 39 = .ok (.iload_n 2, 1) := by decide +kernel
theorem dX11_firstForged_40 : decode cX11_firstForged 40 = .ok (.ireturn, 1) := by decide +kernel
theorem dX11_firstForged_41 : decode cX11_firstForged 41 = .ok (.iinc 2 1, 3) := by decide +kernel
theorem dX11_firstForged_44 : decode cX11_firstForged 44 = .ok (.goto (-42), 3) := by decide +kernel
theorem dX11_firstForged_47 : decode cX11_firstForged 47 = .ok (.bipush (-4), 2) := by decide +kernel
theorem dX11_firstForged_49 : decode cX11_firstForged 49 = .ok (.ireturn, 1) := by decide +kernel
theorem dX11_power_0 : decode cX11_power 0 = .ok (.lconst 1, 1) := by decide +kernel
theorem dX11_power_1 : decode cX11_power 1 = .ok (.lstore_n 2, 1) := by decide +kernel
theorem dX11_power_2 : decode cX11_power 2 = .ok (.iconst 0, 1) := by decide +kernel
theorem dX11_power_3 : decode cX11_power 3 = .ok (.istore 4, 2) := by decide +kernel
theorem dX11_power_5 : decode cX11_power 5 = .ok (.iload 4, 2) := by decide +kernel
theorem dX11_power_7 : decode cX11_power 7 = .ok (.iload_n 1, 1) := by decide +kernel
theorem dX11_power_8 : decode cX11_power 8 = .ok (.if_icmp .ge 14, 3) := by decide +kernel
theorem dX11_power_11 : decode cX11_power 11 = .ok (.lload_n 2, 1) := by decide +kernel
theorem dX11_power_12 : decode cX11_power 12 = .ok (.iload_n 0, 1) := by decide +kernel
theorem dX11_power_13 : decode cX11_power 13 = .ok (.i2l, 1) := by decide +kernel
theorem dX11_power_14 : decode cX11_power 14 = .ok (.lmul, 1) := by decide +kernel
theorem dX11_power_15 : decode cX11_power 15 = .ok (.lstore_n 2, 1) := by decide +kernel
theorem dX11_power_16 : decode cX11_power 16 = .ok (.iinc 4 1, 3) := by decide +kernel
theorem dX11_power_19 : decode cX11_power 19 = .ok (.goto (-14), 3) := by decide +kernel
theorem dX11_power_22 : decode cX11_power 22 = .ok (.lload_n 2, 1) := by decide +kernel
theorem dX11_power_23 : decode cX11_power 23 = .ok (.lreturn, 1) := by decide +kernel
set_option maxRecDepth 20000 in
theorem ggX11_leastTerm_X11_commonDivisor : GoodIn wsX11_leastTerm wsX11_commonDivisor := goodIn_r _ [4] (by decide +kernel) (by decide +kernel)
set_option maxRecDepth 20000 in
theorem gX11_leastTerm_X11_commonDivisor : GoodIn wsX11_leastTerm (va_wsS RX11 321 yX11_commonDivisor wsX11_commonDivisor) := goodIn_app (goodIn_of _ (by decide +kernel)) ggX11_leastTerm_X11_commonDivisor
theorem dX11_leastTerm_0 : decode cX11_leastTerm 0 = .ok (.lload_n 0, 1) := by decide +kernel
theorem dX11_leastTerm_1 : decode cX11_leastTerm 1 = .ok (.lload_n 2, 1) := by decide +kernel
theorem dX11_leastTerm_2 : decode cX11_leastTerm 2 = .ok (.invokestatic 321, 3) := by decide +kernel
theorem dX11_leastTerm_5 : decode cX11_leastTerm 5 = .ok (.lstore 5, 2) := by decide +kernel
theorem dX11_leastTerm_7 : decode cX11_leastTerm 7 = .ok (.lload 5, 2) := by decide +kernel
theorem dX11_leastTerm_9 : decode cX11_leastTerm 9 = .ok (.lconst 0, 1) := by decide +kernel
theorem dX11_leastTerm_10 : decode cX11_leastTerm 10 = .ok (.lcmp, 1) := by decide +kernel
theorem dX11_leastTerm_11 : decode cX11_leastTerm 11 = .ok (.ifCond .ne 7, 3) := by decide +kernel
theorem dX11_leastTerm_14 : decode cX11_leastTerm 14 = .ok (.iload 4, 2) := by decide +kernel
theorem dX11_leastTerm_16 : decode cX11_leastTerm 16 = .ok (.i2l, 1) := by decide +kernel
theorem dX11_leastTerm_17 : decode cX11_leastTerm 17 = .ok (.lreturn, 1) := by decide +kernel
theorem dX11_leastTerm_18 : decode cX11_leastTerm 18 = .ok (.iload 4, 2) := by decide +kernel
theorem dX11_leastTerm_20 : decode cX11_leastTerm 20 = .ok (.ifCond .ne 10, 3) := by decide +kernel
theorem dX11_leastTerm_23 : decode cX11_leastTerm 23 = .ok (.lload_n 0, 1) := by decide +kernel
theorem dX11_leastTerm_24 : decode cX11_leastTerm 24 = .ok (.lload 5, 2) := by decide +kernel
theorem dX11_leastTerm_26 : decode cX11_leastTerm 26 = .ok (.ldiv, 1) := by decide +kernel
theorem dX11_leastTerm_27 : decode cX11_leastTerm 27 = .ok (.goto 7, 3) := by decide +kernel
theorem dX11_leastTerm_30 : decode cX11_leastTerm 30 = .ok (.lload_n 2, 1) := by decide +kernel
theorem dX11_leastTerm_31 : decode cX11_leastTerm 31 = .ok (.lload 5, 2) := by decide +kernel
theorem dX11_leastTerm_33 : decode cX11_leastTerm 33 = .ok (.ldiv, 1) := by decide +kernel
theorem dX11_leastTerm_34 : decode cX11_leastTerm 34 = .ok (.lreturn, 1) := by decide +kernel
theorem dX11_commonDivisor_0 : decode cX11_commonDivisor 0 = .ok (.lload_n 0, 1) := by decide +kernel
theorem dX11_commonDivisor_1 : decode cX11_commonDivisor 1 = .ok (.lstore 4, 2) := by decide +kernel
theorem dX11_commonDivisor_3 : decode cX11_commonDivisor 3 = .ok (.lload_n 2, 1) := by decide +kernel
theorem dX11_commonDivisor_4 : decode cX11_commonDivisor 4 = .ok (.lstore 6, 2) := by decide +kernel
theorem dX11_commonDivisor_6 : decode cX11_commonDivisor 6 = .ok (.iconst 0, 1) := by decide +kernel
theorem dX11_commonDivisor_7 : decode cX11_commonDivisor 7 = .ok (.istore 8, 2) := by decide +kernel
theorem dX11_commonDivisor_9 : decode cX11_commonDivisor 9 = .ok (.iload 8, 2) := by decide +kernel
theorem dX11_commonDivisor_11 : decode cX11_commonDivisor 11 = .ok (.sipush 1000, 3) := by decide +kernel
theorem dX11_commonDivisor_14 : decode cX11_commonDivisor 14 = .ok (.if_icmp .ge 31, 3) := by decide +kernel
theorem dX11_commonDivisor_17 : decode cX11_commonDivisor 17 = .ok (.lload 6, 2) := by decide +kernel
theorem dX11_commonDivisor_19 : decode cX11_commonDivisor 19 = .ok (.lconst 0, 1) := by decide +kernel
theorem dX11_commonDivisor_20 : decode cX11_commonDivisor 20 = .ok (.lcmp, 1) := by decide +kernel
theorem dX11_commonDivisor_21 : decode cX11_commonDivisor 21 = .ok (.ifCond .eq 24, 3) := by decide +kernel
theorem dX11_commonDivisor_24 : decode cX11_commonDivisor 24 = .ok (.lload 4, 2) := by decide +kernel
theorem dX11_commonDivisor_26 : decode cX11_commonDivisor 26 = .ok (.lload 6, 2) := by decide +kernel
theorem dX11_commonDivisor_28 : decode cX11_commonDivisor 28 = .ok (.lrem, 1) := by decide +kernel
theorem dX11_commonDivisor_29 : decode cX11_commonDivisor 29 = .ok (.lstore 9, 2) := by decide +kernel
theorem dX11_commonDivisor_31 : decode cX11_commonDivisor 31 = .ok (.lload 6, 2) := by decide +kernel
theorem dX11_commonDivisor_33 : decode cX11_commonDivisor 33 = .ok (.lstore 4, 2) := by decide +kernel
theorem dX11_commonDivisor_35 : decode cX11_commonDivisor 35 = .ok (.lload 9, 2) := by decide +kernel
theorem dX11_commonDivisor_37 : decode cX11_commonDivisor 37 = .ok (.lstore 6, 2) := by decide +kernel
theorem dX11_commonDivisor_39 : decode cX11_commonDivisor 39 = .ok (.iinc 8 1, 3) := by decide +kernel
theorem dX11_commonDivisor_42 : decode cX11_commonDivisor 42 = .ok (.goto (-33), 3) := by decide +kernel
theorem dX11_commonDivisor_45 : decode cX11_commonDivisor 45 = .ok (.lload 4, 2) := by decide +kernel
theorem dX11_commonDivisor_47 : decode cX11_commonDivisor 47 = .ok (.lreturn, 1) := by decide +kernel
