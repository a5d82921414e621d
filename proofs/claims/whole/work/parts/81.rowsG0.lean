set_option maxRecDepth 20000 in
theorem gt_wsX00 : GoodIn lw_tbl wsX00 := goodIn_r _ [] (by decide +kernel) (by decide +kernel)
set_option maxRecDepth 20000 in
theorem gt_wsX10 : GoodIn lw_tbl wsX10 := goodIn_r _ [] (by decide +kernel) (by decide +kernel)
set_option maxRecDepth 20000 in
theorem gt_wsX100 : GoodIn lw_tbl wsX100 := goodIn_r _ [] (by decide +kernel) (by decide +kernel)
set_option maxRecDepth 20000 in
theorem gt_wsX110 : GoodIn lw_tbl wsX110 := goodIn_r _ [261, 263, 265, 267, 269, 271] (by decide +kernel) (by decide +kernel)
set_option maxRecDepth 20000 in
theorem gt_wsX120 : GoodIn lw_tbl wsX120 := goodIn_r _ [1057, 1059, 1061, 1063, 1065, 1067, 1069, 1071, 1073, 1075, 1077, 1079, 1081, 1083, 1085, 1087, 1089, 1091] (by decide +kernel) (by decide +kernel)
set_option maxRecDepth 20000 in
theorem gt_wsX20 : GoodIn lw_tbl wsX20 := goodIn_r _ [171, 173, 175, 177, 179, 181, 183, 185, 187, 189, 191, 193] (by decide +kernel) (by decide +kernel)
set_option maxRecDepth 20000 in
theorem gt_wsX30 : GoodIn lw_tbl wsX30 := goodIn_r _ [] (by decide +kernel) (by decide +kernel)
set_option maxRecDepth 20000 in
theorem gt_wsX40 : GoodIn lw_tbl wsX40 := goodIn_r _ [] (by decide +kernel) (by decide +kernel)
set_option maxRecDepth 20000 in
theorem gt_wsX50 : GoodIn lw_tbl wsX50 := goodIn_r _ [208, 210, 212, 214, 216] (by decide +kernel) (by decide +kernel)
set_option maxRecDepth 20000 in
theorem gt_wsX60 : GoodIn lw_tbl wsX60 := goodIn_r _ [] (by decide +kernel) (by decide +kernel)
set_option maxRecDepth 20000 in
theorem gt_wsX70 : GoodIn lw_tbl wsX70 := goodIn_r _ [] (by decide +kernel) (by decide +kernel)
set_option maxRecDepth 20000 in
theorem gt_wsX80 : GoodIn lw_tbl wsX80 := goodIn_r _ [] (by decide +kernel) (by decide +kernel)
set_option maxRecDepth 20000 in
theorem gt_wsX90 : GoodIn lw_tbl wsX90 := goodIn_r _ [240, 242, 244, 246, 248, 250, 252] (by decide +kernel) (by decide +kernel)
set_option maxRecDepth 20000 in
theorem gL_law_X11_init : GoodIn lw_tbl wsX11_init := (goodIn_ca (goodIn_ca (goodIn_ca (goodIn_ca (goodIn_ca (goodIn_ca (goodIn_ca (goodIn_ca (goodIn_ca (goodIn_ca (goodIn_ca (goodIn_ca (goodIn_r _ [74, 75, 76, 77, 78, 80, 49, 86, 87, 50, 93, 94, 51, 100, 101, 52, 107, 108, 53, 114, 115, 54, 121, 122, 55, 128, 129, 56, 135, 136, 57, 255, 256, 257, 197, 198, 58, 258, 219, 259, 221, 59, 82, 83, 84, 89, 90, 96, 97, 103, 104, 110, 111, 117, 118, 124, 125, 131, 132, 137, 138, 139, 140, 196, 141, 144, 147, 170, 169, 199, 200, 201, 202, 205, 206, 207, 203, 204, 222, 223, 224, 225, 226, 239] (by decide +kernel) (by decide +kernel)) gt_wsX40) gt_wsX00) gt_wsX70) gt_wsX30) gt_wsX10) gt_wsX80) gt_wsX100) gt_wsX60) gt_wsX20) gt_wsX110) gt_wsX50) gt_wsX90)
set_option maxRecDepth 20000 in
theorem gL_law_X12_init : GoodIn lw_tbl wsX12_init := (goodIn_ca (goodIn_r _ [1037, 1038, 76, 77, 196, 1039, 1040, 1041, 1042, 1047, 1048, 1050, 1051, 1052, 1053, 1054, 1055] (by decide +kernel) (by decide +kernel)) gt_wsX120)
