set_option maxRecDepth 20000 in
theorem gL_law_X11_row : GoodIn lw_tbl (wsV RL 148 RX11 yX11_row wsX11_row) := goodIn_app (goodIn_r _ [830, 831, 832, 48] (by decide +kernel) (by decide +kernel)) (goodIn_ca (goodIn_ca (goodIn_r _ [833, 259, 282, 283, 48, 284, 285, 286, 287, 834, 835, 836, 59, 837, 238, 233, 236, 226] (by decide +kernel) (by decide +kernel)) gt_wsX110) gt_wsX90)
set_option maxRecDepth 20000 in
theorem gL_law_X12_row : GoodIn lw_tbl (wsV RL 151 RX12 yX12_row wsX12_row) := goodIn_app (goodIn_r _ [1404, 1405, 1406, 60] (by decide +kernel) (by decide +kernel)) (goodIn_ca (goodIn_r _ [1407, 1050, 1053, 1054, 1055, 1102, 1103, 60, 1104, 1105, 1106, 1107] (by decide +kernel) (by decide +kernel)) gt_wsX120)
set_option maxRecDepth 20000 in
theorem gL_law_X11_put : GoodIn lw_tbl (wsV RL 152 RX11 yX11_put wsX11_put) := goodIn_app (goodIn_r _ [838, 839, 840, 48] (by decide +kernel) (by decide +kernel)) (goodIn_ca (goodIn_ca (goodIn_r _ [841, 259, 278, 280, 0, 48, 281, 282, 283, 284, 285, 286, 287, 288, 289, 290, 59, 291, 238, 292, 293, 294, 295, 842, 309, 310, 311, 236, 843, 844, 845, 846, 226, 233] (by decide +kernel) (by decide +kernel)) gt_wsX110) gt_wsX90)
set_option maxRecDepth 20000 in
theorem gL_law_X12_put : GoodIn lw_tbl (wsV RL 155 RX12 yX12_put wsX12_put) := goodIn_app (goodIn_r _ [1408, 1409, 1410, 60] (by decide +kernel) (by decide +kernel)) (goodIn_ca (goodIn_r _ [1411, 1054, 1055, 1053, 1098, 1100, 23, 60, 1101, 1050, 1102, 1103, 1104, 1105, 1106, 1107] (by decide +kernel) (by decide +kernel)) gt_wsX120)
set_option maxRecDepth 20000 in
theorem gL_law_X12_element : GoodIn lw_tbl (wsV RL 161 RX12 yX12_element wsX12_element) := goodIn_app (goodIn_r _ [1412, 1413, 1414, 60] (by decide +kernel) (by decide +kernel)) (goodIn_ca (goodIn_r _ [1415, 1050, 1054, 1056, 1055, 1102, 1103, 60, 1104, 1105, 1106, 1107] (by decide +kernel) (by decide +kernel)) gt_wsX120)
set_option maxRecDepth 20000 in
theorem gL_law_X12_thrown : GoodIn lw_tbl (wsV RL 162 RX12 yX12_thrown wsX12_thrown) := goodIn_app (goodIn_r _ [1396, 1397, 1398, 60] (by decide +kernel) (by decide +kernel)) (goodIn_ca (goodIn_r _ [1399, 1056] (by decide +kernel) (by decide +kernel)) gt_wsX120)
set_option maxRecDepth 20000 in
theorem gL_law_X11_copy : GoodIn lw_tbl (wsV RL 165 RX11 yX11_copy wsX11_copy) := goodIn_app (goodIn_r _ [847, 848, 849, 48] (by decide +kernel) (by decide +kernel)) (goodIn_ca (goodIn_ca (goodIn_r _ [850, 259, 234, 227, 855, 325, 324, 61, 282, 283, 48, 284, 285, 286, 287, 288, 289, 290, 59, 291, 238, 292, 293, 294, 295, 851, 852, 853, 854, 236] (by decide +kernel) (by decide +kernel)) gt_wsX110) gt_wsX90)
set_option maxRecDepth 20000 in
theorem gL_law_X12_copy : GoodIn lw_tbl (wsV RL 169 RX12 yX12_copy wsX12_copy) := goodIn_app (goodIn_r _ [1416, 1417, 1418, 60] (by decide +kernel) (by decide +kernel)) (goodIn_ca (goodIn_r _ [1419, 1050, 1053, 1054, 1055, 1102, 1103, 60, 1104, 1105, 1106, 1107] (by decide +kernel) (by decide +kernel)) gt_wsX120)
set_option maxRecDepth 20000 in
theorem gL_law_X11_cost : GoodIn lw_tbl (wsV RL 170 RX11 yX11_cost wsX11_cost) := goodIn_app (goodIn_r _ [856, 857, 858, 48] (by decide +kernel) (by decide +kernel)) (goodIn_ca (goodIn_ca (goodIn_r _ [859, 259, 553, 555, 12, 48, 556, 282, 283, 284, 285, 286, 287, 288, 289, 290, 59, 291, 238, 292, 293, 294, 295, 860, 861, 862, 863, 239, 229, 231, 864, 867, 865, 868, 869, 50, 870, 871, 92, 865, 49, 890, 872, 873, 53, 874, 875, 1436, 113, 876, 877, 52, 878, 864, 866, 879, 880, 56, 881, 882, 1437, 134, 883, 884, 51, 885, 886, 887, 54, 888, 889] (by decide +kernel) (by decide +kernel)) gt_wsX110) gt_wsX90)
set_option maxRecDepth 20000 in
theorem gL_law_X12_cost : GoodIn lw_tbl (wsV RL 173 RX12 yX12_cost wsX12_cost) := goodIn_app (goodIn_r _ [1420, 1421, 1422, 60] (by decide +kernel) (by decide +kernel)) (goodIn_ca (goodIn_r _ [1423, 1051, 1052, 1220, 1222, 33, 60, 1223, 1050, 1102, 1103, 1104, 1105, 1106, 1107, 1424, 1425, 1426] (by decide +kernel) (by decide +kernel)) gt_wsX120)
set_option maxRecDepth 20000 in
theorem gL_law_X12_toss : GoodIn lw_tbl (wsV RL 177 RX12 yX12_toss wsX12_toss) := goodIn_app (goodIn_r _ [1427, 1428, 1429, 60] (by decide +kernel) (by decide +kernel)) (goodIn_ca (goodIn_r _ [1430, 1051, 1052, 1220, 1222, 33, 60, 1223, 1050, 1102, 1103, 1104, 1105, 1106, 1107, 1424, 1425, 1426] (by decide +kernel) (by decide +kernel)) gt_wsX120)
