theorem k_inP {big : List Cond} (ws : List Cond) (ps : List Nat) (hp : ps.filterMap (fun i => big[i]?) = ws) : ∀ w ∈ ws, w ∈ big := by
  intro w hw
  rw [← hp] at hw
  obtain ⟨i, -, hi⟩ := List.mem_filterMap.mp hw
  exact List.mem_of_getElem? hi
set_option maxRecDepth 20000 in
theorem wsL_law0_r1_in : ∀ w ∈ wsL_law0_r1, w ∈ lw_tbl := fun w h => k_inP (big := lw_tbl) wsL_law0_r1 [70, 71, 48, 1033, 1034, 60, 1431, 72, 73, 74, 75, 76, 77, 78, 80, 49, 86, 87, 50, 93, 94, 51, 100, 101] rfl w h
set_option maxRecDepth 20000 in
theorem wsL_law0_r2_in : ∀ w ∈ wsL_law0_r2, w ∈ lw_tbl := fun w h => k_inP (big := lw_tbl) wsL_law0_r2 [52, 107, 108, 53, 114, 115, 54, 121, 122, 55, 128, 129, 56, 135, 136, 57, 255, 256, 257, 197, 198, 58, 258, 219] rfl w h
set_option maxRecDepth 20000 in
theorem wsL_law0_r3_in : ∀ w ∈ wsL_law0_r3, w ∈ lw_tbl := fun w h => k_inP (big := lw_tbl) wsL_law0_r3 [259, 221, 59, 82, 83, 84, 89, 90, 96, 97, 103, 104, 110, 111, 117, 118, 124, 125, 131, 132, 137, 138, 139, 140] rfl w h
set_option maxRecDepth 20000 in
theorem wsL_law0_r4_in : ∀ w ∈ wsL_law0_r4, w ∈ lw_tbl := fun w h => k_inP (big := lw_tbl) wsL_law0_r4 [196, 141, 144, 147, 170, 169, 199, 200, 201, 202, 205, 206, 207, 203, 204, 222, 223, 224, 225, 226, 239, 1035, 1036, 1037] rfl w h
set_option maxRecDepth 20000 in
theorem wsL_law0_r5_in : ∀ w ∈ wsL_law0_r5, w ∈ lw_tbl := fun w h => k_inP (big := lw_tbl) wsL_law0_r5 [1038, 1039, 1040, 1041, 1042, 1047, 1048, 1050, 1051, 1052, 1053, 1054, 1055, 274, 275, 276, 277, 235, 227, 278, 280, 0, 281, 282] rfl w h
set_option maxRecDepth 20000 in
theorem wsL_law0_r6_in : ∀ w ∈ wsL_law0_r6, w ∈ lw_tbl := fun w h => k_inP (big := lw_tbl) wsL_law0_r6 [283, 284, 285, 286, 287, 288, 289, 290, 291, 238, 292, 293, 294, 295, 296, 297, 298, 299, 233, 300, 301, 302, 303, 236] rfl w h
set_option maxRecDepth 20000 in
theorem wsL_law0_r7_in : ∀ w ∈ wsL_law0_r7, w ∈ lw_tbl := fun w h => k_inP (big := lw_tbl) wsL_law0_r7 [304, 306, 1, 307, 308, 309, 310, 311, 312, 313, 314, 315, 316, 317, 319, 320, 321, 322, 323, 325, 324, 61, 150, 153] rfl w h
set_option maxRecDepth 20000 in
theorem wsL_law0_r8_in : ∀ w ∈ wsL_law0_r8, w ∈ lw_tbl := fun w h => k_inP (big := lw_tbl) wsL_law0_r8 [156, 159, 162, 165, 326, 327, 328, 329, 228, 330, 332, 2, 333, 334, 335, 336, 337, 338, 339, 340, 341, 342, 343, 344] rfl w h
set_option maxRecDepth 20000 in
theorem wsL_law0_r9_in : ∀ w ∈ wsL_law0_r9, w ∈ lw_tbl := fun w h => k_inP (big := lw_tbl) wsL_law0_r9 [345, 346, 347, 349, 3, 350, 351, 352, 353, 354, 355, 357, 4, 358, 359, 360, 361, 362, 363, 365, 5, 366, 367, 369] rfl w h
set_option maxRecDepth 20000 in
theorem wsL_law0_r10_in : ∀ w ∈ wsL_law0_r10, w ∈ lw_tbl := fun w h => k_inP (big := lw_tbl) wsL_law0_r10 [6, 370, 372, 373, 374, 375, 168, 376, 377, 378, 379, 425, 426, 62, 427, 428, 429, 430, 380, 381, 382, 383, 384, 385] rfl w h
set_option maxRecDepth 20000 in
theorem wsL_law0_r11_in : ∀ w ∈ wsL_law0_r11, w ∈ lw_tbl := fun w h => k_inP (big := lw_tbl) wsL_law0_r11 [386, 387, 388, 391, 389, 392, 393, 394, 423, 395, 396, 397, 398, 399, 400, 388, 389, 390, 424, 403, 404, 405, 406, 407] rfl w h
set_option maxRecDepth 20000 in
theorem wsL_law0_r12_in : ∀ w ∈ wsL_law0_r12, w ∈ lw_tbl := fun w h => k_inP (big := lw_tbl) wsL_law0_r12 [408, 1432, 134, 409, 410, 411, 414, 415, 416, 419, 420, 421, 422, 1433, 127, 431, 432, 433, 434, 435, 436, 437, 438, 441] rfl w h
set_option maxRecDepth 20000 in
theorem wsL_law0_r13_in : ∀ w ∈ wsL_law0_r13, w ∈ lw_tbl := fun w h => k_inP (big := lw_tbl) wsL_law0_r13 [439, 442, 443, 444, 461, 445, 446, 447, 448, 1434, 113, 449, 450, 451, 452, 106, 439, 438, 440, 453, 454, 455, 456, 457] rfl w h
set_option maxRecDepth 20000 in
theorem wsL_law0_r14_in : ∀ w ∈ wsL_law0_r14, w ∈ lw_tbl := fun w h => k_inP (big := lw_tbl) wsL_law0_r14 [458, 459, 460, 462, 463, 63, 464, 465, 466, 467, 468, 469, 470, 471, 472, 474, 7, 475, 476, 477, 478, 479, 480, 481] rfl w h
set_option maxRecDepth 20000 in
theorem wsL_law0_r15_in : ∀ w ∈ wsL_law0_r15, w ∈ lw_tbl := fun w h => k_inP (big := lw_tbl) wsL_law0_r15 [1094, 1095, 1096, 1097, 1045, 1046, 1044, 1098, 1100, 23, 1101, 1102, 1103, 1104, 1105, 1106, 1107, 1108, 1110, 24, 1111, 1112, 1114, 25] rfl w h
set_option maxRecDepth 20000 in
theorem wsL_law0_r16_in : ∀ w ∈ wsL_law0_r16, w ∈ lw_tbl := fun w h => k_inP (big := lw_tbl) wsL_law0_r16 [1115, 1116, 1118, 26, 1119, 1120, 1121, 1122, 1123, 1125, 27, 1126, 1127, 1129, 28, 1130, 1131, 1132, 1133, 1134, 1136, 29, 1137, 1138] rfl w h
set_option maxRecDepth 20000 in
theorem wsL_law0_r17_in : ∀ w ∈ wsL_law0_r17, w ∈ lw_tbl := fun w h => k_inP (big := lw_tbl) wsL_law0_r17 [1139, 1140, 1141, 1142, 1143, 1144, 1145, 1146, 1147, 1148, 1149, 1150, 1151, 1152, 1153, 1154, 1155, 1156, 1157, 1158, 1159, 1160, 1161, 1162] rfl w h
set_option maxRecDepth 20000 in
theorem wsL_law0_r18_in : ∀ w ∈ wsL_law0_r18, w ∈ lw_tbl := fun w h => k_inP (big := lw_tbl) wsL_law0_r18 [1163, 1164, 1165, 1166, 1167, 1168, 1169, 1170, 1171, 1172, 1173, 1174, 1175, 1176, 1177, 1178, 1179, 1180, 1181, 1182, 1183, 1184, 1185, 1186] rfl w h
set_option maxRecDepth 20000 in
theorem wsL_law0_r19_in : ∀ w ∈ wsL_law0_r19, w ∈ lw_tbl := fun w h => k_inP (big := lw_tbl) wsL_law0_r19 [1187, 1188, 482, 483, 484, 485, 148, 487, 486, 1189, 1190, 1191, 1192, 1193, 488, 489, 490, 491, 142, 145, 492, 493, 494, 495] rfl w h
set_option maxRecDepth 20000 in
theorem wsL_law0_r20_in : ∀ w ∈ wsL_law0_r20, w ∈ lw_tbl := fun w h => k_inP (big := lw_tbl) wsL_law0_r20 [496, 497, 499, 8, 500, 501, 503, 9, 504, 505, 506, 507, 508, 509, 512, 510, 513, 514, 515, 536, 516, 517, 518, 519] rfl w h
set_option maxRecDepth 20000 in
theorem wsL_law0_r21_in : ∀ w ∈ wsL_law0_r21, w ∈ lw_tbl := fun w h => k_inP (big := lw_tbl) wsL_law0_r21 [1435, 520, 510, 509, 511, 521, 522, 523, 527, 528, 529, 530, 531, 532, 533, 534, 535, 537, 538, 539, 540, 541, 543, 10] rfl w h
set_option maxRecDepth 20000 in
theorem wsL_law0_r22_in : ∀ w ∈ wsL_law0_r22, w ∈ lw_tbl := fun w h => k_inP (big := lw_tbl) wsL_law0_r22 [544, 545, 547, 11, 548, 1194, 1195, 1196, 1197, 1198, 1200, 30, 1201, 1202, 1203, 1204, 1205, 1207, 31, 1208, 1209, 1211, 32, 1212] rfl w h
set_option maxRecDepth 20000 in
theorem wsL_law0_r23_in : ∀ w ∈ wsL_law0_r23, w ∈ lw_tbl := fun w h => k_inP (big := lw_tbl) wsL_law0_r23 [549, 550, 551, 552, 230, 232, 151, 553, 555, 12, 556, 557, 1213, 1214, 1215, 1216, 1217, 1218, 1219, 1220, 1222, 33, 1223, 558] rfl w h
set_option maxRecDepth 20000 in
theorem wsL_law0_r24_in : ∀ w ∈ wsL_law0_r24, w ∈ lw_tbl := fun w h => k_inP (big := lw_tbl) wsL_law0_r24 [559, 560, 561, 1224, 1225, 1226, 1227, 562, 563, 564, 565, 566, 1228, 1229, 1230, 1231, 567, 568, 569, 570, 160, 158, 1232, 1233] rfl w h
set_option maxRecDepth 20000 in
theorem wsL_law0_r25_in : ∀ w ∈ wsL_law0_r25, w ∈ lw_tbl := fun w h => k_inP (big := lw_tbl) wsL_law0_r25 [1234, 1235, 571, 572, 573, 574, 166, 575, 576, 577, 1236, 1237, 1238, 1239, 578, 579, 580, 581, 582, 583, 584, 585, 586, 587] rfl w h
set_option maxRecDepth 20000 in
theorem wsL_law0_r26_in : ∀ w ∈ wsL_law0_r26, w ∈ lw_tbl := fun w h => k_inP (big := lw_tbl) wsL_law0_r26 [1240, 1241, 1242, 1243, 1244, 1245, 1246, 1247, 1249, 34, 1250, 588, 589, 590, 591, 163, 1251, 1252, 1253, 1254, 592, 593, 594, 595] rfl w h
set_option maxRecDepth 20000 in
theorem wsL_law0_r27_in : ∀ w ∈ wsL_law0_r27, w ∈ lw_tbl := fun w h => k_inP (big := lw_tbl) wsL_law0_r27 [596, 597, 598, 599, 149, 600, 1255, 1256, 1257, 1258, 601, 602, 603, 604, 605, 606, 607, 608, 167, 609, 610, 611, 612, 613] rfl w h
set_option maxRecDepth 20000 in
theorem wsL_law0_r28_in : ∀ w ∈ wsL_law0_r28, w ∈ lw_tbl := fun w h => k_inP (big := lw_tbl) wsL_law0_r28 [615, 13, 616, 617, 152, 1259, 1260, 1261, 1262, 1263, 1265, 35, 1266, 1267, 1269, 36, 1270, 1271, 1273, 37, 1274, 618, 619, 620] rfl w h
set_option maxRecDepth 20000 in
theorem wsL_law0_r29_in : ∀ w ∈ wsL_law0_r29, w ∈ lw_tbl := fun w h => k_inP (big := lw_tbl) wsL_law0_r29 [621, 622, 623, 624, 625, 157, 1275, 1276, 1277, 1278, 626, 627, 628, 629, 630, 631, 632, 633, 634, 635, 636, 637, 638, 639] rfl w h
set_option maxRecDepth 20000 in
theorem wsL_law0_r30_in : ∀ w ∈ wsL_law0_r30, w ∈ lw_tbl := fun w h => k_inP (big := lw_tbl) wsL_law0_r30 [640, 641, 642, 643, 644, 645, 646, 647, 648, 1279, 1280, 1281, 1282, 1283, 1285, 38, 1286, 649, 650, 651, 652, 653, 654, 655] rfl w h
set_option maxRecDepth 20000 in
theorem wsL_law0_r31_in : ∀ w ∈ wsL_law0_r31, w ∈ lw_tbl := fun w h => k_inP (big := lw_tbl) wsL_law0_r31 [656, 1287, 1288, 1289, 1290, 1291, 1292, 1293, 657, 658, 659, 660, 661, 662, 663, 664, 154, 665, 666, 668, 14, 669, 1294, 1295] rfl w h
set_option maxRecDepth 20000 in
theorem wsL_law0_r32_in : ∀ w ∈ wsL_law0_r32, w ∈ lw_tbl := fun w h => k_inP (big := lw_tbl) wsL_law0_r32 [1296, 1297, 670, 671, 672, 673, 674, 675, 676, 677, 678, 679, 1298, 1299, 1300, 1301, 680, 681, 682, 683, 684, 685, 686, 687] rfl w h
set_option maxRecDepth 20000 in
theorem wsL_law0_r33_in : ∀ w ∈ wsL_law0_r33, w ∈ lw_tbl := fun w h => k_inP (big := lw_tbl) wsL_law0_r33 [688, 690, 15, 691, 692, 693, 694, 695, 696, 697, 698, 699, 700, 702, 16, 703, 1302, 1303, 1304, 1305, 1306, 1308, 39, 1309] rfl w h
set_option maxRecDepth 20000 in
theorem wsL_law0_r34_in : ∀ w ∈ wsL_law0_r34, w ∈ lw_tbl := fun w h => k_inP (big := lw_tbl) wsL_law0_r34 [1310, 1312, 40, 1313, 1314, 1316, 41, 1317, 704, 705, 706, 707, 708, 709, 710, 711, 143, 712, 714, 17, 715, 237, 716, 717] rfl w h
set_option maxRecDepth 20000 in
theorem wsL_law0_r35_in : ∀ w ∈ wsL_law0_r35, w ∈ lw_tbl := fun w h => k_inP (big := lw_tbl) wsL_law0_r35 [718, 719, 720, 722, 18, 723, 724, 725, 726, 727, 728, 146, 1318, 1319, 1320, 1321, 1322, 1324, 42, 1325, 1326, 1327, 1328, 1329] rfl w h
set_option maxRecDepth 20000 in
theorem wsL_law0_r36_in : ∀ w ∈ wsL_law0_r36, w ∈ lw_tbl := fun w h => k_inP (big := lw_tbl) wsL_law0_r36 [729, 730, 731, 732, 733, 734, 735, 736, 737, 739, 19, 740, 161, 1330, 1331, 1332, 1333, 1334, 1336, 43, 1337, 741, 742, 743] rfl w h
set_option maxRecDepth 20000 in
theorem wsL_law0_r37_in : ∀ w ∈ wsL_law0_r37, w ∈ lw_tbl := fun w h => k_inP (big := lw_tbl) wsL_law0_r37 [744, 745, 746, 747, 748, 749, 751, 20, 752, 753, 1338, 1339, 1340, 1341, 1342, 1344, 44, 1345, 1346, 1348, 45, 1349, 754, 755] rfl w h
set_option maxRecDepth 20000 in
theorem wsL_law0_r38_in : ∀ w ∈ wsL_law0_r38, w ∈ lw_tbl := fun w h => k_inP (big := lw_tbl) wsL_law0_r38 [756, 757, 758, 759, 760, 761, 762, 763, 765, 766, 767, 768, 769, 770, 771, 772, 773, 1350, 1351, 1352, 1353, 1354, 1355, 1356] rfl w h
set_option maxRecDepth 20000 in
theorem wsL_law0_r39_in : ∀ w ∈ wsL_law0_r39, w ∈ lw_tbl := fun w h => k_inP (big := lw_tbl) wsL_law0_r39 [1357, 1358, 1359, 1360, 774, 775, 776, 777, 778, 1361, 1362, 1363, 1364, 779, 780, 781, 782, 783, 785, 21, 786, 1365, 1366, 1367] rfl w h
set_option maxRecDepth 20000 in
theorem wsL_law0_r40_in : ∀ w ∈ wsL_law0_r40, w ∈ lw_tbl := fun w h => k_inP (big := lw_tbl) wsL_law0_r40 [1368, 787, 788, 789, 790, 791, 792, 793, 794, 1369, 1370, 1371, 1372, 795, 796, 797, 798, 799, 800, 801, 802, 803, 804, 805] rfl w h
set_option maxRecDepth 20000 in
theorem wsL_law0_r41_in : ∀ w ∈ wsL_law0_r41, w ∈ lw_tbl := fun w h => k_inP (big := lw_tbl) wsL_law0_r41 [164, 1373, 1374, 1375, 1376, 1049, 1377, 1379, 46, 1380, 1381, 1382, 1383, 806, 807, 808, 809, 260, 1384, 1385, 1386, 1387, 1043, 810] rfl w h
set_option maxRecDepth 20000 in
theorem wsL_law0_r42_in : ∀ w ∈ wsL_law0_r42, w ∈ lw_tbl := fun w h => k_inP (big := lw_tbl) wsL_law0_r42 [811, 812, 813, 1388, 1389, 1390, 1391, 814, 815, 816, 817, 155, 1392, 1393, 1394, 1395, 818, 819, 820, 821, 822, 823, 824, 825] rfl w h
set_option maxRecDepth 20000 in
theorem wsL_law0_r43_in : ∀ w ∈ wsL_law0_r43, w ∈ lw_tbl := fun w h => k_inP (big := lw_tbl) wsL_law0_r43 [826, 827, 828, 829, 229, 231, 1400, 1401, 1402, 1403, 830, 831, 832, 833, 834, 835, 836, 837, 1404, 1405, 1406, 1407, 838, 839] rfl w h
set_option maxRecDepth 20000 in
theorem wsL_law0_r44_in : ∀ w ∈ wsL_law0_r44, w ∈ lw_tbl := fun w h => k_inP (big := lw_tbl) wsL_law0_r44 [840, 841, 842, 843, 844, 845, 846, 1408, 1409, 1410, 1411, 1020, 1021, 47, 1022, 1023, 1024, 1025, 1026, 1027, 1028, 896, 67, 897] rfl w h
set_option maxRecDepth 20000 in
theorem wsL_law0_r45_in : ∀ w ∈ wsL_law0_r45, w ∈ lw_tbl := fun w h => k_inP (big := lw_tbl) wsL_law0_r45 [68, 1412, 1413, 1414, 1415, 1056, 1396, 1397, 1398, 1399, 847, 848, 849, 850, 234, 855, 851, 852, 853, 854, 1416, 1417, 1418, 1419] rfl w h
set_option maxRecDepth 20000 in
theorem wsL_law0_r46_in : ∀ w ∈ wsL_law0_r46, w ∈ lw_tbl := fun w h => k_inP (big := lw_tbl) wsL_law0_r46 [856, 857, 858, 859, 860, 861, 862, 863, 864, 867, 865, 868, 869, 870, 871, 92, 865, 890, 872, 873, 874, 875, 1436, 876] rfl w h
set_option maxRecDepth 20000 in
theorem wsL_law0_r47_in : ∀ w ∈ wsL_law0_r47, w ∈ lw_tbl := fun w h => k_inP (big := lw_tbl) wsL_law0_r47 [877, 878, 864, 866, 879, 880, 881, 882, 1437, 883, 884, 885, 886, 887, 888, 889, 1420, 1421, 1422, 1423, 1424, 1425, 1426, 891] rfl w h
set_option maxRecDepth 20000 in
theorem wsL_law0_r48_in : ∀ w ∈ wsL_law0_r48, w ∈ lw_tbl := fun w h => k_inP (big := lw_tbl) wsL_law0_r48 [892, 893, 894, 895, 898, 899, 900, 901, 902, 905, 903, 906, 907, 908, 909, 1003, 977, 978, 903, 1004, 902, 904, 979, 980] rfl w h
set_option maxRecDepth 20000 in
theorem wsL_law0_r49_in : ∀ w ∈ wsL_law0_r49, w ∈ lw_tbl := fun w h => k_inP (big := lw_tbl) wsL_law0_r49 [981, 982, 983, 984, 985, 986, 987, 69, 1427, 1428, 1429, 1430] rfl w h
theorem wsL_law_in0 : ∀ w ∈ wsL_law0, w ∈ lw_tbl := fun w h => (List.mem_append.mp h).elim (fun h => wsL_law0_r1_in w h) (fun h => (List.mem_append.mp h).elim (fun h => wsL_law0_r2_in w h) (fun h => (List.mem_append.mp h).elim (fun h => wsL_law0_r3_in w h) (fun h => (List.mem_append.mp h).elim (fun h => wsL_law0_r4_in w h) (fun h => (List.mem_append.mp h).elim (fun h => wsL_law0_r5_in w h) (fun h => (List.mem_append.mp h).elim (fun h => wsL_law0_r6_in w h) (fun h => (List.mem_append.mp h).elim (fun h => wsL_law0_r7_in w h) (fun h => (List.mem_append.mp h).elim (fun h => wsL_law0_r8_in w h) (fun h => (List.mem_append.mp h).elim (fun h => wsL_law0_r9_in w h) (fun h => (List.mem_append.mp h).elim (fun h => wsL_law0_r10_in w h) (fun h => (List.mem_append.mp h).elim (fun h => wsL_law0_r11_in w h) (fun h => (List.mem_append.mp h).elim (fun h => wsL_law0_r12_in w h) (fun h => (List.mem_append.mp h).elim (fun h => wsL_law0_r13_in w h) (fun h => (List.mem_append.mp h).elim (fun h => wsL_law0_r14_in w h) (fun h => (List.mem_append.mp h).elim (fun h => wsL_law0_r15_in w h) (fun h => (List.mem_append.mp h).elim (fun h => wsL_law0_r16_in w h) (fun h => (List.mem_append.mp h).elim (fun h => wsL_law0_r17_in w h) (fun h => (List.mem_append.mp h).elim (fun h => wsL_law0_r18_in w h) (fun h => (List.mem_append.mp h).elim (fun h => wsL_law0_r19_in w h) (fun h => (List.mem_append.mp h).elim (fun h => wsL_law0_r20_in w h) (fun h => (List.mem_append.mp h).elim (fun h => wsL_law0_r21_in w h) (fun h => (List.mem_append.mp h).elim (fun h => wsL_law0_r22_in w h) (fun h => (List.mem_append.mp h).elim (fun h => wsL_law0_r23_in w h) (fun h => (List.mem_append.mp h).elim (fun h => wsL_law0_r24_in w h) (fun h => (List.mem_append.mp h).elim (fun h => wsL_law0_r25_in w h) (fun h => (List.mem_append.mp h).elim (fun h => wsL_law0_r26_in w h) (fun h => (List.mem_append.mp h).elim (fun h => wsL_law0_r27_in w h) (fun h => (List.mem_append.mp h).elim (fun h => wsL_law0_r28_in w h) (fun h => (List.mem_append.mp h).elim (fun h => wsL_law0_r29_in w h) (fun h => (List.mem_append.mp h).elim (fun h => wsL_law0_r30_in w h) (fun h => (List.mem_append.mp h).elim (fun h => wsL_law0_r31_in w h) (fun h => (List.mem_append.mp h).elim (fun h => wsL_law0_r32_in w h) (fun h => (List.mem_append.mp h).elim (fun h => wsL_law0_r33_in w h) (fun h => (List.mem_append.mp h).elim (fun h => wsL_law0_r34_in w h) (fun h => (List.mem_append.mp h).elim (fun h => wsL_law0_r35_in w h) (fun h => (List.mem_append.mp h).elim (fun h => wsL_law0_r36_in w h) (fun h => (List.mem_append.mp h).elim (fun h => wsL_law0_r37_in w h) (fun h => (List.mem_append.mp h).elim (fun h => wsL_law0_r38_in w h) (fun h => (List.mem_append.mp h).elim (fun h => wsL_law0_r39_in w h) (fun h => (List.mem_append.mp h).elim (fun h => wsL_law0_r40_in w h) (fun h => (List.mem_append.mp h).elim (fun h => wsL_law0_r41_in w h) (fun h => (List.mem_append.mp h).elim (fun h => wsL_law0_r42_in w h) (fun h => (List.mem_append.mp h).elim (fun h => wsL_law0_r43_in w h) (fun h => (List.mem_append.mp h).elim (fun h => wsL_law0_r44_in w h) (fun h => (List.mem_append.mp h).elim (fun h => wsL_law0_r45_in w h) (fun h => (List.mem_append.mp h).elim (fun h => wsL_law0_r46_in w h) (fun h => (List.mem_append.mp h).elim (fun h => wsL_law0_r47_in w h) (fun h => (List.mem_append.mp h).elim (fun h => wsL_law0_r48_in w h) (fun h => wsL_law0_r49_in w h))))))))))))))))))))))))))))))))))))))))))))))))
theorem wsL_law_x0 : ∀ w ∈ (vx_atS RX11 286 "java/lang/IllegalArgumentException" ["java/lang/RuntimeException", "java/lang/Exception"]).filter goodWord, w ∈ lw_tbl := by decide +kernel
theorem wsL_law_x1 : ∀ w ∈ (vx_atS RX11 296 "java/lang/IllegalStateException" ["java/lang/RuntimeException", "java/lang/Exception"]).filter goodWord, w ∈ lw_tbl := by decide +kernel
theorem wsL_law_x2 : ∀ w ∈ (vx_atS RX0 15 "java/lang/IllegalArgumentException" ["java/lang/RuntimeException", "java/lang/Exception"]).filter goodWord, w ∈ lw_tbl := by decide +kernel
theorem wsL_law_x3 : ∀ w ∈ (vx_atS RX4 17 "java/lang/IllegalStateException" ["java/lang/RuntimeException", "java/lang/Exception"]).filter goodWord, w ∈ lw_tbl := by decide +kernel
theorem wsL_law_x4 : ∀ w ∈ (vx_atS RX10 15 "java/lang/UnsupportedOperationException" ["java/lang/RuntimeException", "java/lang/Exception"]).filter goodWord, w ∈ lw_tbl := by decide +kernel
theorem wsL_law_in : ∀ w ∈ wsL_law, w ∈ lw_tbl := fun w h => (List.mem_append.mp h).elim (fun h => (List.mem_append.mp h).elim (fun h => (List.mem_append.mp h).elim (fun h => (List.mem_append.mp h).elim (fun h => (List.mem_append.mp h).elim (fun h => wsL_law_in0 w h) (fun h => wsL_law_x0 w h)) (fun h => wsL_law_x1 w h)) (fun h => wsL_law_x2 w h)) (fun h => wsL_law_x3 w h)) (fun h => wsL_law_x4 w h)
theorem inlX0 : ∀ w ∈ wsX00, w ∈ wsL_law := fun _ h => List.mem_append_left _ (List.mem_append_left _ (List.mem_append_left _ (List.mem_append_left _ (List.mem_append_left _ (List.mem_append_left _ (List.mem_append_left _ (List.mem_append_left _ (List.mem_append_left _ (List.mem_append_left _ (List.mem_append_left _ (List.mem_append_left _ (List.mem_append_left _ (List.mem_append_left _ (List.mem_append_left _ (List.mem_append_right _ h)))))))))))))))
theorem inX0 : ∀ w ∈ wsX00, w ∈ lw_tbl := fun w h => wsL_law_in w (inlX0 w h)
theorem inlX1 : ∀ w ∈ wsX10, w ∈ wsL_law := fun _ h => List.mem_append_left _ (List.mem_append_left _ (List.mem_append_left _ (List.mem_append_left _ (List.mem_append_left _ (List.mem_append_left _ (List.mem_append_left _ (List.mem_append_left _ (List.mem_append_left _ (List.mem_append_left _ (List.mem_append_left _ (List.mem_append_left _ (List.mem_append_right _ h))))))))))))
theorem inX1 : ∀ w ∈ wsX10, w ∈ lw_tbl := fun w h => wsL_law_in w (inlX1 w h)
theorem inlX2 : ∀ w ∈ wsX20, w ∈ wsL_law := fun _ h => List.mem_append_left _ (List.mem_append_left _ (List.mem_append_left _ (List.mem_append_left _ (List.mem_append_left _ (List.mem_append_left _ (List.mem_append_left _ (List.mem_append_left _ (List.mem_append_right _ h))))))))
theorem inX2 : ∀ w ∈ wsX20, w ∈ lw_tbl := fun w h => wsL_law_in w (inlX2 w h)
theorem inlX3 : ∀ w ∈ wsX30, w ∈ wsL_law := fun _ h => List.mem_append_left _ (List.mem_append_left _ (List.mem_append_left _ (List.mem_append_left _ (List.mem_append_left _ (List.mem_append_left _ (List.mem_append_left _ (List.mem_append_left _ (List.mem_append_left _ (List.mem_append_left _ (List.mem_append_left _ (List.mem_append_left _ (List.mem_append_left _ (List.mem_append_right _ h)))))))))))))
theorem inX3 : ∀ w ∈ wsX30, w ∈ lw_tbl := fun w h => wsL_law_in w (inlX3 w h)
theorem inlX4 : ∀ w ∈ wsX40, w ∈ wsL_law := fun _ h => List.mem_append_left _ (List.mem_append_left _ (List.mem_append_left _ (List.mem_append_left _ (List.mem_append_left _ (List.mem_append_left _ (List.mem_append_left _ (List.mem_append_left _ (List.mem_append_left _ (List.mem_append_left _ (List.mem_append_left _ (List.mem_append_left _ (List.mem_append_left _ (List.mem_append_left _ (List.mem_append_left _ (List.mem_append_left _ (List.mem_append_right _ h))))))))))))))))
theorem inX4 : ∀ w ∈ wsX40, w ∈ lw_tbl := fun w h => wsL_law_in w (inlX4 w h)
theorem inlX5 : ∀ w ∈ wsX50, w ∈ wsL_law := fun _ h => List.mem_append_left _ (List.mem_append_left _ (List.mem_append_left _ (List.mem_append_left _ (List.mem_append_left _ (List.mem_append_left _ (List.mem_append_left _ (List.mem_append_right _ h)))))))
theorem inX5 : ∀ w ∈ wsX50, w ∈ lw_tbl := fun w h => wsL_law_in w (inlX5 w h)
theorem inlX6 : ∀ w ∈ wsX60, w ∈ wsL_law := fun _ h => List.mem_append_left _ (List.mem_append_left _ (List.mem_append_left _ (List.mem_append_left _ (List.mem_append_left _ (List.mem_append_left _ (List.mem_append_left _ (List.mem_append_left _ (List.mem_append_left _ (List.mem_append_right _ h)))))))))
theorem inX6 : ∀ w ∈ wsX60, w ∈ lw_tbl := fun w h => wsL_law_in w (inlX6 w h)
theorem inlX7 : ∀ w ∈ wsX70, w ∈ wsL_law := fun _ h => List.mem_append_left _ (List.mem_append_left _ (List.mem_append_left _ (List.mem_append_left _ (List.mem_append_left _ (List.mem_append_left _ (List.mem_append_left _ (List.mem_append_left _ (List.mem_append_left _ (List.mem_append_left _ (List.mem_append_left _ (List.mem_append_left _ (List.mem_append_left _ (List.mem_append_left _ (List.mem_append_right _ h))))))))))))))
theorem inX7 : ∀ w ∈ wsX70, w ∈ lw_tbl := fun w h => wsL_law_in w (inlX7 w h)
theorem inlX8 : ∀ w ∈ wsX80, w ∈ wsL_law := fun _ h => List.mem_append_left _ (List.mem_append_left _ (List.mem_append_left _ (List.mem_append_left _ (List.mem_append_left _ (List.mem_append_left _ (List.mem_append_left _ (List.mem_append_left _ (List.mem_append_left _ (List.mem_append_left _ (List.mem_append_left _ (List.mem_append_right _ h)))))))))))
theorem inX8 : ∀ w ∈ wsX80, w ∈ lw_tbl := fun w h => wsL_law_in w (inlX8 w h)
theorem inlX9 : ∀ w ∈ wsX90, w ∈ wsL_law := fun _ h => List.mem_append_left _ (List.mem_append_left _ (List.mem_append_left _ (List.mem_append_left _ (List.mem_append_left _ (List.mem_append_left _ (List.mem_append_right _ h))))))
theorem inX9 : ∀ w ∈ wsX90, w ∈ lw_tbl := fun w h => wsL_law_in w (inlX9 w h)
theorem inlX10 : ∀ w ∈ wsX100, w ∈ wsL_law := fun _ h => List.mem_append_left _ (List.mem_append_left _ (List.mem_append_left _ (List.mem_append_left _ (List.mem_append_left _ (List.mem_append_left _ (List.mem_append_left _ (List.mem_append_left _ (List.mem_append_left _ (List.mem_append_left _ (List.mem_append_right _ h))))))))))
theorem inX10 : ∀ w ∈ wsX100, w ∈ lw_tbl := fun w h => wsL_law_in w (inlX10 w h)
theorem inlX11 : ∀ w ∈ wsX110, w ∈ wsL_law := fun _ h => List.mem_append_left _ (List.mem_append_left _ (List.mem_append_left _ (List.mem_append_left _ (List.mem_append_left _ (List.mem_append_left _ (List.mem_append_left _ (List.mem_append_left _ (List.mem_append_left _ (List.mem_append_left _ (List.mem_append_left _ (List.mem_append_left _ (List.mem_append_left _ (List.mem_append_left _ (List.mem_append_left _ (List.mem_append_left _ (List.mem_append_left _ (List.mem_append_left _ (List.mem_append_right _ h))))))))))))))))))
theorem inX11 : ∀ w ∈ wsX110, w ∈ lw_tbl := fun w h => wsL_law_in w (inlX11 w h)
theorem inlX12 : ∀ w ∈ wsX120, w ∈ wsL_law := fun _ h => List.mem_append_left _ (List.mem_append_left _ (List.mem_append_left _ (List.mem_append_left _ (List.mem_append_left _ (List.mem_append_left _ (List.mem_append_left _ (List.mem_append_left _ (List.mem_append_left _ (List.mem_append_left _ (List.mem_append_left _ (List.mem_append_left _ (List.mem_append_left _ (List.mem_append_left _ (List.mem_append_left _ (List.mem_append_left _ (List.mem_append_left _ (List.mem_append_right _ h)))))))))))))))))
theorem inX12 : ∀ w ∈ wsX120, w ∈ lw_tbl := fun w h => wsL_law_in w (inlX12 w h)
theorem inJ6 : ∀ w ∈ wsJ60, w ∈ lw_tbl := by decide +kernel
theorem inJ9 : ∀ w ∈ wsJ90, w ∈ lw_tbl := by decide +kernel
theorem inJ0 : ∀ w ∈ wsJ00, w ∈ lw_tbl := by decide +kernel
theorem inJ10 : ∀ w ∈ wsJ100, w ∈ lw_tbl := by decide +kernel
