theorem mem_of_places {big : List Cond} {ws : List Cond} {ps : List Nat} (h : ws = ps.filterMap (fun i => big[i]?)) : ∀ w ∈ ws, w ∈ big := by
  intro w hw
  rw [h] at hw
  obtain ⟨i, -, hi⟩ := List.mem_filterMap.mp hw
  exact List.mem_of_getElem? hi
set_option maxRecDepth 100000 in
theorem fIn_0 : ∀ w ∈ (fRs.getD 0 []).map (fWd 0), w ∈ lw_tbl := mem_of_places (ps := [213, 226, 230, 234, 240, 245, 248, 252, 257, 259, 262, 266, 270, 274, 276, 280, 284, 287, 289, 291]) (by decide +kernel)
set_option maxRecDepth 100000 in
theorem mIn_0 : ∀ w ∈ (mRs.getD 0 []).map (mWd 0), w ∈ lw_tbl := mem_of_places (ps := [1193, 1275]) (by decide +kernel)
set_option maxRecDepth 100000 in
theorem kIn_0 : ∀ w ∈ (kRs.getD 0 []).map (kWd 0), w ∈ lw_tbl := mem_of_places (ps := []) (by decide +kernel)
set_option maxRecDepth 100000 in
theorem lIn_0 : ∀ w ∈ (kLs.getD 0 []).map (lWd 0), w ∈ lw_tbl := mem_of_places (ps := []) (by decide +kernel)
set_option maxRecDepth 100000 in
theorem fIn_1 : ∀ w ∈ (fRs.getD 1 []).map (fWd 1), w ∈ lw_tbl := mem_of_places (ps := [151, 156, 227, 235, 241, 335, 353, 369, 453, 454]) (by decide +kernel)
set_option maxRecDepth 100000 in
theorem mIn_1 : ∀ w ∈ (mRs.getD 1 []).map (mWd 1), w ∈ lw_tbl := mem_of_places (ps := [1002, 1007, 1011, 1015, 1019, 1020, 1065]) (by decide +kernel)
set_option maxRecDepth 100000 in
theorem kIn_1 : ∀ w ∈ (kRs.getD 1 []).map (kWd 1), w ∈ lw_tbl := mem_of_places (ps := []) (by decide +kernel)
set_option maxRecDepth 100000 in
theorem lIn_1 : ∀ w ∈ (kLs.getD 1 []).map (lWd 1), w ∈ lw_tbl := mem_of_places (ps := [1024, 1025]) (by decide +kernel)
set_option maxRecDepth 100000 in
theorem fIn_2 : ∀ w ∈ (fRs.getD 2 []).map (fWd 2), w ∈ lw_tbl := mem_of_places (ps := [135, 142, 146, 148, 152, 157, 161, 163, 166, 218, 237, 242, 246, 249, 254, 264, 268, 272, 275, 277, 283, 293, 336, 342, 344, 347, 350, 352, 357, 359, 366, 370, 375, 378]) (by decide +kernel)
set_option maxRecDepth 100000 in
theorem mIn_2 : ∀ w ∈ (mRs.getD 2 []).map (mWd 2), w ∈ lw_tbl := mem_of_places (ps := [930, 933, 936, 937, 941, 944, 952, 955, 956, 957, 961, 964, 967, 970, 971, 972, 975, 978, 980, 984, 987, 988, 992, 995]) (by decide +kernel)
set_option maxRecDepth 100000 in
theorem kIn_2 : ∀ w ∈ (kRs.getD 2 []).map (kWd 2), w ∈ lw_tbl := mem_of_places (ps := [979]) (by decide +kernel)
set_option maxRecDepth 100000 in
theorem lIn_2 : ∀ w ∈ (kLs.getD 2 []).map (lWd 2), w ∈ lw_tbl := mem_of_places (ps := []) (by decide +kernel)
set_option maxRecDepth 100000 in
theorem fIn_3 : ∀ w ∈ (fRs.getD 3 []).map (fWd 3), w ∈ lw_tbl := mem_of_places (ps := [154, 159, 168, 216, 232, 238, 243, 255, 261, 263, 267, 271, 278, 281, 285, 292, 334, 338, 340, 343, 346, 348, 351, 355, 358, 361, 364, 368, 372, 374, 377, 379]) (by decide +kernel)
set_option maxRecDepth 100000 in
theorem mIn_3 : ∀ w ∈ (mRs.getD 3 []).map (mWd 3), w ∈ lw_tbl := mem_of_places (ps := [635, 673, 889, 893, 897, 1184, 1189]) (by decide +kernel)
set_option maxRecDepth 100000 in
theorem kIn_3 : ∀ w ∈ (kRs.getD 3 []).map (kWd 3), w ∈ lw_tbl := mem_of_places (ps := []) (by decide +kernel)
set_option maxRecDepth 100000 in
theorem lIn_3 : ∀ w ∈ (kLs.getD 3 []).map (lWd 3), w ∈ lw_tbl := mem_of_places (ps := []) (by decide +kernel)
set_option maxRecDepth 100000 in
theorem fIn_4 : ∀ w ∈ (fRs.getD 4 []).map (fWd 4), w ∈ lw_tbl := mem_of_places (ps := [251, 510, 511, 512, 513]) (by decide +kernel)
set_option maxRecDepth 100000 in
theorem mIn_4 : ∀ w ∈ (mRs.getD 4 []).map (mWd 4), w ∈ lw_tbl := mem_of_places (ps := [1144, 1149, 1153]) (by decide +kernel)
set_option maxRecDepth 100000 in
theorem kIn_4 : ∀ w ∈ (kRs.getD 4 []).map (kWd 4), w ∈ lw_tbl := mem_of_places (ps := []) (by decide +kernel)
set_option maxRecDepth 100000 in
theorem lIn_4 : ∀ w ∈ (kLs.getD 4 []).map (lWd 4), w ∈ lw_tbl := mem_of_places (ps := []) (by decide +kernel)
set_option maxRecDepth 100000 in
theorem fIn_5 : ∀ w ∈ (fRs.getD 5 []).map (fWd 5), w ∈ lw_tbl := mem_of_places (ps := [531, 533, 535, 537, 539]) (by decide +kernel)
set_option maxRecDepth 100000 in
theorem mIn_5 : ∀ w ∈ (mRs.getD 5 []).map (mWd 5), w ∈ lw_tbl := mem_of_places (ps := [1237]) (by decide +kernel)
set_option maxRecDepth 100000 in
theorem kIn_5 : ∀ w ∈ (kRs.getD 5 []).map (kWd 5), w ∈ lw_tbl := mem_of_places (ps := []) (by decide +kernel)
set_option maxRecDepth 100000 in
theorem lIn_5 : ∀ w ∈ (kLs.getD 5 []).map (lWd 5), w ∈ lw_tbl := mem_of_places (ps := []) (by decide +kernel)
set_option maxRecDepth 100000 in
theorem fIn_6 : ∀ w ∈ (fRs.getD 6 []).map (fWd 6), w ∈ lw_tbl := mem_of_places (ps := [419, 420, 421, 422, 423, 424, 425, 426, 427]) (by decide +kernel)
set_option maxRecDepth 100000 in
theorem mIn_6 : ∀ w ∈ (mRs.getD 6 []).map (mWd 6), w ∈ lw_tbl := mem_of_places (ps := [742, 746, 750, 754, 758, 762, 766, 857, 860, 905]) (by decide +kernel)
set_option maxRecDepth 100000 in
theorem kIn_6 : ∀ w ∈ (kRs.getD 6 []).map (kWd 6), w ∈ lw_tbl := mem_of_places (ps := []) (by decide +kernel)
set_option maxRecDepth 100000 in
theorem lIn_6 : ∀ w ∈ (kLs.getD 6 []).map (lWd 6), w ∈ lw_tbl := mem_of_places (ps := []) (by decide +kernel)
set_option maxRecDepth 100000 in
theorem fIn_7 : ∀ w ∈ (fRs.getD 7 []).map (fWd 7), w ∈ lw_tbl := mem_of_places (ps := [212, 215, 217]) (by decide +kernel)
set_option maxRecDepth 100000 in
theorem mIn_7 : ∀ w ∈ (mRs.getD 7 []).map (mWd 7), w ∈ lw_tbl := mem_of_places (ps := []) (by decide +kernel)
set_option maxRecDepth 100000 in
theorem kIn_7 : ∀ w ∈ (kRs.getD 7 []).map (kWd 7), w ∈ lw_tbl := mem_of_places (ps := []) (by decide +kernel)
set_option maxRecDepth 100000 in
theorem lIn_7 : ∀ w ∈ (kLs.getD 7 []).map (lWd 7), w ∈ lw_tbl := mem_of_places (ps := []) (by decide +kernel)
set_option maxRecDepth 100000 in
theorem fIn_8 : ∀ w ∈ (fRs.getD 8 []).map (fWd 8), w ∈ lw_tbl := mem_of_places (ps := [228, 231, 236, 253, 362, 365, 469, 470, 471, 472, 473, 474, 475, 476, 477, 478, 479]) (by decide +kernel)
set_option maxRecDepth 100000 in
theorem mIn_8 : ∀ w ∈ (mRs.getD 8 []).map (mWd 8), w ∈ lw_tbl := mem_of_places (ps := [1103, 1107, 1108, 1112, 1117]) (by decide +kernel)
set_option maxRecDepth 100000 in
theorem kIn_8 : ∀ w ∈ (kRs.getD 8 []).map (kWd 8), w ∈ lw_tbl := mem_of_places (ps := []) (by decide +kernel)
set_option maxRecDepth 100000 in
theorem lIn_8 : ∀ w ∈ (kLs.getD 8 []).map (lWd 8), w ∈ lw_tbl := mem_of_places (ps := []) (by decide +kernel)
set_option maxRecDepth 100000 in
theorem fIn_9 : ∀ w ∈ (fRs.getD 9 []).map (fWd 9), w ∈ lw_tbl := mem_of_places (ps := [134, 137, 139, 141, 144, 147, 150, 155, 160, 162, 165, 167, 169]) (by decide +kernel)
set_option maxRecDepth 100000 in
theorem mIn_9 : ∀ w ∈ (mRs.getD 9 []).map (mWd 9), w ∈ lw_tbl := mem_of_places (ps := [652, 656, 948]) (by decide +kernel)
set_option maxRecDepth 100000 in
theorem kIn_9 : ∀ w ∈ (kRs.getD 9 []).map (kWd 9), w ∈ lw_tbl := mem_of_places (ps := [651]) (by decide +kernel)
set_option maxRecDepth 100000 in
theorem lIn_9 : ∀ w ∈ (kLs.getD 9 []).map (lWd 9), w ∈ lw_tbl := mem_of_places (ps := []) (by decide +kernel)
set_option maxRecDepth 100000 in
theorem fIn_10 : ∀ w ∈ (fRs.getD 10 []).map (fWd 10), w ∈ lw_tbl := mem_of_places (ps := [136, 138, 140, 143, 145, 149, 153, 158, 164, 214, 229, 233, 239, 244, 247, 250, 256, 258, 260, 265, 269, 273, 279, 282, 286, 288, 290, 294, 337, 339, 341, 345, 349, 354, 356, 360, 363, 367, 371, 373, 376, 480, 514, 532, 534, 536, 538, 540, 552, 553, 554, 555, 556, 557, 558, 559, 560]) (by decide +kernel)
set_option maxRecDepth 100000 in
theorem mIn_10 : ∀ w ∈ (mRs.getD 10 []).map (mWd 10), w ∈ lw_tbl := mem_of_places (ps := [584, 588, 596, 600, 608, 612, 615, 631, 643, 647, 660, 669, 681, 685, 701, 704, 708, 720, 728, 732, 735, 869, 877, 885, 901, 912, 915, 927, 998, 1026, 1032, 1044, 1052, 1056, 1060, 1086, 1094, 1099, 1125, 1133, 1137, 1140, 1145, 1166, 1175, 1179, 1214, 1215, 1216, 1217, 1221, 1225, 1233, 1242, 1250, 1258, 1267, 1271]) (by decide +kernel)
set_option maxRecDepth 100000 in
theorem kIn_10 : ∀ w ∈ (kRs.getD 10 []).map (kWd 10), w ∈ lw_tbl := mem_of_places (ps := [587, 664, 1174]) (by decide +kernel)
set_option maxRecDepth 100000 in
theorem lIn_10 : ∀ w ∈ (kLs.getD 10 []).map (lWd 10), w ∈ lw_tbl := mem_of_places (ps := []) (by decide +kernel)
set_option maxRecDepth 100000 in
theorem fIn_11 : ∀ w ∈ (fRs.getD 11 []).map (fWd 11), w ∈ lw_tbl := mem_of_places (ps := [1404, 1405, 1406, 1407, 1408, 1409, 1410, 1411, 1412, 1413, 1414, 1415, 1416, 1417, 1418, 1419, 1420, 1421, 1422, 1423, 1424, 1425, 1426, 1427, 1428, 1429, 1430, 1431, 1432, 1433, 1434, 1435, 1436, 1437, 1438, 1439, 1440, 1441, 1442, 1443, 1444, 1445, 1446, 1447, 1448, 1449, 1450, 1451, 1452, 1453, 1454, 1455, 1456, 1457, 1458, 1459, 1460, 1461, 1462]) (by decide +kernel)
set_option maxRecDepth 100000 in
theorem mIn_11 : ∀ w ∈ (mRs.getD 11 []).map (mWd 11), w ∈ lw_tbl := mem_of_places (ps := [1590, 1598, 1606, 1622, 1626, 1634, 1639, 1643, 1651, 1655, 1663, 1667, 1691, 1699, 1703, 1707, 1711, 1715, 1719, 1723, 1727, 1730, 1734, 1738, 1742, 1746, 1750, 1754, 1766, 1774, 1782, 1794, 1798, 1802, 1806, 1810, 1814, 1818, 1822, 1826, 1830, 1834, 1838, 1842, 1862, 1866, 1870, 1894, 1906, 1918, 1922, 1926, 1930, 1934, 1950, 1974, 1986, 1990, 2005]) (by decide +kernel)
set_option maxRecDepth 100000 in
theorem kIn_11 : ∀ w ∈ (kRs.getD 11 []).map (kWd 11), w ∈ lw_tbl := mem_of_places (ps := [1403, 1593, 1638]) (by decide +kernel)
set_option maxRecDepth 100000 in
theorem lIn_11 : ∀ w ∈ (kLs.getD 11 []).map (lWd 11), w ∈ lw_tbl := mem_of_places (ps := []) (by decide +kernel)
set_option maxRecDepth 100000 in
theorem fIn_12 : ∀ w ∈ (fRs.getD 12 []).map (fWd 12), w ∈ lw_tbl := mem_of_places (ps := []) (by decide +kernel)
set_option maxRecDepth 100000 in
theorem mIn_12 : ∀ w ∈ (mRs.getD 12 []).map (mWd 12), w ∈ lw_tbl := mem_of_places (ps := [580, 592, 604, 619, 623, 627, 639, 665, 677, 689, 693, 697, 712, 716, 724, 865, 873, 881, 908, 919, 923, 1028, 1036, 1040, 1048, 1066, 1070, 1074, 1078, 1082, 1090, 1095, 1121, 1129, 1158, 1162, 1170, 1198, 1202, 1206, 1210, 1229, 1238, 1246, 1254, 1263, 1582, 1586, 1594, 1602, 1610, 1614, 1618, 1630, 1647, 1659, 1671, 1675, 1679, 1683, 1687, 1695, 1758, 1762, 1770, 1778, 1786, 1790, 1846, 1850, 1854, 1858, 1874, 1878, 1882, 1886, 1890, 1898, 1902, 1910, 1914, 1938, 1942, 1946, 1954, 1958, 1962, 1966, 1970, 1978, 1982, 1993, 1997, 2001, 2009]) (by decide +kernel)
set_option maxRecDepth 100000 in
theorem kIn_12 : ∀ w ∈ (kRs.getD 12 []).map (kWd 12), w ∈ lw_tbl := mem_of_places (ps := []) (by decide +kernel)
set_option maxRecDepth 100000 in
theorem lIn_12 : ∀ w ∈ (kLs.getD 12 []).map (lWd 12), w ∈ lw_tbl := mem_of_places (ps := []) (by decide +kernel)
def mWs (m : Nat) : List Cond := let y := mY.getD m x; if mSt.getD m false = true then [.static y, .initialized y.cls] else [.instanceMethod y, .selects y.cls y y, .initialized y.cls]
def mWc (m : Nat) : Cond := Cond.code (mY.getD m x) (mBy.getD m code) (mMl.getD m 0) (mRt.getD m none)
set_option maxRecDepth 100000 in
theorem mWs_0 : ∀ w ∈ ((List.range 32).map (· + 0)).flatMap mWs, w ∈ lw_tbl := mem_of_places (ps := [674, 675, 92, 1190, 1191, 92, 1272, 1273, 92, 721, 722, 92, 999, 1000, 95, 1045, 1046, 95, 1033, 1034, 95, 1061, 1062, 95, 965, 107, 993, 107, 996, 107, 976, 107, 985, 107, 958, 107, 934, 107, 942, 107, 928, 107, 938, 107, 953, 107, 968, 107, 973, 107, 989, 107, 962, 107, 931, 107, 670, 671, 90, 589, 590, 90, 1218, 1219, 90, 1016, 1017, 90, 1012, 1013, 90, 1008, 1009, 90, 1226, 1227, 90, 1180, 1181, 90]) (by decide +kernel)
set_option maxRecDepth 100000 in
theorem mWs_1 : ∀ w ∈ ((List.range 32).map (· + 32)).flatMap mWs, w ∈ lw_tbl := mem_of_places (ps := [886, 887, 90, 636, 637, 90, 632, 633, 90, 890, 891, 90, 894, 895, 90, 1222, 1223, 90, 1141, 1142, 97, 1151, 27, 97, 1167, 1168, 97, 1155, 28, 97, 1146, 1147, 97, 1251, 1252, 98, 1259, 1260, 98, 1234, 1235, 98, 1243, 1244, 98, 736, 737, 94, 858, 94, 902, 903, 94, 906, 94, 870, 871, 94, 862, 15, 94, 756, 11, 94, 748, 9, 94, 768, 14, 94, 744, 8, 94, 764, 13, 94, 752, 10, 94, 760, 12, 94, 709, 710, 93, 1194, 1195, 93, 898, 899, 93, 705, 706, 93]) (by decide +kernel)
set_option maxRecDepth 100000 in
theorem mWs_2 : ∀ w ∈ ((List.range 32).map (· + 64)).flatMap mWs, w ∈ lw_tbl := mem_of_places (ps := [1110, 23, 96, 1105, 22, 96, 1119, 25, 96, 1114, 24, 96, 1126, 1127, 96, 1100, 1101, 96, 601, 602, 91, 945, 946, 91, 616, 617, 91, 1185, 1186, 91, 981, 982, 91, 1003, 1004, 91, 661, 662, 91, 648, 649, 91, 654, 3, 91, 658, 4, 91, 949, 950, 91, 628, 629, 89, 698, 699, 89, 1135, 26, 89, 1199, 1200, 89, 717, 718, 89, 1269, 30, 89, 1071, 1072, 89, 1058, 20, 89, 1079, 1080, 89, 581, 582, 89, 1091, 1092, 89, 690, 691, 89, 1255, 1256, 89, 1211, 1212, 89, 1088, 21, 89]) (by decide +kernel)
set_option maxRecDepth 100000 in
theorem mWs_3 : ∀ w ∈ ((List.range 32).map (· + 96)).flatMap mWs, w ∈ lw_tbl := mem_of_places (ps := [640, 641, 89, 725, 726, 89, 874, 875, 89, 1075, 1076, 89, 924, 925, 89, 666, 667, 89, 620, 621, 89, 882, 883, 89, 1203, 1204, 89, 687, 6, 89, 598, 0, 89, 1054, 19, 89, 1138, 89, 702, 89, 683, 5, 89, 913, 89, 733, 89, 613, 89, 879, 16, 89, 610, 1, 89, 1163, 1164, 89, 1230, 1231, 89, 645, 2, 89, 694, 695, 89, 1037, 1038, 89, 1247, 1248, 89, 1029, 1030, 89, 1207, 1208, 89, 1122, 1123, 89, 917, 17, 89, 1130, 1131, 89, 1239, 1240, 89]) (by decide +kernel)
set_option maxRecDepth 100000 in
theorem mWs_4 : ∀ w ∈ ((List.range 32).map (· + 128)).flatMap mWs, w ∈ lw_tbl := mem_of_places (ps := [730, 7, 89, 920, 921, 89, 605, 606, 89, 1159, 1160, 89, 909, 910, 89, 678, 679, 89, 1067, 1068, 89, 866, 867, 89, 713, 714, 89, 1041, 1042, 89, 624, 625, 89, 1096, 1097, 89, 593, 594, 89, 1264, 1265, 89, 1049, 1050, 89, 585, 89, 1171, 1172, 89, 1177, 29, 89, 1083, 1084, 89, 1619, 1620, 99, 1653, 39, 99, 1680, 1681, 99, 1744, 54, 99, 1955, 1956, 99, 1688, 1689, 99, 1879, 1880, 99, 1872, 76, 99, 1887, 1888, 99, 1587, 1588, 99, 1899, 1900, 99, 1672, 1673, 99, 1998, 1999, 99]) (by decide +kernel)
set_option maxRecDepth 100000 in
theorem mWs_5 : ∀ w ∈ ((List.range 32).map (· + 160)).flatMap mWs, w ∈ lw_tbl := mem_of_places (ps := [1967, 1968, 99, 1994, 1995, 99, 1816, 66, 99, 1631, 1632, 99, 1696, 1697, 99, 1705, 45, 99, 1732, 51, 99, 1636, 36, 99, 1932, 82, 99, 1928, 81, 99, 1908, 78, 99, 1763, 1764, 99, 1883, 1884, 99, 1791, 1792, 99, 1800, 62, 99, 1648, 1649, 99, 1924, 80, 99, 1624, 34, 99, 1611, 1612, 99, 1713, 47, 99, 1771, 1772, 99, 1776, 59, 99, 1736, 52, 99, 1959, 1960, 99, 1591, 99, 1669, 42, 99, 1600, 32, 99, 1728, 99, 1868, 75, 99, 1665, 41, 99, 1920, 79, 99, 1864, 74, 99]) (by decide +kernel)
set_option maxRecDepth 100000 in
theorem mWs_6 : ∀ w ∈ ((List.range 32).map (· + 192)).flatMap mWs, w ∈ lw_tbl := mem_of_places (ps := [1768, 58, 99, 1608, 33, 99, 1756, 57, 99, 1943, 1944, 99, 1971, 1972, 99, 1701, 44, 99, 1740, 53, 99, 1645, 38, 99, 1840, 72, 99, 1991, 99, 1628, 35, 99, 1641, 37, 99, 1936, 83, 99, 1804, 63, 99, 1676, 1677, 99, 1808, 64, 99, 1851, 1852, 99, 1983, 1984, 99, 1725, 50, 99, 1721, 49, 99, 1717, 48, 99, 1709, 46, 99, 1847, 1848, 99, 1836, 71, 99, 1963, 1964, 99, 1911, 1912, 99, 1828, 69, 99, 1915, 1916, 99, 1979, 1980, 99, 1787, 1788, 99, 1693, 43, 99, 1603, 1604, 99]) (by decide +kernel)
set_option maxRecDepth 100000 in
theorem mWs_7 : ∀ w ∈ ((List.range 32).map (· + 224)).flatMap mWs, w ∈ lw_tbl := mem_of_places (ps := [1939, 1940, 99, 1779, 1780, 99, 1784, 60, 99, 1824, 68, 99, 1660, 1661, 99, 1844, 73, 99, 1875, 1876, 99, 1657, 40, 99, 1748, 55, 99, 1759, 1760, 99, 1583, 1584, 99, 1752, 56, 99, 2010, 2011, 99, 1812, 65, 99, 1684, 1685, 99, 1820, 67, 99, 1832, 70, 99, 1855, 1856, 99, 1615, 1616, 99, 1903, 1904, 99, 1595, 1596, 99, 2002, 2003, 99, 1976, 85, 99, 1859, 1860, 99, 1947, 1948, 99, 1952, 84, 99, 1891, 1892, 99, 1896, 77, 99, 1988, 86, 99, 2007, 87, 99, 1796, 61, 99, 1022, 18, 95]) (by decide +kernel)
set_option maxRecDepth 100000 in
theorem mWc_0 : Cond.code yX0_begin cX0_begin 5 (none : Option FieldType) ∈ lw_tbl := List.mem_of_getElem? (i := 676) rfl
set_option maxRecDepth 100000 in
theorem mWc_1 : Cond.code yX0_copyFrom cX0_copyFrom 2 (none : Option FieldType) ∈ lw_tbl := List.mem_of_getElem? (i := 1192) rfl
set_option maxRecDepth 100000 in
theorem mWc_2 : Cond.code yX0_heaviness cX0_heaviness 2 (some FieldType.int) ∈ lw_tbl := List.mem_of_getElem? (i := 1274) rfl
set_option maxRecDepth 100000 in
theorem mWc_3 : Cond.code yX0_seats cX0_seats 1 (some FieldType.int) ∈ lw_tbl := List.mem_of_getElem? (i := 723) rfl
set_option maxRecDepth 100000 in
theorem mWc_4 : Cond.code yX1_note cX1_note 6 (none : Option FieldType) ∈ lw_tbl := List.mem_of_getElem? (i := 1001) rfl
set_option maxRecDepth 100000 in
theorem mWc_5 : Cond.code yX1_placeOf cX1_placeOf 4 (some FieldType.int) ∈ lw_tbl := List.mem_of_getElem? (i := 1047) rfl
set_option maxRecDepth 100000 in
theorem mWc_6 : Cond.code yX1_recordOf cX1_recordOf 3 (some FieldType.int) ∈ lw_tbl := List.mem_of_getElem? (i := 1035) rfl
set_option maxRecDepth 100000 in
theorem mWc_7 : Cond.code yX1_wasIn cX1_wasIn 6 (some FieldType.boolean) ∈ lw_tbl := List.mem_of_getElem? (i := 1063) rfl
set_option maxRecDepth 100000 in
theorem mWc_8 : Cond.code yX2_canWalk cX2_canWalk 2 (some FieldType.boolean) ∈ lw_tbl := List.mem_of_getElem? (i := 966) rfl
set_option maxRecDepth 100000 in
theorem mWc_9 : Cond.code yX2_drink cX2_drink 3 (none : Option FieldType) ∈ lw_tbl := List.mem_of_getElem? (i := 994) rfl
set_option maxRecDepth 100000 in
theorem mWc_10 : Cond.code yX2_faint cX2_faint 2 (none : Option FieldType) ∈ lw_tbl := List.mem_of_getElem? (i := 997) rfl
set_option maxRecDepth 100000 in
theorem mWc_11 : Cond.code yX2_firstWayToward cX2_firstWayToward 6 (some FieldType.int) ∈ lw_tbl := List.mem_of_getElem? (i := 977) rfl
set_option maxRecDepth 100000 in
theorem mWc_12 : Cond.code yX2_keepRites cX2_keepRites 7 (none : Option FieldType) ∈ lw_tbl := List.mem_of_getElem? (i := 986) rfl
set_option maxRecDepth 100000 in
theorem mWc_13 : Cond.code yX2_letFall cX2_letFall 4 (none : Option FieldType) ∈ lw_tbl := List.mem_of_getElem? (i := 959) rfl
set_option maxRecDepth 100000 in
theorem mWc_14 : Cond.code yX2_loadWays cX2_loadWays 4 (none : Option FieldType) ∈ lw_tbl := List.mem_of_getElem? (i := 935) rfl
set_option maxRecDepth 100000 in
theorem mWc_15 : Cond.code yX2_neighboursPush cX2_neighboursPush 4 (some FieldType.int) ∈ lw_tbl := List.mem_of_getElem? (i := 943) rfl
set_option maxRecDepth 100000 in
theorem mWc_16 : Cond.code yX2_pass cX2_pass 2 (none : Option FieldType) ∈ lw_tbl := List.mem_of_getElem? (i := 929) rfl
set_option maxRecDepth 100000 in
theorem mWc_17 : Cond.code yX2_pushWays cX2_pushWays 3 (none : Option FieldType) ∈ lw_tbl := List.mem_of_getElem? (i := 939) rfl
set_option maxRecDepth 100000 in
theorem mWc_18 : Cond.code yX2_shutWays cX2_shutWays 6 (none : Option FieldType) ∈ lw_tbl := List.mem_of_getElem? (i := 954) rfl
set_option maxRecDepth 100000 in
theorem mWc_19 : Cond.code yX2_stepOut cX2_stepOut 4 (none : Option FieldType) ∈ lw_tbl := List.mem_of_getElem? (i := 969) rfl
set_option maxRecDepth 100000 in
theorem mWc_20 : Cond.code yX2_stepToward cX2_stepToward 4 (none : Option FieldType) ∈ lw_tbl := List.mem_of_getElem? (i := 974) rfl
set_option maxRecDepth 100000 in
theorem mWc_21 : Cond.code yX2_sufferHeat cX2_sufferHeat 5 (none : Option FieldType) ∈ lw_tbl := List.mem_of_getElem? (i := 990) rfl
set_option maxRecDepth 100000 in
theorem mWc_22 : Cond.code yX2_walkOn cX2_walkOn 3 (none : Option FieldType) ∈ lw_tbl := List.mem_of_getElem? (i := 963) rfl
set_option maxRecDepth 100000 in
theorem mWc_23 : Cond.code yX2_weighWays cX2_weighWays 3 (none : Option FieldType) ∈ lw_tbl := List.mem_of_getElem? (i := 932) rfl
set_option maxRecDepth 100000 in
theorem mWc_24 : Cond.code yX3_addBody cX3_addBody 4 (some (FieldType.object "TentPlain$Body")) ∈ lw_tbl := List.mem_of_getElem? (i := 672) rfl
set_option maxRecDepth 100000 in
theorem mWc_25 : Cond.code yX3_addCell cX3_addCell 5 (some FieldType.int) ∈ lw_tbl := List.mem_of_getElem? (i := 591) rfl
set_option maxRecDepth 100000 in
theorem mWc_26 : Cond.code yX3_allCarried cX3_allCarried 3 (some FieldType.int) ∈ lw_tbl := List.mem_of_getElem? (i := 1220) rfl
set_option maxRecDepth 100000 in
theorem mWc_27 : Cond.code yX3_allFainted cX3_allFainted 3 (some FieldType.int) ∈ lw_tbl := List.mem_of_getElem? (i := 1018) rfl
set_option maxRecDepth 100000 in
theorem mWc_28 : Cond.code yX3_allFell cX3_allFell 3 (some FieldType.int) ∈ lw_tbl := List.mem_of_getElem? (i := 1014) rfl
set_option maxRecDepth 100000 in
theorem mWc_29 : Cond.code yX3_allHeads cX3_allHeads 3 (some FieldType.int) ∈ lw_tbl := List.mem_of_getElem? (i := 1010) rfl
set_option maxRecDepth 100000 in
theorem mWc_30 : Cond.code yX3_allWater cX3_allWater 3 (some FieldType.int) ∈ lw_tbl := List.mem_of_getElem? (i := 1228) rfl
set_option maxRecDepth 100000 in
theorem mWc_31 : Cond.code yX3_copyFrom cX3_copyFrom 3 (none : Option FieldType) ∈ lw_tbl := List.mem_of_getElem? (i := 1182) rfl
set_option maxRecDepth 100000 in
theorem mWc_32 : Cond.code yX3_fieldsOf cX3_fieldsOf 3 (some (FieldType.array FieldType.int)) ∈ lw_tbl := List.mem_of_getElem? (i := 888) rfl
set_option maxRecDepth 100000 in
theorem mWc_33 : Cond.code yX3_groupAt cX3_groupAt 2 (some (FieldType.object "TentPlain$Body")) ∈ lw_tbl := List.mem_of_getElem? (i := 638) rfl
set_option maxRecDepth 100000 in
theorem mWc_34 : Cond.code yX3_headsOn cX3_headsOn 4 (some FieldType.int) ∈ lw_tbl := List.mem_of_getElem? (i := 634) rfl
set_option maxRecDepth 100000 in
theorem mWc_35 : Cond.code yX3_hour cX3_hour 1 (some FieldType.int) ∈ lw_tbl := List.mem_of_getElem? (i := 892) rfl
set_option maxRecDepth 100000 in
theorem mWc_36 : Cond.code yX3_late cX3_late 3 (some FieldType.int) ∈ lw_tbl := List.mem_of_getElem? (i := 896) rfl
set_option maxRecDepth 100000 in
theorem mWc_37 : Cond.code yX3_straysNotFound cX3_straysNotFound 3 (some FieldType.int) ∈ lw_tbl := List.mem_of_getElem? (i := 1224) rfl
set_option maxRecDepth 100000 in
theorem mWc_38 : Cond.code yX4_begin cX4_begin 5 (none : Option FieldType) ∈ lw_tbl := List.mem_of_getElem? (i := 1143) rfl
set_option maxRecDepth 100000 in
theorem mWc_39 : Cond.code yX4_choose cX4_choose 5 (some FieldType.boolean) ∈ lw_tbl := List.mem_of_getElem? (i := 1152) rfl
set_option maxRecDepth 100000 in
theorem mWc_40 : Cond.code yX4_firstOver cX4_firstOver 2 (some FieldType.int) ∈ lw_tbl := List.mem_of_getElem? (i := 1169) rfl
set_option maxRecDepth 100000 in
theorem mWc_41 : Cond.code yX4_mostIn cX4_mostIn 6 (some FieldType.int) ∈ lw_tbl := List.mem_of_getElem? (i := 1156) rfl
set_option maxRecDepth 100000 in
theorem mWc_42 : Cond.code yX4_solve cX4_solve 2 (some FieldType.int) ∈ lw_tbl := List.mem_of_getElem? (i := 1148) rfl
set_option maxRecDepth 100000 in
theorem mWc_43 : Cond.code yX5_become cX5_become 3 (none : Option FieldType) ∈ lw_tbl := List.mem_of_getElem? (i := 1253) rfl
set_option maxRecDepth 100000 in
theorem mWc_44 : Cond.code yX5_hasPlaces cX5_hasPlaces 3 (some FieldType.boolean) ∈ lw_tbl := List.mem_of_getElem? (i := 1261) rfl
set_option maxRecDepth 100000 in
theorem mWc_45 : Cond.code yX5_holdBody cX5_holdBody 2 (none : Option FieldType) ∈ lw_tbl := List.mem_of_getElem? (i := 1236) rfl
set_option maxRecDepth 100000 in
theorem mWc_46 : Cond.code yX5_holdRow cX5_holdRow 4 (none : Option FieldType) ∈ lw_tbl := List.mem_of_getElem? (i := 1245) rfl
set_option maxRecDepth 100000 in
theorem mWc_47 : Cond.code yX6_faultOf cX6_faultOf 3 (some FieldType.int) ∈ lw_tbl := List.mem_of_getElem? (i := 738) rfl
set_option maxRecDepth 100000 in
theorem mWc_48 : Cond.code yX6_isDigit cX6_isDigit 1 (some FieldType.boolean) ∈ lw_tbl := List.mem_of_getElem? (i := 859) rfl
set_option maxRecDepth 100000 in
theorem mWc_49 : Cond.code yX6_isTrue cX6_isTrue 7 (some FieldType.boolean) ∈ lw_tbl := List.mem_of_getElem? (i := 904) rfl
set_option maxRecDepth 100000 in
theorem mWc_50 : Cond.code yX6_joined cX6_joined 3 (some FieldType.int) ∈ lw_tbl := List.mem_of_getElem? (i := 907) rfl
set_option maxRecDepth 100000 in
theorem mWc_51 : Cond.code yX6_keepAs cX6_keepAs 2 (none : Option FieldType) ∈ lw_tbl := List.mem_of_getElem? (i := 872) rfl
set_option maxRecDepth 100000 in
theorem mWc_52 : Cond.code yX6_make cX6_make 2 (none : Option FieldType) ∈ lw_tbl := List.mem_of_getElem? (i := 863) rfl
set_option maxRecDepth 100000 in
theorem mWc_53 : Cond.code yX6_next cX6_next 1 (some FieldType.int) ∈ lw_tbl := List.mem_of_getElem? (i := 757) rfl
set_option maxRecDepth 100000 in
theorem mWc_54 : Cond.code yX6_readAnd cX6_readAnd 3 (none : Option FieldType) ∈ lw_tbl := List.mem_of_getElem? (i := 749) rfl
set_option maxRecDepth 100000 in
theorem mWc_55 : Cond.code yX6_readAtom cX6_readAtom 5 (none : Option FieldType) ∈ lw_tbl := List.mem_of_getElem? (i := 769) rfl
set_option maxRecDepth 100000 in
theorem mWc_56 : Cond.code yX6_readOr cX6_readOr 3 (none : Option FieldType) ∈ lw_tbl := List.mem_of_getElem? (i := 745) rfl
set_option maxRecDepth 100000 in
theorem mWc_57 : Cond.code yX6_readSum cX6_readSum 3 (none : Option FieldType) ∈ lw_tbl := List.mem_of_getElem? (i := 765) rfl
set_option maxRecDepth 100000 in
theorem mWc_58 : Cond.code yX6_readTest cX6_readTest 4 (none : Option FieldType) ∈ lw_tbl := List.mem_of_getElem? (i := 753) rfl
set_option maxRecDepth 100000 in
theorem mWc_59 : Cond.code yX6_takeIf cX6_takeIf 2 (none : Option FieldType) ∈ lw_tbl := List.mem_of_getElem? (i := 761) rfl
set_option maxRecDepth 100000 in
theorem mWc_60 : Cond.code yX7_add cX7_add 3 (none : Option FieldType) ∈ lw_tbl := List.mem_of_getElem? (i := 711) rfl
set_option maxRecDepth 100000 in
theorem mWc_61 : Cond.code yX7_copyFrom cX7_copyFrom 2 (none : Option FieldType) ∈ lw_tbl := List.mem_of_getElem? (i := 1196) rfl
set_option maxRecDepth 100000 in
theorem mWc_62 : Cond.code yX7_holdingIn cX7_holdingIn 3 (some FieldType.int) ∈ lw_tbl := List.mem_of_getElem? (i := 900) rfl
set_option maxRecDepth 100000 in
theorem mWc_63 : Cond.code yX7_lastMinute cX7_lastMinute 1 (some FieldType.int) ∈ lw_tbl := List.mem_of_getElem? (i := 707) rfl
set_option maxRecDepth 100000 in
theorem mWc_64 : Cond.code yX8_choose cX8_choose 4 (none : Option FieldType) ∈ lw_tbl := List.mem_of_getElem? (i := 1111) rfl
set_option maxRecDepth 100000 in
theorem mWc_65 : Cond.code yX8_gather cX8_gather 4 (none : Option FieldType) ∈ lw_tbl := List.mem_of_getElem? (i := 1106) rfl
set_option maxRecDepth 100000 in
theorem mWc_66 : Cond.code yX8_hasTwinAhead cX8_hasTwinAhead 3 (some FieldType.boolean) ∈ lw_tbl := List.mem_of_getElem? (i := 1120) rfl
set_option maxRecDepth 100000 in
theorem mWc_67 : Cond.code yX8_keepChosen cX8_keepChosen 2 (none : Option FieldType) ∈ lw_tbl := List.mem_of_getElem? (i := 1115) rfl
set_option maxRecDepth 100000 in
theorem mWc_68 : Cond.code yX8_rideOf cX8_rideOf 3 (some FieldType.int) ∈ lw_tbl := List.mem_of_getElem? (i := 1128) rfl
set_option maxRecDepth 100000 in
theorem mWc_69 : Cond.code yX8_solve cX8_solve 5 (none : Option FieldType) ∈ lw_tbl := List.mem_of_getElem? (i := 1102) rfl
set_option maxRecDepth 100000 in
theorem mWc_70 : Cond.code yX9_add cX9_add 6 (some FieldType.int) ∈ lw_tbl := List.mem_of_getElem? (i := 603) rfl
set_option maxRecDepth 100000 in
theorem mWc_71 : Cond.code yX9_areNeighbours cX9_areNeighbours 3 (some FieldType.boolean) ∈ lw_tbl := List.mem_of_getElem? (i := 947) rfl
set_option maxRecDepth 100000 in
theorem mWc_72 : Cond.code yX9_changeSign cX9_changeSign 4 (some FieldType.int) ∈ lw_tbl := List.mem_of_getElem? (i := 618) rfl
set_option maxRecDepth 100000 in
theorem mWc_73 : Cond.code yX9_copyFrom cX9_copyFrom 2 (none : Option FieldType) ∈ lw_tbl := List.mem_of_getElem? (i := 1187) rfl
set_option maxRecDepth 100000 in
theorem mWc_74 : Cond.code yX9_endFrom cX9_endFrom 3 (some FieldType.int) ∈ lw_tbl := List.mem_of_getElem? (i := 983) rfl
set_option maxRecDepth 100000 in
theorem mWc_75 : Cond.code yX9_greatest cX9_greatest 4 (some FieldType.int) ∈ lw_tbl := List.mem_of_getElem? (i := 1005) rfl
set_option maxRecDepth 100000 in
theorem mWc_76 : Cond.code yX9_leastFrom cX9_leastFrom 3 (some FieldType.int) ∈ lw_tbl := List.mem_of_getElem? (i := 663) rfl
set_option maxRecDepth 100000 in
theorem mWc_77 : Cond.code yX9_reckon cX9_reckon 5 (none : Option FieldType) ∈ lw_tbl := List.mem_of_getElem? (i := 650) rfl
set_option maxRecDepth 100000 in
theorem mWc_78 : Cond.code yX9_shorten cX9_shorten 5 (none : Option FieldType) ∈ lw_tbl := List.mem_of_getElem? (i := 655) rfl
set_option maxRecDepth 100000 in
theorem mWc_79 : Cond.code yX9_shortenOver cX9_shortenOver 6 (none : Option FieldType) ∈ lw_tbl := List.mem_of_getElem? (i := 659) rfl
set_option maxRecDepth 100000 in
theorem mWc_80 : Cond.code yX9_touches cX9_touches 3 (some FieldType.boolean) ∈ lw_tbl := List.mem_of_getElem? (i := 951) rfl
set_option maxRecDepth 100000 in
theorem mWc_81 : Cond.code yX10_about cX10_about 4 (some FieldType.int) ∈ lw_tbl := List.mem_of_getElem? (i := 630) rfl
set_option maxRecDepth 100000 in
theorem mWc_82 : Cond.code yX10_aim cX10_aim 5 (some FieldType.int) ∈ lw_tbl := List.mem_of_getElem? (i := 700) rfl
set_option maxRecDepth 100000 in
theorem mWc_83 : Cond.code yX10_areFirstGroups cX10_areFirstGroups 2 (some FieldType.boolean) ∈ lw_tbl := List.mem_of_getElem? (i := 1136) rfl
set_option maxRecDepth 100000 in
theorem mWc_84 : Cond.code yX10_best cX10_best 7 (some FieldType.int) ∈ lw_tbl := List.mem_of_getElem? (i := 1201) rfl
set_option maxRecDepth 100000 in
theorem mWc_85 : Cond.code yX10_body cX10_body 4 (some FieldType.int) ∈ lw_tbl := List.mem_of_getElem? (i := 719) rfl
set_option maxRecDepth 100000 in
theorem mWc_86 : Cond.code yX10_bodyRefusal cX10_bodyRefusal 2 (some FieldType.int) ∈ lw_tbl := List.mem_of_getElem? (i := 1270) rfl
set_option maxRecDepth 100000 in
theorem mWc_87 : Cond.code yX10_bring cX10_bring 4 (some FieldType.int) ∈ lw_tbl := List.mem_of_getElem? (i := 1073) rfl
set_option maxRecDepth 100000 in
theorem mWc_88 : Cond.code yX10_canBe cX10_canBe 6 (some FieldType.boolean) ∈ lw_tbl := List.mem_of_getElem? (i := 1059) rfl
set_option maxRecDepth 100000 in
theorem mWc_89 : Cond.code yX10_carry cX10_carry 4 (some FieldType.int) ∈ lw_tbl := List.mem_of_getElem? (i := 1081) rfl
set_option maxRecDepth 100000 in
theorem mWc_90 : Cond.code yX10_cell cX10_cell 4 (some FieldType.int) ∈ lw_tbl := List.mem_of_getElem? (i := 583) rfl
set_option maxRecDepth 100000 in
theorem mWc_91 : Cond.code yX10_closes cX10_closes 9 (some FieldType.int) ∈ lw_tbl := List.mem_of_getElem? (i := 1093) rfl
set_option maxRecDepth 100000 in
theorem mWc_92 : Cond.code yX10_comes cX10_comes 3 (some FieldType.int) ∈ lw_tbl := List.mem_of_getElem? (i := 692) rfl
set_option maxRecDepth 100000 in
theorem mWc_93 : Cond.code yX10_copy cX10_copy 8 (some FieldType.int) ∈ lw_tbl := List.mem_of_getElem? (i := 1257) rfl
set_option maxRecDepth 100000 in
theorem mWc_94 : Cond.code yX10_count cX10_count 2 (some FieldType.int) ∈ lw_tbl := List.mem_of_getElem? (i := 1213) rfl
set_option maxRecDepth 100000 in
theorem mWc_95 : Cond.code yX10_counterRefusal cX10_counterRefusal 3 (some FieldType.int) ∈ lw_tbl := List.mem_of_getElem? (i := 1089) rfl
set_option maxRecDepth 100000 in
theorem mWc_96 : Cond.code yX10_far cX10_far 3 (some FieldType.int) ∈ lw_tbl := List.mem_of_getElem? (i := 642) rfl
set_option maxRecDepth 100000 in
theorem mWc_97 : Cond.code yX10_fault cX10_fault 3 (some FieldType.int) ∈ lw_tbl := List.mem_of_getElem? (i := 727) rfl
set_option maxRecDepth 100000 in
theorem mWc_98 : Cond.code yX10_force cX10_force 4 (some FieldType.int) ∈ lw_tbl := List.mem_of_getElem? (i := 876) rfl
set_option maxRecDepth 100000 in
theorem mWc_99 : Cond.code yX10_found cX10_found 4 (some FieldType.int) ∈ lw_tbl := List.mem_of_getElem? (i := 1077) rfl
set_option maxRecDepth 100000 in
theorem mWc_100 : Cond.code yX10_go cX10_go 4 (some FieldType.int) ∈ lw_tbl := List.mem_of_getElem? (i := 926) rfl
set_option maxRecDepth 100000 in
theorem mWc_101 : Cond.code yX10_group cX10_group 5 (some FieldType.int) ∈ lw_tbl := List.mem_of_getElem? (i := 668) rfl
set_option maxRecDepth 100000 in
theorem mWc_102 : Cond.code yX10_heat cX10_heat 4 (some FieldType.int) ∈ lw_tbl := List.mem_of_getElem? (i := 622) rfl
set_option maxRecDepth 100000 in
theorem mWc_103 : Cond.code yX10_holds cX10_holds 5 (some FieldType.int) ∈ lw_tbl := List.mem_of_getElem? (i := 884) rfl
set_option maxRecDepth 100000 in
theorem mWc_104 : Cond.code yX10_image cX10_image 1 (some FieldType.int) ∈ lw_tbl := List.mem_of_getElem? (i := 1205) rfl
set_option maxRecDepth 100000 in
theorem mWc_105 : Cond.code yX10_isBody cX10_isBody 2 (some FieldType.boolean) ∈ lw_tbl := List.mem_of_getElem? (i := 688) rfl
set_option maxRecDepth 100000 in
theorem mWc_106 : Cond.code yX10_isCell cX10_isCell 2 (some FieldType.boolean) ∈ lw_tbl := List.mem_of_getElem? (i := 599) rfl
set_option maxRecDepth 100000 in
theorem mWc_107 : Cond.code yX10_isFound cX10_isFound 2 (some FieldType.boolean) ∈ lw_tbl := List.mem_of_getElem? (i := 1055) rfl
set_option maxRecDepth 100000 in
theorem mWc_108 : Cond.code yX10_isGate cX10_isGate 1 (some FieldType.boolean) ∈ lw_tbl := List.mem_of_getElem? (i := 1139) rfl
set_option maxRecDepth 100000 in
theorem mWc_109 : Cond.code yX10_isMinute cX10_isMinute 1 (some FieldType.boolean) ∈ lw_tbl := List.mem_of_getElem? (i := 703) rfl
set_option maxRecDepth 100000 in
theorem mWc_110 : Cond.code yX10_isOfKind cX10_isOfKind 3 (some FieldType.boolean) ∈ lw_tbl := List.mem_of_getElem? (i := 684) rfl
set_option maxRecDepth 100000 in
theorem mWc_111 : Cond.code yX10_isRite cX10_isRite 1 (some FieldType.boolean) ∈ lw_tbl := List.mem_of_getElem? (i := 914) rfl
set_option maxRecDepth 100000 in
theorem mWc_112 : Cond.code yX10_isShelf cX10_isShelf 1 (some FieldType.boolean) ∈ lw_tbl := List.mem_of_getElem? (i := 734) rfl
set_option maxRecDepth 100000 in
theorem mWc_113 : Cond.code yX10_isSign cX10_isSign 1 (some FieldType.boolean) ∈ lw_tbl := List.mem_of_getElem? (i := 614) rfl
set_option maxRecDepth 100000 in
theorem mWc_114 : Cond.code yX10_isText cX10_isText 2 (some FieldType.boolean) ∈ lw_tbl := List.mem_of_getElem? (i := 880) rfl
set_option maxRecDepth 100000 in
theorem mWc_115 : Cond.code yX10_isWay cX10_isWay 2 (some FieldType.boolean) ∈ lw_tbl := List.mem_of_getElem? (i := 611) rfl
set_option maxRecDepth 100000 in
theorem mWc_116 : Cond.code yX10_judge cX10_judge 6 (some FieldType.int) ∈ lw_tbl := List.mem_of_getElem? (i := 1165) rfl
set_option maxRecDepth 100000 in
theorem mWc_117 : Cond.code yX10_keep cX10_keep 4 (some FieldType.int) ∈ lw_tbl := List.mem_of_getElem? (i := 1232) rfl
set_option maxRecDepth 100000 in
theorem mWc_118 : Cond.code yX10_leastOrNone cX10_leastOrNone 4 (some FieldType.int) ∈ lw_tbl := List.mem_of_getElem? (i := 646) rfl
set_option maxRecDepth 100000 in
theorem mWc_119 : Cond.code yX10_post cX10_post 3 (some FieldType.int) ∈ lw_tbl := List.mem_of_getElem? (i := 696) rfl
set_option maxRecDepth 100000 in
theorem mWc_120 : Cond.code yX10_pushed cX10_pushed 4 (some FieldType.int) ∈ lw_tbl := List.mem_of_getElem? (i := 1039) rfl
set_option maxRecDepth 100000 in
theorem mWc_121 : Cond.code yX10_put cX10_put 5 (some FieldType.int) ∈ lw_tbl := List.mem_of_getElem? (i := 1249) rfl
set_option maxRecDepth 100000 in
theorem mWc_122 : Cond.code yX10_record cX10_record 3 (some FieldType.int) ∈ lw_tbl := List.mem_of_getElem? (i := 1031) rfl
set_option maxRecDepth 100000 in
theorem mWc_123 : Cond.code yX10_restore cX10_restore 1 (some FieldType.int) ∈ lw_tbl := List.mem_of_getElem? (i := 1209) rfl
set_option maxRecDepth 100000 in
theorem mWc_124 : Cond.code yX10_rides cX10_rides 4 (some FieldType.int) ∈ lw_tbl := List.mem_of_getElem? (i := 1124) rfl
set_option maxRecDepth 100000 in
theorem mWc_125 : Cond.code yX10_riteStands cX10_riteStands 5 (some FieldType.boolean) ∈ lw_tbl := List.mem_of_getElem? (i := 918) rfl
set_option maxRecDepth 100000 in
theorem mWc_126 : Cond.code yX10_round cX10_round 3 (some FieldType.int) ∈ lw_tbl := List.mem_of_getElem? (i := 1132) rfl
set_option maxRecDepth 100000 in
theorem mWc_127 : Cond.code yX10_row cX10_row 4 (some FieldType.int) ∈ lw_tbl := List.mem_of_getElem? (i := 1241) rfl
set_option maxRecDepth 100000 in
theorem mWc_128 : Cond.code yX10_rowRefusal cX10_rowRefusal 4 (some FieldType.int) ∈ lw_tbl := List.mem_of_getElem? (i := 731) rfl
set_option maxRecDepth 100000 in
theorem mWc_129 : Cond.code yX10_schools cX10_schools 5 (some FieldType.int) ∈ lw_tbl := List.mem_of_getElem? (i := 922) rfl
set_option maxRecDepth 100000 in
theorem mWc_130 : Cond.code yX10_sign cX10_sign 3 (some FieldType.int) ∈ lw_tbl := List.mem_of_getElem? (i := 607) rfl
set_option maxRecDepth 100000 in
theorem mWc_131 : Cond.code yX10_slot cX10_slot 4 (some FieldType.int) ∈ lw_tbl := List.mem_of_getElem? (i := 1161) rfl
set_option maxRecDepth 100000 in
theorem mWc_132 : Cond.code yX10_stands cX10_stands 4 (some FieldType.int) ∈ lw_tbl := List.mem_of_getElem? (i := 911) rfl
set_option maxRecDepth 100000 in
theorem mWc_133 : Cond.code yX10_stray cX10_stray 6 (some FieldType.int) ∈ lw_tbl := List.mem_of_getElem? (i := 680) rfl
set_option maxRecDepth 100000 in
theorem mWc_134 : Cond.code yX10_sure cX10_sure 4 (some FieldType.int) ∈ lw_tbl := List.mem_of_getElem? (i := 1069) rfl
set_option maxRecDepth 100000 in
theorem mWc_135 : Cond.code yX10_text cX10_text 5 (some FieldType.int) ∈ lw_tbl := List.mem_of_getElem? (i := 868) rfl
set_option maxRecDepth 100000 in
theorem mWc_136 : Cond.code yX10_unaim cX10_unaim 4 (some FieldType.int) ∈ lw_tbl := List.mem_of_getElem? (i := 715) rfl
set_option maxRecDepth 100000 in
theorem mWc_137 : Cond.code yX10_was cX10_was 3 (some FieldType.int) ∈ lw_tbl := List.mem_of_getElem? (i := 1043) rfl
set_option maxRecDepth 100000 in
theorem mWc_138 : Cond.code yX10_water cX10_water 3 (some FieldType.int) ∈ lw_tbl := List.mem_of_getElem? (i := 626) rfl
set_option maxRecDepth 100000 in
theorem mWc_139 : Cond.code yX10_wave cX10_wave 3 (some FieldType.int) ∈ lw_tbl := List.mem_of_getElem? (i := 1098) rfl
set_option maxRecDepth 100000 in
theorem mWc_140 : Cond.code yX10_way cX10_way 4 (some FieldType.int) ∈ lw_tbl := List.mem_of_getElem? (i := 595) rfl
set_option maxRecDepth 100000 in
theorem mWc_141 : Cond.code yX10_weight cX10_weight 3 (some FieldType.int) ∈ lw_tbl := List.mem_of_getElem? (i := 1266) rfl
set_option maxRecDepth 100000 in
theorem mWc_142 : Cond.code yX10_whose cX10_whose 5 (some FieldType.int) ∈ lw_tbl := List.mem_of_getElem? (i := 1051) rfl
set_option maxRecDepth 100000 in
theorem mWc_143 : Cond.code yX10_within cX10_within 3 (some FieldType.boolean) ∈ lw_tbl := List.mem_of_getElem? (i := 586) rfl
set_option maxRecDepth 100000 in
theorem mWc_144 : Cond.code yX10_worst cX10_worst 4 (some FieldType.int) ∈ lw_tbl := List.mem_of_getElem? (i := 1173) rfl
set_option maxRecDepth 100000 in
theorem mWc_145 : Cond.code yX10_worstInMind cX10_worstInMind 7 (some FieldType.int) ∈ lw_tbl := List.mem_of_getElem? (i := 1178) rfl
set_option maxRecDepth 100000 in
theorem mWc_146 : Cond.code yX10_wrong cX10_wrong 4 (some FieldType.int) ∈ lw_tbl := List.mem_of_getElem? (i := 1085) rfl
set_option maxRecDepth 100000 in
theorem mWc_147 : Cond.code yX11_about cX11_about 3 (some FieldType.int) ∈ lw_tbl := List.mem_of_getElem? (i := 1621) rfl
set_option maxRecDepth 100000 in
theorem mWc_148 : Cond.code yX11_add cX11_add 6 (some FieldType.int) ∈ lw_tbl := List.mem_of_getElem? (i := 1654) rfl
set_option maxRecDepth 100000 in
theorem mWc_149 : Cond.code yX11_aim cX11_aim 5 (some FieldType.int) ∈ lw_tbl := List.mem_of_getElem? (i := 1682) rfl
set_option maxRecDepth 100000 in
theorem mWc_150 : Cond.code yX11_aimOf cX11_aimOf 4 (some FieldType.int) ∈ lw_tbl := List.mem_of_getElem? (i := 1745) rfl
set_option maxRecDepth 100000 in
theorem mWc_151 : Cond.code yX11_best cX11_best 8 (some FieldType.int) ∈ lw_tbl := List.mem_of_getElem? (i := 1957) rfl
set_option maxRecDepth 100000 in
theorem mWc_152 : Cond.code yX11_body cX11_body 3 (some FieldType.int) ∈ lw_tbl := List.mem_of_getElem? (i := 1690) rfl
set_option maxRecDepth 100000 in
theorem mWc_153 : Cond.code yX11_bring cX11_bring 4 (some FieldType.int) ∈ lw_tbl := List.mem_of_getElem? (i := 1881) rfl
set_option maxRecDepth 100000 in
theorem mWc_154 : Cond.code yX11_canBe cX11_canBe 5 (some FieldType.boolean) ∈ lw_tbl := List.mem_of_getElem? (i := 1873) rfl
set_option maxRecDepth 100000 in
theorem mWc_155 : Cond.code yX11_carry cX11_carry 3 (some FieldType.int) ∈ lw_tbl := List.mem_of_getElem? (i := 1889) rfl
set_option maxRecDepth 100000 in
theorem mWc_156 : Cond.code yX11_cell cX11_cell 4 (some FieldType.int) ∈ lw_tbl := List.mem_of_getElem? (i := 1589) rfl
set_option maxRecDepth 100000 in
theorem mWc_157 : Cond.code yX11_closes cX11_closes 7 (some FieldType.int) ∈ lw_tbl := List.mem_of_getElem? (i := 1901) rfl
set_option maxRecDepth 100000 in
theorem mWc_158 : Cond.code yX11_comes cX11_comes 3 (some FieldType.int) ∈ lw_tbl := List.mem_of_getElem? (i := 1674) rfl
set_option maxRecDepth 100000 in
theorem mWc_159 : Cond.code yX11_copy cX11_copy 7 (some FieldType.int) ∈ lw_tbl := List.mem_of_getElem? (i := 2000) rfl
set_option maxRecDepth 100000 in
theorem mWc_160 : Cond.code yX11_count cX11_count 4 (some FieldType.int) ∈ lw_tbl := List.mem_of_getElem? (i := 1969) rfl
set_option maxRecDepth 100000 in
theorem mWc_161 : Cond.code yX11_element cX11_element 4 (some FieldType.long) ∈ lw_tbl := List.mem_of_getElem? (i := 1996) rfl
set_option maxRecDepth 100000 in
theorem mWc_162 : Cond.code yX11_fall cX11_fall 4 (none : Option FieldType) ∈ lw_tbl := List.mem_of_getElem? (i := 1817) rfl
set_option maxRecDepth 100000 in
theorem mWc_163 : Cond.code yX11_far cX11_far 3 (some FieldType.int) ∈ lw_tbl := List.mem_of_getElem? (i := 1633) rfl
set_option maxRecDepth 100000 in
theorem mWc_164 : Cond.code yX11_fault cX11_fault 4 (some FieldType.int) ∈ lw_tbl := List.mem_of_getElem? (i := 1698) rfl
set_option maxRecDepth 100000 in
theorem mWc_165 : Cond.code yX11_faultOf cX11_faultOf 3 (some FieldType.int) ∈ lw_tbl := List.mem_of_getElem? (i := 1706) rfl
set_option maxRecDepth 100000 in
theorem mWc_166 : Cond.code yX11_field cX11_field 3 (some FieldType.int) ∈ lw_tbl := List.mem_of_getElem? (i := 1733) rfl
set_option maxRecDepth 100000 in
theorem mWc_167 : Cond.code yX11_findFar cX11_findFar 7 (none : Option FieldType) ∈ lw_tbl := List.mem_of_getElem? (i := 1637) rfl
set_option maxRecDepth 100000 in
theorem mWc_168 : Cond.code yX11_findHeads cX11_findHeads 4 (none : Option FieldType) ∈ lw_tbl := List.mem_of_getElem? (i := 1933) rfl
set_option maxRecDepth 100000 in
theorem mWc_169 : Cond.code yX11_findRound cX11_findRound 9 (some FieldType.int) ∈ lw_tbl := List.mem_of_getElem? (i := 1929) rfl
set_option maxRecDepth 100000 in
theorem mWc_170 : Cond.code yX11_findWave cX11_findWave 13 (some FieldType.int) ∈ lw_tbl := List.mem_of_getElem? (i := 1909) rfl
set_option maxRecDepth 100000 in
theorem mWc_171 : Cond.code yX11_force cX11_force 4 (some FieldType.int) ∈ lw_tbl := List.mem_of_getElem? (i := 1765) rfl
set_option maxRecDepth 100000 in
theorem mWc_172 : Cond.code yX11_found cX11_found 3 (some FieldType.int) ∈ lw_tbl := List.mem_of_getElem? (i := 1885) rfl
set_option maxRecDepth 100000 in
theorem mWc_173 : Cond.code yX11_go cX11_go 3 (some FieldType.int) ∈ lw_tbl := List.mem_of_getElem? (i := 1793) rfl
set_option maxRecDepth 100000 in
theorem mWc_174 : Cond.code yX11_goOn cX11_goOn 5 (some FieldType.int) ∈ lw_tbl := List.mem_of_getElem? (i := 1801) rfl
set_option maxRecDepth 100000 in
theorem mWc_175 : Cond.code yX11_group cX11_group 5 (some FieldType.int) ∈ lw_tbl := List.mem_of_getElem? (i := 1650) rfl
set_option maxRecDepth 100000 in
theorem mWc_176 : Cond.code yX11_groups cX11_groups 3 (some FieldType.int) ∈ lw_tbl := List.mem_of_getElem? (i := 1925) rfl
set_option maxRecDepth 100000 in
theorem mWc_177 : Cond.code yX11_headsOn cX11_headsOn 4 (some FieldType.int) ∈ lw_tbl := List.mem_of_getElem? (i := 1625) rfl
set_option maxRecDepth 100000 in
theorem mWc_178 : Cond.code yX11_heat cX11_heat 4 (some FieldType.int) ∈ lw_tbl := List.mem_of_getElem? (i := 1613) rfl
set_option maxRecDepth 100000 in
theorem mWc_179 : Cond.code yX11_here cX11_here 1 (some FieldType.int) ∈ lw_tbl := List.mem_of_getElem? (i := 1714) rfl
set_option maxRecDepth 100000 in
theorem mWc_180 : Cond.code yX11_holds cX11_holds 4 (some FieldType.int) ∈ lw_tbl := List.mem_of_getElem? (i := 1773) rfl
set_option maxRecDepth 100000 in
theorem mWc_181 : Cond.code yX11_holdsFor cX11_holdsFor 4 (some FieldType.boolean) ∈ lw_tbl := List.mem_of_getElem? (i := 1777) rfl
set_option maxRecDepth 100000 in
theorem mWc_182 : Cond.code yX11_hourNow cX11_hourNow 1 (some FieldType.int) ∈ lw_tbl := List.mem_of_getElem? (i := 1737) rfl
set_option maxRecDepth 100000 in
theorem mWc_183 : Cond.code yX11_image cX11_image 2 (some FieldType.int) ∈ lw_tbl := List.mem_of_getElem? (i := 1961) rfl
set_option maxRecDepth 100000 in
theorem mWc_184 : Cond.code yX11_in cX11_in 3 (some FieldType.boolean) ∈ lw_tbl := List.mem_of_getElem? (i := 1592) rfl
set_option maxRecDepth 100000 in
theorem mWc_185 : Cond.code yX11_isBody cX11_isBody 2 (some FieldType.boolean) ∈ lw_tbl := List.mem_of_getElem? (i := 1670) rfl
set_option maxRecDepth 100000 in
theorem mWc_186 : Cond.code yX11_isCell cX11_isCell 2 (some FieldType.boolean) ∈ lw_tbl := List.mem_of_getElem? (i := 1601) rfl
set_option maxRecDepth 100000 in
theorem mWc_187 : Cond.code yX11_isField cX11_isField 1 (some FieldType.boolean) ∈ lw_tbl := List.mem_of_getElem? (i := 1729) rfl
set_option maxRecDepth 100000 in
theorem mWc_188 : Cond.code yX11_isFound cX11_isFound 2 (some FieldType.boolean) ∈ lw_tbl := List.mem_of_getElem? (i := 1869) rfl
set_option maxRecDepth 100000 in
theorem mWc_189 : Cond.code yX11_isGroup cX11_isGroup 2 (some FieldType.boolean) ∈ lw_tbl := List.mem_of_getElem? (i := 1666) rfl
set_option maxRecDepth 100000 in
theorem mWc_190 : Cond.code yX11_isRound cX11_isRound 3 (some FieldType.boolean) ∈ lw_tbl := List.mem_of_getElem? (i := 1921) rfl
set_option maxRecDepth 100000 in
theorem mWc_191 : Cond.code yX11_isStray cX11_isStray 2 (some FieldType.boolean) ∈ lw_tbl := List.mem_of_getElem? (i := 1865) rfl
set_option maxRecDepth 100000 in
theorem mWc_192 : Cond.code yX11_isText cX11_isText 2 (some FieldType.boolean) ∈ lw_tbl := List.mem_of_getElem? (i := 1769) rfl
set_option maxRecDepth 100000 in
theorem mWc_193 : Cond.code yX11_isWay cX11_isWay 2 (some FieldType.boolean) ∈ lw_tbl := List.mem_of_getElem? (i := 1609) rfl
set_option maxRecDepth 100000 in
theorem mWc_194 : Cond.code yX11_join cX11_join 2 (none : Option FieldType) ∈ lw_tbl := List.mem_of_getElem? (i := 1757) rfl
set_option maxRecDepth 100000 in
theorem mWc_195 : Cond.code yX11_judge cX11_judge 6 (some FieldType.int) ∈ lw_tbl := List.mem_of_getElem? (i := 1945) rfl
set_option maxRecDepth 100000 in
theorem mWc_196 : Cond.code yX11_keep cX11_keep 4 (some FieldType.int) ∈ lw_tbl := List.mem_of_getElem? (i := 1973) rfl
set_option maxRecDepth 100000 in
theorem mWc_197 : Cond.code yX11_lacks cX11_lacks 3 (some FieldType.int) ∈ lw_tbl := List.mem_of_getElem? (i := 1702) rfl
set_option maxRecDepth 100000 in
theorem mWc_198 : Cond.code yX11_lateOf cX11_lateOf 3 (some FieldType.int) ∈ lw_tbl := List.mem_of_getElem? (i := 1741) rfl
set_option maxRecDepth 100000 in
theorem mWc_199 : Cond.code yX11_leads cX11_leads 4 (some FieldType.boolean) ∈ lw_tbl := List.mem_of_getElem? (i := 1646) rfl
set_option maxRecDepth 100000 in
theorem mWc_200 : Cond.code yX11_mostPress cX11_mostPress 3 (some FieldType.int) ∈ lw_tbl := List.mem_of_getElem? (i := 1841) rfl
set_option maxRecDepth 100000 in
theorem mWc_201 : Cond.code yX11_narrowed cX11_narrowed 2 (some FieldType.long) ∈ lw_tbl := List.mem_of_getElem? (i := 1992) rfl
set_option maxRecDepth 100000 in
theorem mWc_202 : Cond.code yX11_of cX11_of 3 (some FieldType.int) ∈ lw_tbl := List.mem_of_getElem? (i := 1629) rfl
set_option maxRecDepth 100000 in
theorem mWc_203 : Cond.code yX11_other cX11_other 3 (some FieldType.int) ∈ lw_tbl := List.mem_of_getElem? (i := 1642) rfl
set_option maxRecDepth 100000 in
theorem mWc_204 : Cond.code yX11_overSlot cX11_overSlot 7 (some FieldType.int) ∈ lw_tbl := List.mem_of_getElem? (i := 1937) rfl
set_option maxRecDepth 100000 in
theorem mWc_205 : Cond.code yX11_pass cX11_pass 2 (none : Option FieldType) ∈ lw_tbl := List.mem_of_getElem? (i := 1805) rfl
set_option maxRecDepth 100000 in
theorem mWc_206 : Cond.code yX11_post cX11_post 3 (some FieldType.int) ∈ lw_tbl := List.mem_of_getElem? (i := 1678) rfl
set_option maxRecDepth 100000 in
theorem mWc_207 : Cond.code yX11_press cX11_press 5 (none : Option FieldType) ∈ lw_tbl := List.mem_of_getElem? (i := 1809) rfl
set_option maxRecDepth 100000 in
theorem mWc_208 : Cond.code yX11_pushed cX11_pushed 4 (some FieldType.int) ∈ lw_tbl := List.mem_of_getElem? (i := 1853) rfl
set_option maxRecDepth 100000 in
theorem mWc_209 : Cond.code yX11_put cX11_put 5 (some FieldType.int) ∈ lw_tbl := List.mem_of_getElem? (i := 1985) rfl
set_option maxRecDepth 100000 in
theorem mWc_210 : Cond.code yX11_readAtom cX11_readAtom 4 (some FieldType.int) ∈ lw_tbl := List.mem_of_getElem? (i := 1726) rfl
set_option maxRecDepth 100000 in
theorem mWc_211 : Cond.code yX11_readSum cX11_readSum 4 (some FieldType.int) ∈ lw_tbl := List.mem_of_getElem? (i := 1722) rfl
set_option maxRecDepth 100000 in
theorem mWc_212 : Cond.code yX11_readTest cX11_readTest 4 (some FieldType.boolean) ∈ lw_tbl := List.mem_of_getElem? (i := 1718) rfl
set_option maxRecDepth 100000 in
theorem mWc_213 : Cond.code yX11_readText cX11_readText 3 (some FieldType.boolean) ∈ lw_tbl := List.mem_of_getElem? (i := 1710) rfl
set_option maxRecDepth 100000 in
theorem mWc_214 : Cond.code yX11_record cX11_record 3 (some FieldType.int) ∈ lw_tbl := List.mem_of_getElem? (i := 1849) rfl
set_option maxRecDepth 100000 in
theorem mWc_215 : Cond.code yX11_recordNow cX11_recordNow 3 (none : Option FieldType) ∈ lw_tbl := List.mem_of_getElem? (i := 1837) rfl
set_option maxRecDepth 100000 in
theorem mWc_216 : Cond.code yX11_restore cX11_restore 2 (some FieldType.int) ∈ lw_tbl := List.mem_of_getElem? (i := 1965) rfl
set_option maxRecDepth 100000 in
theorem mWc_217 : Cond.code yX11_rides cX11_rides 8 (some FieldType.int) ∈ lw_tbl := List.mem_of_getElem? (i := 1913) rfl
set_option maxRecDepth 100000 in
theorem mWc_218 : Cond.code yX11_rite cX11_rite 5 (none : Option FieldType) ∈ lw_tbl := List.mem_of_getElem? (i := 1829) rfl
set_option maxRecDepth 100000 in
theorem mWc_219 : Cond.code yX11_round cX11_round 4 (some FieldType.int) ∈ lw_tbl := List.mem_of_getElem? (i := 1917) rfl
set_option maxRecDepth 100000 in
theorem mWc_220 : Cond.code yX11_row cX11_row 5 (some FieldType.int) ∈ lw_tbl := List.mem_of_getElem? (i := 1981) rfl
set_option maxRecDepth 100000 in
theorem mWc_221 : Cond.code yX11_schools cX11_schools 5 (some FieldType.int) ∈ lw_tbl := List.mem_of_getElem? (i := 1789) rfl
set_option maxRecDepth 100000 in
theorem mWc_222 : Cond.code yX11_seatsOf cX11_seatsOf 2 (some FieldType.int) ∈ lw_tbl := List.mem_of_getElem? (i := 1694) rfl
set_option maxRecDepth 100000 in
theorem mWc_223 : Cond.code yX11_sign cX11_sign 4 (some FieldType.int) ∈ lw_tbl := List.mem_of_getElem? (i := 1605) rfl
set_option maxRecDepth 100000 in
theorem mWc_224 : Cond.code yX11_slot cX11_slot 4 (some FieldType.int) ∈ lw_tbl := List.mem_of_getElem? (i := 1941) rfl
set_option maxRecDepth 100000 in
theorem mWc_225 : Cond.code yX11_stands cX11_stands 4 (some FieldType.int) ∈ lw_tbl := List.mem_of_getElem? (i := 1781) rfl
set_option maxRecDepth 100000 in
theorem mWc_226 : Cond.code yX11_standsBy cX11_standsBy 5 (some FieldType.boolean) ∈ lw_tbl := List.mem_of_getElem? (i := 1785) rfl
set_option maxRecDepth 100000 in
theorem mWc_227 : Cond.code yX11_step cX11_step 8 (none : Option FieldType) ∈ lw_tbl := List.mem_of_getElem? (i := 1825) rfl
set_option maxRecDepth 100000 in
theorem mWc_228 : Cond.code yX11_stray cX11_stray 6 (some FieldType.int) ∈ lw_tbl := List.mem_of_getElem? (i := 1662) rfl
set_option maxRecDepth 100000 in
theorem mWc_229 : Cond.code yX11_sumOf cX11_sumOf 4 (some FieldType.int) ∈ lw_tbl := List.mem_of_getElem? (i := 1845) rfl
set_option maxRecDepth 100000 in
theorem mWc_230 : Cond.code yX11_sure cX11_sure 5 (some FieldType.int) ∈ lw_tbl := List.mem_of_getElem? (i := 1877) rfl
set_option maxRecDepth 100000 in
theorem mWc_231 : Cond.code yX11_tell cX11_tell 4 (none : Option FieldType) ∈ lw_tbl := List.mem_of_getElem? (i := 1658) rfl
set_option maxRecDepth 100000 in
theorem mWc_232 : Cond.code yX11_testEnds cX11_testEnds 1 (none : Option FieldType) ∈ lw_tbl := List.mem_of_getElem? (i := 1749) rfl
set_option maxRecDepth 100000 in
theorem mWc_233 : Cond.code yX11_text cX11_text 6 (some FieldType.int) ∈ lw_tbl := List.mem_of_getElem? (i := 1761) rfl
set_option maxRecDepth 100000 in
theorem mWc_234 : Cond.code yX11_thrown cX11_thrown 1 (some FieldType.int) ∈ lw_tbl := List.mem_of_getElem? (i := 1585) rfl
set_option maxRecDepth 100000 in
theorem mWc_235 : Cond.code yX11_topSign cX11_topSign 1 (some FieldType.int) ∈ lw_tbl := List.mem_of_getElem? (i := 1753) rfl
set_option maxRecDepth 100000 in
theorem mWc_236 : Cond.code yX11_toss cX11_toss 3 (some FieldType.int) ∈ lw_tbl := List.mem_of_getElem? (i := 2012) rfl
set_option maxRecDepth 100000 in
theorem mWc_237 : Cond.code yX11_touch cX11_touch 3 (some FieldType.boolean) ∈ lw_tbl := List.mem_of_getElem? (i := 1813) rfl
set_option maxRecDepth 100000 in
theorem mWc_238 : Cond.code yX11_unaim cX11_unaim 3 (some FieldType.int) ∈ lw_tbl := List.mem_of_getElem? (i := 1686) rfl
set_option maxRecDepth 100000 in
theorem mWc_239 : Cond.code yX11_walk cX11_walk 5 (none : Option FieldType) ∈ lw_tbl := List.mem_of_getElem? (i := 1821) rfl
set_option maxRecDepth 100000 in
theorem mWc_240 : Cond.code yX11_warm cX11_warm 7 (none : Option FieldType) ∈ lw_tbl := List.mem_of_getElem? (i := 1833) rfl
set_option maxRecDepth 100000 in
theorem mWc_241 : Cond.code yX11_was cX11_was 3 (some FieldType.int) ∈ lw_tbl := List.mem_of_getElem? (i := 1857) rfl
set_option maxRecDepth 100000 in
theorem mWc_242 : Cond.code yX11_water cX11_water 3 (some FieldType.int) ∈ lw_tbl := List.mem_of_getElem? (i := 1617) rfl
set_option maxRecDepth 100000 in
theorem mWc_243 : Cond.code yX11_wave cX11_wave 3 (some FieldType.int) ∈ lw_tbl := List.mem_of_getElem? (i := 1905) rfl
set_option maxRecDepth 100000 in
theorem mWc_244 : Cond.code yX11_way cX11_way 5 (some FieldType.int) ∈ lw_tbl := List.mem_of_getElem? (i := 1597) rfl
set_option maxRecDepth 100000 in
theorem mWc_245 : Cond.code yX11_weight cX11_weight 3 (some FieldType.int) ∈ lw_tbl := List.mem_of_getElem? (i := 2004) rfl
set_option maxRecDepth 100000 in
theorem mWc_246 : Cond.code yX11_weightOf cX11_weightOf 3 (some FieldType.int) ∈ lw_tbl := List.mem_of_getElem? (i := 1977) rfl
set_option maxRecDepth 100000 in
theorem mWc_247 : Cond.code yX11_whose cX11_whose 4 (some FieldType.int) ∈ lw_tbl := List.mem_of_getElem? (i := 1861) rfl
set_option maxRecDepth 100000 in
theorem mWc_248 : Cond.code yX11_worst cX11_worst 5 (some FieldType.int) ∈ lw_tbl := List.mem_of_getElem? (i := 1949) rfl
set_option maxRecDepth 100000 in
theorem mWc_249 : Cond.code yX11_worstOf cX11_worstOf 6 (some FieldType.int) ∈ lw_tbl := List.mem_of_getElem? (i := 1953) rfl
set_option maxRecDepth 100000 in
theorem mWc_250 : Cond.code yX11_wrong cX11_wrong 4 (some FieldType.int) ∈ lw_tbl := List.mem_of_getElem? (i := 1893) rfl
set_option maxRecDepth 100000 in
theorem mWc_251 : Cond.code yX11_wrongCounter cX11_wrongCounter 3 (some FieldType.int) ∈ lw_tbl := List.mem_of_getElem? (i := 1897) rfl
set_option maxRecDepth 100000 in
theorem mWc_252 : Cond.code yX11_wrongRow cX11_wrongRow 2 (some FieldType.int) ∈ lw_tbl := List.mem_of_getElem? (i := 1989) rfl
set_option maxRecDepth 100000 in
theorem mWc_253 : Cond.code yX11_wrongShelf cX11_wrongShelf 2 (some FieldType.int) ∈ lw_tbl := List.mem_of_getElem? (i := 2008) rfl
set_option maxRecDepth 100000 in
theorem mWc_254 : Cond.code yX11_wrongTime cX11_wrongTime 2 (some FieldType.int) ∈ lw_tbl := List.mem_of_getElem? (i := 1797) rfl
set_option maxRecDepth 100000 in
theorem mWc_255 : Cond.code yX1_notePlace cX1_notePlace 5 (none : Option FieldType) ∈ lw_tbl := List.mem_of_getElem? (i := 1023) rfl
