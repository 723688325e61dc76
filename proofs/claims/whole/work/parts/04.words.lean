theorem mem_of_places {big : List Cond} {ws : List Cond} {ps : List Nat} (h : ws = ps.filterMap (fun i => big[i]?)) : ∀ w ∈ ws, w ∈ big := by
  intro w hw
  rw [h] at hw
  obtain ⟨i, -, hi⟩ := List.mem_filterMap.mp hw
  exact List.mem_of_getElem? hi
set_option maxRecDepth 100000 in
theorem fIn_0 : ∀ w ∈ (fRs.getD 0 []).map (fWd 0), w ∈ lw_tbl := mem_of_places (ps := [212, 225, 229, 233, 239, 244, 247, 251, 256, 258, 261, 265, 269, 273, 275, 279, 283, 286, 288, 290]) (by decide +kernel)
set_option maxRecDepth 100000 in
theorem mIn_0 : ∀ w ∈ (mRs.getD 0 []).map (mWd 0), w ∈ lw_tbl := mem_of_places (ps := [1186, 1268]) (by decide +kernel)
set_option maxRecDepth 100000 in
theorem kIn_0 : ∀ w ∈ (kRs.getD 0 []).map (kWd 0), w ∈ lw_tbl := mem_of_places (ps := []) (by decide +kernel)
set_option maxRecDepth 100000 in
theorem fIn_1 : ∀ w ∈ (fRs.getD 1 []).map (fWd 1), w ∈ lw_tbl := mem_of_places (ps := [150, 155, 226, 234, 240, 334, 352, 368, 453, 454]) (by decide +kernel)
set_option maxRecDepth 100000 in
theorem mIn_1 : ∀ w ∈ (mRs.getD 1 []).map (mWd 1), w ∈ lw_tbl := mem_of_places (ps := [1001, 1006, 1010, 1014, 1018, 1058]) (by decide +kernel)
set_option maxRecDepth 100000 in
theorem kIn_1 : ∀ w ∈ (kRs.getD 1 []).map (kWd 1), w ∈ lw_tbl := mem_of_places (ps := [452]) (by decide +kernel)
set_option maxRecDepth 100000 in
theorem fIn_2 : ∀ w ∈ (fRs.getD 2 []).map (fWd 2), w ∈ lw_tbl := mem_of_places (ps := [134, 141, 145, 147, 151, 156, 160, 162, 165, 217, 236, 241, 245, 248, 253, 263, 267, 271, 274, 276, 282, 292, 335, 341, 343, 346, 349, 351, 356, 358, 365, 369, 374, 377]) (by decide +kernel)
set_option maxRecDepth 100000 in
theorem mIn_2 : ∀ w ∈ (mRs.getD 2 []).map (mWd 2), w ∈ lw_tbl := mem_of_places (ps := [929, 932, 935, 936, 940, 943, 951, 954, 955, 956, 960, 963, 966, 969, 970, 971, 974, 977, 979, 983, 986, 987, 991, 994]) (by decide +kernel)
set_option maxRecDepth 100000 in
theorem kIn_2 : ∀ w ∈ (kRs.getD 2 []).map (kWd 2), w ∈ lw_tbl := mem_of_places (ps := [978]) (by decide +kernel)
set_option maxRecDepth 100000 in
theorem fIn_3 : ∀ w ∈ (fRs.getD 3 []).map (fWd 3), w ∈ lw_tbl := mem_of_places (ps := [153, 158, 167, 215, 231, 237, 242, 254, 260, 262, 266, 270, 277, 280, 284, 291, 333, 337, 339, 342, 345, 347, 350, 354, 357, 360, 363, 367, 371, 373, 376, 378]) (by decide +kernel)
set_option maxRecDepth 100000 in
theorem mIn_3 : ∀ w ∈ (mRs.getD 3 []).map (mWd 3), w ∈ lw_tbl := mem_of_places (ps := [635, 673, 888, 892, 896, 1177, 1182]) (by decide +kernel)
set_option maxRecDepth 100000 in
theorem kIn_3 : ∀ w ∈ (kRs.getD 3 []).map (kWd 3), w ∈ lw_tbl := mem_of_places (ps := []) (by decide +kernel)
set_option maxRecDepth 100000 in
theorem fIn_4 : ∀ w ∈ (fRs.getD 4 []).map (fWd 4), w ∈ lw_tbl := mem_of_places (ps := [250, 510, 511, 512, 513]) (by decide +kernel)
set_option maxRecDepth 100000 in
theorem mIn_4 : ∀ w ∈ (mRs.getD 4 []).map (mWd 4), w ∈ lw_tbl := mem_of_places (ps := [1137, 1142, 1146]) (by decide +kernel)
set_option maxRecDepth 100000 in
theorem kIn_4 : ∀ w ∈ (kRs.getD 4 []).map (kWd 4), w ∈ lw_tbl := mem_of_places (ps := []) (by decide +kernel)
set_option maxRecDepth 100000 in
theorem fIn_5 : ∀ w ∈ (fRs.getD 5 []).map (fWd 5), w ∈ lw_tbl := mem_of_places (ps := [531, 533, 535, 537, 539]) (by decide +kernel)
set_option maxRecDepth 100000 in
theorem mIn_5 : ∀ w ∈ (mRs.getD 5 []).map (mWd 5), w ∈ lw_tbl := mem_of_places (ps := [1230]) (by decide +kernel)
set_option maxRecDepth 100000 in
theorem kIn_5 : ∀ w ∈ (kRs.getD 5 []).map (kWd 5), w ∈ lw_tbl := mem_of_places (ps := []) (by decide +kernel)
set_option maxRecDepth 100000 in
theorem fIn_6 : ∀ w ∈ (fRs.getD 6 []).map (fWd 6), w ∈ lw_tbl := mem_of_places (ps := [418, 419, 420, 421, 422, 423, 424, 425, 426]) (by decide +kernel)
set_option maxRecDepth 100000 in
theorem mIn_6 : ∀ w ∈ (mRs.getD 6 []).map (mWd 6), w ∈ lw_tbl := mem_of_places (ps := [742, 746, 750, 754, 758, 762, 766, 857, 860, 904]) (by decide +kernel)
set_option maxRecDepth 100000 in
theorem kIn_6 : ∀ w ∈ (kRs.getD 6 []).map (kWd 6), w ∈ lw_tbl := mem_of_places (ps := []) (by decide +kernel)
set_option maxRecDepth 100000 in
theorem fIn_7 : ∀ w ∈ (fRs.getD 7 []).map (fWd 7), w ∈ lw_tbl := mem_of_places (ps := [211, 214, 216]) (by decide +kernel)
set_option maxRecDepth 100000 in
theorem mIn_7 : ∀ w ∈ (mRs.getD 7 []).map (mWd 7), w ∈ lw_tbl := mem_of_places (ps := []) (by decide +kernel)
set_option maxRecDepth 100000 in
theorem kIn_7 : ∀ w ∈ (kRs.getD 7 []).map (kWd 7), w ∈ lw_tbl := mem_of_places (ps := []) (by decide +kernel)
set_option maxRecDepth 100000 in
theorem fIn_8 : ∀ w ∈ (fRs.getD 8 []).map (fWd 8), w ∈ lw_tbl := mem_of_places (ps := [227, 230, 235, 252, 361, 364, 469, 470, 471, 472, 473, 474, 475, 476, 477, 478, 479]) (by decide +kernel)
set_option maxRecDepth 100000 in
theorem mIn_8 : ∀ w ∈ (mRs.getD 8 []).map (mWd 8), w ∈ lw_tbl := mem_of_places (ps := [1096, 1100, 1101, 1105, 1110]) (by decide +kernel)
set_option maxRecDepth 100000 in
theorem kIn_8 : ∀ w ∈ (kRs.getD 8 []).map (kWd 8), w ∈ lw_tbl := mem_of_places (ps := []) (by decide +kernel)
set_option maxRecDepth 100000 in
theorem fIn_9 : ∀ w ∈ (fRs.getD 9 []).map (fWd 9), w ∈ lw_tbl := mem_of_places (ps := [133, 136, 138, 140, 143, 146, 149, 154, 159, 161, 164, 166, 168]) (by decide +kernel)
set_option maxRecDepth 100000 in
theorem mIn_9 : ∀ w ∈ (mRs.getD 9 []).map (mWd 9), w ∈ lw_tbl := mem_of_places (ps := [652, 656, 947]) (by decide +kernel)
set_option maxRecDepth 100000 in
theorem kIn_9 : ∀ w ∈ (kRs.getD 9 []).map (kWd 9), w ∈ lw_tbl := mem_of_places (ps := [651]) (by decide +kernel)
set_option maxRecDepth 100000 in
theorem fIn_10 : ∀ w ∈ (fRs.getD 10 []).map (fWd 10), w ∈ lw_tbl := mem_of_places (ps := [135, 137, 139, 142, 144, 148, 152, 157, 163, 213, 228, 232, 238, 243, 246, 249, 255, 257, 259, 264, 268, 272, 278, 281, 285, 287, 289, 293, 336, 338, 340, 344, 348, 353, 355, 359, 362, 366, 370, 372, 375, 480, 514, 532, 534, 536, 538, 540, 552, 553, 554, 555, 556, 557, 558, 559, 560]) (by decide +kernel)
set_option maxRecDepth 100000 in
theorem mIn_10 : ∀ w ∈ (mRs.getD 10 []).map (mWd 10), w ∈ lw_tbl := mem_of_places (ps := [584, 588, 596, 600, 608, 612, 615, 631, 643, 647, 660, 669, 681, 685, 701, 704, 708, 720, 728, 732, 735, 868, 876, 884, 900, 911, 914, 926, 997, 1019, 1025, 1037, 1045, 1049, 1053, 1079, 1087, 1092, 1118, 1126, 1130, 1133, 1138, 1159, 1168, 1172, 1207, 1208, 1209, 1210, 1214, 1218, 1226, 1235, 1243, 1251, 1260, 1264]) (by decide +kernel)
set_option maxRecDepth 100000 in
theorem kIn_10 : ∀ w ∈ (kRs.getD 10 []).map (kWd 10), w ∈ lw_tbl := mem_of_places (ps := [587, 664, 1167]) (by decide +kernel)
set_option maxRecDepth 100000 in
theorem fIn_11 : ∀ w ∈ (fRs.getD 11 []).map (fWd 11), w ∈ lw_tbl := mem_of_places (ps := [1397, 1398, 1399, 1400, 1401, 1402, 1403, 1404, 1405, 1406, 1407, 1408, 1409, 1410, 1411, 1412, 1413, 1414, 1415, 1416, 1417, 1418, 1419, 1420, 1421, 1422, 1423, 1424, 1425, 1426, 1427, 1428, 1429, 1430, 1431, 1432, 1433, 1434, 1435, 1436, 1437, 1438, 1439, 1440, 1441, 1442, 1443, 1444, 1445, 1446, 1447, 1448, 1449, 1450, 1451, 1452, 1453, 1454, 1455]) (by decide +kernel)
set_option maxRecDepth 100000 in
theorem mIn_11 : ∀ w ∈ (mRs.getD 11 []).map (mWd 11), w ∈ lw_tbl := mem_of_places (ps := [1584, 1592, 1600, 1616, 1620, 1628, 1633, 1637, 1645, 1649, 1657, 1661, 1685, 1693, 1697, 1701, 1705, 1709, 1713, 1717, 1721, 1724, 1728, 1732, 1736, 1740, 1744, 1748, 1760, 1768, 1776, 1788, 1792, 1796, 1800, 1804, 1808, 1812, 1816, 1820, 1824, 1828, 1832, 1836, 1856, 1860, 1864, 1888, 1900, 1912, 1916, 1920, 1924, 1928, 1944, 1968, 1980, 1984, 1999]) (by decide +kernel)
set_option maxRecDepth 100000 in
theorem kIn_11 : ∀ w ∈ (kRs.getD 11 []).map (kWd 11), w ∈ lw_tbl := mem_of_places (ps := [1396, 1587, 1632]) (by decide +kernel)
set_option maxRecDepth 100000 in
theorem fIn_12 : ∀ w ∈ (fRs.getD 12 []).map (fWd 12), w ∈ lw_tbl := mem_of_places (ps := []) (by decide +kernel)
set_option maxRecDepth 100000 in
theorem mIn_12 : ∀ w ∈ (mRs.getD 12 []).map (mWd 12), w ∈ lw_tbl := mem_of_places (ps := [580, 592, 604, 619, 623, 627, 639, 665, 677, 689, 693, 697, 712, 716, 724, 864, 872, 880, 907, 918, 922, 1021, 1029, 1033, 1041, 1059, 1063, 1067, 1071, 1075, 1083, 1088, 1114, 1122, 1151, 1155, 1163, 1191, 1195, 1199, 1203, 1222, 1231, 1239, 1247, 1256, 1576, 1580, 1588, 1596, 1604, 1608, 1612, 1624, 1641, 1653, 1665, 1669, 1673, 1677, 1681, 1689, 1752, 1756, 1764, 1772, 1780, 1784, 1840, 1844, 1848, 1852, 1868, 1872, 1876, 1880, 1884, 1892, 1896, 1904, 1908, 1932, 1936, 1940, 1948, 1952, 1956, 1960, 1964, 1972, 1976, 1987, 1991, 1995, 2003]) (by decide +kernel)
set_option maxRecDepth 100000 in
theorem kIn_12 : ∀ w ∈ (kRs.getD 12 []).map (kWd 12), w ∈ lw_tbl := mem_of_places (ps := []) (by decide +kernel)
def mWs (m : Nat) : List Cond := let y := mY.getD m x; if mSt.getD m false = true then [.static y, .initialized y.cls] else [.instanceMethod y, .selects y.cls y y, .initialized y.cls]
def mWc (m : Nat) : Cond := Cond.code (mY.getD m x) (mBy.getD m code) (mMl.getD m 0) (mRt.getD m none)
set_option maxRecDepth 100000 in
theorem mWs_0 : ∀ w ∈ ((List.range 32).map (· + 0)).flatMap mWs, w ∈ lw_tbl := mem_of_places (ps := [674, 675, 91, 1183, 1184, 91, 1265, 1266, 91, 721, 722, 91, 998, 999, 94, 1038, 1039, 94, 1026, 1027, 94, 1054, 1055, 94, 964, 106, 992, 106, 995, 106, 975, 106, 984, 106, 957, 106, 933, 106, 941, 106, 927, 106, 937, 106, 952, 106, 967, 106, 972, 106, 988, 106, 961, 106, 930, 106, 670, 671, 89, 589, 590, 89, 1211, 1212, 89, 1015, 1016, 89, 1011, 1012, 89, 1007, 1008, 89, 1219, 1220, 89, 1173, 1174, 89]) (by decide +kernel)
set_option maxRecDepth 100000 in
theorem mWs_1 : ∀ w ∈ ((List.range 32).map (· + 32)).flatMap mWs, w ∈ lw_tbl := mem_of_places (ps := [885, 886, 89, 636, 637, 89, 632, 633, 89, 889, 890, 89, 893, 894, 89, 1215, 1216, 89, 1134, 1135, 96, 1144, 26, 96, 1160, 1161, 96, 1148, 27, 96, 1139, 1140, 96, 1244, 1245, 97, 1252, 1253, 97, 1227, 1228, 97, 1236, 1237, 97, 736, 737, 93, 858, 93, 901, 902, 93, 905, 93, 869, 870, 93, 862, 15, 93, 756, 11, 93, 748, 9, 93, 768, 14, 93, 744, 8, 93, 764, 13, 93, 752, 10, 93, 760, 12, 93, 709, 710, 92, 1187, 1188, 92, 897, 898, 92, 705, 706, 92]) (by decide +kernel)
set_option maxRecDepth 100000 in
theorem mWs_2 : ∀ w ∈ ((List.range 32).map (· + 64)).flatMap mWs, w ∈ lw_tbl := mem_of_places (ps := [1103, 22, 95, 1098, 21, 95, 1112, 24, 95, 1107, 23, 95, 1119, 1120, 95, 1093, 1094, 95, 601, 602, 90, 944, 945, 90, 616, 617, 90, 1178, 1179, 90, 980, 981, 90, 1002, 1003, 90, 661, 662, 90, 648, 649, 90, 654, 3, 90, 658, 4, 90, 948, 949, 90, 628, 629, 88, 698, 699, 88, 1128, 25, 88, 1192, 1193, 88, 717, 718, 88, 1262, 29, 88, 1064, 1065, 88, 1051, 19, 88, 1072, 1073, 88, 581, 582, 88, 1084, 1085, 88, 690, 691, 88, 1248, 1249, 88, 1204, 1205, 88, 1081, 20, 88]) (by decide +kernel)
set_option maxRecDepth 100000 in
theorem mWs_3 : ∀ w ∈ ((List.range 32).map (· + 96)).flatMap mWs, w ∈ lw_tbl := mem_of_places (ps := [640, 641, 88, 725, 726, 88, 873, 874, 88, 1068, 1069, 88, 923, 924, 88, 666, 667, 88, 620, 621, 88, 881, 882, 88, 1196, 1197, 88, 687, 6, 88, 598, 0, 88, 1047, 18, 88, 1131, 88, 702, 88, 683, 5, 88, 912, 88, 733, 88, 613, 88, 878, 16, 88, 610, 1, 88, 1156, 1157, 88, 1223, 1224, 88, 645, 2, 88, 694, 695, 88, 1030, 1031, 88, 1240, 1241, 88, 1022, 1023, 88, 1200, 1201, 88, 1115, 1116, 88, 916, 17, 88, 1123, 1124, 88, 1232, 1233, 88]) (by decide +kernel)
set_option maxRecDepth 100000 in
theorem mWs_4 : ∀ w ∈ ((List.range 32).map (· + 128)).flatMap mWs, w ∈ lw_tbl := mem_of_places (ps := [730, 7, 88, 919, 920, 88, 605, 606, 88, 1152, 1153, 88, 908, 909, 88, 678, 679, 88, 1060, 1061, 88, 865, 866, 88, 713, 714, 88, 1034, 1035, 88, 624, 625, 88, 1089, 1090, 88, 593, 594, 88, 1257, 1258, 88, 1042, 1043, 88, 585, 88, 1164, 1165, 88, 1170, 28, 88, 1076, 1077, 88, 1613, 1614, 98, 1647, 38, 98, 1674, 1675, 98, 1738, 53, 98, 1949, 1950, 98, 1682, 1683, 98, 1873, 1874, 98, 1866, 75, 98, 1881, 1882, 98, 1581, 1582, 98, 1893, 1894, 98, 1666, 1667, 98, 1992, 1993, 98]) (by decide +kernel)
set_option maxRecDepth 100000 in
theorem mWs_5 : ∀ w ∈ ((List.range 32).map (· + 160)).flatMap mWs, w ∈ lw_tbl := mem_of_places (ps := [1961, 1962, 98, 1988, 1989, 98, 1810, 65, 98, 1625, 1626, 98, 1690, 1691, 98, 1699, 44, 98, 1726, 50, 98, 1630, 35, 98, 1926, 81, 98, 1922, 80, 98, 1902, 77, 98, 1757, 1758, 98, 1877, 1878, 98, 1785, 1786, 98, 1794, 61, 98, 1642, 1643, 98, 1918, 79, 98, 1618, 33, 98, 1605, 1606, 98, 1707, 46, 98, 1765, 1766, 98, 1770, 58, 98, 1730, 51, 98, 1953, 1954, 98, 1585, 98, 1663, 41, 98, 1594, 31, 98, 1722, 98, 1862, 74, 98, 1659, 40, 98, 1914, 78, 98, 1858, 73, 98]) (by decide +kernel)
set_option maxRecDepth 100000 in
theorem mWs_6 : ∀ w ∈ ((List.range 32).map (· + 192)).flatMap mWs, w ∈ lw_tbl := mem_of_places (ps := [1762, 57, 98, 1602, 32, 98, 1750, 56, 98, 1937, 1938, 98, 1965, 1966, 98, 1695, 43, 98, 1734, 52, 98, 1639, 37, 98, 1834, 71, 98, 1985, 98, 1622, 34, 98, 1635, 36, 98, 1930, 82, 98, 1798, 62, 98, 1670, 1671, 98, 1802, 63, 98, 1845, 1846, 98, 1977, 1978, 98, 1719, 49, 98, 1715, 48, 98, 1711, 47, 98, 1703, 45, 98, 1841, 1842, 98, 1830, 70, 98, 1957, 1958, 98, 1905, 1906, 98, 1822, 68, 98, 1909, 1910, 98, 1973, 1974, 98, 1781, 1782, 98, 1687, 42, 98, 1597, 1598, 98]) (by decide +kernel)
set_option maxRecDepth 100000 in
theorem mWs_7 : ∀ w ∈ ((List.range 31).map (· + 224)).flatMap mWs, w ∈ lw_tbl := mem_of_places (ps := [1933, 1934, 98, 1773, 1774, 98, 1778, 59, 98, 1818, 67, 98, 1654, 1655, 98, 1838, 72, 98, 1869, 1870, 98, 1651, 39, 98, 1742, 54, 98, 1753, 1754, 98, 1577, 1578, 98, 1746, 55, 98, 2004, 2005, 98, 1806, 64, 98, 1678, 1679, 98, 1814, 66, 98, 1826, 69, 98, 1849, 1850, 98, 1609, 1610, 98, 1897, 1898, 98, 1589, 1590, 98, 1996, 1997, 98, 1970, 84, 98, 1853, 1854, 98, 1941, 1942, 98, 1946, 83, 98, 1885, 1886, 98, 1890, 76, 98, 1982, 85, 98, 2001, 86, 98, 1790, 60, 98]) (by decide +kernel)
set_option maxRecDepth 100000 in
theorem mWc_0 : Cond.code yX0_begin cX0_begin 5 (none : Option FieldType) ∈ lw_tbl := List.mem_of_getElem? (i := 676) rfl
set_option maxRecDepth 100000 in
theorem mWc_1 : Cond.code yX0_copyFrom cX0_copyFrom 2 (none : Option FieldType) ∈ lw_tbl := List.mem_of_getElem? (i := 1185) rfl
set_option maxRecDepth 100000 in
theorem mWc_2 : Cond.code yX0_heaviness cX0_heaviness 2 (some FieldType.int) ∈ lw_tbl := List.mem_of_getElem? (i := 1267) rfl
set_option maxRecDepth 100000 in
theorem mWc_3 : Cond.code yX0_seats cX0_seats 1 (some FieldType.int) ∈ lw_tbl := List.mem_of_getElem? (i := 723) rfl
set_option maxRecDepth 100000 in
theorem mWc_4 : Cond.code yX1_note cX1_note 7 (none : Option FieldType) ∈ lw_tbl := List.mem_of_getElem? (i := 1000) rfl
set_option maxRecDepth 100000 in
theorem mWc_5 : Cond.code yX1_placeOf cX1_placeOf 3 (some FieldType.int) ∈ lw_tbl := List.mem_of_getElem? (i := 1040) rfl
set_option maxRecDepth 100000 in
theorem mWc_6 : Cond.code yX1_recordOf cX1_recordOf 3 (some FieldType.int) ∈ lw_tbl := List.mem_of_getElem? (i := 1028) rfl
set_option maxRecDepth 100000 in
theorem mWc_7 : Cond.code yX1_wasIn cX1_wasIn 6 (some FieldType.boolean) ∈ lw_tbl := List.mem_of_getElem? (i := 1056) rfl
set_option maxRecDepth 100000 in
theorem mWc_8 : Cond.code yX2_canWalk cX2_canWalk 2 (some FieldType.boolean) ∈ lw_tbl := List.mem_of_getElem? (i := 965) rfl
set_option maxRecDepth 100000 in
theorem mWc_9 : Cond.code yX2_drink cX2_drink 3 (none : Option FieldType) ∈ lw_tbl := List.mem_of_getElem? (i := 993) rfl
set_option maxRecDepth 100000 in
theorem mWc_10 : Cond.code yX2_faint cX2_faint 2 (none : Option FieldType) ∈ lw_tbl := List.mem_of_getElem? (i := 996) rfl
set_option maxRecDepth 100000 in
theorem mWc_11 : Cond.code yX2_firstWayToward cX2_firstWayToward 6 (some FieldType.int) ∈ lw_tbl := List.mem_of_getElem? (i := 976) rfl
set_option maxRecDepth 100000 in
theorem mWc_12 : Cond.code yX2_keepRites cX2_keepRites 7 (none : Option FieldType) ∈ lw_tbl := List.mem_of_getElem? (i := 985) rfl
set_option maxRecDepth 100000 in
theorem mWc_13 : Cond.code yX2_letFall cX2_letFall 4 (none : Option FieldType) ∈ lw_tbl := List.mem_of_getElem? (i := 958) rfl
set_option maxRecDepth 100000 in
theorem mWc_14 : Cond.code yX2_loadWays cX2_loadWays 4 (none : Option FieldType) ∈ lw_tbl := List.mem_of_getElem? (i := 934) rfl
set_option maxRecDepth 100000 in
theorem mWc_15 : Cond.code yX2_neighboursPush cX2_neighboursPush 4 (some FieldType.int) ∈ lw_tbl := List.mem_of_getElem? (i := 942) rfl
set_option maxRecDepth 100000 in
theorem mWc_16 : Cond.code yX2_pass cX2_pass 2 (none : Option FieldType) ∈ lw_tbl := List.mem_of_getElem? (i := 928) rfl
set_option maxRecDepth 100000 in
theorem mWc_17 : Cond.code yX2_pushWays cX2_pushWays 3 (none : Option FieldType) ∈ lw_tbl := List.mem_of_getElem? (i := 938) rfl
set_option maxRecDepth 100000 in
theorem mWc_18 : Cond.code yX2_shutWays cX2_shutWays 6 (none : Option FieldType) ∈ lw_tbl := List.mem_of_getElem? (i := 953) rfl
set_option maxRecDepth 100000 in
theorem mWc_19 : Cond.code yX2_stepOut cX2_stepOut 4 (none : Option FieldType) ∈ lw_tbl := List.mem_of_getElem? (i := 968) rfl
set_option maxRecDepth 100000 in
theorem mWc_20 : Cond.code yX2_stepToward cX2_stepToward 4 (none : Option FieldType) ∈ lw_tbl := List.mem_of_getElem? (i := 973) rfl
set_option maxRecDepth 100000 in
theorem mWc_21 : Cond.code yX2_sufferHeat cX2_sufferHeat 5 (none : Option FieldType) ∈ lw_tbl := List.mem_of_getElem? (i := 989) rfl
set_option maxRecDepth 100000 in
theorem mWc_22 : Cond.code yX2_walkOn cX2_walkOn 3 (none : Option FieldType) ∈ lw_tbl := List.mem_of_getElem? (i := 962) rfl
set_option maxRecDepth 100000 in
theorem mWc_23 : Cond.code yX2_weighWays cX2_weighWays 3 (none : Option FieldType) ∈ lw_tbl := List.mem_of_getElem? (i := 931) rfl
set_option maxRecDepth 100000 in
theorem mWc_24 : Cond.code yX3_addBody cX3_addBody 4 (some (FieldType.object "TentPlain$Body")) ∈ lw_tbl := List.mem_of_getElem? (i := 672) rfl
set_option maxRecDepth 100000 in
theorem mWc_25 : Cond.code yX3_addCell cX3_addCell 5 (some FieldType.int) ∈ lw_tbl := List.mem_of_getElem? (i := 591) rfl
set_option maxRecDepth 100000 in
theorem mWc_26 : Cond.code yX3_allCarried cX3_allCarried 3 (some FieldType.int) ∈ lw_tbl := List.mem_of_getElem? (i := 1213) rfl
set_option maxRecDepth 100000 in
theorem mWc_27 : Cond.code yX3_allFainted cX3_allFainted 3 (some FieldType.int) ∈ lw_tbl := List.mem_of_getElem? (i := 1017) rfl
set_option maxRecDepth 100000 in
theorem mWc_28 : Cond.code yX3_allFell cX3_allFell 3 (some FieldType.int) ∈ lw_tbl := List.mem_of_getElem? (i := 1013) rfl
set_option maxRecDepth 100000 in
theorem mWc_29 : Cond.code yX3_allHeads cX3_allHeads 3 (some FieldType.int) ∈ lw_tbl := List.mem_of_getElem? (i := 1009) rfl
set_option maxRecDepth 100000 in
theorem mWc_30 : Cond.code yX3_allWater cX3_allWater 3 (some FieldType.int) ∈ lw_tbl := List.mem_of_getElem? (i := 1221) rfl
set_option maxRecDepth 100000 in
theorem mWc_31 : Cond.code yX3_copyFrom cX3_copyFrom 3 (none : Option FieldType) ∈ lw_tbl := List.mem_of_getElem? (i := 1175) rfl
set_option maxRecDepth 100000 in
theorem mWc_32 : Cond.code yX3_fieldsOf cX3_fieldsOf 3 (some (FieldType.array FieldType.int)) ∈ lw_tbl := List.mem_of_getElem? (i := 887) rfl
set_option maxRecDepth 100000 in
theorem mWc_33 : Cond.code yX3_groupAt cX3_groupAt 2 (some (FieldType.object "TentPlain$Body")) ∈ lw_tbl := List.mem_of_getElem? (i := 638) rfl
set_option maxRecDepth 100000 in
theorem mWc_34 : Cond.code yX3_headsOn cX3_headsOn 4 (some FieldType.int) ∈ lw_tbl := List.mem_of_getElem? (i := 634) rfl
set_option maxRecDepth 100000 in
theorem mWc_35 : Cond.code yX3_hour cX3_hour 1 (some FieldType.int) ∈ lw_tbl := List.mem_of_getElem? (i := 891) rfl
set_option maxRecDepth 100000 in
theorem mWc_36 : Cond.code yX3_late cX3_late 3 (some FieldType.int) ∈ lw_tbl := List.mem_of_getElem? (i := 895) rfl
set_option maxRecDepth 100000 in
theorem mWc_37 : Cond.code yX3_straysNotFound cX3_straysNotFound 3 (some FieldType.int) ∈ lw_tbl := List.mem_of_getElem? (i := 1217) rfl
set_option maxRecDepth 100000 in
theorem mWc_38 : Cond.code yX4_begin cX4_begin 5 (none : Option FieldType) ∈ lw_tbl := List.mem_of_getElem? (i := 1136) rfl
set_option maxRecDepth 100000 in
theorem mWc_39 : Cond.code yX4_choose cX4_choose 5 (some FieldType.boolean) ∈ lw_tbl := List.mem_of_getElem? (i := 1145) rfl
set_option maxRecDepth 100000 in
theorem mWc_40 : Cond.code yX4_firstOver cX4_firstOver 2 (some FieldType.int) ∈ lw_tbl := List.mem_of_getElem? (i := 1162) rfl
set_option maxRecDepth 100000 in
theorem mWc_41 : Cond.code yX4_mostIn cX4_mostIn 6 (some FieldType.int) ∈ lw_tbl := List.mem_of_getElem? (i := 1149) rfl
set_option maxRecDepth 100000 in
theorem mWc_42 : Cond.code yX4_solve cX4_solve 2 (some FieldType.int) ∈ lw_tbl := List.mem_of_getElem? (i := 1141) rfl
set_option maxRecDepth 100000 in
theorem mWc_43 : Cond.code yX5_become cX5_become 3 (none : Option FieldType) ∈ lw_tbl := List.mem_of_getElem? (i := 1246) rfl
set_option maxRecDepth 100000 in
theorem mWc_44 : Cond.code yX5_hasPlaces cX5_hasPlaces 3 (some FieldType.boolean) ∈ lw_tbl := List.mem_of_getElem? (i := 1254) rfl
set_option maxRecDepth 100000 in
theorem mWc_45 : Cond.code yX5_holdBody cX5_holdBody 2 (none : Option FieldType) ∈ lw_tbl := List.mem_of_getElem? (i := 1229) rfl
set_option maxRecDepth 100000 in
theorem mWc_46 : Cond.code yX5_holdRow cX5_holdRow 4 (none : Option FieldType) ∈ lw_tbl := List.mem_of_getElem? (i := 1238) rfl
set_option maxRecDepth 100000 in
theorem mWc_47 : Cond.code yX6_faultOf cX6_faultOf 3 (some FieldType.int) ∈ lw_tbl := List.mem_of_getElem? (i := 738) rfl
set_option maxRecDepth 100000 in
theorem mWc_48 : Cond.code yX6_isDigit cX6_isDigit 1 (some FieldType.boolean) ∈ lw_tbl := List.mem_of_getElem? (i := 859) rfl
set_option maxRecDepth 100000 in
theorem mWc_49 : Cond.code yX6_isTrue cX6_isTrue 7 (some FieldType.boolean) ∈ lw_tbl := List.mem_of_getElem? (i := 903) rfl
set_option maxRecDepth 100000 in
theorem mWc_50 : Cond.code yX6_joined cX6_joined 3 (some FieldType.int) ∈ lw_tbl := List.mem_of_getElem? (i := 906) rfl
set_option maxRecDepth 100000 in
theorem mWc_51 : Cond.code yX6_keepAs cX6_keepAs 2 (none : Option FieldType) ∈ lw_tbl := List.mem_of_getElem? (i := 871) rfl
set_option maxRecDepth 100000 in
theorem mWc_52 : Cond.code yX6_make cX6_make 2 (none : Option FieldType) ∈ lw_tbl := List.mem_of_getElem? (i := 863) rfl
set_option maxRecDepth 100000 in
theorem mWc_53 : Cond.code yX6_next cX6_next 1 (some FieldType.int) ∈ lw_tbl := List.mem_of_getElem? (i := 757) rfl
set_option maxRecDepth 100000 in
theorem mWc_54 : Cond.code yX6_readAnd cX6_readAnd 3 (none : Option FieldType) ∈ lw_tbl := List.mem_of_getElem? (i := 749) rfl
set_option maxRecDepth 100000 in
theorem mWc_55 : Cond.code yX6_readAtom cX6_readAtom 5 (none : Option FieldType) ∈ lw_tbl := List.mem_of_getElem? (i := 769) rfl
set_option maxRecDepth 100000 in
theorem mWc_56 : Cond.code yX6_readOr cX6_readOr 3 (none : Option FieldType) ∈ lw_tbl := List.mem_of_getElem? (i := 745) rfl
set_option maxRecDepth 100000 in
theorem mWc_57 : Cond.code yX6_readSum cX6_readSum 3 (none : Option FieldType) ∈ lw_tbl := List.mem_of_getElem? (i := 765) rfl
set_option maxRecDepth 100000 in
theorem mWc_58 : Cond.code yX6_readTest cX6_readTest 4 (none : Option FieldType) ∈ lw_tbl := List.mem_of_getElem? (i := 753) rfl
set_option maxRecDepth 100000 in
theorem mWc_59 : Cond.code yX6_takeIf cX6_takeIf 2 (none : Option FieldType) ∈ lw_tbl := List.mem_of_getElem? (i := 761) rfl
set_option maxRecDepth 100000 in
theorem mWc_60 : Cond.code yX7_add cX7_add 3 (none : Option FieldType) ∈ lw_tbl := List.mem_of_getElem? (i := 711) rfl
set_option maxRecDepth 100000 in
theorem mWc_61 : Cond.code yX7_copyFrom cX7_copyFrom 2 (none : Option FieldType) ∈ lw_tbl := List.mem_of_getElem? (i := 1189) rfl
set_option maxRecDepth 100000 in
theorem mWc_62 : Cond.code yX7_holdingIn cX7_holdingIn 3 (some FieldType.int) ∈ lw_tbl := List.mem_of_getElem? (i := 899) rfl
set_option maxRecDepth 100000 in
theorem mWc_63 : Cond.code yX7_lastMinute cX7_lastMinute 1 (some FieldType.int) ∈ lw_tbl := List.mem_of_getElem? (i := 707) rfl
set_option maxRecDepth 100000 in
theorem mWc_64 : Cond.code yX8_choose cX8_choose 4 (none : Option FieldType) ∈ lw_tbl := List.mem_of_getElem? (i := 1104) rfl
set_option maxRecDepth 100000 in
theorem mWc_65 : Cond.code yX8_gather cX8_gather 4 (none : Option FieldType) ∈ lw_tbl := List.mem_of_getElem? (i := 1099) rfl
set_option maxRecDepth 100000 in
theorem mWc_66 : Cond.code yX8_hasTwinAhead cX8_hasTwinAhead 3 (some FieldType.boolean) ∈ lw_tbl := List.mem_of_getElem? (i := 1113) rfl
set_option maxRecDepth 100000 in
theorem mWc_67 : Cond.code yX8_keepChosen cX8_keepChosen 2 (none : Option FieldType) ∈ lw_tbl := List.mem_of_getElem? (i := 1108) rfl
set_option maxRecDepth 100000 in
theorem mWc_68 : Cond.code yX8_rideOf cX8_rideOf 3 (some FieldType.int) ∈ lw_tbl := List.mem_of_getElem? (i := 1121) rfl
set_option maxRecDepth 100000 in
theorem mWc_69 : Cond.code yX8_solve cX8_solve 5 (none : Option FieldType) ∈ lw_tbl := List.mem_of_getElem? (i := 1095) rfl
set_option maxRecDepth 100000 in
theorem mWc_70 : Cond.code yX9_add cX9_add 6 (some FieldType.int) ∈ lw_tbl := List.mem_of_getElem? (i := 603) rfl
set_option maxRecDepth 100000 in
theorem mWc_71 : Cond.code yX9_areNeighbours cX9_areNeighbours 3 (some FieldType.boolean) ∈ lw_tbl := List.mem_of_getElem? (i := 946) rfl
set_option maxRecDepth 100000 in
theorem mWc_72 : Cond.code yX9_changeSign cX9_changeSign 4 (some FieldType.int) ∈ lw_tbl := List.mem_of_getElem? (i := 618) rfl
set_option maxRecDepth 100000 in
theorem mWc_73 : Cond.code yX9_copyFrom cX9_copyFrom 2 (none : Option FieldType) ∈ lw_tbl := List.mem_of_getElem? (i := 1180) rfl
set_option maxRecDepth 100000 in
theorem mWc_74 : Cond.code yX9_endFrom cX9_endFrom 3 (some FieldType.int) ∈ lw_tbl := List.mem_of_getElem? (i := 982) rfl
set_option maxRecDepth 100000 in
theorem mWc_75 : Cond.code yX9_greatest cX9_greatest 4 (some FieldType.int) ∈ lw_tbl := List.mem_of_getElem? (i := 1004) rfl
set_option maxRecDepth 100000 in
theorem mWc_76 : Cond.code yX9_leastFrom cX9_leastFrom 3 (some FieldType.int) ∈ lw_tbl := List.mem_of_getElem? (i := 663) rfl
set_option maxRecDepth 100000 in
theorem mWc_77 : Cond.code yX9_reckon cX9_reckon 5 (none : Option FieldType) ∈ lw_tbl := List.mem_of_getElem? (i := 650) rfl
set_option maxRecDepth 100000 in
theorem mWc_78 : Cond.code yX9_shorten cX9_shorten 5 (none : Option FieldType) ∈ lw_tbl := List.mem_of_getElem? (i := 655) rfl
set_option maxRecDepth 100000 in
theorem mWc_79 : Cond.code yX9_shortenOver cX9_shortenOver 6 (none : Option FieldType) ∈ lw_tbl := List.mem_of_getElem? (i := 659) rfl
set_option maxRecDepth 100000 in
theorem mWc_80 : Cond.code yX9_touches cX9_touches 3 (some FieldType.boolean) ∈ lw_tbl := List.mem_of_getElem? (i := 950) rfl
set_option maxRecDepth 100000 in
theorem mWc_81 : Cond.code yX10_about cX10_about 4 (some FieldType.int) ∈ lw_tbl := List.mem_of_getElem? (i := 630) rfl
set_option maxRecDepth 100000 in
theorem mWc_82 : Cond.code yX10_aim cX10_aim 5 (some FieldType.int) ∈ lw_tbl := List.mem_of_getElem? (i := 700) rfl
set_option maxRecDepth 100000 in
theorem mWc_83 : Cond.code yX10_areFirstGroups cX10_areFirstGroups 2 (some FieldType.boolean) ∈ lw_tbl := List.mem_of_getElem? (i := 1129) rfl
set_option maxRecDepth 100000 in
theorem mWc_84 : Cond.code yX10_best cX10_best 7 (some FieldType.int) ∈ lw_tbl := List.mem_of_getElem? (i := 1194) rfl
set_option maxRecDepth 100000 in
theorem mWc_85 : Cond.code yX10_body cX10_body 4 (some FieldType.int) ∈ lw_tbl := List.mem_of_getElem? (i := 719) rfl
set_option maxRecDepth 100000 in
theorem mWc_86 : Cond.code yX10_bodyRefusal cX10_bodyRefusal 2 (some FieldType.int) ∈ lw_tbl := List.mem_of_getElem? (i := 1263) rfl
set_option maxRecDepth 100000 in
theorem mWc_87 : Cond.code yX10_bring cX10_bring 4 (some FieldType.int) ∈ lw_tbl := List.mem_of_getElem? (i := 1066) rfl
set_option maxRecDepth 100000 in
theorem mWc_88 : Cond.code yX10_canBe cX10_canBe 6 (some FieldType.boolean) ∈ lw_tbl := List.mem_of_getElem? (i := 1052) rfl
set_option maxRecDepth 100000 in
theorem mWc_89 : Cond.code yX10_carry cX10_carry 4 (some FieldType.int) ∈ lw_tbl := List.mem_of_getElem? (i := 1074) rfl
set_option maxRecDepth 100000 in
theorem mWc_90 : Cond.code yX10_cell cX10_cell 4 (some FieldType.int) ∈ lw_tbl := List.mem_of_getElem? (i := 583) rfl
set_option maxRecDepth 100000 in
theorem mWc_91 : Cond.code yX10_closes cX10_closes 9 (some FieldType.int) ∈ lw_tbl := List.mem_of_getElem? (i := 1086) rfl
set_option maxRecDepth 100000 in
theorem mWc_92 : Cond.code yX10_comes cX10_comes 3 (some FieldType.int) ∈ lw_tbl := List.mem_of_getElem? (i := 692) rfl
set_option maxRecDepth 100000 in
theorem mWc_93 : Cond.code yX10_copy cX10_copy 8 (some FieldType.int) ∈ lw_tbl := List.mem_of_getElem? (i := 1250) rfl
set_option maxRecDepth 100000 in
theorem mWc_94 : Cond.code yX10_count cX10_count 2 (some FieldType.int) ∈ lw_tbl := List.mem_of_getElem? (i := 1206) rfl
set_option maxRecDepth 100000 in
theorem mWc_95 : Cond.code yX10_counterRefusal cX10_counterRefusal 3 (some FieldType.int) ∈ lw_tbl := List.mem_of_getElem? (i := 1082) rfl
set_option maxRecDepth 100000 in
theorem mWc_96 : Cond.code yX10_far cX10_far 3 (some FieldType.int) ∈ lw_tbl := List.mem_of_getElem? (i := 642) rfl
set_option maxRecDepth 100000 in
theorem mWc_97 : Cond.code yX10_fault cX10_fault 3 (some FieldType.int) ∈ lw_tbl := List.mem_of_getElem? (i := 727) rfl
set_option maxRecDepth 100000 in
theorem mWc_98 : Cond.code yX10_force cX10_force 4 (some FieldType.int) ∈ lw_tbl := List.mem_of_getElem? (i := 875) rfl
set_option maxRecDepth 100000 in
theorem mWc_99 : Cond.code yX10_found cX10_found 4 (some FieldType.int) ∈ lw_tbl := List.mem_of_getElem? (i := 1070) rfl
set_option maxRecDepth 100000 in
theorem mWc_100 : Cond.code yX10_go cX10_go 4 (some FieldType.int) ∈ lw_tbl := List.mem_of_getElem? (i := 925) rfl
set_option maxRecDepth 100000 in
theorem mWc_101 : Cond.code yX10_group cX10_group 5 (some FieldType.int) ∈ lw_tbl := List.mem_of_getElem? (i := 668) rfl
set_option maxRecDepth 100000 in
theorem mWc_102 : Cond.code yX10_heat cX10_heat 4 (some FieldType.int) ∈ lw_tbl := List.mem_of_getElem? (i := 622) rfl
set_option maxRecDepth 100000 in
theorem mWc_103 : Cond.code yX10_holds cX10_holds 5 (some FieldType.int) ∈ lw_tbl := List.mem_of_getElem? (i := 883) rfl
set_option maxRecDepth 100000 in
theorem mWc_104 : Cond.code yX10_image cX10_image 1 (some FieldType.int) ∈ lw_tbl := List.mem_of_getElem? (i := 1198) rfl
set_option maxRecDepth 100000 in
theorem mWc_105 : Cond.code yX10_isBody cX10_isBody 2 (some FieldType.boolean) ∈ lw_tbl := List.mem_of_getElem? (i := 688) rfl
set_option maxRecDepth 100000 in
theorem mWc_106 : Cond.code yX10_isCell cX10_isCell 2 (some FieldType.boolean) ∈ lw_tbl := List.mem_of_getElem? (i := 599) rfl
set_option maxRecDepth 100000 in
theorem mWc_107 : Cond.code yX10_isFound cX10_isFound 2 (some FieldType.boolean) ∈ lw_tbl := List.mem_of_getElem? (i := 1048) rfl
set_option maxRecDepth 100000 in
theorem mWc_108 : Cond.code yX10_isGate cX10_isGate 1 (some FieldType.boolean) ∈ lw_tbl := List.mem_of_getElem? (i := 1132) rfl
set_option maxRecDepth 100000 in
theorem mWc_109 : Cond.code yX10_isMinute cX10_isMinute 1 (some FieldType.boolean) ∈ lw_tbl := List.mem_of_getElem? (i := 703) rfl
set_option maxRecDepth 100000 in
theorem mWc_110 : Cond.code yX10_isOfKind cX10_isOfKind 3 (some FieldType.boolean) ∈ lw_tbl := List.mem_of_getElem? (i := 684) rfl
set_option maxRecDepth 100000 in
theorem mWc_111 : Cond.code yX10_isRite cX10_isRite 1 (some FieldType.boolean) ∈ lw_tbl := List.mem_of_getElem? (i := 913) rfl
set_option maxRecDepth 100000 in
theorem mWc_112 : Cond.code yX10_isShelf cX10_isShelf 1 (some FieldType.boolean) ∈ lw_tbl := List.mem_of_getElem? (i := 734) rfl
set_option maxRecDepth 100000 in
theorem mWc_113 : Cond.code yX10_isSign cX10_isSign 1 (some FieldType.boolean) ∈ lw_tbl := List.mem_of_getElem? (i := 614) rfl
set_option maxRecDepth 100000 in
theorem mWc_114 : Cond.code yX10_isText cX10_isText 2 (some FieldType.boolean) ∈ lw_tbl := List.mem_of_getElem? (i := 879) rfl
set_option maxRecDepth 100000 in
theorem mWc_115 : Cond.code yX10_isWay cX10_isWay 2 (some FieldType.boolean) ∈ lw_tbl := List.mem_of_getElem? (i := 611) rfl
set_option maxRecDepth 100000 in
theorem mWc_116 : Cond.code yX10_judge cX10_judge 6 (some FieldType.int) ∈ lw_tbl := List.mem_of_getElem? (i := 1158) rfl
set_option maxRecDepth 100000 in
theorem mWc_117 : Cond.code yX10_keep cX10_keep 4 (some FieldType.int) ∈ lw_tbl := List.mem_of_getElem? (i := 1225) rfl
set_option maxRecDepth 100000 in
theorem mWc_118 : Cond.code yX10_leastOrNone cX10_leastOrNone 4 (some FieldType.int) ∈ lw_tbl := List.mem_of_getElem? (i := 646) rfl
set_option maxRecDepth 100000 in
theorem mWc_119 : Cond.code yX10_post cX10_post 3 (some FieldType.int) ∈ lw_tbl := List.mem_of_getElem? (i := 696) rfl
set_option maxRecDepth 100000 in
theorem mWc_120 : Cond.code yX10_pushed cX10_pushed 4 (some FieldType.int) ∈ lw_tbl := List.mem_of_getElem? (i := 1032) rfl
set_option maxRecDepth 100000 in
theorem mWc_121 : Cond.code yX10_put cX10_put 5 (some FieldType.int) ∈ lw_tbl := List.mem_of_getElem? (i := 1242) rfl
set_option maxRecDepth 100000 in
theorem mWc_122 : Cond.code yX10_record cX10_record 3 (some FieldType.int) ∈ lw_tbl := List.mem_of_getElem? (i := 1024) rfl
set_option maxRecDepth 100000 in
theorem mWc_123 : Cond.code yX10_restore cX10_restore 1 (some FieldType.int) ∈ lw_tbl := List.mem_of_getElem? (i := 1202) rfl
set_option maxRecDepth 100000 in
theorem mWc_124 : Cond.code yX10_rides cX10_rides 4 (some FieldType.int) ∈ lw_tbl := List.mem_of_getElem? (i := 1117) rfl
set_option maxRecDepth 100000 in
theorem mWc_125 : Cond.code yX10_riteStands cX10_riteStands 5 (some FieldType.boolean) ∈ lw_tbl := List.mem_of_getElem? (i := 917) rfl
set_option maxRecDepth 100000 in
theorem mWc_126 : Cond.code yX10_round cX10_round 3 (some FieldType.int) ∈ lw_tbl := List.mem_of_getElem? (i := 1125) rfl
set_option maxRecDepth 100000 in
theorem mWc_127 : Cond.code yX10_row cX10_row 4 (some FieldType.int) ∈ lw_tbl := List.mem_of_getElem? (i := 1234) rfl
set_option maxRecDepth 100000 in
theorem mWc_128 : Cond.code yX10_rowRefusal cX10_rowRefusal 4 (some FieldType.int) ∈ lw_tbl := List.mem_of_getElem? (i := 731) rfl
set_option maxRecDepth 100000 in
theorem mWc_129 : Cond.code yX10_schools cX10_schools 5 (some FieldType.int) ∈ lw_tbl := List.mem_of_getElem? (i := 921) rfl
set_option maxRecDepth 100000 in
theorem mWc_130 : Cond.code yX10_sign cX10_sign 3 (some FieldType.int) ∈ lw_tbl := List.mem_of_getElem? (i := 607) rfl
set_option maxRecDepth 100000 in
theorem mWc_131 : Cond.code yX10_slot cX10_slot 4 (some FieldType.int) ∈ lw_tbl := List.mem_of_getElem? (i := 1154) rfl
set_option maxRecDepth 100000 in
theorem mWc_132 : Cond.code yX10_stands cX10_stands 4 (some FieldType.int) ∈ lw_tbl := List.mem_of_getElem? (i := 910) rfl
set_option maxRecDepth 100000 in
theorem mWc_133 : Cond.code yX10_stray cX10_stray 6 (some FieldType.int) ∈ lw_tbl := List.mem_of_getElem? (i := 680) rfl
set_option maxRecDepth 100000 in
theorem mWc_134 : Cond.code yX10_sure cX10_sure 4 (some FieldType.int) ∈ lw_tbl := List.mem_of_getElem? (i := 1062) rfl
set_option maxRecDepth 100000 in
theorem mWc_135 : Cond.code yX10_text cX10_text 5 (some FieldType.int) ∈ lw_tbl := List.mem_of_getElem? (i := 867) rfl
set_option maxRecDepth 100000 in
theorem mWc_136 : Cond.code yX10_unaim cX10_unaim 4 (some FieldType.int) ∈ lw_tbl := List.mem_of_getElem? (i := 715) rfl
set_option maxRecDepth 100000 in
theorem mWc_137 : Cond.code yX10_was cX10_was 3 (some FieldType.int) ∈ lw_tbl := List.mem_of_getElem? (i := 1036) rfl
set_option maxRecDepth 100000 in
theorem mWc_138 : Cond.code yX10_water cX10_water 3 (some FieldType.int) ∈ lw_tbl := List.mem_of_getElem? (i := 626) rfl
set_option maxRecDepth 100000 in
theorem mWc_139 : Cond.code yX10_wave cX10_wave 3 (some FieldType.int) ∈ lw_tbl := List.mem_of_getElem? (i := 1091) rfl
set_option maxRecDepth 100000 in
theorem mWc_140 : Cond.code yX10_way cX10_way 4 (some FieldType.int) ∈ lw_tbl := List.mem_of_getElem? (i := 595) rfl
set_option maxRecDepth 100000 in
theorem mWc_141 : Cond.code yX10_weight cX10_weight 3 (some FieldType.int) ∈ lw_tbl := List.mem_of_getElem? (i := 1259) rfl
set_option maxRecDepth 100000 in
theorem mWc_142 : Cond.code yX10_whose cX10_whose 5 (some FieldType.int) ∈ lw_tbl := List.mem_of_getElem? (i := 1044) rfl
set_option maxRecDepth 100000 in
theorem mWc_143 : Cond.code yX10_within cX10_within 3 (some FieldType.boolean) ∈ lw_tbl := List.mem_of_getElem? (i := 586) rfl
set_option maxRecDepth 100000 in
theorem mWc_144 : Cond.code yX10_worst cX10_worst 4 (some FieldType.int) ∈ lw_tbl := List.mem_of_getElem? (i := 1166) rfl
set_option maxRecDepth 100000 in
theorem mWc_145 : Cond.code yX10_worstInMind cX10_worstInMind 7 (some FieldType.int) ∈ lw_tbl := List.mem_of_getElem? (i := 1171) rfl
set_option maxRecDepth 100000 in
theorem mWc_146 : Cond.code yX10_wrong cX10_wrong 4 (some FieldType.int) ∈ lw_tbl := List.mem_of_getElem? (i := 1078) rfl
set_option maxRecDepth 100000 in
theorem mWc_147 : Cond.code yX11_about cX11_about 3 (some FieldType.int) ∈ lw_tbl := List.mem_of_getElem? (i := 1615) rfl
set_option maxRecDepth 100000 in
theorem mWc_148 : Cond.code yX11_add cX11_add 6 (some FieldType.int) ∈ lw_tbl := List.mem_of_getElem? (i := 1648) rfl
set_option maxRecDepth 100000 in
theorem mWc_149 : Cond.code yX11_aim cX11_aim 5 (some FieldType.int) ∈ lw_tbl := List.mem_of_getElem? (i := 1676) rfl
set_option maxRecDepth 100000 in
theorem mWc_150 : Cond.code yX11_aimOf cX11_aimOf 4 (some FieldType.int) ∈ lw_tbl := List.mem_of_getElem? (i := 1739) rfl
set_option maxRecDepth 100000 in
theorem mWc_151 : Cond.code yX11_best cX11_best 8 (some FieldType.int) ∈ lw_tbl := List.mem_of_getElem? (i := 1951) rfl
set_option maxRecDepth 100000 in
theorem mWc_152 : Cond.code yX11_body cX11_body 3 (some FieldType.int) ∈ lw_tbl := List.mem_of_getElem? (i := 1684) rfl
set_option maxRecDepth 100000 in
theorem mWc_153 : Cond.code yX11_bring cX11_bring 4 (some FieldType.int) ∈ lw_tbl := List.mem_of_getElem? (i := 1875) rfl
set_option maxRecDepth 100000 in
theorem mWc_154 : Cond.code yX11_canBe cX11_canBe 5 (some FieldType.boolean) ∈ lw_tbl := List.mem_of_getElem? (i := 1867) rfl
set_option maxRecDepth 100000 in
theorem mWc_155 : Cond.code yX11_carry cX11_carry 3 (some FieldType.int) ∈ lw_tbl := List.mem_of_getElem? (i := 1883) rfl
set_option maxRecDepth 100000 in
theorem mWc_156 : Cond.code yX11_cell cX11_cell 4 (some FieldType.int) ∈ lw_tbl := List.mem_of_getElem? (i := 1583) rfl
set_option maxRecDepth 100000 in
theorem mWc_157 : Cond.code yX11_closes cX11_closes 7 (some FieldType.int) ∈ lw_tbl := List.mem_of_getElem? (i := 1895) rfl
set_option maxRecDepth 100000 in
theorem mWc_158 : Cond.code yX11_comes cX11_comes 3 (some FieldType.int) ∈ lw_tbl := List.mem_of_getElem? (i := 1668) rfl
set_option maxRecDepth 100000 in
theorem mWc_159 : Cond.code yX11_copy cX11_copy 7 (some FieldType.int) ∈ lw_tbl := List.mem_of_getElem? (i := 1994) rfl
set_option maxRecDepth 100000 in
theorem mWc_160 : Cond.code yX11_count cX11_count 4 (some FieldType.int) ∈ lw_tbl := List.mem_of_getElem? (i := 1963) rfl
set_option maxRecDepth 100000 in
theorem mWc_161 : Cond.code yX11_element cX11_element 4 (some FieldType.long) ∈ lw_tbl := List.mem_of_getElem? (i := 1990) rfl
set_option maxRecDepth 100000 in
theorem mWc_162 : Cond.code yX11_fall cX11_fall 4 (none : Option FieldType) ∈ lw_tbl := List.mem_of_getElem? (i := 1811) rfl
set_option maxRecDepth 100000 in
theorem mWc_163 : Cond.code yX11_far cX11_far 3 (some FieldType.int) ∈ lw_tbl := List.mem_of_getElem? (i := 1627) rfl
set_option maxRecDepth 100000 in
theorem mWc_164 : Cond.code yX11_fault cX11_fault 4 (some FieldType.int) ∈ lw_tbl := List.mem_of_getElem? (i := 1692) rfl
set_option maxRecDepth 100000 in
theorem mWc_165 : Cond.code yX11_faultOf cX11_faultOf 3 (some FieldType.int) ∈ lw_tbl := List.mem_of_getElem? (i := 1700) rfl
set_option maxRecDepth 100000 in
theorem mWc_166 : Cond.code yX11_field cX11_field 3 (some FieldType.int) ∈ lw_tbl := List.mem_of_getElem? (i := 1727) rfl
set_option maxRecDepth 100000 in
theorem mWc_167 : Cond.code yX11_findFar cX11_findFar 7 (none : Option FieldType) ∈ lw_tbl := List.mem_of_getElem? (i := 1631) rfl
set_option maxRecDepth 100000 in
theorem mWc_168 : Cond.code yX11_findHeads cX11_findHeads 4 (none : Option FieldType) ∈ lw_tbl := List.mem_of_getElem? (i := 1927) rfl
set_option maxRecDepth 100000 in
theorem mWc_169 : Cond.code yX11_findRound cX11_findRound 9 (some FieldType.int) ∈ lw_tbl := List.mem_of_getElem? (i := 1923) rfl
set_option maxRecDepth 100000 in
theorem mWc_170 : Cond.code yX11_findWave cX11_findWave 13 (some FieldType.int) ∈ lw_tbl := List.mem_of_getElem? (i := 1903) rfl
set_option maxRecDepth 100000 in
theorem mWc_171 : Cond.code yX11_force cX11_force 4 (some FieldType.int) ∈ lw_tbl := List.mem_of_getElem? (i := 1759) rfl
set_option maxRecDepth 100000 in
theorem mWc_172 : Cond.code yX11_found cX11_found 3 (some FieldType.int) ∈ lw_tbl := List.mem_of_getElem? (i := 1879) rfl
set_option maxRecDepth 100000 in
theorem mWc_173 : Cond.code yX11_go cX11_go 3 (some FieldType.int) ∈ lw_tbl := List.mem_of_getElem? (i := 1787) rfl
set_option maxRecDepth 100000 in
theorem mWc_174 : Cond.code yX11_goOn cX11_goOn 5 (some FieldType.int) ∈ lw_tbl := List.mem_of_getElem? (i := 1795) rfl
set_option maxRecDepth 100000 in
theorem mWc_175 : Cond.code yX11_group cX11_group 5 (some FieldType.int) ∈ lw_tbl := List.mem_of_getElem? (i := 1644) rfl
set_option maxRecDepth 100000 in
theorem mWc_176 : Cond.code yX11_groups cX11_groups 3 (some FieldType.int) ∈ lw_tbl := List.mem_of_getElem? (i := 1919) rfl
set_option maxRecDepth 100000 in
theorem mWc_177 : Cond.code yX11_headsOn cX11_headsOn 4 (some FieldType.int) ∈ lw_tbl := List.mem_of_getElem? (i := 1619) rfl
set_option maxRecDepth 100000 in
theorem mWc_178 : Cond.code yX11_heat cX11_heat 4 (some FieldType.int) ∈ lw_tbl := List.mem_of_getElem? (i := 1607) rfl
set_option maxRecDepth 100000 in
theorem mWc_179 : Cond.code yX11_here cX11_here 1 (some FieldType.int) ∈ lw_tbl := List.mem_of_getElem? (i := 1708) rfl
set_option maxRecDepth 100000 in
theorem mWc_180 : Cond.code yX11_holds cX11_holds 4 (some FieldType.int) ∈ lw_tbl := List.mem_of_getElem? (i := 1767) rfl
set_option maxRecDepth 100000 in
theorem mWc_181 : Cond.code yX11_holdsFor cX11_holdsFor 4 (some FieldType.boolean) ∈ lw_tbl := List.mem_of_getElem? (i := 1771) rfl
set_option maxRecDepth 100000 in
theorem mWc_182 : Cond.code yX11_hourNow cX11_hourNow 1 (some FieldType.int) ∈ lw_tbl := List.mem_of_getElem? (i := 1731) rfl
set_option maxRecDepth 100000 in
theorem mWc_183 : Cond.code yX11_image cX11_image 2 (some FieldType.int) ∈ lw_tbl := List.mem_of_getElem? (i := 1955) rfl
set_option maxRecDepth 100000 in
theorem mWc_184 : Cond.code yX11_in cX11_in 3 (some FieldType.boolean) ∈ lw_tbl := List.mem_of_getElem? (i := 1586) rfl
set_option maxRecDepth 100000 in
theorem mWc_185 : Cond.code yX11_isBody cX11_isBody 2 (some FieldType.boolean) ∈ lw_tbl := List.mem_of_getElem? (i := 1664) rfl
set_option maxRecDepth 100000 in
theorem mWc_186 : Cond.code yX11_isCell cX11_isCell 2 (some FieldType.boolean) ∈ lw_tbl := List.mem_of_getElem? (i := 1595) rfl
set_option maxRecDepth 100000 in
theorem mWc_187 : Cond.code yX11_isField cX11_isField 1 (some FieldType.boolean) ∈ lw_tbl := List.mem_of_getElem? (i := 1723) rfl
set_option maxRecDepth 100000 in
theorem mWc_188 : Cond.code yX11_isFound cX11_isFound 2 (some FieldType.boolean) ∈ lw_tbl := List.mem_of_getElem? (i := 1863) rfl
set_option maxRecDepth 100000 in
theorem mWc_189 : Cond.code yX11_isGroup cX11_isGroup 2 (some FieldType.boolean) ∈ lw_tbl := List.mem_of_getElem? (i := 1660) rfl
set_option maxRecDepth 100000 in
theorem mWc_190 : Cond.code yX11_isRound cX11_isRound 3 (some FieldType.boolean) ∈ lw_tbl := List.mem_of_getElem? (i := 1915) rfl
set_option maxRecDepth 100000 in
theorem mWc_191 : Cond.code yX11_isStray cX11_isStray 2 (some FieldType.boolean) ∈ lw_tbl := List.mem_of_getElem? (i := 1859) rfl
set_option maxRecDepth 100000 in
theorem mWc_192 : Cond.code yX11_isText cX11_isText 2 (some FieldType.boolean) ∈ lw_tbl := List.mem_of_getElem? (i := 1763) rfl
set_option maxRecDepth 100000 in
theorem mWc_193 : Cond.code yX11_isWay cX11_isWay 2 (some FieldType.boolean) ∈ lw_tbl := List.mem_of_getElem? (i := 1603) rfl
set_option maxRecDepth 100000 in
theorem mWc_194 : Cond.code yX11_join cX11_join 2 (none : Option FieldType) ∈ lw_tbl := List.mem_of_getElem? (i := 1751) rfl
set_option maxRecDepth 100000 in
theorem mWc_195 : Cond.code yX11_judge cX11_judge 6 (some FieldType.int) ∈ lw_tbl := List.mem_of_getElem? (i := 1939) rfl
set_option maxRecDepth 100000 in
theorem mWc_196 : Cond.code yX11_keep cX11_keep 4 (some FieldType.int) ∈ lw_tbl := List.mem_of_getElem? (i := 1967) rfl
set_option maxRecDepth 100000 in
theorem mWc_197 : Cond.code yX11_lacks cX11_lacks 3 (some FieldType.int) ∈ lw_tbl := List.mem_of_getElem? (i := 1696) rfl
set_option maxRecDepth 100000 in
theorem mWc_198 : Cond.code yX11_lateOf cX11_lateOf 3 (some FieldType.int) ∈ lw_tbl := List.mem_of_getElem? (i := 1735) rfl
set_option maxRecDepth 100000 in
theorem mWc_199 : Cond.code yX11_leads cX11_leads 4 (some FieldType.boolean) ∈ lw_tbl := List.mem_of_getElem? (i := 1640) rfl
set_option maxRecDepth 100000 in
theorem mWc_200 : Cond.code yX11_mostPress cX11_mostPress 3 (some FieldType.int) ∈ lw_tbl := List.mem_of_getElem? (i := 1835) rfl
set_option maxRecDepth 100000 in
theorem mWc_201 : Cond.code yX11_narrowed cX11_narrowed 2 (some FieldType.long) ∈ lw_tbl := List.mem_of_getElem? (i := 1986) rfl
set_option maxRecDepth 100000 in
theorem mWc_202 : Cond.code yX11_of cX11_of 3 (some FieldType.int) ∈ lw_tbl := List.mem_of_getElem? (i := 1623) rfl
set_option maxRecDepth 100000 in
theorem mWc_203 : Cond.code yX11_other cX11_other 3 (some FieldType.int) ∈ lw_tbl := List.mem_of_getElem? (i := 1636) rfl
set_option maxRecDepth 100000 in
theorem mWc_204 : Cond.code yX11_overSlot cX11_overSlot 7 (some FieldType.int) ∈ lw_tbl := List.mem_of_getElem? (i := 1931) rfl
set_option maxRecDepth 100000 in
theorem mWc_205 : Cond.code yX11_pass cX11_pass 2 (none : Option FieldType) ∈ lw_tbl := List.mem_of_getElem? (i := 1799) rfl
set_option maxRecDepth 100000 in
theorem mWc_206 : Cond.code yX11_post cX11_post 3 (some FieldType.int) ∈ lw_tbl := List.mem_of_getElem? (i := 1672) rfl
set_option maxRecDepth 100000 in
theorem mWc_207 : Cond.code yX11_press cX11_press 5 (none : Option FieldType) ∈ lw_tbl := List.mem_of_getElem? (i := 1803) rfl
set_option maxRecDepth 100000 in
theorem mWc_208 : Cond.code yX11_pushed cX11_pushed 4 (some FieldType.int) ∈ lw_tbl := List.mem_of_getElem? (i := 1847) rfl
set_option maxRecDepth 100000 in
theorem mWc_209 : Cond.code yX11_put cX11_put 5 (some FieldType.int) ∈ lw_tbl := List.mem_of_getElem? (i := 1979) rfl
set_option maxRecDepth 100000 in
theorem mWc_210 : Cond.code yX11_readAtom cX11_readAtom 4 (some FieldType.int) ∈ lw_tbl := List.mem_of_getElem? (i := 1720) rfl
set_option maxRecDepth 100000 in
theorem mWc_211 : Cond.code yX11_readSum cX11_readSum 4 (some FieldType.int) ∈ lw_tbl := List.mem_of_getElem? (i := 1716) rfl
set_option maxRecDepth 100000 in
theorem mWc_212 : Cond.code yX11_readTest cX11_readTest 4 (some FieldType.boolean) ∈ lw_tbl := List.mem_of_getElem? (i := 1712) rfl
set_option maxRecDepth 100000 in
theorem mWc_213 : Cond.code yX11_readText cX11_readText 3 (some FieldType.boolean) ∈ lw_tbl := List.mem_of_getElem? (i := 1704) rfl
set_option maxRecDepth 100000 in
theorem mWc_214 : Cond.code yX11_record cX11_record 3 (some FieldType.int) ∈ lw_tbl := List.mem_of_getElem? (i := 1843) rfl
set_option maxRecDepth 100000 in
theorem mWc_215 : Cond.code yX11_recordNow cX11_recordNow 3 (none : Option FieldType) ∈ lw_tbl := List.mem_of_getElem? (i := 1831) rfl
set_option maxRecDepth 100000 in
theorem mWc_216 : Cond.code yX11_restore cX11_restore 2 (some FieldType.int) ∈ lw_tbl := List.mem_of_getElem? (i := 1959) rfl
set_option maxRecDepth 100000 in
theorem mWc_217 : Cond.code yX11_rides cX11_rides 8 (some FieldType.int) ∈ lw_tbl := List.mem_of_getElem? (i := 1907) rfl
set_option maxRecDepth 100000 in
theorem mWc_218 : Cond.code yX11_rite cX11_rite 5 (none : Option FieldType) ∈ lw_tbl := List.mem_of_getElem? (i := 1823) rfl
set_option maxRecDepth 100000 in
theorem mWc_219 : Cond.code yX11_round cX11_round 4 (some FieldType.int) ∈ lw_tbl := List.mem_of_getElem? (i := 1911) rfl
set_option maxRecDepth 100000 in
theorem mWc_220 : Cond.code yX11_row cX11_row 5 (some FieldType.int) ∈ lw_tbl := List.mem_of_getElem? (i := 1975) rfl
set_option maxRecDepth 100000 in
theorem mWc_221 : Cond.code yX11_schools cX11_schools 5 (some FieldType.int) ∈ lw_tbl := List.mem_of_getElem? (i := 1783) rfl
set_option maxRecDepth 100000 in
theorem mWc_222 : Cond.code yX11_seatsOf cX11_seatsOf 2 (some FieldType.int) ∈ lw_tbl := List.mem_of_getElem? (i := 1688) rfl
set_option maxRecDepth 100000 in
theorem mWc_223 : Cond.code yX11_sign cX11_sign 4 (some FieldType.int) ∈ lw_tbl := List.mem_of_getElem? (i := 1599) rfl
set_option maxRecDepth 100000 in
theorem mWc_224 : Cond.code yX11_slot cX11_slot 4 (some FieldType.int) ∈ lw_tbl := List.mem_of_getElem? (i := 1935) rfl
set_option maxRecDepth 100000 in
theorem mWc_225 : Cond.code yX11_stands cX11_stands 4 (some FieldType.int) ∈ lw_tbl := List.mem_of_getElem? (i := 1775) rfl
set_option maxRecDepth 100000 in
theorem mWc_226 : Cond.code yX11_standsBy cX11_standsBy 5 (some FieldType.boolean) ∈ lw_tbl := List.mem_of_getElem? (i := 1779) rfl
set_option maxRecDepth 100000 in
theorem mWc_227 : Cond.code yX11_step cX11_step 8 (none : Option FieldType) ∈ lw_tbl := List.mem_of_getElem? (i := 1819) rfl
set_option maxRecDepth 100000 in
theorem mWc_228 : Cond.code yX11_stray cX11_stray 6 (some FieldType.int) ∈ lw_tbl := List.mem_of_getElem? (i := 1656) rfl
set_option maxRecDepth 100000 in
theorem mWc_229 : Cond.code yX11_sumOf cX11_sumOf 4 (some FieldType.int) ∈ lw_tbl := List.mem_of_getElem? (i := 1839) rfl
set_option maxRecDepth 100000 in
theorem mWc_230 : Cond.code yX11_sure cX11_sure 5 (some FieldType.int) ∈ lw_tbl := List.mem_of_getElem? (i := 1871) rfl
set_option maxRecDepth 100000 in
theorem mWc_231 : Cond.code yX11_tell cX11_tell 4 (none : Option FieldType) ∈ lw_tbl := List.mem_of_getElem? (i := 1652) rfl
set_option maxRecDepth 100000 in
theorem mWc_232 : Cond.code yX11_testEnds cX11_testEnds 1 (none : Option FieldType) ∈ lw_tbl := List.mem_of_getElem? (i := 1743) rfl
set_option maxRecDepth 100000 in
theorem mWc_233 : Cond.code yX11_text cX11_text 6 (some FieldType.int) ∈ lw_tbl := List.mem_of_getElem? (i := 1755) rfl
set_option maxRecDepth 100000 in
theorem mWc_234 : Cond.code yX11_thrown cX11_thrown 1 (some FieldType.int) ∈ lw_tbl := List.mem_of_getElem? (i := 1579) rfl
set_option maxRecDepth 100000 in
theorem mWc_235 : Cond.code yX11_topSign cX11_topSign 1 (some FieldType.int) ∈ lw_tbl := List.mem_of_getElem? (i := 1747) rfl
set_option maxRecDepth 100000 in
theorem mWc_236 : Cond.code yX11_toss cX11_toss 3 (some FieldType.int) ∈ lw_tbl := List.mem_of_getElem? (i := 2006) rfl
set_option maxRecDepth 100000 in
theorem mWc_237 : Cond.code yX11_touch cX11_touch 3 (some FieldType.boolean) ∈ lw_tbl := List.mem_of_getElem? (i := 1807) rfl
set_option maxRecDepth 100000 in
theorem mWc_238 : Cond.code yX11_unaim cX11_unaim 3 (some FieldType.int) ∈ lw_tbl := List.mem_of_getElem? (i := 1680) rfl
set_option maxRecDepth 100000 in
theorem mWc_239 : Cond.code yX11_walk cX11_walk 5 (none : Option FieldType) ∈ lw_tbl := List.mem_of_getElem? (i := 1815) rfl
set_option maxRecDepth 100000 in
theorem mWc_240 : Cond.code yX11_warm cX11_warm 7 (none : Option FieldType) ∈ lw_tbl := List.mem_of_getElem? (i := 1827) rfl
set_option maxRecDepth 100000 in
theorem mWc_241 : Cond.code yX11_was cX11_was 3 (some FieldType.int) ∈ lw_tbl := List.mem_of_getElem? (i := 1851) rfl
set_option maxRecDepth 100000 in
theorem mWc_242 : Cond.code yX11_water cX11_water 3 (some FieldType.int) ∈ lw_tbl := List.mem_of_getElem? (i := 1611) rfl
set_option maxRecDepth 100000 in
theorem mWc_243 : Cond.code yX11_wave cX11_wave 3 (some FieldType.int) ∈ lw_tbl := List.mem_of_getElem? (i := 1899) rfl
set_option maxRecDepth 100000 in
theorem mWc_244 : Cond.code yX11_way cX11_way 5 (some FieldType.int) ∈ lw_tbl := List.mem_of_getElem? (i := 1591) rfl
set_option maxRecDepth 100000 in
theorem mWc_245 : Cond.code yX11_weight cX11_weight 3 (some FieldType.int) ∈ lw_tbl := List.mem_of_getElem? (i := 1998) rfl
set_option maxRecDepth 100000 in
theorem mWc_246 : Cond.code yX11_weightOf cX11_weightOf 3 (some FieldType.int) ∈ lw_tbl := List.mem_of_getElem? (i := 1971) rfl
set_option maxRecDepth 100000 in
theorem mWc_247 : Cond.code yX11_whose cX11_whose 4 (some FieldType.int) ∈ lw_tbl := List.mem_of_getElem? (i := 1855) rfl
set_option maxRecDepth 100000 in
theorem mWc_248 : Cond.code yX11_worst cX11_worst 5 (some FieldType.int) ∈ lw_tbl := List.mem_of_getElem? (i := 1943) rfl
set_option maxRecDepth 100000 in
theorem mWc_249 : Cond.code yX11_worstOf cX11_worstOf 6 (some FieldType.int) ∈ lw_tbl := List.mem_of_getElem? (i := 1947) rfl
set_option maxRecDepth 100000 in
theorem mWc_250 : Cond.code yX11_wrong cX11_wrong 4 (some FieldType.int) ∈ lw_tbl := List.mem_of_getElem? (i := 1887) rfl
set_option maxRecDepth 100000 in
theorem mWc_251 : Cond.code yX11_wrongCounter cX11_wrongCounter 3 (some FieldType.int) ∈ lw_tbl := List.mem_of_getElem? (i := 1891) rfl
set_option maxRecDepth 100000 in
theorem mWc_252 : Cond.code yX11_wrongRow cX11_wrongRow 2 (some FieldType.int) ∈ lw_tbl := List.mem_of_getElem? (i := 1983) rfl
set_option maxRecDepth 100000 in
theorem mWc_253 : Cond.code yX11_wrongShelf cX11_wrongShelf 2 (some FieldType.int) ∈ lw_tbl := List.mem_of_getElem? (i := 2002) rfl
set_option maxRecDepth 100000 in
theorem mWc_254 : Cond.code yX11_wrongTime cX11_wrongTime 2 (some FieldType.int) ∈ lw_tbl := List.mem_of_getElem? (i := 1791) rfl
