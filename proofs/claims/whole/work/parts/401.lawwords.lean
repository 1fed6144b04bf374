theorem in_r {big : List Cond} (ws : List Cond) (ps : List Nat) (hp : ws = ps.filterMap (fun i => big[i]?)) : ∀ w ∈ ws, w ∈ big := by
  intro w hw
  rw [hp] at hw
  obtain ⟨i, -, hi⟩ := List.mem_filterMap.mp hw
  first | exact List.mem_of_getElem? hi | exact List.getElem?_mem hi
set_option maxRecDepth 20000 in
theorem in_wsL_law_0_r1 : ∀ w ∈ wsL_law_0_r1, w ∈ lw_tbl := in_r _ [122, 123, 98, 1325, 1326, 108, 1919, 124, 125, 126, 127, 128, 129, 130, 131, 99, 407, 174, 175, 100, 408, 409, 227, 228] rfl
set_option maxRecDepth 20000 in
theorem in_wsL_law_0_r2 : ∀ w ∈ wsL_law_0_r2, w ∈ lw_tbl := in_r _ [101, 410, 251, 252, 102, 411, 275, 276, 103, 412, 301, 302, 104, 413, 323, 324, 105, 414, 339, 340, 106, 415, 416, 369] rfl
set_option maxRecDepth 20000 in
theorem in_wsL_law_0_r3 : ∀ w ∈ wsL_law_0_r3, w ∈ lw_tbl := in_r _ [370, 107, 417, 418, 133, 134, 135, 173, 136, 154, 177, 178, 179, 226, 180, 181, 182, 183, 184, 194, 230, 231, 232, 233] rfl
set_option maxRecDepth 20000 in
theorem in_wsL_law_0_r4 : ∀ w ∈ wsL_law_0_r4, w ∈ lw_tbl := in_r _ [254, 255, 256, 257, 258, 259, 278, 279, 280, 281, 304, 305, 306, 307, 322, 308, 326, 327, 328, 329, 331, 341, 342, 343] rfl
set_option maxRecDepth 20000 in
theorem in_wsL_law_0_r5 : ∀ w ∈ wsL_law_0_r5, w ∈ lw_tbl := in_r _ [344, 353, 354, 355, 356, 345, 346, 347, 348, 357, 349, 351, 0, 352, 372, 373, 374, 375, 376, 377, 378, 379, 1327, 1328] rfl
set_option maxRecDepth 20000 in
theorem in_wsL_law_0_r6 : ∀ w ∈ wsL_law_0_r6, w ∈ lw_tbl := in_r _ [1329, 1330, 1347, 1353, 1354, 1355, 1356, 1357, 1358, 1331, 1359, 1360, 1363, 1364, 1365, 1366, 1367, 1368, 1369, 1371, 1372, 1373, 1374, 1375] rfl
set_option maxRecDepth 20000 in
theorem in_wsL_law_0_r7 : ∀ w ∈ wsL_law_0_r7, w ∈ lw_tbl := in_r _ [1385, 1387, 1388, 1333, 1335, 40, 1336, 1337, 1339, 41, 1340, 1361, 1376, 1377, 1378, 1379, 1341, 1342, 1343, 453, 454, 455, 456, 137] rfl
set_option maxRecDepth 20000 in
theorem in_wsL_law_0_r8 : ∀ w ∈ wsL_law_0_r8, w ∈ lw_tbl := in_r _ [457, 458, 459, 460, 138, 1487, 1488, 1489, 1490, 1344, 1345, 554, 555, 97, 556, 557, 558, 559, 560, 561, 153, 381, 419, 189] rfl
set_option maxRecDepth 20000 in
theorem in_wsL_law_0_r9 : ∀ w ∈ wsL_law_0_r9, w ∈ lw_tbl := in_r _ [562, 564, 5, 565, 566, 112, 421, 632, 633, 634, 635, 139, 140, 142, 152, 636, 637, 638, 639, 640, 641, 642, 643, 186] rfl
set_option maxRecDepth 20000 in
theorem in_wsL_law_0_r10 : ∀ w ∈ wsL_law_0_r10, w ∈ lw_tbl := in_r _ [191, 196, 198, 201, 644, 645, 113, 646, 647, 648, 649, 650, 651, 652, 653, 654, 655, 657, 7, 658, 146, 659, 660, 661] rfl
set_option maxRecDepth 20000 in
theorem in_wsL_law_0_r11 : ∀ w ∈ wsL_law_0_r11, w ∈ lw_tbl := in_r _ [662, 663, 665, 8, 666, 667, 668, 669, 670, 671, 672, 673, 675, 676, 677, 678, 679, 680, 681, 114, 682, 1936, 683, 684] rfl
set_option maxRecDepth 20000 in
theorem in_wsL_law_0_r12 : ∀ w ∈ wsL_law_0_r12, w ∈ lw_tbl := in_r _ [685, 686, 687, 1937, 689, 690, 691, 692, 693, 694, 695, 696, 697, 698, 115, 699, 700, 701, 702, 703, 705, 706, 116, 707] rfl
set_option maxRecDepth 20000 in
theorem in_wsL_law_0_r13 : ∀ w ∈ wsL_law_0_r13, w ∈ lw_tbl := in_r _ [708, 709, 117, 710, 711, 712, 713, 714, 715, 716, 717, 718, 719, 720, 721, 723, 725, 727, 728, 730, 9, 731, 150, 732] rfl
set_option maxRecDepth 20000 in
theorem in_wsL_law_0_r14 : ∀ w ∈ wsL_law_0_r14, w ∈ lw_tbl := in_r _ [733, 734, 735, 149, 739, 740, 511, 118, 512, 736, 737, 738, 742, 744, 10, 745, 746, 747, 748, 749, 750, 751, 753, 11] rfl
set_option maxRecDepth 20000 in
theorem in_wsL_law_0_r15 : ∀ w ∈ wsL_law_0_r15, w ∈ lw_tbl := in_r _ [754, 756, 758, 12, 759, 760, 761, 762, 763, 764, 765, 766, 767, 477, 479, 478, 119, 768, 769, 770, 771, 772, 260, 262] rfl
set_option maxRecDepth 20000 in
theorem in_wsL_law_0_r16 : ∀ w ∈ wsL_law_0_r16, w ∈ lw_tbl := in_r _ [1491, 1492, 1493, 1494, 1349, 1348, 1346, 1495, 1496, 1497, 1498, 1500, 42, 1501, 1502, 1504, 43, 1505, 1350, 1351, 1352, 1506, 1508, 44] rfl
set_option maxRecDepth 20000 in
theorem in_wsL_law_0_r17 : ∀ w ∈ wsL_law_0_r17, w ∈ lw_tbl := in_r _ [1509, 1510, 1512, 45, 1513, 1514, 1516, 46, 1517, 1518, 1520, 47, 1521, 1522, 1524, 48, 1525, 1526, 1528, 49, 1529, 1530, 1531, 1532] rfl
set_option maxRecDepth 20000 in
theorem in_wsL_law_0_r18 : ∀ w ∈ wsL_law_0_r18, w ∈ lw_tbl := in_r _ [1533, 1534, 1535, 1536, 1538, 50, 1539, 1540, 1541, 1542, 1543, 1545, 51, 1546, 1547, 1549, 52, 1550, 1554, 1551, 1552, 1553, 1555, 1557] rfl
set_option maxRecDepth 20000 in
theorem in_wsL_law_0_r19 : ∀ w ∈ wsL_law_0_r19, w ∈ lw_tbl := in_r _ [53, 1558, 1559, 1561, 54, 1562, 1563, 1565, 55, 1566, 1483, 1484, 1485, 1486, 773, 774, 775, 776, 777, 778, 779, 780, 781, 782] rfl
set_option maxRecDepth 20000 in
theorem in_wsL_law_0_r20 : ∀ w ∈ wsL_law_0_r20, w ∈ lw_tbl := in_r _ [783, 145, 784, 786, 13, 787, 141, 788, 790, 14, 796, 825, 826, 827, 800, 801, 802, 810, 791, 792, 794, 15, 822, 823] rfl
set_option maxRecDepth 20000 in
theorem in_wsL_law_0_r21 : ∀ w ∈ wsL_law_0_r21, w ∈ lw_tbl := in_r _ [824, 795, 151, 797, 799, 16, 803, 804, 806, 807, 809, 17, 812, 813, 814, 828, 1567, 1568, 1569, 1570, 1362, 1571, 1573, 56] rfl
set_option maxRecDepth 20000 in
theorem in_wsL_law_0_r22 : ∀ w ∈ wsL_law_0_r22, w ∈ lw_tbl := in_r _ [1574, 1575, 1577, 57, 1603, 1605, 64, 1606, 1587, 1589, 60, 1590, 1582, 1583, 1585, 59, 1586, 1591, 1593, 61, 1594, 1595, 1597, 62] rfl
set_option maxRecDepth 20000 in
theorem in_wsL_law_0_r23 : ∀ w ∈ wsL_law_0_r23, w ∈ lw_tbl := in_r _ [1598, 1599, 1601, 63, 1602, 1578, 1579, 1581, 58, 829, 830, 831, 832, 833, 834, 835, 261, 238, 236, 836, 837, 838, 839, 234] rfl
set_option maxRecDepth 20000 in
theorem in_wsL_law_0_r24 : ∀ w ∈ wsL_law_0_r24, w ∈ lw_tbl := in_r _ [840, 842, 18, 843, 844, 845, 846, 848, 19, 885, 884, 865, 867, 23, 868, 148, 869, 857, 859, 21, 860, 849, 144, 850] rfl
set_option maxRecDepth 20000 in
theorem in_wsL_law_0_r25 : ∀ w ∈ wsL_law_0_r25, w ∈ lw_tbl := in_r _ [852, 853, 855, 20, 856, 861, 863, 22, 864, 870, 872, 24, 873, 874, 880, 881, 883, 25, 886, 887, 888, 889, 534, 535] rfl
set_option maxRecDepth 20000 in
theorem in_wsL_law_0_r26 : ∀ w ∈ wsL_law_0_r26, w ∈ lw_tbl := in_r _ [536, 537, 890, 891, 892, 893, 235, 237, 239, 894, 896, 26, 897, 898, 900, 27, 901, 200, 902, 903, 904, 905, 906, 907] rfl
set_option maxRecDepth 20000 in
theorem in_wsL_law_0_r27 : ∀ w ∈ wsL_law_0_r27, w ∈ lw_tbl := in_r _ [908, 909, 910, 911, 912, 913, 914, 915, 916, 917, 918, 919, 920, 921, 923, 28, 924, 925, 497, 498, 499, 926, 927, 928] rfl
set_option maxRecDepth 20000 in
theorem in_wsL_law_0_r28 : ∀ w ∈ wsL_law_0_r28, w ∈ lw_tbl := in_r _ [929, 930, 931, 932, 933, 934, 935, 936, 937, 938, 939, 940, 941, 942, 963, 964, 965, 943, 944, 945, 946, 947, 948, 949] rfl
set_option maxRecDepth 20000 in
theorem in_wsL_law_0_r29 : ∀ w ∈ wsL_law_0_r29, w ∈ lw_tbl := in_r _ [950, 951, 505, 120, 506, 507, 508, 509, 952, 953, 954, 955, 956, 957, 958, 959, 960, 961, 962, 1615, 1616, 1617, 1618, 1370] rfl
set_option maxRecDepth 20000 in
theorem in_wsL_law_0_r30 : ∀ w ∈ wsL_law_0_r30, w ∈ lw_tbl := in_r _ [1381, 1382, 1619, 1621, 65, 1622, 1623, 1625, 66, 1626, 1627, 1628, 1629, 1630, 1632, 67, 1633, 1634, 1636, 68, 1637, 1638, 1640, 69] rfl
set_option maxRecDepth 20000 in
theorem in_wsL_law_0_r31 : ∀ w ∈ wsL_law_0_r31, w ∈ lw_tbl := in_r _ [1641, 1642, 1644, 70, 1645, 1646, 1647, 1648, 1649, 1650, 1651, 1652, 1653, 1654, 1655, 1656, 1657, 1658, 1659, 1660, 1661, 1662, 1663, 1664] rfl
set_option maxRecDepth 20000 in
theorem in_wsL_law_0_r32 : ∀ w ∈ wsL_law_0_r32, w ∈ lw_tbl := in_r _ [1666, 71, 1667, 1668, 1670, 72, 1671, 1672, 1673, 1674, 1675, 1676, 1677, 1678, 1680, 73, 1681, 1682, 1684, 74, 1685, 1686, 1687, 1688] rfl
set_option maxRecDepth 20000 in
theorem in_wsL_law_0_r33 : ∀ w ∈ wsL_law_0_r33, w ∈ lw_tbl := in_r _ [1689, 1690, 1691, 966, 967, 968, 969, 970, 971, 972, 973, 974, 975, 976, 380, 977, 978, 980, 29, 981, 143, 147, 982, 983] rfl
set_option maxRecDepth 20000 in
theorem in_wsL_law_0_r34 : ∀ w ∈ wsL_law_0_r34, w ∈ lw_tbl := in_r _ [984, 985, 1607, 1608, 1609, 1610, 461, 462, 463, 464, 155, 1611, 1612, 1613, 1614, 465, 466, 467, 468, 469, 470, 471, 472, 473] rfl
set_option maxRecDepth 20000 in
theorem in_wsL_law_0_r35 : ∀ w ∈ wsL_law_0_r35, w ∈ lw_tbl := in_r _ [474, 475, 476, 1692, 1693, 1694, 1695, 986, 987, 988, 989, 990, 991, 992, 193, 199, 195, 197, 202, 993, 994, 995, 996, 997] rfl
set_option maxRecDepth 20000 in
theorem in_wsL_law_0_r36 : ∀ w ∈ wsL_law_0_r36, w ∈ lw_tbl := in_r _ [998, 999, 1000, 1001, 1002, 1003, 1004, 1696, 1697, 1698, 1699, 1700, 1702, 75, 1703, 1704, 1705, 1706, 1707, 1709, 76, 1710, 1005, 1006] rfl
set_option maxRecDepth 20000 in
theorem in_wsL_law_0_r37 : ∀ w ∈ wsL_law_0_r37, w ∈ lw_tbl := in_r _ [1007, 1008, 1009, 1010, 1011, 1012, 1013, 1015, 30, 1016, 1017, 1018, 1020, 31, 1021, 1022, 121, 420, 1038, 1039, 1040, 1041, 1042, 1043] rfl
set_option maxRecDepth 20000 in
theorem in_wsL_law_0_r38 : ∀ w ∈ wsL_law_0_r38, w ∈ lw_tbl := in_r _ [1044, 1045, 1711, 1712, 1713, 1714, 1715, 1717, 77, 1718, 1046, 1047, 1048, 1049, 1050, 1051, 1052, 1053, 1719, 1720, 1721, 1722, 1054, 1055] rfl
set_option maxRecDepth 20000 in
theorem in_wsL_law_0_r39 : ∀ w ∈ wsL_law_0_r39, w ∈ lw_tbl := in_r _ [1056, 1057, 1058, 1059, 1060, 1061, 1723, 1724, 1725, 1726, 1062, 1063, 1064, 1065, 1066, 1067, 1068, 1069, 1727, 1728, 1729, 1730, 1070, 1071] rfl
set_option maxRecDepth 20000 in
theorem in_wsL_law_0_r40 : ∀ w ∈ wsL_law_0_r40, w ∈ lw_tbl := in_r _ [1072, 1073, 1074, 1075, 1076, 1077, 1078, 1079, 1080, 1081, 1731, 1732, 1733, 1734, 1735, 1737, 78, 1738, 1082, 1083, 1084, 1085, 1086, 1087] rfl
set_option maxRecDepth 20000 in
theorem in_wsL_law_0_r41 : ∀ w ∈ wsL_law_0_r41, w ∈ lw_tbl := in_r _ [1088, 1089, 1090, 1091, 1092, 1093, 1094, 1095, 285, 488, 490, 1, 491, 282, 283, 286, 287, 492, 494, 2, 495, 192, 496, 500] rfl
set_option maxRecDepth 20000 in
theorem in_wsL_law_0_r42 : ∀ w ∈ wsL_law_0_r42, w ∈ lw_tbl := in_r _ [502, 3, 503, 510, 504, 1096, 1097, 1098, 1099, 1101, 1102, 1739, 1740, 1741, 1742, 1383, 1384, 1743, 1745, 79, 1746, 1747, 1749, 80] rfl
set_option maxRecDepth 20000 in
theorem in_wsL_law_0_r43 : ∀ w ∈ wsL_law_0_r43, w ∈ lw_tbl := in_r _ [1750, 1751, 1753, 81, 1754, 1755, 1756, 1757, 1758, 1759, 1760, 1103, 1104, 1105, 1106, 1107, 1108, 1109, 484, 485, 486, 487, 188, 1761] rfl
set_option maxRecDepth 20000 in
theorem in_wsL_law_0_r44 : ∀ w ∈ wsL_law_0_r44, w ∈ lw_tbl := in_r _ [1762, 1763, 1764, 1765, 1767, 82, 1768, 1386, 1769, 1771, 83, 1772, 480, 481, 482, 483, 284, 1773, 1774, 1775, 1776, 513, 514, 515] rfl
set_option maxRecDepth 20000 in
theorem in_wsL_law_0_r45 : ∀ w ∈ wsL_law_0_r45, w ∈ lw_tbl := in_r _ [516, 517, 518, 519, 520, 521, 523, 4, 524, 1777, 1778, 1779, 1780, 1781, 1783, 84, 1784, 1110, 1111, 1112, 1113, 1114, 1115, 1116] rfl
set_option maxRecDepth 20000 in
theorem in_wsL_law_0_r46 : ∀ w ∈ wsL_law_0_r46, w ∈ lw_tbl := in_r _ [1117, 1119, 32, 1120, 1121, 1122, 1123, 1124, 1125, 1127, 33, 1128, 185, 1129, 1130, 1132, 34, 1133, 1134, 1135, 1136, 1137, 1138, 1139] rfl
set_option maxRecDepth 20000 in
theorem in_wsL_law_0_r47 : ∀ w ∈ wsL_law_0_r47, w ∈ lw_tbl := in_r _ [1140, 1141, 1789, 1790, 1791, 1792, 1793, 1795, 85, 1796, 1797, 1799, 86, 1800, 1801, 1803, 87, 1804, 1805, 1807, 88, 1808, 1142, 1143] rfl
set_option maxRecDepth 20000 in
theorem in_wsL_law_0_r48 : ∀ w ∈ wsL_law_0_r48, w ∈ lw_tbl := in_r _ [1144, 1145, 1146, 1147, 1148, 1149, 1150, 1151, 1152, 1153, 1154, 1156, 35, 1157, 1809, 1810, 1811, 1812, 1158, 1159, 1160, 1161, 1162, 1163] rfl
set_option maxRecDepth 20000 in
theorem in_wsL_law_0_r49 : ∀ w ∈ wsL_law_0_r49, w ∈ lw_tbl := in_r _ [1164, 310, 312, 1165, 1166, 1167, 1168, 309, 311, 1169, 1170, 1171, 1813, 1814, 1815, 1816, 1817, 1819, 89, 1820, 1172, 1173, 1174, 1175] rfl
set_option maxRecDepth 20000 in
theorem in_wsL_law_0_r50 : ∀ w ∈ wsL_law_0_r50, w ∈ lw_tbl := in_r _ [1176, 1177, 1178, 383, 1179, 1180, 1181, 1182, 382, 1183, 1185, 36, 1186, 1187, 1188, 1189, 1190, 1191, 1192, 1193, 1194, 1195, 1821, 1822] rfl
set_option maxRecDepth 20000 in
theorem in_wsL_law_0_r51 : ∀ w ∈ wsL_law_0_r51, w ∈ lw_tbl := in_r _ [1823, 1824, 1825, 1827, 90, 1828, 1196, 1197, 1198, 1199, 1200, 1201, 1202, 385, 387, 1203, 1204, 1205, 1206, 384, 386, 190, 1207, 1208] rfl
set_option maxRecDepth 20000 in
theorem in_wsL_law_0_r52 : ∀ w ∈ wsL_law_0_r52, w ∈ lw_tbl := in_r _ [1210, 37, 1211, 1213, 1212, 1829, 1830, 1831, 1832, 1833, 1835, 91, 1836, 1214, 1215, 1216, 1217, 1218, 1219, 1220, 1837, 1838, 1839, 1840] rfl
set_option maxRecDepth 20000 in
theorem in_wsL_law_0_r53 : ∀ w ∈ wsL_law_0_r53, w ∈ lw_tbl := in_r _ [1221, 1222, 1223, 1224, 1225, 1226, 1227, 1228, 1229, 1230, 1231, 1232, 1233, 1841, 1842, 1843, 1844, 1845, 1846, 1847, 1848, 1849, 1850, 1234] rfl
set_option maxRecDepth 20000 in
theorem in_wsL_law_0_r54 : ∀ w ∈ wsL_law_0_r54, w ∈ lw_tbl := in_r _ [1235, 1236, 1237, 1238, 1239, 1240, 1241, 1242, 1851, 1852, 1853, 1854, 1243, 1244, 1245, 1246, 1247, 1248, 1249, 1258, 1250, 1251, 1252, 1253] rfl
set_option maxRecDepth 20000 in
theorem in_wsL_law_0_r55 : ∀ w ∈ wsL_law_0_r55, w ∈ lw_tbl := in_r _ [1254, 1255, 1256, 1257, 1855, 1856, 1857, 1858, 1859, 1861, 92, 1862, 1259, 1260, 1261, 1262, 1263, 1264, 1265, 1863, 1864, 1865, 1866, 1266] rfl
set_option maxRecDepth 20000 in
theorem in_wsL_law_0_r56 : ∀ w ∈ wsL_law_0_r56, w ∈ lw_tbl := in_r _ [1267, 1268, 1269, 1270, 1271, 1272, 1273, 1274, 1275, 1276, 1785, 1786, 1787, 1788, 1277, 1278, 1279, 1280, 1281, 1282, 1283, 1867, 1868, 1869] rfl
set_option maxRecDepth 20000 in
theorem in_wsL_law_0_r57 : ∀ w ∈ wsL_law_0_r57, w ∈ lw_tbl := in_r _ [1870, 1284, 1285, 1286, 1287, 1288, 1289, 1290, 1871, 1872, 1873, 1874, 1291, 1292, 1293, 1294, 1295, 1296, 1297, 332, 1298, 1299, 1300, 1301] rfl
set_option maxRecDepth 20000 in
theorem in_wsL_law_0_r58 : ∀ w ∈ wsL_law_0_r58, w ∈ lw_tbl := in_r _ [1302, 1303, 1304, 333, 187, 1305, 1306, 1308, 38, 1309, 1310, 1312, 39, 1313, 1314, 1315, 1316, 1317, 1875, 1876, 1877, 1878, 1879, 1880] rfl
set_option maxRecDepth 20000 in
theorem in_wsL_law_0_r59 : ∀ w ∈ wsL_law_0_r59, w ∈ lw_tbl := in_r _ [1881, 1882, 1884, 93, 1885, 1389, 1886, 1888, 94, 1889, 1890, 1318, 1319, 1320, 1321, 1322, 1323, 1324, 1891, 1892, 1893, 1894, 525, 526] rfl
set_option maxRecDepth 20000 in
theorem in_wsL_law_0_r60 : ∀ w ∈ wsL_law_0_r60, w ∈ lw_tbl := in_r _ [527, 528, 263, 529, 530, 531, 532, 533, 1895, 1896, 1897, 1898, 1899, 1901, 95, 1902, 1380, 1903, 1905, 96, 1906, 538, 539, 540] rfl
set_option maxRecDepth 20000 in
theorem in_wsL_law_0_r61 : ∀ w ∈ wsL_law_0_r61, w ∈ lw_tbl := in_r _ [541, 542, 543, 544, 545, 1907, 1908, 1909, 1910, 546, 547, 548, 549, 1911, 1912, 1913, 1914, 550, 551, 552, 553, 1915, 1916, 1917] rfl
set_option maxRecDepth 20000 in
theorem in_wsL_law_0_r62 : ∀ w ∈ wsL_law_0_r62, w ∈ lw_tbl := in_r _ [1918] rfl
set_option maxRecDepth 20000 in
theorem in_wsX90 : ∀ w ∈ wsX90, w ∈ lw_tbl := in_r _ [422, 424, 426, 428, 430, 432, 434, 436, 438, 440, 442, 444, 446, 448, 450] rfl
set_option maxRecDepth 20000 in
theorem in_wsX100 : ∀ w ∈ wsX100, w ∈ lw_tbl := in_r _ [1390, 1392, 1394, 1396, 1398, 1400, 1402, 1404, 1406, 1408, 1410, 1412, 1414, 1416, 1418, 1420, 1422, 1424, 1426, 1428, 1430, 1432, 1434, 1436, 1438, 1440, 1442, 1444, 1446, 1448, 1450, 1452, 1454, 1456, 1458, 1460, 1462, 1464, 1466, 1468, 1470, 1472, 1474, 1476, 1478, 1480] rfl
set_option maxRecDepth 20000 in
theorem in_wsX70 : ∀ w ∈ wsX70, w ∈ lw_tbl := in_r _ [156, 158, 160, 162, 164, 166, 168, 170] rfl
set_option maxRecDepth 20000 in
theorem in_wsX60 : ∀ w ∈ wsX60, w ∈ lw_tbl := in_r _ [203, 205, 207, 209, 211, 213, 215, 217, 219, 221, 223] rfl
set_option maxRecDepth 20000 in
theorem in_wsX80 : ∀ w ∈ wsX80, w ∈ lw_tbl := in_r _ [240, 242, 244, 246, 248] rfl
set_option maxRecDepth 20000 in
theorem in_wsX50 : ∀ w ∈ wsX50, w ∈ lw_tbl := in_r _ [264, 266, 268, 270, 272] rfl
set_option maxRecDepth 20000 in
theorem in_wsX10 : ∀ w ∈ wsX10, w ∈ lw_tbl := in_r _ [288, 290, 292, 294, 296, 298] rfl
set_option maxRecDepth 20000 in
theorem in_wsX40 : ∀ w ∈ wsX40, w ∈ lw_tbl := in_r _ [313, 315, 317, 319] rfl
set_option maxRecDepth 20000 in
theorem in_wsX20 : ∀ w ∈ wsX20, w ∈ lw_tbl := in_r _ [334, 336] rfl
set_option maxRecDepth 20000 in
theorem in_wsX30 : ∀ w ∈ wsX30, w ∈ lw_tbl := in_r _ [358, 360, 362, 364, 366] rfl
set_option maxRecDepth 20000 in
theorem in_wsX00 : ∀ w ∈ wsX00, w ∈ lw_tbl := in_r _ [388, 390, 392, 394, 396, 398, 400, 402, 404] rfl
theorem wsL_law__in0 : ∀ w ∈ wsL_law_0, w ∈ lw_tbl := (List.forall_mem_append.mpr ⟨(List.forall_mem_append.mpr ⟨(List.forall_mem_append.mpr ⟨(List.forall_mem_append.mpr ⟨(List.forall_mem_append.mpr ⟨(List.forall_mem_append.mpr ⟨(List.forall_mem_append.mpr ⟨(List.forall_mem_append.mpr ⟨(List.forall_mem_append.mpr ⟨(List.forall_mem_append.mpr ⟨(List.forall_mem_append.mpr ⟨(List.forall_mem_append.mpr ⟨(List.forall_mem_append.mpr ⟨in_wsL_law_0_r1, (List.forall_mem_append.mpr ⟨in_wsL_law_0_r2, (List.forall_mem_append.mpr ⟨in_wsL_law_0_r3, (List.forall_mem_append.mpr ⟨in_wsL_law_0_r4, (List.forall_mem_append.mpr ⟨in_wsL_law_0_r5, (List.forall_mem_append.mpr ⟨in_wsL_law_0_r6, (List.forall_mem_append.mpr ⟨in_wsL_law_0_r7, (List.forall_mem_append.mpr ⟨in_wsL_law_0_r8, (List.forall_mem_append.mpr ⟨in_wsL_law_0_r9, (List.forall_mem_append.mpr ⟨in_wsL_law_0_r10, (List.forall_mem_append.mpr ⟨in_wsL_law_0_r11, (List.forall_mem_append.mpr ⟨in_wsL_law_0_r12, (List.forall_mem_append.mpr ⟨in_wsL_law_0_r13, (List.forall_mem_append.mpr ⟨in_wsL_law_0_r14, (List.forall_mem_append.mpr ⟨in_wsL_law_0_r15, (List.forall_mem_append.mpr ⟨in_wsL_law_0_r16, (List.forall_mem_append.mpr ⟨in_wsL_law_0_r17, (List.forall_mem_append.mpr ⟨in_wsL_law_0_r18, (List.forall_mem_append.mpr ⟨in_wsL_law_0_r19, (List.forall_mem_append.mpr ⟨in_wsL_law_0_r20, (List.forall_mem_append.mpr ⟨in_wsL_law_0_r21, (List.forall_mem_append.mpr ⟨in_wsL_law_0_r22, (List.forall_mem_append.mpr ⟨in_wsL_law_0_r23, (List.forall_mem_append.mpr ⟨in_wsL_law_0_r24, (List.forall_mem_append.mpr ⟨in_wsL_law_0_r25, (List.forall_mem_append.mpr ⟨in_wsL_law_0_r26, (List.forall_mem_append.mpr ⟨in_wsL_law_0_r27, (List.forall_mem_append.mpr ⟨in_wsL_law_0_r28, (List.forall_mem_append.mpr ⟨in_wsL_law_0_r29, (List.forall_mem_append.mpr ⟨in_wsL_law_0_r30, (List.forall_mem_append.mpr ⟨in_wsL_law_0_r31, (List.forall_mem_append.mpr ⟨in_wsL_law_0_r32, (List.forall_mem_append.mpr ⟨in_wsL_law_0_r33, (List.forall_mem_append.mpr ⟨in_wsL_law_0_r34, (List.forall_mem_append.mpr ⟨in_wsL_law_0_r35, (List.forall_mem_append.mpr ⟨in_wsL_law_0_r36, (List.forall_mem_append.mpr ⟨in_wsL_law_0_r37, (List.forall_mem_append.mpr ⟨in_wsL_law_0_r38, (List.forall_mem_append.mpr ⟨in_wsL_law_0_r39, (List.forall_mem_append.mpr ⟨in_wsL_law_0_r40, (List.forall_mem_append.mpr ⟨in_wsL_law_0_r41, (List.forall_mem_append.mpr ⟨in_wsL_law_0_r42, (List.forall_mem_append.mpr ⟨in_wsL_law_0_r43, (List.forall_mem_append.mpr ⟨in_wsL_law_0_r44, (List.forall_mem_append.mpr ⟨in_wsL_law_0_r45, (List.forall_mem_append.mpr ⟨in_wsL_law_0_r46, (List.forall_mem_append.mpr ⟨in_wsL_law_0_r47, (List.forall_mem_append.mpr ⟨in_wsL_law_0_r48, (List.forall_mem_append.mpr ⟨in_wsL_law_0_r49, (List.forall_mem_append.mpr ⟨in_wsL_law_0_r50, (List.forall_mem_append.mpr ⟨in_wsL_law_0_r51, (List.forall_mem_append.mpr ⟨in_wsL_law_0_r52, (List.forall_mem_append.mpr ⟨in_wsL_law_0_r53, (List.forall_mem_append.mpr ⟨in_wsL_law_0_r54, (List.forall_mem_append.mpr ⟨in_wsL_law_0_r55, (List.forall_mem_append.mpr ⟨in_wsL_law_0_r56, (List.forall_mem_append.mpr ⟨in_wsL_law_0_r57, (List.forall_mem_append.mpr ⟨in_wsL_law_0_r58, (List.forall_mem_append.mpr ⟨in_wsL_law_0_r59, (List.forall_mem_append.mpr ⟨in_wsL_law_0_r60, (List.forall_mem_append.mpr ⟨in_wsL_law_0_r61, in_wsL_law_0_r62⟩)⟩)⟩)⟩)⟩)⟩)⟩)⟩)⟩)⟩)⟩)⟩)⟩)⟩)⟩)⟩)⟩)⟩)⟩)⟩)⟩)⟩)⟩)⟩)⟩)⟩)⟩)⟩)⟩)⟩)⟩)⟩)⟩)⟩)⟩)⟩)⟩)⟩)⟩)⟩)⟩)⟩)⟩)⟩)⟩)⟩)⟩)⟩)⟩)⟩)⟩)⟩)⟩)⟩)⟩)⟩)⟩)⟩)⟩)⟩)⟩), in_wsX90⟩), in_wsX100⟩), in_wsX70⟩), in_wsX60⟩), in_wsX80⟩), in_wsX50⟩), in_wsX10⟩), in_wsX40⟩), in_wsX20⟩), in_wsX30⟩), in_wsX00⟩), fun _ h => nomatch h⟩)
theorem wsL_law__x0 : ∀ w ∈ (vx_atS RX9 340 "java/lang/IllegalArgumentException" ["java/lang/RuntimeException", "java/lang/Exception"]).filter goodWord, w ∈ lw_tbl := by decide +kernel
theorem wsL_law__x1 : ∀ w ∈ gnsW, w ∈ lw_tbl := by decide +kernel
theorem wsL_law__in : ∀ w ∈ wsL_law_, w ∈ lw_tbl := fun w h => (List.mem_append.mp h).elim (fun h => (List.mem_append.mp h).elim (fun h => wsL_law__in0 w h) (fun h => wsL_law__x0 w h)) (fun h => wsL_law__x1 w h)
theorem inlX0 : ∀ w ∈ wsX00, w ∈ wsL_law_ := fun _ h => List.mem_append_left _ (List.mem_append_left _ (List.mem_append_left _ (List.mem_append_right _ h)))
theorem inlX1 : ∀ w ∈ wsX10, w ∈ wsL_law_ := fun _ h => List.mem_append_left _ (List.mem_append_left _ (List.mem_append_left _ (List.mem_append_left _ (List.mem_append_left _ (List.mem_append_left _ (List.mem_append_left _ (List.mem_append_right _ h)))))))
theorem inlX2 : ∀ w ∈ wsX20, w ∈ wsL_law_ := fun _ h => List.mem_append_left _ (List.mem_append_left _ (List.mem_append_left _ (List.mem_append_left _ (List.mem_append_left _ (List.mem_append_right _ h)))))
theorem inlX3 : ∀ w ∈ wsX30, w ∈ wsL_law_ := fun _ h => List.mem_append_left _ (List.mem_append_left _ (List.mem_append_left _ (List.mem_append_left _ (List.mem_append_right _ h))))
theorem inlX4 : ∀ w ∈ wsX40, w ∈ wsL_law_ := fun _ h => List.mem_append_left _ (List.mem_append_left _ (List.mem_append_left _ (List.mem_append_left _ (List.mem_append_left _ (List.mem_append_left _ (List.mem_append_right _ h))))))
theorem inlX5 : ∀ w ∈ wsX50, w ∈ wsL_law_ := fun _ h => List.mem_append_left _ (List.mem_append_left _ (List.mem_append_left _ (List.mem_append_left _ (List.mem_append_left _ (List.mem_append_left _ (List.mem_append_left _ (List.mem_append_left _ (List.mem_append_right _ h))))))))
theorem inlX6 : ∀ w ∈ wsX60, w ∈ wsL_law_ := fun _ h => List.mem_append_left _ (List.mem_append_left _ (List.mem_append_left _ (List.mem_append_left _ (List.mem_append_left _ (List.mem_append_left _ (List.mem_append_left _ (List.mem_append_left _ (List.mem_append_left _ (List.mem_append_left _ (List.mem_append_right _ h))))))))))
theorem inlX7 : ∀ w ∈ wsX70, w ∈ wsL_law_ := fun _ h => List.mem_append_left _ (List.mem_append_left _ (List.mem_append_left _ (List.mem_append_left _ (List.mem_append_left _ (List.mem_append_left _ (List.mem_append_left _ (List.mem_append_left _ (List.mem_append_left _ (List.mem_append_left _ (List.mem_append_left _ (List.mem_append_right _ h)))))))))))
theorem inlX8 : ∀ w ∈ wsX80, w ∈ wsL_law_ := fun _ h => List.mem_append_left _ (List.mem_append_left _ (List.mem_append_left _ (List.mem_append_left _ (List.mem_append_left _ (List.mem_append_left _ (List.mem_append_left _ (List.mem_append_left _ (List.mem_append_left _ (List.mem_append_right _ h)))))))))
theorem inlX9 : ∀ w ∈ wsX90, w ∈ wsL_law_ := fun _ h => List.mem_append_left _ (List.mem_append_left _ (List.mem_append_left _ (List.mem_append_left _ (List.mem_append_left _ (List.mem_append_left _ (List.mem_append_left _ (List.mem_append_left _ (List.mem_append_left _ (List.mem_append_left _ (List.mem_append_left _ (List.mem_append_left _ (List.mem_append_left _ (List.mem_append_right _ h)))))))))))))
theorem inlX10 : ∀ w ∈ wsX100, w ∈ wsL_law_ := fun _ h => List.mem_append_left _ (List.mem_append_left _ (List.mem_append_left _ (List.mem_append_left _ (List.mem_append_left _ (List.mem_append_left _ (List.mem_append_left _ (List.mem_append_left _ (List.mem_append_left _ (List.mem_append_left _ (List.mem_append_left _ (List.mem_append_left _ (List.mem_append_right _ h))))))))))))

