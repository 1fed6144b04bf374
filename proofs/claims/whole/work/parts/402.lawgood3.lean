set_option maxRecDepth 20000 in
theorem ggL_law__L_above : GoodIn wsL_law_ wsL_above := goodIn_ca (goodIn_r _ [1321, 865, 1322, 1323, 1324, 2, 1325, 20, 191, 33, 870, 871, 872, 873, 874, 623, 624, 19, 625, 215, 875, 876, 877, 878, 879, 880, 881, 964, 965, 966, 32, 967, 968, 969, 970, 971, 972, 973, 974, 975, 976, 977, 978, 979, 980, 981, 982, 642, 643, 644, 216, 66, 983, 984, 985, 986, 81, 987, 318, 319, 320, 988, 674, 675, 676, 677, 678, 679, 1326, 1327, 1328, 1329, 1465, 1466, 1467, 1468, 1469, 1470, 1471, 1472, 1473, 1474, 1475, 1476, 1477, 1478, 1479, 1534, 1535, 1536, 1537, 1538, 1539, 1540, 1541, 1542, 1543, 1544, 1555, 1556, 1557, 1558, 1559, 1560] rfl (by decide +kernel)) (goodIn_sub (fun _ h => List.mem_append_right _ h) (by decide +kernel))
set_option maxRecDepth 20000 in
theorem gL_law__L_above : GoodIn wsL_law_ (va_wsS RL 204 yL_above wsL_above) := goodIn_app (goodIn_of _ (by decide +kernel)) ggL_law__L_above
set_option maxRecDepth 20000 in
theorem ggL_law__X10_above : GoodIn wsL_law_ wsX10_above := goodIn_r _ [1333, 177, 126, 999, 1000, 894, 895, 896, 5, 897, 367, 368, 369, 370, 371, 372, 373, 124, 1001, 1002, 1003, 1004, 1005, 1006, 1007, 1008, 139, 1009, 1010, 1011, 1012, 1013, 1014, 1015, 1480, 1481, 1482, 1483, 1484, 1485, 1486, 1487, 1488, 1489, 1490, 1491, 1492, 1493, 1494, 1495, 1496, 1497, 1498, 1499, 1500, 1501, 1502, 1503, 1504, 1505, 1506, 1507, 1508, 1509, 1510, 1511, 1512, 1513, 1514, 1515, 1516, 1517, 1518, 1519, 1520, 1521, 1522, 1523, 1524, 1525] rfl (by decide +kernel)
set_option maxRecDepth 20000 in
theorem gL_law__X10_above : GoodIn wsL_law_ (wsV RL 206 RX10 yX10_above wsX10_above) := goodIn_app (goodIn_of _ (by decide +kernel)) ggL_law__X10_above
set_option maxRecDepth 20000 in
theorem ggL_law__L_alike : GoodIn wsL_law_ wsL_alike := goodIn_ca (goodIn_r _ [1336, 183, 1337, 1338, 1339, 2, 1340, 20, 191, 192, 193, 194, 195, 196, 197, 198, 882, 631, 632, 19, 633, 63, 622, 623, 624, 625, 215, 1465, 1466, 1467, 1468, 1469, 1470, 1471, 1472, 1473, 1474, 1475, 1476, 1477, 1478, 1479, 1534, 1535, 1536, 1537, 1538, 1539, 1540, 1541, 1542, 1543, 1544] rfl (by decide +kernel)) (goodIn_sub (fun _ h => List.mem_append_left _ (List.mem_append_right _ h)) (by decide +kernel))
set_option maxRecDepth 20000 in
theorem gL_law__L_alike : GoodIn wsL_law_ (va_wsS RL 207 yL_alike wsL_alike) := goodIn_app (goodIn_of _ (by decide +kernel)) ggL_law__L_alike
set_option maxRecDepth 20000 in
theorem ggL_law__X10_alike : GoodIn wsL_law_ wsX10_alike := goodIn_r _ [1344, 177, 126, 139, 367, 368, 5, 369, 370, 371, 372, 373, 124, 1480, 1481, 1482, 1483, 1484, 1485, 1486, 1487, 1488, 1489, 1490, 1491, 1492, 1493, 1494, 1495, 1496, 1497, 1498, 1499, 1500, 1501, 1502, 1503, 1504, 1505, 1506, 1507, 1508, 1509, 1510, 1511, 1512, 1513, 1514, 1515, 1516, 1517, 1518, 1519, 1520, 1521, 1522, 1523, 1524, 1525] rfl (by decide +kernel)
set_option maxRecDepth 20000 in
theorem gL_law__X10_alike : GoodIn wsL_law_ (wsV RL 209 RX10 yX10_alike wsX10_alike) := goodIn_app (goodIn_of _ (by decide +kernel)) ggL_law__X10_alike
set_option maxRecDepth 20000 in
theorem ggL_law__L_against : GoodIn wsL_law_ wsL_against := goodIn_ca (goodIn_r _ [1347, 865, 1348, 1349, 1350, 2, 1351, 20, 870, 871, 872, 873, 874, 623, 624, 19, 625, 215, 875, 876, 877, 878, 879, 880, 881, 882, 631, 632, 633, 63, 622, 1465, 1466, 1467, 1468, 1469, 1470, 1471, 1472, 1473, 1474, 1475, 1476, 1477, 1478, 1479, 1534, 1535, 1536, 1537, 1538, 1539, 1540, 1541, 1542, 1543, 1544] rfl (by decide +kernel)) (goodIn_sub (fun _ h => List.mem_append_right _ h) (by decide +kernel))
set_option maxRecDepth 20000 in
theorem gL_law__L_against : GoodIn wsL_law_ (va_wsS RL 210 yL_against wsL_against) := goodIn_app (goodIn_of _ (by decide +kernel)) ggL_law__L_against
set_option maxRecDepth 20000 in
theorem ggL_law__X10_against : GoodIn wsL_law_ wsX10_against := goodIn_r _ [1355, 177, 139, 894, 895, 896, 5, 897, 126, 367, 368, 369, 370, 371, 372, 373, 124, 1480, 1481, 1482, 1483, 1484, 1485, 1486, 1487, 1488, 1489, 1490, 1491, 1492, 1493, 1494, 1495, 1496, 1497, 1498, 1499, 1500, 1501, 1502, 1503, 1504, 1505, 1506, 1507, 1508, 1509, 1510, 1511, 1512, 1513, 1514, 1515, 1516, 1517, 1518, 1519, 1520, 1521, 1522, 1523, 1524, 1525] rfl (by decide +kernel)
set_option maxRecDepth 20000 in
theorem gL_law__X10_against : GoodIn wsL_law_ (wsV RL 212 RX10 yX10_against wsX10_against) := goodIn_app (goodIn_of _ (by decide +kernel)) ggL_law__X10_against
set_option maxRecDepth 20000 in
theorem ggL_law__L_fair : GoodIn wsL_law_ wsL_fair := goodIn_ca (goodIn_r _ [1358, 183, 1359, 1360, 1361, 2, 1362, 41, 20, 45, 1363, 830, 834, 1364, 1365, 1366, 192, 193, 194, 195, 196, 197, 198, 1367, 1368, 1369, 40, 1370, 92, 1371, 1372, 1373, 346, 347, 19, 348, 62, 349, 350, 351, 352, 63, 64, 66, 215, 216, 67, 217, 218, 219, 1374, 1375, 1376, 1377, 1378, 1379, 1380, 1381, 1382, 1383, 619, 620, 621, 622, 623, 624, 625, 626, 627, 628, 629, 630, 631, 632, 633, 634, 635, 636, 637, 638, 639, 640, 641, 642, 643, 644, 333, 334, 335, 336, 1384, 646, 647, 648, 1385, 659, 660, 661, 65, 662, 663, 319, 664, 665, 666, 667, 668, 669, 670, 671, 672, 673, 674, 675, 676, 677, 678, 679, 680, 681, 682, 683, 684, 685, 686, 44, 687, 99, 105, 98, 97, 100, 688, 689, 690, 835, 836, 837, 838, 839, 840, 841, 842, 1465, 1466, 1467, 1468, 1469, 1470, 1471, 1472, 1473, 1474, 1475, 1476, 1477, 1478, 1479, 1565, 1566, 1534, 1535, 1536, 1537, 1538, 1539, 1540, 1541, 1542, 1543, 1544, 1567, 1568, 1569, 1570, 1571] rfl (by decide +kernel)) (goodIn_sub (fun _ h => List.mem_append_left _ (List.mem_append_right _ h)) (by decide +kernel))
set_option maxRecDepth 20000 in
theorem gL_law__L_fair : GoodIn wsL_law_ (va_wsS RL 213 yL_fair wsL_fair) := goodIn_app (goodIn_of _ (by decide +kernel)) ggL_law__L_fair
set_option maxRecDepth 20000 in
theorem ggL_law__X10_fair : GoodIn wsL_law_ wsX10_fair := goodIn_r _ [1389, 177, 140, 139, 1390, 1391, 5, 1392, 367, 368, 369, 370, 371, 372, 373, 124, 1393, 1394, 1395, 1396, 1397, 126, 706, 707, 708, 1398, 1399, 1400, 1401, 1402, 717, 718, 719, 720, 721, 722, 723, 724, 725, 726, 727, 728, 729, 730, 731, 732, 733, 734, 735, 736, 743, 744, 745, 746, 141, 747, 748, 749, 750, 751, 752, 753, 754, 755, 756, 757, 758, 759, 760, 137, 761, 762, 763, 764, 136, 155, 132, 765, 766, 767, 740, 741, 742, 768, 769, 770, 851, 852, 853, 854, 855, 856, 857, 1480, 1481, 1482, 1483, 1484, 1485, 1486, 1487, 1488, 1489, 1490, 1491, 1492, 1493, 1494, 1495, 1496, 1497, 1498, 1499, 1500, 1501, 1502, 1503, 1504, 1505, 1506, 1507, 1508, 1509, 1510, 1511, 1512, 1513, 1514, 1515, 1516, 1517, 1518, 1519, 1520, 1521, 1522, 1523, 1524, 1525] rfl (by decide +kernel)
set_option maxRecDepth 20000 in
theorem gL_law__X10_fair : GoodIn wsL_law_ (wsV RL 215 RX10 yX10_fair wsX10_fair) := goodIn_app (goodIn_of _ (by decide +kernel)) ggL_law__X10_fair
set_option maxRecDepth 20000 in
theorem ggL_law__L_span : GoodIn wsL_law_ wsL_span := goodIn_ca (goodIn_r _ [1405, 183, 1406, 1407, 1408, 2, 1409, 20, 41, 45, 1363, 1364, 1365, 1366, 192, 193, 194, 195, 196, 197, 198, 874, 623, 624, 19, 625, 215, 1367, 1368, 1369, 40, 1370, 92, 1371, 1372, 1373, 346, 347, 348, 62, 349, 350, 351, 352, 63, 64, 66, 216, 67, 217, 218, 219, 1374, 1375, 1376, 1377, 1378, 1379, 1380, 1381, 1382, 1383, 619, 620, 621, 622, 626, 627, 628, 629, 630, 631, 632, 633, 634, 635, 636, 637, 638, 639, 640, 641, 642, 643, 644, 333, 334, 335, 336, 1384, 646, 647, 648, 1385, 659, 660, 661, 65, 662, 663, 319, 664, 665, 666, 667, 668, 669, 670, 671, 672, 673, 674, 675, 676, 677, 678, 679, 680, 681, 682, 683, 684, 685, 686, 44, 687, 99, 105, 98, 97, 100, 688, 689, 690, 835, 836, 837, 838, 888, 1465, 1466, 1467, 1468, 1469, 1470, 1471, 1472, 1473, 1474, 1475, 1476, 1477, 1478, 1479, 1565, 1566, 1534, 1535, 1536, 1537, 1538, 1539, 1540, 1541, 1542, 1543, 1544, 1567, 1568, 1569, 1570, 1571] rfl (by decide +kernel)) (goodIn_sub (fun _ h => List.mem_append_left _ (List.mem_append_right _ h)) (by decide +kernel))
set_option maxRecDepth 20000 in
theorem gL_law__L_span : GoodIn wsL_law_ (va_wsS RL 216 yL_span wsL_span) := goodIn_app (goodIn_of _ (by decide +kernel)) ggL_law__L_span
set_option maxRecDepth 20000 in
theorem ggL_law__X10_span : GoodIn wsL_law_ wsX10_span := goodIn_r _ [1413, 177, 140, 367, 368, 5, 369, 1390, 1391, 1392, 894, 895, 896, 897, 126, 370, 371, 372, 373, 124, 1393, 1394, 1395, 1396, 139, 1397, 706, 707, 708, 1398, 1399, 1400, 1401, 1402, 717, 718, 719, 720, 721, 722, 723, 724, 725, 726, 727, 728, 729, 730, 731, 732, 733, 734, 735, 736, 743, 744, 745, 746, 141, 747, 748, 749, 750, 751, 752, 753, 754, 755, 756, 757, 758, 759, 760, 137, 761, 762, 763, 764, 136, 155, 132, 765, 766, 767, 740, 741, 742, 768, 769, 770, 851, 852, 853, 854, 1480, 1481, 1482, 1483, 1484, 1485, 1486, 1487, 1488, 1489, 1490, 1491, 1492, 1493, 1494, 1495, 1496, 1497, 1498, 1499, 1500, 1501, 1502, 1503, 1504, 1505, 1506, 1507, 1508, 1509, 1510, 1511, 1512, 1513, 1514, 1515, 1516, 1517, 1518, 1519, 1520, 1521, 1522, 1523, 1524, 1525] rfl (by decide +kernel)
set_option maxRecDepth 20000 in
theorem gL_law__X10_span : GoodIn wsL_law_ (wsV RL 219 RX10 yX10_span wsX10_span) := goodIn_app (goodIn_of _ (by decide +kernel)) ggL_law__X10_span
set_option maxRecDepth 20000 in
theorem ggL_law__X9_image : GoodIn wsL_law_ wsX9_image := goodIn_r _ [1417, 29, 1418, 20, 1419, 1420, 1421, 28, 1422, 359, 75, 76, 1423, 350, 351, 352, 77, 358, 598, 599, 600, 19, 601, 63, 349, 64, 66, 216, 67, 218, 219, 1465, 1466, 1467, 1468, 1469, 1470, 1471, 1472, 1473, 1474, 1475, 1476, 1477, 1478, 1479, 1550, 1551, 1552, 1553, 1554, 1534, 1535, 1536, 1537, 1538, 1539, 1540, 1541, 1542, 1543, 1544] rfl (by decide +kernel)
set_option maxRecDepth 20000 in
theorem gL_law__X9_image : GoodIn wsL_law_ (wsV RL 220 RX9 yX9_image wsX9_image) := goodIn_app (goodIn_of _ (by decide +kernel)) ggL_law__X9_image
set_option maxRecDepth 20000 in
theorem ggL_law__X10_image : GoodIn wsL_law_ wsX10_image := goodIn_r _ [1427, 177, 159, 143, 1428, 1429, 1430, 5, 1431, 1432, 157, 139, 142, 1433, 1434, 1435, 1436, 1480, 1481, 1482, 1483, 1484, 1485, 1486, 1487, 1488, 1489, 1490, 1491, 1492, 1493, 1494, 1495, 1496, 1497, 1498, 1499, 1500, 1501, 1502, 1503, 1504, 1505, 1506, 1507, 1508, 1509, 1510, 1511, 1512, 1513, 1514, 1515, 1516, 1517, 1518, 1519, 1520, 1521, 1522, 1523, 1524, 1525] rfl (by decide +kernel)
set_option maxRecDepth 20000 in
theorem gL_law__X10_image : GoodIn wsL_law_ (wsV RL 223 RX10 yX10_image wsX10_image) := goodIn_app (goodIn_of _ (by decide +kernel)) ggL_law__X10_image
set_option maxRecDepth 20000 in
theorem ggL_law__X9_restore : GoodIn wsL_law_ wsX9_restore := goodIn_r _ [1440, 29, 1418, 20, 190, 1441, 1442, 1443, 28, 1444, 359, 76, 75, 1423, 350, 351, 352, 77, 358, 815, 816, 817, 19, 818, 63, 349, 64, 66, 216, 67, 218, 219, 1465, 1466, 1467, 1468, 1469, 1470, 1471, 1472, 1473, 1474, 1475, 1476, 1477, 1478, 1479, 1550, 1551, 1552, 1553, 1554, 1534, 1535, 1536, 1537, 1538, 1539, 1540, 1541, 1542, 1543, 1544] rfl (by decide +kernel)
set_option maxRecDepth 20000 in
theorem gL_law__X9_restore : GoodIn wsL_law_ (wsV RL 224 RX9 yX9_restore wsX9_restore) := goodIn_app (goodIn_of _ (by decide +kernel)) ggL_law__X9_restore
set_option maxRecDepth 20000 in
theorem ggL_law__X10_restore : GoodIn wsL_law_ wsX10_restore := goodIn_r _ [1448, 177, 159, 143, 158, 1428, 1429, 1430, 5, 1431, 1432, 157, 139, 142, 1433, 1434, 1435, 1436, 1480, 1481, 1482, 1483, 1484, 1485, 1486, 1487, 1488, 1489, 1490, 1491, 1492, 1493, 1494, 1495, 1496, 1497, 1498, 1499, 1500, 1501, 1502, 1503, 1504, 1505, 1506, 1507, 1508, 1509, 1510, 1511, 1512, 1513, 1514, 1515, 1516, 1517, 1518, 1519, 1520, 1521, 1522, 1523, 1524, 1525] rfl (by decide +kernel)
set_option maxRecDepth 20000 in
theorem gL_law__X10_restore : GoodIn wsL_law_ (wsV RL 227 RX10 yX10_restore wsX10_restore) := goodIn_app (goodIn_of _ (by decide +kernel)) ggL_law__X10_restore
set_option maxRecDepth 20000 in
theorem ggL_law__X9_status : GoodIn wsL_law_ wsX9_status := goodIn_r _ [1452, 881, 198, 1465, 1466, 1467, 1468, 1469, 1470, 1471, 1472, 1473, 1474, 1475, 1476, 1477, 1478, 1479] rfl (by decide +kernel)
set_option maxRecDepth 20000 in
theorem gL_law__X9_status : GoodIn wsL_law_ (wsV RL 228 RX9 yX9_status wsX9_status) := goodIn_app (goodIn_of _ (by decide +kernel)) ggL_law__X9_status
set_option maxRecDepth 20000 in
theorem ggL_law__X10_status : GoodIn wsL_law_ wsX10_status := goodIn_r _ [1456, 177, 124, 367, 368, 5, 369, 1480, 1481, 1482, 1483, 1484, 1485, 1486, 1487, 1488, 1489, 1490, 1491, 1492, 1493, 1494, 1495, 1496, 1497, 1498, 1499, 1500, 1501, 1502, 1503, 1504, 1505, 1506, 1507, 1508, 1509, 1510, 1511, 1512, 1513, 1514, 1515, 1516, 1517, 1518, 1519, 1520, 1521, 1522, 1523, 1524, 1525] rfl (by decide +kernel)
set_option maxRecDepth 20000 in
theorem gL_law__X10_status : GoodIn wsL_law_ (wsV RL 231 RX10 yX10_status wsX10_status) := goodIn_app (goodIn_of _ (by decide +kernel)) ggL_law__X10_status
set_option maxRecDepth 20000 in
theorem ggL_law__X9_count : GoodIn wsL_law_ wsX9_count := goodIn_r _ [1460, 29, 1418, 16, 167, 544, 1465, 1466, 1467, 1468, 1469, 1470, 1471, 1472, 1473, 1474, 1475, 1476, 1477, 1478, 1479, 1550, 1551, 1552, 1553, 1554, 1526, 1527, 1528, 1529, 1530, 1531, 1532, 1533] rfl (by decide +kernel)
set_option maxRecDepth 20000 in
theorem gL_law__X9_count : GoodIn wsL_law_ (wsV RL 232 RX9 yX9_count wsX9_count) := goodIn_app (goodIn_of _ (by decide +kernel)) ggL_law__X9_count
set_option maxRecDepth 20000 in
theorem ggL_law__X10_count : GoodIn wsL_law_ wsX10_count := goodIn_r _ [1464, 177, 159, 178, 157, 1480, 1481, 1482, 1483, 1484, 1485, 1486, 1487, 1488, 1489, 1490, 1491, 1492, 1493, 1494, 1495, 1496, 1497, 1498, 1499, 1500, 1501, 1502, 1503, 1504, 1505, 1506, 1507, 1508, 1509, 1510, 1511, 1512, 1513, 1514, 1515, 1516, 1517, 1518, 1519, 1520, 1521, 1522, 1523, 1524, 1525] rfl (by decide +kernel)
set_option maxRecDepth 20000 in
theorem gL_law__X10_count : GoodIn wsL_law_ (wsV RL 235 RX10 yX10_count wsX10_count) := goodIn_app (goodIn_of _ (by decide +kernel)) ggL_law__X10_count
