set_option maxRecDepth 20000 in
theorem ggL_law__X10_match : GoodIn wsL_law_ wsX10_match := goodIn_r _ [1109, 177, 145, 1110, 1111, 1112, 5, 1113, 1114, 1115, 1116, 1117, 126, 367, 368, 369, 370, 371, 372, 373, 124, 1118, 1119, 1120, 1121, 1122, 1123, 1124, 1125, 139, 754, 755, 756, 1013, 1014, 1015, 1480, 1481, 1482, 1483, 1484, 1485, 1486, 1487, 1488, 1489, 1490, 1491, 1492, 1493, 1494, 1495, 1496, 1497, 1498, 1499, 1500, 1501, 1502, 1503, 1504, 1505, 1506, 1507, 1508, 1509, 1510, 1511, 1512, 1513, 1514, 1515, 1516, 1517, 1518, 1519, 1520, 1521, 1522, 1523, 1524, 1525] rfl (by decide +kernel)
set_option maxRecDepth 20000 in
theorem gL_law__X10_match : GoodIn wsL_law_ (wsV RL 176 RX10 yX10_match wsX10_match) := goodIn_app (goodIn_of _ (by decide +kernel)) ggL_law__X10_match
set_option maxRecDepth 20000 in
theorem ggL_law__L_fewest : GoodIn wsL_law_ wsL_fewest := goodIn_ca (goodIn_r _ [1128, 183, 1129, 1130, 1131, 2, 1132, 37, 20, 192, 193, 194, 195, 196, 197, 198, 1133, 1134, 1135, 36, 1136, 1092, 1088, 1089, 1090, 1091, 85, 1093, 631, 632, 19, 633, 63, 622, 623, 624, 625, 215, 1137, 674, 675, 676, 677, 678, 679, 1138, 1139, 1140, 1141, 1094, 1095, 1096, 1097, 1465, 1466, 1467, 1468, 1469, 1470, 1471, 1472, 1473, 1474, 1475, 1476, 1477, 1478, 1479, 1534, 1535, 1536, 1537, 1538, 1539, 1540, 1541, 1542, 1543, 1544, 1561, 1562, 1563, 1564] rfl (by decide +kernel)) (goodIn_sub (fun _ h => List.mem_append_left _ (List.mem_append_right _ h)) (by decide +kernel))
set_option maxRecDepth 20000 in
theorem gL_law__L_fewest : GoodIn wsL_law_ (va_wsS RL 177 yL_fewest wsL_fewest) := goodIn_app (goodIn_of _ (by decide +kernel)) ggL_law__L_fewest
set_option maxRecDepth 20000 in
theorem ggL_law__X10_fewest : GoodIn wsL_law_ wsX10_fewest := goodIn_r _ [1145, 177, 145, 367, 368, 5, 369, 370, 371, 372, 373, 124, 1114, 1115, 1116, 1117, 126, 1118, 1119, 1120, 1121, 1122, 1123, 1124, 1125, 139, 754, 755, 756, 1013, 1014, 1015, 1480, 1481, 1482, 1483, 1484, 1485, 1486, 1487, 1488, 1489, 1490, 1491, 1492, 1493, 1494, 1495, 1496, 1497, 1498, 1499, 1500, 1501, 1502, 1503, 1504, 1505, 1506, 1507, 1508, 1509, 1510, 1511, 1512, 1513, 1514, 1515, 1516, 1517, 1518, 1519, 1520, 1521, 1522, 1523, 1524, 1525] rfl (by decide +kernel)
set_option maxRecDepth 20000 in
theorem gL_law__X10_fewest : GoodIn wsL_law_ (wsV RL 179 RX10 yX10_fewest wsX10_fewest) := goodIn_app (goodIn_of _ (by decide +kernel)) ggL_law__X10_fewest
set_option maxRecDepth 20000 in
theorem ggL_law__L_level : GoodIn wsL_law_ wsL_level := goodIn_ca (goodIn_r _ [1148, 183, 1149, 1150, 1151, 2, 1152, 37, 20, 1153, 1154, 1080, 1081, 1082, 1083, 191, 192, 193, 194, 195, 196, 197, 198, 1155, 1156, 1157, 36, 1158, 1159, 1160, 1161, 1162, 319, 1163, 1088, 1089, 1090, 1091, 1092, 85, 1093, 631, 632, 19, 633, 63, 622, 623, 624, 625, 215, 1094, 1095, 1096, 1097, 1465, 1466, 1467, 1468, 1469, 1470, 1471, 1472, 1473, 1474, 1475, 1476, 1477, 1478, 1479, 1561, 1562, 1563, 1564, 1534, 1535, 1536, 1537, 1538, 1539, 1540, 1541, 1542, 1543, 1544] rfl (by decide +kernel)) (goodIn_sub (fun _ h => List.mem_append_left _ (List.mem_append_right _ h)) (by decide +kernel))
set_option maxRecDepth 20000 in
theorem gL_law__L_level : GoodIn wsL_law_ (va_wsS RL 180 yL_level wsL_level) := goodIn_app (goodIn_of _ (by decide +kernel)) ggL_law__L_level
set_option maxRecDepth 20000 in
theorem ggL_law__X10_level : GoodIn wsL_law_ wsX10_level := goodIn_r _ [1167, 177, 1110, 1111, 1112, 5, 1113, 1114, 1115, 1116, 1117, 126, 367, 368, 369, 370, 371, 372, 373, 124, 1168, 1169, 1170, 1171, 139, 1013, 1014, 1015, 768, 769, 770, 1480, 1481, 1482, 1483, 1484, 1485, 1486, 1487, 1488, 1489, 1490, 1491, 1492, 1493, 1494, 1495, 1496, 1497, 1498, 1499, 1500, 1501, 1502, 1503, 1504, 1505, 1506, 1507, 1508, 1509, 1510, 1511, 1512, 1513, 1514, 1515, 1516, 1517, 1518, 1519, 1520, 1521, 1522, 1523, 1524, 1525] rfl (by decide +kernel)
set_option maxRecDepth 20000 in
theorem gL_law__X10_level : GoodIn wsL_law_ (wsV RL 182 RX10 yX10_level wsX10_level) := goodIn_app (goodIn_of _ (by decide +kernel)) ggL_law__X10_level
set_option maxRecDepth 20000 in
theorem ggL_law__L_fits : GoodIn wsL_law_ wsL_fits := goodIn_ca (goodIn_r _ [1174, 183, 1175, 1176, 1177, 2, 1178, 50, 20, 1179, 192, 193, 194, 195, 196, 197, 198, 1180, 1181, 1182, 49, 1183, 1184, 116, 1185, 1186, 1187, 1188, 782, 113, 114, 115, 1189, 1190, 1191, 1192, 631, 632, 19, 633, 63, 622, 623, 624, 625, 215, 1193, 635, 636, 1194, 1195, 1196, 1197, 1465, 1466, 1467, 1468, 1469, 1470, 1471, 1472, 1473, 1474, 1475, 1476, 1477, 1478, 1479, 1572, 1573, 1574, 1575, 1576, 1577, 1578, 1579, 1580, 1534, 1535, 1536, 1537, 1538, 1539, 1540, 1541, 1542, 1543, 1544] rfl (by decide +kernel)) (goodIn_sub (fun _ h => List.mem_append_left _ (List.mem_append_right _ h)) (by decide +kernel))
set_option maxRecDepth 20000 in
theorem gL_law__L_fits : GoodIn wsL_law_ (va_wsS RL 183 yL_fits wsL_fits) := goodIn_app (goodIn_of _ (by decide +kernel)) ggL_law__L_fits
set_option maxRecDepth 20000 in
theorem ggL_law__X10_fits : GoodIn wsL_law_ wsX10_fits := goodIn_r _ [1201, 177, 367, 368, 5, 369, 370, 371, 372, 373, 124, 1202, 1203, 1204, 1205, 156, 139, 134, 725, 726, 727, 1480, 1481, 1482, 1483, 1484, 1485, 1486, 1487, 1488, 1489, 1490, 1491, 1492, 1493, 1494, 1495, 1496, 1497, 1498, 1499, 1500, 1501, 1502, 1503, 1504, 1505, 1506, 1507, 1508, 1509, 1510, 1511, 1512, 1513, 1514, 1515, 1516, 1517, 1518, 1519, 1520, 1521, 1522, 1523, 1524, 1525] rfl (by decide +kernel)
set_option maxRecDepth 20000 in
theorem gL_law__X10_fits : GoodIn wsL_law_ (wsV RL 185 RX10 yX10_fits wsX10_fits) := goodIn_app (goodIn_of _ (by decide +kernel)) ggL_law__X10_fits
set_option maxRecDepth 20000 in
theorem ggL_law__L_look : GoodIn wsL_law_ wsL_look := goodIn_ca (goodIn_r _ [1208, 183, 1209, 1210, 1211, 2, 1212, 50, 20, 1213, 1214, 192, 193, 194, 195, 196, 197, 198, 1215, 1216, 1217, 49, 1218, 1219, 1220, 1221, 1222, 1181, 1182, 1183, 1184, 116, 1185, 1186, 1187, 1188, 782, 113, 114, 115, 1189, 1190, 1191, 1192, 631, 632, 19, 633, 63, 622, 623, 624, 625, 215, 1193, 635, 636, 1223, 1224, 1225, 1226, 117, 1227, 663, 319, 664, 1228, 221, 222, 223, 1465, 1466, 1467, 1468, 1469, 1470, 1471, 1472, 1473, 1474, 1475, 1476, 1477, 1478, 1479, 1572, 1573, 1574, 1575, 1576, 1577, 1578, 1579, 1580, 1534, 1535, 1536, 1537, 1538, 1539, 1540, 1541, 1542, 1543, 1544] rfl (by decide +kernel)) (goodIn_sub (fun _ h => List.mem_append_left _ (List.mem_append_right _ h)) (by decide +kernel))
set_option maxRecDepth 20000 in
theorem gL_law__L_look : GoodIn wsL_law_ (va_wsS RL 186 yL_look wsL_look) := goodIn_app (goodIn_of _ (by decide +kernel)) ggL_law__L_look
set_option maxRecDepth 20000 in
theorem ggL_law__X10_look : GoodIn wsL_law_ wsX10_look := goodIn_r _ [1232, 177, 126, 367, 368, 5, 369, 370, 371, 372, 373, 124, 1233, 1234, 1235, 1236, 146, 139, 1202, 1203, 1204, 1205, 156, 134, 725, 726, 727, 768, 769, 770, 1480, 1481, 1482, 1483, 1484, 1485, 1486, 1487, 1488, 1489, 1490, 1491, 1492, 1493, 1494, 1495, 1496, 1497, 1498, 1499, 1500, 1501, 1502, 1503, 1504, 1505, 1506, 1507, 1508, 1509, 1510, 1511, 1512, 1513, 1514, 1515, 1516, 1517, 1518, 1519, 1520, 1521, 1522, 1523, 1524, 1525] rfl (by decide +kernel)
set_option maxRecDepth 20000 in
theorem gL_law__X10_look : GoodIn wsL_law_ (wsV RL 188 RX10 yX10_look wsX10_look) := goodIn_app (goodIn_of _ (by decide +kernel)) ggL_law__X10_look
set_option maxRecDepth 20000 in
theorem ggL_law__L_falsely : GoodIn wsL_law_ wsL_falsely := goodIn_ca (goodIn_r _ [1239, 183, 1240, 1241, 1242, 2, 1243, 192, 193, 194, 195, 196, 197, 198, 1465, 1466, 1467, 1468, 1469, 1470, 1471, 1472, 1473, 1474, 1475, 1476, 1477, 1478, 1479] rfl (by decide +kernel)) (goodIn_sub (fun _ h => List.mem_append_left _ (List.mem_append_right _ h)) (by decide +kernel))
set_option maxRecDepth 20000 in
theorem gL_law__L_falsely : GoodIn wsL_law_ (va_wsS RL 189 yL_falsely wsL_falsely) := goodIn_app (goodIn_of _ (by decide +kernel)) ggL_law__L_falsely
set_option maxRecDepth 20000 in
theorem ggL_law__X10_falsely : GoodIn wsL_law_ wsX10_falsely := goodIn_r _ [1247, 177, 367, 368, 5, 369, 370, 371, 372, 373, 124, 1480, 1481, 1482, 1483, 1484, 1485, 1486, 1487, 1488, 1489, 1490, 1491, 1492, 1493, 1494, 1495, 1496, 1497, 1498, 1499, 1500, 1501, 1502, 1503, 1504, 1505, 1506, 1507, 1508, 1509, 1510, 1511, 1512, 1513, 1514, 1515, 1516, 1517, 1518, 1519, 1520, 1521, 1522, 1523, 1524, 1525] rfl (by decide +kernel)
set_option maxRecDepth 20000 in
theorem gL_law__X10_falsely : GoodIn wsL_law_ (wsV RL 191 RX10 yX10_falsely wsX10_falsely) := goodIn_app (goodIn_of _ (by decide +kernel)) ggL_law__X10_falsely
set_option maxRecDepth 20000 in
theorem ggL_law__L_sellers : GoodIn wsL_law_ wsL_sellers := goodIn_ca (goodIn_r _ [1250, 183, 1251, 1252, 1253, 2, 1254, 192, 193, 194, 195, 196, 197, 198, 1255, 1256, 1257, 1258, 1259, 1260, 1465, 1466, 1467, 1468, 1469, 1470, 1471, 1472, 1473, 1474, 1475, 1476, 1477, 1478, 1479] rfl (by decide +kernel)) (goodIn_sub (fun _ h => List.mem_append_left _ (List.mem_append_right _ h)) (by decide +kernel))
set_option maxRecDepth 20000 in
theorem gL_law__L_sellers : GoodIn wsL_law_ (va_wsS RL 192 yL_sellers wsL_sellers) := goodIn_app (goodIn_of _ (by decide +kernel)) ggL_law__L_sellers
set_option maxRecDepth 20000 in
theorem ggL_law__X10_sellers : GoodIn wsL_law_ wsX10_sellers := goodIn_r _ [1264, 177, 367, 368, 5, 369, 370, 371, 372, 373, 124, 1265, 1266, 1267, 1268, 1269, 1270, 1480, 1481, 1482, 1483, 1484, 1485, 1486, 1487, 1488, 1489, 1490, 1491, 1492, 1493, 1494, 1495, 1496, 1497, 1498, 1499, 1500, 1501, 1502, 1503, 1504, 1505, 1506, 1507, 1508, 1509, 1510, 1511, 1512, 1513, 1514, 1515, 1516, 1517, 1518, 1519, 1520, 1521, 1522, 1523, 1524, 1525] rfl (by decide +kernel)
set_option maxRecDepth 20000 in
theorem gL_law__X10_sellers : GoodIn wsL_law_ (wsV RL 194 RX10 yX10_sellers wsX10_sellers) := goodIn_app (goodIn_of _ (by decide +kernel)) ggL_law__X10_sellers
set_option maxRecDepth 20000 in
theorem ggL_law__L_even : GoodIn wsL_law_ wsL_even := goodIn_ca (goodIn_r _ [1273, 183, 1274, 1275, 1276, 2, 1277, 1278, 192, 193, 194, 195, 196, 197, 198, 961, 962, 963, 1279, 993, 994, 1465, 1466, 1467, 1468, 1469, 1470, 1471, 1472, 1473, 1474, 1475, 1476, 1477, 1478, 1479] rfl (by decide +kernel)) (goodIn_sub (fun _ h => List.mem_append_left _ (List.mem_append_right _ h)) (by decide +kernel))
set_option maxRecDepth 20000 in
theorem gL_law__L_even : GoodIn wsL_law_ (va_wsS RL 195 yL_even wsL_even) := goodIn_app (goodIn_of _ (by decide +kernel)) ggL_law__L_even
set_option maxRecDepth 20000 in
theorem ggL_law__X10_even : GoodIn wsL_law_ wsX10_even := goodIn_r _ [1283, 177, 367, 368, 5, 369, 370, 371, 372, 373, 124, 1016, 1017, 1018, 1480, 1481, 1482, 1483, 1484, 1485, 1486, 1487, 1488, 1489, 1490, 1491, 1492, 1493, 1494, 1495, 1496, 1497, 1498, 1499, 1500, 1501, 1502, 1503, 1504, 1505, 1506, 1507, 1508, 1509, 1510, 1511, 1512, 1513, 1514, 1515, 1516, 1517, 1518, 1519, 1520, 1521, 1522, 1523, 1524, 1525] rfl (by decide +kernel)
set_option maxRecDepth 20000 in
theorem gL_law__X10_even : GoodIn wsL_law_ (wsV RL 197 RX10 yX10_even wsX10_even) := goodIn_app (goodIn_of _ (by decide +kernel)) ggL_law__X10_even
set_option maxRecDepth 20000 in
theorem ggL_law__L_share : GoodIn wsL_law_ wsL_share := goodIn_ca (goodIn_ca (goodIn_r _ [1286, 865, 183, 1287, 1288, 1289, 2, 1290, 20, 37, 1291, 318, 319, 320, 870, 871, 872, 873, 874, 623, 624, 19, 625, 215, 875, 876, 877, 878, 879, 880, 881, 1080, 1081, 1082, 1083, 191, 192, 193, 194, 195, 196, 197, 198, 882, 631, 632, 633, 63, 622, 1292, 1293, 1294, 36, 1295, 1296, 1297, 1298, 1092, 1299, 1093, 1465, 1466, 1467, 1468, 1469, 1470, 1471, 1472, 1473, 1474, 1475, 1476, 1477, 1478, 1479, 1534, 1535, 1536, 1537, 1538, 1539, 1540, 1541, 1542, 1543, 1544] rfl (by decide +kernel)) (goodIn_sub (fun _ h => List.mem_append_right _ h) (by decide +kernel))) (goodIn_sub (fun _ h => List.mem_append_left _ (List.mem_append_right _ h)) (by decide +kernel))
set_option maxRecDepth 20000 in
theorem gL_law__L_share : GoodIn wsL_law_ (va_wsS RL 198 yL_share wsL_share) := goodIn_app (goodIn_of _ (by decide +kernel)) ggL_law__L_share
set_option maxRecDepth 20000 in
theorem ggL_law__X10_share : GoodIn wsL_law_ wsX10_share := goodIn_r _ [1303, 177, 139, 894, 895, 896, 5, 897, 126, 367, 368, 369, 370, 371, 372, 373, 124, 1110, 1111, 1112, 1113, 1114, 1115, 1116, 1117, 1304, 1305, 1306, 1307, 1013, 1014, 1015, 740, 741, 742, 1480, 1481, 1482, 1483, 1484, 1485, 1486, 1487, 1488, 1489, 1490, 1491, 1492, 1493, 1494, 1495, 1496, 1497, 1498, 1499, 1500, 1501, 1502, 1503, 1504, 1505, 1506, 1507, 1508, 1509, 1510, 1511, 1512, 1513, 1514, 1515, 1516, 1517, 1518, 1519, 1520, 1521, 1522, 1523, 1524, 1525] rfl (by decide +kernel)
set_option maxRecDepth 20000 in
theorem gL_law__X10_share : GoodIn wsL_law_ (wsV RL 200 RX10 yX10_share wsX10_share) := goodIn_app (goodIn_of _ (by decide +kernel)) ggL_law__X10_share
set_option maxRecDepth 20000 in
theorem ggL_law__L_heaviest : GoodIn wsL_law_ wsL_heaviest := goodIn_ca (goodIn_r _ [1310, 183, 1311, 1312, 1313, 2, 1314, 20, 192, 193, 194, 195, 196, 197, 198, 942, 943, 944, 19, 945, 215, 630, 631, 632, 633, 63, 622, 623, 624, 625, 882, 1465, 1466, 1467, 1468, 1469, 1470, 1471, 1472, 1473, 1474, 1475, 1476, 1477, 1478, 1479, 1534, 1535, 1536, 1537, 1538, 1539, 1540, 1541, 1542, 1543, 1544] rfl (by decide +kernel)) (goodIn_sub (fun _ h => List.mem_append_left _ (List.mem_append_right _ h)) (by decide +kernel))
set_option maxRecDepth 20000 in
theorem gL_law__L_heaviest : GoodIn wsL_law_ (va_wsS RL 201 yL_heaviest wsL_heaviest) := goodIn_app (goodIn_of _ (by decide +kernel)) ggL_law__L_heaviest
set_option maxRecDepth 20000 in
theorem ggL_law__X10_heaviest : GoodIn wsL_law_ wsX10_heaviest := goodIn_r _ [1318, 177, 139, 367, 368, 5, 369, 370, 371, 372, 373, 124, 950, 951, 952, 953, 126, 1480, 1481, 1482, 1483, 1484, 1485, 1486, 1487, 1488, 1489, 1490, 1491, 1492, 1493, 1494, 1495, 1496, 1497, 1498, 1499, 1500, 1501, 1502, 1503, 1504, 1505, 1506, 1507, 1508, 1509, 1510, 1511, 1512, 1513, 1514, 1515, 1516, 1517, 1518, 1519, 1520, 1521, 1522, 1523, 1524, 1525] rfl (by decide +kernel)
set_option maxRecDepth 20000 in
theorem gL_law__X10_heaviest : GoodIn wsL_law_ (wsV RL 203 RX10 yX10_heaviest wsX10_heaviest) := goodIn_app (goodIn_of _ (by decide +kernel)) ggL_law__X10_heaviest
