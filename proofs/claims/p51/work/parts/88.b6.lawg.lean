/-! ===== THE LAW'S OWN WORDS 6 ===== -/
set_option maxRecDepth 20000 in
theorem lt_wsL_holds_37 : GoodIn lw_tbl2 wsL_holds_r38 := goodIn_r _ [1369, 1370, 1372, 42, 1373, 1374, 1375, 89, 1376, 1377, 1379, 43, 1380, 1381, 1383, 44, 1384, 1385, 1386, 1387, 1388, 90, 1404, 1405] (by decide +kernel) (by decide +kernel)
set_option maxRecDepth 20000 in
theorem lt_wsL_holds_38 : GoodIn lw_tbl2 wsL_holds_r39 := goodIn_r _ [1406, 1407, 1408, 1409, 1410, 1411, 1412, 1413, 1414, 1417, 1418, 83, 1419, 1420, 1422, 1421, 91, 1423, 1424, 1426, 1425, 1431, 1433, 45] (by decide +kernel) (by decide +kernel)
set_option maxRecDepth 20000 in
theorem lt_wsL_holds_39 : GoodIn lw_tbl2 wsL_holds_r40 := goodIn_r _ [1434, 1435, 1436, 1437, 1438, 331, 329, 1439, 1440, 1441, 1442, 1443, 1444, 1445, 1446, 1447, 1448, 1449, 1450, 328, 1451, 1452, 1453, 1454] (by decide +kernel) (by decide +kernel)
set_option maxRecDepth 20000 in
theorem lt_wsL_holds_40 : GoodIn lw_tbl2 wsL_holds_r41 := goodIn_r _ [1455, 1456, 1458, 46, 1459, 1464, 1460, 1461, 1462, 1463, 354, 344, 346, 348, 350, 352, 1465, 1466, 1467, 1468, 1469, 1470, 1471, 1472] (by decide +kernel) (by decide +kernel)
set_option maxRecDepth 20000 in
theorem lt_wsL_holds_41 : GoodIn lw_tbl2 wsL_holds_r42 := goodIn_r _ [1473, 1474, 1475, 359, 1477, 1478, 1479, 1480, 1481, 1483, 47, 1484, 349, 347, 1492, 351, 1485, 1487, 48, 1488, 343, 1489, 1490, 1491] (by decide +kernel) (by decide +kernel)
set_option maxRecDepth 20000 in
theorem lt_wsL_holds_42 : GoodIn lw_tbl2 wsL_holds_r43 := goodIn_r _ [345, 1493, 1494, 1495, 1496, 1497, 1498, 1499, 358, 1500, 1501, 1502, 1503, 357, 1504, 1505, 1506, 355, 1507, 1508, 1509, 1510, 1511, 356] (by decide +kernel) (by decide +kernel)
set_option maxRecDepth 20000 in
theorem lt_wsL_holds_43 : GoodIn lw_tbl2 wsL_holds_r44 := goodIn_r _ [1512, 1514, 49, 1515, 1516, 1517, 1518, 1519, 427, 390, 1520, 1522, 50, 1523, 1524, 1525, 1526, 68, 1527, 389, 1528, 1529, 1530, 386] (by decide +kernel) (by decide +kernel)
set_option maxRecDepth 20000 in
theorem lt_wsL_holds_44 : GoodIn lw_tbl2 wsL_holds_r45 := goodIn_r _ [387, 1531, 1532, 1534, 51, 1535, 385, 147, 1536, 1538, 1539, 1540, 1541, 388, 1542, 1543, 1544, 1545, 1546, 1547, 1548, 1550, 52, 1551] (by decide +kernel) (by decide +kernel)
set_option maxRecDepth 20000 in
theorem lt_wsL_holds_45 : GoodIn lw_tbl2 wsL_holds_r46 := goodIn_r _ [1552, 1554, 1556, 53, 1557, 1558, 1559, 1560, 1561, 1562, 1564, 54, 1565, 1566, 1567, 1568, 1569, 259, 1570, 1571, 1572, 1573, 1575, 55] (by decide +kernel) (by decide +kernel)
set_option maxRecDepth 20000 in
theorem lt_wsL_holds_46 : GoodIn lw_tbl2 wsL_holds_r47 := goodIn_r _ [1576, 260, 1577, 1578, 1580, 56, 1581, 1583, 1584, 1585, 1586, 1587, 1588, 1589, 1590, 1591, 1592, 1593] (by decide +kernel) (by decide +kernel)
