set_option maxRecDepth 20000 in
theorem ggL_law_X12_rowAt : GoodIn wsL_law wsX12_rowAt := goodIn_r _ [1224, 1104, 159, 1190, 1191, 1192, 5, 1193, 148, 259, 260, 261, 262, 263, 264, 265, 266, 1194, 1195, 1196, 1197, 158, 752, 1099, 1198, 1199, 1200, 1201, 1202, 1203, 1204, 1205, 1112, 1113, 1114, 1115, 1116, 1117, 1118, 1119, 1120, 1121, 1122, 1123, 1419, 1420, 1421, 1422, 1423, 1424, 1425, 1426, 1427, 1428, 1429, 1430, 1431, 1432, 1433, 1434, 1435, 1436, 1437, 1438] (by decide +kernel) (by decide +kernel)
set_option maxRecDepth 20000 in
theorem gL_law_X12_rowAt : GoodIn wsL_law (wsV RL 270 RX12 yX12_rowAt wsX12_rowAt) := goodIn_app (goodIn_of _ (by decide +kernel)) ggL_law_X12_rowAt
set_option maxRecDepth 20000 in
theorem ggL_law_L_book : GoodIn wsL_law wsL_book := goodIn_ca (goodIn_r _ [1227, 165, 1228, 1229, 1230, 2, 1231, 17, 174, 823, 610, 25, 178, 179, 180, 186, 187, 188, 189, 190, 1232, 1233, 1234, 16, 1235, 63, 1236, 1237, 1238, 24, 1239, 223, 82, 80, 1240, 1241, 1242, 1243, 21, 299, 37, 300, 824, 825, 826, 36, 827, 107, 1405, 1406, 1407, 1408, 1409, 1410, 1411, 1412, 1413, 1414, 1415, 1416, 1417, 1418, 1439, 1440, 1441, 1442, 1451, 1452, 1453, 1454, 1455, 1456, 1457, 1458, 1443, 1444, 1445, 1446, 1447, 1448, 1449, 1450, 1472] (by decide +kernel) (by decide +kernel)) (goodIn_sub (fun _ h => List.mem_append_left _ (List.mem_append_left _ (List.mem_append_right _ h))) (by decide +kernel))
set_option maxRecDepth 20000 in
theorem gL_law_L_book : GoodIn wsL_law (va_wsS RL 271 yL_book wsL_book) := goodIn_app (goodIn_of _ (by decide +kernel)) ggL_law_L_book
set_option maxRecDepth 20000 in
theorem ggL_law_X12_book : GoodIn wsL_law wsX12_book := goodIn_r _ [1247, 148, 259, 260, 5, 261, 262, 263, 264, 265, 266, 837, 838, 839, 840, 800, 801, 802, 803, 1248, 1249, 1250, 1251, 619, 620, 621, 622, 599, 600, 601, 602, 1419, 1420, 1421, 1422, 1423, 1424, 1425, 1426, 1427, 1428, 1429, 1430, 1431, 1432, 1433, 1434, 1435, 1436, 1437, 1438] (by decide +kernel) (by decide +kernel)
set_option maxRecDepth 20000 in
theorem gL_law_X12_book : GoodIn wsL_law (wsV RL 273 RX12 yX12_book wsX12_book) := goodIn_app (goodIn_of _ (by decide +kernel)) ggL_law_X12_book
set_option maxRecDepth 20000 in
theorem ggL_law_L_type : GoodIn wsL_law wsL_type := goodIn_ca (goodIn_ca (goodIn_r _ [1254, 165, 166, 1255, 1256, 1257, 2, 1258, 57, 348, 1259, 1260, 1261, 56, 1262, 1263, 1264, 1265, 179, 180, 186, 187, 188, 189, 190, 191, 192, 193, 194, 195, 1266, 1267, 1268, 1269, 355, 142, 1405, 1406, 1407, 1408, 1409, 1410, 1411, 1412, 1413, 1414, 1415, 1416, 1417, 1418, 1495, 1496, 1497] (by decide +kernel) (by decide +kernel)) (goodIn_sub (fun _ h => List.mem_append_left _ (List.mem_append_left _ (List.mem_append_right _ h))) (by decide +kernel))) (goodIn_sub (fun _ h => List.mem_append_left _ (List.mem_append_right _ h)) (by decide +kernel))
set_option maxRecDepth 20000 in
theorem gL_law_L_type : GoodIn wsL_law (va_wsS RL 276 yL_type wsL_type) := goodIn_app (goodIn_of _ (by decide +kernel)) ggL_law_L_type
set_option maxRecDepth 20000 in
theorem ggL_law_X12_type : GoodIn wsL_law wsX12_type := goodIn_r _ [1273, 1274, 390, 150, 259, 260, 5, 261, 262, 263, 264, 265, 266, 1419, 1420, 1421, 1422, 1423, 1424, 1425, 1426, 1427, 1428, 1429, 1430, 1431, 1432, 1433, 1434, 1435, 1436, 1437, 1438] (by decide +kernel) (by decide +kernel)
set_option maxRecDepth 20000 in
theorem gL_law_X12_type : GoodIn wsL_law (wsV RL 279 RX12 yX12_type wsX12_type) := goodIn_app (goodIn_of _ (by decide +kernel)) ggL_law_X12_type
set_option maxRecDepth 20000 in
theorem ggL_law_X11_fault : GoodIn wsL_law wsX11_fault := goodIn_r _ [1278, 57, 351, 352, 353, 56, 354, 143, 355, 356, 357, 358, 359, 360, 361, 362, 363, 364, 365, 366, 367, 142, 368, 369, 370, 371, 179, 2, 180, 372, 373, 374, 375, 376, 377, 378, 379, 380, 381, 1405, 1406, 1407, 1408, 1409, 1410, 1411, 1412, 1413, 1414, 1415, 1416, 1417, 1418, 1495, 1496, 1497] (by decide +kernel) (by decide +kernel)
set_option maxRecDepth 20000 in
theorem gL_law_X11_fault : GoodIn wsL_law (wsV RL 280 RX11 yX11_fault wsX11_fault) := goodIn_app (goodIn_of _ (by decide +kernel)) ggL_law_X11_fault
set_option maxRecDepth 20000 in
theorem ggL_law_X12_fault : GoodIn wsL_law wsX12_fault := goodIn_r _ [1282, 266, 391, 392, 393, 5, 394, 151, 390, 395, 396, 397, 398, 399, 400, 401, 402, 150, 403, 404, 405, 406, 259, 260, 261, 407, 408, 409, 410, 1419, 1420, 1421, 1422, 1423, 1424, 1425, 1426, 1427, 1428, 1429, 1430, 1431, 1432, 1433, 1434, 1435, 1436, 1437, 1438] (by decide +kernel) (by decide +kernel)
set_option maxRecDepth 20000 in
theorem gL_law_X12_fault : GoodIn wsL_law (wsV RL 283 RX12 yX12_fault wsX12_fault) := goodIn_app (goodIn_of _ (by decide +kernel)) ggL_law_X12_fault
set_option maxRecDepth 20000 in
theorem ggL_law_L_undo : GoodIn wsL_law wsL_undo := goodIn_ca (goodIn_r _ [1285, 166, 1286, 1287, 1288, 2, 1289, 201, 200, 191, 192, 193, 194, 195, 1290, 1291, 1292, 1293, 17, 59, 21, 25, 29, 37, 41, 45, 49, 1294, 1295, 1296, 16, 1297, 63, 206, 207, 208, 209, 210, 211, 212, 1298, 1299, 1300, 20, 1301, 217, 73, 218, 74, 1302, 1303, 1304, 24, 1305, 223, 81, 224, 82, 83, 84, 1306, 1307, 1308, 28, 1309, 229, 88, 89, 90, 91, 1310, 1311, 1312, 36, 1313, 107, 234, 1314, 1315, 1316, 40, 1317, 112, 239, 113, 114, 1318, 1319, 1320, 44, 1321, 121, 244, 1322, 1323, 1324, 48, 1325, 249, 1405, 1406, 1407, 1408, 1409, 1410, 1411, 1412, 1413, 1414, 1415, 1416, 1417, 1418, 1439, 1440, 1441, 1442, 1443, 1444, 1445, 1446, 1447, 1448, 1449, 1450, 1451, 1452, 1453, 1454, 1455, 1456, 1457, 1458, 1459, 1460, 1461, 1462, 1463, 1472, 1473, 1474, 1475, 1476, 1477, 1478, 1479, 1480, 1481, 1482, 1483, 1484, 1485, 1486, 1487, 1488, 1489, 1490] (by decide +kernel) (by decide +kernel)) (goodIn_sub (fun _ h => List.mem_append_left _ (List.mem_append_right _ h)) (by decide +kernel))
set_option maxRecDepth 20000 in
theorem gL_law_L_undo : GoodIn wsL_law (va_wsS RL 284 yL_undo wsL_undo) := goodIn_app (goodIn_of _ (by decide +kernel)) ggL_law_L_undo
set_option maxRecDepth 20000 in
theorem ggL_law_X12_undo : GoodIn wsL_law wsX12_undo := goodIn_r _ [1329, 271, 148, 149, 262, 263, 264, 5, 265, 266, 273, 274, 275, 276, 272, 1419, 1420, 1421, 1422, 1423, 1424, 1425, 1426, 1427, 1428, 1429, 1430, 1431, 1432, 1433, 1434, 1435, 1436, 1437, 1438] (by decide +kernel) (by decide +kernel)
set_option maxRecDepth 20000 in
theorem gL_law_X12_undo : GoodIn wsL_law (wsV RL 287 RX12 yX12_undo wsX12_undo) := goodIn_app (goodIn_of _ (by decide +kernel)) ggL_law_X12_undo
set_option maxRecDepth 20000 in
theorem ggL_law_X11_actCount : GoodIn wsL_law wsX11_actCount := goodIn_r _ [1333, 201, 1405, 1406, 1407, 1408, 1409, 1410, 1411, 1412, 1413, 1414, 1415, 1416, 1417, 1418] (by decide +kernel) (by decide +kernel)
set_option maxRecDepth 20000 in
theorem gL_law_X11_actCount : GoodIn wsL_law (wsV RL 288 RX11 yX11_actCount wsX11_actCount) := goodIn_app (goodIn_of _ (by decide +kernel)) ggL_law_X11_actCount
