set_option maxRecDepth 20000 in
theorem ggL_law_X12_actCount : GoodIn wsL_law wsX12_actCount := goodIn_r _ [1337, 266, 271, 1419, 1420, 1421, 1422, 1423, 1424, 1425, 1426, 1427, 1428, 1429, 1430, 1431, 1432, 1433, 1434, 1435, 1436, 1437, 1438] (by decide +kernel) (by decide +kernel)
set_option maxRecDepth 20000 in
theorem gL_law_X12_actCount : GoodIn wsL_law (wsV RL 291 RX12 yX12_actCount wsX12_actCount) := goodIn_app (goodIn_of _ (by decide +kernel)) ggL_law_X12_actCount
set_option maxRecDepth 20000 in
theorem ggL_law_X11_meanAge : GoodIn wsL_law wsX11_meanAge := goodIn_r _ [1341, 37, 531, 1405, 1406, 1407, 1408, 1409, 1410, 1411, 1412, 1413, 1414, 1415, 1416, 1417, 1418, 1472] (by decide +kernel) (by decide +kernel)
set_option maxRecDepth 20000 in
theorem gL_law_X11_meanAge : GoodIn wsL_law (wsV RL 292 RX11 yX11_meanAge wsX11_meanAge) := goodIn_app (goodIn_of _ (by decide +kernel)) ggL_law_X11_meanAge
set_option maxRecDepth 20000 in
theorem ggL_law_X12_meanAge : GoodIn wsL_law wsX12_meanAge := goodIn_r _ [1345, 266, 148, 800, 801, 802, 5, 803, 1419, 1420, 1421, 1422, 1423, 1424, 1425, 1426, 1427, 1428, 1429, 1430, 1431, 1432, 1433, 1434, 1435, 1436, 1437, 1438] (by decide +kernel) (by decide +kernel)
set_option maxRecDepth 20000 in
theorem gL_law_X12_meanAge : GoodIn wsL_law (wsV RL 296 RX12 yX12_meanAge wsX12_meanAge) := goodIn_app (goodIn_of _ (by decide +kernel)) ggL_law_X12_meanAge
set_option maxRecDepth 20000 in
theorem ggL_law_X11_thrownShare : GoodIn wsL_law wsX11_thrownShare := goodIn_r _ [1349, 17, 174, 610, 1405, 1406, 1407, 1408, 1409, 1410, 1411, 1412, 1413, 1414, 1415, 1416, 1417, 1418, 1439, 1440, 1441, 1442] (by decide +kernel) (by decide +kernel)
set_option maxRecDepth 20000 in
theorem gL_law_X11_thrownShare : GoodIn wsL_law (wsV RL 297 RX11 yX11_thrownShare wsX11_thrownShare) := goodIn_app (goodIn_of _ (by decide +kernel)) ggL_law_X11_thrownShare
set_option maxRecDepth 20000 in
theorem ggL_law_X12_thrownShare : GoodIn wsL_law wsX12_thrownShare := goodIn_r _ [1353, 266, 148, 1419, 1420, 1421, 1422, 1423, 1424, 1425, 1426, 1427, 1428, 1429, 1430, 1431, 1432, 1433, 1434, 1435, 1436, 1437, 1438] (by decide +kernel) (by decide +kernel)
set_option maxRecDepth 20000 in
theorem gL_law_X12_thrownShare : GoodIn wsL_law (wsV RL 301 RX12 yX12_thrownShare wsX12_thrownShare) := goodIn_app (goodIn_of _ (by decide +kernel)) ggL_law_X12_thrownShare
set_option maxRecDepth 20000 in
theorem ggL_law_X11_checksum : GoodIn wsL_law wsX11_checksum := goodIn_r _ [1357, 1358, 29, 504, 1359, 17, 172, 25, 464, 529, 562, 21, 299, 37, 531, 1405, 1406, 1407, 1408, 1409, 1410, 1411, 1412, 1413, 1414, 1415, 1416, 1417, 1418, 1459, 1460, 1461, 1462, 1463, 1439, 1440, 1441, 1442, 1451, 1452, 1453, 1454, 1455, 1456, 1457, 1458, 1443, 1444, 1445, 1446, 1447, 1448, 1449, 1450, 1472] (by decide +kernel) (by decide +kernel)
set_option maxRecDepth 20000 in
theorem gL_law_X11_checksum : GoodIn wsL_law (wsV RL 302 RX11 yX11_checksum wsX11_checksum) := goodIn_app (goodIn_of _ (by decide +kernel)) ggL_law_X11_checksum
set_option maxRecDepth 20000 in
theorem ggL_law_X12_checksum : GoodIn wsL_law wsX12_checksum := goodIn_r _ [1363, 266, 1364, 148, 1365, 1419, 1420, 1421, 1422, 1423, 1424, 1425, 1426, 1427, 1428, 1429, 1430, 1431, 1432, 1433, 1434, 1435, 1436, 1437, 1438] (by decide +kernel) (by decide +kernel)
set_option maxRecDepth 20000 in
theorem gL_law_X12_checksum : GoodIn wsL_law (wsV RL 306 RX12 yX12_checksum wsX12_checksum) := goodIn_app (goodIn_of _ (by decide +kernel)) ggL_law_X12_checksum
set_option maxRecDepth 20000 in
theorem ggL_law_X11_errors : GoodIn wsL_law wsX11_errors := goodIn_r _ [1369, 17, 174, 33, 49, 1370, 1371, 1372, 2, 1373, 823, 610, 25, 1232, 1233, 1234, 16, 1235, 63, 1236, 1237, 1238, 24, 1239, 223, 82, 80, 1240, 1241, 1242, 1243, 21, 299, 37, 300, 824, 825, 826, 36, 827, 107, 1374, 1375, 1376, 32, 1377, 102, 707, 99, 1378, 704, 705, 706, 98, 708, 709, 710, 711, 96, 103, 712, 97, 713, 714, 715, 101, 716, 717, 718, 719, 720, 721, 722, 723, 724, 514, 511, 515, 725, 726, 517, 518, 28, 519, 88, 520, 179, 180, 727, 728, 729, 730, 731, 732, 733, 734, 735, 736, 737, 738, 739, 1379, 766, 767, 768, 769, 770, 771, 772, 1380, 782, 783, 784, 1381, 1382, 1383, 1384, 100, 1385, 357, 358, 359, 1386, 1387, 1388, 1389, 1390, 1391, 1392, 1393, 1394, 1395, 1396, 1397, 48, 1398, 249, 131, 1078, 1399, 1075, 1076, 1077, 1079, 1080, 1081, 130, 1082, 207, 208, 209, 1083, 1084, 1085, 1086, 125, 1087, 1088, 1089, 126, 1090, 1091, 1092, 1093, 128, 127, 1094, 129, 1400, 1148, 1149, 1150, 1405, 1406, 1407, 1408, 1409, 1410, 1411, 1412, 1413, 1414, 1415, 1416, 1417, 1418, 1439, 1440, 1441, 1442, 1451, 1452, 1453, 1454, 1455, 1456, 1457, 1458, 1443, 1444, 1445, 1446, 1447, 1448, 1449, 1450, 1472, 1464, 1465, 1466, 1467, 1468, 1469, 1470, 1471, 1459, 1460, 1461, 1462, 1463, 1482, 1483, 1484, 1485, 1486, 1487, 1488, 1489, 1490] (by decide +kernel) (by decide +kernel)
set_option maxRecDepth 20000 in
theorem gL_law_X11_errors : GoodIn wsL_law (wsV RL 307 RX11 yX11_errors wsX11_errors) := goodIn_app (goodIn_of _ (by decide +kernel)) ggL_law_X11_errors
set_option maxRecDepth 20000 in
theorem ggL_law_X12_errors : GoodIn wsL_law wsX12_errors := goodIn_r _ [1404, 266, 1419, 1420, 1421, 1422, 1423, 1424, 1425, 1426, 1427, 1428, 1429, 1430, 1431, 1432, 1433, 1434, 1435, 1436, 1437, 1438] (by decide +kernel) (by decide +kernel)
set_option maxRecDepth 20000 in
theorem gL_law_X12_errors : GoodIn wsL_law (wsV RL 310 RX12 yX12_errors wsX12_errors) := goodIn_app (goodIn_of _ (by decide +kernel)) ggL_law_X12_errors

