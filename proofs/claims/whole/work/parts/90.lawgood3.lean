set_option maxRecDepth 20000 in
theorem ggL_law_X12_doughAt : GoodIn wsL_law wsX12_doughAt := goodIn_r _ [598, 148, 579, 580, 581, 5, 582, 259, 260, 261, 262, 263, 264, 265, 266, 599, 600, 601, 602, 1419, 1420, 1421, 1422, 1423, 1424, 1425, 1426, 1427, 1428, 1429, 1430, 1431, 1432, 1433, 1434, 1435, 1436, 1437, 1438] (by decide +kernel) (by decide +kernel)
set_option maxRecDepth 20000 in
theorem gL_law_X12_doughAt : GoodIn wsL_law (wsV RL 187 RX12 yX12_doughAt wsX12_doughAt) := goodIn_app (goodIn_of _ (by decide +kernel)) ggL_law_X12_doughAt
set_option maxRecDepth 20000 in
theorem ggL_law_L_throwAway : GoodIn wsL_law wsL_throwAway := goodIn_ca (goodIn_ca (goodIn_r _ [605, 164, 166, 606, 607, 608, 2, 609, 25, 529, 17, 610, 594, 563, 564, 565, 566, 464, 178, 179, 180, 181, 182, 183, 184, 185, 611, 612, 613, 24, 614, 82, 191, 192, 193, 194, 195, 196, 197, 198, 199, 200, 201, 59, 21, 29, 37, 41, 45, 49, 202, 203, 204, 16, 205, 63, 206, 207, 208, 209, 210, 211, 212, 213, 214, 215, 20, 216, 217, 73, 218, 74, 219, 220, 221, 222, 223, 81, 224, 83, 84, 225, 226, 227, 28, 228, 229, 88, 89, 90, 91, 230, 231, 232, 36, 233, 107, 234, 235, 236, 237, 40, 238, 112, 239, 113, 114, 240, 241, 242, 44, 243, 121, 244, 245, 246, 247, 48, 248, 249, 1405, 1406, 1407, 1408, 1409, 1410, 1411, 1412, 1413, 1414, 1415, 1416, 1417, 1418, 1451, 1452, 1453, 1454, 1455, 1456, 1457, 1458, 1439, 1440, 1441, 1442, 1443, 1444, 1445, 1446, 1447, 1448, 1449, 1450, 1459, 1460, 1461, 1462, 1463, 1472, 1473, 1474, 1475, 1476, 1477, 1478, 1479, 1480, 1481, 1482, 1483, 1484, 1485, 1486, 1487, 1488, 1489, 1490] (by decide +kernel) (by decide +kernel)) (goodIn_sub (fun _ h => List.mem_append_left _ (List.mem_append_left _ (List.mem_append_left _ (List.mem_append_right _ h)))) (by decide +kernel))) (goodIn_sub (fun _ h => List.mem_append_left _ (List.mem_append_right _ h)) (by decide +kernel))
set_option maxRecDepth 20000 in
theorem gL_law_L_throwAway : GoodIn wsL_law (va_wsS RL 188 yL_throwAway wsL_throwAway) := goodIn_app (goodIn_of _ (by decide +kernel)) ggL_law_L_throwAway
set_option maxRecDepth 20000 in
theorem ggL_law_X12_throwAway : GoodIn wsL_law wsX12_throwAway := goodIn_r _ [618, 148, 579, 580, 581, 5, 582, 259, 260, 261, 262, 263, 264, 265, 266, 619, 620, 621, 622, 267, 268, 269, 270, 271, 272, 149, 273, 274, 275, 276, 599, 600, 601, 602, 1419, 1420, 1421, 1422, 1423, 1424, 1425, 1426, 1427, 1428, 1429, 1430, 1431, 1432, 1433, 1434, 1435, 1436, 1437, 1438] (by decide +kernel) (by decide +kernel)
set_option maxRecDepth 20000 in
theorem gL_law_X12_throwAway : GoodIn wsL_law (wsV RL 190 RX12 yX12_throwAway wsX12_throwAway) := goodIn_app (goodIn_of _ (by decide +kernel)) ggL_law_X12_throwAway
set_option maxRecDepth 20000 in
theorem ggL_law_X11_doughCount : GoodIn wsL_law wsX11_doughCount := goodIn_r _ [626, 25, 464, 1405, 1406, 1407, 1408, 1409, 1410, 1411, 1412, 1413, 1414, 1415, 1416, 1417, 1418, 1451, 1452, 1453, 1454, 1455, 1456, 1457, 1458] (by decide +kernel) (by decide +kernel)
set_option maxRecDepth 20000 in
theorem gL_law_X11_doughCount : GoodIn wsL_law (wsV RL 191 RX11 yX11_doughCount wsX11_doughCount) := goodIn_app (goodIn_of _ (by decide +kernel)) ggL_law_X11_doughCount
set_option maxRecDepth 20000 in
theorem ggL_law_X12_doughCount : GoodIn wsL_law wsX12_doughCount := goodIn_r _ [630, 266, 148, 1419, 1420, 1421, 1422, 1423, 1424, 1425, 1426, 1427, 1428, 1429, 1430, 1431, 1432, 1433, 1434, 1435, 1436, 1437, 1438] (by decide +kernel) (by decide +kernel)
set_option maxRecDepth 20000 in
theorem gL_law_X12_doughCount : GoodIn wsL_law (wsV RL 194 RX12 yX12_doughCount wsX12_doughCount) := goodIn_app (goodIn_of _ (by decide +kernel)) ggL_law_X12_doughCount
set_option maxRecDepth 20000 in
theorem ggL_law_L_setHeat : GoodIn wsL_law wsL_setHeat := goodIn_ca (goodIn_r _ [633, 165, 634, 635, 636, 2, 637, 29, 638, 639, 178, 179, 180, 186, 187, 188, 189, 190, 196, 197, 198, 199, 200, 201, 17, 59, 21, 25, 37, 41, 45, 49, 202, 203, 204, 16, 205, 63, 206, 207, 208, 209, 210, 211, 212, 213, 214, 215, 20, 216, 217, 73, 218, 74, 219, 220, 221, 24, 222, 223, 81, 224, 82, 83, 84, 225, 226, 227, 28, 228, 229, 88, 89, 90, 91, 230, 231, 232, 36, 233, 107, 234, 235, 236, 237, 40, 238, 112, 239, 113, 114, 240, 241, 242, 44, 243, 121, 244, 245, 246, 247, 48, 248, 249, 1405, 1406, 1407, 1408, 1409, 1410, 1411, 1412, 1413, 1414, 1415, 1416, 1417, 1418, 1459, 1460, 1461, 1462, 1463, 1439, 1440, 1441, 1442, 1443, 1444, 1445, 1446, 1447, 1448, 1449, 1450, 1451, 1452, 1453, 1454, 1455, 1456, 1457, 1458, 1472, 1473, 1474, 1475, 1476, 1477, 1478, 1479, 1480, 1481, 1482, 1483, 1484, 1485, 1486, 1487, 1488, 1489, 1490] (by decide +kernel) (by decide +kernel)) (goodIn_sub (fun _ h => List.mem_append_left _ (List.mem_append_left _ (List.mem_append_right _ h))) (by decide +kernel))
set_option maxRecDepth 20000 in
theorem gL_law_L_setHeat : GoodIn wsL_law (va_wsS RL 195 yL_setHeat wsL_setHeat) := goodIn_app (goodIn_of _ (by decide +kernel)) ggL_law_L_setHeat
set_option maxRecDepth 20000 in
theorem ggL_law_X12_setHeat : GoodIn wsL_law wsX12_setHeat := goodIn_r _ [643, 148, 259, 260, 5, 261, 262, 263, 264, 265, 266, 267, 268, 269, 270, 271, 272, 149, 273, 274, 275, 276, 1419, 1420, 1421, 1422, 1423, 1424, 1425, 1426, 1427, 1428, 1429, 1430, 1431, 1432, 1433, 1434, 1435, 1436, 1437, 1438] (by decide +kernel) (by decide +kernel)
set_option maxRecDepth 20000 in
theorem gL_law_X12_setHeat : GoodIn wsL_law (wsV RL 197 RX12 yX12_setHeat wsX12_setHeat) := goodIn_app (goodIn_of _ (by decide +kernel)) ggL_law_X12_setHeat
set_option maxRecDepth 20000 in
theorem ggL_law_X11_heat : GoodIn wsL_law wsX11_heat := goodIn_r _ [647, 29, 639, 1405, 1406, 1407, 1408, 1409, 1410, 1411, 1412, 1413, 1414, 1415, 1416, 1417, 1418, 1459, 1460, 1461, 1462, 1463] (by decide +kernel) (by decide +kernel)
set_option maxRecDepth 20000 in
theorem gL_law_X11_heat : GoodIn wsL_law (wsV RL 198 RX11 yX11_heat wsX11_heat) := goodIn_app (goodIn_of _ (by decide +kernel)) ggL_law_X11_heat
set_option maxRecDepth 20000 in
theorem ggL_law_X12_heat : GoodIn wsL_law wsX12_heat := goodIn_r _ [651, 266, 148, 1419, 1420, 1421, 1422, 1423, 1424, 1425, 1426, 1427, 1428, 1429, 1430, 1431, 1432, 1433, 1434, 1435, 1436, 1437, 1438] (by decide +kernel) (by decide +kernel)
set_option maxRecDepth 20000 in
theorem gL_law_X12_heat : GoodIn wsL_law (wsV RL 201 RX12 yX12_heat wsX12_heat) := goodIn_app (goodIn_of _ (by decide +kernel)) ggL_law_X12_heat
set_option maxRecDepth 20000 in
theorem ggL_law_L_setDecks : GoodIn wsL_law wsL_setDecks := goodIn_ca (goodIn_r _ [654, 165, 655, 656, 657, 2, 658, 29, 659, 178, 179, 180, 186, 187, 188, 189, 190, 196, 197, 198, 199, 200, 201, 17, 59, 21, 25, 37, 41, 45, 49, 202, 203, 204, 16, 205, 63, 206, 207, 208, 209, 210, 211, 212, 213, 214, 215, 20, 216, 217, 73, 218, 74, 219, 220, 221, 24, 222, 223, 81, 224, 82, 83, 84, 225, 226, 227, 28, 228, 229, 88, 89, 90, 91, 230, 231, 232, 36, 233, 107, 234, 235, 236, 237, 40, 238, 112, 239, 113, 114, 240, 241, 242, 44, 243, 121, 244, 245, 246, 247, 48, 248, 249, 1405, 1406, 1407, 1408, 1409, 1410, 1411, 1412, 1413, 1414, 1415, 1416, 1417, 1418, 1459, 1460, 1461, 1462, 1463, 1439, 1440, 1441, 1442, 1443, 1444, 1445, 1446, 1447, 1448, 1449, 1450, 1451, 1452, 1453, 1454, 1455, 1456, 1457, 1458, 1472, 1473, 1474, 1475, 1476, 1477, 1478, 1479, 1480, 1481, 1482, 1483, 1484, 1485, 1486, 1487, 1488, 1489, 1490] (by decide +kernel) (by decide +kernel)) (goodIn_sub (fun _ h => List.mem_append_left _ (List.mem_append_left _ (List.mem_append_right _ h))) (by decide +kernel))
set_option maxRecDepth 20000 in
theorem gL_law_L_setDecks : GoodIn wsL_law (va_wsS RL 202 yL_setDecks wsL_setDecks) := goodIn_app (goodIn_of _ (by decide +kernel)) ggL_law_L_setDecks
