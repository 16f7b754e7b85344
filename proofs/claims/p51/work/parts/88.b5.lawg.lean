/-! ===== THE LAW'S OWN WORDS 5 ===== -/
set_option maxRecDepth 20000 in
theorem lt_wsL_holds_27 : GoodIn lw_tbl2 wsL_holds_r28 := goodIn_r _ [141, 1161, 1162, 1163, 1164, 1165, 1166, 1167, 1168, 1170, 24, 1171, 1172, 1174, 25, 1175, 1176, 1177, 1178, 1179, 1180, 1181, 1182, 1183] (by decide +kernel) (by decide +kernel)
set_option maxRecDepth 20000 in
theorem lt_wsL_holds_28 : GoodIn lw_tbl2 wsL_holds_r29 := goodIn_r _ [1184, 1186, 26, 1187, 1188, 1190, 1192, 27, 1193, 1194, 1196, 1197, 1198, 1199, 1200, 422, 258, 1201, 1202, 1203, 63, 1204, 253, 198] (by decide +kernel) (by decide +kernel)
set_option maxRecDepth 20000 in
theorem lt_wsL_holds_29 : GoodIn lw_tbl2 wsL_holds_r30 := goodIn_r _ [257, 1205, 1207, 28, 1208, 255, 254, 224, 256, 180, 190, 193, 252, 151, 140, 187, 143, 1209, 1211, 29, 1212, 1214, 1215, 1213] (by decide +kernel) (by decide +kernel)
set_option maxRecDepth 20000 in
theorem lt_wsL_holds_30 : GoodIn lw_tbl2 wsL_holds_r31 := goodIn_r _ [1216, 1218, 30, 1219, 1220, 1222, 31, 1223, 229, 1224, 1226, 32, 1227, 1228, 1229, 1230, 1231, 1232, 1233, 1234, 1235, 1236, 1238, 33] (by decide +kernel) (by decide +kernel)
set_option maxRecDepth 20000 in
theorem lt_wsL_holds_31 : GoodIn lw_tbl2 wsL_holds_r32 := goodIn_r _ [1239, 1240, 1241, 1242, 1243, 1244, 1245, 1246, 1247, 1248, 1250, 34, 1251, 1252, 1253, 1255, 35, 1256, 1267, 1257, 1258, 1259, 1260, 1261] (by decide +kernel) (by decide +kernel)
set_option maxRecDepth 20000 in
theorem lt_wsL_holds_32 : GoodIn lw_tbl2 wsL_holds_r33 := goodIn_r _ [1262, 1263, 1264, 1265, 1266, 1268, 1269, 1270, 1271, 1272, 1273, 1274, 1275, 1276, 1277, 1278, 1279, 1280, 1281, 1282, 1283, 1284, 1285, 1286] (by decide +kernel) (by decide +kernel)
set_option maxRecDepth 20000 in
theorem lt_wsL_holds_33 : GoodIn lw_tbl2 wsL_holds_r34 := goodIn_r _ [1287, 1288, 1289, 1290, 1291, 1292, 1293, 1295, 36, 1296, 1297, 1298, 1299, 1300, 1301, 1302, 1303, 1304, 1305, 1306, 1307, 1308, 1309, 1310] (by decide +kernel) (by decide +kernel)
set_option maxRecDepth 20000 in
theorem lt_wsL_holds_34 : GoodIn lw_tbl2 wsL_holds_r35 := goodIn_r _ [1311, 1312, 1313, 1314, 1315, 1316, 1317, 1318, 1319, 1320, 1321, 1322, 1323, 1324, 1325, 1326, 1327, 1328, 1329, 1331, 37, 1332, 1333, 1415] (by decide +kernel) (by decide +kernel)
set_option maxRecDepth 20000 in
theorem lt_wsL_holds_35 : GoodIn lw_tbl2 wsL_holds_r36 := goodIn_r _ [1416, 1427, 1428, 1429, 1430, 1334, 1335, 1336, 1337, 298, 296, 300, 1338, 1339, 1340, 1341, 302, 304, 1342, 1343, 1344, 1345, 303, 1346] (by decide +kernel) (by decide +kernel)
set_option maxRecDepth 20000 in
theorem lt_wsL_holds_36 : GoodIn lw_tbl2 wsL_holds_r37 := goodIn_r _ [1347, 1348, 1349, 1351, 38, 1352, 305, 306, 1353, 1355, 39, 1356, 301, 1357, 1359, 40, 1360, 1362, 1364, 41, 1365, 1366, 1367, 1368] (by decide +kernel) (by decide +kernel)
