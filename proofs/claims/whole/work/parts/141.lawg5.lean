/-! THE LAW'S WORDS FOR ITS CALLS -/
set_option maxRecDepth 20000 in
theorem ggL_law_X10_meanWeight : GoodIn wsL_law wsX10_meanWeight := goodIn_r _ [1209, 15, 155, 760, 1302, 1303, 1304, 1305, 1306, 1307, 1308, 1309, 1310, 1311, 1312, 1313, 1333, 1334, 1335, 1336, 1337, 1338, 1339, 1340, 1341, 1342, 1343, 1344, 1345, 1346, 1347, 1348] (by decide +kernel) (by decide +kernel)
set_option maxRecDepth 20000 in
theorem gL_law_X10_meanWeight : GoodIn wsL_law (wsV RL 157 RX10 yX10_meanWeight wsX10_meanWeight) := goodIn_app (goodIn_of _ (by decide +kernel)) ggL_law_X10_meanWeight
set_option maxRecDepth 20000 in
theorem ggL_law_X11_meanWeight : GoodIn wsL_law wsX11_meanWeight := goodIn_r _ [1213, 144, 1214, 1215, 1216, 5, 1217, 357, 358, 359, 360, 1314, 1315, 1316, 1317, 1318, 1319, 1320, 1321, 1322, 1323, 1324, 1325, 1326, 1327, 1328, 1329, 1330, 1331, 1332] (by decide +kernel) (by decide +kernel)
set_option maxRecDepth 20000 in
theorem gL_law_X11_meanWeight : GoodIn wsL_law (wsV RL 161 RX11 yX11_meanWeight wsX11_meanWeight) := goodIn_app (goodIn_of _ (by decide +kernel)) ggL_law_X11_meanWeight
set_option maxRecDepth 20000 in
theorem ggL_law_X10_creakShare : GoodIn wsL_law wsX10_creakShare := goodIn_r _ [1221, 15, 1193, 29, 1222, 1223, 1224, 28, 1225, 87, 1226, 1227, 505, 506, 507, 499, 500, 501, 502, 503, 494, 495, 496, 497, 498, 408, 409, 410, 411, 412, 413, 414, 415, 416, 417, 418, 419, 420, 1302, 1303, 1304, 1305, 1306, 1307, 1308, 1309, 1310, 1311, 1312, 1313, 1333, 1334, 1335, 1336, 1337, 1338, 1339, 1340, 1341, 1342, 1343, 1344, 1345, 1346, 1347, 1348, 1356] (by decide +kernel) (by decide +kernel)
set_option maxRecDepth 20000 in
theorem gL_law_X10_creakShare : GoodIn wsL_law (wsV RL 162 RX10 yX10_creakShare wsX10_creakShare) := goodIn_app (goodIn_of _ (by decide +kernel)) ggL_law_X10_creakShare
set_option maxRecDepth 20000 in
theorem ggL_law_X11_creakShare : GoodIn wsL_law wsX11_creakShare := goodIn_r _ [1231, 144, 1232, 1233, 1234, 5, 1235, 373, 374, 375, 376, 369, 370, 371, 372, 365, 366, 367, 368, 357, 358, 359, 360, 555, 556, 557, 558, 547, 548, 549, 550, 542, 543, 544, 545, 546, 433, 434, 435, 436, 551, 552, 553, 554, 524, 525, 526, 527, 528, 529, 530, 531, 145, 1314, 1315, 1316, 1317, 1318, 1319, 1320, 1321, 1322, 1323, 1324, 1325, 1326, 1327, 1328, 1329, 1330, 1331, 1332] (by decide +kernel) (by decide +kernel)
set_option maxRecDepth 20000 in
theorem gL_law_X11_creakShare : GoodIn wsL_law (wsV RL 165 RX11 yX11_creakShare wsX11_creakShare) := goodIn_app (goodIn_of _ (by decide +kernel)) ggL_law_X11_creakShare
set_option maxRecDepth 20000 in
theorem ggL_law_X10_account : GoodIn wsL_law wsX10_account := goodIn_r _ [1239, 15, 155, 1193, 936, 29, 1240, 45, 1241, 21, 1242, 1243, 1244, 1245, 14, 1246, 160, 56, 1247, 1248, 1249, 1250, 58, 1251, 1252, 1253, 1254, 161, 462, 337, 338, 339, 340, 333, 334, 335, 57, 1222, 1223, 1224, 28, 1225, 87, 1226, 1227, 505, 506, 507, 499, 500, 501, 502, 503, 494, 495, 496, 497, 498, 408, 409, 410, 411, 412, 413, 414, 415, 416, 417, 418, 419, 420, 1255, 1256, 1257, 1258, 1259, 464, 465, 466, 467, 468, 469, 470, 471, 472, 473, 474, 62, 280, 281, 282, 1260, 1261, 1262, 1263, 63, 1302, 1303, 1304, 1305, 1306, 1307, 1308, 1309, 1310, 1311, 1312, 1313, 1333, 1334, 1335, 1336, 1337, 1338, 1339, 1340, 1341, 1342, 1343, 1344, 1345, 1346, 1347, 1348, 1368, 1369, 1370, 1371, 1372, 1349, 1350, 1351, 1356] (by decide +kernel) (by decide +kernel)
set_option maxRecDepth 20000 in
theorem gL_law_X10_account : GoodIn wsL_law (wsV RL 166 RX10 yX10_account wsX10_account) := goodIn_app (goodIn_of _ (by decide +kernel)) ggL_law_X10_account
set_option maxRecDepth 20000 in
theorem ggL_law_X11_account : GoodIn wsL_law wsX11_account := goodIn_r _ [1267, 144, 188, 174, 1268, 1269, 1270, 5, 1271, 357, 358, 359, 360, 1232, 1233, 1234, 1235, 373, 374, 375, 376, 369, 370, 371, 372, 365, 366, 367, 368, 555, 556, 557, 558, 547, 548, 549, 550, 542, 543, 544, 545, 546, 433, 434, 435, 436, 551, 552, 553, 554, 524, 525, 526, 527, 528, 529, 530, 531, 145, 1314, 1315, 1316, 1317, 1318, 1319, 1320, 1321, 1322, 1323, 1324, 1325, 1326, 1327, 1328, 1329, 1330, 1331, 1332] (by decide +kernel) (by decide +kernel)
set_option maxRecDepth 20000 in
theorem gL_law_X11_account : GoodIn wsL_law (wsV RL 169 RX11 yX11_account wsX11_account) := goodIn_app (goodIn_of _ (by decide +kernel)) ggL_law_X11_account
set_option maxRecDepth 20000 in
theorem ggL_law_X10_undo : GoodIn wsL_law wsX10_undo := goodIn_r _ [1275, 21, 15, 1276, 1277, 1278, 20, 1279, 169, 200, 73, 201, 202, 203, 14, 204, 160, 56, 205, 206, 207, 208, 57, 58, 59, 161, 60, 62, 63, 162, 64, 65, 66, 67, 163, 164, 1302, 1303, 1304, 1305, 1306, 1307, 1308, 1309, 1310, 1311, 1312, 1313, 1349, 1350, 1351, 1333, 1334, 1335, 1336, 1337, 1338, 1339, 1340, 1341, 1342, 1343, 1344, 1345, 1346, 1347, 1348] (by decide +kernel) (by decide +kernel)
set_option maxRecDepth 20000 in
theorem gL_law_X10_undo : GoodIn wsL_law (wsV RL 170 RX10 yX10_undo wsX10_undo) := goodIn_app (goodIn_of _ (by decide +kernel)) ggL_law_X10_undo
set_option maxRecDepth 20000 in
theorem ggL_law_X11_undo : GoodIn wsL_law wsX11_undo := goodIn_r _ [1283, 174, 238, 239, 240, 5, 241, 144, 145, 1314, 1315, 1316, 1317, 1318, 1319, 1320, 1321, 1322, 1323, 1324, 1325, 1326, 1327, 1328, 1329, 1330, 1331, 1332] (by decide +kernel) (by decide +kernel)
set_option maxRecDepth 20000 in
theorem gL_law_X11_undo : GoodIn wsL_law (wsV RL 173 RX11 yX11_undo wsX11_undo) := goodIn_app (goodIn_of _ (by decide +kernel)) ggL_law_X11_undo
set_option maxRecDepth 20000 in
theorem ggL_law_X10_save : GoodIn wsL_law wsX10_save := goodIn_r _ [1287, 16, 15, 17, 155, 1288, 202, 203, 14, 204, 160, 56, 205, 206, 207, 208, 57, 58, 59, 161, 60, 62, 63, 162, 64, 65, 66, 67, 163, 164, 1302, 1303, 1304, 1305, 1306, 1307, 1308, 1309, 1310, 1311, 1312, 1313, 1333, 1334, 1335, 1336, 1337, 1338, 1339, 1340, 1341, 1342, 1343, 1344, 1345, 1346, 1347, 1348] (by decide +kernel) (by decide +kernel)
set_option maxRecDepth 20000 in
theorem gL_law_X10_save : GoodIn wsL_law (wsV RL 174 RX10 yX10_save wsX10_save) := goodIn_app (goodIn_of _ (by decide +kernel)) ggL_law_X10_save
set_option maxRecDepth 20000 in
theorem ggL_law_X11_save : GoodIn wsL_law wsX11_save := goodIn_r _ [1292, 1293, 144, 238, 239, 240, 5, 241, 145, 1314, 1315, 1316, 1317, 1318, 1319, 1320, 1321, 1322, 1323, 1324, 1325, 1326, 1327, 1328, 1329, 1330, 1331, 1332] (by decide +kernel) (by decide +kernel)
set_option maxRecDepth 20000 in
theorem gL_law_X11_save : GoodIn wsL_law (wsV RL 177 RX11 yX11_save wsX11_save) := goodIn_app (goodIn_of _ (by decide +kernel)) ggL_law_X11_save
set_option maxRecDepth 20000 in
theorem ggL_law_X10_restore : GoodIn wsL_law wsX10_restore := goodIn_r _ [1297, 17, 15, 16, 21, 155, 1288, 202, 203, 14, 204, 160, 56, 205, 206, 207, 208, 57, 58, 59, 161, 60, 62, 63, 162, 64, 65, 66, 67, 163, 164, 165, 166, 167, 20, 168, 169, 1302, 1303, 1304, 1305, 1306, 1307, 1308, 1309, 1310, 1311, 1312, 1313, 1333, 1334, 1335, 1336, 1337, 1338, 1339, 1340, 1341, 1342, 1343, 1344, 1345, 1346, 1347, 1348, 1349, 1350, 1351] (by decide +kernel) (by decide +kernel)
set_option maxRecDepth 20000 in
theorem gL_law_X10_restore : GoodIn wsL_law (wsV RL 178 RX10 yX10_restore wsX10_restore) := goodIn_app (goodIn_of _ (by decide +kernel)) ggL_law_X10_restore
set_option maxRecDepth 20000 in
theorem ggL_law_X11_restore : GoodIn wsL_law wsX11_restore := goodIn_r _ [1301, 1293, 174, 144, 238, 239, 240, 5, 241, 145, 1314, 1315, 1316, 1317, 1318, 1319, 1320, 1321, 1322, 1323, 1324, 1325, 1326, 1327, 1328, 1329, 1330, 1331, 1332] (by decide +kernel) (by decide +kernel)
set_option maxRecDepth 20000 in
theorem gL_law_X11_restore : GoodIn wsL_law (wsV RL 181 RX11 yX11_restore wsX11_restore) := goodIn_app (goodIn_of _ (by decide +kernel)) ggL_law_X11_restore
