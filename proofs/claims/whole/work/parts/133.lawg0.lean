/-! THE LAW'S WORDS FOR ITS CALLS -/
set_option maxRecDepth 20000 in
theorem ggL_law_X10_init : GoodIn wsL_law wsX10_init := goodIn_r _ [8, 9, 10, 11, 12, 13, 14, 15, 16, 17, 18, 19, 20, 21, 22, 23, 24, 25, 26, 27, 28, 29, 30, 31, 32, 33, 34, 35, 36, 37, 38, 39, 40, 41, 42, 43, 44, 45, 46, 47, 48, 49, 50, 51, 52, 53, 54, 55, 56, 57, 58, 59, 60, 61, 62, 63, 64, 65, 66, 67, 68, 69, 70, 71, 72, 73, 74, 75, 76, 77, 78, 79, 80, 81, 82, 83, 84, 85, 86, 87, 88, 89, 90, 91, 92, 93, 94, 95, 96, 97, 98, 99, 100, 101, 102, 103, 104, 105, 106, 107, 108, 109, 110, 111, 112, 113, 114, 115, 116, 117, 118, 119, 120, 121, 122, 123, 124, 125, 126, 127, 128, 129, 130, 131, 132, 133, 134, 135, 136, 137, 138, 139, 1333, 1334, 1335, 1336, 1337, 1338, 1339, 1340, 1341, 1342, 1343, 1344, 1345, 1346, 1347, 1348, 1302, 1303, 1304, 1305, 1306, 1307, 1308, 1309, 1310, 1311, 1312, 1313, 1349, 1350, 1351, 1352, 1353, 1354, 1355, 1356, 1357, 1358, 1359, 1360, 1361, 1362, 1363, 1364, 1365, 1366, 1367, 1368, 1369, 1370, 1371, 1372, 1373, 1374, 1375, 1376] (by decide +kernel) (by decide +kernel)
set_option maxRecDepth 20000 in
theorem gL_law_X10_init : GoodIn wsL_law (wsX10_init) := ggL_law_X10_init
set_option maxRecDepth 20000 in
theorem ggL_law_X11_init : GoodIn wsL_law wsX11_init := goodIn_r _ [142, 143, 10, 11, 55, 144, 61, 145, 146, 115, 147, 148, 149, 150, 1314, 1315, 1316, 1317, 1318, 1319, 1320, 1321, 1322, 1323, 1324, 1325, 1326, 1327, 1328, 1329, 1330, 1331, 1332] (by decide +kernel) (by decide +kernel)
set_option maxRecDepth 20000 in
theorem gL_law_X11_init : GoodIn wsL_law (wsX11_init) := ggL_law_X11_init
set_option maxRecDepth 20000 in
theorem ggL_law_X10_clear : GoodIn wsL_law wsX10_clear := goodIn_r _ [154, 15, 155, 21, 156, 157, 158, 14, 159, 160, 161, 162, 163, 164, 165, 166, 167, 20, 168, 169, 1302, 1303, 1304, 1305, 1306, 1307, 1308, 1309, 1310, 1311, 1312, 1313, 1333, 1334, 1335, 1336, 1337, 1338, 1339, 1340, 1341, 1342, 1343, 1344, 1345, 1346, 1347, 1348, 1349, 1350, 1351] (by decide +kernel) (by decide +kernel)
set_option maxRecDepth 20000 in
theorem gL_law_X10_clear : GoodIn wsL_law (wsV RL 13 RX10 yX10_clear wsX10_clear) := goodIn_app (goodIn_of _ (by decide +kernel)) ggL_law_X10_clear
set_option maxRecDepth 20000 in
theorem ggL_law_X11_clear : GoodIn wsL_law wsX11_clear := goodIn_r _ [173, 144, 145, 174, 1314, 1315, 1316, 1317, 1318, 1319, 1320, 1321, 1322, 1323, 1324, 1325, 1326, 1327, 1328, 1329, 1330, 1331, 1332] (by decide +kernel) (by decide +kernel)
set_option maxRecDepth 20000 in
theorem gL_law_X11_clear : GoodIn wsL_law (wsV RL 17 RX11 yX11_clear wsX11_clear) := goodIn_app (goodIn_of _ (by decide +kernel)) ggL_law_X11_clear
set_option maxRecDepth 20000 in
theorem ggL_law_X10_append : GoodIn wsL_law wsX10_append := goodIn_r _ [178, 45, 179, 180, 181, 44, 182, 183, 116, 1302, 1303, 1304, 1305, 1306, 1307, 1308, 1309, 1310, 1311, 1312, 1313, 1368, 1369, 1370, 1371, 1372] (by decide +kernel) (by decide +kernel)
set_option maxRecDepth 20000 in
theorem gL_law_X10_append : GoodIn wsL_law (wsV RL 18 RX10 yX10_append wsX10_append) := goodIn_app (goodIn_of _ (by decide +kernel)) ggL_law_X10_append
set_option maxRecDepth 20000 in
theorem ggL_law_X11_append : GoodIn wsL_law wsX11_append := goodIn_r _ [187, 188, 148, 189, 190, 5, 191, 1314, 1315, 1316, 1317, 1318, 1319, 1320, 1321, 1322, 1323, 1324, 1325, 1326, 1327, 1328, 1329, 1330, 1331, 1332] (by decide +kernel) (by decide +kernel)
set_option maxRecDepth 20000 in
theorem gL_law_X11_append : GoodIn wsL_law (wsV RL 22 RX11 yX11_append wsX11_append) := goodIn_app (goodIn_of _ (by decide +kernel)) ggL_law_X11_append
set_option maxRecDepth 20000 in
theorem ggL_law_X10_premise : GoodIn wsL_law wsX10_premise := goodIn_r _ [195, 21, 15, 33, 196, 197, 198, 20, 199, 73, 200, 201, 202, 203, 14, 204, 160, 56, 205, 206, 207, 208, 57, 58, 59, 161, 60, 62, 63, 162, 64, 65, 66, 67, 163, 164, 209, 210, 211, 32, 212, 92, 213, 94, 214, 215, 216, 217, 218, 219, 220, 24, 221, 79, 80, 81, 82, 222, 223, 224, 225, 169, 226, 227, 228, 229, 1302, 1303, 1304, 1305, 1306, 1307, 1308, 1309, 1310, 1311, 1312, 1313, 1349, 1350, 1351, 1333, 1334, 1335, 1336, 1337, 1338, 1339, 1340, 1341, 1342, 1343, 1344, 1345, 1346, 1347, 1348, 1357, 1358, 1359, 1352, 1353, 1354, 1355] (by decide +kernel) (by decide +kernel)
set_option maxRecDepth 20000 in
theorem gL_law_X10_premise : GoodIn wsL_law (wsV RL 23 RX10 yX10_premise wsX10_premise) := goodIn_app (goodIn_of _ (by decide +kernel)) ggL_law_X10_premise
set_option maxRecDepth 20000 in
theorem ggL_law_X11_premise : GoodIn wsL_law wsX11_premise := goodIn_r _ [233, 234, 235, 236, 5, 237, 238, 239, 240, 241, 144, 145, 242, 243, 244, 245, 189, 190, 191, 246, 247, 248, 249, 250, 251, 252, 253, 254, 255, 256, 174, 1314, 1315, 1316, 1317, 1318, 1319, 1320, 1321, 1322, 1323, 1324, 1325, 1326, 1327, 1328, 1329, 1330, 1331, 1332] (by decide +kernel) (by decide +kernel)
set_option maxRecDepth 20000 in
theorem gL_law_X11_premise : GoodIn wsL_law (wsV RL 27 RX11 yX11_premise wsX11_premise) := goodIn_app (goodIn_of _ (by decide +kernel)) ggL_law_X11_premise
set_option maxRecDepth 20000 in
theorem ggL_law_X10_conclusion : GoodIn wsL_law wsX10_conclusion := goodIn_r _ [260, 21, 15, 33, 196, 197, 198, 20, 199, 73, 200, 201, 202, 203, 14, 204, 160, 56, 205, 206, 207, 208, 57, 58, 59, 161, 60, 62, 63, 162, 64, 65, 66, 67, 163, 164, 209, 210, 211, 32, 212, 92, 213, 94, 214, 215, 216, 217, 218, 219, 220, 24, 221, 79, 80, 81, 82, 222, 223, 224, 225, 169, 226, 227, 228, 229, 1302, 1303, 1304, 1305, 1306, 1307, 1308, 1309, 1310, 1311, 1312, 1313, 1349, 1350, 1351, 1333, 1334, 1335, 1336, 1337, 1338, 1339, 1340, 1341, 1342, 1343, 1344, 1345, 1346, 1347, 1348, 1357, 1358, 1359, 1352, 1353, 1354, 1355] (by decide +kernel) (by decide +kernel)
set_option maxRecDepth 20000 in
theorem gL_law_X10_conclusion : GoodIn wsL_law (wsV RL 28 RX10 yX10_conclusion wsX10_conclusion) := goodIn_app (goodIn_of _ (by decide +kernel)) ggL_law_X10_conclusion
set_option maxRecDepth 20000 in
theorem ggL_law_X11_conclusion : GoodIn wsL_law wsX11_conclusion := goodIn_r _ [264, 234, 235, 236, 5, 237, 238, 239, 240, 241, 144, 145, 242, 243, 244, 245, 189, 190, 191, 246, 247, 248, 249, 250, 251, 252, 253, 254, 255, 256, 174, 1314, 1315, 1316, 1317, 1318, 1319, 1320, 1321, 1322, 1323, 1324, 1325, 1326, 1327, 1328, 1329, 1330, 1331, 1332] (by decide +kernel) (by decide +kernel)
set_option maxRecDepth 20000 in
theorem gL_law_X11_conclusion : GoodIn wsL_law (wsV RL 31 RX11 yX11_conclusion wsX11_conclusion) := goodIn_app (goodIn_of _ (by decide +kernel)) ggL_law_X11_conclusion
set_option maxRecDepth 20000 in
theorem ggL_law_X10_cart : GoodIn wsL_law wsX10_cart := goodIn_r _ [268, 21, 15, 33, 196, 197, 198, 20, 199, 73, 200, 201, 202, 203, 14, 204, 160, 56, 205, 206, 207, 208, 57, 58, 59, 161, 60, 62, 63, 162, 64, 65, 66, 67, 163, 164, 269, 270, 271, 32, 272, 92, 273, 94, 274, 275, 218, 219, 220, 24, 221, 79, 80, 81, 82, 276, 277, 278, 279, 280, 281, 282, 222, 223, 224, 225, 169, 226, 227, 228, 229, 1302, 1303, 1304, 1305, 1306, 1307, 1308, 1309, 1310, 1311, 1312, 1313, 1349, 1350, 1351, 1333, 1334, 1335, 1336, 1337, 1338, 1339, 1340, 1341, 1342, 1343, 1344, 1345, 1346, 1347, 1348, 1357, 1358, 1359, 1352, 1353, 1354, 1355] (by decide +kernel) (by decide +kernel)
set_option maxRecDepth 20000 in
theorem gL_law_X10_cart : GoodIn wsL_law (wsV RL 32 RX10 yX10_cart wsX10_cart) := goodIn_app (goodIn_of _ (by decide +kernel)) ggL_law_X10_cart
set_option maxRecDepth 20000 in
theorem ggL_law_X11_cart : GoodIn wsL_law wsX11_cart := goodIn_r _ [286, 234, 235, 236, 5, 237, 238, 239, 240, 241, 144, 145, 287, 288, 289, 290, 189, 190, 191, 246, 247, 248, 249, 250, 251, 252, 253, 254, 255, 256, 174, 1314, 1315, 1316, 1317, 1318, 1319, 1320, 1321, 1322, 1323, 1324, 1325, 1326, 1327, 1328, 1329, 1330, 1331, 1332] (by decide +kernel) (by decide +kernel)
set_option maxRecDepth 20000 in
theorem gL_law_X11_cart : GoodIn wsL_law (wsV RL 35 RX11 yX11_cart wsX11_cart) := goodIn_app (goodIn_of _ (by decide +kernel)) ggL_law_X11_cart
set_option maxRecDepth 20000 in
theorem ggL_law_X10_road : GoodIn wsL_law wsX10_road := goodIn_r _ [294, 21, 15, 33, 196, 197, 198, 20, 199, 73, 200, 201, 202, 203, 14, 204, 160, 56, 205, 206, 207, 208, 57, 58, 59, 161, 60, 62, 63, 162, 64, 65, 66, 67, 163, 164, 295, 296, 297, 32, 298, 92, 299, 94, 300, 301, 302, 303, 218, 219, 220, 24, 221, 79, 80, 81, 82, 222, 223, 224, 225, 169, 226, 227, 228, 229, 1302, 1303, 1304, 1305, 1306, 1307, 1308, 1309, 1310, 1311, 1312, 1313, 1349, 1350, 1351, 1333, 1334, 1335, 1336, 1337, 1338, 1339, 1340, 1341, 1342, 1343, 1344, 1345, 1346, 1347, 1348, 1357, 1358, 1359, 1352, 1353, 1354, 1355] (by decide +kernel) (by decide +kernel)
set_option maxRecDepth 20000 in
theorem gL_law_X10_road : GoodIn wsL_law (wsV RL 36 RX10 yX10_road wsX10_road) := goodIn_app (goodIn_of _ (by decide +kernel)) ggL_law_X10_road
set_option maxRecDepth 20000 in
theorem ggL_law_X11_road : GoodIn wsL_law wsX11_road := goodIn_r _ [307, 234, 235, 236, 5, 237, 238, 239, 240, 241, 144, 145, 308, 309, 310, 311, 189, 190, 191, 246, 247, 248, 249, 250, 251, 252, 253, 254, 255, 256, 174, 1314, 1315, 1316, 1317, 1318, 1319, 1320, 1321, 1322, 1323, 1324, 1325, 1326, 1327, 1328, 1329, 1330, 1331, 1332] (by decide +kernel) (by decide +kernel)
set_option maxRecDepth 20000 in
theorem gL_law_X11_road : GoodIn wsL_law (wsV RL 40 RX11 yX11_road wsX11_road) := goodIn_app (goodIn_of _ (by decide +kernel)) ggL_law_X11_road
