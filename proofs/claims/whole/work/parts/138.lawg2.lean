/-! THE LAW'S WORDS FOR ITS CALLS -/
set_option maxRecDepth 20000 in
theorem ggL_law_X10_reason : GoodIn wsL_law wsX10_reason := goodIn_r _ [746, 25, 747, 748, 749, 750, 1302, 1303, 1304, 1305, 1306, 1307, 1308, 1309, 1310, 1311, 1312, 1313, 1352, 1353, 1354, 1355] (by decide +kernel) (by decide +kernel)
set_option maxRecDepth 20000 in
theorem gL_law_X10_reason : GoodIn wsL_law (wsV RL 70 RX10 yX10_reason wsX10_reason) := goodIn_app (goodIn_of _ (by decide +kernel)) ggL_law_X10_reason
set_option maxRecDepth 20000 in
theorem ggL_law_X11_reason : GoodIn wsL_law wsX11_reason := goodIn_r _ [754, 250, 252, 251, 697, 189, 190, 5, 191, 1314, 1315, 1316, 1317, 1318, 1319, 1320, 1321, 1322, 1323, 1324, 1325, 1326, 1327, 1328, 1329, 1330, 1331, 1332] (by decide +kernel) (by decide +kernel)
set_option maxRecDepth 20000 in
theorem gL_law_X11_reason : GoodIn wsL_law (wsV RL 74 RX11 yX11_reason wsX11_reason) := goodIn_app (goodIn_of _ (by decide +kernel)) ggL_law_X11_reason
set_option maxRecDepth 20000 in
theorem ggL_law_X10_thingOf : GoodIn wsL_law wsX10_thingOf := goodIn_r _ [758, 15, 759, 760, 761, 762, 763, 321, 322, 14, 323, 160, 1302, 1303, 1304, 1305, 1306, 1307, 1308, 1309, 1310, 1311, 1312, 1313, 1333, 1334, 1335, 1336, 1337, 1338, 1339, 1340, 1341, 1342, 1343, 1344, 1345, 1346, 1347, 1348] (by decide +kernel) (by decide +kernel)
set_option maxRecDepth 20000 in
theorem gL_law_X10_thingOf : GoodIn wsL_law (wsV RL 75 RX10 yX10_thingOf wsX10_thingOf) := goodIn_app (goodIn_of _ (by decide +kernel)) ggL_law_X10_thingOf
set_option maxRecDepth 20000 in
theorem ggL_law_X11_thingOf : GoodIn wsL_law wsX11_thingOf := goodIn_r _ [767, 349, 350, 351, 5, 352, 144, 189, 190, 191, 357, 358, 359, 360, 1314, 1315, 1316, 1317, 1318, 1319, 1320, 1321, 1322, 1323, 1324, 1325, 1326, 1327, 1328, 1329, 1330, 1331, 1332] (by decide +kernel) (by decide +kernel)
set_option maxRecDepth 20000 in
theorem gL_law_X11_thingOf : GoodIn wsL_law (wsV RL 78 RX11 yX11_thingOf wsX11_thingOf) := goodIn_app (goodIn_of _ (by decide +kernel)) ggL_law_X11_thingOf
set_option maxRecDepth 20000 in
theorem ggL_law_X10_cartOf : GoodIn wsL_law wsX10_cartOf := goodIn_r _ [771, 15, 772, 773, 29, 774, 325, 326, 14, 327, 161, 775, 455, 456, 457, 160, 58, 56, 776, 333, 334, 335, 57, 777, 329, 330, 331, 59, 778, 337, 338, 339, 340, 779, 402, 403, 28, 404, 405, 406, 228, 407, 408, 409, 410, 411, 87, 412, 413, 414, 415, 416, 417, 418, 419, 420, 780, 505, 506, 507, 499, 500, 501, 502, 503, 494, 495, 496, 497, 498, 1302, 1303, 1304, 1305, 1306, 1307, 1308, 1309, 1310, 1311, 1312, 1313, 1333, 1334, 1335, 1336, 1337, 1338, 1339, 1340, 1341, 1342, 1343, 1344, 1345, 1346, 1347, 1348, 1356] (by decide +kernel) (by decide +kernel)
set_option maxRecDepth 20000 in
theorem gL_law_X10_cartOf : GoodIn wsL_law (wsV RL 79 RX10 yX10_cartOf wsX10_cartOf) := goodIn_app (goodIn_of _ (by decide +kernel)) ggL_law_X10_cartOf
set_option maxRecDepth 20000 in
theorem ggL_law_X11_cartOf : GoodIn wsL_law wsX11_cartOf := goodIn_r _ [784, 144, 353, 354, 355, 5, 356, 189, 190, 191, 551, 552, 553, 554, 369, 370, 371, 372, 365, 366, 367, 368, 357, 358, 359, 360, 361, 362, 363, 364, 373, 374, 375, 376, 429, 430, 431, 432, 433, 434, 435, 436, 437, 438, 439, 555, 556, 557, 558, 547, 548, 549, 550, 542, 543, 544, 545, 546, 1314, 1315, 1316, 1317, 1318, 1319, 1320, 1321, 1322, 1323, 1324, 1325, 1326, 1327, 1328, 1329, 1330, 1331, 1332] (by decide +kernel) (by decide +kernel)
set_option maxRecDepth 20000 in
theorem gL_law_X11_cartOf : GoodIn wsL_law (wsV RL 82 RX11 yX11_cartOf wsX11_cartOf) := goodIn_app (goodIn_of _ (by decide +kernel)) ggL_law_X11_cartOf
set_option maxRecDepth 20000 in
theorem ggL_law_X10_at : GoodIn wsL_law wsX10_at := goodIn_r _ [788, 15, 774, 325, 326, 14, 327, 161, 777, 329, 330, 331, 160, 58, 59, 1302, 1303, 1304, 1305, 1306, 1307, 1308, 1309, 1310, 1311, 1312, 1313, 1333, 1334, 1335, 1336, 1337, 1338, 1339, 1340, 1341, 1342, 1343, 1344, 1345, 1346, 1347, 1348] (by decide +kernel) (by decide +kernel)
set_option maxRecDepth 20000 in
theorem gL_law_X10_at : GoodIn wsL_law (wsV RL 83 RX10 yX10_at wsX10_at) := goodIn_app (goodIn_of _ (by decide +kernel)) ggL_law_X10_at
set_option maxRecDepth 20000 in
theorem ggL_law_X11_at : GoodIn wsL_law wsX11_at := goodIn_r _ [792, 353, 354, 355, 5, 356, 144, 189, 190, 191, 361, 362, 363, 364, 365, 366, 367, 368, 357, 358, 359, 360, 1314, 1315, 1316, 1317, 1318, 1319, 1320, 1321, 1322, 1323, 1324, 1325, 1326, 1327, 1328, 1329, 1330, 1331, 1332] (by decide +kernel) (by decide +kernel)
set_option maxRecDepth 20000 in
theorem gL_law_X11_at : GoodIn wsL_law (wsV RL 86 RX11 yX11_at wsX11_at) := goodIn_app (goodIn_of _ (by decide +kernel)) ggL_law_X11_at
set_option maxRecDepth 20000 in
theorem ggL_law_X10_roadOf : GoodIn wsL_law wsX10_roadOf := goodIn_r _ [796, 15, 797, 798, 799, 800, 801, 451, 452, 14, 453, 162, 1302, 1303, 1304, 1305, 1306, 1307, 1308, 1309, 1310, 1311, 1312, 1313, 1333, 1334, 1335, 1336, 1337, 1338, 1339, 1340, 1341, 1342, 1343, 1344, 1345, 1346, 1347, 1348] (by decide +kernel) (by decide +kernel)
set_option maxRecDepth 20000 in
theorem gL_law_X10_roadOf : GoodIn wsL_law (wsV RL 87 RX10 yX10_roadOf wsX10_roadOf) := goodIn_app (goodIn_of _ (by decide +kernel)) ggL_law_X10_roadOf
set_option maxRecDepth 20000 in
theorem ggL_law_X11_roadOf : GoodIn wsL_law wsX11_roadOf := goodIn_r _ [805, 516, 517, 518, 5, 519, 144, 189, 190, 191, 520, 521, 522, 523, 1314, 1315, 1316, 1317, 1318, 1319, 1320, 1321, 1322, 1323, 1324, 1325, 1326, 1327, 1328, 1329, 1330, 1331, 1332] (by decide +kernel) (by decide +kernel)
set_option maxRecDepth 20000 in
theorem gL_law_X11_roadOf : GoodIn wsL_law (wsV RL 90 RX11 yX11_roadOf wsX11_roadOf) := goodIn_app (goodIn_of _ (by decide +kernel)) ggL_law_X11_roadOf
set_option maxRecDepth 20000 in
theorem ggL_law_X10_tenths : GoodIn wsL_law wsX10_tenths := goodIn_r _ [809, 15, 29, 774, 325, 326, 14, 327, 161, 810, 409, 410, 28, 411, 87, 412, 413, 414, 415, 416, 417, 418, 419, 420, 1302, 1303, 1304, 1305, 1306, 1307, 1308, 1309, 1310, 1311, 1312, 1313, 1333, 1334, 1335, 1336, 1337, 1338, 1339, 1340, 1341, 1342, 1343, 1344, 1345, 1346, 1347, 1348, 1356] (by decide +kernel) (by decide +kernel)
set_option maxRecDepth 20000 in
theorem gL_law_X10_tenths : GoodIn wsL_law (wsV RL 91 RX10 yX10_tenths wsX10_tenths) := goodIn_app (goodIn_of _ (by decide +kernel)) ggL_law_X10_tenths
set_option maxRecDepth 20000 in
theorem ggL_law_X11_tenths : GoodIn wsL_law wsX11_tenths := goodIn_r _ [814, 353, 354, 355, 5, 356, 144, 189, 190, 191, 433, 434, 435, 436, 357, 358, 359, 360, 365, 366, 367, 368, 1314, 1315, 1316, 1317, 1318, 1319, 1320, 1321, 1322, 1323, 1324, 1325, 1326, 1327, 1328, 1329, 1330, 1331, 1332] (by decide +kernel) (by decide +kernel)
set_option maxRecDepth 20000 in
theorem gL_law_X11_tenths : GoodIn wsL_law (wsV RL 94 RX11 yX11_tenths wsX11_tenths) := goodIn_app (goodIn_of _ (by decide +kernel)) ggL_law_X11_tenths
set_option maxRecDepth 20000 in
theorem ggL_law_X10_tenthsAgain : GoodIn wsL_law wsX10_tenthsAgain := goodIn_r _ [818, 15, 29, 774, 325, 326, 14, 327, 161, 819, 820, 821, 28, 822, 87, 823, 337, 338, 339, 340, 333, 334, 335, 160, 58, 56, 57, 408, 409, 410, 411, 412, 413, 414, 415, 416, 417, 418, 419, 420, 1302, 1303, 1304, 1305, 1306, 1307, 1308, 1309, 1310, 1311, 1312, 1313, 1333, 1334, 1335, 1336, 1337, 1338, 1339, 1340, 1341, 1342, 1343, 1344, 1345, 1346, 1347, 1348, 1356] (by decide +kernel) (by decide +kernel)
set_option maxRecDepth 20000 in
theorem gL_law_X10_tenthsAgain : GoodIn wsL_law (wsV RL 95 RX10 yX10_tenthsAgain wsX10_tenthsAgain) := goodIn_app (goodIn_of _ (by decide +kernel)) ggL_law_X10_tenthsAgain
set_option maxRecDepth 20000 in
theorem ggL_law_X11_tenthsAgain : GoodIn wsL_law wsX11_tenthsAgain := goodIn_r _ [827, 828, 812, 813, 5, 814, 353, 354, 355, 356, 144, 189, 190, 191, 433, 434, 435, 436, 357, 358, 359, 360, 365, 366, 367, 368, 1314, 1315, 1316, 1317, 1318, 1319, 1320, 1321, 1322, 1323, 1324, 1325, 1326, 1327, 1328, 1329, 1330, 1331, 1332] (by decide +kernel) (by decide +kernel)
set_option maxRecDepth 20000 in
theorem gL_law_X11_tenthsAgain : GoodIn wsL_law (wsV RL 98 RX11 yX11_tenthsAgain wsX11_tenthsAgain) := goodIn_app (goodIn_of _ (by decide +kernel)) ggL_law_X11_tenthsAgain
