/-! THE LAW'S WORDS FOR ITS CALLS -/
set_option maxRecDepth 20000 in
theorem ggL_law_X10_axle : GoodIn wsL_law wsX10_axle := goodIn_r _ [832, 15, 29, 833, 774, 325, 326, 14, 327, 161, 834, 495, 496, 28, 497, 498, 408, 409, 410, 411, 87, 412, 413, 414, 415, 416, 417, 418, 419, 420, 1302, 1303, 1304, 1305, 1306, 1307, 1308, 1309, 1310, 1311, 1312, 1313, 1333, 1334, 1335, 1336, 1337, 1338, 1339, 1340, 1341, 1342, 1343, 1344, 1345, 1346, 1347, 1348, 1356] (by decide +kernel) (by decide +kernel)
set_option maxRecDepth 20000 in
theorem gL_law_X10_axle : GoodIn wsL_law (wsV RL 99 RX10 yX10_axle wsX10_axle) := goodIn_app (goodIn_of _ (by decide +kernel)) ggL_law_X10_axle
set_option maxRecDepth 20000 in
theorem ggL_law_X11_axle : GoodIn wsL_law wsX11_axle := goodIn_r _ [838, 839, 353, 354, 355, 5, 356, 144, 189, 190, 191, 542, 543, 544, 545, 546, 433, 434, 435, 436, 357, 358, 359, 360, 365, 366, 367, 368, 1314, 1315, 1316, 1317, 1318, 1319, 1320, 1321, 1322, 1323, 1324, 1325, 1326, 1327, 1328, 1329, 1330, 1331, 1332] (by decide +kernel) (by decide +kernel)
set_option maxRecDepth 20000 in
theorem gL_law_X11_axle : GoodIn wsL_law (wsV RL 103 RX11 yX11_axle wsX11_axle) := goodIn_app (goodIn_of _ (by decide +kernel)) ggL_law_X11_axle
set_option maxRecDepth 20000 in
theorem ggL_law_X10_wear : GoodIn wsL_law wsX10_wear := goodIn_r _ [843, 15, 833, 774, 325, 326, 14, 327, 161, 844, 472, 473, 474, 62, 280, 281, 282, 1302, 1303, 1304, 1305, 1306, 1307, 1308, 1309, 1310, 1311, 1312, 1313, 1333, 1334, 1335, 1336, 1337, 1338, 1339, 1340, 1341, 1342, 1343, 1344, 1345, 1346, 1347, 1348] (by decide +kernel) (by decide +kernel)
set_option maxRecDepth 20000 in
theorem gL_law_X10_wear : GoodIn wsL_law (wsV RL 104 RX10 yX10_wear wsX10_wear) := goodIn_app (goodIn_of _ (by decide +kernel)) ggL_law_X10_wear
set_option maxRecDepth 20000 in
theorem ggL_law_X11_wear : GoodIn wsL_law wsX11_wear := goodIn_r _ [848, 839, 353, 354, 355, 5, 356, 144, 189, 190, 191, 528, 529, 530, 531, 145, 1314, 1315, 1316, 1317, 1318, 1319, 1320, 1321, 1322, 1323, 1324, 1325, 1326, 1327, 1328, 1329, 1330, 1331, 1332] (by decide +kernel) (by decide +kernel)
set_option maxRecDepth 20000 in
theorem gL_law_X11_wear : GoodIn wsL_law (wsV RL 107 RX11 yX11_wear wsX11_wear) := goodIn_app (goodIn_of _ (by decide +kernel)) ggL_law_X11_wear
set_option maxRecDepth 20000 in
theorem ggL_law_X10_tolls : GoodIn wsL_law wsX10_tolls := goodIn_r _ [852, 15, 853, 1302, 1303, 1304, 1305, 1306, 1307, 1308, 1309, 1310, 1311, 1312, 1313, 1333, 1334, 1335, 1336, 1337, 1338, 1339, 1340, 1341, 1342, 1343, 1344, 1345, 1346, 1347, 1348] (by decide +kernel) (by decide +kernel)
set_option maxRecDepth 20000 in
theorem gL_law_X10_tolls : GoodIn wsL_law (wsV RL 108 RX10 yX10_tolls wsX10_tolls) := goodIn_app (goodIn_of _ (by decide +kernel)) ggL_law_X10_tolls
set_option maxRecDepth 20000 in
theorem ggL_law_X11_tolls : GoodIn wsL_law wsX11_tolls := goodIn_r _ [857, 145, 1314, 1315, 1316, 1317, 1318, 1319, 1320, 1321, 1322, 1323, 1324, 1325, 1326, 1327, 1328, 1329, 1330, 1331, 1332] (by decide +kernel) (by decide +kernel)
set_option maxRecDepth 20000 in
theorem gL_law_X11_tolls : GoodIn wsL_law (wsV RL 112 RX11 yX11_tolls wsX11_tolls) := goodIn_app (goodIn_of _ (by decide +kernel)) ggL_law_X11_tolls
set_option maxRecDepth 20000 in
theorem ggL_law_X10_best : GoodIn wsL_law wsX10_best := goodIn_r _ [861, 15, 37, 774, 325, 326, 14, 327, 161, 862, 863, 864, 36, 865, 100, 866, 867, 868, 869, 870, 99, 871, 872, 873, 874, 875, 876, 877, 878, 406, 228, 407, 879, 880, 227, 229, 1302, 1303, 1304, 1305, 1306, 1307, 1308, 1309, 1310, 1311, 1312, 1313, 1333, 1334, 1335, 1336, 1337, 1338, 1339, 1340, 1341, 1342, 1343, 1344, 1345, 1346, 1347, 1348, 1360, 1361, 1362, 1363, 1364, 1365] (by decide +kernel) (by decide +kernel)
set_option maxRecDepth 20000 in
theorem gL_law_X10_best : GoodIn wsL_law (wsV RL 113 RX10 yX10_best wsX10_best) := goodIn_app (goodIn_of _ (by decide +kernel)) ggL_law_X10_best
set_option maxRecDepth 20000 in
theorem ggL_law_X11_best : GoodIn wsL_law wsX11_best := goodIn_r _ [884, 885, 144, 146, 353, 354, 355, 5, 356, 189, 190, 191, 365, 366, 367, 368, 357, 358, 359, 360, 886, 887, 888, 889, 890, 437, 438, 439, 1314, 1315, 1316, 1317, 1318, 1319, 1320, 1321, 1322, 1323, 1324, 1325, 1326, 1327, 1328, 1329, 1330, 1331, 1332] (by decide +kernel) (by decide +kernel)
set_option maxRecDepth 20000 in
theorem gL_law_X11_best : GoodIn wsL_law (wsV RL 116 RX11 yX11_best wsX11_best) := goodIn_app (goodIn_of _ (by decide +kernel)) ggL_law_X11_best
set_option maxRecDepth 20000 in
theorem ggL_law_X10_bestAgain : GoodIn wsL_law wsX10_bestAgain := goodIn_r _ [894, 15, 37, 774, 325, 326, 14, 327, 161, 895, 896, 897, 36, 898, 866, 102, 103, 104, 867, 868, 869, 870, 99, 871, 872, 873, 100, 874, 899, 900, 901, 902, 903, 904, 905, 906, 907, 908, 909, 910, 879, 878, 406, 228, 407, 880, 227, 229, 911, 912, 913, 914, 1302, 1303, 1304, 1305, 1306, 1307, 1308, 1309, 1310, 1311, 1312, 1313, 1333, 1334, 1335, 1336, 1337, 1338, 1339, 1340, 1341, 1342, 1343, 1344, 1345, 1346, 1347, 1348, 1360, 1361, 1362, 1363, 1364, 1365] (by decide +kernel) (by decide +kernel)
set_option maxRecDepth 20000 in
theorem gL_law_X10_bestAgain : GoodIn wsL_law (wsV RL 117 RX10 yX10_bestAgain wsX10_bestAgain) := goodIn_app (goodIn_of _ (by decide +kernel)) ggL_law_X10_bestAgain
set_option maxRecDepth 20000 in
theorem ggL_law_X11_bestAgain : GoodIn wsL_law wsX11_bestAgain := goodIn_r _ [918, 919, 882, 883, 5, 884, 885, 144, 146, 353, 354, 355, 356, 189, 190, 191, 365, 366, 367, 368, 357, 358, 359, 360, 886, 887, 888, 889, 890, 437, 438, 439, 1314, 1315, 1316, 1317, 1318, 1319, 1320, 1321, 1322, 1323, 1324, 1325, 1326, 1327, 1328, 1329, 1330, 1331, 1332] (by decide +kernel) (by decide +kernel)
set_option maxRecDepth 20000 in
theorem gL_law_X11_bestAgain : GoodIn wsL_law (wsV RL 120 RX11 yX11_bestAgain wsX11_bestAgain) := goodIn_app (goodIn_of _ (by decide +kernel)) ggL_law_X11_bestAgain
set_option maxRecDepth 20000 in
theorem ggL_law_X10_could : GoodIn wsL_law wsX10_could := goodIn_r _ [923, 15, 33, 774, 325, 326, 14, 327, 161, 801, 451, 452, 453, 162, 924, 925, 926, 32, 927, 92, 93, 328, 329, 330, 331, 160, 58, 59, 458, 459, 460, 461, 64, 462, 337, 338, 339, 340, 333, 334, 335, 56, 57, 487, 472, 473, 474, 62, 280, 281, 282, 488, 489, 490, 28, 491, 87, 492, 493, 494, 495, 496, 497, 498, 408, 409, 410, 411, 412, 413, 414, 415, 416, 417, 418, 419, 420, 499, 500, 501, 502, 503, 1302, 1303, 1304, 1305, 1306, 1307, 1308, 1309, 1310, 1311, 1312, 1313, 1333, 1334, 1335, 1336, 1337, 1338, 1339, 1340, 1341, 1342, 1343, 1344, 1345, 1346, 1347, 1348, 1357, 1358, 1359, 1356] (by decide +kernel) (by decide +kernel)
set_option maxRecDepth 20000 in
theorem gL_law_X10_could : GoodIn wsL_law (wsV RL 121 RX10 yX10_could wsX10_could) := goodIn_app (goodIn_of _ (by decide +kernel)) ggL_law_X10_could
set_option maxRecDepth 20000 in
theorem ggL_law_X11_could : GoodIn wsL_law wsX11_could := goodIn_r _ [931, 250, 251, 252, 353, 354, 355, 5, 356, 144, 189, 190, 191, 516, 517, 518, 519, 238, 239, 240, 241, 145, 512, 513, 514, 515, 373, 374, 375, 376, 369, 370, 371, 372, 365, 366, 367, 368, 357, 358, 359, 360, 520, 521, 522, 523, 246, 247, 248, 249, 524, 525, 526, 527, 528, 529, 530, 531, 532, 533, 534, 535, 536, 537, 538, 539, 540, 541, 542, 543, 544, 545, 546, 433, 434, 435, 436, 547, 548, 549, 550, 551, 552, 553, 554, 555, 556, 557, 558, 1314, 1315, 1316, 1317, 1318, 1319, 1320, 1321, 1322, 1323, 1324, 1325, 1326, 1327, 1328, 1329, 1330, 1331, 1332] (by decide +kernel) (by decide +kernel)
set_option maxRecDepth 20000 in
theorem gL_law_X11_could : GoodIn wsL_law (wsV RL 124 RX11 yX11_could wsX11_could) := goodIn_app (goodIn_of _ (by decide +kernel)) ggL_law_X11_could
set_option maxRecDepth 20000 in
theorem ggL_law_X10_takes : GoodIn wsL_law wsX10_takes := goodIn_r _ [935, 15, 936, 774, 325, 326, 14, 327, 161, 937, 459, 460, 461, 64, 462, 337, 338, 339, 340, 333, 334, 335, 160, 58, 56, 57, 1302, 1303, 1304, 1305, 1306, 1307, 1308, 1309, 1310, 1311, 1312, 1313, 1333, 1334, 1335, 1336, 1337, 1338, 1339, 1340, 1341, 1342, 1343, 1344, 1345, 1346, 1347, 1348] (by decide +kernel) (by decide +kernel)
set_option maxRecDepth 20000 in
theorem gL_law_X10_takes : GoodIn wsL_law (wsV RL 125 RX10 yX10_takes wsX10_takes) := goodIn_app (goodIn_of _ (by decide +kernel)) ggL_law_X10_takes
set_option maxRecDepth 20000 in
theorem ggL_law_X11_takes : GoodIn wsL_law wsX11_takes := goodIn_r _ [941, 144, 353, 354, 355, 5, 356, 189, 190, 191, 373, 374, 375, 376, 369, 370, 371, 372, 365, 366, 367, 368, 357, 358, 359, 360, 520, 521, 522, 523, 1314, 1315, 1316, 1317, 1318, 1319, 1320, 1321, 1322, 1323, 1324, 1325, 1326, 1327, 1328, 1329, 1330, 1331, 1332] (by decide +kernel) (by decide +kernel)
set_option maxRecDepth 20000 in
theorem gL_law_X11_takes : GoodIn wsL_law (wsV RL 128 RX11 yX11_takes wsX11_takes) := goodIn_app (goodIn_of _ (by decide +kernel)) ggL_law_X11_takes
