/-! THE LAW'S WORDS FOR ITS CALLS -/
set_option maxRecDepth 20000 in
theorem ggL_law_X10_cheapest : GoodIn wsL_law wsX10_cheapest := goodIn_r _ [945, 15, 41, 774, 325, 326, 14, 327, 161, 946, 947, 948, 40, 949, 109, 950, 951, 329, 330, 331, 160, 58, 59, 952, 459, 460, 461, 64, 462, 337, 338, 339, 340, 333, 334, 335, 56, 57, 953, 954, 955, 956, 110, 957, 958, 477, 478, 28, 479, 87, 480, 481, 482, 1302, 1303, 1304, 1305, 1306, 1307, 1308, 1309, 1310, 1311, 1312, 1313, 1333, 1334, 1335, 1336, 1337, 1338, 1339, 1340, 1341, 1342, 1343, 1344, 1345, 1346, 1347, 1348, 1366, 1367, 1356] (by decide +kernel) (by decide +kernel)
set_option maxRecDepth 20000 in
theorem gL_law_X10_cheapest : GoodIn wsL_law (wsV RL 129 RX10 yX10_cheapest wsX10_cheapest) := goodIn_app (goodIn_of _ (by decide +kernel)) ggL_law_X10_cheapest
set_option maxRecDepth 20000 in
theorem ggL_law_X11_cheapest : GoodIn wsL_law wsX11_cheapest := goodIn_r _ [962, 144, 353, 354, 355, 5, 356, 189, 190, 191, 373, 374, 375, 376, 369, 370, 371, 372, 365, 366, 367, 368, 357, 358, 359, 360, 520, 521, 522, 523, 532, 533, 534, 535, 536, 1314, 1315, 1316, 1317, 1318, 1319, 1320, 1321, 1322, 1323, 1324, 1325, 1326, 1327, 1328, 1329, 1330, 1331, 1332] (by decide +kernel) (by decide +kernel)
set_option maxRecDepth 20000 in
theorem gL_law_X11_cheapest : GoodIn wsL_law (wsV RL 132 RX11 yX11_cheapest wsX11_cheapest) := goodIn_app (goodIn_of _ (by decide +kernel)) ggL_law_X11_cheapest
set_option maxRecDepth 20000 in
theorem ggL_law_X10_heaviest : GoodIn wsL_law wsX10_heaviest := goodIn_r _ [966, 41, 967, 968, 969, 40, 970, 109, 971, 972, 973, 974, 975, 976, 977, 1302, 1303, 1304, 1305, 1306, 1307, 1308, 1309, 1310, 1311, 1312, 1313, 1366, 1367, 1333, 1334, 1335, 1336, 1337, 1338, 1339, 1340, 1341, 1342, 1343, 1344, 1345, 1346, 1347, 1348] (by decide +kernel) (by decide +kernel)
set_option maxRecDepth 20000 in
theorem gL_law_X10_heaviest : GoodIn wsL_law (wsV RL 133 RX10 yX10_heaviest wsX10_heaviest) := goodIn_app (goodIn_of _ (by decide +kernel)) ggL_law_X10_heaviest
set_option maxRecDepth 20000 in
theorem ggL_law_X11_heaviest : GoodIn wsL_law wsX11_heaviest := goodIn_r _ [981, 144, 357, 358, 359, 5, 360, 1314, 1315, 1316, 1317, 1318, 1319, 1320, 1321, 1322, 1323, 1324, 1325, 1326, 1327, 1328, 1329, 1330, 1331, 1332] (by decide +kernel) (by decide +kernel)
set_option maxRecDepth 20000 in
theorem gL_law_X11_heaviest : GoodIn wsL_law (wsV RL 136 RX11 yX11_heaviest wsX11_heaviest) := goodIn_app (goodIn_of _ (by decide +kernel)) ggL_law_X11_heaviest
set_option maxRecDepth 20000 in
theorem ggL_law_X10_fullest : GoodIn wsL_law wsX10_fullest := goodIn_r _ [985, 41, 986, 987, 988, 40, 989, 109, 990, 991, 992, 993, 994, 110, 995, 337, 338, 14, 339, 340, 333, 334, 335, 160, 58, 56, 57, 996, 402, 403, 28, 404, 405, 406, 228, 407, 408, 409, 410, 411, 87, 412, 413, 414, 415, 416, 417, 418, 419, 420, 1302, 1303, 1304, 1305, 1306, 1307, 1308, 1309, 1310, 1311, 1312, 1313, 1366, 1367, 1333, 1334, 1335, 1336, 1337, 1338, 1339, 1340, 1341, 1342, 1343, 1344, 1345, 1346, 1347, 1348, 1356] (by decide +kernel) (by decide +kernel)
set_option maxRecDepth 20000 in
theorem gL_law_X10_fullest : GoodIn wsL_law (wsV RL 137 RX10 yX10_fullest wsX10_fullest) := goodIn_app (goodIn_of _ (by decide +kernel)) ggL_law_X10_fullest
set_option maxRecDepth 20000 in
theorem ggL_law_X11_fullest : GoodIn wsL_law wsX11_fullest := goodIn_r _ [1000, 144, 373, 374, 375, 5, 376, 369, 370, 371, 372, 365, 366, 367, 368, 357, 358, 359, 360, 429, 430, 431, 432, 433, 434, 435, 436, 437, 438, 439, 1314, 1315, 1316, 1317, 1318, 1319, 1320, 1321, 1322, 1323, 1324, 1325, 1326, 1327, 1328, 1329, 1330, 1331, 1332] (by decide +kernel) (by decide +kernel)
set_option maxRecDepth 20000 in
theorem gL_law_X11_fullest : GoodIn wsL_law (wsV RL 140 RX11 yX11_fullest wsX11_fullest) := goodIn_app (goodIn_of _ (by decide +kernel)) ggL_law_X11_fullest
set_option maxRecDepth 20000 in
theorem ggL_law_X10_write : GoodIn wsL_law wsX10_write := goodIn_r _ [1004, 15, 50, 774, 325, 326, 14, 327, 161, 1005, 1006, 1007, 49, 1008, 1009, 1010, 1011, 1012, 125, 1013, 1014, 130, 1015, 1016, 1017, 1018, 1019, 1020, 131, 1021, 1022, 1023, 1024, 1025, 1026, 1027, 1028, 1029, 1030, 1031, 591, 228, 592, 1032, 1033, 1034, 1035, 1036, 1037, 1038, 1039, 1040, 1041, 1042, 1043, 1044, 1045, 129, 1046, 227, 229, 1047, 206, 207, 208, 1048, 1049, 1050, 1051, 1052, 128, 1053, 1054, 619, 1055, 1056, 1057, 1058, 1059, 1060, 1061, 1062, 1063, 134, 1064, 1065, 1066, 1067, 1068, 1069, 1070, 1071, 1072, 1073, 1074, 1075, 1076, 1077, 1078, 1079, 1080, 1081, 1082, 1083, 1084, 1085, 642, 1086, 1087, 1088, 635, 636, 637, 1089, 1090, 600, 1091, 624, 1092, 1093, 627, 1094, 1095, 1096, 1097, 1098, 1099, 1100, 1101, 1102, 643, 644, 1103, 1104, 1105, 1106, 1107, 1108, 1109, 1110, 1111, 1112, 1113, 1114, 1115, 1116, 1117, 1118, 132, 133, 135, 136, 137, 138, 139, 1119, 1120, 1121, 1122, 1123, 1124, 1125, 1126, 1127, 1128, 1129, 1130, 1131, 1132, 1133, 1134, 1135, 1136, 632, 633, 634, 638, 622, 623, 625, 626, 628, 777, 329, 330, 331, 160, 58, 59, 1137, 1138, 1139, 1140, 1141, 1142, 1143, 1144, 1302, 1303, 1304, 1305, 1306, 1307, 1308, 1309, 1310, 1311, 1312, 1313, 1333, 1334, 1335, 1336, 1337, 1338, 1339, 1340, 1341, 1342, 1343, 1344, 1345, 1346, 1347, 1348, 1373, 1374, 1375, 1376] (by decide +kernel) (by decide +kernel)
set_option maxRecDepth 20000 in
theorem gL_law_X10_write : GoodIn wsL_law (wsV RL 141 RX10 yX10_write wsX10_write) := goodIn_app (goodIn_of _ (by decide +kernel)) ggL_law_X10_write
set_option maxRecDepth 20000 in
theorem ggL_law_X11_write : GoodIn wsL_law wsX11_write := goodIn_r _ [1148, 1149, 353, 354, 355, 5, 356, 144, 189, 190, 191, 1150, 1151, 1152, 1153, 1154, 1155, 1156, 1157, 147, 361, 362, 363, 364, 365, 366, 367, 368, 357, 358, 359, 360, 1158, 1159, 1160, 1161, 1314, 1315, 1316, 1317, 1318, 1319, 1320, 1321, 1322, 1323, 1324, 1325, 1326, 1327, 1328, 1329, 1330, 1331, 1332] (by decide +kernel) (by decide +kernel)
set_option maxRecDepth 20000 in
theorem gL_law_X11_write : GoodIn wsL_law (wsV RL 144 RX11 yX11_write wsX11_write) := goodIn_app (goodIn_of _ (by decide +kernel)) ggL_law_X11_write
set_option maxRecDepth 20000 in
theorem ggL_law_X10_writeRoads : GoodIn wsL_law wsX10_writeRoads := goodIn_r _ [1165, 50, 15, 936, 797, 798, 799, 1005, 1006, 1007, 49, 1008, 1009, 1010, 1011, 1012, 125, 1013, 1014, 130, 1015, 1016, 1017, 1018, 1019, 1020, 131, 1021, 1022, 1023, 1024, 1025, 1026, 1027, 1028, 1029, 1030, 1031, 591, 228, 592, 1032, 1033, 1034, 1035, 1036, 1037, 1038, 1039, 1040, 1041, 1042, 1043, 1044, 1045, 129, 1046, 227, 229, 1047, 206, 207, 208, 1048, 1049, 1050, 1051, 1052, 128, 1053, 1054, 619, 1055, 1056, 1057, 1058, 1059, 1060, 1061, 1062, 1063, 134, 1064, 1065, 1103, 1104, 1105, 1106, 1107, 1108, 1109, 1110, 1111, 1112, 1113, 1114, 1115, 1116, 1117, 1118, 132, 133, 135, 136, 137, 138, 139, 1119, 1120, 1121, 1122, 1123, 1124, 1125, 1126, 1127, 635, 636, 637, 1128, 1129, 600, 1130, 624, 1131, 1132, 627, 1133, 1100, 1101, 1102, 642, 643, 644, 1134, 1135, 1136, 632, 633, 634, 638, 622, 623, 625, 626, 628, 1066, 1067, 1068, 1069, 1070, 1071, 1072, 1073, 1074, 1075, 1076, 1077, 1078, 1079, 1080, 1081, 1082, 1083, 1084, 1085, 1086, 1087, 1088, 1089, 1090, 1091, 1092, 1093, 1094, 1095, 1096, 1097, 1098, 1099, 1137, 1138, 1139, 1140, 1141, 1142, 1143, 1144, 1302, 1303, 1304, 1305, 1306, 1307, 1308, 1309, 1310, 1311, 1312, 1313, 1333, 1334, 1335, 1336, 1337, 1338, 1339, 1340, 1341, 1342, 1343, 1344, 1345, 1346, 1347, 1348, 1373, 1374, 1375, 1376] (by decide +kernel) (by decide +kernel)
set_option maxRecDepth 20000 in
theorem gL_law_X10_writeRoads : GoodIn wsL_law (wsV RL 145 RX10 yX10_writeRoads wsX10_writeRoads) := goodIn_app (goodIn_of _ (by decide +kernel)) ggL_law_X10_writeRoads
set_option maxRecDepth 20000 in
theorem ggL_law_X11_writeRoads : GoodIn wsL_law wsX11_writeRoads := goodIn_r _ [1169, 1149, 144, 1154, 1155, 1156, 5, 1157, 147, 520, 521, 522, 523, 1150, 1151, 1152, 1153, 1314, 1315, 1316, 1317, 1318, 1319, 1320, 1321, 1322, 1323, 1324, 1325, 1326, 1327, 1328, 1329, 1330, 1331, 1332] (by decide +kernel) (by decide +kernel)
set_option maxRecDepth 20000 in
theorem gL_law_X11_writeRoads : GoodIn wsL_law (wsV RL 148 RX11 yX11_writeRoads wsX11_writeRoads) := goodIn_app (goodIn_of _ (by decide +kernel)) ggL_law_X11_writeRoads
set_option maxRecDepth 20000 in
theorem ggL_law_X10_written : GoodIn wsL_law wsX10_written := goodIn_r _ [1173, 50, 1137, 1138, 1139, 49, 1140, 1141, 1142, 1011, 1143, 125, 1144, 1014, 1174, 1175, 1176, 1177, 1178, 1179, 1180, 1181, 131, 130, 1182, 227, 228, 229, 1183, 622, 600, 623, 624, 625, 626, 627, 628, 1184, 640, 134, 641, 642, 643, 644, 635, 636, 637, 1302, 1303, 1304, 1305, 1306, 1307, 1308, 1309, 1310, 1311, 1312, 1313, 1373, 1374, 1375, 1376] (by decide +kernel) (by decide +kernel)
set_option maxRecDepth 20000 in
theorem gL_law_X10_written : GoodIn wsL_law (wsV RL 149 RX10 yX10_written wsX10_written) := goodIn_app (goodIn_of _ (by decide +kernel)) ggL_law_X10_written
set_option maxRecDepth 20000 in
theorem ggL_law_X11_written : GoodIn wsL_law wsX11_written := goodIn_r _ [1188, 1149, 147, 189, 190, 5, 191, 1314, 1315, 1316, 1317, 1318, 1319, 1320, 1321, 1322, 1323, 1324, 1325, 1326, 1327, 1328, 1329, 1330, 1331, 1332] (by decide +kernel) (by decide +kernel)
set_option maxRecDepth 20000 in
theorem gL_law_X11_written : GoodIn wsL_law (wsV RL 152 RX11 yX11_written wsX11_written) := goodIn_app (goodIn_of _ (by decide +kernel)) ggL_law_X11_written
set_option maxRecDepth 20000 in
theorem ggL_law_X10_isWell : GoodIn wsL_law wsX10_isWell := goodIn_r _ [1192, 15, 1193, 1194, 1195, 1196, 2, 1197, 29, 37, 810, 409, 410, 28, 411, 87, 412, 413, 414, 415, 416, 417, 418, 419, 420, 819, 820, 821, 822, 823, 337, 338, 14, 339, 340, 333, 334, 335, 160, 58, 56, 57, 408, 862, 863, 864, 36, 865, 100, 866, 867, 868, 869, 870, 99, 871, 872, 873, 874, 875, 876, 877, 878, 406, 228, 407, 879, 880, 227, 229, 895, 896, 897, 898, 102, 103, 104, 899, 900, 901, 902, 903, 904, 905, 906, 907, 908, 909, 910, 911, 912, 913, 914, 776, 1198, 1199, 1200, 1201, 777, 329, 330, 331, 59, 1302, 1303, 1304, 1305, 1306, 1307, 1308, 1309, 1310, 1311, 1312, 1313, 1333, 1334, 1335, 1336, 1337, 1338, 1339, 1340, 1341, 1342, 1343, 1344, 1345, 1346, 1347, 1348, 1356, 1360, 1361, 1362, 1363, 1364, 1365] (by decide +kernel) (by decide +kernel)
set_option maxRecDepth 20000 in
theorem gL_law_X10_isWell : GoodIn wsL_law (wsV RL 153 RX10 yX10_isWell wsX10_isWell) := goodIn_app (goodIn_of _ (by decide +kernel)) ggL_law_X10_isWell
set_option maxRecDepth 20000 in
theorem ggL_law_X11_isWell : GoodIn wsL_law wsX11_isWell := goodIn_r _ [1205] (by decide +kernel) (by decide +kernel)
set_option maxRecDepth 20000 in
theorem gL_law_X11_isWell : GoodIn wsL_law (wsV RL 156 RX11 yX11_isWell wsX11_isWell) := goodIn_app (goodIn_of _ (by decide +kernel)) ggL_law_X11_isWell
