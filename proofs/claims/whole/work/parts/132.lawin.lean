/-! THE LAW'S WORDS: each is among the tables' -/
/-- a private method of a class above, on an object of one below -/
theorem sel_priv {C : String} {y : MethodName} {s : State} {args : Array Value} {n : Nat} (hy : y.cls ≠ "java/lang/invoke/MethodHandle" ∧ y.cls ≠ "java/lang/invoke/VarHandle")
    (hC : (Cond.instantiable C n).before args s = true) (hpriv : (Cond.privateMethod y).before args s = true) (hinst : (Cond.instanceMethod y).before args s = true) (hsame : (Cond.sameMethod y.cls y.cls y.name y.desc).before args s = true) :
    (Cond.selects C y y).before args s = true := by
  obtain ⟨c, k, hc, hk, -, hniab, -, -⟩ := Cond.instantiable_spec hC
  obtain ⟨mk, methM, hnamed, hmethM, -, -⟩ := Cond.instanceMethod_spec hinst
  obtain ⟨c2, k2, hc2, hk2, hi2⟩ := Cond.sameMethod_class hsame
  have hfound : s.methodFound? y.cls y.name y.desc = some mk := State.methodFound?_of_named hnamed hy
  have hcls : mk.cls = c2 := Option.some.inj ((findClass_of_methodNamed hnamed).symm.trans hc2)
  have hsel : selectMethod {} s.vm c mk = .method mk := selectMethod_private hmethM (Cond.privateMethod_at hpriv mk methM hnamed hmethM)
  simp only [Cond.before, Cond.holds, Cond.value, hc, hfound, hnamed, hsel, hcls, hk2]
  simp; exact hi2
def lw_ext : List Cond := [Cond.selects RJ4 yJ5_ensureCapacityInternal_d00df yJ5_ensureCapacityInternal_d00df, Cond.selects RJ4 yJ5_newCapacity_0f7a4 yJ5_newCapacity_0f7a4, Cond.selects RJ4 ⟨RJ5, "inflate", "()V"⟩ ⟨RJ5, "inflate", "()V"⟩]
def lw_tb2 : List Cond := lw_ext ++ lw_tbl
theorem memPs {big : List Cond} {ws : List Cond} (ps : List Nat) (hp : ws = ps.filterMap (fun i => big[i]?)) : ∀ w ∈ ws, w ∈ big := by
  intro w hw
  rw [hp] at hw
  obtain ⟨i, -, hi⟩ := List.mem_filterMap.mp hw
  exact List.mem_of_getElem? hi
set_option maxRecDepth 20000 in
theorem lwr_1 : ∀ w ∈ wsL_law_r1, w ∈ lw_tb2 := memPs [93, 94, 69, 1109, 1110, 84, 95, 96, 97, 98, 99, 100, 101, 102, 70, 376, 377, 378, 207, 208, 71, 379, 227, 228] (by decide +kernel)
set_option maxRecDepth 20000 in
theorem lwr_2 : ∀ w ∈ wsL_law_r2, w ∈ lw_tb2 := memPs [72, 380, 250, 251, 73, 381, 260, 261, 74, 382, 276, 277, 75, 383, 302, 303, 76, 384, 315, 316, 77, 385, 386, 344] (by decide +kernel)
set_option maxRecDepth 20000 in
theorem lwr_3 : ∀ w ∈ wsL_law_r3, w ∈ lw_tb2 := memPs [345, 81, 387, 103, 104, 105, 106, 205, 113, 119, 125, 130, 139, 206, 143, 144, 151, 154, 159, 163, 209, 210, 211, 212] (by decide +kernel)
set_option maxRecDepth 20000 in
theorem lwr_4 : ∀ w ∈ wsL_law_r4, w ∈ lw_tb2 := memPs [213, 216, 215, 229, 230, 231, 232, 233, 235, 237, 239, 252, 253, 254, 255, 256, 262, 263, 264, 265, 266, 267, 268, 278] (by decide +kernel)
set_option maxRecDepth 20000 in
theorem lwr_5 : ∀ w ∈ wsL_law_r5, w ∈ lw_tb2 := memPs [279, 280, 281, 282, 283, 301, 285, 286, 287, 304, 305, 306, 307, 308, 309, 317, 318, 319, 320, 343, 323, 321, 326, 328] (by decide +kernel)
set_option maxRecDepth 20000 in
theorem lwr_6 : ∀ w ∈ wsL_law_r6, w ∈ lw_tb2 := memPs [346, 347, 348, 349, 350, 80, 351, 352, 353, 375, 362, 363, 355, 356, 83, 357, 358, 359, 360, 361, 1111, 1112, 1113, 1114] (by decide +kernel)
set_option maxRecDepth 20000 in
theorem lwr_7 : ∀ w ∈ wsL_law_r7, w ∈ lw_tb2 := memPs [1115, 1116, 1123, 1125, 1127, 1131, 1132, 413, 414, 415, 416, 108, 417, 418, 419, 420, 107, 134, 147, 166, 169, 421, 422, 423] (by decide +kernel)
set_option maxRecDepth 20000 in
theorem lwr_8 : ∀ w ∈ wsL_law_r8, w ∈ lw_tb2 := memPs [424, 218, 1346, 1347, 1348, 1349, 1117, 425, 426, 427, 428, 429, 430, 431, 432, 324, 1446, 1447, 1448, 1449, 1128, 1177, 1178, 1179] (by decide +kernel)
set_option maxRecDepth 20000 in
theorem lwr_9 : ∀ w ∈ wsL_law_r9, w ∈ lw_tb2 := memPs [433, 434, 435, 436, 437, 438, 439, 440, 217, 441, 442, 443, 444, 445, 447, 446, 85, 448, 449, 450, 451, 112, 115, 120] (by decide +kernel)
set_option maxRecDepth 20000 in
theorem lwr_10 : ∀ w ∈ wsL_law_r10, w ∈ lw_tb2 := memPs [128, 131, 452, 453, 454, 455, 456, 457, 458, 459, 460, 461, 86, 462, 1180, 1181, 1182, 1183, 1184, 1186, 21, 1187, 1188, 1190] (by decide +kernel)
set_option maxRecDepth 20000 in
theorem lwr_11 : ∀ w ∈ wsL_law_r11, w ∈ lw_tb2 := memPs [22, 1191, 1192, 1194, 23, 1195, 1196, 1198, 24, 1199, 1119, 1120, 1121, 1200, 1202, 25, 1203, 463, 464, 465, 466, 1204, 1205, 1206] (by decide +kernel)
set_option maxRecDepth 20000 in
theorem lwr_12 : ∀ w ∈ wsL_law_r12, w ∈ lw_tb2 := memPs [1207, 467, 468, 469, 470, 471, 472, 473, 474, 135, 140, 145, 475, 476, 477, 478, 479, 480, 481, 1208, 1209, 1210, 1211, 1212] (by decide +kernel)
set_option maxRecDepth 20000 in
theorem lwr_13 : ∀ w ∈ wsL_law_r13, w ∈ lw_tb2 := memPs [1214, 26, 1215, 482, 483, 484, 485, 486, 487, 488, 489, 148, 152, 155, 160, 164, 1216, 1217, 1218, 1219, 1220, 1222, 27, 1223] (by decide +kernel)
set_option maxRecDepth 20000 in
theorem lwr_14 : ∀ w ∈ wsL_law_r14, w ∈ lw_tb2 := memPs [490, 491, 492, 493, 494, 495, 496, 497, 498, 499, 500, 501, 502, 503, 504, 505, 506, 507, 508, 509, 510, 511, 512, 513] (by decide +kernel)
set_option maxRecDepth 20000 in
theorem lwr_15 : ∀ w ∈ wsL_law_r15, w ∈ lw_tb2 := memPs [514, 515, 516, 517, 518, 1224, 1225, 1226, 1227, 1228, 1230, 28, 1231, 1232, 1234, 29, 1235, 1236, 1238, 30, 1239, 1240, 1242, 31] (by decide +kernel)
set_option maxRecDepth 20000 in
theorem lwr_16 : ∀ w ∈ wsL_law_r16, w ∈ lw_tb2 := memPs [1243, 1244, 1246, 32, 1247, 1248, 1250, 33, 1251, 1252, 1254, 34, 1255, 1256, 1258, 35, 1259, 519, 520, 521, 522, 523, 524, 525] (by decide +kernel)
set_option maxRecDepth 20000 in
theorem lwr_17 : ∀ w ∈ wsL_law_r17, w ∈ lw_tb2 := memPs [526, 1260, 1261, 1262, 1263, 1264, 1266, 36, 1267, 527, 528, 529, 530, 531, 532, 533, 534, 535, 536, 537, 538, 547, 548, 549] (by decide +kernel)
set_option maxRecDepth 20000 in
theorem lwr_18 : ∀ w ∈ wsL_law_r18, w ∈ lw_tb2 := memPs [539, 540, 541, 542, 110, 126, 543, 545, 3, 546, 116, 123, 132, 1268, 1269, 1270, 1271, 1272, 1274, 37, 1275, 1276, 1278, 38] (by decide +kernel)
set_option maxRecDepth 20000 in
theorem lwr_19 : ∀ w ∈ wsL_law_r19, w ∈ lw_tb2 := memPs [1279, 1280, 1282, 39, 1283, 1284, 1285, 1286, 550, 551, 552, 553, 554, 555, 556, 557, 167, 170, 558, 559, 560, 561, 562, 563] (by decide +kernel)
set_option maxRecDepth 20000 in
theorem lwr_20 : ∀ w ∈ wsL_law_r20, w ∈ lw_tb2 := memPs [564, 565, 566, 567, 568, 569, 570, 571, 572, 573, 574, 575, 576, 577, 578, 579, 580, 581, 582, 583, 584, 585, 586, 587] (by decide +kernel)
set_option maxRecDepth 20000 in
theorem lwr_21 : ∀ w ∈ wsL_law_r21, w ∈ lw_tb2 := memPs [161, 589, 588, 590, 592, 4, 593, 594, 595, 596, 597, 598, 157, 604, 599, 600, 601, 602, 603, 605, 606, 607, 608, 141] (by decide +kernel)
set_option maxRecDepth 20000 in
theorem lwr_22 : ∀ w ∈ wsL_law_r22, w ∈ lw_tb2 := memPs [609, 610, 611, 612, 1287, 1288, 1289, 1290, 1291, 1293, 40, 1294, 1295, 1297, 41, 1298, 1299, 1301, 42, 1302, 1303, 1305, 43, 1306] (by decide +kernel)
set_option maxRecDepth 20000 in
theorem lwr_23 : ∀ w ∈ wsL_law_r23, w ∈ lw_tb2 := memPs [1307, 1309, 44, 1310, 1311, 1313, 45, 1314, 1315, 1316, 1318, 46, 1319, 1325, 1320, 1322, 47, 1323, 1324, 1326, 1328, 48, 1329, 1330] (by decide +kernel)
set_option maxRecDepth 20000 in
theorem lwr_24 : ∀ w ∈ wsL_law_r24, w ∈ lw_tb2 := memPs [1332, 49, 1333, 1334, 1336, 50, 1337, 613, 614, 615, 616, 617, 618, 619, 620, 1338, 1339, 1340, 1341, 1342, 1344, 51, 1345, 621] (by decide +kernel)
set_option maxRecDepth 20000 in
theorem lwr_25 : ∀ w ∈ wsL_law_r25, w ∈ lw_tb2 := memPs [622, 623, 624, 625, 626, 627, 628, 330, 629, 630, 631, 632, 633, 1542, 698, 699, 700, 635, 637, 5, 638, 639, 640, 641] (by decide +kernel)
set_option maxRecDepth 20000 in
theorem lwr_26 : ∀ w ∈ wsL_law_r26, w ∈ lw_tb2 := memPs [82, 642, 1543, 643, 644, 645, 646, 647, 1544, 648, 649, 650, 651, 652, 653, 654, 655, 656, 657, 87, 658, 659, 660, 661] (by decide +kernel)
set_option maxRecDepth 20000 in
theorem lwr_27 : ∀ w ∈ wsL_law_r27, w ∈ lw_tb2 := memPs [662, 664, 665, 88, 666, 667, 668, 669, 670, 671, 672, 673, 674, 675, 676, 677, 678, 679, 680, 682, 684, 686, 688, 6] (by decide +kernel)
set_option maxRecDepth 20000 in
theorem lwr_28 : ∀ w ∈ wsL_law_r28, w ∈ lw_tb2 := memPs [689, 690, 692, 7, 693, 694, 696, 8, 697, 701, 703, 9, 704, 327, 329, 331, 705, 706, 708, 10, 709, 710, 712, 713] (by decide +kernel)
set_option maxRecDepth 20000 in
theorem lwr_29 : ∀ w ∈ wsL_law_r29, w ∈ lw_tb2 := memPs [715, 716, 78, 717, 1545, 718, 719, 720, 721, 722, 723, 724, 725, 726, 727, 728, 729, 730, 731, 1450, 1451, 1452, 1453, 1130] (by decide +kernel)
set_option maxRecDepth 20000 in
theorem lwr_30 : ∀ w ∈ wsL_law_r30, w ∈ lw_tb2 := memPs [1133, 1122, 1454, 1456, 56, 1457, 1129, 1458, 1460, 57, 1461, 1462, 1464, 58, 1465, 1466, 1468, 59, 1469, 1470, 1472, 60, 1473, 1474] (by decide +kernel)
set_option maxRecDepth 20000 in
theorem lwr_31 : ∀ w ∈ wsL_law_r31, w ∈ lw_tb2 := memPs [1476, 61, 1477, 1478, 1480, 62, 1481, 1482, 1484, 63, 1485, 1486, 1488, 64, 1489, 732, 733, 734, 735, 1490, 1491, 1492, 1493, 736] (by decide +kernel)
set_option maxRecDepth 20000 in
theorem lwr_32 : ∀ w ∈ wsL_law_r32, w ∈ lw_tb2 := memPs [737, 738, 739, 236, 234, 240, 238, 1173, 1174, 1175, 1176, 740, 741, 742, 743, 118, 124, 129, 133, 744, 1350, 1351, 1352, 1353] (by decide +kernel)
set_option maxRecDepth 20000 in
theorem lwr_33 : ∀ w ∈ wsL_law_r33, w ∈ lw_tb2 := memPs [745, 746, 747, 748, 142, 146, 749, 750, 751, 752, 753, 754, 755, 1354, 1355, 1356, 1357, 756, 757, 758, 759, 1358, 1359, 1360] (by decide +kernel)
set_option maxRecDepth 20000 in
theorem lwr_34 : ∀ w ∈ wsL_law_r34, w ∈ lw_tb2 := memPs [1361, 760, 761, 762, 763, 153, 158, 162, 165, 764, 1362, 1363, 1364, 1365, 765, 766, 767, 768, 769, 1366, 1367, 1368, 1369, 770] (by decide +kernel)
set_option maxRecDepth 20000 in
theorem lwr_35 : ∀ w ∈ wsL_law_r35, w ∈ lw_tb2 := memPs [771, 772, 773, 774, 775, 776, 777, 778, 1370, 1371, 1372, 1373, 1374, 779, 780, 781, 782, 784, 783, 1375, 1376, 1377, 1378, 1379] (by decide +kernel)
set_option maxRecDepth 20000 in
theorem lwr_36 : ∀ w ∈ wsL_law_r36, w ∈ lw_tb2 := memPs [785, 786, 787, 788, 789, 1380, 1381, 1382, 1383, 790, 791, 792, 793, 168, 1384, 1385, 1386, 1387, 794, 795, 796, 797, 798, 799] (by decide +kernel)
set_option maxRecDepth 20000 in
theorem lwr_37 : ∀ w ∈ wsL_law_r37, w ∈ lw_tb2 := memPs [800, 801, 284, 802, 804, 11, 805, 111, 127, 114, 121, 806, 807, 808, 809, 810, 811, 1388, 1389, 1390, 1391, 1124, 1392, 1394] (by decide +kernel)
set_option maxRecDepth 20000 in
theorem lwr_38 : ∀ w ∈ wsL_law_r38, w ∈ lw_tb2 := memPs [52, 1395, 1396, 812, 813, 814, 815, 816, 817, 818, 819, 820, 822, 12, 823, 824, 826, 13, 827, 828, 830, 14, 831, 832] (by decide +kernel)
set_option maxRecDepth 20000 in
theorem lwr_39 : ∀ w ∈ wsL_law_r39, w ∈ lw_tb2 := memPs [834, 15, 835, 1397, 1398, 1399, 1400, 1401, 836, 837, 838, 839, 840, 841, 842, 843, 1402, 1403, 1404, 1405, 844, 845, 846, 847] (by decide +kernel)
set_option maxRecDepth 20000 in
theorem lwr_40 : ∀ w ∈ wsL_law_r40, w ∈ lw_tb2 := memPs [150, 848, 1406, 1407, 1408, 1409, 849, 850, 851, 852, 853, 854, 855, 856, 149, 857, 858, 859, 861, 16, 862, 156, 863, 1410] (by decide +kernel)
set_option maxRecDepth 20000 in
theorem lwr_41 : ∀ w ∈ wsL_law_r41, w ∈ lw_tb2 := memPs [1411, 1412, 1413, 864, 865, 866, 867, 868, 869, 870, 871, 109, 872, 874, 17, 875, 122, 117, 1414, 1415, 1416, 1417, 876, 877] (by decide +kernel)
set_option maxRecDepth 20000 in
theorem lwr_42 : ∀ w ∈ wsL_law_r42, w ∈ lw_tb2 := memPs [878, 879, 880, 881, 882, 883, 136, 884, 886, 18, 887, 888, 889, 1418, 1419, 1420, 1421, 890, 891, 892, 893, 894, 895, 896] (by decide +kernel)
set_option maxRecDepth 20000 in
theorem lwr_43 : ∀ w ∈ wsL_law_r43, w ∈ lw_tb2 := memPs [897, 898, 1534, 374, 899, 900, 365, 364, 901, 1535, 0, 903, 904, 905, 1536, 1, 907, 908, 917, 909, 910, 90, 911, 912] (by decide +kernel)
set_option maxRecDepth 20000 in
theorem lwr_44 : ∀ w ∈ wsL_law_r44, w ∈ lw_tb2 := memPs [913, 914, 915, 916, 918, 919, 91, 920, 921, 922, 923, 924, 925, 927, 928, 929, 930, 932, 933, 931, 934, 935, 936, 937] (by decide +kernel)
set_option maxRecDepth 20000 in
theorem lwr_45 : ∀ w ∈ wsL_law_r45, w ∈ lw_tb2 := memPs [938, 939, 940, 941, 942, 943, 944, 945, 946, 947, 948, 949, 950, 951, 952, 1537, 953, 954, 955, 956, 92, 957, 958, 959] (by decide +kernel)
set_option maxRecDepth 20000 in
theorem lwr_46 : ∀ w ∈ wsL_law_r46, w ∈ lw_tb2 := memPs [960, 961, 963, 965, 966, 967, 968, 969, 970, 971, 972, 973, 974, 975, 976, 977, 978, 979, 980, 984, 981, 982, 983, 985] (by decide +kernel)
set_option maxRecDepth 20000 in
theorem lwr_47 : ∀ w ∈ wsL_law_r47, w ∈ lw_tb2 := memPs [986, 987, 988, 989, 1538, 990, 991, 992, 993, 994, 995, 1539, 2, 997, 998, 999, 1000, 1001, 1002, 1003, 1004, 1005, 1006, 1007] (by decide +kernel)
set_option maxRecDepth 20000 in
theorem lwr_48 : ∀ w ∈ wsL_law_r48, w ∈ lw_tb2 := memPs [1008, 1009, 1010, 1011, 1012, 1013, 1014, 1015, 1016, 1017, 1018, 1019, 1020, 1021, 1540, 1022, 1023, 1422, 1423, 1424, 1425, 1126, 1426, 1428] (by decide +kernel)
set_option maxRecDepth 20000 in
theorem lwr_49 : ∀ w ∈ wsL_law_r49, w ∈ lw_tb2 := memPs [53, 1429, 1430, 1432, 54, 1433, 1434, 1436, 55, 1437, 1024, 1025, 1026, 1027, 1438, 1439, 1440, 1441, 1028, 1029, 1030, 1031, 1032, 1033] (by decide +kernel)
set_option maxRecDepth 20000 in
theorem lwr_50 : ∀ w ∈ wsL_law_r50, w ∈ lw_tb2 := memPs [1034, 1035, 1036, 1541, 1037, 1038, 1039, 1040, 1041, 1442, 1443, 1444, 1445, 1042, 1043, 1044, 1045, 138, 1046, 1048, 19, 1049, 1050, 1052] (by decide +kernel)
set_option maxRecDepth 20000 in
theorem lwr_51 : ∀ w ∈ wsL_law_r51, w ∈ lw_tb2 := memPs [20, 1053, 1494, 1495, 1496, 1497, 1054, 1055, 1056, 1057, 1498, 1499, 1500, 1501, 1502, 1504, 65, 1505, 1058, 1059, 1060, 1061, 1062, 1063] (by decide +kernel)
set_option maxRecDepth 20000 in
theorem lwr_52 : ∀ w ∈ wsL_law_r52, w ∈ lw_tb2 := memPs [1064, 1065, 137, 1066, 1506, 1507, 1508, 1509, 1510, 1512, 66, 1513, 1067, 1068, 1069, 1070, 171, 325, 219, 1071, 1072, 1073, 1074, 1075] (by decide +kernel)
set_option maxRecDepth 20000 in
theorem lwr_53 : ∀ w ∈ wsL_law_r53, w ∈ lw_tb2 := memPs [1076, 1077, 1078, 1079, 1080, 1081, 1082, 1083, 1084, 1085, 1086, 1087, 1088, 1089, 1090, 1091, 1514, 1515, 1516, 1517, 1518, 1520, 67, 1521] (by decide +kernel)
set_option maxRecDepth 20000 in
theorem lwr_54 : ∀ w ∈ wsL_law_r54, w ∈ lw_tb2 := memPs [1092, 1093, 1094, 1095, 1096, 1097, 1098, 1099, 1522, 1523, 1524, 1525, 1100, 1101, 1102, 1103, 1104, 1526, 1527, 1528, 1529, 1118, 1105, 1106] (by decide +kernel)
set_option maxRecDepth 20000 in
theorem lwr_55 : ∀ w ∈ wsL_law_r55, w ∈ lw_tb2 := memPs [1107, 1108, 1530, 1531, 1532, 1533] (by decide +kernel)
theorem lwr_all : ∀ w ∈ (wsL_law_r1 ++ (wsL_law_r2 ++ (wsL_law_r3 ++ (wsL_law_r4 ++ (wsL_law_r5 ++ (wsL_law_r6 ++ (wsL_law_r7 ++ (wsL_law_r8 ++ (wsL_law_r9 ++ (wsL_law_r10 ++ (wsL_law_r11 ++ (wsL_law_r12 ++ (wsL_law_r13 ++ (wsL_law_r14 ++ (wsL_law_r15 ++ (wsL_law_r16 ++ (wsL_law_r17 ++ (wsL_law_r18 ++ (wsL_law_r19 ++ (wsL_law_r20 ++ (wsL_law_r21 ++ (wsL_law_r22 ++ (wsL_law_r23 ++ (wsL_law_r24 ++ (wsL_law_r25 ++ (wsL_law_r26 ++ (wsL_law_r27 ++ (wsL_law_r28 ++ (wsL_law_r29 ++ (wsL_law_r30 ++ (wsL_law_r31 ++ (wsL_law_r32 ++ (wsL_law_r33 ++ (wsL_law_r34 ++ (wsL_law_r35 ++ (wsL_law_r36 ++ (wsL_law_r37 ++ (wsL_law_r38 ++ (wsL_law_r39 ++ (wsL_law_r40 ++ (wsL_law_r41 ++ (wsL_law_r42 ++ (wsL_law_r43 ++ (wsL_law_r44 ++ (wsL_law_r45 ++ (wsL_law_r46 ++ (wsL_law_r47 ++ (wsL_law_r48 ++ (wsL_law_r49 ++ (wsL_law_r50 ++ (wsL_law_r51 ++ (wsL_law_r52 ++ (wsL_law_r53 ++ (wsL_law_r54 ++ wsL_law_r55)))))))))))))))))))))))))))))))))))))))))))))))))))))), w ∈ lw_tb2 := List.forall_mem_append.mpr ⟨lwr_1, List.forall_mem_append.mpr ⟨lwr_2, List.forall_mem_append.mpr ⟨lwr_3, List.forall_mem_append.mpr ⟨lwr_4, List.forall_mem_append.mpr ⟨lwr_5, List.forall_mem_append.mpr ⟨lwr_6, List.forall_mem_append.mpr ⟨lwr_7, List.forall_mem_append.mpr ⟨lwr_8, List.forall_mem_append.mpr ⟨lwr_9, List.forall_mem_append.mpr ⟨lwr_10, List.forall_mem_append.mpr ⟨lwr_11, List.forall_mem_append.mpr ⟨lwr_12, List.forall_mem_append.mpr ⟨lwr_13, List.forall_mem_append.mpr ⟨lwr_14, List.forall_mem_append.mpr ⟨lwr_15, List.forall_mem_append.mpr ⟨lwr_16, List.forall_mem_append.mpr ⟨lwr_17, List.forall_mem_append.mpr ⟨lwr_18, List.forall_mem_append.mpr ⟨lwr_19, List.forall_mem_append.mpr ⟨lwr_20, List.forall_mem_append.mpr ⟨lwr_21, List.forall_mem_append.mpr ⟨lwr_22, List.forall_mem_append.mpr ⟨lwr_23, List.forall_mem_append.mpr ⟨lwr_24, List.forall_mem_append.mpr ⟨lwr_25, List.forall_mem_append.mpr ⟨lwr_26, List.forall_mem_append.mpr ⟨lwr_27, List.forall_mem_append.mpr ⟨lwr_28, List.forall_mem_append.mpr ⟨lwr_29, List.forall_mem_append.mpr ⟨lwr_30, List.forall_mem_append.mpr ⟨lwr_31, List.forall_mem_append.mpr ⟨lwr_32, List.forall_mem_append.mpr ⟨lwr_33, List.forall_mem_append.mpr ⟨lwr_34, List.forall_mem_append.mpr ⟨lwr_35, List.forall_mem_append.mpr ⟨lwr_36, List.forall_mem_append.mpr ⟨lwr_37, List.forall_mem_append.mpr ⟨lwr_38, List.forall_mem_append.mpr ⟨lwr_39, List.forall_mem_append.mpr ⟨lwr_40, List.forall_mem_append.mpr ⟨lwr_41, List.forall_mem_append.mpr ⟨lwr_42, List.forall_mem_append.mpr ⟨lwr_43, List.forall_mem_append.mpr ⟨lwr_44, List.forall_mem_append.mpr ⟨lwr_45, List.forall_mem_append.mpr ⟨lwr_46, List.forall_mem_append.mpr ⟨lwr_47, List.forall_mem_append.mpr ⟨lwr_48, List.forall_mem_append.mpr ⟨lwr_49, List.forall_mem_append.mpr ⟨lwr_50, List.forall_mem_append.mpr ⟨lwr_51, List.forall_mem_append.mpr ⟨lwr_52, List.forall_mem_append.mpr ⟨lwr_53, List.forall_mem_append.mpr ⟨lwr_54, lwr_55⟩⟩⟩⟩⟩⟩⟩⟩⟩⟩⟩⟩⟩⟩⟩⟩⟩⟩⟩⟩⟩⟩⟩⟩⟩⟩⟩⟩⟩⟩⟩⟩⟩⟩⟩⟩⟩⟩⟩⟩⟩⟩⟩⟩⟩⟩⟩⟩⟩⟩⟩⟩⟩⟩
theorem lwc_X10 : ∀ w ∈ wsX100, w ∈ lw_tb2 := memPs [388, 390, 392, 394, 396, 398, 400, 402, 404, 406, 408, 410] (by decide +kernel)
theorem lwc_X11 : ∀ w ∈ wsX110, w ∈ lw_tb2 := memPs [1134, 1136, 1138, 1140, 1142, 1144, 1146, 1148, 1150, 1152, 1154, 1156, 1158, 1160, 1162, 1164, 1166, 1168, 1170] (by decide +kernel)
theorem lwc_X9 : ∀ w ∈ wsX90, w ∈ lw_tb2 := memPs [172, 174, 176, 178, 180, 182, 184, 186, 188, 190, 192, 194, 196, 198, 200, 202] (by decide +kernel)
theorem lwc_X3 : ∀ w ∈ wsX30, w ∈ lw_tb2 := memPs [220, 222, 224] (by decide +kernel)
theorem lwc_X6 : ∀ w ∈ wsX60, w ∈ lw_tb2 := memPs [241, 243, 245, 247] (by decide +kernel)
theorem lwc_X7 : ∀ w ∈ wsX70, w ∈ lw_tb2 := memPs [257] (by decide +kernel)
theorem lwc_X8 : ∀ w ∈ wsX80, w ∈ lw_tb2 := memPs [269, 271, 273] (by decide +kernel)
theorem lwc_X1 : ∀ w ∈ wsX10, w ∈ lw_tb2 := memPs [288, 290, 292, 294, 296, 298] (by decide +kernel)
theorem lwc_X5 : ∀ w ∈ wsX50, w ∈ lw_tb2 := memPs [310, 312] (by decide +kernel)
theorem lwc_X4 : ∀ w ∈ wsX40, w ∈ lw_tb2 := memPs [332, 334, 336, 338, 340] (by decide +kernel)
theorem lwc_J4 : ∀ w ∈ wsJ40, w ∈ lw_tb2 := memPs [366, 368, 370, 372] (by decide +kernel)
theorem law_in : ∀ w ∈ wsL_law, w ∈ lw_tb2 := List.forall_mem_append.mpr ⟨List.forall_mem_append.mpr ⟨List.forall_mem_append.mpr ⟨List.forall_mem_append.mpr ⟨List.forall_mem_append.mpr ⟨List.forall_mem_append.mpr ⟨List.forall_mem_append.mpr ⟨List.forall_mem_append.mpr ⟨List.forall_mem_append.mpr ⟨List.forall_mem_append.mpr ⟨List.forall_mem_append.mpr ⟨List.forall_mem_append.mpr ⟨lwr_all, lwc_X10⟩, lwc_X11⟩, lwc_X9⟩, lwc_X3⟩, lwc_X6⟩, lwc_X7⟩, lwc_X8⟩, lwc_X1⟩, lwc_X5⟩, lwc_X4⟩, lwc_J4⟩, fun _ h => absurd h List.not_mem_nil⟩
theorem law_hts {args : Array Value} {s : State} (hts : ∀ w ∈ lw_tbl, w.before args s = true) : ∀ w ∈ wsL_law, w.before args s = true := by
  intro w hw
  have h := law_in w hw
  have hi : (Cond.instantiable RJ4 4).before args s = true := hts _ (List.mem_of_getElem? (i := 342) (by decide +kernel))
  rcases List.mem_append.mp h with h | h
  · rcases List.mem_cons.mp h with rfl | h
    · exact sel_priv (n := 4) ⟨by decide +kernel, by decide +kernel⟩ hi (hts _ (List.mem_of_getElem? (i := 899) (by decide +kernel))) (hts _ (List.mem_of_getElem? (i := 900) (by decide +kernel))) (hts _ (List.mem_of_getElem? (i := 1532) (by decide +kernel)))
    · rcases List.mem_cons.mp h with rfl | h
      · exact sel_priv (n := 4) ⟨by decide +kernel, by decide +kernel⟩ hi (hts _ (List.mem_of_getElem? (i := 903) (by decide +kernel))) (hts _ (List.mem_of_getElem? (i := 904) (by decide +kernel))) (hts _ (List.mem_of_getElem? (i := 1533) (by decide +kernel)))
      · rcases List.mem_cons.mp h with rfl | h
        · exact sel_priv (n := 4) ⟨by decide +kernel, by decide +kernel⟩ hi (hts _ (List.mem_of_getElem? (i := 993) (by decide +kernel))) (hts _ (List.mem_of_getElem? (i := 994) (by decide +kernel))) (hts _ (List.mem_of_getElem? (i := 1536) (by decide +kernel)))
        · cases h
  · exact hts w h
