/-! THE LAW'S WORDS: each is among the tables' -/
/-- a private method of a class above, on an object of one below -/
theorem sel_priv {C : String} {y : MethodName} {s : State} {args : Array Value} {n : Nat} (hy : y.cls ≠ "java/lang/invoke/MethodHandle" ∧ y.cls ≠ "java/lang/invoke/VarHandle")
    (hC : (Cond.instantiable C n).before args s = true) (hpriv : (Cond.privateMethod y).before args s = true) (hinst : (Cond.instanceMethod y).before args s = true) (hsame : (Cond.sameMethod y.cls y.cls y.name y.desc).before args s = true) :
    (Cond.selects C y y).before args s = true := by
  obtain ⟨c, k, hc, hk, -, hniab, -, -⟩ := Cond.instantiable_spec hC
  obtain ⟨mk, methM, hnamed, hmethM, -, -⟩ := Cond.instanceMethod_spec hinst
  obtain ⟨c2, k2, hc2, hk2, hi2⟩ := Cond.sameMethod_class hsame
  have hfound : s.methodFound? y.cls y.name y.desc = some mk := State.methodFound?_of_named hnamed hy
  have hcls : mk.cls = c2 := Option.some.inj ((findClass_of_methodNamed hnamed).symm.trans hc2)
  have hsel : selectMethod {} s.vm c mk = .method mk := selectMethod_private hmethM (Cond.privateMethod_at hpriv mk methM hnamed hmethM)
  simp only [Cond.before, Cond.holds, Cond.value, hc, hfound, hnamed, hsel, hcls, hk2]
  simp; exact hi2
def lw_ext : List Cond := [Cond.selects RJ4 yJ5_ensureCapacityInternal_d00df yJ5_ensureCapacityInternal_d00df, Cond.selects RJ4 yJ5_newCapacity_0f7a4 yJ5_newCapacity_0f7a4, Cond.selects RJ4 ⟨RJ5, "inflate", "()V"⟩ ⟨RJ5, "inflate", "()V"⟩]
def lw_tb2 : List Cond := lw_ext ++ lw_tbl
theorem memPs {big : List Cond} {ws : List Cond} (ps : List Nat) (hp : ws = ps.filterMap (fun i => big[i]?)) : ∀ w ∈ ws, w ∈ big := by
  intro w hw
  rw [hp] at hw
  obtain ⟨i, -, hi⟩ := List.mem_filterMap.mp hw
  exact List.mem_of_getElem? hi
set_option maxRecDepth 20000 in
theorem lwr_1 : ∀ w ∈ wsL_law_r1, w ∈ lw_tb2 := memPs [92, 93, 68, 1100, 1101, 83, 94, 95, 96, 97, 98, 99, 100, 101, 69, 375, 376, 377, 206, 207, 70, 378, 226, 227] (by decide +kernel)
set_option maxRecDepth 20000 in
theorem lwr_2 : ∀ w ∈ wsL_law_r2, w ∈ lw_tb2 := memPs [71, 379, 249, 250, 72, 380, 259, 260, 73, 381, 275, 276, 74, 382, 301, 302, 75, 383, 314, 315, 76, 384, 385, 343] (by decide +kernel)
set_option maxRecDepth 20000 in
theorem lwr_3 : ∀ w ∈ wsL_law_r3, w ∈ lw_tb2 := memPs [344, 80, 386, 102, 103, 104, 105, 204, 112, 118, 124, 129, 138, 205, 142, 143, 150, 153, 158, 162, 208, 209, 210, 211] (by decide +kernel)
set_option maxRecDepth 20000 in
theorem lwr_4 : ∀ w ∈ wsL_law_r4, w ∈ lw_tb2 := memPs [212, 215, 214, 228, 229, 230, 231, 232, 234, 236, 238, 251, 252, 253, 254, 255, 261, 262, 263, 264, 265, 266, 267, 277] (by decide +kernel)
set_option maxRecDepth 20000 in
theorem lwr_5 : ∀ w ∈ wsL_law_r5, w ∈ lw_tb2 := memPs [278, 279, 280, 281, 282, 300, 284, 285, 286, 303, 304, 305, 306, 307, 308, 316, 317, 318, 319, 342, 322, 320, 325, 327] (by decide +kernel)
set_option maxRecDepth 20000 in
theorem lwr_6 : ∀ w ∈ wsL_law_r6, w ∈ lw_tb2 := memPs [345, 346, 347, 348, 349, 79, 350, 351, 352, 374, 361, 362, 354, 355, 82, 356, 357, 358, 359, 360, 1102, 1103, 1104, 1105] (by decide +kernel)
set_option maxRecDepth 20000 in
theorem lwr_7 : ∀ w ∈ wsL_law_r7, w ∈ lw_tb2 := memPs [1106, 1107, 1114, 1116, 1118, 1122, 1123, 412, 413, 414, 415, 107, 416, 417, 418, 419, 106, 133, 146, 165, 168, 420, 421, 422] (by decide +kernel)
set_option maxRecDepth 20000 in
theorem lwr_8 : ∀ w ∈ wsL_law_r8, w ∈ lw_tb2 := memPs [423, 217, 1337, 1338, 1339, 1340, 1108, 424, 425, 426, 427, 428, 429, 430, 431, 323, 1437, 1438, 1439, 1440, 1119, 1168, 1169, 1170] (by decide +kernel)
set_option maxRecDepth 20000 in
theorem lwr_9 : ∀ w ∈ wsL_law_r9, w ∈ lw_tb2 := memPs [432, 433, 434, 435, 436, 437, 438, 439, 216, 440, 441, 442, 443, 444, 446, 445, 84, 447, 448, 449, 450, 111, 115, 119] (by decide +kernel)
set_option maxRecDepth 20000 in
theorem lwr_10 : ∀ w ∈ wsL_law_r10, w ∈ lw_tb2 := memPs [127, 131, 451, 452, 453, 454, 455, 456, 457, 458, 459, 460, 85, 461, 1171, 1172, 1173, 1174, 1175, 1177, 20, 1178, 1179, 1181] (by decide +kernel)
set_option maxRecDepth 20000 in
theorem lwr_11 : ∀ w ∈ wsL_law_r11, w ∈ lw_tb2 := memPs [21, 1182, 1183, 1185, 22, 1186, 1187, 1189, 23, 1190, 1110, 1111, 1112, 1191, 1193, 24, 1194, 462, 463, 464, 465, 1195, 1196, 1197] (by decide +kernel)
set_option maxRecDepth 20000 in
theorem lwr_12 : ∀ w ∈ wsL_law_r12, w ∈ lw_tb2 := memPs [1198, 466, 467, 468, 469, 470, 471, 472, 473, 134, 139, 144, 474, 475, 476, 477, 478, 479, 480, 1199, 1200, 1201, 1202, 1203] (by decide +kernel)
set_option maxRecDepth 20000 in
theorem lwr_13 : ∀ w ∈ wsL_law_r13, w ∈ lw_tb2 := memPs [1205, 25, 1206, 481, 482, 483, 484, 485, 486, 487, 488, 147, 151, 154, 159, 163, 1207, 1208, 1209, 1210, 1211, 1213, 26, 1214] (by decide +kernel)
set_option maxRecDepth 20000 in
theorem lwr_14 : ∀ w ∈ wsL_law_r14, w ∈ lw_tb2 := memPs [489, 490, 491, 492, 493, 494, 495, 496, 497, 498, 499, 500, 501, 502, 503, 504, 505, 506, 507, 508, 509, 510, 511, 512] (by decide +kernel)
set_option maxRecDepth 20000 in
theorem lwr_15 : ∀ w ∈ wsL_law_r15, w ∈ lw_tb2 := memPs [513, 514, 515, 516, 517, 1215, 1216, 1217, 1218, 1219, 1221, 27, 1222, 1223, 1225, 28, 1226, 1227, 1229, 29, 1230, 1231, 1233, 30] (by decide +kernel)
set_option maxRecDepth 20000 in
theorem lwr_16 : ∀ w ∈ wsL_law_r16, w ∈ lw_tb2 := memPs [1234, 1235, 1237, 31, 1238, 1239, 1241, 32, 1242, 1243, 1245, 33, 1246, 1247, 1249, 34, 1250, 518, 519, 520, 521, 522, 523, 524] (by decide +kernel)
set_option maxRecDepth 20000 in
theorem lwr_17 : ∀ w ∈ wsL_law_r17, w ∈ lw_tb2 := memPs [525, 1251, 1252, 1253, 1254, 1255, 1257, 35, 1258, 526, 527, 528, 529, 530, 531, 532, 533, 534, 535, 536, 537, 542, 543, 544] (by decide +kernel)
set_option maxRecDepth 20000 in
theorem lwr_18 : ∀ w ∈ wsL_law_r18, w ∈ lw_tb2 := memPs [538, 539, 540, 541, 109, 125, 114, 130, 121, 1259, 1260, 1261, 1262, 1263, 1265, 36, 1266, 1267, 1269, 37, 1270, 1271, 1273, 38] (by decide +kernel)
set_option maxRecDepth 20000 in
theorem lwr_19 : ∀ w ∈ wsL_law_r19, w ∈ lw_tb2 := memPs [1274, 1275, 1276, 1277, 545, 546, 547, 548, 549, 550, 551, 552, 166, 169, 553, 554, 555, 556, 557, 558, 559, 560, 561, 562] (by decide +kernel)
set_option maxRecDepth 20000 in
theorem lwr_20 : ∀ w ∈ wsL_law_r20, w ∈ lw_tb2 := memPs [563, 564, 565, 566, 567, 568, 569, 570, 571, 572, 573, 574, 575, 576, 577, 578, 579, 580, 581, 582, 160, 584, 583, 585] (by decide +kernel)
set_option maxRecDepth 20000 in
theorem lwr_21 : ∀ w ∈ wsL_law_r21, w ∈ lw_tb2 := memPs [586, 587, 588, 589, 156, 595, 590, 591, 592, 593, 594, 596, 598, 3, 599, 140, 600, 601, 602, 603, 1278, 1279, 1280, 1281] (by decide +kernel)
set_option maxRecDepth 20000 in
theorem lwr_22 : ∀ w ∈ wsL_law_r22, w ∈ lw_tb2 := memPs [1282, 1284, 39, 1285, 1286, 1288, 40, 1289, 1290, 1292, 41, 1293, 1294, 1296, 42, 1297, 1298, 1300, 43, 1301, 1302, 1304, 44, 1305] (by decide +kernel)
set_option maxRecDepth 20000 in
theorem lwr_23 : ∀ w ∈ wsL_law_r23, w ∈ lw_tb2 := memPs [1306, 1307, 1309, 45, 1310, 1316, 1311, 1313, 46, 1314, 1315, 1317, 1319, 47, 1320, 1321, 1323, 48, 1324, 1325, 1327, 49, 1328, 604] (by decide +kernel)
set_option maxRecDepth 20000 in
theorem lwr_24 : ∀ w ∈ wsL_law_r24, w ∈ lw_tb2 := memPs [605, 606, 607, 608, 609, 610, 611, 1329, 1330, 1331, 1332, 1333, 1335, 50, 1336, 612, 613, 614, 615, 616, 617, 618, 619, 329] (by decide +kernel)
set_option maxRecDepth 20000 in
theorem lwr_25 : ∀ w ∈ wsL_law_r25, w ∈ lw_tb2 := memPs [620, 621, 622, 623, 624, 1533, 689, 690, 691, 626, 628, 4, 629, 630, 631, 632, 81, 633, 1534, 634, 635, 636, 637, 638] (by decide +kernel)
set_option maxRecDepth 20000 in
theorem lwr_26 : ∀ w ∈ wsL_law_r26, w ∈ lw_tb2 := memPs [1535, 639, 640, 641, 642, 643, 644, 645, 646, 647, 648, 86, 649, 650, 651, 652, 653, 655, 656, 87, 657, 658, 659, 660] (by decide +kernel)
set_option maxRecDepth 20000 in
theorem lwr_27 : ∀ w ∈ wsL_law_r27, w ∈ lw_tb2 := memPs [661, 662, 663, 664, 665, 666, 667, 668, 669, 670, 671, 673, 675, 677, 679, 5, 680, 681, 683, 6, 684, 685, 687, 7] (by decide +kernel)
set_option maxRecDepth 20000 in
theorem lwr_28 : ∀ w ∈ wsL_law_r28, w ∈ lw_tb2 := memPs [688, 692, 694, 8, 695, 326, 328, 330, 696, 697, 699, 9, 700, 701, 703, 704, 706, 707, 77, 708, 1536, 709, 710, 711] (by decide +kernel)
set_option maxRecDepth 20000 in
theorem lwr_29 : ∀ w ∈ wsL_law_r29, w ∈ lw_tb2 := memPs [712, 713, 714, 715, 716, 717, 718, 719, 720, 721, 722, 1441, 1442, 1443, 1444, 1121, 1124, 1113, 1445, 1447, 55, 1448, 1120, 1449] (by decide +kernel)
set_option maxRecDepth 20000 in
theorem lwr_30 : ∀ w ∈ wsL_law_r30, w ∈ lw_tb2 := memPs [1451, 56, 1452, 1453, 1455, 57, 1456, 1457, 1459, 58, 1460, 1461, 1463, 59, 1464, 1465, 1467, 60, 1468, 1469, 1471, 61, 1472, 1473] (by decide +kernel)
set_option maxRecDepth 20000 in
theorem lwr_31 : ∀ w ∈ wsL_law_r31, w ∈ lw_tb2 := memPs [1475, 62, 1476, 1477, 1479, 63, 1480, 723, 724, 725, 726, 1481, 1482, 1483, 1484, 727, 728, 729, 730, 235, 233, 239, 237, 1164] (by decide +kernel)
set_option maxRecDepth 20000 in
theorem lwr_32 : ∀ w ∈ wsL_law_r32, w ∈ lw_tb2 := memPs [1165, 1166, 1167, 731, 732, 733, 734, 117, 123, 128, 132, 735, 1341, 1342, 1343, 1344, 736, 737, 738, 739, 141, 145, 740, 741] (by decide +kernel)
set_option maxRecDepth 20000 in
theorem lwr_33 : ∀ w ∈ wsL_law_r33, w ∈ lw_tb2 := memPs [742, 743, 744, 745, 746, 1345, 1346, 1347, 1348, 747, 748, 749, 750, 1349, 1350, 1351, 1352, 751, 752, 753, 754, 152, 157, 161] (by decide +kernel)
set_option maxRecDepth 20000 in
theorem lwr_34 : ∀ w ∈ wsL_law_r34, w ∈ lw_tb2 := memPs [164, 755, 1353, 1354, 1355, 1356, 756, 757, 758, 759, 760, 1357, 1358, 1359, 1360, 761, 762, 763, 764, 765, 766, 767, 768, 769] (by decide +kernel)
set_option maxRecDepth 20000 in
theorem lwr_35 : ∀ w ∈ wsL_law_r35, w ∈ lw_tb2 := memPs [1361, 1362, 1363, 1364, 1365, 770, 771, 772, 773, 775, 774, 1366, 1367, 1368, 1369, 1370, 776, 777, 778, 779, 780, 1371, 1372, 1373] (by decide +kernel)
set_option maxRecDepth 20000 in
theorem lwr_36 : ∀ w ∈ wsL_law_r36, w ∈ lw_tb2 := memPs [1374, 781, 782, 783, 784, 167, 1375, 1376, 1377, 1378, 785, 786, 787, 788, 789, 790, 791, 792, 283, 793, 795, 10, 796, 110] (by decide +kernel)
set_option maxRecDepth 20000 in
theorem lwr_37 : ∀ w ∈ wsL_law_r37, w ∈ lw_tb2 := memPs [126, 113, 120, 797, 798, 799, 800, 801, 802, 1379, 1380, 1381, 1382, 1115, 1383, 1385, 51, 1386, 1387, 803, 804, 805, 806, 807] (by decide +kernel)
set_option maxRecDepth 20000 in
theorem lwr_38 : ∀ w ∈ wsL_law_r38, w ∈ lw_tb2 := memPs [808, 809, 810, 811, 813, 11, 814, 815, 817, 12, 818, 819, 821, 13, 822, 823, 825, 14, 826, 1388, 1389, 1390, 1391, 1392] (by decide +kernel)
set_option maxRecDepth 20000 in
theorem lwr_39 : ∀ w ∈ wsL_law_r39, w ∈ lw_tb2 := memPs [827, 828, 829, 830, 831, 832, 833, 834, 1393, 1394, 1395, 1396, 835, 836, 837, 838, 149, 839, 1397, 1398, 1399, 1400, 840, 841] (by decide +kernel)
set_option maxRecDepth 20000 in
theorem lwr_40 : ∀ w ∈ wsL_law_r40, w ∈ lw_tb2 := memPs [842, 843, 844, 845, 846, 847, 148, 848, 849, 850, 852, 15, 853, 155, 854, 1401, 1402, 1403, 1404, 855, 856, 857, 858, 859] (by decide +kernel)
set_option maxRecDepth 20000 in
theorem lwr_41 : ∀ w ∈ wsL_law_r41, w ∈ lw_tb2 := memPs [860, 861, 862, 108, 863, 865, 16, 866, 122, 116, 1405, 1406, 1407, 1408, 867, 868, 869, 870, 871, 872, 873, 874, 135, 875] (by decide +kernel)
set_option maxRecDepth 20000 in
theorem lwr_42 : ∀ w ∈ wsL_law_r42, w ∈ lw_tb2 := memPs [877, 17, 878, 879, 880, 1409, 1410, 1411, 1412, 881, 882, 883, 884, 885, 886, 887, 888, 889, 1525, 373, 890, 891, 364, 363] (by decide +kernel)
set_option maxRecDepth 20000 in
theorem lwr_43 : ∀ w ∈ wsL_law_r43, w ∈ lw_tb2 := memPs [892, 1526, 0, 894, 895, 896, 1527, 1, 898, 899, 908, 900, 901, 89, 902, 903, 904, 905, 906, 907, 909, 910, 90, 911] (by decide +kernel)
set_option maxRecDepth 20000 in
theorem lwr_44 : ∀ w ∈ wsL_law_r44, w ∈ lw_tb2 := memPs [912, 913, 914, 915, 916, 918, 919, 920, 921, 923, 924, 922, 925, 926, 927, 928, 929, 930, 931, 932, 933, 934, 935, 936] (by decide +kernel)
set_option maxRecDepth 20000 in
theorem lwr_45 : ∀ w ∈ wsL_law_r45, w ∈ lw_tb2 := memPs [937, 938, 939, 940, 941, 942, 943, 1528, 944, 945, 946, 947, 91, 948, 949, 950, 951, 952, 954, 956, 957, 958, 959, 960] (by decide +kernel)
set_option maxRecDepth 20000 in
theorem lwr_46 : ∀ w ∈ wsL_law_r46, w ∈ lw_tb2 := memPs [961, 962, 963, 964, 965, 966, 967, 968, 969, 970, 971, 975, 972, 973, 974, 976, 977, 978, 979, 980, 1529, 981, 982, 983] (by decide +kernel)
set_option maxRecDepth 20000 in
theorem lwr_47 : ∀ w ∈ wsL_law_r47, w ∈ lw_tb2 := memPs [984, 985, 986, 1530, 2, 988, 989, 990, 991, 992, 993, 994, 995, 996, 997, 998, 999, 1000, 1001, 1002, 1003, 1004, 1005, 1006] (by decide +kernel)
set_option maxRecDepth 20000 in
theorem lwr_48 : ∀ w ∈ wsL_law_r48, w ∈ lw_tb2 := memPs [1007, 1008, 1009, 1010, 1011, 1012, 1531, 1013, 1014, 1413, 1414, 1415, 1416, 1117, 1417, 1419, 52, 1420, 1421, 1423, 53, 1424, 1425, 1427] (by decide +kernel)
set_option maxRecDepth 20000 in
theorem lwr_49 : ∀ w ∈ wsL_law_r49, w ∈ lw_tb2 := memPs [54, 1428, 1015, 1016, 1017, 1018, 1429, 1430, 1431, 1432, 1019, 1020, 1021, 1022, 1023, 1024, 1025, 1026, 1027, 1532, 1028, 1029, 1030, 1031] (by decide +kernel)
set_option maxRecDepth 20000 in
theorem lwr_50 : ∀ w ∈ wsL_law_r50, w ∈ lw_tb2 := memPs [1032, 1433, 1434, 1435, 1436, 1033, 1034, 1035, 1036, 137, 1037, 1039, 18, 1040, 1041, 1043, 19, 1044, 1485, 1486, 1487, 1488, 1045, 1046] (by decide +kernel)
set_option maxRecDepth 20000 in
theorem lwr_51 : ∀ w ∈ wsL_law_r51, w ∈ lw_tb2 := memPs [1047, 1048, 1489, 1490, 1491, 1492, 1493, 1495, 64, 1496, 1049, 1050, 1051, 1052, 1053, 1054, 1055, 1056, 136, 1057, 1497, 1498, 1499, 1500] (by decide +kernel)
set_option maxRecDepth 20000 in
theorem lwr_52 : ∀ w ∈ wsL_law_r52, w ∈ lw_tb2 := memPs [1501, 1503, 65, 1504, 1058, 1059, 1060, 1061, 170, 324, 218, 1062, 1063, 1064, 1065, 1066, 1067, 1068, 1069, 1070, 1071, 1072, 1073, 1074] (by decide +kernel)
set_option maxRecDepth 20000 in
theorem lwr_53 : ∀ w ∈ wsL_law_r53, w ∈ lw_tb2 := memPs [1075, 1076, 1077, 1078, 1079, 1080, 1081, 1082, 1505, 1506, 1507, 1508, 1509, 1511, 66, 1512, 1083, 1084, 1085, 1086, 1087, 1088, 1089, 1090] (by decide +kernel)
set_option maxRecDepth 20000 in
theorem lwr_54 : ∀ w ∈ wsL_law_r54, w ∈ lw_tb2 := memPs [1513, 1514, 1515, 1516, 1091, 1092, 1093, 1094, 1095, 1517, 1518, 1519, 1520, 1109, 1096, 1097, 1098, 1099, 1521, 1522, 1523, 1524] (by decide +kernel)
theorem lwr_all : ∀ w ∈ (wsL_law_r1 ++ (wsL_law_r2 ++ (wsL_law_r3 ++ (wsL_law_r4 ++ (wsL_law_r5 ++ (wsL_law_r6 ++ (wsL_law_r7 ++ (wsL_law_r8 ++ (wsL_law_r9 ++ (wsL_law_r10 ++ (wsL_law_r11 ++ (wsL_law_r12 ++ (wsL_law_r13 ++ (wsL_law_r14 ++ (wsL_law_r15 ++ (wsL_law_r16 ++ (wsL_law_r17 ++ (wsL_law_r18 ++ (wsL_law_r19 ++ (wsL_law_r20 ++ (wsL_law_r21 ++ (wsL_law_r22 ++ (wsL_law_r23 ++ (wsL_law_r24 ++ (wsL_law_r25 ++ (wsL_law_r26 ++ (wsL_law_r27 ++ (wsL_law_r28 ++ (wsL_law_r29 ++ (wsL_law_r30 ++ (wsL_law_r31 ++ (wsL_law_r32 ++ (wsL_law_r33 ++ (wsL_law_r34 ++ (wsL_law_r35 ++ (wsL_law_r36 ++ (wsL_law_r37 ++ (wsL_law_r38 ++ (wsL_law_r39 ++ (wsL_law_r40 ++ (wsL_law_r41 ++ (wsL_law_r42 ++ (wsL_law_r43 ++ (wsL_law_r44 ++ (wsL_law_r45 ++ (wsL_law_r46 ++ (wsL_law_r47 ++ (wsL_law_r48 ++ (wsL_law_r49 ++ (wsL_law_r50 ++ (wsL_law_r51 ++ (wsL_law_r52 ++ (wsL_law_r53 ++ wsL_law_r54))))))))))))))))))))))))))))))))))))))))))))))))))))), w ∈ lw_tb2 := List.forall_mem_append.mpr ⟨lwr_1, List.forall_mem_append.mpr ⟨lwr_2, List.forall_mem_append.mpr ⟨lwr_3, List.forall_mem_append.mpr ⟨lwr_4, List.forall_mem_append.mpr ⟨lwr_5, List.forall_mem_append.mpr ⟨lwr_6, List.forall_mem_append.mpr ⟨lwr_7, List.forall_mem_append.mpr ⟨lwr_8, List.forall_mem_append.mpr ⟨lwr_9, List.forall_mem_append.mpr ⟨lwr_10, List.forall_mem_append.mpr ⟨lwr_11, List.forall_mem_append.mpr ⟨lwr_12, List.forall_mem_append.mpr ⟨lwr_13, List.forall_mem_append.mpr ⟨lwr_14, List.forall_mem_append.mpr ⟨lwr_15, List.forall_mem_append.mpr ⟨lwr_16, List.forall_mem_append.mpr ⟨lwr_17, List.forall_mem_append.mpr ⟨lwr_18, List.forall_mem_append.mpr ⟨lwr_19, List.forall_mem_append.mpr ⟨lwr_20, List.forall_mem_append.mpr ⟨lwr_21, List.forall_mem_append.mpr ⟨lwr_22, List.forall_mem_append.mpr ⟨lwr_23, List.forall_mem_append.mpr ⟨lwr_24, List.forall_mem_append.mpr ⟨lwr_25, List.forall_mem_append.mpr ⟨lwr_26, List.forall_mem_append.mpr ⟨lwr_27, List.forall_mem_append.mpr ⟨lwr_28, List.forall_mem_append.mpr ⟨lwr_29, List.forall_mem_append.mpr ⟨lwr_30, List.forall_mem_append.mpr ⟨lwr_31, List.forall_mem_append.mpr ⟨lwr_32, List.forall_mem_append.mpr ⟨lwr_33, List.forall_mem_append.mpr ⟨lwr_34, List.forall_mem_append.mpr ⟨lwr_35, List.forall_mem_append.mpr ⟨lwr_36, List.forall_mem_append.mpr ⟨lwr_37, List.forall_mem_append.mpr ⟨lwr_38, List.forall_mem_append.mpr ⟨lwr_39, List.forall_mem_append.mpr ⟨lwr_40, List.forall_mem_append.mpr ⟨lwr_41, List.forall_mem_append.mpr ⟨lwr_42, List.forall_mem_append.mpr ⟨lwr_43, List.forall_mem_append.mpr ⟨lwr_44, List.forall_mem_append.mpr ⟨lwr_45, List.forall_mem_append.mpr ⟨lwr_46, List.forall_mem_append.mpr ⟨lwr_47, List.forall_mem_append.mpr ⟨lwr_48, List.forall_mem_append.mpr ⟨lwr_49, List.forall_mem_append.mpr ⟨lwr_50, List.forall_mem_append.mpr ⟨lwr_51, List.forall_mem_append.mpr ⟨lwr_52, List.forall_mem_append.mpr ⟨lwr_53, lwr_54⟩⟩⟩⟩⟩⟩⟩⟩⟩⟩⟩⟩⟩⟩⟩⟩⟩⟩⟩⟩⟩⟩⟩⟩⟩⟩⟩⟩⟩⟩⟩⟩⟩⟩⟩⟩⟩⟩⟩⟩⟩⟩⟩⟩⟩⟩⟩⟩⟩⟩⟩⟩⟩
theorem lwc_X10 : ∀ w ∈ wsX100, w ∈ lw_tb2 := memPs [387, 389, 391, 393, 395, 397, 399, 401, 403, 405, 407, 409] (by decide +kernel)
theorem lwc_X11 : ∀ w ∈ wsX110, w ∈ lw_tb2 := memPs [1125, 1127, 1129, 1131, 1133, 1135, 1137, 1139, 1141, 1143, 1145, 1147, 1149, 1151, 1153, 1155, 1157, 1159, 1161] (by decide +kernel)
theorem lwc_X9 : ∀ w ∈ wsX90, w ∈ lw_tb2 := memPs [171, 173, 175, 177, 179, 181, 183, 185, 187, 189, 191, 193, 195, 197, 199, 201] (by decide +kernel)
theorem lwc_X3 : ∀ w ∈ wsX30, w ∈ lw_tb2 := memPs [219, 221, 223] (by decide +kernel)
theorem lwc_X6 : ∀ w ∈ wsX60, w ∈ lw_tb2 := memPs [240, 242, 244, 246] (by decide +kernel)
theorem lwc_X7 : ∀ w ∈ wsX70, w ∈ lw_tb2 := memPs [256] (by decide +kernel)
theorem lwc_X8 : ∀ w ∈ wsX80, w ∈ lw_tb2 := memPs [268, 270, 272] (by decide +kernel)
theorem lwc_X1 : ∀ w ∈ wsX10, w ∈ lw_tb2 := memPs [287, 289, 291, 293, 295, 297] (by decide +kernel)
theorem lwc_X5 : ∀ w ∈ wsX50, w ∈ lw_tb2 := memPs [309, 311] (by decide +kernel)
theorem lwc_X4 : ∀ w ∈ wsX40, w ∈ lw_tb2 := memPs [331, 333, 335, 337, 339] (by decide +kernel)
theorem lwc_J4 : ∀ w ∈ wsJ40, w ∈ lw_tb2 := memPs [365, 367, 369, 371] (by decide +kernel)
theorem law_in : ∀ w ∈ wsL_law, w ∈ lw_tb2 := List.forall_mem_append.mpr ⟨List.forall_mem_append.mpr ⟨List.forall_mem_append.mpr ⟨List.forall_mem_append.mpr ⟨List.forall_mem_append.mpr ⟨List.forall_mem_append.mpr ⟨List.forall_mem_append.mpr ⟨List.forall_mem_append.mpr ⟨List.forall_mem_append.mpr ⟨List.forall_mem_append.mpr ⟨List.forall_mem_append.mpr ⟨List.forall_mem_append.mpr ⟨lwr_all, lwc_X10⟩, lwc_X11⟩, lwc_X9⟩, lwc_X3⟩, lwc_X6⟩, lwc_X7⟩, lwc_X8⟩, lwc_X1⟩, lwc_X5⟩, lwc_X4⟩, lwc_J4⟩, fun _ h => absurd h List.not_mem_nil⟩
theorem law_hts {args : Array Value} {s : State} (hts : ∀ w ∈ lw_tbl, w.before args s = true) : ∀ w ∈ wsL_law, w.before args s = true := by
  intro w hw
  have h := law_in w hw
  have hi : (Cond.instantiable RJ4 4).before args s = true := hts _ (List.mem_of_getElem? (i := 341) (by decide +kernel))
  rcases List.mem_append.mp h with h | h
  · rcases List.mem_cons.mp h with rfl | h
    · exact sel_priv (n := 4) ⟨by decide +kernel, by decide +kernel⟩ hi (hts _ (List.mem_of_getElem? (i := 890) (by decide +kernel))) (hts _ (List.mem_of_getElem? (i := 891) (by decide +kernel))) (hts _ (List.mem_of_getElem? (i := 1523) (by decide +kernel)))
    · rcases List.mem_cons.mp h with rfl | h
      · exact sel_priv (n := 4) ⟨by decide +kernel, by decide +kernel⟩ hi (hts _ (List.mem_of_getElem? (i := 894) (by decide +kernel))) (hts _ (List.mem_of_getElem? (i := 895) (by decide +kernel))) (hts _ (List.mem_of_getElem? (i := 1524) (by decide +kernel)))
      · rcases List.mem_cons.mp h with rfl | h
        · exact sel_priv (n := 4) ⟨by decide +kernel, by decide +kernel⟩ hi (hts _ (List.mem_of_getElem? (i := 984) (by decide +kernel))) (hts _ (List.mem_of_getElem? (i := 985) (by decide +kernel))) (hts _ (List.mem_of_getElem? (i := 1527) (by decide +kernel)))
        · cases h
  · exact hts w h
