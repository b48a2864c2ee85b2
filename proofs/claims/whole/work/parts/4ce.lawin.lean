/-! THE LAW'S WORDS ARE THE TABLES' -/
set_option maxRecDepth 20000 in
theorem il_0 : ∀ w ∈ wsL_law0_r1, w ∈ lw_tbl := fun w h => (goodIn_r (big := lw_tbl) wsL_law0_r1 [102, 103, 80, 1271, 1272, 87, 1802, 104, 105, 106, 107, 108, 109, 110, 111, 81, 345, 346, 347, 348, 349, 350, 292, 293] rfl (by decide +kernel) w h).1
set_option maxRecDepth 20000 in
theorem il_1 : ∀ w ∈ wsL_law0_r2, w ∈ lw_tbl := fun w h => (goodIn_r (big := lw_tbl) wsL_law0_r2 [85, 351, 321, 322, 86, 352, 113, 114, 115, 247, 116, 117, 82, 250, 181, 182, 83, 253, 200, 201, 84, 255, 180, 258] rfl (by decide +kernel) w h).1
set_option maxRecDepth 20000 in
theorem il_2 : ∀ w ∈ wsL_law0_r3, w ∈ lw_tbl := fun w h => (goodIn_r (big := lw_tbl) wsL_law0_r3 [260, 262, 264, 266, 268, 119, 120, 121, 122, 126, 127, 130, 133, 135, 138, 141, 143, 145, 148, 151, 184, 185, 186, 187] rfl (by decide +kernel) w h).1
set_option maxRecDepth 20000 in
theorem il_3 : ∀ w ∈ wsL_law0_r4, w ∈ lw_tbl := fun w h => (goodIn_r (big := lw_tbl) wsL_law0_r4 [188, 189, 190, 203, 204, 205, 208, 210, 214, 216, 206, 219, 223, 225, 227, 295, 296, 297, 320, 298, 299, 300, 302, 304] rfl (by decide +kernel) w h).1
set_option maxRecDepth 20000 in
theorem il_4 : ∀ w ∈ wsL_law0_r5, w ∈ lw_tbl := fun w h => (goodIn_r (big := lw_tbl) wsL_law0_r5 [306, 324, 325, 326, 327, 330, 331, 332, 333, 1273, 1274, 1275, 1276, 1277, 1278, 1280, 1282, 1283, 1284, 1285, 1286, 1287, 1291, 653] rfl (by decide +kernel) w h).1
set_option maxRecDepth 20000 in
theorem il_5 : ∀ w ∈ wsL_law0_r6, w ∈ lw_tbl := fun w h => (goodIn_r (big := lw_tbl) wsL_law0_r6 [654, 79, 655, 656, 657, 658, 659, 660, 661, 662, 663, 664, 665, 525, 526, 668, 669, 670, 671, 672, 673, 674, 675, 676] rfl (by decide +kernel) w h).1
set_option maxRecDepth 20000 in
theorem il_6 : ∀ w ∈ wsL_law0_r7, w ∈ lw_tbl := fun w h => (goodIn_r (big := lw_tbl) wsL_law0_r7 [677, 678, 679, 680, 681, 91, 748, 92, 764, 93, 780, 782, 6, 783, 784, 786, 7, 787, 535, 536, 537, 538, 556, 545] rfl (by decide +kernel) w h).1
set_option maxRecDepth 20000 in
theorem il_7 : ∀ w ∈ wsL_law0_r8, w ∈ lw_tbl := fun w h => (goodIn_r (big := lw_tbl) wsL_law0_r8 [544, 94, 539, 540, 541, 542, 543, 546, 547, 548, 549, 550, 551, 552, 553, 554, 555, 788, 789, 790, 791, 136, 792, 793] rfl (by decide +kernel) w h).1
set_option maxRecDepth 20000 in
theorem il_8 : ∀ w ∈ wsL_law0_r9, w ∈ lw_tbl := fun w h => (goodIn_r (big := lw_tbl) wsL_law0_r9 [794, 795, 796, 1330, 1331, 1332, 1333, 1289, 1334, 1335, 1336, 1337, 1338, 1339, 1340, 1341, 1342, 1343, 1344, 1345, 1346, 1347, 1348, 1349] rfl (by decide +kernel) w h).1
set_option maxRecDepth 20000 in
theorem il_9 : ∀ w ∈ wsL_law0_r10, w ∈ lw_tbl := fun w h => (goodIn_r (big := lw_tbl) wsL_law0_r10 [1351, 18, 1352, 1353, 1355, 19, 1356, 1279, 1357, 1358, 1359, 1360, 1362, 20, 1363, 1364, 1366, 21, 1367, 1368, 1370, 22, 1371, 1326] rfl (by decide +kernel) w h).1
set_option maxRecDepth 20000 in
theorem il_10 : ∀ w ∈ wsL_law0_r11, w ∈ lw_tbl := fun w h => (goodIn_r (big := lw_tbl) wsL_law0_r11 [1327, 1328, 1329, 797, 798, 799, 800, 801, 802, 803, 804, 805, 806, 807, 808, 809, 810, 811, 812, 597, 570, 571, 572, 813] rfl (by decide +kernel) w h).1
set_option maxRecDepth 20000 in
theorem il_11 : ∀ w ∈ wsL_law0_r12, w ∈ lw_tbl := fun w h => (goodIn_r (big := lw_tbl) wsL_law0_r12 [814, 815, 816, 144, 817, 818, 819, 820, 569, 1372, 1373, 1374, 1375, 1376, 1378, 23, 1379, 1380, 1382, 24, 1383, 1384, 1386, 25] rfl (by decide +kernel) w h).1
set_option maxRecDepth 20000 in
theorem il_12 : ∀ w ∈ wsL_law0_r13, w ∈ lw_tbl := fun w h => (goodIn_r (big := lw_tbl) wsL_law0_r13 [1387, 1388, 1390, 26, 1391, 821, 822, 823, 824, 825, 826, 827, 828, 829, 830, 831, 832, 833, 834, 835, 139, 142, 1392, 1393] rfl (by decide +kernel) w h).1
set_option maxRecDepth 20000 in
theorem il_13 : ∀ w ∈ wsL_law0_r14, w ∈ lw_tbl := fun w h => (goodIn_r (big := lw_tbl) wsL_law0_r14 [1394, 1395, 1396, 1397, 1398, 836, 837, 838, 839, 840, 841, 842, 843, 844, 845, 846, 598, 599, 600, 601, 847, 848, 849, 850] rfl (by decide +kernel) w h).1
set_option maxRecDepth 20000 in
theorem il_14 : ∀ w ∈ wsL_law0_r15, w ∈ lw_tbl := fun w h => (goodIn_r (big := lw_tbl) wsL_law0_r15 [146, 1399, 1400, 1401, 1402, 1403, 1405, 27, 1406, 1407, 1409, 28, 1410, 851, 852, 853, 854, 855, 856, 857, 858, 859, 860, 861] rfl (by decide +kernel) w h).1
set_option maxRecDepth 20000 in
theorem il_15 : ∀ w ∈ wsL_law0_r16, w ∈ lw_tbl := fun w h => (goodIn_r (big := lw_tbl) wsL_law0_r16 [862, 863, 864, 865, 602, 603, 604, 605, 866, 867, 868, 869, 870, 871, 872, 873, 1411, 1412, 1413, 1414, 1415, 1417, 29, 1418] rfl (by decide +kernel) w h).1
set_option maxRecDepth 20000 in
theorem il_16 : ∀ w ∈ wsL_law0_r17, w ∈ lw_tbl := fun w h => (goodIn_r (big := lw_tbl) wsL_law0_r17 [1419, 1421, 30, 1422, 1423, 1425, 31, 1426, 1427, 1429, 32, 1430, 1431, 874, 875, 876, 877, 878, 879, 880, 881, 882, 883, 884] rfl (by decide +kernel) w h).1
set_option maxRecDepth 20000 in
theorem il_17 : ∀ w ∈ wsL_law0_r18, w ∈ lw_tbl := fun w h => (goodIn_r (big := lw_tbl) wsL_law0_r18 [885, 886, 887, 888, 889, 890, 891, 892, 893, 894, 895, 896, 897, 898, 899, 900, 901, 902, 95, 903, 1432, 1433, 1434, 1435] rfl (by decide +kernel) w h).1
set_option maxRecDepth 20000 in
theorem il_18 : ∀ w ∈ wsL_law0_r19, w ∈ lw_tbl := fun w h => (goodIn_r (big := lw_tbl) wsL_law0_r19 [1436, 1438, 33, 1439, 1440, 1442, 34, 1443, 1444, 1446, 35, 1447, 1448, 1450, 36, 1451, 904, 905, 906, 907, 908, 909, 910, 911] rfl (by decide +kernel) w h).1
set_option maxRecDepth 20000 in
theorem il_19 : ∀ w ∈ wsL_law0_r20, w ∈ lw_tbl := fun w h => (goodIn_r (big := lw_tbl) wsL_law0_r20 [912, 913, 914, 915, 916, 917, 918, 920, 921, 923, 924, 925, 926, 212, 927, 928, 929, 930, 221, 224, 226, 931, 932, 933] rfl (by decide +kernel) w h).1
set_option maxRecDepth 20000 in
theorem il_20 : ∀ w ∈ wsL_law0_r21, w ∈ lw_tbl := fun w h => (goodIn_r (big := lw_tbl) wsL_law0_r21 [934, 1452, 1453, 1454, 1455, 1456, 1458, 37, 1459, 1460, 1461, 1462, 1463, 1465, 38, 1466, 1467, 1469, 39, 1470, 1471, 1473, 40, 1474] rfl (by decide +kernel) w h).1
set_option maxRecDepth 20000 in
theorem il_21 : ∀ w ∈ wsL_law0_r22, w ∈ lw_tbl := fun w h => (goodIn_r (big := lw_tbl) wsL_law0_r22 [1475, 1477, 41, 1478, 935, 936, 937, 938, 939, 940, 941, 942, 943, 944, 945, 946, 947, 948, 949, 950, 582, 583, 584, 951] rfl (by decide +kernel) w h).1
set_option maxRecDepth 20000 in
theorem il_22 : ∀ w ∈ wsL_law0_r23, w ∈ lw_tbl := fun w h => (goodIn_r (big := lw_tbl) wsL_law0_r23 [952, 953, 954, 256, 220, 956, 251, 123, 589, 591, 3, 592, 211, 593, 594, 595, 596, 606, 607, 608, 609, 610, 611, 612] rfl (by decide +kernel) w h).1
set_option maxRecDepth 20000 in
theorem il_23 : ∀ w ∈ wsL_law0_r24, w ∈ lw_tbl := fun w h => (goodIn_r (big := lw_tbl) wsL_law0_r24 [613, 129, 132, 614, 615, 616, 617, 955, 957, 959, 8, 960, 618, 620, 4, 621, 622, 623, 624, 961, 963, 9, 964, 965] rfl (by decide +kernel) w h).1
set_option maxRecDepth 20000 in
theorem il_24 : ∀ w ∈ wsL_law0_r25, w ∈ lw_tbl := fun w h => (goodIn_r (big := lw_tbl) wsL_law0_r25 [967, 10, 968, 969, 971, 11, 972, 973, 974, 975, 976, 978, 12, 979, 980, 981, 982, 983, 153, 217, 328, 229, 125, 149] rfl (by decide +kernel) w h).1
set_option maxRecDepth 20000 in
theorem il_25 : ∀ w ∈ wsL_law0_r26, w ∈ lw_tbl := fun w h => (goodIn_r (big := lw_tbl) wsL_law0_r26 [984, 985, 986, 987, 988, 989, 990, 991, 992, 993, 994, 995, 215, 996, 997, 998, 999, 1000, 1001, 1002, 1003, 1479, 1480, 1481] rfl (by decide +kernel) w h).1
set_option maxRecDepth 20000 in
theorem il_26 : ∀ w ∈ wsL_law0_r27, w ∈ lw_tbl := fun w h => (goodIn_r (big := lw_tbl) wsL_law0_r27 [1482, 1483, 1485, 42, 1486, 1487, 1489, 43, 1490, 1491, 1493, 44, 1494, 1495, 1497, 45, 1498, 1499, 1501, 46, 1502, 1503, 1505, 47] rfl (by decide +kernel) w h).1
set_option maxRecDepth 20000 in
theorem il_27 : ∀ w ∈ wsL_law0_r28, w ∈ lw_tbl := fun w h => (goodIn_r (big := lw_tbl) wsL_law0_r28 [1506, 1507, 1509, 48, 1510, 1511, 1513, 49, 1514, 1515, 1517, 50, 1518, 1519, 1521, 51, 1522, 1523, 1525, 52, 1526, 1527, 1529, 53] rfl (by decide +kernel) w h).1
set_option maxRecDepth 20000 in
theorem il_28 : ∀ w ∈ wsL_law0_r29, w ∈ lw_tbl := fun w h => (goodIn_r (big := lw_tbl) wsL_law0_r29 [1530, 1531, 1533, 54, 1534, 1535, 1537, 55, 1538, 1539, 1541, 56, 1542, 1543, 1545, 57, 1546, 1547, 1549, 58, 1550, 1004, 1005, 1006] rfl (by decide +kernel) w h).1
set_option maxRecDepth 20000 in
theorem il_29 : ∀ w ∈ wsL_law0_r30, w ∈ lw_tbl := fun w h => (goodIn_r (big := lw_tbl) wsL_law0_r30 [1007, 1008, 1009, 1010, 1011, 1012, 1013, 1014, 1015, 1016, 1017, 1018, 1551, 1552, 1553, 1554, 1288, 370, 371, 372, 373, 374, 375, 376] rfl (by decide +kernel) w h).1
set_option maxRecDepth 20000 in
theorem il_30 : ∀ w ∈ wsL_law0_r31, w ∈ lw_tbl := fun w h => (goodIn_r (big := lw_tbl) wsL_law0_r31 [377, 1555, 1556, 1557, 1558, 378, 379, 380, 381, 382, 383, 384, 385, 386, 387, 388, 389, 390, 391, 392, 393, 394, 395, 396] rfl (by decide +kernel) w h).1
set_option maxRecDepth 20000 in
theorem il_31 : ∀ w ∈ wsL_law0_r32, w ∈ lw_tbl := fun w h => (goodIn_r (big := lw_tbl) wsL_law0_r32 [397, 399, 400, 401, 96, 402, 403, 404, 405, 406, 1805, 407, 408, 409, 410, 411, 1804, 413, 414, 415, 416, 417, 418, 419] rfl (by decide +kernel) w h).1
set_option maxRecDepth 20000 in
theorem il_32 : ∀ w ∈ wsL_law0_r33, w ∈ lw_tbl := fun w h => (goodIn_r (big := lw_tbl) wsL_law0_r33 [420, 421, 422, 97, 423, 427, 428, 98, 429, 430, 431, 432, 424, 425, 426, 433, 434, 435, 436, 437, 99, 438, 439, 440] rfl (by decide +kernel) w h).1
set_option maxRecDepth 20000 in
theorem il_33 : ∀ w ∈ wsL_law0_r34, w ∈ lw_tbl := fun w h => (goodIn_r (big := lw_tbl) wsL_law0_r34 [441, 442, 443, 444, 445, 446, 447, 448, 449, 450, 451, 452, 453, 454, 456, 457, 100, 458, 459, 460, 461, 462, 463, 464] rfl (by decide +kernel) w h).1
set_option maxRecDepth 20000 in
theorem il_34 : ∀ w ∈ wsL_law0_r35, w ∈ lw_tbl := fun w h => (goodIn_r (big := lw_tbl) wsL_law0_r35 [465, 467, 469, 471, 472, 473, 474, 475, 101, 476, 477, 478, 479, 480, 481, 482, 483, 484, 488, 489, 490, 491, 492, 493] rfl (by decide +kernel) w h).1
set_option maxRecDepth 20000 in
theorem il_35 : ∀ w ∈ wsL_law0_r36, w ∈ lw_tbl := fun w h => (goodIn_r (big := lw_tbl) wsL_law0_r36 [494, 495, 496, 497, 498, 499, 500, 501, 502, 503, 504, 505, 506, 507, 508, 510, 0, 511, 512, 514, 1, 515, 520, 522] rfl (by decide +kernel) w h).1
set_option maxRecDepth 20000 in
theorem il_36 : ∀ w ∈ wsL_law0_r37, w ∈ lw_tbl := fun w h => (goodIn_r (big := lw_tbl) wsL_law0_r37 [2, 523, 527, 528, 529, 1559, 1560, 1561, 1562, 1290, 1563, 1565, 59, 1566, 1292, 1567, 1569, 60, 1570, 1571, 1573, 61, 1574, 1575] rfl (by decide +kernel) w h).1
set_option maxRecDepth 20000 in
theorem il_37 : ∀ w ∈ wsL_law0_r38, w ∈ lw_tbl := fun w h => (goodIn_r (big := lw_tbl) wsL_law0_r38 [1577, 62, 1578, 1579, 1580, 1581, 1582, 1584, 63, 1585, 1586, 1588, 64, 1589, 1019, 1020, 1021, 1022, 1023, 1024, 1025, 1026, 1028, 13] rfl (by decide +kernel) w h).1
set_option maxRecDepth 20000 in
theorem il_38 : ∀ w ∈ wsL_law0_r39, w ∈ lw_tbl := fun w h => (goodIn_r (big := lw_tbl) wsL_law0_r39 [1029, 303, 305, 301, 1030, 1031, 1032, 1033, 1035, 14, 1036, 1037, 1039, 15, 1040, 1590, 1591, 1592, 1593, 1594, 1596, 65, 1597, 1598] rfl (by decide +kernel) w h).1
set_option maxRecDepth 20000 in
theorem il_39 : ∀ w ∈ wsL_law0_r40, w ∈ lw_tbl := fun w h => (goodIn_r (big := lw_tbl) wsL_law0_r40 [1600, 66, 1601, 1602, 1604, 67, 1605, 1606, 1608, 68, 1609, 1610, 1612, 69, 1613, 1041, 1042, 1043, 1044, 1045, 1046, 1047, 1048, 1049] rfl (by decide +kernel) w h).1
set_option maxRecDepth 20000 in
theorem il_40 : ∀ w ∈ wsL_law0_r41, w ∈ lw_tbl := fun w h => (goodIn_r (big := lw_tbl) wsL_law0_r41 [1050, 1051, 1614, 1615, 1616, 1617, 1052, 1053, 1054, 1055, 1056, 1057, 1058, 1618, 1619, 1620, 1621, 531, 532, 533, 534, 248, 1622, 1623] rfl (by decide +kernel) w h).1
set_option maxRecDepth 20000 in
theorem il_41 : ∀ w ∈ wsL_law0_r42, w ∈ lw_tbl := fun w h => (goodIn_r (big := lw_tbl) wsL_law0_r42 [1624, 1625, 1281, 1059, 1060, 1061, 1062, 1063, 1064, 1065, 1626, 1627, 1628, 1629, 557, 558, 559, 560, 252, 124, 1630, 1631, 1632, 1633] rfl (by decide +kernel) w h).1
set_option maxRecDepth 20000 in
theorem il_42 : ∀ w ∈ wsL_law0_r43, w ∈ lw_tbl := fun w h => (goodIn_r (big := lw_tbl) wsL_law0_r43 [1066, 1067, 1068, 1069, 1070, 1071, 1072, 1073, 1075, 16, 1076, 1077, 1078, 1634, 1635, 1636, 1637, 1079, 1080, 1081, 1082, 1083, 1084, 1085] rfl (by decide +kernel) w h).1
set_option maxRecDepth 20000 in
theorem il_43 : ∀ w ∈ wsL_law0_r44, w ∈ lw_tbl := fun w h => (goodIn_r (big := lw_tbl) wsL_law0_r44 [134, 1638, 1639, 1640, 1641, 1086, 1087, 1088, 1089, 1090, 1091, 1092, 128, 1093, 1642, 1643, 1644, 1645, 1094, 1095, 1096, 1097, 1098, 1099] rfl (by decide +kernel) w h).1
set_option maxRecDepth 20000 in
theorem il_44 : ∀ w ∈ wsL_law0_r45, w ∈ lw_tbl := fun w h => (goodIn_r (big := lw_tbl) wsL_law0_r45 [1100, 131, 1646, 1647, 1648, 1649, 1101, 1102, 1103, 1104, 1105, 1106, 1107, 137, 1650, 1651, 1652, 1653, 561, 562, 563, 564, 565, 566] rfl (by decide +kernel) w h).1
set_option maxRecDepth 20000 in
theorem il_45 : ∀ w ∈ wsL_law0_r46, w ∈ lw_tbl := fun w h => (goodIn_r (big := lw_tbl) wsL_law0_r46 [567, 568, 1654, 1655, 1656, 1657, 1108, 1109, 1110, 1111, 1112, 1113, 1114, 140, 1658, 1659, 1660, 1661, 1115, 1116, 1117, 1118, 1119, 1120] rfl (by decide +kernel) w h).1
set_option maxRecDepth 20000 in
theorem il_46 : ∀ w ∈ wsL_law0_r47, w ∈ lw_tbl := fun w h => (goodIn_r (big := lw_tbl) wsL_law0_r47 [1121, 147, 1122, 1662, 1663, 1664, 1665, 1123, 1124, 1125, 1126, 1127, 1128, 1129, 254, 1130, 1666, 1667, 1668, 1669, 1131, 1132, 1133, 1134] rfl (by decide +kernel) w h).1
set_option maxRecDepth 20000 in
theorem il_47 : ∀ w ∈ wsL_law0_r48, w ∈ lw_tbl := fun w h => (goodIn_r (big := lw_tbl) wsL_law0_r48 [1135, 1136, 1137, 150, 1670, 1671, 1672, 1673, 1138, 1139, 1140, 1141, 1142, 1143, 1144, 154, 1674, 1675, 1676, 1677, 573, 574, 575, 576] rfl (by decide +kernel) w h).1
set_option maxRecDepth 20000 in
theorem il_48 : ∀ w ∈ wsL_law0_r49, w ∈ lw_tbl := fun w h => (goodIn_r (big := lw_tbl) wsL_law0_r49 [257, 209, 1678, 1679, 1680, 1681, 1145, 1146, 1147, 1148, 1149, 1150, 1151, 213, 1152, 1154, 17, 1155, 1156, 1682, 1683, 1684, 1685, 1157] rfl (by decide +kernel) w h).1
set_option maxRecDepth 20000 in
theorem il_49 : ∀ w ∈ wsL_law0_r50, w ∈ lw_tbl := fun w h => (goodIn_r (big := lw_tbl) wsL_law0_r50 [1158, 1159, 1160, 1161, 1162, 1163, 1164, 1686, 1687, 1688, 1689, 1165, 1166, 1167, 1168, 1169, 1170, 1171, 222, 1172, 1173, 1174, 1175, 1690] rfl (by decide +kernel) w h).1
set_option maxRecDepth 20000 in
theorem il_50 : ∀ w ∈ wsL_law0_r51, w ∈ lw_tbl := fun w h => (goodIn_r (big := lw_tbl) wsL_law0_r51 [1691, 1692, 1693, 1176, 1177, 1178, 1179, 1180, 1181, 1182, 1183, 1184, 1694, 1695, 1696, 1697, 1185, 1186, 1187, 1188, 1189, 1190, 1191, 329] rfl (by decide +kernel) w h).1
set_option maxRecDepth 20000 in
theorem il_51 : ∀ w ∈ wsL_law0_r52, w ∈ lw_tbl := fun w h => (goodIn_r (big := lw_tbl) wsL_law0_r52 [1192, 1193, 1194, 1195, 228, 1196, 1197, 1698, 1699, 1700, 1701, 1702, 1704, 70, 1705, 1198, 1199, 1200, 1201, 1202, 1203, 1204, 1205, 1706] rfl (by decide +kernel) w h).1
set_option maxRecDepth 20000 in
theorem il_52 : ∀ w ∈ wsL_law0_r53, w ∈ lw_tbl := fun w h => (goodIn_r (big := lw_tbl) wsL_law0_r53 [1707, 1708, 1709, 1710, 1712, 71, 1713, 1206, 1207, 1208, 1209, 1210, 1211, 1212, 1213, 1214, 1714, 1715, 1716, 1717, 1215, 1216, 1217, 1218] rfl (by decide +kernel) w h).1
set_option maxRecDepth 20000 in
theorem il_53 : ∀ w ∈ wsL_law0_r54, w ∈ lw_tbl := fun w h => (goodIn_r (big := lw_tbl) wsL_law0_r54 [1219, 1220, 1221, 585, 586, 587, 588, 1718, 1719, 1720, 1721, 1722, 1724, 72, 1725, 1726, 1728, 73, 1729, 1222, 1223, 1224, 1225, 1226] rfl (by decide +kernel) w h).1
set_option maxRecDepth 20000 in
theorem il_54 : ∀ w ∈ wsL_law0_r55, w ∈ lw_tbl := fun w h => (goodIn_r (big := lw_tbl) wsL_law0_r55 [1227, 1228, 1730, 1731, 1732, 1733, 1734, 1736, 74, 1737, 1229, 1230, 1231, 1232, 1233, 1234, 1235, 218, 1236, 1237, 1238, 1239, 152, 249] rfl (by decide +kernel) w h).1
set_option maxRecDepth 20000 in
theorem il_55 : ∀ w ∈ wsL_law0_r56, w ∈ lw_tbl := fun w h => (goodIn_r (big := lw_tbl) wsL_law0_r56 [1240, 1241, 1738, 1739, 1740, 1741, 1742, 1744, 75, 1745, 1746, 1748, 76, 1749, 1242, 1243, 1244, 1245, 1246, 1247, 1248, 1249, 1250, 1251] rfl (by decide +kernel) w h).1
set_option maxRecDepth 20000 in
theorem il_56 : ∀ w ∈ wsL_law0_r57, w ∈ lw_tbl := fun w h => (goodIn_r (big := lw_tbl) wsL_law0_r57 [1252, 1253, 1254, 1255, 1256, 1750, 1751, 1752, 1753, 1754, 1756, 77, 1757, 1257, 1258, 1259, 1260, 1261, 1262, 1263, 1758, 1759, 1760, 1761] rfl (by decide +kernel) w h).1
set_option maxRecDepth 20000 in
theorem il_57 : ∀ w ∈ wsL_law0_r58, w ∈ lw_tbl := fun w h => (goodIn_r (big := lw_tbl) wsL_law0_r58 [577, 578, 579, 580, 581, 1762, 1763, 1764, 1765, 1264, 1265, 1266, 1267, 1268, 1269, 1270, 259, 1766, 1767, 1768, 1769, 625, 626, 627] rfl (by decide +kernel) w h).1
set_option maxRecDepth 20000 in
theorem il_58 : ∀ w ∈ wsL_law0_r59, w ∈ lw_tbl := fun w h => (goodIn_r (big := lw_tbl) wsL_law0_r59 [628, 261, 1770, 1771, 1772, 1773, 1774, 1776, 78, 1777, 629, 630, 631, 632, 265, 263, 267, 269, 1778, 1779, 1780, 1781, 633, 634] rfl (by decide +kernel) w h).1
set_option maxRecDepth 20000 in
theorem il_59 : ∀ w ∈ wsL_law0_r60, w ∈ lw_tbl := fun w h => (goodIn_r (big := lw_tbl) wsL_law0_r60 [635, 636, 1782, 1783, 1784, 1785, 637, 638, 639, 640, 1786, 1787, 1788, 1789, 641, 642, 643, 644, 1790, 1791, 1792, 1793, 645, 646] rfl (by decide +kernel) w h).1
set_option maxRecDepth 20000 in
theorem il_60 : ∀ w ∈ wsL_law0_r61, w ∈ lw_tbl := fun w h => (goodIn_r (big := lw_tbl) wsL_law0_r61 [647, 648, 1794, 1795, 1796, 1797, 649, 650, 651, 652, 1798, 1799, 1800, 1801] rfl (by decide +kernel) w h).1
set_option maxRecDepth 20000 in
theorem il_61 : ∀ w ∈ wsX60, w ∈ lw_tbl := fun w h => (goodIn_r (big := lw_tbl) wsX60 [353, 355, 357, 359, 361, 363, 365, 367] rfl (by decide +kernel) w h).1
set_option maxRecDepth 20000 in
theorem il_62 : ∀ w ∈ wsX70, w ∈ lw_tbl := fun w h => (goodIn_r (big := lw_tbl) wsX70 [1293, 1295, 1297, 1299, 1301, 1303, 1305, 1307, 1309, 1311, 1313, 1315, 1317, 1319, 1321, 1323] rfl (by decide +kernel) w h).1
set_option maxRecDepth 20000 in
theorem il_63 : ∀ w ∈ wsX00, w ∈ lw_tbl := fun w h => (goodIn_r (big := lw_tbl) wsX00 [270, 272, 274, 276, 278, 280, 282, 284, 286, 288] rfl (by decide +kernel) w h).1
set_option maxRecDepth 20000 in
theorem il_64 : ∀ w ∈ wsX20, w ∈ lw_tbl := fun w h => (goodIn_r (big := lw_tbl) wsX20 [307, 309, 311, 313, 315, 317] rfl (by decide +kernel) w h).1
set_option maxRecDepth 20000 in
theorem il_65 : ∀ w ∈ wsX30, w ∈ lw_tbl := fun w h => (goodIn_r (big := lw_tbl) wsX30 [334, 336, 338, 340, 342] rfl (by decide +kernel) w h).1
set_option maxRecDepth 20000 in
theorem il_66 : ∀ w ∈ wsX50, w ∈ lw_tbl := fun w h => (goodIn_r (big := lw_tbl) wsX50 [155, 157, 159, 161, 163, 165, 167, 169, 171, 173, 175, 177] rfl (by decide +kernel) w h).1
set_option maxRecDepth 20000 in
theorem il_67 : ∀ w ∈ wsX40, w ∈ lw_tbl := fun w h => (goodIn_r (big := lw_tbl) wsX40 [191, 193, 195, 197] rfl (by decide +kernel) w h).1
set_option maxRecDepth 20000 in
theorem il_68 : ∀ w ∈ wsX10, w ∈ lw_tbl := fun w h => (goodIn_r (big := lw_tbl) wsX10 [230, 232, 234, 236, 238, 240, 242, 244] rfl (by decide +kernel) w h).1
theorem wsL_S_il : ∀ s ∈ wsL_S, ∀ w ∈ s, w ∈ lw_tbl := by
  unfold wsL_S
  exact List.forall_mem_cons.mpr ⟨il_0, List.forall_mem_cons.mpr ⟨il_1, List.forall_mem_cons.mpr ⟨il_2, List.forall_mem_cons.mpr ⟨il_3, List.forall_mem_cons.mpr ⟨il_4, List.forall_mem_cons.mpr ⟨il_5, List.forall_mem_cons.mpr ⟨il_6, List.forall_mem_cons.mpr ⟨il_7, List.forall_mem_cons.mpr ⟨il_8, List.forall_mem_cons.mpr ⟨il_9, List.forall_mem_cons.mpr ⟨il_10, List.forall_mem_cons.mpr ⟨il_11, List.forall_mem_cons.mpr ⟨il_12, List.forall_mem_cons.mpr ⟨il_13, List.forall_mem_cons.mpr ⟨il_14, List.forall_mem_cons.mpr ⟨il_15, List.forall_mem_cons.mpr ⟨il_16, List.forall_mem_cons.mpr ⟨il_17, List.forall_mem_cons.mpr ⟨il_18, List.forall_mem_cons.mpr ⟨il_19, List.forall_mem_cons.mpr ⟨il_20, List.forall_mem_cons.mpr ⟨il_21, List.forall_mem_cons.mpr ⟨il_22, List.forall_mem_cons.mpr ⟨il_23, List.forall_mem_cons.mpr ⟨il_24, List.forall_mem_cons.mpr ⟨il_25, List.forall_mem_cons.mpr ⟨il_26, List.forall_mem_cons.mpr ⟨il_27, List.forall_mem_cons.mpr ⟨il_28, List.forall_mem_cons.mpr ⟨il_29, List.forall_mem_cons.mpr ⟨il_30, List.forall_mem_cons.mpr ⟨il_31, List.forall_mem_cons.mpr ⟨il_32, List.forall_mem_cons.mpr ⟨il_33, List.forall_mem_cons.mpr ⟨il_34, List.forall_mem_cons.mpr ⟨il_35, List.forall_mem_cons.mpr ⟨il_36, List.forall_mem_cons.mpr ⟨il_37, List.forall_mem_cons.mpr ⟨il_38, List.forall_mem_cons.mpr ⟨il_39, List.forall_mem_cons.mpr ⟨il_40, List.forall_mem_cons.mpr ⟨il_41, List.forall_mem_cons.mpr ⟨il_42, List.forall_mem_cons.mpr ⟨il_43, List.forall_mem_cons.mpr ⟨il_44, List.forall_mem_cons.mpr ⟨il_45, List.forall_mem_cons.mpr ⟨il_46, List.forall_mem_cons.mpr ⟨il_47, List.forall_mem_cons.mpr ⟨il_48, List.forall_mem_cons.mpr ⟨il_49, List.forall_mem_cons.mpr ⟨il_50, List.forall_mem_cons.mpr ⟨il_51, List.forall_mem_cons.mpr ⟨il_52, List.forall_mem_cons.mpr ⟨il_53, List.forall_mem_cons.mpr ⟨il_54, List.forall_mem_cons.mpr ⟨il_55, List.forall_mem_cons.mpr ⟨il_56, List.forall_mem_cons.mpr ⟨il_57, List.forall_mem_cons.mpr ⟨il_58, List.forall_mem_cons.mpr ⟨il_59, List.forall_mem_cons.mpr ⟨il_60, List.forall_mem_cons.mpr ⟨il_61, List.forall_mem_cons.mpr ⟨il_62, List.forall_mem_cons.mpr ⟨il_63, List.forall_mem_cons.mpr ⟨il_64, List.forall_mem_cons.mpr ⟨il_65, List.forall_mem_cons.mpr ⟨il_66, List.forall_mem_cons.mpr ⟨il_67, List.forall_mem_cons.mpr ⟨il_68, (fun _ h => nomatch h)⟩⟩⟩⟩⟩⟩⟩⟩⟩⟩⟩⟩⟩⟩⟩⟩⟩⟩⟩⟩⟩⟩⟩⟩⟩⟩⟩⟩⟩⟩⟩⟩⟩⟩⟩⟩⟩⟩⟩⟩⟩⟩⟩⟩⟩⟩⟩⟩⟩⟩⟩⟩⟩⟩⟩⟩⟩⟩⟩⟩⟩⟩⟩⟩⟩⟩⟩⟩⟩
theorem wsL_law_in0 : ∀ w ∈ wsL_law0, w ∈ lw_tbl := fun w h => by
  rw [← wsL_S_e] at h
  obtain ⟨s, hs, hw⟩ := List.mem_flatten.mp h
  exact wsL_S_il s hs w hw
theorem wsL_law_x0 : ∀ w ∈ (vx_atS RX6 285 "java/lang/IndexOutOfBoundsException" ["java/lang/RuntimeException", "java/lang/Exception"]).filter goodWord, w ∈ lw_tbl := by decide +kernel
theorem wsL_law_x1 : ∀ w ∈ (vx_atS RX6 292 "java/lang/IllegalArgumentException" ["java/lang/RuntimeException", "java/lang/Exception"]).filter goodWord, w ∈ lw_tbl := by decide +kernel
theorem wsL_law_x2 : ∀ w ∈ (vx_atS RX6 297 "java/lang/IllegalStateException" ["java/lang/RuntimeException", "java/lang/Exception"]).filter goodWord, w ∈ lw_tbl := by decide +kernel
theorem wsL_law_in : ∀ w ∈ wsL_law, w ∈ lw_tbl := fun w h => (List.mem_append.mp h).elim (fun h => (List.mem_append.mp h).elim (fun h => (List.mem_append.mp h).elim (fun h => wsL_law_in0 w h) (fun h => wsL_law_x0 w h)) (fun h => wsL_law_x1 w h)) (fun h => wsL_law_x2 w h)
theorem inlX0 : ∀ w ∈ wsX00, w ∈ wsL_law := fun _ h => List.mem_append_left _ (List.mem_append_left _ (List.mem_append_left _ (List.mem_append_left _ (List.mem_append_left _ (List.mem_append_left _ (List.mem_append_left _ (List.mem_append_left _ (List.mem_append_left _ (List.mem_append_right _ h)))))))))
theorem inX0 : ∀ w ∈ wsX00, w ∈ lw_tbl := fun w h => wsL_law_in w (inlX0 w h)
theorem inlX1 : ∀ w ∈ wsX10, w ∈ wsL_law := fun _ h => List.mem_append_left _ (List.mem_append_left _ (List.mem_append_left _ (List.mem_append_left _ (List.mem_append_right _ h))))
theorem inX1 : ∀ w ∈ wsX10, w ∈ lw_tbl := fun w h => wsL_law_in w (inlX1 w h)
theorem inlX2 : ∀ w ∈ wsX20, w ∈ wsL_law := fun _ h => List.mem_append_left _ (List.mem_append_left _ (List.mem_append_left _ (List.mem_append_left _ (List.mem_append_left _ (List.mem_append_left _ (List.mem_append_left _ (List.mem_append_left _ (List.mem_append_right _ h))))))))
theorem inX2 : ∀ w ∈ wsX20, w ∈ lw_tbl := fun w h => wsL_law_in w (inlX2 w h)
theorem inlX3 : ∀ w ∈ wsX30, w ∈ wsL_law := fun _ h => List.mem_append_left _ (List.mem_append_left _ (List.mem_append_left _ (List.mem_append_left _ (List.mem_append_left _ (List.mem_append_left _ (List.mem_append_left _ (List.mem_append_right _ h)))))))
theorem inX3 : ∀ w ∈ wsX30, w ∈ lw_tbl := fun w h => wsL_law_in w (inlX3 w h)
theorem inlX4 : ∀ w ∈ wsX40, w ∈ wsL_law := fun _ h => List.mem_append_left _ (List.mem_append_left _ (List.mem_append_left _ (List.mem_append_left _ (List.mem_append_left _ (List.mem_append_right _ h)))))
theorem inX4 : ∀ w ∈ wsX40, w ∈ lw_tbl := fun w h => wsL_law_in w (inlX4 w h)
theorem inlX5 : ∀ w ∈ wsX50, w ∈ wsL_law := fun _ h => List.mem_append_left _ (List.mem_append_left _ (List.mem_append_left _ (List.mem_append_left _ (List.mem_append_left _ (List.mem_append_left _ (List.mem_append_right _ h))))))
theorem inX5 : ∀ w ∈ wsX50, w ∈ lw_tbl := fun w h => wsL_law_in w (inlX5 w h)
theorem inlX6 : ∀ w ∈ wsX60, w ∈ wsL_law := fun _ h => List.mem_append_left _ (List.mem_append_left _ (List.mem_append_left _ (List.mem_append_left _ (List.mem_append_left _ (List.mem_append_left _ (List.mem_append_left _ (List.mem_append_left _ (List.mem_append_left _ (List.mem_append_left _ (List.mem_append_left _ (List.mem_append_right _ h)))))))))))
theorem inX6 : ∀ w ∈ wsX60, w ∈ lw_tbl := fun w h => wsL_law_in w (inlX6 w h)
theorem inlX7 : ∀ w ∈ wsX70, w ∈ wsL_law := fun _ h => List.mem_append_left _ (List.mem_append_left _ (List.mem_append_left _ (List.mem_append_left _ (List.mem_append_left _ (List.mem_append_left _ (List.mem_append_left _ (List.mem_append_left _ (List.mem_append_left _ (List.mem_append_left _ (List.mem_append_right _ h))))))))))
theorem inX7 : ∀ w ∈ wsX70, w ∈ lw_tbl := fun w h => wsL_law_in w (inlX7 w h)
theorem inJx145de : ∀ w ∈ wsJx145de0, w ∈ lw_tbl := by decide +kernel
theorem inJx9f9b0 : ∀ w ∈ wsJx9f9b00, w ∈ lw_tbl := by decide +kernel
theorem inJ11 : ∀ w ∈ wsJ110, w ∈ lw_tbl := by decide +kernel
theorem inJxb160c : ∀ w ∈ wsJxb160c0, w ∈ lw_tbl := by decide +kernel
theorem inJ9 : ∀ w ∈ wsJ90, w ∈ lw_tbl := by decide +kernel
theorem inJ0 : ∀ w ∈ wsJ00, w ∈ lw_tbl := by decide +kernel
theorem inJ1 : ∀ w ∈ wsJ10, w ∈ lw_tbl := by decide +kernel
theorem inJ2 : ∀ w ∈ wsJ20, w ∈ lw_tbl := by decide +kernel
theorem inJ10 : ∀ w ∈ wsJ100, w ∈ lw_tbl := by decide +kernel
theorem inJxfd54e : ∀ w ∈ wsJxfd54e0, w ∈ lw_tbl := by decide +kernel
theorem inJx3cf43 : ∀ w ∈ wsJx3cf430, w ∈ lw_tbl := by decide +kernel
theorem inJ7 : ∀ w ∈ wsJ70, w ∈ lw_tbl := by decide +kernel
theorem inJ3 : ∀ w ∈ wsJ30, w ∈ lw_tbl := by decide +kernel
