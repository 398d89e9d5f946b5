set_option maxRecDepth 100000 in
theorem wsL_in_r1 : GoodIn lw_tbl wsL_law0_r1 := goodIn_r _ [69, 70, 40, 111, 445, 446, 49, 460, 461, 50, 1272, 1075, 1110, 482, 475, 484, 488, 407, 408, 67, 479, 71, 72, 73] (by decide +kernel) (by decide +kernel)
set_option maxRecDepth 100000 in
theorem wsL_in_r2 : GoodIn lw_tbl wsL_law0_r2 := goodIn_r _ [74, 75, 76, 77, 78, 41, 353, 244, 84, 42, 354, 355, 246, 247, 46, 356, 357, 358, 359, 360, 192, 80, 81, 82] (by decide +kernel) (by decide +kernel)
set_option maxRecDepth 100000 in
theorem wsL_in_r3 : GoodIn lw_tbl wsL_law0_r3 := goodIn_r _ [83, 202, 204, 206, 208, 243, 210, 211, 212, 213, 214, 215, 216, 217, 86, 87, 88, 89, 90, 43, 191, 164, 165, 45] (by decide +kernel) (by decide +kernel)
set_option maxRecDepth 100000 in
theorem wsL_in_r4 : GoodIn lw_tbl wsL_law0_r4 := goodIn_r _ [194, 92, 93, 94, 112, 116, 120, 123, 128, 131, 132, 134, 137, 95, 96, 44, 140, 98, 99, 100, 101, 102, 103, 167] (by decide +kernel) (by decide +kernel)
set_option maxRecDepth 100000 in
theorem wsL_in_r5 : GoodIn lw_tbl wsL_law0_r5 := goodIn_r _ [168, 169, 170, 172, 175, 177, 179, 249, 250, 251, 252, 254, 257, 259, 261, 274, 275, 276, 277, 278, 279, 280, 281, 282] (by decide +kernel) (by decide +kernel)
set_option maxRecDepth 100000 in
theorem wsL_in_r6 : GoodIn lw_tbl wsL_law0_r6 := goodIn_r _ [283, 47, 284, 285, 286, 287, 288, 289, 290, 291, 292, 293, 294, 295, 296, 297, 298, 299, 300, 301, 302, 303, 304, 305] (by decide +kernel) (by decide +kernel)
set_option maxRecDepth 100000 in
theorem wsL_in_r7 : GoodIn lw_tbl wsL_law0_r7 := goodIn_r _ [306, 307, 308, 309, 310, 311, 312, 313, 314, 315, 316, 317, 124, 318, 319, 321, 6, 322, 117, 113, 323, 324, 325, 326] (by decide +kernel) (by decide +kernel)
set_option maxRecDepth 100000 in
theorem wsL_in_r8 : GoodIn lw_tbl wsL_law0_r8 := goodIn_r _ [342, 343, 48, 344, 327, 328, 329, 330, 331, 332, 333, 334, 336, 337, 338, 339, 340, 341, 345, 346, 347, 349, 351, 7] (by decide +kernel) (by decide +kernel)
set_option maxRecDepth 100000 in
theorem wsL_in_r9 : GoodIn lw_tbl wsL_law0_r9 := goodIn_r _ [352, 447, 448, 449, 450, 451, 463, 464, 465, 472, 474, 476, 478, 481, 483, 468, 485, 470, 487, 515, 491, 534, 535, 536] (by decide +kernel) (by decide +kernel)
set_option maxRecDepth 100000 in
theorem wsL_in_r10 : GoodIn lw_tbl wsL_law0_r10 := goodIn_r _ [537, 541, 542, 52, 543, 544, 545, 546, 547, 51, 548, 549, 550, 559, 560, 552, 553, 54, 554, 555, 556, 557, 558, 572] (by decide +kernel) (by decide +kernel)
set_option maxRecDepth 100000 in
theorem wsL_in_r11 : GoodIn lw_tbl wsL_law0_r11 := goodIn_r _ [573, 574, 575, 576, 1476, 571, 577, 578, 562, 579, 1477, 0, 581, 582, 583, 1478, 1, 585, 586, 587, 1479, 2, 589, 590] (by decide +kernel) (by decide +kernel)
set_option maxRecDepth 100000 in
theorem wsL_in_r12 : GoodIn lw_tbl wsL_law0_r12 := goodIn_r _ [599, 591, 592, 55, 593, 594, 595, 596, 597, 598, 600, 601, 602, 603, 604, 524, 525, 605, 607, 608, 609, 610, 611, 396] (by decide +kernel) (by decide +kernel)
set_option maxRecDepth 100000 in
theorem wsL_in_r13 : GoodIn lw_tbl wsL_law0_r13 := goodIn_r _ [395, 56, 612, 614, 615, 613, 616, 617, 618, 619, 637, 620, 621, 622, 623, 624, 625, 626, 627, 53, 628, 629, 631, 632] (by decide +kernel) (by decide +kernel)
set_option maxRecDepth 100000 in
theorem wsL_in_r14 : GoodIn lw_tbl wsL_law0_r14 := goodIn_r _ [57, 633, 634, 635, 636, 639, 641, 643, 644, 645, 646, 833, 647, 648, 649, 650, 651, 834, 652, 1480, 3, 654, 655, 656] (by decide +kernel) (by decide +kernel)
set_option maxRecDepth 100000 in
theorem wsL_in_r15 : GoodIn lw_tbl wsL_law0_r15 := goodIn_r _ [1481, 4, 658, 659, 660, 661, 1482, 5, 663, 664, 665, 666, 58, 667, 668, 669, 670, 671, 672, 673, 674, 675, 676, 677] (by decide +kernel) (by decide +kernel)
set_option maxRecDepth 100000 in
theorem wsL_in_r16 : GoodIn lw_tbl wsL_law0_r16 := goodIn_r _ [678, 679, 680, 681, 682, 683, 684, 685, 688, 689, 690, 691, 692, 693, 694, 695, 696, 697, 698, 699, 700, 561, 701, 703] (by decide +kernel) (by decide +kernel)
set_option maxRecDepth 100000 in
theorem wsL_in_r17 : GoodIn lw_tbl wsL_law0_r17 := goodIn_r _ [704, 702, 705, 706, 708, 707, 709, 710, 711, 712, 707, 713, 714, 715, 716, 717, 718, 719, 720, 721, 722, 723, 765, 820] (by decide +kernel) (by decide +kernel)
set_option maxRecDepth 100000 in
theorem wsL_in_r18 : GoodIn lw_tbl wsL_law0_r18 := goodIn_r _ [821, 822, 823, 824, 825, 826, 827, 828, 829, 830, 831, 832, 1397, 1398, 39, 1399, 486, 1400, 1401, 1402, 1403, 1404, 121, 126] (by decide +kernel) (by decide +kernel)
set_option maxRecDepth 100000 in
theorem wsL_in_r19 : GoodIn lw_tbl wsL_law0_r19 := goodIn_r _ [195, 171, 1405, 1406, 1407, 1408, 937, 62, 114, 118, 129, 173, 176, 1237, 1238, 1239, 1240, 1217, 1161, 1162, 1163, 1233, 1234, 1235] (by decide +kernel) (by decide +kernel)
set_option maxRecDepth 100000 in
theorem wsL_in_r20 : GoodIn lw_tbl wsL_law0_r20 := goodIn_r _ [1236, 1410, 1411, 1412, 1413, 133, 1084, 1086, 32, 1087, 1088, 65, 1414, 1415, 1416, 1417, 1418, 1419, 1420, 1421, 1423, 1424, 1425, 1426] (by decide +kernel) (by decide +kernel)
set_option maxRecDepth 100000 in
theorem wsL_in_r21 : GoodIn lw_tbl wsL_law0_r21 := goodIn_r _ [136, 139, 178, 258, 260, 1118, 1120, 34, 1121, 1428, 1429, 1430, 1431, 1155, 1157, 35, 1158, 1131, 1132, 1133, 1160, 1432, 1433, 1434] (by decide +kernel) (by decide +kernel)
set_option maxRecDepth 100000 in
theorem wsL_in_r22 : GoodIn lw_tbl wsL_law0_r22 := goodIn_r _ [1435, 1436, 1437, 1438, 1439, 1440, 480, 916, 917, 918, 919, 423, 425, 1441, 1442, 1443, 1444, 1445, 922, 923, 924, 429, 1446, 1447] (by decide +kernel) (by decide +kernel)
set_option maxRecDepth 100000 in
theorem wsL_in_r23 : GoodIn lw_tbl wsL_law0_r23 := goodIn_r _ [1448, 1449, 864, 865, 866, 867, 868, 869, 870, 871, 872, 873, 874, 875, 876, 877, 878, 879, 880, 881, 882, 883, 884, 885] (by decide +kernel) (by decide +kernel)
set_option maxRecDepth 100000 in
theorem wsL_in_r24 : GoodIn lw_tbl wsL_law0_r24 := goodIn_r _ [886, 887, 888, 889, 890, 891, 856, 857, 858, 859, 860, 862, 9, 863, 1450, 1451, 1452, 1453, 852, 853, 854, 855, 920, 1454] (by decide +kernel) (by decide +kernel)
set_option maxRecDepth 100000 in
theorem wsL_in_r25 : GoodIn lw_tbl wsL_law0_r25 := goodIn_r _ [1455, 1456, 1457, 414, 417, 420, 427, 1458, 1459, 1460, 932, 1461, 1462, 1463, 1464, 1079, 1465, 1466, 1467, 1468, 1469, 1470, 1471, 1472] (by decide +kernel) (by decide +kernel)
set_option maxRecDepth 100000 in
theorem wsL_in_r26 : GoodIn lw_tbl wsL_law0_r26 := goodIn_r _ [1473, 1474, 378, 379, 380, 381, 209, 382, 383, 384, 385, 386, 387, 388, 389, 390, 391, 392, 393, 394, 397, 398, 399, 400] (by decide +kernel) (by decide +kernel)
set_option maxRecDepth 100000 in
theorem wsL_in_r27 : GoodIn lw_tbl wsL_law0_r27 := goodIn_r _ [401, 402, 403, 404, 405, 406, 1248, 1249, 1250, 1251, 1252, 1253, 1254, 1255, 1256, 66, 1199, 1001, 1002, 1003, 1070, 1072, 31, 1073] (by decide +kernel) (by decide +kernel)
set_option maxRecDepth 100000 in
theorem wsL_in_r28 : GoodIn lw_tbl wsL_law0_r28 := goodIn_r _ [1074, 1273, 1274, 1275, 1276, 1277, 1278, 1279, 1280, 1027, 1028, 1029, 1282, 1035, 1036, 1037, 1038, 1039, 1041, 25, 1042, 1043, 1045, 26] (by decide +kernel) (by decide +kernel)
set_option maxRecDepth 100000 in
theorem wsL_in_r29 : GoodIn lw_tbl wsL_law0_r29 := goodIn_r _ [1046, 1283, 1284, 1285, 1286, 1287, 1288, 1289, 1241, 1242, 1243, 1244, 1245, 1246, 1247, 1213, 1214, 1215, 1216, 1218, 1220, 36, 1221, 1223] (by decide +kernel) (by decide +kernel)
set_option maxRecDepth 100000 in
theorem wsL_in_r30 : GoodIn lw_tbl wsL_law0_r30 := goodIn_r _ [1222, 1170, 1171, 1172, 141, 1173, 1174, 1175, 1176, 1177, 1178, 1179, 1180, 1181, 1183, 1184, 1185, 901, 902, 1186, 904, 905, 1188, 1189] (by decide +kernel) (by decide +kernel)
set_option maxRecDepth 100000 in
theorem wsL_in_r31 : GoodIn lw_tbl wsL_law0_r31 := goodIn_r _ [1190, 1224, 1226, 37, 1227, 127, 256, 1228, 1165, 1166, 1167, 1168, 914, 915, 1229, 1231, 38, 1232, 1290, 1291, 1292, 473, 1327, 1344] (by decide +kernel) (by decide +kernel)
set_option maxRecDepth 100000 in
theorem wsL_in_r32 : GoodIn lw_tbl wsL_law0_r32 := goodIn_r _ [477, 415, 418, 421, 490, 455, 456, 457, 458, 459, 1294, 1295, 1296, 1297, 1298, 1299, 1300, 1301, 1302, 1303, 1304, 1305, 1306, 1307] (by decide +kernel) (by decide +kernel)
set_option maxRecDepth 100000 in
theorem wsL_in_r33 : GoodIn lw_tbl wsL_law0_r33 := goodIn_r _ [1308, 1309, 1310, 1311, 205, 1312, 1313, 1314, 1315, 1316, 1317, 1318, 1319, 1321, 1322, 1323, 1328, 1329, 1330, 1331, 1332, 1333, 1334, 1485] (by decide +kernel) (by decide +kernel)
set_option maxRecDepth 100000 in
theorem wsL_in_r34 : GoodIn lw_tbl wsL_law0_r34 := goodIn_r _ [1335, 1336, 1337, 1338, 1339, 1340, 1341, 1342, 1343, 409, 410, 411, 412, 424, 413, 416, 419, 925, 926, 927, 928, 1349, 1350, 68] (by decide +kernel) (by decide +kernel)
set_option maxRecDepth 100000 in
theorem wsL_in_r35 : GoodIn lw_tbl wsL_law0_r35 := goodIn_r _ [1351, 1352, 1353, 1358, 1359, 1360, 1361, 1354, 1355, 1356, 1357, 1371, 1372, 1374, 1375, 1376, 1377, 1378, 1379, 1381, 1382, 768, 769, 770] (by decide +kernel) (by decide +kernel)
set_option maxRecDepth 100000 in
theorem wsL_in_r36 : GoodIn lw_tbl wsL_law0_r36 := goodIn_r _ [771, 1484, 772, 773, 774, 775, 64, 776, 777, 778, 779, 780, 782, 784, 785, 786, 787, 788, 789, 790, 791, 1383, 1386, 1394] (by decide +kernel) (by decide +kernel)
set_option maxRecDepth 100000 in
theorem wsL_in_r37 : GoodIn lw_tbl wsL_law0_r37 := goodIn_r _ [1395, 1396, 929, 930, 931, 933, 934, 935, 936, 207, 203, 940, 941, 942, 943, 193, 125, 944, 946, 10, 947, 948, 949, 951] (by decide +kernel) (by decide +kernel)
set_option maxRecDepth 100000 in
theorem wsL_in_r38 : GoodIn lw_tbl wsL_law0_r38 := goodIn_r _ [11, 952, 953, 955, 12, 956, 958, 960, 13, 961, 962, 963, 964, 965, 966, 967, 969, 14, 970, 971, 973, 15, 974, 978] (by decide +kernel) (by decide +kernel)
set_option maxRecDepth 100000 in
theorem wsL_in_r39 : GoodIn lw_tbl wsL_law0_r39 := goodIn_r _ [975, 976, 977, 979, 980, 982, 16, 983, 984, 986, 17, 987, 989, 991, 18, 992, 122, 119, 993, 995, 19, 996, 115, 997] (by decide +kernel) (by decide +kernel)
set_option maxRecDepth 100000 in
theorem wsL_in_r40 : GoodIn lw_tbl wsL_law0_r40 := goodIn_r _ [998, 999, 1000, 1004, 1006, 1008, 20, 1009, 1010, 1012, 1014, 21, 1015, 130, 1017, 1019, 22, 1020, 196, 174, 1022, 1024, 23, 1025] (by decide +kernel) (by decide +kernel)
set_option maxRecDepth 100000 in
theorem wsL_in_r41 : GoodIn lw_tbl wsL_law0_r41 := goodIn_r _ [1026, 1030, 1032, 24, 1033, 1034, 1048, 1050, 27, 1051, 142, 1052, 1053, 1055, 28, 1056, 1057, 1059, 29, 1065, 1066, 1068, 30, 1069] (by decide +kernel) (by decide +kernel)
set_option maxRecDepth 100000 in
theorem wsL_in_r42 : GoodIn lw_tbl wsL_law0_r42 := goodIn_r _ [1060, 1064, 516, 517, 518, 519, 520, 522, 523, 526, 489, 521, 528, 529, 530, 531, 532, 422, 426, 428, 533, 921, 844, 845] (by decide +kernel) (by decide +kernel)
set_option maxRecDepth 100000 in
theorem wsL_in_r43 : GoodIn lw_tbl wsL_law0_r43 := goodIn_r _ [846, 847, 908, 848, 849, 850, 851, 892, 906, 907, 893, 894, 895, 896, 898, 899, 900, 903, 897, 909, 910, 911, 912, 913] (by decide +kernel) (by decide +kernel)
set_option maxRecDepth 100000 in
theorem wsL_in_r44 : GoodIn lw_tbl wsL_law0_r44 := goodIn_r _ [1076, 1077, 1078, 1080, 1081, 1082, 1083, 1104, 1106, 33, 1107, 1109, 1111, 1112, 1113, 1114, 1115, 1116, 1117, 253, 1123, 1124, 1125, 1126] (by decide +kernel) (by decide +kernel)
set_option maxRecDepth 100000 in
theorem wsL_in_r45 : GoodIn lw_tbl wsL_law0_r45 := goodIn_r _ [1127, 1128, 1129, 1130, 255, 1135, 1136, 1137, 1138, 1139, 1140, 1141, 1142, 1143, 1144, 1145, 135, 138, 1146, 1147, 1148, 1149, 1150, 1151] (by decide +kernel) (by decide +kernel)
set_option maxRecDepth 100000 in
theorem wsL_in_r46 : GoodIn lw_tbl wsL_law0_r46 := goodIn_r _ [1152, 1153, 1154, 1164, 1169, 1192, 1193, 1194, 1195, 1196, 1197, 1198, 1200, 1201, 1202, 1203, 1204, 1205, 1206, 1207, 1208, 1209, 1210, 1211] (by decide +kernel) (by decide +kernel)
set_option maxRecDepth 100000 in
theorem wsL_in_r47 : GoodIn lw_tbl wsL_law0_r47 := goodIn_r _ [1212] (by decide +kernel) (by decide +kernel)
set_option maxRecDepth 100000 in
theorem wsL_in_wsX60 : GoodIn lw_tbl wsX60 := goodIn_p _ [] (by decide +kernel) (by decide +kernel)
set_option maxRecDepth 100000 in
theorem wsL_in_wsX90 : GoodIn lw_tbl wsX90 := goodIn_p _ [] (by decide +kernel) (by decide +kernel)
set_option maxRecDepth 100000 in
theorem wsL_in_wsX100 : GoodIn lw_tbl wsX100 := goodIn_p _ [] (by decide +kernel) (by decide +kernel)
set_option maxRecDepth 100000 in
theorem wsL_in_wsX70 : GoodIn lw_tbl wsX70 := goodIn_p _ [] (by decide +kernel) (by decide +kernel)
set_option maxRecDepth 100000 in
theorem wsL_in_wsX30 : GoodIn lw_tbl wsX30 := goodIn_p _ [] (by decide +kernel) (by decide +kernel)
set_option maxRecDepth 100000 in
theorem wsL_in_wsX40 : GoodIn lw_tbl wsX40 := goodIn_p _ [] (by decide +kernel) (by decide +kernel)
set_option maxRecDepth 100000 in
theorem wsL_in_wsX50 : GoodIn lw_tbl wsX50 := goodIn_p _ [] (by decide +kernel) (by decide +kernel)
set_option maxRecDepth 100000 in
theorem wsL_in_wsX00 : GoodIn lw_tbl wsX00 := goodIn_p _ [] (by decide +kernel) (by decide +kernel)
set_option maxRecDepth 100000 in
theorem wsL_in_wsX10 : GoodIn lw_tbl wsX10 := goodIn_p _ [] (by decide +kernel) (by decide +kernel)
set_option maxRecDepth 100000 in
theorem wsL_in_wsX20 : GoodIn lw_tbl wsX20 := goodIn_p _ [] (by decide +kernel) (by decide +kernel)
set_option maxRecDepth 100000 in
theorem wsL_in_wsJ40 : GoodIn lw_tbl wsJ40 := goodIn_p _ [] (by decide +kernel) (by decide +kernel)
set_option maxRecDepth 100000 in
theorem wsL_in_wsJ00 : GoodIn lw_tbl wsJ00 := goodIn_p _ [] (by decide +kernel) (by decide +kernel)
set_option maxRecDepth 100000 in
theorem wsL_in_wsX80 : GoodIn lw_tbl wsX80 := goodIn_p _ [] (by decide +kernel) (by decide +kernel)
theorem wsL_law_in0 : ∀ w ∈ wsL_law0, w ∈ lw_tbl := fun w h => ((goodIn_app (goodIn_app (goodIn_app (goodIn_app (goodIn_app (goodIn_app (goodIn_app (goodIn_app (goodIn_app (goodIn_app (goodIn_app (goodIn_app (goodIn_app (goodIn_app (goodIn_app wsL_in_r1 (goodIn_app wsL_in_r2 (goodIn_app wsL_in_r3 (goodIn_app wsL_in_r4 (goodIn_app wsL_in_r5 (goodIn_app wsL_in_r6 (goodIn_app wsL_in_r7 (goodIn_app wsL_in_r8 (goodIn_app wsL_in_r9 (goodIn_app wsL_in_r10 (goodIn_app wsL_in_r11 (goodIn_app wsL_in_r12 (goodIn_app wsL_in_r13 (goodIn_app wsL_in_r14 (goodIn_app wsL_in_r15 (goodIn_app wsL_in_r16 (goodIn_app wsL_in_r17 (goodIn_app wsL_in_r18 (goodIn_app wsL_in_r19 (goodIn_app wsL_in_r20 (goodIn_app wsL_in_r21 (goodIn_app wsL_in_r22 (goodIn_app wsL_in_r23 (goodIn_app wsL_in_r24 (goodIn_app wsL_in_r25 (goodIn_app wsL_in_r26 (goodIn_app wsL_in_r27 (goodIn_app wsL_in_r28 (goodIn_app wsL_in_r29 (goodIn_app wsL_in_r30 (goodIn_app wsL_in_r31 (goodIn_app wsL_in_r32 (goodIn_app wsL_in_r33 (goodIn_app wsL_in_r34 (goodIn_app wsL_in_r35 (goodIn_app wsL_in_r36 (goodIn_app wsL_in_r37 (goodIn_app wsL_in_r38 (goodIn_app wsL_in_r39 (goodIn_app wsL_in_r40 (goodIn_app wsL_in_r41 (goodIn_app wsL_in_r42 (goodIn_app wsL_in_r43 (goodIn_app wsL_in_r44 (goodIn_app wsL_in_r45 (goodIn_app wsL_in_r46 wsL_in_r47)))))))))))))))))))))))))))))))))))))))))))))) wsL_in_wsX60) wsL_in_wsX90) wsL_in_wsX100) wsL_in_wsX70) wsL_in_wsX30) wsL_in_wsX40) wsL_in_wsX50) wsL_in_wsX00) wsL_in_wsX10) wsL_in_wsX20) wsL_in_wsJ40) wsL_in_wsJ00) wsL_in_wsX80) (fun _ h => absurd h List.not_mem_nil)) w h).1
