set_option maxRecDepth 100000 in
theorem wsL_in_r1 : GoodIn lw_tbl wsL_law0_r1 := goodIn_p _ [108, 111] (by decide +kernel) (by decide +kernel)
set_option maxRecDepth 100000 in
theorem wsL_in_r2 : GoodIn lw_tbl wsL_law0_r2 := goodIn_p _ [116] (by decide +kernel) (by decide +kernel)
set_option maxRecDepth 100000 in
theorem wsL_in_r3 : GoodIn lw_tbl wsL_law0_r3 := goodIn_p _ [122, 128] (by decide +kernel) (by decide +kernel)
set_option maxRecDepth 100000 in
theorem wsL_in_r4 : GoodIn lw_tbl wsL_law0_r4 := goodIn_p _ [134, 203, 285] (by decide +kernel) (by decide +kernel)
set_option maxRecDepth 100000 in
theorem wsL_in_r5 : GoodIn lw_tbl wsL_law0_r5 := goodIn_p _ [312, 316, 319, 323, 327] (by decide +kernel) (by decide +kernel)
set_option maxRecDepth 100000 in
theorem wsL_in_r6 : GoodIn lw_tbl wsL_law0_r6 := goodIn_p _ [331, 335, 339, 343, 348, 352] (by decide +kernel) (by decide +kernel)
set_option maxRecDepth 100000 in
theorem wsL_in_r7 : GoodIn lw_tbl wsL_law0_r7 := goodIn_p _ [357, 361, 379, 365, 369] (by decide +kernel) (by decide +kernel)
set_option maxRecDepth 100000 in
theorem wsL_in_r8 : GoodIn lw_tbl wsL_law0_r8 := goodIn_p _ [372, 376, 382, 387, 996] (by decide +kernel) (by decide +kernel)
set_option maxRecDepth 100000 in
theorem wsL_in_r9 : GoodIn lw_tbl wsL_law0_r9 := goodIn_p _ [1002, 416, 420, 424, 1069] (by decide +kernel) (by decide +kernel)
set_option maxRecDepth 100000 in
theorem wsL_in_r10 : GoodIn lw_tbl wsL_law0_r10 := goodIn_p _ [682, 687, 691] (by decide +kernel) (by decide +kernel)
set_option maxRecDepth 100000 in
theorem wsL_in_r11 : GoodIn lw_tbl wsL_law0_r11 := goodIn_p _ [494, 696, 700, 705, 709] (by decide +kernel) (by decide +kernel)
set_option maxRecDepth 100000 in
theorem wsL_in_r12 : GoodIn lw_tbl wsL_law0_r12 := goodIn_p _ [713, 719, 723, 726, 729, 734] (by decide +kernel) (by decide +kernel)
set_option maxRecDepth 100000 in
theorem wsL_in_r13 : GoodIn lw_tbl wsL_law0_r13 := goodIn_p _ [737, 740, 743, 747, 756, 760] (by decide +kernel) (by decide +kernel)
set_option maxRecDepth 100000 in
theorem wsL_in_r14 : GoodIn lw_tbl wsL_law0_r14 := goodIn_p _ [764, 767, 773, 777, 782] (by decide +kernel) (by decide +kernel)
set_option maxRecDepth 100000 in
theorem wsL_in_r15 : GoodIn lw_tbl wsL_law0_r15 := goodIn_p _ [786, 789, 793, 799, 805] (by decide +kernel) (by decide +kernel)
set_option maxRecDepth 100000 in
theorem wsL_in_r16 : GoodIn lw_tbl wsL_law0_r16 := goodIn_p _ [810, 815, 819, 823, 827, 464] (by decide +kernel) (by decide +kernel)
set_option maxRecDepth 100000 in
theorem wsL_in_r17 : GoodIn lw_tbl wsL_law0_r17 := goodIn_p _ [498, 833, 838, 851, 842] (by decide +kernel) (by decide +kernel)
set_option maxRecDepth 100000 in
theorem wsL_in_r18 : GoodIn lw_tbl wsL_law0_r18 := goodIn_p _ [855, 530, 534, 539] (by decide +kernel) (by decide +kernel)
set_option maxRecDepth 100000 in
theorem wsL_in_r19 : GoodIn lw_tbl wsL_law0_r19 := goodIn_p _ [436, 1073, 1076, 1080] (by decide +kernel) (by decide +kernel)
set_option maxRecDepth 100000 in
theorem wsL_in_r20 : GoodIn lw_tbl wsL_law0_r20 := goodIn_p _ [1085, 1089, 1093, 1097, 1103, 1107] (by decide +kernel) (by decide +kernel)
set_option maxRecDepth 100000 in
theorem wsL_in_r21 : GoodIn lw_tbl wsL_law0_r21 := goodIn_p _ [1110, 1114, 1118, 1122, 1127, 1131] (by decide +kernel) (by decide +kernel)
set_option maxRecDepth 100000 in
theorem wsL_in_r22 : GoodIn lw_tbl wsL_law0_r22 := goodIn_p _ [1134, 1139, 1144, 1150, 1154, 1157] (by decide +kernel) (by decide +kernel)
set_option maxRecDepth 100000 in
theorem wsL_in_r23 : GoodIn lw_tbl wsL_law0_r23 := goodIn_p _ [1162, 1177, 1170, 1166, 1181, 1184] (by decide +kernel) (by decide +kernel)
set_option maxRecDepth 100000 in
theorem wsL_in_r24 : GoodIn lw_tbl wsL_law0_r24 := goodIn_p _ [1065, 428, 1188, 550] (by decide +kernel) (by decide +kernel)
set_option maxRecDepth 100000 in
theorem wsL_in_r25 : GoodIn lw_tbl wsL_law0_r25 := goodIn_p _ [448, 452, 522, 1192, 1196, 1200] (by decide +kernel) (by decide +kernel)
set_option maxRecDepth 100000 in
theorem wsL_in_r26 : GoodIn lw_tbl wsL_law0_r26 := goodIn_p _ [1204, 1208, 1212, 1216, 868] (by decide +kernel) (by decide +kernel)
set_option maxRecDepth 100000 in
theorem wsL_in_r27 : GoodIn lw_tbl wsL_law0_r27 := goodIn_p _ [625, 872, 1220, 1224, 1228] (by decide +kernel) (by decide +kernel)
set_option maxRecDepth 100000 in
theorem wsL_in_r28 : GoodIn lw_tbl wsL_law0_r28 := goodIn_p _ [1232, 621, 645, 649, 1236] (by decide +kernel) (by decide +kernel)
set_option maxRecDepth 100000 in
theorem wsL_in_r29 : GoodIn lw_tbl wsL_law0_r29 := goodIn_p _ [1240, 1244, 1248, 1252, 1256, 1260] (by decide +kernel) (by decide +kernel)
set_option maxRecDepth 100000 in
theorem wsL_in_r30 : GoodIn lw_tbl wsL_law0_r30 := goodIn_p _ [1264, 654, 658, 1268] (by decide +kernel) (by decide +kernel)
set_option maxRecDepth 100000 in
theorem wsL_in_r31 : GoodIn lw_tbl wsL_law0_r31 := goodIn_p _ [1272, 1276, 1280, 1284, 1288] (by decide +kernel) (by decide +kernel)
set_option maxRecDepth 100000 in
theorem wsL_in_r32 : GoodIn lw_tbl wsL_law0_r32 := goodIn_p _ [889, 1292, 897, 672, 1296] (by decide +kernel) (by decide +kernel)
set_option maxRecDepth 100000 in
theorem wsL_in_r33 : GoodIn lw_tbl wsL_law0_r33 := goodIn_p _ [1300, 904, 908, 1304] (by decide +kernel) (by decide +kernel)
set_option maxRecDepth 100000 in
theorem wsL_in_r34 : GoodIn lw_tbl wsL_law0_r34 := goodIn_p _ [664, 668, 1308, 1312, 1316] (by decide +kernel) (by decide +kernel)
set_option maxRecDepth 100000 in
theorem wsL_in_r35 : GoodIn lw_tbl wsL_law0_r35 := goodIn_p _ [921, 506, 509, 468, 472, 475] (by decide +kernel) (by decide +kernel)
set_option maxRecDepth 100000 in
theorem wsL_in_r36 : GoodIn lw_tbl wsL_law0_r36 := goodIn_p _ [480, 483, 486, 490, 1320, 1324] (by decide +kernel) (by decide +kernel)
set_option maxRecDepth 100000 in
theorem wsL_in_r37 : GoodIn lw_tbl wsL_law0_r37 := goodIn_p _ [1329, 1332, 1335, 1340, 930] (by decide +kernel) (by decide +kernel)
set_option maxRecDepth 100000 in
theorem wsL_in_r38 : GoodIn lw_tbl wsL_law0_r38 := goodIn_p _ [936, 1344, 943, 456, 460] (by decide +kernel) (by decide +kernel)
set_option maxRecDepth 100000 in
theorem wsL_in_r39 : GoodIn lw_tbl wsL_law0_r39 := goodIn_p _ [502, 513, 1348, 1352, 1356] (by decide +kernel) (by decide +kernel)
set_option maxRecDepth 100000 in
theorem wsL_in_r40 : GoodIn lw_tbl wsL_law0_r40 := goodIn_p _ [1360, 1364, 432, 444, 1368] (by decide +kernel) (by decide +kernel)
set_option maxRecDepth 100000 in
theorem wsL_in_r41 : GoodIn lw_tbl wsL_law0_r41 := goodIn_p _ [517, 1372, 950, 1376, 958] (by decide +kernel) (by decide +kernel)
set_option maxRecDepth 100000 in
theorem wsL_in_r42 : GoodIn lw_tbl wsL_law0_r42 := goodIn_p _ [1380, 981, 1384] (by decide +kernel) (by decide +kernel)
set_option maxRecDepth 100000 in
theorem wsL_in_r43 : GoodIn lw_tbl wsL_law0_r43 := goodIn_p _ [991, 1388, 526, 1392, 545] (by decide +kernel) (by decide +kernel)
set_option maxRecDepth 100000 in
theorem wsL_in_r44 : GoodIn lw_tbl wsL_law0_r44 := goodIn_p _ [1396] (by decide +kernel) (by decide +kernel)
set_option maxRecDepth 100000 in
theorem wsL_in_wsX60 : GoodIn lw_tbl wsX60 := goodIn_p _ [] (by decide +kernel) (by decide +kernel)
set_option maxRecDepth 100000 in
theorem wsL_in_wsX70 : GoodIn lw_tbl wsX70 := goodIn_p _ [] (by decide +kernel) (by decide +kernel)
set_option maxRecDepth 100000 in
theorem wsL_in_wsX30 : GoodIn lw_tbl wsX30 := goodIn_p _ [] (by decide +kernel) (by decide +kernel)
set_option maxRecDepth 100000 in
theorem wsL_in_wsX40 : GoodIn lw_tbl wsX40 := goodIn_p _ [] (by decide +kernel) (by decide +kernel)
set_option maxRecDepth 100000 in
theorem wsL_in_wsX50 : GoodIn lw_tbl wsX50 := goodIn_p _ [] (by decide +kernel) (by decide +kernel)
set_option maxRecDepth 100000 in
theorem wsL_in_wsX00 : GoodIn lw_tbl wsX00 := goodIn_p _ [] (by decide +kernel) (by decide +kernel)
set_option maxRecDepth 100000 in
theorem wsL_in_wsX10 : GoodIn lw_tbl wsX10 := goodIn_p _ [] (by decide +kernel) (by decide +kernel)
set_option maxRecDepth 100000 in
theorem wsL_in_wsX20 : GoodIn lw_tbl wsX20 := goodIn_p _ [] (by decide +kernel) (by decide +kernel)
theorem wsL_law_in0 : ∀ w ∈ wsL_law0, w ∈ lw_tbl := fun w h => ((goodIn_app (goodIn_app (goodIn_app (goodIn_app (goodIn_app (goodIn_app (goodIn_app (goodIn_app (goodIn_app (goodIn_app wsL_in_r1 (goodIn_app wsL_in_r2 (goodIn_app wsL_in_r3 (goodIn_app wsL_in_r4 (goodIn_app wsL_in_r5 (goodIn_app wsL_in_r6 (goodIn_app wsL_in_r7 (goodIn_app wsL_in_r8 (goodIn_app wsL_in_r9 (goodIn_app wsL_in_r10 (goodIn_app wsL_in_r11 (goodIn_app wsL_in_r12 (goodIn_app wsL_in_r13 (goodIn_app wsL_in_r14 (goodIn_app wsL_in_r15 (goodIn_app wsL_in_r16 (goodIn_app wsL_in_r17 (goodIn_app wsL_in_r18 (goodIn_app wsL_in_r19 (goodIn_app wsL_in_r20 (goodIn_app wsL_in_r21 (goodIn_app wsL_in_r22 (goodIn_app wsL_in_r23 (goodIn_app wsL_in_r24 (goodIn_app wsL_in_r25 (goodIn_app wsL_in_r26 (goodIn_app wsL_in_r27 (goodIn_app wsL_in_r28 (goodIn_app wsL_in_r29 (goodIn_app wsL_in_r30 (goodIn_app wsL_in_r31 (goodIn_app wsL_in_r32 (goodIn_app wsL_in_r33 (goodIn_app wsL_in_r34 (goodIn_app wsL_in_r35 (goodIn_app wsL_in_r36 (goodIn_app wsL_in_r37 (goodIn_app wsL_in_r38 (goodIn_app wsL_in_r39 (goodIn_app wsL_in_r40 (goodIn_app wsL_in_r41 (goodIn_app wsL_in_r42 (goodIn_app wsL_in_r43 wsL_in_r44))))))))))))))))))))))))))))))))))))))))))) wsL_in_wsX60) wsL_in_wsX70) wsL_in_wsX30) wsL_in_wsX40) wsL_in_wsX50) wsL_in_wsX00) wsL_in_wsX10) wsL_in_wsX20) (fun _ h => absurd h List.not_mem_nil)) w h).1
