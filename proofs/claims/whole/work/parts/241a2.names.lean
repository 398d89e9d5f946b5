set_option maxRecDepth 20000 in
theorem gpX7_load_r6 : GoodIn wsL_law wsX7_load_r6 := goodIn_r _ [502, 503, 504, 505, 506, 507, 508, 509, 510, 511, 512, 513, 514, 515, 516, 517, 518, 519, 520, 521, 522, 523, 524, 525] (by decide +kernel) (by decide +kernel)
set_option maxRecDepth 20000 in
theorem gpX7_load_r7 : GoodIn wsL_law wsX7_load_r7 := goodIn_r _ [526, 527, 528, 529, 530, 531, 532, 533, 534, 535, 536, 537, 538, 539, 540, 541, 542, 543, 544, 545, 190, 546, 547, 548] (by decide +kernel) (by decide +kernel)
set_option maxRecDepth 20000 in
theorem gpX70 : GoodIn wsL_law wsX70 := goodIn_r _ [1044, 1045, 1046, 1047, 1048, 1049, 1050, 1051, 1052, 1053, 1054, 1055, 1056, 1057, 1058, 1059, 1060, 1061, 1062] (by decide +kernel) (by decide +kernel)
set_option maxRecDepth 20000 in
theorem ggL_law_X7_load : GoodIn wsL_law wsX7_load := goodIn_co gpX7_load_h (goodIn_app (goodIn_app gpX7_load_r1 (goodIn_app gpX7_load_r2 (goodIn_app gpX7_load_r3 (goodIn_app gpX7_load_r4 (goodIn_app gpX7_load_r5 (goodIn_app gpX7_load_r6 gpX7_load_r7)))))) gpX70)
set_option maxRecDepth 20000 in
theorem gL_law_X7_load : GoodIn wsL_law (wsV RL 81 RX7 yX7_load wsX7_load) := goodIn_app (goodIn_of _ (by decide +kernel)) ggL_law_X7_load
set_option maxRecDepth 20000 in
theorem ggL_law_X7_thrown : GoodIn wsL_law wsX7_thrown := goodIn_r _ [552, 213, 1044, 1045, 1046, 1047, 1048, 1049, 1050, 1051, 1052, 1053, 1054, 1055, 1056, 1057, 1058, 1059, 1060, 1061, 1062] (by decide +kernel) (by decide +kernel)
set_option maxRecDepth 20000 in
theorem gL_law_X7_thrown : GoodIn wsL_law (wsV RL 82 RX7 yX7_thrown wsX7_thrown) := goodIn_app (goodIn_of _ (by decide +kernel)) ggL_law_X7_thrown
set_option maxRecDepth 20000 in
theorem ggL_law_X6_errorOffset : GoodIn wsL_law wsX6_errorOffset := goodIn_r _ [556, 16, 557, 1036, 1037, 1038, 1039, 1040, 1041, 1042, 1043, 1063, 1064, 1065, 1066, 1067, 1068, 1069, 1070, 1071, 1072, 1073, 1074] (by decide +kernel) (by decide +kernel)
set_option maxRecDepth 20000 in
theorem gL_law_X6_errorOffset : GoodIn wsL_law (wsV RL 86 RX6 yX6_errorOffset wsX6_errorOffset) := goodIn_app (goodIn_of _ (by decide +kernel)) ggL_law_X6_errorOffset
set_option maxRecDepth 20000 in
theorem ggL_law_X7_errorOffset : GoodIn wsL_law wsX7_errorOffset := goodIn_r _ [561, 213, 185, 1044, 1045, 1046, 1047, 1048, 1049, 1050, 1051, 1052, 1053, 1054, 1055, 1056, 1057, 1058, 1059, 1060, 1061, 1062] (by decide +kernel) (by decide +kernel)
set_option maxRecDepth 20000 in
theorem gL_law_X7_errorOffset : GoodIn wsL_law (wsV RL 89 RX7 yX7_errorOffset wsX7_errorOffset) := goodIn_app (goodIn_of _ (by decide +kernel)) ggL_law_X7_errorOffset
set_option maxRecDepth 20000 in
theorem ggL_law_L_state : GoodIn wsL_law wsL_state := goodIn_ca (goodIn_r _ [564, 219, 565, 566, 567, 2, 568, 224, 225, 20, 30, 228, 569, 570, 571, 572, 573, 574, 575, 229, 576, 577, 578, 57, 579, 85, 580, 581, 582, 583, 89, 584, 585, 586, 587, 1036, 1037, 1038, 1039, 1040, 1041, 1042, 1043, 1075, 1076, 1082, 1083, 1084, 1085, 1086, 1087, 1088, 1089, 1090, 1091, 1092, 1093, 1094, 1095, 1096] (by decide +kernel) (by decide +kernel)) (goodIn_sub (fun _ h => List.mem_append_left _ (List.mem_append_left _ (List.mem_append_right _ h))) (by decide +kernel))
set_option maxRecDepth 20000 in
theorem gL_law_L_state : GoodIn wsL_law (va_wsS RL 90 yL_state wsL_state) := goodIn_app (goodIn_of _ (by decide +kernel)) ggL_law_L_state
set_option maxRecDepth 20000 in
theorem ggL_law_X7_state : GoodIn wsL_law wsX7_state := goodIn_r _ [591, 213, 446, 447, 5, 448, 449, 450, 451, 452, 592, 593, 594, 595, 186, 596, 597, 598, 599, 600, 601, 602, 603, 604, 605, 606, 607, 608, 609, 610, 611, 612, 613, 614, 615, 1044, 1045, 1046, 1047, 1048, 1049, 1050, 1051, 1052, 1053, 1054, 1055, 1056, 1057, 1058, 1059, 1060, 1061, 1062] (by decide +kernel) (by decide +kernel)
set_option maxRecDepth 20000 in
theorem gL_law_X7_state : GoodIn wsL_law (wsV RL 92 RX7 yX7_state wsX7_state) := goodIn_app (goodIn_of _ (by decide +kernel)) ggL_law_X7_state
set_option maxRecDepth 20000 in
theorem ggL_law_L_stands : GoodIn wsL_law wsL_stands := goodIn_ca (goodIn_r _ [618, 619, 620, 621, 622, 2, 623, 20, 30, 624, 625, 626, 627, 628, 629, 571, 630, 631, 632, 633, 569, 570, 634, 170, 171, 53, 172, 69, 63, 68, 1036, 1037, 1038, 1039, 1040, 1041, 1042, 1043, 1075, 1076, 1082, 1083, 1084, 1085, 1086, 1087, 1088, 1089, 1090, 1091] (by decide +kernel) (by decide +kernel)) (goodIn_sub (fun _ h => List.mem_append_left _ (List.mem_append_right _ h)) (by decide +kernel))
set_option maxRecDepth 20000 in
theorem gL_law_L_stands : GoodIn wsL_law (va_wsS RL 93 yL_stands wsL_stands) := goodIn_app (goodIn_of _ (by decide +kernel)) ggL_law_L_stands
set_option maxRecDepth 20000 in
theorem ggL_law_X7_stands : GoodIn wsL_law wsX7_stands := goodIn_r _ [638, 213, 639, 640, 641, 5, 642, 186, 446, 447, 448, 449, 450, 451, 452, 643, 644, 645, 646, 647, 648, 649, 650, 1044, 1045, 1046, 1047, 1048, 1049, 1050, 1051, 1052, 1053, 1054, 1055, 1056, 1057, 1058, 1059, 1060, 1061, 1062] (by decide +kernel) (by decide +kernel)
set_option maxRecDepth 20000 in
theorem gL_law_X7_stands : GoodIn wsL_law (wsV RL 96 RX7 yX7_stands wsX7_stands) := goodIn_app (goodIn_of _ (by decide +kernel)) ggL_law_X7_stands
set_option maxRecDepth 20000 in
theorem gpL_plane_h : GoodIn wsL_law [Cond.codeWith yL_plane cL_plane 5 (some .int) [(0, 10, 13, 22), (0, 10, 17, 13)]] := goodIn_r _ [653] (by decide +kernel) (by decide +kernel)
set_option maxRecDepth 20000 in
theorem gpL_plane_r1 : GoodIn wsL_law wsL_plane_r1 := goodIn_r _ [619, 219, 654, 655, 656, 2, 657, 224, 225, 20, 30, 658, 25, 624, 625, 626, 627, 628, 629, 571, 659, 660, 661, 53] (by decide +kernel) (by decide +kernel)
set_option maxRecDepth 20000 in
theorem gpL_plane_r2 : GoodIn wsL_law wsL_plane_r2 := goodIn_r _ [662, 63, 62, 169, 170, 171, 172, 69, 68, 663, 664, 665, 24, 666, 143, 149, 150, 93, 173, 174, 175] (by decide +kernel) (by decide +kernel)
set_option maxRecDepth 20000 in
theorem ggL_law_L_plane : GoodIn wsL_law wsL_plane := goodIn_ca (goodIn_ca (goodIn_co gpL_plane_h (goodIn_app (goodIn_app (goodIn_app (goodIn_app (goodIn_app gpL_plane_r1 gpL_plane_r2) gpX60) gpX40) gpX00) gpX50)) (goodIn_sub (fun _ h => List.mem_append_left _ (List.mem_append_left _ (List.mem_append_right _ h))) (by decide +kernel))) (goodIn_sub (fun _ h => List.mem_append_left _ (List.mem_append_right _ h)) (by decide +kernel))
set_option maxRecDepth 20000 in
theorem gL_law_L_plane : GoodIn wsL_law (va_wsS RL 97 yL_plane wsL_plane) := goodIn_app (goodIn_of _ (by decide +kernel)) ggL_law_L_plane
