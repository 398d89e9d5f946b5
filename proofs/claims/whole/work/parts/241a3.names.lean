set_option maxRecDepth 20000 in
theorem ggL_law_X7_plane : GoodIn wsL_law wsX7_plane := goodIn_r _ [670, 213, 639, 640, 641, 5, 642, 186, 446, 447, 448, 449, 450, 451, 452, 671, 672, 673, 674, 675, 676, 677, 678, 647, 648, 649, 650, 679, 680, 681, 682, 683, 684, 685, 686, 687, 688, 689, 690, 691, 692, 693, 694, 695, 696, 697, 698, 1044, 1045, 1046, 1047, 1048, 1049, 1050, 1051, 1052, 1053, 1054, 1055, 1056, 1057, 1058, 1059, 1060, 1061, 1062] (by decide +kernel) (by decide +kernel)
set_option maxRecDepth 20000 in
theorem gL_law_X7_plane : GoodIn wsL_law (wsV RL 100 RX7 yX7_plane wsX7_plane) := goodIn_app (goodIn_of _ (by decide +kernel)) ggL_law_X7_plane
set_option maxRecDepth 20000 in
theorem ggL_law_L_hole : GoodIn wsL_law wsL_hole := goodIn_ca (goodIn_ca (goodIn_r _ [701, 619, 219, 702, 703, 704, 2, 705, 224, 225, 20, 30, 706, 707, 228, 708, 25, 709, 710, 711, 712, 713, 714, 628, 629, 572, 1036, 1037, 1038, 1039, 1040, 1041, 1042, 1043, 1075, 1076, 1082, 1083, 1084, 1085, 1086, 1087, 1088, 1089, 1090, 1091, 1092, 1093, 1094, 1095, 1096, 1077, 1078, 1079, 1080, 1081] (by decide +kernel) (by decide +kernel)) (goodIn_sub (fun _ h => List.mem_append_left _ (List.mem_append_left _ (List.mem_append_right _ h))) (by decide +kernel))) (goodIn_sub (fun _ h => List.mem_append_left _ (List.mem_append_right _ h)) (by decide +kernel))
set_option maxRecDepth 20000 in
theorem gL_law_L_hole : GoodIn wsL_law (va_wsS RL 101 yL_hole wsL_hole) := goodIn_app (goodIn_of _ (by decide +kernel)) ggL_law_L_hole
set_option maxRecDepth 20000 in
theorem gpX7_hole_h : GoodIn wsL_law [Cond.code yX7_hole cX7_hole 3 (some .int)] := goodIn_r _ [718] (by decide +kernel) (by decide +kernel)
set_option maxRecDepth 20000 in
theorem gpX7_hole_r1 : GoodIn wsL_law wsX7_hole_r1 := goodIn_r _ [213, 719, 720, 721, 5, 722, 186, 446, 447, 448, 449, 450, 451, 452, 723, 724, 725, 726, 687, 688, 689, 690, 695, 696] (by decide +kernel) (by decide +kernel)
set_option maxRecDepth 20000 in
theorem gpX7_hole_r2 : GoodIn wsL_law wsX7_hole_r2 := goodIn_r _ [697, 698, 612, 613, 614, 615, 600, 601, 602, 603, 727, 728, 729, 730, 675, 676, 677, 678, 731, 732, 733, 734, 679, 680] (by decide +kernel) (by decide +kernel)
set_option maxRecDepth 20000 in
theorem gpX7_hole_r3 : GoodIn wsL_law wsX7_hole_r3 := goodIn_r _ [681, 682, 683, 684, 685, 686, 691, 692, 693, 694, 647, 648, 649, 650, 735, 736, 737, 738] (by decide +kernel) (by decide +kernel)
set_option maxRecDepth 20000 in
theorem ggL_law_X7_hole : GoodIn wsL_law wsX7_hole := goodIn_co gpX7_hole_h (goodIn_app (goodIn_app gpX7_hole_r1 (goodIn_app gpX7_hole_r2 gpX7_hole_r3)) gpX70)
set_option maxRecDepth 20000 in
theorem gL_law_X7_hole : GoodIn wsL_law (wsV RL 103 RX7 yX7_hole wsX7_hole) := goodIn_app (goodIn_of _ (by decide +kernel)) ggL_law_X7_hole
set_option maxRecDepth 20000 in
theorem ggL_law_L_sees : GoodIn wsL_law wsL_sees := goodIn_ca (goodIn_r _ [741, 619, 742, 743, 744, 2, 745, 25, 746, 711, 712, 713, 714, 628, 629, 20, 30, 572, 630, 631, 632, 633, 569, 570, 747, 174, 24, 175, 1036, 1037, 1038, 1039, 1040, 1041, 1042, 1043, 1077, 1078, 1079, 1080, 1081, 1075, 1076, 1082, 1083, 1084, 1085, 1086, 1087, 1088, 1089, 1090, 1091] (by decide +kernel) (by decide +kernel)) (goodIn_sub (fun _ h => List.mem_append_left _ (List.mem_append_right _ h)) (by decide +kernel))
set_option maxRecDepth 20000 in
theorem gL_law_L_sees : GoodIn wsL_law (va_wsS RL 104 yL_sees wsL_sees) := goodIn_app (goodIn_of _ (by decide +kernel)) ggL_law_L_sees
set_option maxRecDepth 20000 in
theorem ggL_law_X7_sees : GoodIn wsL_law wsX7_sees := goodIn_r _ [751, 213, 186, 719, 720, 721, 5, 722, 446, 447, 448, 449, 450, 451, 452, 643, 644, 645, 646, 679, 680, 681, 682, 683, 684, 685, 686, 687, 688, 689, 690, 691, 692, 693, 694, 695, 696, 697, 698, 647, 648, 649, 650, 731, 732, 733, 734, 1044, 1045, 1046, 1047, 1048, 1049, 1050, 1051, 1052, 1053, 1054, 1055, 1056, 1057, 1058, 1059, 1060, 1061, 1062] (by decide +kernel) (by decide +kernel)
set_option maxRecDepth 20000 in
theorem gL_law_X7_sees : GoodIn wsL_law (wsV RL 106 RX7 yX7_sees wsX7_sees) := goodIn_app (goodIn_of _ (by decide +kernel)) ggL_law_X7_sees
set_option maxRecDepth 20000 in
theorem ggL_law_L_shown : GoodIn wsL_law wsL_shown := goodIn_ca (goodIn_ca (goodIn_r _ [754, 619, 219, 755, 756, 757, 2, 758, 25, 759, 711, 712, 713, 714, 628, 629, 20, 30, 572, 760, 761, 762, 224, 225, 1036, 1037, 1038, 1039, 1040, 1041, 1042, 1043, 1077, 1078, 1079, 1080, 1081, 1075, 1076, 1082, 1083, 1084, 1085, 1086, 1087, 1088, 1089, 1090, 1091] (by decide +kernel) (by decide +kernel)) (goodIn_sub (fun _ h => List.mem_append_left _ (List.mem_append_right _ h)) (by decide +kernel))) (goodIn_sub (fun _ h => List.mem_append_left _ (List.mem_append_left _ (List.mem_append_right _ h))) (by decide +kernel))
set_option maxRecDepth 20000 in
theorem gL_law_L_shown : GoodIn wsL_law (va_wsS RL 107 yL_shown wsL_shown) := goodIn_app (goodIn_of _ (by decide +kernel)) ggL_law_L_shown
set_option maxRecDepth 20000 in
theorem ggL_law_X7_shown : GoodIn wsL_law wsX7_shown := goodIn_r _ [766, 213, 719, 720, 721, 5, 722, 186, 446, 447, 448, 449, 450, 451, 452, 767, 768, 769, 770, 675, 676, 677, 678, 731, 732, 733, 734, 679, 680, 681, 682, 683, 684, 685, 686, 687, 688, 689, 690, 691, 692, 693, 694, 695, 696, 697, 698, 647, 648, 649, 650, 1044, 1045, 1046, 1047, 1048, 1049, 1050, 1051, 1052, 1053, 1054, 1055, 1056, 1057, 1058, 1059, 1060, 1061, 1062] (by decide +kernel) (by decide +kernel)
set_option maxRecDepth 20000 in
theorem gL_law_X7_shown : GoodIn wsL_law (wsV RL 109 RX7 yX7_shown wsX7_shown) := goodIn_app (goodIn_of _ (by decide +kernel)) ggL_law_X7_shown
set_option maxRecDepth 20000 in
theorem gpL_why_h : GoodIn wsL_law [Cond.codeWith yL_why cL_why 7 (some .int) [(0, 14, 17, 22)]] := goodIn_r _ [773] (by decide +kernel) (by decide +kernel)
set_option maxRecDepth 20000 in
theorem gpL_why_r1 : GoodIn wsL_law wsL_why_r1 := goodIn_r _ [619, 774, 775, 776, 2, 777, 25, 20, 30, 711, 712, 713, 714, 628, 629, 572, 624, 625, 626, 627, 571, 630, 631, 632] (by decide +kernel) (by decide +kernel)
set_option maxRecDepth 20000 in
theorem gpL_why_r2 : GoodIn wsL_law wsL_why_r2 := goodIn_r _ [633, 569, 570, 778, 779, 780, 24, 781, 149, 150, 782, 783, 93, 784, 164, 165, 53, 166, 64, 167, 168, 173, 174, 175] (by decide +kernel) (by decide +kernel)
set_option maxRecDepth 20000 in
theorem gpL_why_r3 : GoodIn wsL_law wsL_why_r3 := goodIn_r _ [785, 170, 171, 172, 69, 63, 68] (by decide +kernel) (by decide +kernel)
set_option maxRecDepth 20000 in
theorem ggL_law_L_why : GoodIn wsL_law wsL_why := goodIn_ca (goodIn_co gpL_why_h (goodIn_app (goodIn_app (goodIn_app (goodIn_app (goodIn_app gpL_why_r1 (goodIn_app gpL_why_r2 gpL_why_r3)) gpX60) gpX40) gpX00) gpX50)) (goodIn_sub (fun _ h => List.mem_append_left _ (List.mem_append_right _ h)) (by decide +kernel))
set_option maxRecDepth 20000 in
theorem gL_law_L_why : GoodIn wsL_law (va_wsS RL 110 yL_why wsL_why) := goodIn_app (goodIn_of _ (by decide +kernel)) ggL_law_L_why
