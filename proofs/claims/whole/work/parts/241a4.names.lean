set_option maxRecDepth 20000 in
theorem ggL_law_X7_why : GoodIn wsL_law wsX7_why := goodIn_r _ [789, 213, 719, 720, 721, 5, 722, 186, 446, 447, 448, 449, 450, 451, 452, 639, 640, 641, 642, 643, 644, 645, 646, 647, 648, 649, 650, 675, 676, 677, 678, 683, 684, 685, 686, 687, 688, 689, 690, 691, 692, 693, 694, 695, 696, 697, 698, 679, 680, 681, 682, 1044, 1045, 1046, 1047, 1048, 1049, 1050, 1051, 1052, 1053, 1054, 1055, 1056, 1057, 1058, 1059, 1060, 1061, 1062] (by decide +kernel) (by decide +kernel)
set_option maxRecDepth 20000 in
theorem gL_law_X7_why : GoodIn wsL_law (wsV RL 113 RX7 yX7_why wsX7_why) := goodIn_app (goodIn_of _ (by decide +kernel)) ggL_law_X7_why
set_option maxRecDepth 20000 in
theorem ggL_law_L_viewer : GoodIn wsL_law wsL_viewer := goodIn_ca (goodIn_ca (goodIn_r _ [792, 619, 219, 793, 794, 795, 2, 796, 20, 228, 797, 798, 799, 800, 628, 629, 229, 760, 761, 762, 224, 225, 801, 581, 582, 57, 583, 89, 1036, 1037, 1038, 1039, 1040, 1041, 1042, 1043, 1075, 1076, 1092, 1093, 1094, 1095, 1096] (by decide +kernel) (by decide +kernel)) (goodIn_sub (fun _ h => List.mem_append_left _ (List.mem_append_right _ h)) (by decide +kernel))) (goodIn_sub (fun _ h => List.mem_append_left _ (List.mem_append_left _ (List.mem_append_right _ h))) (by decide +kernel))
set_option maxRecDepth 20000 in
theorem gL_law_L_viewer : GoodIn wsL_law (va_wsS RL 114 yL_viewer wsL_viewer) := goodIn_app (goodIn_of _ (by decide +kernel)) ggL_law_L_viewer
set_option maxRecDepth 20000 in
theorem ggL_law_X7_viewer : GoodIn wsL_law wsX7_viewer := goodIn_r _ [805, 213, 806, 807, 808, 5, 809, 186, 446, 447, 448, 449, 450, 451, 452, 810, 811, 812, 813, 600, 601, 602, 603, 1044, 1045, 1046, 1047, 1048, 1049, 1050, 1051, 1052, 1053, 1054, 1055, 1056, 1057, 1058, 1059, 1060, 1061, 1062] (by decide +kernel) (by decide +kernel)
set_option maxRecDepth 20000 in
theorem gL_law_X7_viewer : GoodIn wsL_law (wsV RL 116 RX7 yX7_viewer wsX7_viewer) := goodIn_app (goodIn_of _ (by decide +kernel)) ggL_law_X7_viewer
set_option maxRecDepth 20000 in
theorem gpL_price_h : GoodIn wsL_law [Cond.codeWith yL_price cL_price 5 (some .int) [(0, 10, 13, 22)]] := goodIn_r _ [816] (by decide +kernel) (by decide +kernel)
set_option maxRecDepth 20000 in
theorem gpL_price_r1 : GoodIn wsL_law wsL_price_r1 := goodIn_r _ [619, 817, 818, 819, 2, 820, 20, 30, 228, 25, 797, 798, 799, 800, 628, 629, 229, 711, 712, 713, 714, 572, 801, 581] (by decide +kernel) (by decide +kernel)
set_option maxRecDepth 20000 in
theorem gpL_price_r2 : GoodIn wsL_law wsL_price_r2 := goodIn_r _ [582, 57, 583, 89, 821, 822, 823, 53, 824, 63, 71, 825, 826, 157, 827, 66, 828, 829, 830, 24, 831, 97, 832, 94] (by decide +kernel) (by decide +kernel)
set_option maxRecDepth 20000 in
theorem gpL_price_r3 : GoodIn wsL_law wsL_price_r3 := goodIn_r _ [95, 96, 833, 834, 835, 74, 836, 80, 79, 81, 837, 838, 839, 840, 841, 842, 843, 844, 845, 846, 847, 848, 849, 167] (by decide +kernel) (by decide +kernel)
set_option maxRecDepth 20000 in
theorem gpL_price_r4 : GoodIn wsL_law wsL_price_r4 := goodIn_r _ [168, 850, 851, 852] (by decide +kernel) (by decide +kernel)
set_option maxRecDepth 20000 in
theorem ggL_law_L_price : GoodIn wsL_law wsL_price := goodIn_ca (goodIn_co gpL_price_h (goodIn_app (goodIn_app (goodIn_app (goodIn_app (goodIn_app (goodIn_app (goodIn_app gpL_price_r1 (goodIn_app gpL_price_r2 (goodIn_app gpL_price_r3 gpL_price_r4))) gpX60) gpX40) gpX10) gpX00) gpX50) gpX20)) (goodIn_sub (fun _ h => List.mem_append_left _ (List.mem_append_right _ h)) (by decide +kernel))
set_option maxRecDepth 20000 in
theorem gL_law_L_price : GoodIn wsL_law (va_wsS RL 117 yL_price wsL_price) := goodIn_app (goodIn_of _ (by decide +kernel)) ggL_law_L_price
set_option maxRecDepth 20000 in
theorem gpX7_price_h : GoodIn wsL_law [Cond.code yX7_price cX7_price 3 (some .int)] := goodIn_r _ [856] (by decide +kernel) (by decide +kernel)
set_option maxRecDepth 20000 in
theorem gpX7_price_r1 : GoodIn wsL_law wsX7_price_r1 := goodIn_r _ [213, 806, 807, 808, 5, 809, 186, 446, 447, 448, 449, 450, 451, 452, 719, 720, 721, 722, 857, 858, 859, 860, 861, 826] (by decide +kernel) (by decide +kernel)
set_option maxRecDepth 20000 in
theorem gpX7_price_r2 : GoodIn wsL_law wsX7_price_r2 := goodIn_r _ [157, 827, 600, 601, 602, 603, 695, 696, 697, 698, 862, 863, 864, 865, 192, 191, 767, 768, 769, 770, 675, 676, 677, 678] (by decide +kernel) (by decide +kernel)
set_option maxRecDepth 20000 in
theorem gpX7_price_r3 : GoodIn wsL_law wsX7_price_r3 := goodIn_r _ [731, 732, 733, 734, 679, 680, 681, 682, 683, 684, 685, 686, 687, 688, 689, 690, 691, 692, 693, 694, 647, 648, 649, 650] (by decide +kernel) (by decide +kernel)
set_option maxRecDepth 20000 in
theorem gpX7_price_r4 : GoodIn wsL_law wsX7_price_r4 := goodIn_r _ [727, 728, 729, 730, 735, 736, 737, 738, 866, 867, 868, 869, 870, 871, 872, 873, 484, 485, 486, 874, 875, 876] (by decide +kernel) (by decide +kernel)
set_option maxRecDepth 20000 in
theorem ggL_law_X7_price : GoodIn wsL_law wsX7_price := goodIn_co gpX7_price_h (goodIn_app (goodIn_app gpX7_price_r1 (goodIn_app gpX7_price_r2 (goodIn_app gpX7_price_r3 gpX7_price_r4))) gpX70)
set_option maxRecDepth 20000 in
theorem gL_law_X7_price : GoodIn wsL_law (wsV RL 119 RX7 yX7_price wsX7_price) := goodIn_app (goodIn_of _ (by decide +kernel)) ggL_law_X7_price
set_option maxRecDepth 20000 in
theorem gpL_bestPull_h : GoodIn wsL_law [Cond.codeWith yL_bestPull cL_bestPull 5 (some .int) [(0, 10, 13, 22), (0, 10, 17, 13)]] := goodIn_r _ [879] (by decide +kernel) (by decide +kernel)
set_option maxRecDepth 20000 in
theorem gpL_bestPull_r1 : GoodIn wsL_law wsL_bestPull_r1 := goodIn_r _ [619, 219, 880, 881, 882, 2, 883, 20, 30, 21, 570, 658, 26, 624, 625, 626, 627, 628, 629, 571, 760, 761, 762, 224] (by decide +kernel) (by decide +kernel)
set_option maxRecDepth 20000 in
theorem gpL_bestPull_r2 : GoodIn wsL_law wsL_bestPull_r2 := goodIn_r _ [225, 884, 343, 344, 53, 345, 64, 885, 418, 419, 420, 62, 63, 65, 66, 68, 421, 422, 423, 424, 69, 70, 71, 75] (by decide +kernel) (by decide +kernel)
set_option maxRecDepth 20000 in
theorem gpL_bestPull_r3 : GoodIn wsL_law wsL_bestPull_r3 := goodIn_r _ [425, 426, 427, 74, 428, 80, 79, 429, 139, 140, 141, 24, 142, 94, 97, 143, 95, 144, 107, 108, 109, 145, 146, 147] (by decide +kernel) (by decide +kernel)
