set_option maxRecDepth 20000 in
theorem gpL_bestPull_r4 : GoodIn wsL_law wsL_bestPull_r4 := goodIn_r _ [148, 149, 150, 93, 96, 151, 152, 153, 154, 155, 156, 157, 158, 159, 160, 161, 162, 163, 164, 165, 166, 167, 168, 169] (by decide +kernel) (by decide +kernel)
set_option maxRecDepth 20000 in
theorem gpL_bestPull_r5 : GoodIn wsL_law wsL_bestPull_r5 := goodIn_r _ [170, 171, 172, 173, 174, 175, 176, 177, 178, 179, 886, 887, 888, 889] (by decide +kernel) (by decide +kernel)
set_option maxRecDepth 20000 in
theorem ggL_law_L_bestPull : GoodIn wsL_law wsL_bestPull := goodIn_ca (goodIn_ca (goodIn_co gpL_bestPull_h (goodIn_app (goodIn_app (goodIn_app (goodIn_app (goodIn_app (goodIn_app gpL_bestPull_r1 (goodIn_app gpL_bestPull_r2 (goodIn_app gpL_bestPull_r3 (goodIn_app gpL_bestPull_r4 gpL_bestPull_r5)))) gpX60) gpX40) gpX00) gpX20) gpX50)) (goodIn_sub (fun _ h => List.mem_append_left _ (List.mem_append_right _ h)) (by decide +kernel))) (goodIn_sub (fun _ h => List.mem_append_left _ (List.mem_append_left _ (List.mem_append_right _ h))) (by decide +kernel))
set_option maxRecDepth 20000 in
theorem gL_law_L_bestPull : GoodIn wsL_law (va_wsS RL 120 yL_bestPull wsL_bestPull) := goodIn_app (goodIn_of _ (by decide +kernel)) ggL_law_L_bestPull
set_option maxRecDepth 20000 in
theorem ggL_law_X7_bestPull : GoodIn wsL_law wsX7_bestPull := goodIn_r _ [893, 213, 186, 639, 640, 641, 5, 642, 446, 447, 448, 449, 450, 451, 452, 767, 768, 769, 770, 675, 676, 677, 678, 731, 732, 733, 734, 679, 680, 681, 682, 683, 684, 685, 686, 687, 688, 689, 690, 691, 692, 693, 694, 695, 696, 697, 698, 647, 648, 649, 650, 1044, 1045, 1046, 1047, 1048, 1049, 1050, 1051, 1052, 1053, 1054, 1055, 1056, 1057, 1058, 1059, 1060, 1061, 1062] (by decide +kernel) (by decide +kernel)
set_option maxRecDepth 20000 in
theorem gL_law_X7_bestPull : GoodIn wsL_law (wsV RL 122 RX7 yX7_bestPull wsX7_bestPull) := goodIn_app (goodIn_of _ (by decide +kernel)) ggL_law_X7_bestPull
set_option maxRecDepth 20000 in
theorem gpL_foretold_h : GoodIn wsL_law [Cond.codeWith yL_foretold cL_foretold 5 (some .int) [(0, 10, 13, 13)]] := goodIn_r _ [896] (by decide +kernel) (by decide +kernel)
set_option maxRecDepth 20000 in
theorem gpL_foretold_r1 : GoodIn wsL_law wsL_foretold_r1 := goodIn_r _ [219, 897, 898, 899, 2, 900, 21, 228, 20, 30, 25, 760, 761, 762, 224, 225, 901, 431, 432, 57, 433, 85, 86, 87] (by decide +kernel) (by decide +kernel)
set_option maxRecDepth 20000 in
theorem gpL_foretold_r2 : GoodIn wsL_law wsL_foretold_r2 := goodIn_r _ [88, 434, 422, 423, 424, 89, 902, 903, 904, 905, 580, 581, 582, 583, 906, 907, 908, 909, 910, 241, 157, 242, 380, 381] (by decide +kernel) (by decide +kernel)
set_option maxRecDepth 20000 in
theorem gpL_foretold_r3 : GoodIn wsL_law wsL_foretold_r3 := goodIn_r _ [382, 383, 911, 829, 830, 24, 831, 97, 832, 94, 95, 96, 833, 834, 835, 74, 836, 80, 79, 81, 837, 838, 839, 840] (by decide +kernel) (by decide +kernel)
set_option maxRecDepth 20000 in
theorem gpL_foretold_r4 : GoodIn wsL_law wsL_foretold_r4 := goodIn_r _ [841, 842, 843, 844, 845, 846, 847, 848, 849, 167, 168, 850, 851, 852, 384, 385, 386, 387, 912, 913, 914, 915, 916, 917] (by decide +kernel) (by decide +kernel)
set_option maxRecDepth 20000 in
theorem gpL_foretold_r5 : GoodIn wsL_law wsL_foretold_r5 := goodIn_r _ [918, 822, 823, 53, 824, 63, 71, 825, 826, 827, 66, 919, 920, 921, 922, 584, 585, 586, 587, 576, 577, 578, 579] (by decide +kernel) (by decide +kernel)
set_option maxRecDepth 20000 in
theorem ggL_law_L_foretold : GoodIn wsL_law wsL_foretold := goodIn_ca (goodIn_co gpL_foretold_h (goodIn_app (goodIn_app (goodIn_app (goodIn_app (goodIn_app (goodIn_app (goodIn_app gpL_foretold_r1 (goodIn_app gpL_foretold_r2 (goodIn_app gpL_foretold_r3 (goodIn_app gpL_foretold_r4 gpL_foretold_r5)))) gpX60) gpX40) gpX10) gpX50) gpX00) gpX20)) (goodIn_sub (fun _ h => List.mem_append_left _ (List.mem_append_left _ (List.mem_append_right _ h))) (by decide +kernel))
set_option maxRecDepth 20000 in
theorem gL_law_L_foretold : GoodIn wsL_law (va_wsS RL 123 yL_foretold wsL_foretold) := goodIn_app (goodIn_of _ (by decide +kernel)) ggL_law_L_foretold
set_option maxRecDepth 20000 in
theorem gpX7_foretold_h : GoodIn wsL_law [Cond.code yX7_foretold cX7_foretold 4 (some .int)] := goodIn_r _ [926] (by decide +kernel) (by decide +kernel)
set_option maxRecDepth 20000 in
theorem gpX7_foretold_r1 : GoodIn wsL_law wsX7_foretold_r1 := goodIn_r _ [213, 186, 188, 446, 447, 5, 448, 449, 450, 451, 452, 546, 547, 548, 927, 928, 929, 930, 600, 601, 602, 603, 931, 932] (by decide +kernel) (by decide +kernel)
set_option maxRecDepth 20000 in
theorem gpX7_foretold_r2 : GoodIn wsL_law wsX7_foretold_r2 := goodIn_r _ [933, 934, 935, 936, 937, 938, 862, 863, 864, 865, 192, 191, 767, 768, 769, 770, 675, 676, 677, 678, 731, 732, 733, 734] (by decide +kernel) (by decide +kernel)
set_option maxRecDepth 20000 in
theorem gpX7_foretold_r3 : GoodIn wsL_law wsX7_foretold_r3 := goodIn_r _ [679, 680, 681, 682, 683, 684, 685, 686, 687, 688, 689, 690, 691, 692, 693, 694, 695, 696, 697, 698, 647, 648, 649, 650] (by decide +kernel) (by decide +kernel)
set_option maxRecDepth 20000 in
theorem gpX7_foretold_r4 : GoodIn wsL_law wsX7_foretold_r4 := goodIn_r _ [727, 728, 729, 730, 735, 736, 737, 738, 866, 867, 868, 869, 870, 871, 872, 873, 484, 485, 486, 874, 875, 876, 939, 940] (by decide +kernel) (by decide +kernel)
set_option maxRecDepth 20000 in
theorem gpX7_foretold_r5 : GoodIn wsL_law wsX7_foretold_r5 := goodIn_r _ [941, 942, 857, 858, 859, 860, 861, 826, 157, 827, 612, 613, 614, 615, 604, 605, 606, 607, 596, 597, 598, 599] (by decide +kernel) (by decide +kernel)
set_option maxRecDepth 20000 in
theorem ggL_law_X7_foretold : GoodIn wsL_law wsX7_foretold := goodIn_co gpX7_foretold_h (goodIn_app (goodIn_app gpX7_foretold_r1 (goodIn_app gpX7_foretold_r2 (goodIn_app gpX7_foretold_r3 (goodIn_app gpX7_foretold_r4 gpX7_foretold_r5)))) gpX70)
set_option maxRecDepth 20000 in
theorem gL_law_X7_foretold : GoodIn wsL_law (wsV RL 125 RX7 yX7_foretold wsX7_foretold) := goodIn_app (goodIn_of _ (by decide +kernel)) ggL_law_X7_foretold
set_option maxRecDepth 20000 in
theorem gpX6_emptyIn_h : GoodIn wsL_law [Cond.code yX6_emptyIn cX6_emptyIn 3 (some .int)] := goodIn_r _ [946] (by decide +kernel) (by decide +kernel)
set_option maxRecDepth 20000 in
theorem gpX6_emptyIn_r1 : GoodIn wsL_law wsX6_emptyIn_r1 := goodIn_r _ [21, 228, 20, 947, 30, 25, 901, 431, 432, 57, 433, 85, 86, 87, 88, 434, 422, 423, 424, 89, 948, 949, 950, 951] (by decide +kernel) (by decide +kernel)
