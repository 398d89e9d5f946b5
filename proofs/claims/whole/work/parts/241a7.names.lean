set_option maxRecDepth 20000 in
theorem gpL_pass_r6 : GoodIn wsL_law wsL_pass_r6 := goodIn_r _ [167, 168, 850, 851, 852, 384, 385, 386, 387, 912, 913, 914, 915, 916, 917, 918, 822, 823, 824, 825, 826, 827, 919, 920] (by decide +kernel) (by decide +kernel)
set_option maxRecDepth 20000 in
theorem gpL_pass_r7 : GoodIn wsL_law wsL_pass_r7 := goodIn_r _ [921, 922] (by decide +kernel) (by decide +kernel)
set_option maxRecDepth 20000 in
theorem ggL_law_L_pass : GoodIn wsL_law wsL_pass := goodIn_ca (goodIn_co gpL_pass_h (goodIn_app (goodIn_app (goodIn_app (goodIn_app (goodIn_app (goodIn_app (goodIn_app gpL_pass_r1 (goodIn_app gpL_pass_r2 (goodIn_app gpL_pass_r3 (goodIn_app gpL_pass_r4 (goodIn_app gpL_pass_r5 (goodIn_app gpL_pass_r6 gpL_pass_r7)))))) gpX60) gpX40) gpX00) gpX20) gpX10) gpX50)) (goodIn_sub (fun _ h => List.mem_append_left _ (List.mem_append_left _ (List.mem_append_right _ h))) (by decide +kernel))
set_option maxRecDepth 20000 in
theorem gL_law_L_pass : GoodIn wsL_law (va_wsS RL 135 yL_pass wsL_pass) := goodIn_app (goodIn_of _ (by decide +kernel)) ggL_law_L_pass
set_option maxRecDepth 20000 in
theorem gpX7_pass_h : GoodIn wsL_law [Cond.code yX7_pass cX7_pass 4 (some .int)] := goodIn_r _ [975] (by decide +kernel) (by decide +kernel)
set_option maxRecDepth 20000 in
theorem gpX7_pass_r1 : GoodIn wsL_law wsX7_pass_r1 := goodIn_r _ [213, 446, 447, 5, 448, 449, 450, 451, 452, 541, 542, 543, 544, 545, 190, 186, 546, 547, 548, 604, 605, 606, 607, 600] (by decide +kernel) (by decide +kernel)
set_option maxRecDepth 20000 in
theorem gpX7_pass_r2 : GoodIn wsL_law wsX7_pass_r2 := goodIn_r _ [601, 602, 603, 927, 928, 929, 930, 931, 932, 933, 934, 935, 936, 937, 938, 862, 863, 864, 865, 192, 191, 767, 768, 769] (by decide +kernel) (by decide +kernel)
set_option maxRecDepth 20000 in
theorem gpX7_pass_r3 : GoodIn wsL_law wsX7_pass_r3 := goodIn_r _ [770, 675, 676, 677, 678, 731, 732, 733, 734, 679, 680, 681, 682, 683, 684, 685, 686, 687, 688, 689, 690, 691, 692, 693] (by decide +kernel) (by decide +kernel)
set_option maxRecDepth 20000 in
theorem gpX7_pass_r4 : GoodIn wsL_law wsX7_pass_r4 := goodIn_r _ [694, 695, 696, 697, 698, 647, 648, 649, 650, 727, 728, 729, 730, 735, 736, 737, 738, 866, 867, 868, 869, 870, 871, 872] (by decide +kernel) (by decide +kernel)
set_option maxRecDepth 20000 in
theorem gpX7_pass_r5 : GoodIn wsL_law wsX7_pass_r5 := goodIn_r _ [873, 484, 485, 486, 874, 875, 876, 939, 940, 941, 942, 857, 858, 859, 860, 861, 826, 157, 827, 612, 613, 614, 615] (by decide +kernel) (by decide +kernel)
set_option maxRecDepth 20000 in
theorem ggL_law_X7_pass : GoodIn wsL_law wsX7_pass := goodIn_co gpX7_pass_h (goodIn_app (goodIn_app gpX7_pass_r1 (goodIn_app gpX7_pass_r2 (goodIn_app gpX7_pass_r3 (goodIn_app gpX7_pass_r4 gpX7_pass_r5)))) gpX70)
set_option maxRecDepth 20000 in
theorem gL_law_X7_pass : GoodIn wsL_law (wsV RL 137 RX7 yX7_pass wsX7_pass) := goodIn_app (goodIn_of _ (by decide +kernel)) ggL_law_X7_pass
set_option maxRecDepth 20000 in
theorem gpL_pull_h : GoodIn wsL_law [Cond.codeWith yL_pull cL_pull 5 (some .int) [(0, 10, 13, 22), (0, 10, 17, 13), (0, 10, 21, 59)]] := goodIn_r _ [978] (by decide +kernel) (by decide +kernel)
set_option maxRecDepth 20000 in
theorem gpL_pull_r1 : GoodIn wsL_law wsL_pull_r1 := goodIn_r _ [619, 219, 979, 980, 981, 982, 2, 983, 984, 985, 20, 30, 570, 658, 25, 624, 625, 626, 627, 628, 629, 571, 760, 761] (by decide +kernel) (by decide +kernel)
set_option maxRecDepth 20000 in
theorem gpL_pull_r2 : GoodIn wsL_law wsL_pull_r2 := goodIn_r _ [762, 224, 225, 884, 343, 344, 53, 345, 64, 408, 409, 410, 411, 27, 28, 29, 412, 241, 157, 242, 413, 414, 415, 19] (by decide +kernel) (by decide +kernel)
set_option maxRecDepth 20000 in
theorem gpL_pull_r3 : GoodIn wsL_law wsL_pull_r3 := goodIn_r _ [416, 54, 58, 417, 418, 419, 420, 62, 63, 65, 66, 68, 421, 422, 423, 424, 69, 70, 71, 75, 425, 426, 427, 74] (by decide +kernel) (by decide +kernel)
set_option maxRecDepth 20000 in
theorem gpL_pull_r4 : GoodIn wsL_law wsL_pull_r4 := goodIn_r _ [428, 80, 79, 429, 430, 431, 432, 57, 433, 85, 86, 87, 88, 434, 89, 139, 140, 141, 24, 142, 94, 97, 143, 95] (by decide +kernel) (by decide +kernel)
set_option maxRecDepth 20000 in
theorem gpL_pull_r5 : GoodIn wsL_law wsL_pull_r5 := goodIn_r _ [144, 107, 108, 109, 145, 146, 147, 148, 149, 150, 93, 96, 151, 152, 153, 154, 155, 156, 158, 159, 160, 161, 162, 163] (by decide +kernel) (by decide +kernel)
set_option maxRecDepth 20000 in
theorem gpL_pull_r6 : GoodIn wsL_law wsL_pull_r6 := goodIn_r _ [164, 165, 166, 167, 168, 169, 170, 171, 172, 173, 174, 175, 176, 177, 178, 179] (by decide +kernel) (by decide +kernel)
set_option maxRecDepth 20000 in
theorem ggL_law_L_pull : GoodIn wsL_law wsL_pull := goodIn_ca (goodIn_ca (goodIn_ca (goodIn_co gpL_pull_h (goodIn_app (goodIn_app (goodIn_app (goodIn_app (goodIn_app (goodIn_app (goodIn_app gpL_pull_r1 (goodIn_app gpL_pull_r2 (goodIn_app gpL_pull_r3 (goodIn_app gpL_pull_r4 (goodIn_app gpL_pull_r5 gpL_pull_r6))))) gpX60) gpX40) gpX00) gpX20) gpX10) gpX50)) (goodIn_sub (fun _ h => List.mem_append_right _ h) (by decide +kernel))) (goodIn_sub (fun _ h => List.mem_append_left _ (List.mem_append_right _ h)) (by decide +kernel))) (goodIn_sub (fun _ h => List.mem_append_left _ (List.mem_append_left _ (List.mem_append_right _ h))) (by decide +kernel))
set_option maxRecDepth 20000 in
theorem gL_law_L_pull : GoodIn wsL_law (va_wsS RL 138 yL_pull wsL_pull) := goodIn_app (goodIn_of _ (by decide +kernel)) ggL_law_L_pull
set_option maxRecDepth 20000 in
theorem ggL_law_X7_pull : GoodIn wsL_law wsX7_pull := goodIn_r _ [989, 213, 186, 639, 640, 641, 5, 642, 446, 447, 448, 449, 450, 451, 452, 541, 542, 543, 544, 545, 190, 546, 547, 548, 1044, 1045, 1046, 1047, 1048, 1049, 1050, 1051, 1052, 1053, 1054, 1055, 1056, 1057, 1058, 1059, 1060, 1061, 1062] (by decide +kernel) (by decide +kernel)
set_option maxRecDepth 20000 in
theorem gL_law_X7_pull : GoodIn wsL_law (wsV RL 140 RX7 yX7_pull wsX7_pull) := goodIn_app (goodIn_of _ (by decide +kernel)) ggL_law_X7_pull
set_option maxRecDepth 20000 in
theorem gpL_come_h : GoodIn wsL_law [Cond.codeWith yL_come cL_come 6 (some .int) [(0, 12, 15, 13), (0, 12, 19, 59)]] := goodIn_r _ [992] (by decide +kernel) (by decide +kernel)
