set_option maxRecDepth 20000 in
theorem gpX6_emptyIn_r2 : GoodIn wsL_law wsX6_emptyIn_r2 := goodIn_r _ [952, 577, 578, 579, 580, 581, 582, 583, 902, 903, 904, 905, 906, 907, 908, 909, 910, 241, 157, 242, 380, 381, 382, 383] (by decide +kernel) (by decide +kernel)
set_option maxRecDepth 20000 in
theorem gpX6_emptyIn_r3 : GoodIn wsL_law wsX6_emptyIn_r3 := goodIn_r _ [911, 829, 830, 24, 831, 97, 832, 94, 95, 96, 833, 834, 835, 74, 836, 80, 79, 81, 837, 838, 839, 840, 841, 842] (by decide +kernel) (by decide +kernel)
set_option maxRecDepth 20000 in
theorem gpX6_emptyIn_r4 : GoodIn wsL_law wsX6_emptyIn_r4 := goodIn_r _ [2, 843, 844, 845, 846, 847, 848, 849, 167, 168, 850, 851, 852, 384, 385, 386, 387, 912, 913, 914, 915, 916, 917, 918] (by decide +kernel) (by decide +kernel)
set_option maxRecDepth 20000 in
theorem gpX6_emptyIn_r5 : GoodIn wsL_law wsX6_emptyIn_r5 := goodIn_r _ [822, 823, 53, 824, 63, 71, 825, 826, 827, 66, 919, 920, 921, 922] (by decide +kernel) (by decide +kernel)
set_option maxRecDepth 20000 in
theorem ggL_law_X6_emptyIn : GoodIn wsL_law wsX6_emptyIn := goodIn_co gpX6_emptyIn_h (goodIn_app (goodIn_app (goodIn_app (goodIn_app (goodIn_app (goodIn_app (goodIn_app gpX6_emptyIn_r1 (goodIn_app gpX6_emptyIn_r2 (goodIn_app gpX6_emptyIn_r3 (goodIn_app gpX6_emptyIn_r4 gpX6_emptyIn_r5)))) gpX60) gpX40) gpX10) gpX50) gpX00) gpX20)
set_option maxRecDepth 20000 in
theorem gL_law_X6_emptyIn : GoodIn wsL_law (wsV RL 126 RX6 yX6_emptyIn wsX6_emptyIn) := goodIn_app (goodIn_of _ (by decide +kernel)) ggL_law_X6_emptyIn
set_option maxRecDepth 20000 in
theorem gpX7_emptyIn_h : GoodIn wsL_law [Cond.code yX7_emptyIn cX7_emptyIn 2 (some .int)] := goodIn_r _ [956] (by decide +kernel) (by decide +kernel)
set_option maxRecDepth 20000 in
theorem gpX7_emptyIn_r1 : GoodIn wsL_law wsX7_emptyIn_r1 := goodIn_r _ [213, 186, 188, 546, 547, 5, 548, 596, 597, 598, 599, 600, 601, 602, 603, 927, 928, 929, 930, 931, 932, 933, 934, 935] (by decide +kernel) (by decide +kernel)
set_option maxRecDepth 20000 in
theorem gpX7_emptyIn_r2 : GoodIn wsL_law wsX7_emptyIn_r2 := goodIn_r _ [936, 937, 938, 862, 863, 864, 865, 192, 191, 767, 768, 769, 770, 675, 676, 677, 678, 731, 732, 733, 734, 679, 680, 681] (by decide +kernel) (by decide +kernel)
set_option maxRecDepth 20000 in
theorem gpX7_emptyIn_r3 : GoodIn wsL_law wsX7_emptyIn_r3 := goodIn_r _ [682, 683, 684, 685, 686, 687, 688, 689, 690, 691, 692, 693, 694, 695, 696, 697, 698, 647, 648, 649, 650, 727, 728, 729] (by decide +kernel) (by decide +kernel)
set_option maxRecDepth 20000 in
theorem gpX7_emptyIn_r4 : GoodIn wsL_law wsX7_emptyIn_r4 := goodIn_r _ [730, 735, 736, 737, 738, 866, 867, 868, 869, 870, 871, 872, 873, 484, 485, 486, 874, 875, 876, 939, 940, 941, 942, 857] (by decide +kernel) (by decide +kernel)
set_option maxRecDepth 20000 in
theorem gpX7_emptyIn_r5 : GoodIn wsL_law wsX7_emptyIn_r5 := goodIn_r _ [858, 859, 860, 861, 826, 157, 827, 612, 613, 614, 615] (by decide +kernel) (by decide +kernel)
set_option maxRecDepth 20000 in
theorem ggL_law_X7_emptyIn : GoodIn wsL_law wsX7_emptyIn := goodIn_co gpX7_emptyIn_h (goodIn_app (goodIn_app gpX7_emptyIn_r1 (goodIn_app gpX7_emptyIn_r2 (goodIn_app gpX7_emptyIn_r3 (goodIn_app gpX7_emptyIn_r4 gpX7_emptyIn_r5)))) gpX70)
set_option maxRecDepth 20000 in
theorem gL_law_X7_emptyIn : GoodIn wsL_law (wsV RL 129 RX7 yX7_emptyIn wsX7_emptyIn) := goodIn_app (goodIn_of _ (by decide +kernel)) ggL_law_X7_emptyIn
set_option maxRecDepth 20000 in
theorem ggL_law_X6_meanPaid : GoodIn wsL_law wsX6_meanPaid := goodIn_r _ [960, 20, 228, 576, 577, 578, 57, 579, 85, 580, 581, 582, 583, 89, 584, 585, 586, 587, 1036, 1037, 1038, 1039, 1040, 1041, 1042, 1043, 1075, 1076, 1092, 1093, 1094, 1095, 1096] (by decide +kernel) (by decide +kernel)
set_option maxRecDepth 20000 in
theorem gL_law_X6_meanPaid : GoodIn wsL_law (wsV RL 130 RX6 yX6_meanPaid wsX6_meanPaid) := goodIn_app (goodIn_of _ (by decide +kernel)) ggL_law_X6_meanPaid
set_option maxRecDepth 20000 in
theorem ggL_law_X7_meanPaid : GoodIn wsL_law wsX7_meanPaid := goodIn_r _ [964, 213, 596, 597, 598, 5, 599, 186, 600, 601, 602, 603, 604, 605, 606, 607, 1044, 1045, 1046, 1047, 1048, 1049, 1050, 1051, 1052, 1053, 1054, 1055, 1056, 1057, 1058, 1059, 1060, 1061, 1062] (by decide +kernel) (by decide +kernel)
set_option maxRecDepth 20000 in
theorem gL_law_X7_meanPaid : GoodIn wsL_law (wsV RL 134 RX7 yX7_meanPaid wsX7_meanPaid) := goodIn_app (goodIn_of _ (by decide +kernel)) ggL_law_X7_meanPaid
set_option maxRecDepth 20000 in
theorem gpL_pass_h : GoodIn wsL_law [Cond.codeWith yL_pass cL_pass 4 (some .int) [(0, 9, 12, 13)]] := goodIn_r _ [967] (by decide +kernel) (by decide +kernel)
set_option maxRecDepth 20000 in
theorem gpL_pass_r1 : GoodIn wsL_law wsL_pass_r1 := goodIn_r _ [219, 968, 969, 970, 2, 971, 20, 228, 30, 25, 760, 761, 762, 224, 225, 408, 409, 410, 411, 27, 28, 29, 412, 241] (by decide +kernel) (by decide +kernel)
set_option maxRecDepth 20000 in
theorem gpL_pass_r2 : GoodIn wsL_law wsL_pass_r2 := goodIn_r _ [157, 242, 413, 414, 415, 19, 416, 54, 58, 417, 418, 419, 53, 420, 62, 63, 64, 65, 66, 68, 421, 422, 423, 424] (by decide +kernel) (by decide +kernel)
set_option maxRecDepth 20000 in
theorem gpL_pass_r3 : GoodIn wsL_law wsL_pass_r3 := goodIn_r _ [69, 70, 71, 75, 425, 426, 427, 74, 428, 80, 79, 429, 430, 431, 432, 57, 433, 85, 86, 87, 88, 434, 89, 584] (by decide +kernel) (by decide +kernel)
set_option maxRecDepth 20000 in
theorem gpL_pass_r4 : GoodIn wsL_law wsL_pass_r4 := goodIn_r _ [585, 586, 587, 580, 581, 582, 583, 902, 903, 904, 905, 906, 907, 908, 909, 910, 380, 381, 382, 383, 911, 829, 830, 24] (by decide +kernel) (by decide +kernel)
set_option maxRecDepth 20000 in
theorem gpL_pass_r5 : GoodIn wsL_law wsL_pass_r5 := goodIn_r _ [831, 97, 832, 94, 95, 96, 833, 834, 835, 836, 81, 837, 838, 839, 840, 841, 842, 843, 844, 845, 846, 847, 848, 849] (by decide +kernel) (by decide +kernel)
