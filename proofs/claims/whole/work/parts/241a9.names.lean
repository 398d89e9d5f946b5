set_option maxRecDepth 20000 in
theorem ggL_law_X7_undo : GoodIn wsL_law wsX7_undo := goodIn_r _ [1021, 213, 545, 190, 186, 546, 547, 5, 548, 1044, 1045, 1046, 1047, 1048, 1049, 1050, 1051, 1052, 1053, 1054, 1055, 1056, 1057, 1058, 1059, 1060, 1061, 1062] (by decide +kernel) (by decide +kernel)
set_option maxRecDepth 20000 in
theorem gL_law_X7_undo : GoodIn wsL_law (wsV RL 150 RX7 yX7_undo wsX7_undo) := goodIn_app (goodIn_of _ (by decide +kernel)) ggL_law_X7_undo
set_option maxRecDepth 20000 in
theorem gpX6_checksum_h : GoodIn wsL_law [Cond.code yX6_checksum cX6_checksum 5 (some .long)] := goodIn_r _ [1025] (by decide +kernel) (by decide +kernel)
set_option maxRecDepth 20000 in
theorem gpX6_checksum_r1 : GoodIn wsL_law wsX6_checksum_r1 := goodIn_r _ [1026, 20, 30, 571, 572, 228, 229, 1027, 566, 567, 2, 568, 224, 225, 569, 570, 573, 574, 575, 576, 577, 578, 57, 579] (by decide +kernel) (by decide +kernel)
set_option maxRecDepth 20000 in
theorem gpX6_checksum_r2 : GoodIn wsL_law wsX6_checksum_r2 := goodIn_r _ [85, 580, 581, 582, 583, 89, 584, 585, 586, 587, 1028, 655, 656, 657, 658, 25, 624, 625, 626, 627, 628, 629, 659, 660] (by decide +kernel) (by decide +kernel)
set_option maxRecDepth 20000 in
theorem gpX6_checksum_r3 : GoodIn wsL_law wsX6_checksum_r3 := goodIn_r _ [661, 53, 662, 63, 62, 169, 170, 171, 172, 69, 68, 663, 664, 665, 24, 666, 143, 149, 150, 93, 173, 174, 175, 1029] (by decide +kernel) (by decide +kernel)
set_option maxRecDepth 20000 in
theorem gpX6_checksum_r4 : GoodIn wsL_law wsX6_checksum_r4 := goodIn_r _ [703, 704, 705, 706, 707, 708, 709, 710, 711, 712, 713, 714, 1030, 794, 795, 796, 797, 798, 799, 800, 760, 761, 762, 801] (by decide +kernel) (by decide +kernel)
set_option maxRecDepth 20000 in
theorem ggL_law_X6_checksum : GoodIn wsL_law wsX6_checksum := goodIn_ca (goodIn_ca (goodIn_co gpX6_checksum_h (goodIn_app (goodIn_app (goodIn_app (goodIn_app (goodIn_app (goodIn_app gpX6_checksum_r1 (goodIn_app gpX6_checksum_r2 (goodIn_app gpX6_checksum_r3 gpX6_checksum_r4))) gpX60) gpX40) gpX00) gpX10) gpX50)) (goodIn_sub (fun _ h => List.mem_append_left _ (List.mem_append_left _ (List.mem_append_right _ h))) (by decide +kernel))) (goodIn_sub (fun _ h => List.mem_append_left _ (List.mem_append_right _ h)) (by decide +kernel))
set_option maxRecDepth 20000 in
theorem gL_law_X6_checksum : GoodIn wsL_law (wsV RL 151 RX6 yX6_checksum wsX6_checksum) := goodIn_app (goodIn_of _ (by decide +kernel)) ggL_law_X6_checksum
set_option maxRecDepth 20000 in
theorem gpX7_checksum_h : GoodIn wsL_law [Cond.code yX7_checksum cX7_checksum 5 (some .long)] := goodIn_r _ [1034] (by decide +kernel) (by decide +kernel)
set_option maxRecDepth 20000 in
theorem gpX7_checksum_r1 : GoodIn wsL_law wsX7_checksum_r1 := goodIn_r _ [213, 1035, 186, 592, 593, 594, 5, 595, 596, 597, 598, 599, 600, 601, 602, 603, 604, 605, 606, 607, 608, 609, 610, 611] (by decide +kernel) (by decide +kernel)
set_option maxRecDepth 20000 in
theorem gpX7_checksum_r2 : GoodIn wsL_law wsX7_checksum_r2 := goodIn_r _ [612, 613, 614, 615, 671, 672, 673, 674, 675, 676, 677, 678, 647, 648, 649, 650, 679, 680, 681, 682, 683, 684, 685, 686] (by decide +kernel) (by decide +kernel)
set_option maxRecDepth 20000 in
theorem gpX7_checksum_r3 : GoodIn wsL_law wsX7_checksum_r3 := goodIn_r _ [687, 688, 689, 690, 691, 692, 693, 694, 695, 696, 697, 698, 723, 724, 725, 726, 727, 728, 729, 730, 731, 732, 733, 734] (by decide +kernel) (by decide +kernel)
set_option maxRecDepth 20000 in
theorem gpX7_checksum_r4 : GoodIn wsL_law wsX7_checksum_r4 := goodIn_r _ [735, 736, 737, 738, 810, 811, 812, 813] (by decide +kernel) (by decide +kernel)
set_option maxRecDepth 20000 in
theorem ggL_law_X7_checksum : GoodIn wsL_law wsX7_checksum := goodIn_co gpX7_checksum_h (goodIn_app (goodIn_app gpX7_checksum_r1 (goodIn_app gpX7_checksum_r2 (goodIn_app gpX7_checksum_r3 gpX7_checksum_r4))) gpX70)
set_option maxRecDepth 20000 in
theorem gL_law_X7_checksum : GoodIn wsL_law (wsV RL 155 RX7 yX7_checksum wsX7_checksum) := goodIn_app (goodIn_of _ (by decide +kernel)) ggL_law_X7_checksum
