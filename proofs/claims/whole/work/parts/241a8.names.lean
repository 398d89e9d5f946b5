set_option maxRecDepth 20000 in
theorem gpL_come_r1 : GoodIn wsL_law wsL_come_r1 := goodIn_r _ [219, 979, 993, 994, 995, 2, 996, 984, 985, 20, 228, 229, 760, 761, 762, 224, 225, 997, 368, 369, 57, 370, 85, 408] (by decide +kernel) (by decide +kernel)
set_option maxRecDepth 20000 in
theorem gpL_come_r2 : GoodIn wsL_law wsL_come_r2 := goodIn_r _ [409, 410, 411, 27, 28, 29, 412, 241, 157, 242, 413, 414, 415, 19, 416, 54, 58, 417, 418, 419, 53, 420, 62, 63] (by decide +kernel) (by decide +kernel)
set_option maxRecDepth 20000 in
theorem gpL_come_r3 : GoodIn wsL_law wsL_come_r3 := goodIn_r _ [64, 65, 66, 68, 421, 422, 423, 424, 69, 70, 71, 75, 425, 426, 427, 74, 428, 80, 79, 429, 430, 431, 432, 433] (by decide +kernel) (by decide +kernel)
set_option maxRecDepth 20000 in
theorem gpL_come_r4 : GoodIn wsL_law wsL_come_r4 := goodIn_r _ [86, 87, 88, 434, 89, 998, 376, 377, 378, 379, 380, 381, 382, 383, 384, 385, 386, 387] (by decide +kernel) (by decide +kernel)
set_option maxRecDepth 20000 in
theorem ggL_law_L_come : GoodIn wsL_law wsL_come := goodIn_ca (goodIn_ca (goodIn_co gpL_come_h (goodIn_app (goodIn_app (goodIn_app (goodIn_app (goodIn_app (goodIn_app gpL_come_r1 (goodIn_app gpL_come_r2 (goodIn_app gpL_come_r3 gpL_come_r4))) gpX60) gpX40) gpX10) gpX00) gpX20)) (goodIn_sub (fun _ h => List.mem_append_right _ h) (by decide +kernel))) (goodIn_sub (fun _ h => List.mem_append_left _ (List.mem_append_left _ (List.mem_append_right _ h))) (by decide +kernel))
set_option maxRecDepth 20000 in
theorem gL_law_L_come : GoodIn wsL_law (va_wsS RL 141 yL_come wsL_come) := goodIn_app (goodIn_of _ (by decide +kernel)) ggL_law_L_come
set_option maxRecDepth 20000 in
theorem ggL_law_X7_come : GoodIn wsL_law wsX7_come := goodIn_r _ [1002, 213, 186, 446, 447, 5, 448, 449, 450, 451, 452, 541, 542, 543, 544, 545, 190, 546, 547, 548, 522, 523, 524, 1044, 1045, 1046, 1047, 1048, 1049, 1050, 1051, 1052, 1053, 1054, 1055, 1056, 1057, 1058, 1059, 1060, 1061, 1062] (by decide +kernel) (by decide +kernel)
set_option maxRecDepth 20000 in
theorem gL_law_X7_come : GoodIn wsL_law (wsV RL 143 RX7 yX7_come wsX7_come) := goodIn_app (goodIn_of _ (by decide +kernel)) ggL_law_X7_come
set_option maxRecDepth 20000 in
theorem gpL_length_h : GoodIn wsL_law [Cond.codeWith yL_length cL_length 4 (some .int) [(0, 9, 12, 13)]] := goodIn_r _ [1005] (by decide +kernel) (by decide +kernel)
set_option maxRecDepth 20000 in
theorem gpL_length_r1 : GoodIn wsL_law wsL_length_r1 := goodIn_r _ [219, 1006, 1007, 1008, 2, 1009, 20, 228, 574, 760, 761, 762, 224, 225, 408, 409, 410, 411, 27, 28, 29, 412, 241, 157] (by decide +kernel) (by decide +kernel)
set_option maxRecDepth 20000 in
theorem gpL_length_r2 : GoodIn wsL_law wsL_length_r2 := goodIn_r _ [242, 413, 414, 415, 19, 416, 54, 58, 417, 418, 419, 53, 420, 62, 63, 64, 65, 66, 68, 421, 422, 423, 424, 69] (by decide +kernel) (by decide +kernel)
set_option maxRecDepth 20000 in
theorem gpL_length_r3 : GoodIn wsL_law wsL_length_r3 := goodIn_r _ [70, 71, 75, 425, 426, 427, 74, 428, 80, 79, 429, 430, 431, 432, 57, 433, 85, 86, 87, 88, 434, 89] (by decide +kernel) (by decide +kernel)
set_option maxRecDepth 20000 in
theorem ggL_law_L_length : GoodIn wsL_law wsL_length := goodIn_ca (goodIn_co gpL_length_h (goodIn_app (goodIn_app (goodIn_app (goodIn_app (goodIn_app (goodIn_app gpL_length_r1 (goodIn_app gpL_length_r2 gpL_length_r3)) gpX60) gpX40) gpX10) gpX00) gpX20)) (goodIn_sub (fun _ h => List.mem_append_left _ (List.mem_append_left _ (List.mem_append_right _ h))) (by decide +kernel))
set_option maxRecDepth 20000 in
theorem gL_law_L_length : GoodIn wsL_law (va_wsS RL 144 yL_length wsL_length) := goodIn_app (goodIn_of _ (by decide +kernel)) ggL_law_L_length
set_option maxRecDepth 20000 in
theorem ggL_law_X7_length : GoodIn wsL_law wsX7_length := goodIn_r _ [1013, 213, 186, 446, 447, 5, 448, 449, 450, 451, 452, 541, 542, 543, 544, 545, 190, 546, 547, 548, 1044, 1045, 1046, 1047, 1048, 1049, 1050, 1051, 1052, 1053, 1054, 1055, 1056, 1057, 1058, 1059, 1060, 1061, 1062] (by decide +kernel) (by decide +kernel)
set_option maxRecDepth 20000 in
theorem gL_law_X7_length : GoodIn wsL_law (wsV RL 146 RX7 yX7_length wsX7_length) := goodIn_app (goodIn_of _ (by decide +kernel)) ggL_law_X7_length
set_option maxRecDepth 20000 in
theorem gpX6_undo_h : GoodIn wsL_law [Cond.code yX6_undo cX6_undo 1 (some .int)] := goodIn_r _ [1017] (by decide +kernel) (by decide +kernel)
set_option maxRecDepth 20000 in
theorem gpX6_undo_r1 : GoodIn wsL_law wsX6_undo_r1 := goodIn_r _ [29, 28, 20, 27, 25, 30, 413, 414, 415, 19, 416, 54, 58, 417, 418, 419, 53, 420, 62, 63, 64, 65, 66, 68] (by decide +kernel) (by decide +kernel)
set_option maxRecDepth 20000 in
theorem gpX6_undo_r2 : GoodIn wsL_law wsX6_undo_r2 := goodIn_r _ [421, 422, 423, 424, 69, 70, 71, 75, 425, 426, 427, 74, 428, 80, 79, 429, 430, 431, 432, 57, 433, 85, 86, 87] (by decide +kernel) (by decide +kernel)
set_option maxRecDepth 20000 in
theorem gpX6_undo_r3 : GoodIn wsL_law wsX6_undo_r3 := goodIn_r _ [88, 434, 89, 139, 140, 141, 24, 142, 94, 97, 143, 95, 144, 107, 108, 109, 145, 146, 147, 148, 149, 150, 93, 96] (by decide +kernel) (by decide +kernel)
set_option maxRecDepth 20000 in
theorem gpX6_undo_r4 : GoodIn wsL_law wsX6_undo_r4 := goodIn_r _ [151, 152, 153, 154, 155, 156, 157, 158, 159, 160, 161, 162, 163, 164, 165, 166, 167, 2, 168, 169, 170, 171, 172, 173] (by decide +kernel) (by decide +kernel)
set_option maxRecDepth 20000 in
theorem gpX6_undo_r5 : GoodIn wsL_law wsX6_undo_r5 := goodIn_r _ [174, 175, 176, 177, 178, 179] (by decide +kernel) (by decide +kernel)
set_option maxRecDepth 20000 in
theorem ggL_law_X6_undo : GoodIn wsL_law wsX6_undo := goodIn_co gpX6_undo_h (goodIn_app (goodIn_app (goodIn_app (goodIn_app (goodIn_app (goodIn_app (goodIn_app gpX6_undo_r1 (goodIn_app gpX6_undo_r2 (goodIn_app gpX6_undo_r3 (goodIn_app gpX6_undo_r4 gpX6_undo_r5)))) gpX60) gpX40) gpX00) gpX20) gpX10) gpX50)
set_option maxRecDepth 20000 in
theorem gL_law_X6_undo : GoodIn wsL_law (wsV RL 147 RX6 yX6_undo wsX6_undo) := goodIn_app (goodIn_of _ (by decide +kernel)) ggL_law_X6_undo
