theorem dX6_bestPull_93 : decode cX6_bestPull 93 = .ok (.invokevirtual 61, 3) := by decide +kernel
theorem dX6_bestPull_96 : decode cX6_bestPull 96 = .ok (.aload_n 0, 1) := by decide +kernel
theorem dX6_bestPull_97 : decode cX6_bestPull 97 = .ok (.getfield 33, 3) := by decide +kernel
theorem dX6_bestPull_100 : decode cX6_bestPull 100 = .ok (.aload_n 0, 1) := by decide +kernel
theorem dX6_bestPull_101 : decode cX6_bestPull 101 = .ok (.getfield 23, 3) := by decide +kernel
theorem dX6_bestPull_104 : decode cX6_bestPull 104 = .ok (.getfield 51, 3) := by decide +kernel
theorem dX6_bestPull_107 : decode cX6_bestPull 107 = .ok (.iload_n 2, 1) := by decide +kernel
theorem dX6_bestPull_108 : decode cX6_bestPull 108 = .ok (.invokevirtual 221, 3) := by decide +kernel
theorem dX6_bestPull_111 : decode cX6_bestPull 111 = .ok (.istore 6, 2) := by decide +kernel
theorem dX6_bestPull_113 : decode cX6_bestPull 113 = .ok (.iload 6, 2) := by decide +kernel
theorem dX6_bestPull_115 : decode cX6_bestPull 115 = .ok (.iload 4, 2) := by decide +kernel
theorem dX6_bestPull_117 : decode cX6_bestPull 117 = .ok (.if_icmp .le 10, 3) := by decide +kernel
theorem dX6_bestPull_120 : decode cX6_bestPull 120 = .ok (.iload 6, 2) := by decide +kernel
theorem dX6_bestPull_122 : decode cX6_bestPull 122 = .ok (.istore 4, 2) := by decide +kernel
theorem dX6_bestPull_124 : decode cX6_bestPull 124 = .ok (.iload 5, 2) := by decide +kernel
theorem dX6_bestPull_126 : decode cX6_bestPull 126 = .ok (.istore_n 3, 1) := by decide +kernel
theorem dX6_bestPull_127 : decode cX6_bestPull 127 = .ok (.iinc 5 1, 3) := by decide +kernel
theorem dX6_bestPull_130 : decode cX6_bestPull 130 = .ok (.goto (-77), 3) := by decide +kernel
theorem dX6_bestPull_133 : decode cX6_bestPull 133 = .ok (.iload_n 3, 1) := by decide +kernel
theorem dX6_bestPull_134 : decode cX6_bestPull 134 = .ok (.ireturn, 1) := by decide +kernel
set_option maxRecDepth 20000 in
theorem ggX6_foretold_X6_requireRange : GoodIn wsX6_foretold wsX6_requireRange := goodIn_ca (goodIn_r _ [9, 10, 11] (by decide +kernel) (by decide +kernel)) (goodIn_sub (fun _ h => List.mem_cons_of_mem _ (List.mem_append_right _ h)) (by decide +kernel))
set_option maxRecDepth 20000 in
theorem gX6_foretold_X6_requireRange : GoodIn wsX6_foretold (va_wsS RX6 191 yX6_requireRange wsX6_requireRange) := goodIn_app (goodIn_of _ (by decide +kernel)) ggX6_foretold_X6_requireRange
set_option maxRecDepth 20000 in
theorem ggX6_foretold_X1_copyFrom : GoodIn wsX6_foretold wsX1_copyFrom := goodIn_r _ [16, 17, 18, 19, 20, 21, 22, 23, 24, 25, 125, 126, 127, 128, 129] (by decide +kernel) (by decide +kernel)
set_option maxRecDepth 20000 in
theorem gX6_foretold_X1_copyFrom : GoodIn wsX6_foretold (wsV RX6 224 RX1 yX1_copyFrom wsX1_copyFrom) := goodIn_app (goodIn_of _ (by decide +kernel)) ggX6_foretold_X1_copyFrom
set_option maxRecDepth 20000 in
theorem ggX6_foretold_X1_tick : GoodIn wsX6_foretold wsX1_tick := goodIn_r _ [29, 17, 19, 30, 31, 32, 15, 33, 25, 34, 35, 36, 37, 38, 39, 40, 41, 20, 42, 43, 44, 45, 46, 47, 48, 49, 50, 51, 52, 53, 54, 55, 56, 57, 58, 59, 60, 61, 62, 63, 64, 65, 66, 67, 68, 69, 8, 70, 71, 72, 73, 74, 75, 76, 77, 78, 79, 80, 81, 82, 83, 84, 85, 86, 87, 88, 89, 90, 91, 92, 93, 94, 95, 96, 97, 98, 99, 100, 101, 102, 103, 104, 105, 106, 18, 125, 126, 127, 128, 129, 130, 131, 132, 133, 134, 135, 136, 137, 138, 139, 140, 141, 142, 143, 144, 145, 146, 147] (by decide +kernel) (by decide +kernel)
set_option maxRecDepth 20000 in
theorem gX6_foretold_X1_tick : GoodIn wsX6_foretold (wsV RX6 227 RX1 yX1_tick wsX1_tick) := goodIn_app (goodIn_of _ (by decide +kernel)) ggX6_foretold_X1_tick
set_option maxRecDepth 20000 in
theorem ggX6_foretold_X1_allPaid : GoodIn wsX6_foretold wsX1_allPaid := goodIn_r _ [110, 17, 30, 31, 32, 15, 33, 25, 125, 126, 127, 128, 129] (by decide +kernel) (by decide +kernel)
set_option maxRecDepth 20000 in
theorem gX6_foretold_X1_allPaid : GoodIn wsX6_foretold (wsV RX6 136 RX1 yX1_allPaid wsX1_allPaid) := goodIn_app (goodIn_of _ (by decide +kernel)) ggX6_foretold_X1_allPaid
set_option maxRecDepth 20000 in
theorem ggX6_foretold_X1_count : GoodIn wsX6_foretold wsX1_count := goodIn_r _ [114, 17, 30, 31, 32, 15, 33, 25, 125, 126, 127, 128, 129] (by decide +kernel) (by decide +kernel)
set_option maxRecDepth 20000 in
theorem gX6_foretold_X1_count : GoodIn wsX6_foretold (wsV RX6 132 RX1 yX1_count wsX1_count) := goodIn_app (goodIn_of _ (by decide +kernel)) ggX6_foretold_X1_count
theorem dX6_foretold_0 : decode cX6_foretold 0 = .ok (.iload_n 1, 1) := by decide +kernel
theorem dX6_foretold_1 : decode cX6_foretold 1 = .ok (.iconst 1, 1) := by decide +kernel
theorem dX6_foretold_2 : decode cX6_foretold 2 = .ok (.bipush 100, 2) := by decide +kernel
theorem dX6_foretold_4 : decode cX6_foretold 4 = .ok (.invokestatic 191, 3) := by decide +kernel
theorem dX6_foretold_7 : decode cX6_foretold 7 = .ok (.iload_n 2, 1) := by decide +kernel
theorem dX6_foretold_8 : decode cX6_foretold 8 = .ok (.iconst 0, 1) := by decide +kernel
theorem dX6_foretold_9 : decode cX6_foretold 9 = .ok (.iconst 3, 1) := by decide +kernel
theorem dX6_foretold_10 : decode cX6_foretold 10 = .ok (.invokestatic 191, 3) := by decide +kernel
theorem dX6_foretold_13 : decode cX6_foretold 13 = .ok (.aload_n 0, 1) := by decide +kernel
theorem dX6_foretold_14 : decode cX6_foretold 14 = .ok (.getfield 23, 3) := by decide +kernel
theorem dX6_foretold_17 : decode cX6_foretold 17 = .ok (.getfield 99, 3) := by decide +kernel
theorem dX6_foretold_20 : decode cX6_foretold 20 = .ok (.astore_n 3, 1) := by decide +kernel
theorem dX6_foretold_21 : decode cX6_foretold 21 = .ok (.aload_n 3, 1) := by decide +kernel
theorem dX6_foretold_22 : decode cX6_foretold 22 = .ok (.aload_n 0, 1) := by decide +kernel
theorem dX6_foretold_23 : decode cX6_foretold 23 = .ok (.getfield 19, 3) := by decide +kernel
theorem dX6_foretold_26 : decode cX6_foretold 26 = .ok (.getfield 99, 3) := by decide +kernel
theorem dX6_foretold_29 : decode cX6_foretold 29 = .ok (.invokevirtual 224, 3) := by decide +kernel
theorem dX6_foretold_32 : decode cX6_foretold 32 = .ok (.iconst 0, 1) := by decide +kernel
theorem dX6_foretold_33 : decode cX6_foretold 33 = .ok (.istore 4, 2) := by decide +kernel
theorem dX6_foretold_35 : decode cX6_foretold 35 = .ok (.iload 4, 2) := by decide +kernel
theorem dX6_foretold_37 : decode cX6_foretold 37 = .ok (.iload_n 1, 1) := by decide +kernel
theorem dX6_foretold_38 : decode cX6_foretold 38 = .ok (.if_icmp .ge 24, 3) := by decide +kernel
theorem dX6_foretold_41 : decode cX6_foretold 41 = .ok (.aload_n 3, 1) := by decide +kernel
theorem dX6_foretold_42 : decode cX6_foretold 42 = .ok (.aload_n 0, 1) := by decide +kernel
theorem dX6_foretold_43 : decode cX6_foretold 43 = .ok (.getfield 19, 3) := by decide +kernel
theorem dX6_foretold_46 : decode cX6_foretold 46 = .ok (.getfield 51, 3) := by decide +kernel
theorem dX6_foretold_49 : decode cX6_foretold 49 = .ok (.aload_n 0, 1) := by decide +kernel
theorem dX6_foretold_50 : decode cX6_foretold 50 = .ok (.getfield 29, 3) := by decide +kernel
theorem dX6_foretold_53 : decode cX6_foretold 53 = .ok (.invokevirtual 227, 3) := by decide +kernel
theorem dX6_foretold_56 : decode cX6_foretold 56 = .ok (.iinc 4 1, 3) := by decide +kernel
theorem dX6_foretold_59 : decode cX6_foretold 59 = .ok (.goto (-24), 3) := by decide +kernel
theorem dX6_foretold_62 : decode cX6_foretold 62 = .ok (.iload_n 2, 1) := by decide +kernel
theorem dX6_foretold_63 : decode cX6_foretold 63 = .ok (.tableswitch 42 0 2 #[25, 30, 36], 25) := by decide +kernel
theorem dX6_foretold_88 : decode cX6_foretold 88 = .ok (.aload_n 3, 1) := by decide +kernel
theorem dX6_foretold_89 : decode cX6_foretold 89 = .ok (.invokevirtual 136, 3) := by decide +kernel
theorem dX6_foretold_92 : decode cX6_foretold 92 = .ok (.ireturn, 1) := by decide +kernel
theorem dX6_foretold_93 : decode cX6_foretold 93 = .ok (.aload_n 3, 1) := by decide +kernel
theorem dX6_foretold_94 : decode cX6_foretold 94 = .ok (.iconst 0, 1) := by decide +kernel
theorem dX6_foretold_95 : decode cX6_foretold 95 = .ok (.invokevirtual 132, 3) := by decide +kernel
theorem dX6_foretold_98 : decode cX6_foretold 98 = .ok (.ireturn, 1) := by decide +kernel
theorem dX6_foretold_99 : decode cX6_foretold 99 = .ok (.aload_n 3, 1) := by decide +kernel
theorem dX6_foretold_100 : decode cX6_foretold 100 = .ok (.iconst 1, 1) := by decide +kernel
theorem dX6_foretold_101 : decode cX6_foretold 101 = .ok (.invokevirtual 132, 3) := by decide +kernel
theorem dX6_foretold_104 : decode cX6_foretold 104 = .ok (.ireturn, 1) := by decide +kernel
theorem dX6_foretold_105 : decode cX6_foretold 105 = .ok (.aload_n 3, 1) := by decide +kernel
theorem dX6_foretold_106 : decode cX6_foretold 106 = .ok (.iconst 3, 1) := by decide +kernel
theorem dX6_foretold_107 : decode cX6_foretold 107 = .ok (.invokevirtual 132, 3) := by decide +kernel
theorem dX6_foretold_110 : decode cX6_foretold 110 = .ok (.ireturn, 1) := by decide +kernel
set_option maxRecDepth 20000 in
theorem ggX6_pass_X6_requireRange : GoodIn wsX6_pass wsX6_requireRange := goodIn_ca (goodIn_r _ [8, 9, 10] (by decide +kernel) (by decide +kernel)) (goodIn_sub (fun _ h => List.mem_cons_of_mem _ (List.mem_append_right _ h)) (by decide +kernel))
set_option maxRecDepth 20000 in
theorem gX6_pass_X6_requireRange : GoodIn wsX6_pass (va_wsS RX6 191 yX6_requireRange wsX6_requireRange) := goodIn_app (goodIn_of _ (by decide +kernel)) ggX6_pass_X6_requireRange
set_option maxRecDepth 20000 in
theorem ggX6_pass_X6_remember : GoodIn wsX6_pass wsX6_remember := goodIn_r _ [14, 15, 16, 1, 17, 18, 19, 20, 21, 22, 23, 24, 25, 26, 27, 28, 29, 30, 31, 32, 33, 34, 35, 36, 37, 38, 39, 40, 41, 42, 43, 44, 45, 46, 47, 48, 49, 50, 51, 52, 53, 54, 55, 56, 57, 58, 59, 60, 61, 62, 63, 64, 65, 66, 142, 143, 144, 145, 146, 147, 148, 149, 150, 151, 152, 153, 154, 155, 156, 157, 158, 159, 160, 161, 162, 163, 164, 165, 166, 167, 168, 169] (by decide +kernel) (by decide +kernel)
set_option maxRecDepth 20000 in
theorem gX6_pass_X6_remember : GoodIn wsX6_pass (wsV RX6 89 RX6 yX6_remember wsX6_remember) := goodIn_app (goodIn_of _ (by decide +kernel)) ggX6_pass_X6_remember
set_option maxRecDepth 20000 in
theorem ggX6_pass_X1_allPaid : GoodIn wsX6_pass wsX1_allPaid := goodIn_r _ [70, 61, 71, 72, 73, 59, 74, 66, 165, 166, 167, 168, 169] (by decide +kernel) (by decide +kernel)
set_option maxRecDepth 20000 in
theorem gX6_pass_X1_allPaid : GoodIn wsX6_pass (wsV RX6 136 RX1 yX1_allPaid wsX1_allPaid) := goodIn_app (goodIn_of _ (by decide +kernel)) ggX6_pass_X1_allPaid
set_option maxRecDepth 20000 in
theorem ggX6_pass_X1_tick : GoodIn wsX6_pass wsX1_tick := goodIn_r _ [78, 61, 63, 71, 72, 73, 59, 74, 66, 79, 80, 81, 82, 83, 19, 20, 21, 64, 84, 85, 86, 87, 88, 89, 90, 91, 92, 93, 94, 95, 96, 97, 98, 99, 100, 51, 101, 53, 54, 102, 103, 104, 105, 106, 107, 108, 7, 109, 110, 111, 112, 113, 114, 115, 116, 117, 118, 119, 120, 121, 122, 123, 124, 125, 126, 127, 128, 129, 130, 131, 132, 133, 32, 134, 35, 46, 135, 136, 137, 38, 138, 139, 140, 141, 62, 165, 166, 167, 168, 169, 170, 171, 172, 173, 174, 152, 153, 154, 155, 156, 157, 158, 159, 160, 161, 162, 163, 164] (by decide +kernel) (by decide +kernel)
set_option maxRecDepth 20000 in
theorem gX6_pass_X1_tick : GoodIn wsX6_pass (wsV RX6 227 RX1 yX1_tick wsX1_tick) := goodIn_app (goodIn_of _ (by decide +kernel)) ggX6_pass_X1_tick
theorem dX6_pass_0 : decode cX6_pass 0 = .ok (.iload_n 1, 1) := by decide +kernel
theorem dX6_pass_1 : decode cX6_pass 1 = .ok (.iconst 1, 1) := by decide +kernel
theorem dX6_pass_2 : decode cX6_pass 2 = .ok (.bipush 50, 2) := by decide +kernel
theorem dX6_pass_4 : decode cX6_pass 4 = .ok (.invokestatic 191, 3) := by decide +kernel
theorem dX6_pass_7 : decode cX6_pass 7 = .ok (.aload_n 0, 1) := by decide +kernel
theorem dX6_pass_8 : decode cX6_pass 8 = .ok (.invokevirtual 89, 3) := by decide +kernel
theorem dX6_pass_11 : decode cX6_pass 11 = .ok (.aload_n 0, 1) := by decide +kernel
theorem dX6_pass_12 : decode cX6_pass 12 = .ok (.getfield 19, 3) := by decide +kernel
theorem dX6_pass_15 : decode cX6_pass 15 = .ok (.getfield 99, 3) := by decide +kernel
theorem dX6_pass_18 : decode cX6_pass 18 = .ok (.invokevirtual 136, 3) := by decide +kernel
theorem dX6_pass_21 : decode cX6_pass 21 = .ok (.istore_n 2, 1) := by decide +kernel
theorem dX6_pass_22 : decode cX6_pass 22 = .ok (.iconst 0, 1) := by decide +kernel
theorem dX6_pass_23 : decode cX6_pass 23 = .ok (.istore_n 3, 1) := by decide +kernel
theorem dX6_pass_24 : decode cX6_pass 24 = .ok (.iload_n 3, 1) := by decide +kernel
theorem dX6_pass_25 : decode cX6_pass 25 = .ok (.iload_n 1, 1) := by decide +kernel
theorem dX6_pass_26 : decode cX6_pass 26 = .ok (.if_icmp .ge 30, 3) := by decide +kernel
theorem dX6_pass_29 : decode cX6_pass 29 = .ok (.aload_n 0, 1) := by decide +kernel
theorem dX6_pass_30 : decode cX6_pass 30 = .ok (.getfield 19, 3) := by decide +kernel
theorem dX6_pass_33 : decode cX6_pass 33 = .ok (.getfield 99, 3) := by decide +kernel
theorem dX6_pass_36 : decode cX6_pass 36 = .ok (.aload_n 0, 1) := by decide +kernel
theorem dX6_pass_37 : decode cX6_pass 37 = .ok (.getfield 19, 3) := by decide +kernel
theorem dX6_pass_40 : decode cX6_pass 40 = .ok (.getfield 51, 3) := by decide +kernel
theorem dX6_pass_43 : decode cX6_pass 43 = .ok (.aload_n 0, 1) := by decide +kernel
theorem dX6_pass_44 : decode cX6_pass 44 = .ok (.getfield 29, 3) := by decide +kernel
theorem dX6_pass_47 : decode cX6_pass 47 = .ok (.invokevirtual 227, 3) := by decide +kernel
theorem dX6_pass_50 : decode cX6_pass 50 = .ok (.iinc 3 1, 3) := by decide +kernel
theorem dX6_pass_53 : decode cX6_pass 53 = .ok (.goto (-29), 3) := by decide +kernel
theorem dX6_pass_56 : decode cX6_pass 56 = .ok (.aload_n 0, 1) := by decide +kernel
theorem dX6_pass_57 : decode cX6_pass 57 = .ok (.getfield 19, 3) := by decide +kernel
theorem dX6_pass_60 : decode cX6_pass 60 = .ok (.getfield 99, 3) := by decide +kernel
theorem dX6_pass_63 : decode cX6_pass 63 = .ok (.invokevirtual 136, 3) := by decide +kernel
theorem dX6_pass_66 : decode cX6_pass 66 = .ok (.iload_n 2, 1) := by decide +kernel
theorem dX6_pass_67 : decode cX6_pass 67 = .ok (.isub, 1) := by decide +kernel
theorem dX6_pass_68 : decode cX6_pass 68 = .ok (.ireturn, 1) := by decide +kernel
set_option maxRecDepth 20000 in
theorem ggX6_pull_X6_requirePlane : GoodIn wsX6_pull wsX6_requirePlane := goodIn_ca (goodIn_r _ [12, 13, 14, 3, 4, 15, 130, 131, 132, 133, 134, 135, 136, 137, 138, 139, 140, 141, 142, 143, 144, 145, 146, 147, 148, 149] (by decide +kernel) (by decide +kernel)) (goodIn_sub (fun _ h => List.mem_cons_of_mem _ (List.mem_append_left _ (List.mem_append_right _ h))) (by decide +kernel))
set_option maxRecDepth 20000 in
theorem gX6_pull_X6_requirePlane : GoodIn wsX6_pull (wsV RX6 142 RX6 yX6_requirePlane wsX6_requirePlane) := goodIn_app (goodIn_of _ (by decide +kernel)) ggX6_pull_X6_requirePlane
set_option maxRecDepth 20000 in
theorem ggX6_pull_X6_requireRange : GoodIn wsX6_pull wsX6_requireRange := goodIn_ca (goodIn_r _ [18, 19, 20] (by decide +kernel) (by decide +kernel)) (goodIn_sub (fun _ h => List.mem_cons_of_mem _ (List.mem_append_right _ h)) (by decide +kernel))
set_option maxRecDepth 20000 in
theorem gX6_pull_X6_requireRange : GoodIn wsX6_pull (va_wsS RX6 191 yX6_requireRange wsX6_requireRange) := goodIn_app (goodIn_of _ (by decide +kernel)) ggX6_pull_X6_requireRange
set_option maxRecDepth 20000 in
theorem ggX6_pull_X0_isBack : GoodIn wsX6_pull wsX0_isBack := goodIn_r _ [25, 26, 140, 141, 142, 143, 144, 145, 146, 147, 148, 149] (by decide +kernel) (by decide +kernel)
set_option maxRecDepth 20000 in
theorem gX6_pull_X0_isBack : GoodIn wsX6_pull (wsV RX6 216 RX0 yX0_isBack wsX0_isBack) := goodIn_app (goodIn_of _ (by decide +kernel)) ggX6_pull_X0_isBack
set_option maxRecDepth 20000 in
theorem ggX6_pull_X6_remember : GoodIn wsX6_pull wsX6_remember := goodIn_r _ [30, 31, 32, 3, 33, 34, 35, 36, 37, 38, 39, 40, 41, 42, 43, 44, 45, 46, 47, 24, 48, 49, 50, 26, 51, 52, 53, 54, 55, 56, 57, 58, 59, 60, 61, 62, 63, 64, 65, 66, 67, 68, 69, 70, 71, 72, 73, 74, 75, 76, 77, 78, 79, 80, 130, 131, 132, 133, 134, 135, 136, 137, 138, 139, 140, 141, 142, 143, 144, 145, 146, 147, 148, 149, 150, 151, 152, 153, 154, 155, 156, 157] (by decide +kernel) (by decide +kernel)
set_option maxRecDepth 20000 in
theorem gX6_pull_X6_remember : GoodIn wsX6_pull (wsV RX6 89 RX6 yX6_remember wsX6_remember) := goodIn_app (goodIn_of _ (by decide +kernel)) ggX6_pull_X6_remember
set_option maxRecDepth 20000 in
theorem ggX6_pull_X5_update : GoodIn wsX6_pull wsX5_update := goodIn_r _ [85, 86, 87, 88, 89, 90, 91, 92, 93, 94, 95, 96, 84, 97, 98, 99, 100, 101, 102, 103, 104, 24, 105, 26, 106, 107, 36, 108, 109, 110, 111, 112, 59, 60, 113, 114, 115, 116, 117, 11, 118, 119, 120, 121, 122, 58, 50, 53, 123, 124, 125, 126, 127, 128, 129, 158, 159, 160, 161, 162, 140, 141, 142, 143, 144, 145, 146, 147, 148, 149] (by decide +kernel) (by decide +kernel)
set_option maxRecDepth 20000 in
theorem gX6_pull_X5_update : GoodIn wsX6_pull (wsV RX6 61 RX5 yX5_update wsX5_update) := goodIn_app (goodIn_of _ (by decide +kernel)) ggX6_pull_X5_update
theorem dX6_pull_0 : decode cX6_pull 0 = .ok (.aload_n 0, 1) := by decide +kernel
theorem dX6_pull_1 : decode cX6_pull 1 = .ok (.iload_n 1, 1) := by decide +kernel
theorem dX6_pull_2 : decode cX6_pull 2 = .ok (.invokevirtual 142, 3) := by decide +kernel
theorem dX6_pull_5 : decode cX6_pull 5 = .ok (.iload_n 2, 1) := by decide +kernel
theorem dX6_pull_6 : decode cX6_pull 6 = .ok (.iconst 0, 1) := by decide +kernel
theorem dX6_pull_7 : decode cX6_pull 7 = .ok (.aload_n 0, 1) := by decide +kernel
theorem dX6_pull_8 : decode cX6_pull 8 = .ok (.getfield 19, 3) := by decide +kernel
theorem dX6_pull_11 : decode cX6_pull 11 = .ok (.getfield 51, 3) := by decide +kernel
theorem dX6_pull_14 : decode cX6_pull 14 = .ok (.getfield 114, 3) := by decide +kernel
theorem dX6_pull_17 : decode cX6_pull 17 = .ok (.invokestatic 191, 3) := by decide +kernel
theorem dX6_pull_20 : decode cX6_pull 20 = .ok (.aload_n 0, 1) := by decide +kernel
theorem dX6_pull_21 : decode cX6_pull 21 = .ok (.getfield 19, 3) := by decide +kernel
theorem dX6_pull_24 : decode cX6_pull 24 = .ok (.getfield 51, 3) := by decide +kernel
theorem dX6_pull_27 : decode cX6_pull 27 = .ok (.iload_n 1, 1) := by decide +kernel
theorem dX6_pull_28 : decode cX6_pull 28 = .ok (.invokevirtual 216, 3) := by decide +kernel
theorem dX6_pull_31 : decode cX6_pull 31 = .ok (.ifCond .eq 13, 3) := by decide +kernel
theorem dX6_pull_34 : decode cX6_pull 34 = .ok (.new 236, 3) := by decide +kernel
theorem dX6_pull_37 : decode cX6_pull 37 = .ok (.dup, 1) := by decide +kernel
theorem dX6_pull_38 : decode cX6_pull 38 = .ok (.ldc 238, 2) := by decide +kernel
theorem dX6_pull_40 : decode cX6_pull 40 = .ok (.invokespecial 240, 3) := by decide +kernel
theorem dX6_pull_43 : decode cX6_pull 43 = .ok (.athrow, 1) := by decide +kernel
theorem dX6_pull_44 : decode cX6_pull 44 = .ok (.aload_n 0, 1) := by decide +kernel
theorem dX6_pull_45 : decode cX6_pull 45 = .ok (.invokevirtual 89, 3) := by decide +kernel
theorem dX6_pull_48 : decode cX6_pull 48 = .ok (.aload_n 0, 1) := by decide +kernel
theorem dX6_pull_49 : decode cX6_pull 49 = .ok (.getfield 19, 3) := by decide +kernel
theorem dX6_pull_52 : decode cX6_pull 52 = .ok (.getfield 51, 3) := by decide +kernel
theorem dX6_pull_55 : decode cX6_pull 55 = .ok (.getfield 152, 3) := by decide +kernel
theorem dX6_pull_58 : decode cX6_pull 58 = .ok (.iload_n 1, 1) := by decide +kernel
theorem dX6_pull_59 : decode cX6_pull 59 = .ok (.iaload, 1) := by decide +kernel
theorem dX6_pull_60 : decode cX6_pull 60 = .ok (.istore_n 3, 1) := by decide +kernel
theorem dX6_pull_61 : decode cX6_pull 61 = .ok (.aload_n 0, 1) := by decide +kernel
theorem dX6_pull_62 : decode cX6_pull 62 = .ok (.getfield 19, 3) := by decide +kernel
theorem dX6_pull_65 : decode cX6_pull 65 = .ok (.getfield 51, 3) := by decide +kernel
theorem dX6_pull_68 : decode cX6_pull 68 = .ok (.getfield 152, 3) := by decide +kernel
theorem dX6_pull_71 : decode cX6_pull 71 = .ok (.iload_n 1, 1) := by decide +kernel
theorem dX6_pull_72 : decode cX6_pull 72 = .ok (.iload_n 2, 1) := by decide +kernel
theorem dX6_pull_73 : decode cX6_pull 73 = .ok (.iastore, 1) := by decide +kernel
theorem dX6_pull_74 : decode cX6_pull 74 = .ok (.aload_n 0, 1) := by decide +kernel
theorem dX6_pull_75 : decode cX6_pull 75 = .ok (.getfield 29, 3) := by decide +kernel
theorem dX6_pull_78 : decode cX6_pull 78 = .ok (.aload_n 0, 1) := by decide +kernel
theorem dX6_pull_79 : decode cX6_pull 79 = .ok (.getfield 19, 3) := by decide +kernel
theorem dX6_pull_82 : decode cX6_pull 82 = .ok (.getfield 51, 3) := by decide +kernel
theorem dX6_pull_85 : decode cX6_pull 85 = .ok (.invokevirtual 61, 3) := by decide +kernel
theorem dX6_pull_88 : decode cX6_pull 88 = .ok (.iload_n 3, 1) := by decide +kernel
theorem dX6_pull_89 : decode cX6_pull 89 = .ok (.ireturn, 1) := by decide +kernel
set_option maxRecDepth 20000 in
theorem ggX6_come_X6_requireRange : GoodIn wsX6_come wsX6_requireRange := goodIn_ca (goodIn_r _ [9, 10, 11] (by decide +kernel) (by decide +kernel)) (goodIn_sub (fun _ h => List.mem_cons_of_mem _ (List.mem_append_right _ h)) (by decide +kernel))
set_option maxRecDepth 20000 in
theorem gX6_come_X6_requireRange : GoodIn wsX6_come (va_wsS RX6 191 yX6_requireRange wsX6_requireRange) := goodIn_app (goodIn_of _ (by decide +kernel)) ggX6_come_X6_requireRange
set_option maxRecDepth 20000 in
theorem ggX6_come_X1_isFull : GoodIn wsX6_come wsX1_isFull := goodIn_r _ [16, 17, 95, 96, 97, 98, 99] (by decide +kernel) (by decide +kernel)
set_option maxRecDepth 20000 in
theorem gX6_come_X1_isFull : GoodIn wsX6_come (wsV RX6 241 RX1 yX1_isFull wsX1_isFull) := goodIn_app (goodIn_of _ (by decide +kernel)) ggX6_come_X1_isFull
set_option maxRecDepth 20000 in
theorem ggX6_come_X6_remember : GoodIn wsX6_come wsX6_remember := goodIn_r _ [21, 22, 23, 3, 24, 25, 26, 27, 28, 29, 30, 31, 32, 33, 34, 35, 36, 37, 38, 39, 40, 41, 42, 43, 44, 45, 46, 47, 48, 49, 50, 51, 52, 53, 54, 55, 56, 57, 58, 59, 60, 61, 62, 63, 64, 65, 15, 66, 17, 67, 68, 69, 70, 71, 85, 86, 87, 88, 89, 90, 91, 92, 93, 94, 100, 101, 102, 103, 104, 105, 106, 107, 108, 109, 110, 111, 112, 95, 96, 97, 98, 99] (by decide +kernel) (by decide +kernel)
set_option maxRecDepth 20000 in
theorem gX6_come_X6_remember : GoodIn wsX6_come (wsV RX6 89 RX6 yX6_remember wsX6_remember) := goodIn_app (goodIn_of _ (by decide +kernel)) ggX6_come_X6_remember
set_option maxRecDepth 20000 in
theorem ggX6_come_X1_add : GoodIn wsX6_come wsX1_add := goodIn_r _ [75, 17, 76, 13, 14, 15, 16, 77, 78, 79, 80, 71, 81, 82, 83, 84, 95, 96, 97, 98, 99] (by decide +kernel) (by decide +kernel)
set_option maxRecDepth 20000 in
theorem gX6_come_X1_add : GoodIn wsX6_come (wsV RX6 246 RX1 yX1_add wsX1_add) := goodIn_app (goodIn_of _ (by decide +kernel)) ggX6_come_X1_add
theorem dX6_come_0 : decode cX6_come 0 = .ok (.iload_n 1, 1) := by decide +kernel
theorem dX6_come_1 : decode cX6_come 1 = .ok (.iconst 0, 1) := by decide +kernel
theorem dX6_come_2 : decode cX6_come 2 = .ok (.bipush 9, 2) := by decide +kernel
theorem dX6_come_4 : decode cX6_come 4 = .ok (.invokestatic 191, 3) := by decide +kernel
theorem dX6_come_7 : decode cX6_come 7 = .ok (.iload_n 2, 1) := by decide +kernel
theorem dX6_come_8 : decode cX6_come 8 = .ok (.iconst 0, 1) := by decide +kernel
theorem dX6_come_9 : decode cX6_come 9 = .ok (.bipush 25, 2) := by decide +kernel
theorem dX6_come_11 : decode cX6_come 11 = .ok (.invokestatic 191, 3) := by decide +kernel
theorem dX6_come_14 : decode cX6_come 14 = .ok (.iload_n 3, 1) := by decide +kernel
theorem dX6_come_15 : decode cX6_come 15 = .ok (.iconst 0, 1) := by decide +kernel
theorem dX6_come_16 : decode cX6_come 16 = .ok (.sipush 999, 3) := by decide +kernel
theorem dX6_come_19 : decode cX6_come 19 = .ok (.invokestatic 191, 3) := by decide +kernel
theorem dX6_come_22 : decode cX6_come 22 = .ok (.aload_n 0, 1) := by decide +kernel
theorem dX6_come_23 : decode cX6_come 23 = .ok (.getfield 19, 3) := by decide +kernel
theorem dX6_come_26 : decode cX6_come 26 = .ok (.getfield 99, 3) := by decide +kernel
theorem dX6_come_29 : decode cX6_come 29 = .ok (.invokevirtual 241, 3) := by decide +kernel
theorem dX6_come_32 : decode cX6_come 32 = .ok (.ifCond .eq 13, 3) := by decide +kernel
theorem dX6_come_35 : decode cX6_come 35 = .ok (.new 236, 3) := by decide +kernel
theorem dX6_come_38 : decode cX6_come 38 = .ok (.dup, 1) := by decide +kernel
theorem dX6_come_39 : decode cX6_come 39 = .ok (.ldc 244, 2) := by decide +kernel
theorem dX6_come_41 : decode cX6_come 41 = .ok (.invokespecial 240, 3) := by decide +kernel
theorem dX6_come_44 : decode cX6_come 44 = .ok (.athrow, 1) := by decide +kernel
theorem dX6_come_45 : decode cX6_come 45 = .ok (.aload_n 0, 1) := by decide +kernel
theorem dX6_come_46 : decode cX6_come 46 = .ok (.invokevirtual 89, 3) := by decide +kernel
theorem dX6_come_49 : decode cX6_come 49 = .ok (.aload_n 0, 1) := by decide +kernel
theorem dX6_come_50 : decode cX6_come 50 = .ok (.getfield 19, 3) := by decide +kernel
theorem dX6_come_53 : decode cX6_come 53 = .ok (.getfield 99, 3) := by decide +kernel
theorem dX6_come_56 : decode cX6_come 56 = .ok (.iload_n 1, 1) := by decide +kernel
theorem dX6_come_57 : decode cX6_come 57 = .ok (.iload_n 2, 1) := by decide +kernel
theorem dX6_come_58 : decode cX6_come 58 = .ok (.iload_n 3, 1) := by decide +kernel
theorem dX6_come_59 : decode cX6_come 59 = .ok (.invokevirtual 246, 3) := by decide +kernel
theorem dX6_come_62 : decode cX6_come 62 = .ok (.aload_n 0, 1) := by decide +kernel
theorem dX6_come_63 : decode cX6_come 63 = .ok (.getfield 19, 3) := by decide +kernel
theorem dX6_come_66 : decode cX6_come 66 = .ok (.getfield 99, 3) := by decide +kernel
theorem dX6_come_69 : decode cX6_come 69 = .ok (.getfield 103, 3) := by decide +kernel
theorem dX6_come_72 : decode cX6_come 72 = .ok (.iconst 1, 1) := by decide +kernel
theorem dX6_come_73 : decode cX6_come 73 = .ok (.isub, 1) := by decide +kernel
theorem dX6_come_74 : decode cX6_come 74 = .ok (.ireturn, 1) := by decide +kernel
set_option maxRecDepth 20000 in
theorem ggX6_length_X6_requireRange : GoodIn wsX6_length wsX6_requireRange := goodIn_ca (goodIn_r _ [7, 8, 9] (by decide +kernel) (by decide +kernel)) (goodIn_sub (fun _ h => List.mem_cons_of_mem _ (List.mem_append_right _ h)) (by decide +kernel))
set_option maxRecDepth 20000 in
theorem gX6_length_X6_requireRange : GoodIn wsX6_length (va_wsS RX6 191 yX6_requireRange wsX6_requireRange) := goodIn_app (goodIn_of _ (by decide +kernel)) ggX6_length_X6_requireRange
set_option maxRecDepth 20000 in
theorem ggX6_length_X6_remember : GoodIn wsX6_length wsX6_remember := goodIn_r _ [13, 14, 15, 1, 16, 17, 18, 19, 20, 21, 22, 23, 24, 25, 26, 27, 28, 29, 30, 31, 32, 33, 34, 35, 36, 37, 38, 39, 40, 41, 42, 43, 44, 45, 46, 47, 48, 49, 50, 51, 52, 53, 54, 55, 56, 57, 58, 59, 60, 61, 62, 63, 64, 65, 66, 67, 68, 69, 70, 71, 72, 73, 74, 75, 81, 82, 83, 84, 85, 86, 87, 88, 89, 90, 91, 92, 93, 76, 77, 78, 79, 80] (by decide +kernel) (by decide +kernel)
set_option maxRecDepth 20000 in
theorem gX6_length_X6_remember : GoodIn wsX6_length (wsV RX6 89 RX6 yX6_remember wsX6_remember) := goodIn_app (goodIn_of _ (by decide +kernel)) ggX6_length_X6_remember
theorem dX6_length_0 : decode cX6_length 0 = .ok (.iload_n 1, 1) := by decide +kernel
theorem dX6_length_1 : decode cX6_length 1 = .ok (.iconst 1, 1) := by decide +kernel
theorem dX6_length_2 : decode cX6_length 2 = .ok (.bipush 20, 2) := by decide +kernel
theorem dX6_length_4 : decode cX6_length 4 = .ok (.invokestatic 191, 3) := by decide +kernel
theorem dX6_length_7 : decode cX6_length 7 = .ok (.aload_n 0, 1) := by decide +kernel
theorem dX6_length_8 : decode cX6_length 8 = .ok (.invokevirtual 89, 3) := by decide +kernel
theorem dX6_length_11 : decode cX6_length 11 = .ok (.aload_n 0, 1) := by decide +kernel
theorem dX6_length_12 : decode cX6_length 12 = .ok (.getfield 19, 3) := by decide +kernel
theorem dX6_length_15 : decode cX6_length 15 = .ok (.getfield 99, 3) := by decide +kernel
theorem dX6_length_18 : decode cX6_length 18 = .ok (.getfield 126, 3) := by decide +kernel
theorem dX6_length_21 : decode cX6_length 21 = .ok (.istore_n 2, 1) := by decide +kernel
theorem dX6_length_22 : decode cX6_length 22 = .ok (.aload_n 0, 1) := by decide +kernel
theorem dX6_length_23 : decode cX6_length 23 = .ok (.getfield 19, 3) := by decide +kernel
theorem dX6_length_26 : decode cX6_length 26 = .ok (.getfield 99, 3) := by decide +kernel
theorem dX6_length_29 : decode cX6_length 29 = .ok (.iload_n 1, 1) := by decide +kernel
theorem dX6_length_30 : decode cX6_length 30 = .ok (.putfield 126, 3) := by decide +kernel
theorem dX6_length_33 : decode cX6_length 33 = .ok (.iload_n 2, 1) := by decide +kernel
theorem dX6_length_34 : decode cX6_length 34 = .ok (.ireturn, 1) := by decide +kernel
set_option maxRecDepth 20000 in
theorem ggX6_undo_X4_copyFrom : GoodIn wsX6_undo wsX4_copyFrom := goodIn_r _ [11, 12, 13, 14, 15, 16, 17, 18, 19, 20, 21, 22, 23, 24, 25, 26, 27, 28, 29, 30, 31, 32, 33, 34, 35, 36, 37, 38, 39, 40, 41, 42, 43, 44, 45, 46, 47, 48, 49, 50, 51, 111, 112, 113, 114, 115, 116, 117, 118, 119, 120, 121, 122, 123, 124, 125, 126, 127, 128, 129, 130] (by decide +kernel) (by decide +kernel)
set_option maxRecDepth 20000 in
theorem gX6_undo_X4_copyFrom : GoodIn wsX6_undo (wsV RX6 95 RX4 yX4_copyFrom wsX4_copyFrom) := goodIn_app (goodIn_of _ (by decide +kernel)) ggX6_undo_X4_copyFrom
set_option maxRecDepth 20000 in
theorem ggX6_undo_X5_update : GoodIn wsX6_undo wsX5_update := goodIn_r _ [56, 57, 58, 59, 60, 61, 62, 63, 64, 65, 66, 67, 55, 68, 69, 70, 71, 72, 73, 74, 75, 17, 76, 21, 77, 78, 79, 80, 81, 82, 83, 84, 30, 31, 85, 86, 87, 88, 89, 90, 91, 92, 93, 94, 95, 29, 20, 24, 96, 97, 98, 99, 100, 101, 102, 131, 132, 133, 134, 135, 113, 114, 115, 116, 117, 118, 119, 120, 121, 122] (by decide +kernel) (by decide +kernel)
set_option maxRecDepth 20000 in
theorem gX6_undo_X5_update : GoodIn wsX6_undo (wsV RX6 61 RX5 yX5_update wsX5_update) := goodIn_app (goodIn_of _ (by decide +kernel)) ggX6_undo_X5_update
theorem dX6_undo_0 : decode cX6_undo 0 = .ok (.aload_n 0, 1) := by decide +kernel
theorem dX6_undo_1 : decode cX6_undo 1 = .ok (.getfield 44, 3) := by decide +kernel
theorem dX6_undo_4 : decode cX6_undo 4 = .ok (.ifCond .ne 5, 3) := by decide +kernel
theorem dX6_undo_7 : decode cX6_undo 7 = .ok (.iconst (-1), 1) := by decide +kernel
theorem dX6_undo_8 : decode cX6_undo 8 = .ok (.ireturn, 1) := by decide +kernel
theorem dX6_undo_9 : decode cX6_undo 9 = .ok (.aload_n 0, 1) := by decide +kernel
theorem dX6_undo_10 : decode cX6_undo 10 = .ok (.aload_n 0, 1) := by decide +kernel
theorem dX6_undo_11 : decode cX6_undo 11 = .ok (.getfield 40, 3) := by decide +kernel
theorem dX6_undo_14 : decode cX6_undo 14 = .ok (.bipush 8, 2) := by decide +kernel
theorem dX6_undo_16 : decode cX6_undo 16 = .ok (.iadd, 1) := by decide +kernel
theorem dX6_undo_17 : decode cX6_undo 17 = .ok (.iconst 1, 1) := by decide +kernel
theorem dX6_undo_18 : decode cX6_undo 18 = .ok (.isub, 1) := by decide +kernel
theorem dX6_undo_19 : decode cX6_undo 19 = .ok (.bipush 8, 2) := by decide +kernel
theorem dX6_undo_21 : decode cX6_undo 21 = .ok (.irem, 1) := by decide +kernel
theorem dX6_undo_22 : decode cX6_undo 22 = .ok (.putfield 40, 3) := by decide +kernel
theorem dX6_undo_25 : decode cX6_undo 25 = .ok (.aload_n 0, 1) := by decide +kernel
theorem dX6_undo_26 : decode cX6_undo 26 = .ok (.dup, 1) := by decide +kernel
theorem dX6_undo_27 : decode cX6_undo 27 = .ok (.getfield 44, 3) := by decide +kernel
theorem dX6_undo_30 : decode cX6_undo 30 = .ok (.iconst 1, 1) := by decide +kernel
theorem dX6_undo_31 : decode cX6_undo 31 = .ok (.isub, 1) := by decide +kernel
theorem dX6_undo_32 : decode cX6_undo 32 = .ok (.putfield 44, 3) := by decide +kernel
theorem dX6_undo_35 : decode cX6_undo 35 = .ok (.aload_n 0, 1) := by decide +kernel
theorem dX6_undo_36 : decode cX6_undo 36 = .ok (.getfield 19, 3) := by decide +kernel
theorem dX6_undo_39 : decode cX6_undo 39 = .ok (.aload_n 0, 1) := by decide +kernel
theorem dX6_undo_40 : decode cX6_undo 40 = .ok (.getfield 36, 3) := by decide +kernel
theorem dX6_undo_43 : decode cX6_undo 43 = .ok (.aload_n 0, 1) := by decide +kernel
theorem dX6_undo_44 : decode cX6_undo 44 = .ok (.getfield 40, 3) := by decide +kernel
theorem dX6_undo_47 : decode cX6_undo 47 = .ok (.aaload, 1) := by decide +kernel
theorem dX6_undo_48 : decode cX6_undo 48 = .ok (.invokevirtual 95, 3) := by decide +kernel
theorem dX6_undo_51 : decode cX6_undo 51 = .ok (.aload_n 0, 1) := by decide +kernel
theorem dX6_undo_52 : decode cX6_undo 52 = .ok (.getfield 29, 3) := by decide +kernel
theorem dX6_undo_55 : decode cX6_undo 55 = .ok (.aload_n 0, 1) := by decide +kernel
theorem dX6_undo_56 : decode cX6_undo 56 = .ok (.getfield 19, 3) := by decide +kernel
theorem dX6_undo_59 : decode cX6_undo 59 = .ok (.getfield 51, 3) := by decide +kernel
theorem dX6_undo_62 : decode cX6_undo 62 = .ok (.invokevirtual 61, 3) := by decide +kernel
theorem dX6_undo_65 : decode cX6_undo 65 = .ok (.aload_n 0, 1) := by decide +kernel
theorem dX6_undo_66 : decode cX6_undo 66 = .ok (.getfield 44, 3) := by decide +kernel
theorem dX6_undo_69 : decode cX6_undo 69 = .ok (.ireturn, 1) := by decide +kernel
set_option maxRecDepth 20000 in
theorem ggX6_checksum_X6_state : GoodIn wsX6_checksum wsX6_state := goodIn_ca (goodIn_r _ [12, 13, 14, 2, 3, 6, 15, 16, 4, 5, 17, 18, 19, 7, 20, 21, 22, 23, 24, 25, 26, 27, 28, 29, 30, 31, 32, 33, 34, 97, 98, 99, 100, 101, 102, 103, 104, 105, 106, 107, 108, 109, 110, 111, 112, 113, 114, 115, 116, 117, 118, 119, 120, 121] (by decide +kernel) (by decide +kernel)) (goodIn_sub (fun _ h => List.mem_cons_of_mem _ (List.mem_append_left _ (List.mem_append_right _ h))) (by decide +kernel))
set_option maxRecDepth 20000 in
theorem gX6_checksum_X6_state : GoodIn wsX6_checksum (wsV RX6 251 RX6 yX6_state wsX6_state) := goodIn_app (goodIn_of _ (by decide +kernel)) ggX6_checksum_X6_state
set_option maxRecDepth 20000 in
theorem ggX6_checksum_X6_plane : GoodIn wsX6_checksum wsX6_plane := goodIn_ca (goodIn_ca (goodIn_r _ [38, 13, 14, 2, 3, 39, 40, 41, 42, 43, 11, 44, 45, 46, 4, 47, 48, 49, 50, 51, 52, 53, 54, 55, 56, 57, 58, 59, 60, 61, 62, 63, 64, 65, 66, 67, 68, 69, 70, 71, 97, 98, 99, 100, 101, 102, 103, 104, 105, 106, 107, 108, 109, 110, 111, 112, 113, 114, 115, 116, 122, 123, 124, 125, 126] (by decide +kernel) (by decide +kernel)) (goodIn_sub (fun _ h => List.mem_cons_of_mem _ (List.mem_append_left _ (List.mem_append_right _ h))) (by decide +kernel))) (goodIn_sub (fun _ h => List.mem_cons_of_mem _ (List.mem_append_right _ h)) (by decide +kernel))
set_option maxRecDepth 20000 in
theorem gX6_checksum_X6_plane : GoodIn wsX6_checksum (wsV RX6 254 RX6 yX6_plane wsX6_plane) := goodIn_app (goodIn_of _ (by decide +kernel)) ggX6_checksum_X6_plane
set_option maxRecDepth 20000 in
theorem ggX6_checksum_X6_hole : GoodIn wsX6_checksum wsX6_hole := goodIn_ca (goodIn_ca (goodIn_r _ [75, 13, 14, 2, 3, 76, 77, 6, 78, 40, 79, 80, 81, 82, 83, 11, 84, 45, 46, 5, 97, 98, 99, 100, 101, 102, 103, 104, 105, 106, 107, 108, 109, 110, 111, 112, 113, 114, 115, 116, 117, 118, 119, 120, 121, 122, 123, 124, 125, 126] (by decide +kernel) (by decide +kernel)) (goodIn_sub (fun _ h => List.mem_cons_of_mem _ (List.mem_append_left _ (List.mem_append_right _ h))) (by decide +kernel))) (goodIn_sub (fun _ h => List.mem_cons_of_mem _ (List.mem_append_right _ h)) (by decide +kernel))
set_option maxRecDepth 20000 in
theorem gX6_checksum_X6_hole : GoodIn wsX6_checksum (wsV RX6 257 RX6 yX6_hole wsX6_hole) := goodIn_app (goodIn_of _ (by decide +kernel)) ggX6_checksum_X6_hole
set_option maxRecDepth 20000 in
theorem ggX6_checksum_X6_viewer : GoodIn wsX6_checksum wsX6_viewer := goodIn_ca (goodIn_ca (goodIn_r _ [88, 2, 6, 89, 90, 91, 11, 92, 45, 46, 7, 93, 94, 95, 13, 14, 96, 27, 28, 23, 29, 30, 97, 98, 99, 100, 101, 102, 103, 104, 105, 106, 117, 118, 119, 120, 121] (by decide +kernel) (by decide +kernel)) (goodIn_sub (fun _ h => List.mem_cons_of_mem _ (List.mem_append_right _ h)) (by decide +kernel))) (goodIn_sub (fun _ h => List.mem_cons_of_mem _ (List.mem_append_left _ (List.mem_append_right _ h))) (by decide +kernel))
set_option maxRecDepth 20000 in
theorem gX6_checksum_X6_viewer : GoodIn wsX6_checksum (wsV RX6 260 RX6 yX6_viewer wsX6_viewer) := goodIn_app (goodIn_of _ (by decide +kernel)) ggX6_checksum_X6_viewer
theorem dX6_checksum_0 : decode cX6_checksum 0 = .ok (.lconst 0, 1) := by decide +kernel
theorem dX6_checksum_1 : decode cX6_checksum 1 = .ok (.lstore_n 1, 1) := by decide +kernel
theorem dX6_checksum_2 : decode cX6_checksum 2 = .ok (.iconst 0, 1) := by decide +kernel
theorem dX6_checksum_3 : decode cX6_checksum 3 = .ok (.istore_n 3, 1) := by decide +kernel
theorem dX6_checksum_4 : decode cX6_checksum 4 = .ok (.iload_n 3, 1) := by decide +kernel
theorem dX6_checksum_5 : decode cX6_checksum 5 = .ok (.bipush 14, 2) := by decide +kernel
theorem dX6_checksum_7 : decode cX6_checksum 7 = .ok (.if_icmp .ge 22, 3) := by decide +kernel
theorem dX6_checksum_10 : decode cX6_checksum 10 = .ok (.ldc2_w 249, 3) := by decide +kernel
theorem dX6_checksum_13 : decode cX6_checksum 13 = .ok (.lload_n 1, 1) := by decide +kernel
theorem dX6_checksum_14 : decode cX6_checksum 14 = .ok (.lmul, 1) := by decide +kernel
theorem dX6_checksum_15 : decode cX6_checksum 15 = .ok (.aload_n 0, 1) := by decide +kernel
theorem dX6_checksum_16 : decode cX6_checksum 16 = .ok (.iload_n 3, 1) := by decide +kernel
theorem dX6_checksum_17 : decode cX6_checksum 17 = .ok (.invokevirtual 251, 3) := by decide +kernel
theorem dX6_checksum_20 : decode cX6_checksum 20 = .ok (.i2l, 1) := by decide +kernel
theorem dX6_checksum_21 : decode cX6_checksum 21 = .ok (.ladd, 1) := by decide +kernel
theorem dX6_checksum_22 : decode cX6_checksum 22 = .ok (.lstore_n 1, 1) := by decide +kernel
theorem dX6_checksum_23 : decode cX6_checksum 23 = .ok (.iinc 3 1, 3) := by decide +kernel
theorem dX6_checksum_26 : decode cX6_checksum 26 = .ok (.goto (-22), 3) := by decide +kernel
theorem dX6_checksum_29 : decode cX6_checksum 29 = .ok (.iconst 0, 1) := by decide +kernel
theorem dX6_checksum_30 : decode cX6_checksum 30 = .ok (.istore_n 3, 1) := by decide +kernel
theorem dX6_checksum_31 : decode cX6_checksum 31 = .ok (.iload_n 3, 1) := by decide +kernel
theorem dX6_checksum_32 : decode cX6_checksum 32 = .ok (.aload_n 0, 1) := by decide +kernel
theorem dX6_checksum_33 : decode cX6_checksum 33 = .ok (.getfield 19, 3) := by decide +kernel
theorem dX6_checksum_36 : decode cX6_checksum 36 = .ok (.getfield 51, 3) := by decide +kernel
theorem dX6_checksum_39 : decode cX6_checksum 39 = .ok (.getfield 117, 3) := by decide +kernel
theorem dX6_checksum_42 : decode cX6_checksum 42 = .ok (.if_icmp .ge 39, 3) := by decide +kernel
theorem dX6_checksum_45 : decode cX6_checksum 45 = .ok (.iconst 0, 1) := by decide +kernel
theorem dX6_checksum_46 : decode cX6_checksum 46 = .ok (.istore 4, 2) := by decide +kernel
theorem dX6_checksum_48 : decode cX6_checksum 48 = .ok (.iload 4, 2) := by decide +kernel
theorem dX6_checksum_50 : decode cX6_checksum 50 = .ok (.iconst 3, 1) := by decide +kernel
theorem dX6_checksum_51 : decode cX6_checksum 51 = .ok (.if_icmp .ge 24, 3) := by decide +kernel
theorem dX6_checksum_54 : decode cX6_checksum 54 = .ok (.ldc2_w 249, 3) := by decide +kernel
theorem dX6_checksum_57 : decode cX6_checksum 57 = .ok (.lload_n 1, 1) := by decide +kernel
theorem dX6_checksum_58 : decode cX6_checksum 58 = .ok (.lmul, 1) := by decide +kernel
theorem dX6_checksum_59 : decode cX6_checksum 59 = .ok (.aload_n 0, 1) := by decide +kernel
theorem dX6_checksum_60 : decode cX6_checksum 60 = .ok (.iload_n 3, 1) := by decide +kernel
theorem dX6_checksum_61 : decode cX6_checksum 61 = .ok (.iload 4, 2) := by decide +kernel
theorem dX6_checksum_63 : decode cX6_checksum 63 = .ok (.invokevirtual 254, 3) := by decide +kernel
theorem dX6_checksum_66 : decode cX6_checksum 66 = .ok (.i2l, 1) := by decide +kernel
theorem dX6_checksum_67 : decode cX6_checksum 67 = .ok (.ladd, 1) := by decide +kernel
theorem dX6_checksum_68 : decode cX6_checksum 68 = .ok (.lstore_n 1, 1) := by decide +kernel
theorem dX6_checksum_69 : decode cX6_checksum 69 = .ok (.iinc 4 1, 3) := by decide +kernel
theorem dX6_checksum_72 : decode cX6_checksum 72 = .ok (.goto (-24), 3) := by decide +kernel
theorem dX6_checksum_75 : decode cX6_checksum 75 = .ok (.iinc 3 1, 3) := by decide +kernel
theorem dX6_checksum_78 : decode cX6_checksum 78 = .ok (.goto (-47), 3) := by decide +kernel
theorem dX6_checksum_81 : decode cX6_checksum 81 = .ok (.iconst 0, 1) := by decide +kernel
theorem dX6_checksum_82 : decode cX6_checksum 82 = .ok (.istore_n 3, 1) := by decide +kernel
theorem dX6_checksum_83 : decode cX6_checksum 83 = .ok (.iload_n 3, 1) := by decide +kernel
theorem dX6_checksum_84 : decode cX6_checksum 84 = .ok (.aload_n 0, 1) := by decide +kernel
theorem dX6_checksum_85 : decode cX6_checksum 85 = .ok (.getfield 19, 3) := by decide +kernel
theorem dX6_checksum_88 : decode cX6_checksum 88 = .ok (.getfield 51, 3) := by decide +kernel
theorem dX6_checksum_91 : decode cX6_checksum 91 = .ok (.getfield 120, 3) := by decide +kernel
theorem dX6_checksum_94 : decode cX6_checksum 94 = .ok (.if_icmp .ge 39, 3) := by decide +kernel
theorem dX6_checksum_97 : decode cX6_checksum 97 = .ok (.iconst 0, 1) := by decide +kernel
theorem dX6_checksum_98 : decode cX6_checksum 98 = .ok (.istore 4, 2) := by decide +kernel
theorem dX6_checksum_100 : decode cX6_checksum 100 = .ok (.iload 4, 2) := by decide +kernel
theorem dX6_checksum_102 : decode cX6_checksum 102 = .ok (.iconst 5, 1) := by decide +kernel
theorem dX6_checksum_103 : decode cX6_checksum 103 = .ok (.if_icmp .ge 24, 3) := by decide +kernel
theorem dX6_checksum_106 : decode cX6_checksum 106 = .ok (.ldc2_w 249, 3) := by decide +kernel
theorem dX6_checksum_109 : decode cX6_checksum 109 = .ok (.lload_n 1, 1) := by decide +kernel
theorem dX6_checksum_110 : decode cX6_checksum 110 = .ok (.lmul, 1) := by decide +kernel
theorem dX6_checksum_111 : decode cX6_checksum 111 = .ok (.aload_n 0, 1) := by decide +kernel
theorem dX6_checksum_112 : decode cX6_checksum 112 = .ok (.iload_n 3, 1) := by decide +kernel
theorem dX6_checksum_113 : decode cX6_checksum 113 = .ok (.iload 4, 2) := by decide +kernel
theorem dX6_checksum_115 : decode cX6_checksum 115 = .ok (.invokevirtual 257, 3) := by decide +kernel
theorem dX6_checksum_118 : decode cX6_checksum 118 = .ok (.i2l, 1) := by decide +kernel
theorem dX6_checksum_119 : decode cX6_checksum 119 = .ok (.ladd, 1) := by decide +kernel
theorem dX6_checksum_120 : decode cX6_checksum 120 = .ok (.lstore_n 1, 1) := by decide +kernel
theorem dX6_checksum_121 : decode cX6_checksum 121 = .ok (.iinc 4 1, 3) := by decide +kernel
theorem dX6_checksum_124 : decode cX6_checksum 124 = .ok (.goto (-24), 3) := by decide +kernel
theorem dX6_checksum_127 : decode cX6_checksum 127 = .ok (.iinc 3 1, 3) := by decide +kernel
theorem dX6_checksum_130 : decode cX6_checksum 130 = .ok (.goto (-47), 3) := by decide +kernel
theorem dX6_checksum_133 : decode cX6_checksum 133 = .ok (.iconst 0, 1) := by decide +kernel
theorem dX6_checksum_134 : decode cX6_checksum 134 = .ok (.istore_n 3, 1) := by decide +kernel
theorem dX6_checksum_135 : decode cX6_checksum 135 = .ok (.iload_n 3, 1) := by decide +kernel
theorem dX6_checksum_136 : decode cX6_checksum 136 = .ok (.aload_n 0, 1) := by decide +kernel
theorem dX6_checksum_137 : decode cX6_checksum 137 = .ok (.getfield 19, 3) := by decide +kernel
theorem dX6_checksum_140 : decode cX6_checksum 140 = .ok (.getfield 99, 3) := by decide +kernel
theorem dX6_checksum_143 : decode cX6_checksum 143 = .ok (.getfield 103, 3) := by decide +kernel
theorem dX6_checksum_146 : decode cX6_checksum 146 = .ok (.if_icmp .ge 40, 3) := by decide +kernel
theorem dX6_checksum_149 : decode cX6_checksum 149 = .ok (.iconst 0, 1) := by decide +kernel
theorem dX6_checksum_150 : decode cX6_checksum 150 = .ok (.istore 4, 2) := by decide +kernel
theorem dX6_checksum_152 : decode cX6_checksum 152 = .ok (.iload 4, 2) := by decide +kernel
theorem dX6_checksum_154 : decode cX6_checksum 154 = .ok (.bipush 7, 2) := by decide +kernel
theorem dX6_checksum_156 : decode cX6_checksum 156 = .ok (.if_icmp .ge 24, 3) := by decide +kernel
theorem dX6_checksum_159 : decode cX6_checksum 159 = .ok (.ldc2_w 249, 3) := by decide +kernel
theorem dX6_checksum_162 : decode cX6_checksum 162 = .ok (.lload_n 1, 1) := by decide +kernel
theorem dX6_checksum_163 : decode cX6_checksum 163 = .ok (.lmul, 1) := by decide +kernel
theorem dX6_checksum_164 : decode cX6_checksum 164 = .ok (.aload_n 0, 1) := by decide +kernel
theorem dX6_checksum_165 : decode cX6_checksum 165 = .ok (.iload_n 3, 1) := by decide +kernel
theorem dX6_checksum_166 : decode cX6_checksum 166 = .ok (.iload 4, 2) := by decide +kernel
theorem dX6_checksum_168 : decode cX6_checksum 168 = .ok (.invokevirtual 260, 3) := by decide +kernel
theorem dX6_checksum_171 : decode cX6_checksum 171 = .ok (.i2l, 1) := by decide +kernel
theorem dX6_checksum_172 : decode cX6_checksum 172 = .ok (.ladd, 1) := by decide +kernel
theorem dX6_checksum_173 : decode cX6_checksum 173 = .ok (.lstore_n 1, 1) := by decide +kernel
theorem dX6_checksum_174 : decode cX6_checksum 174 = .ok (.iinc 4 1, 3) := by decide +kernel
theorem dX6_checksum_177 : decode cX6_checksum 177 = .ok (.goto (-25), 3) := by decide +kernel
theorem dX6_checksum_180 : decode cX6_checksum 180 = .ok (.iinc 3 1, 3) := by decide +kernel
theorem dX6_checksum_183 : decode cX6_checksum 183 = .ok (.goto (-48), 3) := by decide +kernel
theorem dX6_checksum_186 : decode cX6_checksum 186 = .ok (.lload_n 1, 1) := by decide +kernel
theorem dX6_checksum_187 : decode cX6_checksum 187 = .ok (.lreturn, 1) := by decide +kernel
set_option maxRecDepth 20000 in
theorem ggX6_remember_X4_copyFrom : GoodIn wsX6_remember wsX4_copyFrom := goodIn_r _ [13, 14, 15, 16, 17, 18, 19, 20, 21, 22, 23, 24, 25, 26, 27, 28, 29, 30, 31, 32, 33, 34, 35, 36, 37, 38, 39, 40, 41, 42, 43, 44, 45, 46, 47, 48, 49, 50, 51, 52, 53, 62, 63, 64, 65, 66, 67, 68, 69, 70, 71, 72, 73, 74, 75, 76, 77, 78, 79, 80, 81] (by decide +kernel) (by decide +kernel)
set_option maxRecDepth 20000 in
theorem gX6_remember_X4_copyFrom : GoodIn wsX6_remember (wsV RX6 95 RX4 yX4_copyFrom wsX4_copyFrom) := goodIn_app (goodIn_of _ (by decide +kernel)) ggX6_remember_X4_copyFrom
theorem dX6_remember_0 : decode cX6_remember 0 = .ok (.aload_n 0, 1) := by decide +kernel
theorem dX6_remember_1 : decode cX6_remember 1 = .ok (.getfield 36, 3) := by decide +kernel
theorem dX6_remember_4 : decode cX6_remember 4 = .ok (.aload_n 0, 1) := by decide +kernel
theorem dX6_remember_5 : decode cX6_remember 5 = .ok (.getfield 40, 3) := by decide +kernel
theorem dX6_remember_8 : decode cX6_remember 8 = .ok (.aaload, 1) := by decide +kernel
theorem dX6_remember_9 : decode cX6_remember 9 = .ok (.aload_n 0, 1) := by decide +kernel
theorem dX6_remember_10 : decode cX6_remember 10 = .ok (.getfield 19, 3) := by decide +kernel
theorem dX6_remember_13 : decode cX6_remember 13 = .ok (.invokevirtual 95, 3) := by decide +kernel
theorem dX6_remember_16 : decode cX6_remember 16 = .ok (.aload_n 0, 1) := by decide +kernel
theorem dX6_remember_17 : decode cX6_remember 17 = .ok (.aload_n 0, 1) := by decide +kernel
theorem dX6_remember_18 : decode cX6_remember 18 = .ok (.getfield 40, 3) := by decide +kernel
theorem dX6_remember_21 : decode cX6_remember 21 = .ok (.iconst 1, 1) := by decide +kernel
theorem dX6_remember_22 : decode cX6_remember 22 = .ok (.iadd, 1) := by decide +kernel
theorem dX6_remember_23 : decode cX6_remember 23 = .ok (.bipush 8, 2) := by decide +kernel
theorem dX6_remember_25 : decode cX6_remember 25 = .ok (.irem, 1) := by decide +kernel
theorem dX6_remember_26 : decode cX6_remember 26 = .ok (.putfield 40, 3) := by decide +kernel
theorem dX6_remember_29 : decode cX6_remember 29 = .ok (.aload_n 0, 1) := by decide +kernel
theorem dX6_remember_30 : decode cX6_remember 30 = .ok (.aload_n 0, 1) := by decide +kernel
theorem dX6_remember_31 : decode cX6_remember 31 = .ok (.getfield 44, 3) := by decide +kernel
theorem dX6_remember_34 : decode cX6_remember 34 = .ok (.iconst 1, 1) := by decide +kernel
theorem dX6_remember_35 : decode cX6_remember 35 = .ok (.iadd, 1) := by decide +kernel
theorem dX6_remember_36 : decode cX6_remember 36 = .ok (.bipush 8, 2) := by decide +kernel
theorem dX6_remember_38 : decode cX6_remember 38 = .ok (.invokestatic 263, 3) := by decide +kernel
theorem dX6_remember_41 : decode cX6_remember 41 = .ok (.putfield 44, 3) := by decide +kernel
theorem dX6_remember_44 : decode cX6_remember 44 = .ok (.return_, 1) := by decide +kernel
theorem dX6_requirePlane_0 : decode cX6_requirePlane 0 = .ok (.iload_n 1, 1) := by decide +kernel
theorem dX6_requirePlane_1 : decode cX6_requirePlane 1 = .ok (.ifCond .lt 17, 3) := by decide +kernel
theorem dX6_requirePlane_4 : decode cX6_requirePlane 4 = .ok (.iload_n 1, 1) := by decide +kernel
theorem dX6_requirePlane_5 : decode cX6_requirePlane 5 = .ok (.aload_n 0, 1) := by decide +kernel
theorem dX6_requirePlane_6 : decode cX6_requirePlane 6 = .ok (.getfield 19, 3) := by decide +kernel
theorem dX6_requirePlane_9 : decode cX6_requirePlane 9 = .ok (.getfield 51, 3) := by decide +kernel
theorem dX6_requirePlane_12 : decode cX6_requirePlane 12 = .ok (.getfield 117, 3) := by decide +kernel
theorem dX6_requirePlane_15 : decode cX6_requirePlane 15 = .ok (.if_icmp .lt 14, 3) := by decide +kernel
theorem dX6_requirePlane_18 : decode cX6_requirePlane 18 = .ok (.new 268, 3) := by decide +kernel
theorem dX6_requirePlane_21 : decode cX6_requirePlane 21 = .ok (.dup, 1) := by decide +kernel
theorem dX6_requirePlane_22 : decode cX6_requirePlane 22 = .ok (.ldc_w 270, 3) := by decide +kernel
theorem dX6_requirePlane_25 : decode cX6_requirePlane 25 = .ok (.invokespecial 272, 3) := by decide +kernel
theorem dX6_requirePlane_28 : decode cX6_requirePlane 28 = .ok (.athrow, 1) := by decide +kernel
theorem dX6_requirePlane_29 : decode cX6_requirePlane 29 = .ok (.return_, 1) := by decide +kernel
theorem dX6_requireHole_0 : decode cX6_requireHole 0 = .ok (.iload_n 1, 1) := by decide +kernel
theorem dX6_requireHole_1 : decode cX6_requireHole 1 = .ok (.ifCond .lt 17, 3) := by decide +kernel
theorem dX6_requireHole_4 : decode cX6_requireHole 4 = .ok (.iload_n 1, 1) := by decide +kernel
theorem dX6_requireHole_5 : decode cX6_requireHole 5 = .ok (.aload_n 0, 1) := by decide +kernel
theorem dX6_requireHole_6 : decode cX6_requireHole 6 = .ok (.getfield 19, 3) := by decide +kernel
theorem dX6_requireHole_9 : decode cX6_requireHole 9 = .ok (.getfield 51, 3) := by decide +kernel
theorem dX6_requireHole_12 : decode cX6_requireHole 12 = .ok (.getfield 120, 3) := by decide +kernel
theorem dX6_requireHole_15 : decode cX6_requireHole 15 = .ok (.if_icmp .lt 14, 3) := by decide +kernel
theorem dX6_requireHole_18 : decode cX6_requireHole 18 = .ok (.new 268, 3) := by decide +kernel
theorem dX6_requireHole_21 : decode cX6_requireHole 21 = .ok (.dup, 1) := by decide +kernel
theorem dX6_requireHole_22 : decode cX6_requireHole 22 = .ok (.ldc_w 273, 3) := by decide +kernel
theorem dX6_requireHole_25 : decode cX6_requireHole 25 = .ok (.invokespecial 272, 3) := by decide +kernel
theorem dX6_requireHole_28 : decode cX6_requireHole 28 = .ok (.athrow, 1) := by decide +kernel
theorem dX6_requireHole_29 : decode cX6_requireHole 29 = .ok (.return_, 1) := by decide +kernel
theorem dX6_requireViewer_0 : decode cX6_requireViewer 0 = .ok (.iload_n 1, 1) := by decide +kernel
theorem dX6_requireViewer_1 : decode cX6_requireViewer 1 = .ok (.ifCond .lt 17, 3) := by decide +kernel
theorem dX6_requireViewer_4 : decode cX6_requireViewer 4 = .ok (.iload_n 1, 1) := by decide +kernel
theorem dX6_requireViewer_5 : decode cX6_requireViewer 5 = .ok (.aload_n 0, 1) := by decide +kernel
theorem dX6_requireViewer_6 : decode cX6_requireViewer 6 = .ok (.getfield 19, 3) := by decide +kernel
theorem dX6_requireViewer_9 : decode cX6_requireViewer 9 = .ok (.getfield 99, 3) := by decide +kernel
theorem dX6_requireViewer_12 : decode cX6_requireViewer 12 = .ok (.getfield 103, 3) := by decide +kernel
theorem dX6_requireViewer_15 : decode cX6_requireViewer 15 = .ok (.if_icmp .lt 14, 3) := by decide +kernel
theorem dX6_requireViewer_18 : decode cX6_requireViewer 18 = .ok (.new 268, 3) := by decide +kernel
theorem dX6_requireViewer_21 : decode cX6_requireViewer 21 = .ok (.dup, 1) := by decide +kernel
theorem dX6_requireViewer_22 : decode cX6_requireViewer 22 = .ok (.ldc_w 275, 3) := by decide +kernel
theorem dX6_requireViewer_25 : decode cX6_requireViewer 25 = .ok (.invokespecial 272, 3) := by decide +kernel
theorem dX6_requireViewer_28 : decode cX6_requireViewer 28 = .ok (.athrow, 1) := by decide +kernel
theorem dX6_requireViewer_29 : decode cX6_requireViewer 29 = .ok (.return_, 1) := by decide +kernel
theorem dX6_requireCell_0 : decode cX6_requireCell 0 = .ok (.iload_n 1, 1) := by decide +kernel
theorem dX6_requireCell_1 : decode cX6_requireCell 1 = .ok (.ifCond .lt 35, 3) := by decide +kernel
theorem dX6_requireCell_4 : decode cX6_requireCell 4 = .ok (.iload_n 1, 1) := by decide +kernel
theorem dX6_requireCell_5 : decode cX6_requireCell 5 = .ok (.aload_n 0, 1) := by decide +kernel
theorem dX6_requireCell_6 : decode cX6_requireCell 6 = .ok (.getfield 19, 3) := by decide +kernel
theorem dX6_requireCell_9 : decode cX6_requireCell 9 = .ok (.getfield 51, 3) := by decide +kernel
theorem dX6_requireCell_12 : decode cX6_requireCell 12 = .ok (.getfield 111, 3) := by decide +kernel
theorem dX6_requireCell_15 : decode cX6_requireCell 15 = .ok (.if_icmp .ge 21, 3) := by decide +kernel
theorem dX6_requireCell_18 : decode cX6_requireCell 18 = .ok (.iload_n 2, 1) := by decide +kernel
theorem dX6_requireCell_19 : decode cX6_requireCell 19 = .ok (.ifCond .lt 17, 3) := by decide +kernel
theorem dX6_requireCell_22 : decode cX6_requireCell 22 = .ok (.iload_n 2, 1) := by decide +kernel
theorem dX6_requireCell_23 : decode cX6_requireCell 23 = .ok (.aload_n 0, 1) := by decide +kernel
theorem dX6_requireCell_24 : decode cX6_requireCell 24 = .ok (.getfield 19, 3) := by decide +kernel
theorem dX6_requireCell_27 : decode cX6_requireCell 27 = .ok (.getfield 51, 3) := by decide +kernel
theorem dX6_requireCell_30 : decode cX6_requireCell 30 = .ok (.getfield 114, 3) := by decide +kernel
theorem dX6_requireCell_33 : decode cX6_requireCell 33 = .ok (.if_icmp .lt 14, 3) := by decide +kernel
theorem dX6_requireCell_36 : decode cX6_requireCell 36 = .ok (.new 268, 3) := by decide +kernel
theorem dX6_requireCell_39 : decode cX6_requireCell 39 = .ok (.dup, 1) := by decide +kernel
theorem dX6_requireCell_40 : decode cX6_requireCell 40 = .ok (.ldc_w 277, 3) := by decide +kernel
theorem dX6_requireCell_43 : decode cX6_requireCell 43 = .ok (.invokespecial 272, 3) := by decide +kernel
theorem dX6_requireCell_46 : decode cX6_requireCell 46 = .ok (.athrow, 1) := by decide +kernel
theorem dX6_requireCell_47 : decode cX6_requireCell 47 = .ok (.return_, 1) := by decide +kernel
theorem dX6_requireRange_0 : decode cX6_requireRange 0 = .ok (.iload_n 0, 1) := by decide +kernel
theorem dX6_requireRange_1 : decode cX6_requireRange 1 = .ok (.iload_n 1, 1) := by decide +kernel
theorem dX6_requireRange_2 : decode cX6_requireRange 2 = .ok (.if_icmp .lt 8, 3) := by decide +kernel
theorem dX6_requireRange_5 : decode cX6_requireRange 5 = .ok (.iload_n 0, 1) := by decide +kernel
theorem dX6_requireRange_6 : decode cX6_requireRange 6 = .ok (.iload_n 2, 1) := by decide +kernel
theorem dX6_requireRange_7 : decode cX6_requireRange 7 = .ok (.if_icmp .le 14, 3) := by decide +kernel
theorem dX6_requireRange_10 : decode cX6_requireRange 10 = .ok (.new 76, 3) := by decide +kernel
theorem dX6_requireRange_13 : decode cX6_requireRange 13 = .ok (.dup, 1) := by decide +kernel
theorem dX6_requireRange_14 : decode cX6_requireRange 14 = .ok (.ldc_w 279, 3) := by decide +kernel
theorem dX6_requireRange_17 : decode cX6_requireRange 17 = .ok (.invokespecial 80, 3) := by decide +kernel
theorem dX6_requireRange_20 : decode cX6_requireRange 20 = .ok (.athrow, 1) := by decide +kernel
theorem dX6_requireRange_21 : decode cX6_requireRange 21 = .ok (.return_, 1) := by decide +kernel
theorem dX6_quotient_0 : decode cX6_quotient 0 = .ok (.lload_n 2, 1) := by decide +kernel
theorem dX6_quotient_1 : decode cX6_quotient 1 = .ok (.lconst 0, 1) := by decide +kernel
theorem dX6_quotient_2 : decode cX6_quotient 2 = .ok (.lcmp, 1) := by decide +kernel
theorem dX6_quotient_3 : decode cX6_quotient 3 = .ok (.ifCond .ne 7, 3) := by decide +kernel
theorem dX6_quotient_6 : decode cX6_quotient 6 = .ok (.lconst 0, 1) := by decide +kernel
theorem dX6_quotient_7 : decode cX6_quotient 7 = .ok (.goto 6, 3) := by decide +kernel
theorem dX6_quotient_10 : decode cX6_quotient 10 = .ok (.lload_n 0, 1) := by decide +kernel
theorem dX6_quotient_11 : decode cX6_quotient 11 = .ok (.lload_n 2, 1) := by decide +kernel
theorem dX6_quotient_12 : decode cX6_quotient 12 = .ok (.ldiv, 1) := by decide +kernel
theorem dX6_quotient_13 : decode cX6_quotient 13 = .ok (.lreturn, 1) := by decide +kernel
theorem dX6_limited_0 : decode cX6_limited 0 = .ok (.iload_n 2, 1) := by decide +kernel
theorem dX6_limited_1 : decode cX6_limited 1 = .ok (.i2l, 1) := by decide +kernel
theorem dX6_limited_2 : decode cX6_limited 2 = .ok (.iload_n 3, 1) := by decide +kernel
theorem dX6_limited_3 : decode cX6_limited 3 = .ok (.i2l, 1) := by decide +kernel
theorem dX6_limited_4 : decode cX6_limited 4 = .ok (.lload_n 0, 1) := by decide +kernel
theorem dX6_limited_5 : decode cX6_limited 5 = .ok (.invokestatic 281, 3) := by decide +kernel
theorem dX6_limited_8 : decode cX6_limited 8 = .ok (.invokestatic 284, 3) := by decide +kernel
theorem dX6_limited_11 : decode cX6_limited 11 = .ok (.l2i, 1) := by decide +kernel
theorem dX6_limited_12 : decode cX6_limited 12 = .ok (.ireturn, 1) := by decide +kernel
theorem dX7_init_0 : decode cX7_init 0 = .ok (.aload_n 0, 1) := by decide +kernel
theorem dX7_init_1 : decode cX7_init 1 = .ok (.invokespecial 1, 3) := by decide +kernel
theorem dX7_init_4 : decode cX7_init 4 = .ok (.aload_n 0, 1) := by decide +kernel
theorem dX7_init_5 : decode cX7_init 5 = .ok (.iconst (-1), 1) := by decide +kernel
theorem dX7_init_6 : decode cX7_init 6 = .ok (.putfield 7, 3) := by decide +kernel
theorem dX7_init_9 : decode cX7_init 9 = .ok (.aload_n 0, 1) := by decide +kernel
theorem dX7_init_10 : decode cX7_init 10 = .ok (.iload_n 1, 1) := by decide +kernel
theorem dX7_init_11 : decode cX7_init 11 = .ok (.putfield 13, 3) := by decide +kernel
theorem dX7_init_14 : decode cX7_init 14 = .ok (.aload_n 0, 1) := by decide +kernel
theorem dX7_init_15 : decode cX7_init 15 = .ok (.iload_n 2, 1) := by decide +kernel
theorem dX7_init_16 : decode cX7_init 16 = .ok (.putfield 16, 3) := by decide +kernel
theorem dX7_init_19 : decode cX7_init 19 = .ok (.aload_n 0, 1) := by decide +kernel
theorem dX7_init_20 : decode cX7_init 20 = .ok (.iload_n 3, 1) := by decide +kernel
theorem dX7_init_21 : decode cX7_init 21 = .ok (.putfield 19, 3) := by decide +kernel
theorem dX7_init_24 : decode cX7_init 24 = .ok (.return_, 1) := by decide +kernel
set_option maxRecDepth 20000 in
theorem ggX7_copy_X7_init : GoodIn wsX7_copy wsX7_init := goodIn_r _ [13, 14, 15, 16, 8, 4, 5, 6, 17, 18, 19, 20, 21, 22, 23] (by decide +kernel) (by decide +kernel)
set_option maxRecDepth 20000 in
theorem gX7_copy_X7_init : GoodIn wsX7_copy (wsX7_init) := ggX7_copy_X7_init
theorem dX7_copy_0 : decode cX7_copy 0 = .ok (.new 8, 3) := by decide +kernel
theorem dX7_copy_3 : decode cX7_copy 3 = .ok (.dup, 1) := by decide +kernel
theorem dX7_copy_4 : decode cX7_copy 4 = .ok (.aload_n 0, 1) := by decide +kernel
theorem dX7_copy_5 : decode cX7_copy 5 = .ok (.getfield 13, 3) := by decide +kernel
theorem dX7_copy_8 : decode cX7_copy 8 = .ok (.aload_n 0, 1) := by decide +kernel
theorem dX7_copy_9 : decode cX7_copy 9 = .ok (.getfield 16, 3) := by decide +kernel
theorem dX7_copy_12 : decode cX7_copy 12 = .ok (.aload_n 0, 1) := by decide +kernel
theorem dX7_copy_13 : decode cX7_copy 13 = .ok (.getfield 19, 3) := by decide +kernel
theorem dX7_copy_16 : decode cX7_copy 16 = .ok (.invokespecial 22, 3) := by decide +kernel
theorem dX7_copy_19 : decode cX7_copy 19 = .ok (.astore_n 1, 1) := by decide +kernel
theorem dX7_copy_20 : decode cX7_copy 20 = .ok (.aload_n 1, 1) := by decide +kernel
theorem dX7_copy_21 : decode cX7_copy 21 = .ok (.aload_n 0, 1) := by decide +kernel
theorem dX7_copy_22 : decode cX7_copy 22 = .ok (.getfield 25, 3) := by decide +kernel
theorem dX7_copy_25 : decode cX7_copy 25 = .ok (.putfield 25, 3) := by decide +kernel
theorem dX7_copy_28 : decode cX7_copy 28 = .ok (.aload_n 1, 1) := by decide +kernel
theorem dX7_copy_29 : decode cX7_copy 29 = .ok (.aload_n 0, 1) := by decide +kernel
theorem dX7_copy_30 : decode cX7_copy 30 = .ok (.getfield 7, 3) := by decide +kernel
theorem dX7_copy_33 : decode cX7_copy 33 = .ok (.putfield 7, 3) := by decide +kernel
theorem dX7_copy_36 : decode cX7_copy 36 = .ok (.aload_n 1, 1) := by decide +kernel
theorem dX7_copy_37 : decode cX7_copy 37 = .ok (.aload_n 0, 1) := by decide +kernel
theorem dX7_copy_38 : decode cX7_copy 38 = .ok (.getfield 28, 3) := by decide +kernel
theorem dX7_copy_41 : decode cX7_copy 41 = .ok (.putfield 28, 3) := by decide +kernel
theorem dX7_copy_44 : decode cX7_copy 44 = .ok (.aload_n 1, 1) := by decide +kernel
theorem dX7_copy_45 : decode cX7_copy 45 = .ok (.aload_n 0, 1) := by decide +kernel
theorem dX7_copy_46 : decode cX7_copy 46 = .ok (.getfield 31, 3) := by decide +kernel
theorem dX7_copy_49 : decode cX7_copy 49 = .ok (.putfield 31, 3) := by decide +kernel
theorem dX7_copy_52 : decode cX7_copy 52 = .ok (.aload_n 1, 1) := by decide +kernel
theorem dX7_copy_53 : decode cX7_copy 53 = .ok (.areturn, 1) := by decide +kernel
theorem dX8_init_0 : decode cX8_init 0 = .ok (.aload_n 0, 1) := by decide +kernel
theorem dX8_init_1 : decode cX8_init 1 = .ok (.invokespecial 1, 3) := by decide +kernel
theorem dX8_init_4 : decode cX8_init 4 = .ok (.return_, 1) := by decide +kernel
set_option maxRecDepth 20000 in
theorem ggX8_random_X8_init : GoodIn wsX8_random wsX8_init := goodIn_r _ [10, 11, 12, 13] (by decide +kernel) (by decide +kernel)
set_option maxRecDepth 20000 in
theorem gX8_random_X8_init : GoodIn wsX8_random (wsX8_init) := ggX8_random_X8_init
set_option maxRecDepth 20000 in
theorem ggX8_random_X9_below : GoodIn wsX8_random wsX9_below := goodIn_r _ [18, 19, 20, 27] (by decide +kernel) (by decide +kernel)
set_option maxRecDepth 20000 in
theorem gX8_random_X9_below : GoodIn wsX8_random (wsV RX8 10 RX9 yX9_below wsX9_below) := goodIn_app (goodIn_of _ (by decide +kernel)) ggX8_random_X9_below
set_option maxRecDepth 20000 in
theorem ggX8_random_X8_random : GoodIn wsX8_random wsX8_random := goodIn_r _ [0, 1, 2, 3, 4, 5, 6, 7, 8, 9, 10, 11, 12, 13, 14, 15, 16, 17, 18, 19, 20, 21, 22, 23, 24, 25, 26, 27] (by decide +kernel) (by decide +kernel)
set_option maxRecDepth 20000 in
theorem gX8_random_X8_random : GoodIn wsX8_random (va_wsS RX8 23 yX8_random wsX8_random) := goodIn_app (goodIn_of _ (by decide +kernel)) ggX8_random_X8_random
theorem dX8_random_0 : decode cX8_random 0 = .ok (.new 7, 3) := by decide +kernel
theorem dX8_random_3 : decode cX8_random 3 = .ok (.dup, 1) := by decide +kernel
theorem dX8_random_4 : decode cX8_random 4 = .ok (.invokespecial 9, 3) := by decide +kernel
theorem dX8_random_7 : decode cX8_random 7 = .ok (.astore_n 2, 1) := by decide +kernel
theorem dX8_random_8 : decode cX8_random 8 = .ok (.aload_n 2, 1) := by decide +kernel
theorem dX8_random_9 : decode cX8_random 9 = .ok (.iload_n 1, 1) := by decide +kernel
theorem dX8_random_10 : decode cX8_random 10 = .ok (.ifCond .ne 11, 3) := by decide +kernel
theorem dX8_random_13 : decode cX8_random 13 = .ok (.aload_n 0, 1) := by decide +kernel
theorem dX8_random_14 : decode cX8_random 14 = .ok (.iconst 2, 1) := by decide +kernel
theorem dX8_random_15 : decode cX8_random 15 = .ok (.invokevirtual 10, 3) := by decide +kernel
theorem dX8_random_18 : decode cX8_random 18 = .ok (.goto 9, 3) := by decide +kernel
theorem dX8_random_21 : decode cX8_random 21 = .ok (.aload_n 0, 1) := by decide +kernel
theorem dX8_random_22 : decode cX8_random 22 = .ok (.bipush 6, 2) := by decide +kernel
theorem dX8_random_24 : decode cX8_random 24 = .ok (.invokevirtual 10, 3) := by decide +kernel
theorem dX8_random_27 : decode cX8_random 27 = .ok (.putfield 16, 3) := by decide +kernel
theorem dX8_random_30 : decode cX8_random 30 = .ok (.aload_n 2, 1) := by decide +kernel
theorem dX8_random_31 : decode cX8_random 31 = .ok (.aload_n 2, 1) := by decide +kernel
theorem dX8_random_32 : decode cX8_random 32 = .ok (.getfield 16, 3) := by decide +kernel
theorem dX8_random_35 : decode cX8_random 35 = .ok (.ifCond .ne 27, 3) := by decide +kernel
theorem dX8_random_38 : decode cX8_random 38 = .ok (.aload_n 0, 1) := by decide +kernel
theorem dX8_random_39 : decode cX8_random 39 = .ok (.aload_n 0, 1) := by decide +kernel
theorem dX8_random_40 : decode cX8_random 40 = .ok (.bipush 8, 2) := by decide +kernel
theorem dX8_random_42 : decode cX8_random 42 = .ok (.invokevirtual 10, 3) := by decide +kernel
theorem dX8_random_45 : decode cX8_random 45 = .ok (.ifCond .ne 9, 3) := by decide +kernel
theorem dX8_random_48 : decode cX8_random 48 = .ok (.sipush 10000, 3) := by decide +kernel
theorem dX8_random_51 : decode cX8_random 51 = .ok (.goto 5, 3) := by decide +kernel
theorem dX8_random_54 : decode cX8_random 54 = .ok (.bipush 12, 2) := by decide +kernel
theorem dX8_random_56 : decode cX8_random 56 = .ok (.invokevirtual 10, 3) := by decide +kernel
theorem dX8_random_59 : decode cX8_random 59 = .ok (.goto 8, 3) := by decide +kernel
theorem dX8_random_62 : decode cX8_random 62 = .ok (.aload_n 0, 1) := by decide +kernel
theorem dX8_random_63 : decode cX8_random 63 = .ok (.iconst 4, 1) := by decide +kernel
theorem dX8_random_64 : decode cX8_random 64 = .ok (.invokevirtual 10, 3) := by decide +kernel
theorem dX8_random_67 : decode cX8_random 67 = .ok (.putfield 20, 3) := by decide +kernel
theorem dX8_random_70 : decode cX8_random 70 = .ok (.aload_n 2, 1) := by decide +kernel
theorem dX8_random_71 : decode cX8_random 71 = .ok (.getfield 16, 3) := by decide +kernel
theorem dX8_random_74 : decode cX8_random 74 = .ok (.iconst 1, 1) := by decide +kernel
theorem dX8_random_75 : decode cX8_random 75 = .ok (.if_icmp .le 25, 3) := by decide +kernel
theorem dX8_random_78 : decode cX8_random 78 = .ok (.aload_n 2, 1) := by decide +kernel
theorem dX8_random_79 : decode cX8_random 79 = .ok (.aload_n 0, 1) := by decide +kernel
theorem dX8_random_80 : decode cX8_random 80 = .ok (.iload_n 1, 1) := by decide +kernel
theorem dX8_random_81 : decode cX8_random 81 = .ok (.iconst 1, 1) := by decide +kernel
theorem dX8_random_82 : decode cX8_random 82 = .ok (.isub, 1) := by decide +kernel
theorem dX8_random_83 : decode cX8_random 83 = .ok (.invokestatic 23, 3) := by decide +kernel
theorem dX8_random_86 : decode cX8_random 86 = .ok (.putfield 27, 3) := by decide +kernel
theorem dX8_random_89 : decode cX8_random 89 = .ok (.aload_n 2, 1) := by decide +kernel
theorem dX8_random_90 : decode cX8_random 90 = .ok (.aload_n 0, 1) := by decide +kernel
theorem dX8_random_91 : decode cX8_random 91 = .ok (.iload_n 1, 1) := by decide +kernel
theorem dX8_random_92 : decode cX8_random 92 = .ok (.iconst 1, 1) := by decide +kernel
theorem dX8_random_93 : decode cX8_random 93 = .ok (.isub, 1) := by decide +kernel
theorem dX8_random_94 : decode cX8_random 94 = .ok (.invokestatic 23, 3) := by decide +kernel
theorem dX8_random_97 : decode cX8_random 97 = .ok (.putfield 31, 3) := by decide +kernel
theorem dX8_random_100 : decode cX8_random 100 = .ok (.aload_n 2, 1) := by decide +kernel
theorem dX8_random_101 : decode cX8_random 101 = .ok (.areturn, 1) := by decide +kernel
set_option maxRecDepth 20000 in
theorem ggX8_text_J4_init_da8c8 : GoodIn wsX8_text wsJ4_init_da8c8 := goodIn_r _ [10, 11, 12, 13, 14, 15, 16, 17, 18, 19, 20, 21, 22, 23, 24, 25, 26, 27, 28, 29, 248, 249, 250, 251] (by decide +kernel) (by decide +kernel)
set_option maxRecDepth 20000 in
theorem gX8_text_J4_init_da8c8 : GoodIn wsX8_text (wsJ4_init_da8c8) := ggX8_text_J4_init_da8c8
set_option maxRecDepth 20000 in
theorem ggX8_text_J4_append_15ec4 : GoodIn wsX8_text wsJ4_append_15ec4 := goodIn_r _ [33, 34, 35, 36, 37, 13, 38, 39, 40, 41, 42, 43, 44, 20, 45, 46, 47, 48, 49, 21, 50, 51, 52, 53, 54, 55, 56, 57, 58, 59, 60, 61, 62, 63, 64, 65, 66, 67, 68, 69, 70, 71, 72, 73, 74, 75, 76, 77, 19, 78, 79, 80, 81, 82, 83, 84, 85, 86, 87, 88, 89, 18, 90, 91, 24, 92, 93, 94, 95, 96, 97, 98, 99, 100, 101, 102, 103, 104, 105, 106, 107, 108, 109, 110, 111, 112, 113, 114, 115, 116, 117, 118, 119, 120, 121, 122, 123, 124, 125, 126, 127, 128, 129, 130, 131, 132, 133, 134, 135, 136, 137, 138, 139, 140, 22, 23, 25, 26, 27, 28, 29, 141, 142, 143, 144, 145, 146, 147, 148, 149, 150, 151, 152, 153, 154, 155, 156, 157, 158, 159, 160, 161, 162, 248, 249, 250, 251, 252, 253, 254, 255] (by decide +kernel) (by decide +kernel)
set_option maxRecDepth 20000 in
theorem gX8_text_J4_append_15ec4 : GoodIn wsX8_text (wsV RX8 39 RJ4 yJ4_append_15ec4 wsJ4_append_15ec4) := goodIn_app (goodIn_of _ (by decide +kernel)) ggX8_text_J4_append_15ec4
set_option maxRecDepth 20000 in
theorem ggX8_text_J4_append_bf812 : GoodIn wsX8_text wsJ4_append_bf812 := goodIn_r _ [166, 167, 168, 36, 169, 13, 170, 39, 20, 171, 172, 173, 174, 45, 46, 47, 48, 49, 21, 50, 51, 52, 53, 54, 55, 56, 57, 58, 59, 60, 61, 62, 63, 64, 65, 66, 67, 68, 69, 70, 71, 72, 73, 74, 75, 76, 77, 19, 78, 79, 80, 81, 82, 83, 84, 85, 86, 87, 88, 89, 18, 175, 176, 177, 178, 179, 180, 181, 24, 182, 93, 94, 95, 96, 97, 98, 99, 100, 101, 102, 103, 104, 105, 106, 107, 108, 183, 184, 185, 186, 187, 109, 110, 111, 112, 113, 248, 249, 250, 251] (by decide +kernel) (by decide +kernel)
set_option maxRecDepth 20000 in
theorem gX8_text_J4_append_bf812 : GoodIn wsX8_text (wsV RX8 43 RJ4 yJ4_append_bf812 wsJ4_append_bf812) := goodIn_app (goodIn_of _ (by decide +kernel)) ggX8_text_J4_append_bf812
set_option maxRecDepth 20000 in
theorem ggX8_text_J4_toString_0e30d : GoodIn wsX8_text wsJ4_toString_0e30d := goodIn_r _ [191, 192, 193, 102, 194, 195, 196, 197, 198, 199, 200, 16, 17, 124, 118, 123, 201, 202, 203, 204, 205, 13, 206, 20, 207, 208, 209, 210, 211, 4, 212, 213, 36, 214, 215, 39, 216, 86, 87, 88, 89, 18, 21, 217, 218, 70, 219, 72, 73, 74, 75, 76, 77, 220, 221, 222, 19, 78, 79, 62, 80, 81, 82, 83, 84, 223, 224, 225, 226, 3, 227, 228, 24, 229, 230, 231, 232, 148, 149, 150, 97, 98, 99, 151, 152, 153, 104, 154, 155, 107, 156, 233, 234, 235, 93, 112, 113, 26, 27, 28, 29, 236, 237, 238, 239, 252, 253, 254, 255, 248, 249, 250, 251] (by decide +kernel) (by decide +kernel)
set_option maxRecDepth 20000 in
theorem gX8_text_J4_toString_0e30d : GoodIn wsX8_text (wsV RX8 46 RJ4 yJ4_toString_0e30d wsJ4_toString_0e30d) := goodIn_app (goodIn_of _ (by decide +kernel)) ggX8_text_J4_toString_0e30d
set_option maxRecDepth 20000 in
theorem ggX8_text_X8_text : GoodIn wsX8_text wsX8_text := goodIn_r _ [0, 1, 2, 3, 4, 5, 6, 7, 8, 9, 10, 11, 12, 13, 14, 15, 16, 17, 18, 19, 20, 21, 22, 23, 24, 25, 26, 27, 28, 29, 30, 31, 32, 33, 34, 35, 36, 37, 38, 39, 40, 41, 42, 43, 44, 45, 46, 47, 48, 49, 50, 51, 52, 53, 54, 55, 56, 57, 58, 59, 60, 61, 62, 63, 64, 65, 66, 67, 68, 69, 70, 71, 72, 73, 74, 75, 76, 77, 78, 79, 80, 81, 82, 83, 84, 85, 86, 87, 88, 89, 90, 91, 92, 93, 94, 95, 96, 97, 98, 99, 100, 101, 102, 103, 104, 105, 106, 107, 108, 109, 110, 111, 112, 113, 114, 115, 116, 117, 118, 119, 120, 121, 122, 123, 124, 125, 126, 127, 128, 129, 130, 131, 132, 133, 134, 135, 136, 137, 138, 139, 140, 141, 142, 143, 144, 145, 146, 147, 148, 149, 150, 151, 152, 153, 154, 155, 156, 157, 158, 159, 160, 161, 162, 163, 164, 165, 166, 167, 168, 169, 170, 171, 172, 173, 174, 175, 176, 177, 178, 179, 180, 181, 182, 183, 184, 185, 186, 187, 188, 189, 190, 191, 192, 193, 194, 195, 196, 197, 198, 199, 200, 201, 202, 203, 204, 205, 206, 207, 208, 209, 210, 211, 212, 213, 214, 215, 216, 217, 218, 219, 220, 221, 222, 223, 224, 225, 226, 227, 228, 229, 230, 231, 232, 233, 234, 235, 236, 237, 238, 239, 240, 241, 242, 243, 244, 245, 246, 247, 248, 249, 250, 251, 252, 253, 254, 255] (by decide +kernel) (by decide +kernel)
set_option maxRecDepth 20000 in
theorem gX8_text_X8_text : GoodIn wsX8_text (wsV RX8 56 RX8 yX8_text wsX8_text) := goodIn_app (goodIn_of _ (by decide +kernel)) ggX8_text_X8_text
theorem dX8_text_0 : decode cX8_text 0 = .ok (.aload_n 0, 1) := by decide +kernel
theorem dX8_text_1 : decode cX8_text 1 = .ok (.getfield 16, 3) := by decide +kernel
theorem dX8_text_4 : decode cX8_text 4 = .ok (.ifCond .ne 26, 3) := by decide +kernel
theorem dX8_text_7 : decode cX8_text 7 = .ok (.new 34, 3) := by decide +kernel
theorem dX8_text_10 : decode cX8_text 10 = .ok (.dup, 1) := by decide +kernel
theorem dX8_text_11 : decode cX8_text 11 = .ok (.invokespecial 36, 3) := by decide +kernel
theorem dX8_text_14 : decode cX8_text 14 = .ok (.ldc 37, 2) := by decide +kernel
theorem dX8_text_16 : decode cX8_text 16 = .ok (.invokevirtual 39, 3) := by decide +kernel
theorem dX8_text_19 : decode cX8_text 19 = .ok (.aload_n 0, 1) := by decide +kernel
theorem dX8_text_20 : decode cX8_text 20 = .ok (.getfield 20, 3) := by decide +kernel
theorem dX8_text_23 : decode cX8_text 23 = .ok (.invokevirtual 43, 3) := by decide +kernel
theorem dX8_text_26 : decode cX8_text 26 = .ok (.invokevirtual 46, 3) := by decide +kernel
theorem dX8_text_29 : decode cX8_text 29 = .ok (.areturn, 1) := by decide +kernel
theorem dX8_text_30 : decode cX8_text 30 = .ok (.aload_n 0, 1) := by decide +kernel
theorem dX8_text_31 : decode cX8_text 31 = .ok (.getfield 16, 3) := by decide +kernel
theorem dX8_text_34 : decode cX8_text 34 = .ok (.iconst 1, 1) := by decide +kernel
theorem dX8_text_35 : decode cX8_text 35 = .ok (.if_icmp .ne 12, 3) := by decide +kernel
theorem dX8_text_38 : decode cX8_text 38 = .ok (.getstatic 50, 3) := by decide +kernel
theorem dX8_text_41 : decode cX8_text 41 = .ok (.aload_n 0, 1) := by decide +kernel
theorem dX8_text_42 : decode cX8_text 42 = .ok (.getfield 20, 3) := by decide +kernel
theorem dX8_text_45 : decode cX8_text 45 = .ok (.aaload, 1) := by decide +kernel
theorem dX8_text_46 : decode cX8_text 46 = .ok (.areturn, 1) := by decide +kernel
theorem dX8_text_47 : decode cX8_text 47 = .ok (.aload_n 0, 1) := by decide +kernel
theorem dX8_text_48 : decode cX8_text 48 = .ok (.getfield 16, 3) := by decide +kernel
theorem dX8_text_51 : decode cX8_text 51 = .ok (.iconst 4, 1) := by decide +kernel
theorem dX8_text_52 : decode cX8_text 52 = .ok (.if_icmp .ge 7, 3) := by decide +kernel
theorem dX8_text_55 : decode cX8_text 55 = .ok (.iconst 1, 1) := by decide +kernel
theorem dX8_text_56 : decode cX8_text 56 = .ok (.goto 4, 3) := by decide +kernel
theorem dX8_text_59 : decode cX8_text 59 = .ok (.iconst 2, 1) := by decide +kernel
theorem dX8_text_60 : decode cX8_text 60 = .ok (.istore_n 2, 1) := by decide +kernel
theorem dX8_text_61 : decode cX8_text 61 = .ok (.new 34, 3) := by decide +kernel
theorem dX8_text_64 : decode cX8_text 64 = .ok (.dup, 1) := by decide +kernel
theorem dX8_text_65 : decode cX8_text 65 = .ok (.invokespecial 36, 3) := by decide +kernel
theorem dX8_text_68 : decode cX8_text 68 = .ok (.aload_n 0, 1) := by decide +kernel
theorem dX8_text_69 : decode cX8_text 69 = .ok (.getfield 27, 3) := by decide +kernel
theorem dX8_text_72 : decode cX8_text 72 = .ok (.iload_n 2, 1) := by decide +kernel
theorem dX8_text_73 : decode cX8_text 73 = .ok (.invokevirtual 56, 3) := by decide +kernel
theorem dX8_text_76 : decode cX8_text 76 = .ok (.invokevirtual 39, 3) := by decide +kernel
theorem dX8_text_79 : decode cX8_text 79 = .ok (.aload_n 0, 1) := by decide +kernel
theorem dX8_text_80 : decode cX8_text 80 = .ok (.getfield 16, 3) := by decide +kernel
theorem dX8_text_83 : decode cX8_text 83 = .ok (.iconst 2, 1) := by decide +kernel
theorem dX8_text_84 : decode cX8_text 84 = .ok (.if_icmp .ne 8, 3) := by decide +kernel
theorem dX8_text_87 : decode cX8_text 87 = .ok (.ldc 60, 2) := by decide +kernel
theorem dX8_text_89 : decode cX8_text 89 = .ok (.goto 31, 3) := by decide +kernel
theorem dX8_text_92 : decode cX8_text 92 = .ok (.aload_n 0, 1) := by decide +kernel
theorem dX8_text_93 : decode cX8_text 93 = .ok (.getfield 16, 3) := by decide +kernel
theorem dX8_text_96 : decode cX8_text 96 = .ok (.iconst 3, 1) := by decide +kernel
theorem dX8_text_97 : decode cX8_text 97 = .ok (.if_icmp .ne 8, 3) := by decide +kernel
theorem dX8_text_100 : decode cX8_text 100 = .ok (.ldc 62, 2) := by decide +kernel
theorem dX8_text_102 : decode cX8_text 102 = .ok (.goto 18, 3) := by decide +kernel
theorem dX8_text_105 : decode cX8_text 105 = .ok (.aload_n 0, 1) := by decide +kernel
theorem dX8_text_106 : decode cX8_text 106 = .ok (.getfield 16, 3) := by decide +kernel
theorem dX8_text_109 : decode cX8_text 109 = .ok (.iconst 4, 1) := by decide +kernel
theorem dX8_text_110 : decode cX8_text 110 = .ok (.if_icmp .ne 8, 3) := by decide +kernel
theorem dX8_text_113 : decode cX8_text 113 = .ok (.ldc 64, 2) := by decide +kernel
theorem dX8_text_115 : decode cX8_text 115 = .ok (.goto 5, 3) := by decide +kernel
theorem dX8_text_118 : decode cX8_text 118 = .ok (.ldc 66, 2) := by decide +kernel
theorem dX8_text_120 : decode cX8_text 120 = .ok (.invokevirtual 39, 3) := by decide +kernel
theorem dX8_text_123 : decode cX8_text 123 = .ok (.aload_n 0, 1) := by decide +kernel
theorem dX8_text_124 : decode cX8_text 124 = .ok (.getfield 31, 3) := by decide +kernel
theorem dX8_text_127 : decode cX8_text 127 = .ok (.iload_n 2, 1) := by decide +kernel
theorem dX8_text_128 : decode cX8_text 128 = .ok (.iconst 1, 1) := by decide +kernel
theorem dX8_text_129 : decode cX8_text 129 = .ok (.iadd, 1) := by decide +kernel
theorem dX8_text_130 : decode cX8_text 130 = .ok (.invokevirtual 56, 3) := by decide +kernel
theorem dX8_text_133 : decode cX8_text 133 = .ok (.invokevirtual 39, 3) := by decide +kernel
theorem dX8_text_136 : decode cX8_text 136 = .ok (.invokevirtual 46, 3) := by decide +kernel
theorem dX8_text_139 : decode cX8_text 139 = .ok (.astore_n 3, 1) := by decide +kernel
theorem dX8_text_140 : decode cX8_text 140 = .ok (.iload_n 2, 1) := by decide +kernel
theorem dX8_text_141 : decode cX8_text 141 = .ok (.iload_n 1, 1) := by decide +kernel
theorem dX8_text_142 : decode cX8_text 142 = .ok (.if_icmp .ge 30, 3) := by decide +kernel
theorem dX8_text_145 : decode cX8_text 145 = .ok (.new 34, 3) := by decide +kernel
theorem dX8_text_148 : decode cX8_text 148 = .ok (.dup, 1) := by decide +kernel
theorem dX8_text_149 : decode cX8_text 149 = .ok (.invokespecial 36, 3) := by decide +kernel
theorem dX8_text_152 : decode cX8_text 152 = .ok (.ldc 68, 2) := by decide +kernel
theorem dX8_text_154 : decode cX8_text 154 = .ok (.invokevirtual 39, 3) := by decide +kernel
theorem dX8_text_157 : decode cX8_text 157 = .ok (.aload_n 3, 1) := by decide +kernel
theorem dX8_text_158 : decode cX8_text 158 = .ok (.invokevirtual 39, 3) := by decide +kernel
theorem dX8_text_161 : decode cX8_text 161 = .ok (.ldc 70, 2) := by decide +kernel
theorem dX8_text_163 : decode cX8_text 163 = .ok (.invokevirtual 39, 3) := by decide +kernel
theorem dX8_text_166 : decode cX8_text 166 = .ok (.invokevirtual 46, 3) := by decide +kernel
theorem dX8_text_169 : decode cX8_text 169 = .ok (.goto 4, 3) := by decide +kernel
theorem dX8_text_172 : decode cX8_text 172 = .ok (.aload_n 3, 1) := by decide +kernel
theorem dX8_text_173 : decode cX8_text 173 = .ok (.areturn, 1) := by decide +kernel
set_option maxRecDepth 20000 in
theorem ggX8_value_X8_value : GoodIn wsX8_value wsX8_value := goodIn_r _ [0, 1, 2, 3, 4, 5, 6, 7, 8, 9, 10, 11, 12, 13, 14, 15, 16, 17, 18, 19, 20, 21] (by decide +kernel) (by decide +kernel)
set_option maxRecDepth 20000 in
theorem gX8_value_X8_value : GoodIn wsX8_value (wsV RX8 72 RX8 yX8_value wsX8_value) := goodIn_app (goodIn_of _ (by decide +kernel)) ggX8_value_X8_value
theorem dX8_value_0 : decode cX8_value 0 = .ok (.aload_n 0, 1) := by decide +kernel
theorem dX8_value_1 : decode cX8_value 1 = .ok (.getfield 16, 3) := by decide +kernel
theorem dX8_value_4 : decode cX8_value 4 = .ok (.iconst 2, 1) := by decide +kernel
theorem dX8_value_5 : decode cX8_value 5 = .ok (.if_icmp .ge 25, 3) := by decide +kernel
theorem dX8_value_8 : decode cX8_value 8 = .ok (.aload_n 0, 1) := by decide +kernel
theorem dX8_value_9 : decode cX8_value 9 = .ok (.getfield 16, 3) := by decide +kernel
theorem dX8_value_12 : decode cX8_value 12 = .ok (.ifCond .ne 11, 3) := by decide +kernel
theorem dX8_value_15 : decode cX8_value 15 = .ok (.aload_n 0, 1) := by decide +kernel
theorem dX8_value_16 : decode cX8_value 16 = .ok (.getfield 20, 3) := by decide +kernel
theorem dX8_value_19 : decode cX8_value 19 = .ok (.i2l, 1) := by decide +kernel
theorem dX8_value_20 : decode cX8_value 20 = .ok (.goto 9, 3) := by decide +kernel
theorem dX8_value_23 : decode cX8_value 23 = .ok (.aload_n 1, 1) := by decide +kernel
theorem dX8_value_24 : decode cX8_value 24 = .ok (.aload_n 0, 1) := by decide +kernel
theorem dX8_value_25 : decode cX8_value 25 = .ok (.getfield 20, 3) := by decide +kernel
theorem dX8_value_28 : decode cX8_value 28 = .ok (.laload, 1) := by decide +kernel
theorem dX8_value_29 : decode cX8_value 29 = .ok (.lreturn, 1) := by decide +kernel
theorem dX8_value_30 : decode cX8_value 30 = .ok (.aload_n 0, 1) := by decide +kernel
theorem dX8_value_31 : decode cX8_value 31 = .ok (.getfield 27, 3) := by decide +kernel
theorem dX8_value_34 : decode cX8_value 34 = .ok (.aload_n 1, 1) := by decide +kernel
theorem dX8_value_35 : decode cX8_value 35 = .ok (.invokevirtual 72, 3) := by decide +kernel
theorem dX8_value_38 : decode cX8_value 38 = .ok (.lstore_n 2, 1) := by decide +kernel
theorem dX8_value_39 : decode cX8_value 39 = .ok (.aload_n 0, 1) := by decide +kernel
theorem dX8_value_40 : decode cX8_value 40 = .ok (.getfield 31, 3) := by decide +kernel
theorem dX8_value_43 : decode cX8_value 43 = .ok (.aload_n 1, 1) := by decide +kernel
theorem dX8_value_44 : decode cX8_value 44 = .ok (.invokevirtual 72, 3) := by decide +kernel
theorem dX8_value_47 : decode cX8_value 47 = .ok (.lstore 4, 2) := by decide +kernel
theorem dX8_value_49 : decode cX8_value 49 = .ok (.aload_n 0, 1) := by decide +kernel
theorem dX8_value_50 : decode cX8_value 50 = .ok (.getfield 16, 3) := by decide +kernel
theorem dX8_value_53 : decode cX8_value 53 = .ok (.iconst 2, 1) := by decide +kernel
theorem dX8_value_54 : decode cX8_value 54 = .ok (.if_icmp .ne 10, 3) := by decide +kernel
theorem dX8_value_57 : decode cX8_value 57 = .ok (.lload_n 2, 1) := by decide +kernel
theorem dX8_value_58 : decode cX8_value 58 = .ok (.lload 4, 2) := by decide +kernel
theorem dX8_value_60 : decode cX8_value 60 = .ok (.ladd, 1) := by decide +kernel
theorem dX8_value_61 : decode cX8_value 61 = .ok (.goto 48, 3) := by decide +kernel
theorem dX8_value_64 : decode cX8_value 64 = .ok (.aload_n 0, 1) := by decide +kernel
theorem dX8_value_65 : decode cX8_value 65 = .ok (.getfield 16, 3) := by decide +kernel
theorem dX8_value_68 : decode cX8_value 68 = .ok (.iconst 3, 1) := by decide +kernel
theorem dX8_value_69 : decode cX8_value 69 = .ok (.if_icmp .ne 10, 3) := by decide +kernel
theorem dX8_value_72 : decode cX8_value 72 = .ok (.lload_n 2, 1) := by decide +kernel
theorem dX8_value_73 : decode cX8_value 73 = .ok (.lload 4, 2) := by decide +kernel
theorem dX8_value_75 : decode cX8_value 75 = .ok (.lsub, 1) := by decide +kernel
theorem dX8_value_76 : decode cX8_value 76 = .ok (.goto 33, 3) := by decide +kernel
theorem dX8_value_79 : decode cX8_value 79 = .ok (.aload_n 0, 1) := by decide +kernel
theorem dX8_value_80 : decode cX8_value 80 = .ok (.getfield 16, 3) := by decide +kernel
theorem dX8_value_83 : decode cX8_value 83 = .ok (.iconst 4, 1) := by decide +kernel
theorem dX8_value_84 : decode cX8_value 84 = .ok (.if_icmp .ne 10, 3) := by decide +kernel
theorem dX8_value_87 : decode cX8_value 87 = .ok (.lload_n 2, 1) := by decide +kernel
theorem dX8_value_88 : decode cX8_value 88 = .ok (.lload 4, 2) := by decide +kernel
theorem dX8_value_90 : decode cX8_value 90 = .ok (.lmul, 1) := by decide +kernel
theorem dX8_value_91 : decode cX8_value 91 = .ok (.goto 18, 3) := by decide +kernel
theorem dX8_value_94 : decode cX8_value 94 = .ok (.lload 4, 2) := by decide +kernel
theorem dX8_value_96 : decode cX8_value 96 = .ok (.lconst 0, 1) := by decide +kernel
theorem dX8_value_97 : decode cX8_value 97 = .ok (.lcmp, 1) := by decide +kernel
theorem dX8_value_98 : decode cX8_value 98 = .ok (.ifCond .ne 7, 3) := by decide +kernel
theorem dX8_value_101 : decode cX8_value 101 = .ok (.lconst 0, 1) := by decide +kernel
theorem dX8_value_102 : decode cX8_value 102 = .ok (.goto 7, 3) := by decide +kernel
theorem dX8_value_105 : decode cX8_value 105 = .ok (.lload_n 2, 1) := by decide +kernel
theorem dX8_value_106 : decode cX8_value 106 = .ok (.lload 4, 2) := by decide +kernel
theorem dX8_value_108 : decode cX8_value 108 = .ok (.ldiv, 1) := by decide +kernel
theorem dX8_value_109 : decode cX8_value 109 = .ok (.lstore 6, 2) := by decide +kernel
theorem dX8_value_111 : decode cX8_value 111 = .ok (.ldc2_w 76, 3) := by decide +kernel
theorem dX8_value_114 : decode cX8_value 114 = .ok (.ldc2_w 78, 3) := by decide +kernel
theorem dX8_value_117 : decode cX8_value 117 = .ok (.lload 6, 2) := by decide +kernel
theorem dX8_value_119 : decode cX8_value 119 = .ok (.invokestatic 80, 3) := by decide +kernel
theorem dX8_value_122 : decode cX8_value 122 = .ok (.invokestatic 86, 3) := by decide +kernel
theorem dX8_value_125 : decode cX8_value 125 = .ok (.lreturn, 1) := by decide +kernel
theorem dX9_init_0 : decode cX9_init 0 = .ok (.aload_n 0, 1) := by decide +kernel
theorem dX9_init_1 : decode cX9_init 1 = .ok (.invokespecial 1, 3) := by decide +kernel
theorem dX9_init_4 : decode cX9_init 4 = .ok (.aload_n 0, 1) := by decide +kernel
theorem dX9_init_5 : decode cX9_init 5 = .ok (.iload_n 1, 1) := by decide +kernel
theorem dX9_init_6 : decode cX9_init 6 = .ok (.putfield 7, 3) := by decide +kernel
theorem dX9_init_9 : decode cX9_init 9 = .ok (.return_, 1) := by decide +kernel
theorem dX9_below_0 : decode cX9_below 0 = .ok (.aload_n 0, 1) := by decide +kernel
theorem dX9_below_1 : decode cX9_below 1 = .ok (.ldc 13, 2) := by decide +kernel
theorem dX9_below_3 : decode cX9_below 3 = .ok (.aload_n 0, 1) := by decide +kernel
theorem dX9_below_4 : decode cX9_below 4 = .ok (.getfield 7, 3) := by decide +kernel
theorem dX9_below_7 : decode cX9_below 7 = .ok (.imul, 1) := by decide +kernel
theorem dX9_below_8 : decode cX9_below 8 = .ok (.sipush 12345, 3) := by decide +kernel
theorem dX9_below_11 : decode cX9_below 11 = .ok (.iadd, 1) := by decide +kernel
theorem dX9_below_12 : decode cX9_below 12 = .ok (.putfield 7, 3) := by decide +kernel
theorem dX9_below_15 : decode cX9_below 15 = .ok (.aload_n 0, 1) := by decide +kernel
theorem dX9_below_16 : decode cX9_below 16 = .ok (.getfield 7, 3) := by decide +kernel
theorem dX9_below_19 : decode cX9_below 19 = .ok (.bipush 16, 2) := by decide +kernel
theorem dX9_below_21 : decode cX9_below 21 = .ok (.iushr, 1) := by decide +kernel
theorem dX9_below_22 : decode cX9_below 22 = .ok (.iload_n 1, 1) := by decide +kernel
theorem dX9_below_23 : decode cX9_below 23 = .ok (.irem, 1) := by decide +kernel
theorem dX9_below_24 : decode cX9_below 24 = .ok (.ireturn, 1) := by decide +kernel
theorem dX10_init_0 : decode cX10_init 0 = .ok (.aload_n 0, 1) := by decide +kernel
theorem dX10_init_1 : decode cX10_init 1 = .ok (.invokespecial 1, 3) := by decide +kernel
theorem dX10_init_4 : decode cX10_init 4 = .ok (.aload_n 0, 1) := by decide +kernel
theorem dX10_init_5 : decode cX10_init 5 = .ok (.iconst 4, 1) := by decide +kernel
theorem dX10_init_6 : decode cX10_init 6 = .ok (.putfield 7, 3) := by decide +kernel
theorem dX10_init_9 : decode cX10_init 9 = .ok (.aload_n 0, 1) := by decide +kernel
theorem dX10_init_10 : decode cX10_init 10 = .ok (.iconst 3, 1) := by decide +kernel
theorem dX10_init_11 : decode cX10_init 11 = .ok (.putfield 13, 3) := by decide +kernel
theorem dX10_init_14 : decode cX10_init 14 = .ok (.aload_n 0, 1) := by decide +kernel
theorem dX10_init_15 : decode cX10_init 15 = .ok (.bipush 9, 2) := by decide +kernel
theorem dX10_init_17 : decode cX10_init 17 = .ok (.putfield 16, 3) := by decide +kernel
theorem dX10_init_20 : decode cX10_init 20 = .ok (.aload_n 0, 1) := by decide +kernel
theorem dX10_init_21 : decode cX10_init 21 = .ok (.iconst 3, 1) := by decide +kernel
theorem dX10_init_22 : decode cX10_init 22 = .ok (.putfield 19, 3) := by decide +kernel
theorem dX10_init_25 : decode cX10_init 25 = .ok (.aload_n 0, 1) := by decide +kernel
theorem dX10_init_26 : decode cX10_init 26 = .ok (.iconst 0, 1) := by decide +kernel
theorem dX10_init_27 : decode cX10_init 27 = .ok (.anewarray 22, 3) := by decide +kernel
theorem dX10_init_30 : decode cX10_init 30 = .ok (.putfield 24, 3) := by decide +kernel
theorem dX10_init_33 : decode cX10_init 33 = .ok (.aload_n 0, 1) := by decide +kernel
theorem dX10_init_34 : decode cX10_init 34 = .ok (.iconst 0, 1) := by decide +kernel
theorem dX10_init_35 : decode cX10_init 35 = .ok (.newarray .int, 2) := by decide +kernel
theorem dX10_init_37 : decode cX10_init 37 = .ok (.putfield 28, 3) := by decide +kernel
theorem dX10_init_40 : decode cX10_init 40 = .ok (.aload_n 0, 1) := by decide +kernel
theorem dX10_init_41 : decode cX10_init 41 = .ok (.iconst 1, 1) := by decide +kernel
theorem dX10_init_42 : decode cX10_init 42 = .ok (.anewarray 32, 3) := by decide +kernel
theorem dX10_init_45 : decode cX10_init 45 = .ok (.dup, 1) := by decide +kernel
theorem dX10_init_46 : decode cX10_init 46 = .ok (.iconst 0, 1) := by decide +kernel
theorem dX10_init_47 : decode cX10_init 47 = .ok (.iconst 2, 1) := by decide +kernel
theorem dX10_init_48 : decode cX10_init 48 = .ok (.newarray .int, 2) := by decide +kernel
theorem dX10_init_50 : decode cX10_init 50 = .ok (.dup, 1) := by decide +kernel
theorem dX10_init_51 : decode cX10_init 51 = .ok (.iconst 0, 1) := by decide +kernel
theorem dX10_init_52 : decode cX10_init 52 = .ok (.iconst 0, 1) := by decide +kernel
theorem dX10_init_53 : decode cX10_init 53 = .ok (.iastore, 1) := by decide +kernel
theorem dX10_init_54 : decode cX10_init 54 = .ok (.dup, 1) := by decide +kernel
theorem dX10_init_55 : decode cX10_init 55 = .ok (.iconst 1, 1) := by decide +kernel
theorem dX10_init_56 : decode cX10_init 56 = .ok (.iconst 0, 1) := by decide +kernel
theorem dX10_init_57 : decode cX10_init 57 = .ok (.iastore, 1) := by decide +kernel
theorem dX10_init_58 : decode cX10_init 58 = .ok (.aastore, 1) := by decide +kernel
theorem dX10_init_59 : decode cX10_init 59 = .ok (.putfield 33, 3) := by decide +kernel
theorem dX10_init_62 : decode cX10_init 62 = .ok (.aload_n 0, 1) := by decide +kernel
theorem dX10_init_63 : decode cX10_init 63 = .ok (.iconst 0, 1) := by decide +kernel
theorem dX10_init_64 : decode cX10_init 64 = .ok (.anewarray 37, 3) := by decide +kernel
theorem dX10_init_67 : decode cX10_init 67 = .ok (.putfield 39, 3) := by decide +kernel
theorem dX10_init_70 : decode cX10_init 70 = .ok (.aload_n 0, 1) := by decide +kernel
theorem dX10_init_71 : decode cX10_init 71 = .ok (.iconst 4, 1) := by decide +kernel
theorem dX10_init_72 : decode cX10_init 72 = .ok (.newarray .long, 2) := by decide +kernel
theorem dX10_init_74 : decode cX10_init 74 = .ok (.putfield 43, 3) := by decide +kernel
theorem dX10_init_77 : decode cX10_init 77 = .ok (.return_, 1) := by decide +kernel
set_option maxRecDepth 20000 in
theorem ggX10_copy_X10_init : GoodIn wsX10_copy wsX10_init := goodIn_r _ [23, 24, 25, 26, 4, 5, 6, 7, 9, 27, 10, 16, 17, 19, 18, 28, 29, 48, 49, 50, 51, 52, 53, 54, 55, 56, 57, 58] (by decide +kernel) (by decide +kernel)
set_option maxRecDepth 20000 in
theorem gX10_copy_X10_init : GoodIn wsX10_copy (wsX10_init) := ggX10_copy_X10_init
set_option maxRecDepth 20000 in
theorem ggX10_copy_X7_copy : GoodIn wsX10_copy wsX7_copy := goodIn_r _ [34, 35, 36, 33, 37, 38, 39, 40, 41, 42, 43, 44, 45, 46, 47, 25, 26, 59, 60, 61, 62, 63, 64, 65] (by decide +kernel) (by decide +kernel)
set_option maxRecDepth 20000 in
theorem gX10_copy_X7_copy : GoodIn wsX10_copy (wsV RX10 55 RX7 yX7_copy wsX7_copy) := goodIn_app (goodIn_of _ (by decide +kernel)) ggX10_copy_X7_copy
theorem dX10_copy_0 : decode cX10_copy 0 = .ok (.new 8, 3) := by decide +kernel
theorem dX10_copy_3 : decode cX10_copy 3 = .ok (.dup, 1) := by decide +kernel
theorem dX10_copy_4 : decode cX10_copy 4 = .ok (.invokespecial 47, 3) := by decide +kernel
theorem dX10_copy_7 : decode cX10_copy 7 = .ok (.astore_n 1, 1) := by decide +kernel
theorem dX10_copy_8 : decode cX10_copy 8 = .ok (.aload_n 1, 1) := by decide +kernel
theorem dX10_copy_9 : decode cX10_copy 9 = .ok (.aload_n 0, 1) := by decide +kernel
theorem dX10_copy_10 : decode cX10_copy 10 = .ok (.getfield 7, 3) := by decide +kernel
theorem dX10_copy_13 : decode cX10_copy 13 = .ok (.putfield 7, 3) := by decide +kernel
theorem dX10_copy_16 : decode cX10_copy 16 = .ok (.aload_n 1, 1) := by decide +kernel
theorem dX10_copy_17 : decode cX10_copy 17 = .ok (.aload_n 0, 1) := by decide +kernel
theorem dX10_copy_18 : decode cX10_copy 18 = .ok (.getfield 13, 3) := by decide +kernel
theorem dX10_copy_21 : decode cX10_copy 21 = .ok (.putfield 13, 3) := by decide +kernel
theorem dX10_copy_24 : decode cX10_copy 24 = .ok (.aload_n 1, 1) := by decide +kernel
theorem dX10_copy_25 : decode cX10_copy 25 = .ok (.aload_n 0, 1) := by decide +kernel
theorem dX10_copy_26 : decode cX10_copy 26 = .ok (.getfield 16, 3) := by decide +kernel
theorem dX10_copy_29 : decode cX10_copy 29 = .ok (.putfield 16, 3) := by decide +kernel
theorem dX10_copy_32 : decode cX10_copy 32 = .ok (.aload_n 1, 1) := by decide +kernel
theorem dX10_copy_33 : decode cX10_copy 33 = .ok (.aload_n 0, 1) := by decide +kernel
theorem dX10_copy_34 : decode cX10_copy 34 = .ok (.getfield 19, 3) := by decide +kernel
theorem dX10_copy_37 : decode cX10_copy 37 = .ok (.putfield 19, 3) := by decide +kernel
theorem dX10_copy_40 : decode cX10_copy 40 = .ok (.aload_n 1, 1) := by decide +kernel
theorem dX10_copy_41 : decode cX10_copy 41 = .ok (.aload_n 0, 1) := by decide +kernel
theorem dX10_copy_42 : decode cX10_copy 42 = .ok (.getfield 48, 3) := by decide +kernel
theorem dX10_copy_45 : decode cX10_copy 45 = .ok (.putfield 48, 3) := by decide +kernel
theorem dX10_copy_48 : decode cX10_copy 48 = .ok (.aload_n 1, 1) := by decide +kernel
theorem dX10_copy_49 : decode cX10_copy 49 = .ok (.aload_n 0, 1) := by decide +kernel
theorem dX10_copy_50 : decode cX10_copy 50 = .ok (.getfield 24, 3) := by decide +kernel
theorem dX10_copy_53 : decode cX10_copy 53 = .ok (.putfield 24, 3) := by decide +kernel
theorem dX10_copy_56 : decode cX10_copy 56 = .ok (.aload_n 1, 1) := by decide +kernel
theorem dX10_copy_57 : decode cX10_copy 57 = .ok (.aload_n 0, 1) := by decide +kernel
theorem dX10_copy_58 : decode cX10_copy 58 = .ok (.getfield 28, 3) := by decide +kernel
theorem dX10_copy_61 : decode cX10_copy 61 = .ok (.invokevirtual 51, 3) := by decide +kernel
theorem dX10_copy_64 : decode cX10_copy 64 = .ok (.checkcast 32, 3) := by decide +kernel
theorem dX10_copy_67 : decode cX10_copy 67 = .ok (.putfield 28, 3) := by decide +kernel
theorem dX10_copy_70 : decode cX10_copy 70 = .ok (.aload_n 1, 1) := by decide +kernel
theorem dX10_copy_71 : decode cX10_copy 71 = .ok (.aload_n 0, 1) := by decide +kernel
theorem dX10_copy_72 : decode cX10_copy 72 = .ok (.getfield 33, 3) := by decide +kernel
theorem dX10_copy_75 : decode cX10_copy 75 = .ok (.putfield 33, 3) := by decide +kernel
theorem dX10_copy_78 : decode cX10_copy 78 = .ok (.aload_n 1, 1) := by decide +kernel
theorem dX10_copy_79 : decode cX10_copy 79 = .ok (.aload_n 0, 1) := by decide +kernel
theorem dX10_copy_80 : decode cX10_copy 80 = .ok (.getfield 39, 3) := by decide +kernel
theorem dX10_copy_83 : decode cX10_copy 83 = .ok (.arraylength, 1) := by decide +kernel
theorem dX10_copy_84 : decode cX10_copy 84 = .ok (.anewarray 37, 3) := by decide +kernel
theorem dX10_copy_87 : decode cX10_copy 87 = .ok (.putfield 39, 3) := by decide +kernel
theorem dX10_copy_90 : decode cX10_copy 90 = .ok (.iconst 0, 1) := by decide +kernel
theorem dX10_copy_91 : decode cX10_copy 91 = .ok (.istore_n 2, 1) := by decide +kernel
theorem dX10_copy_92 : decode cX10_copy 92 = .ok (.iload_n 2, 1) := by decide +kernel
theorem dX10_copy_93 : decode cX10_copy 93 = .ok (.aload_n 0, 1) := by decide +kernel
theorem dX10_copy_94 : decode cX10_copy 94 = .ok (.getfield 39, 3) := by decide +kernel
theorem dX10_copy_97 : decode cX10_copy 97 = .ok (.arraylength, 1) := by decide +kernel
theorem dX10_copy_98 : decode cX10_copy 98 = .ok (.if_icmp .ge 24, 3) := by decide +kernel
theorem dX10_copy_101 : decode cX10_copy 101 = .ok (.aload_n 1, 1) := by decide +kernel
theorem dX10_copy_102 : decode cX10_copy 102 = .ok (.getfield 39, 3) := by decide +kernel
theorem dX10_copy_105 : decode cX10_copy 105 = .ok (.iload_n 2, 1) := by decide +kernel
theorem dX10_copy_106 : decode cX10_copy 106 = .ok (.aload_n 0, 1) := by decide +kernel
theorem dX10_copy_107 : decode cX10_copy 107 = .ok (.getfield 39, 3) := by decide +kernel
theorem dX10_copy_110 : decode cX10_copy 110 = .ok (.iload_n 2, 1) := by decide +kernel
theorem dX10_copy_111 : decode cX10_copy 111 = .ok (.aaload, 1) := by decide +kernel
theorem dX10_copy_112 : decode cX10_copy 112 = .ok (.invokevirtual 55, 3) := by decide +kernel
theorem dX10_copy_115 : decode cX10_copy 115 = .ok (.aastore, 1) := by decide +kernel
theorem dX10_copy_116 : decode cX10_copy 116 = .ok (.iinc 2 1, 3) := by decide +kernel
theorem dX10_copy_119 : decode cX10_copy 119 = .ok (.goto (-27), 3) := by decide +kernel
theorem dX10_copy_122 : decode cX10_copy 122 = .ok (.aload_n 1, 1) := by decide +kernel
theorem dX10_copy_123 : decode cX10_copy 123 = .ok (.aload_n 0, 1) := by decide +kernel
theorem dX10_copy_124 : decode cX10_copy 124 = .ok (.getfield 59, 3) := by decide +kernel
theorem dX10_copy_127 : decode cX10_copy 127 = .ok (.putfield 59, 3) := by decide +kernel
theorem dX10_copy_130 : decode cX10_copy 130 = .ok (.aload_n 1, 1) := by decide +kernel
theorem dX10_copy_131 : decode cX10_copy 131 = .ok (.areturn, 1) := by decide +kernel
set_option maxRecDepth 20000 in
theorem ggX10_lay_J4_init_da8c8 : GoodIn wsX10_lay wsJ4_init_da8c8 := goodIn_r _ [11, 12, 13, 14, 15, 16, 17, 18, 19, 20, 21, 22, 23, 24, 25, 26, 27, 28, 29, 30, 227, 228, 229, 230] (by decide +kernel) (by decide +kernel)
set_option maxRecDepth 20000 in
theorem gX10_lay_J4_init_da8c8 : GoodIn wsX10_lay (wsJ4_init_da8c8) := ggX10_lay_J4_init_da8c8
set_option maxRecDepth 20000 in
theorem ggX10_lay_J4_append_15ec4 : GoodIn wsX10_lay wsJ4_append_15ec4 := goodIn_r _ [34, 35, 36, 37, 38, 14, 39, 40, 41, 42, 43, 44, 45, 21, 46, 47, 48, 49, 50, 22, 51, 52, 53, 54, 55, 56, 57, 58, 59, 60, 61, 62, 63, 64, 65, 66, 67, 68, 69, 70, 71, 72, 73, 74, 75, 76, 77, 78, 20, 79, 80, 81, 82, 83, 84, 85, 86, 87, 88, 89, 90, 19, 91, 92, 25, 93, 94, 95, 96, 97, 98, 99, 100, 101, 102, 103, 104, 105, 106, 107, 108, 109, 110, 111, 112, 113, 114, 115, 116, 117, 118, 119, 120, 121, 122, 123, 124, 125, 126, 127, 128, 129, 130, 131, 132, 133, 134, 135, 136, 137, 138, 139, 140, 141, 23, 24, 26, 27, 28, 29, 30, 142, 143, 144, 145, 146, 147, 148, 149, 150, 151, 152, 153, 154, 155, 156, 157, 158, 159, 160, 161, 162, 163, 227, 228, 229, 230, 231, 232, 233, 234] (by decide +kernel) (by decide +kernel)
set_option maxRecDepth 20000 in
theorem gX10_lay_J4_append_15ec4 : GoodIn wsX10_lay (wsV RX10 69 RJ4 yJ4_append_15ec4 wsJ4_append_15ec4) := goodIn_app (goodIn_of _ (by decide +kernel)) ggX10_lay_J4_append_15ec4
set_option maxRecDepth 20000 in
theorem ggX10_lay_J4_toString_0e30d : GoodIn wsX10_lay wsJ4_toString_0e30d := goodIn_r _ [167, 168, 169, 103, 170, 171, 172, 173, 174, 175, 176, 17, 18, 125, 119, 124, 177, 178, 179, 180, 181, 14, 182, 21, 183, 184, 185, 186, 187, 8, 188, 189, 37, 190, 191, 40, 192, 87, 88, 89, 90, 19, 22, 193, 194, 71, 195, 73, 74, 75, 76, 77, 78, 196, 197, 198, 20, 79, 80, 63, 81, 82, 83, 84, 85, 199, 200, 201, 202, 7, 203, 204, 25, 205, 206, 207, 208, 149, 150, 151, 98, 99, 100, 152, 153, 154, 105, 155, 156, 108, 157, 209, 210, 211, 94, 113, 114, 27, 28, 29, 30, 212, 213, 214, 215, 231, 232, 233, 234, 227, 228, 229, 230] (by decide +kernel) (by decide +kernel)
set_option maxRecDepth 20000 in
theorem gX10_lay_J4_toString_0e30d : GoodIn wsX10_lay (wsV RX10 77 RJ4 yJ4_toString_0e30d wsJ4_toString_0e30d) := goodIn_app (goodIn_of _ (by decide +kernel)) ggX10_lay_J4_toString_0e30d
theorem dX10_lay_0 : decode cX10_lay 0 = .ok (.aload_n 0, 1) := by decide +kernel
theorem dX10_lay_1 : decode cX10_lay 1 = .ok (.iload_n 1, 1) := by decide +kernel
theorem dX10_lay_2 : decode cX10_lay 2 = .ok (.aload_n 0, 1) := by decide +kernel
theorem dX10_lay_3 : decode cX10_lay 3 = .ok (.getfield 13, 3) := by decide +kernel
theorem dX10_lay_6 : decode cX10_lay 6 = .ok (.multianewarray 63 2, 4) := by decide +kernel
theorem dX10_lay_10 : decode cX10_lay 10 = .ok (.putfield 24, 3) := by decide +kernel
theorem dX10_lay_13 : decode cX10_lay 13 = .ok (.aload_n 0, 1) := by decide +kernel
theorem dX10_lay_14 : decode cX10_lay 14 = .ok (.iload_n 1, 1) := by decide +kernel
theorem dX10_lay_15 : decode cX10_lay 15 = .ok (.newarray .int, 2) := by decide +kernel
theorem dX10_lay_17 : decode cX10_lay 17 = .ok (.putfield 28, 3) := by decide +kernel
theorem dX10_lay_20 : decode cX10_lay 20 = .ok (.iconst 0, 1) := by decide +kernel
theorem dX10_lay_21 : decode cX10_lay 21 = .ok (.istore_n 2, 1) := by decide +kernel
theorem dX10_lay_22 : decode cX10_lay 22 = .ok (.iload_n 2, 1) := by decide +kernel
theorem dX10_lay_23 : decode cX10_lay 23 = .ok (.iload_n 1, 1) := by decide +kernel
theorem dX10_lay_24 : decode cX10_lay 24 = .ok (.if_icmp .ge 91, 3) := by decide +kernel
theorem dX10_lay_27 : decode cX10_lay 27 = .ok (.iconst 0, 1) := by decide +kernel
theorem dX10_lay_28 : decode cX10_lay 28 = .ok (.istore_n 3, 1) := by decide +kernel
theorem dX10_lay_29 : decode cX10_lay 29 = .ok (.iload_n 3, 1) := by decide +kernel
theorem dX10_lay_30 : decode cX10_lay 30 = .ok (.aload_n 0, 1) := by decide +kernel
theorem dX10_lay_31 : decode cX10_lay 31 = .ok (.getfield 13, 3) := by decide +kernel
theorem dX10_lay_34 : decode cX10_lay 34 = .ok (.if_icmp .ge 75, 3) := by decide +kernel
theorem dX10_lay_37 : decode cX10_lay 37 = .ok (.ldc 64, 2) := by decide +kernel
theorem dX10_lay_39 : decode cX10_lay 39 = .ok (.astore 4, 2) := by decide +kernel
theorem dX10_lay_41 : decode cX10_lay 41 = .ok (.iconst 0, 1) := by decide +kernel
theorem dX10_lay_42 : decode cX10_lay 42 = .ok (.istore 5, 2) := by decide +kernel
theorem dX10_lay_44 : decode cX10_lay 44 = .ok (.iload 5, 2) := by decide +kernel
theorem dX10_lay_46 : decode cX10_lay 46 = .ok (.aload_n 0, 1) := by decide +kernel
theorem dX10_lay_47 : decode cX10_lay 47 = .ok (.getfield 7, 3) := by decide +kernel
theorem dX10_lay_50 : decode cX10_lay 50 = .ok (.if_icmp .ge 43, 3) := by decide +kernel
theorem dX10_lay_53 : decode cX10_lay 53 = .ok (.new 66, 3) := by decide +kernel
theorem dX10_lay_56 : decode cX10_lay 56 = .ok (.dup, 1) := by decide +kernel
theorem dX10_lay_57 : decode cX10_lay 57 = .ok (.invokespecial 68, 3) := by decide +kernel
theorem dX10_lay_60 : decode cX10_lay 60 = .ok (.aload 4, 2) := by decide +kernel
theorem dX10_lay_62 : decode cX10_lay 62 = .ok (.invokevirtual 69, 3) := by decide +kernel
theorem dX10_lay_65 : decode cX10_lay 65 = .ok (.iload_n 2, 1) := by decide +kernel
theorem dX10_lay_66 : decode cX10_lay 66 = .ok (.iconst 1, 1) := by decide +kernel
theorem dX10_lay_67 : decode cX10_lay 67 = .ok (.iadd, 1) := by decide +kernel
theorem dX10_lay_68 : decode cX10_lay 68 = .ok (.iload_n 1, 1) := by decide +kernel
theorem dX10_lay_69 : decode cX10_lay 69 = .ok (.if_icmp .ge 8, 3) := by decide +kernel
theorem dX10_lay_72 : decode cX10_lay 72 = .ok (.ldc 73, 2) := by decide +kernel
theorem dX10_lay_74 : decode cX10_lay 74 = .ok (.goto 5, 3) := by decide +kernel
theorem dX10_lay_77 : decode cX10_lay 77 = .ok (.ldc 75, 2) := by decide +kernel
theorem dX10_lay_79 : decode cX10_lay 79 = .ok (.invokevirtual 69, 3) := by decide +kernel
theorem dX10_lay_82 : decode cX10_lay 82 = .ok (.invokevirtual 77, 3) := by decide +kernel
theorem dX10_lay_85 : decode cX10_lay 85 = .ok (.astore 4, 2) := by decide +kernel
theorem dX10_lay_87 : decode cX10_lay 87 = .ok (.iinc 5 1, 3) := by decide +kernel
theorem dX10_lay_90 : decode cX10_lay 90 = .ok (.goto (-46), 3) := by decide +kernel
theorem dX10_lay_93 : decode cX10_lay 93 = .ok (.aload_n 0, 1) := by decide +kernel
theorem dX10_lay_94 : decode cX10_lay 94 = .ok (.getfield 24, 3) := by decide +kernel
theorem dX10_lay_97 : decode cX10_lay 97 = .ok (.iload_n 2, 1) := by decide +kernel
theorem dX10_lay_98 : decode cX10_lay 98 = .ok (.aaload, 1) := by decide +kernel
theorem dX10_lay_99 : decode cX10_lay 99 = .ok (.iload_n 3, 1) := by decide +kernel
theorem dX10_lay_100 : decode cX10_lay 100 = .ok (.aload 4, 2) := by decide +kernel
theorem dX10_lay_102 : decode cX10_lay 102 = .ok (.aastore, 1) := by decide +kernel
theorem dX10_lay_103 : decode cX10_lay 103 = .ok (.iinc 3 1, 3) := by decide +kernel
theorem dX10_lay_106 : decode cX10_lay 106 = .ok (.goto (-77), 3) := by decide +kernel
theorem dX10_lay_109 : decode cX10_lay 109 = .ok (.iinc 2 1, 3) := by decide +kernel
theorem dX10_lay_112 : decode cX10_lay 112 = .ok (.goto (-90), 3) := by decide +kernel
theorem dX10_lay_115 : decode cX10_lay 115 = .ok (.aload_n 0, 1) := by decide +kernel
theorem dX10_lay_116 : decode cX10_lay 116 = .ok (.areturn, 1) := by decide +kernel
set_option maxRecDepth 20000 in
theorem ggX10_stands_J0_charAt_5068e : GoodIn wsX10_stands wsJ0_charAt_5068e := goodIn_r _ [8, 9, 10, 11, 12, 7, 13, 14, 15, 16, 17, 18, 19, 20, 21, 22, 23, 24, 25, 26, 27, 28, 29, 30, 31, 32, 33, 34, 35, 36, 37, 38, 39, 40, 41, 42, 43, 44, 56, 57, 58, 59] (by decide +kernel) (by decide +kernel)
set_option maxRecDepth 20000 in
theorem gX10_stands_J0_charAt_5068e : GoodIn wsX10_stands (wsV RX10 81 RJ0 yJ0_charAt_5068e wsJ0_charAt_5068e) := goodIn_app (goodIn_of _ (by decide +kernel)) ggX10_stands_J0_charAt_5068e
theorem dX10_stands_0 : decode cX10_stands 0 = .ok (.iload_n 3, 1) := by decide +kernel
theorem dX10_stands_1 : decode cX10_stands 1 = .ok (.aload_n 0, 1) := by decide +kernel
theorem dX10_stands_2 : decode cX10_stands 2 = .ok (.getfield 28, 3) := by decide +kernel
theorem dX10_stands_5 : decode cX10_stands 5 = .ok (.iload_n 1, 1) := by decide +kernel
theorem dX10_stands_6 : decode cX10_stands 6 = .ok (.iaload, 1) := by decide +kernel
theorem dX10_stands_7 : decode cX10_stands 7 = .ok (.iadd, 1) := by decide +kernel
theorem dX10_stands_8 : decode cX10_stands 8 = .ok (.aload_n 0, 1) := by decide +kernel
theorem dX10_stands_9 : decode cX10_stands 9 = .ok (.getfield 13, 3) := by decide +kernel
theorem dX10_stands_12 : decode cX10_stands 12 = .ok (.if_icmp .lt 8, 3) := by decide +kernel
theorem dX10_stands_15 : decode cX10_stands 15 = .ok (.bipush 46, 2) := by decide +kernel
theorem dX10_stands_17 : decode cX10_stands 17 = .ok (.goto 22, 3) := by decide +kernel
theorem dX10_stands_20 : decode cX10_stands 20 = .ok (.aload_n 0, 1) := by decide +kernel
theorem dX10_stands_21 : decode cX10_stands 21 = .ok (.getfield 24, 3) := by decide +kernel
theorem dX10_stands_24 : decode cX10_stands 24 = .ok (.iload_n 1, 1) := by decide +kernel
theorem dX10_stands_25 : decode cX10_stands 25 = .ok (.aaload, 1) := by decide +kernel
theorem dX10_stands_26 : decode cX10_stands 26 = .ok (.iload_n 3, 1) := by decide +kernel
theorem dX10_stands_27 : decode cX10_stands 27 = .ok (.aload_n 0, 1) := by decide +kernel
theorem dX10_stands_28 : decode cX10_stands 28 = .ok (.getfield 28, 3) := by decide +kernel
theorem dX10_stands_31 : decode cX10_stands 31 = .ok (.iload_n 1, 1) := by decide +kernel
theorem dX10_stands_32 : decode cX10_stands 32 = .ok (.iaload, 1) := by decide +kernel
theorem dX10_stands_33 : decode cX10_stands 33 = .ok (.iadd, 1) := by decide +kernel
theorem dX10_stands_34 : decode cX10_stands 34 = .ok (.aaload, 1) := by decide +kernel
theorem dX10_stands_35 : decode cX10_stands 35 = .ok (.iload_n 2, 1) := by decide +kernel
theorem dX10_stands_36 : decode cX10_stands 36 = .ok (.invokevirtual 81, 3) := by decide +kernel
theorem dX10_stands_39 : decode cX10_stands 39 = .ok (.ireturn, 1) := by decide +kernel
theorem dX10_on_0 : decode cX10_on 0 = .ok (.iload_n 1, 1) := by decide +kernel
theorem dX10_on_1 : decode cX10_on 1 = .ok (.iload_n 2, 1) := by decide +kernel
theorem dX10_on_2 : decode cX10_on 2 = .ok (.iload_n 1, 1) := by decide +kernel
theorem dX10_on_3 : decode cX10_on 3 = .ok (.isub, 1) := by decide +kernel
theorem dX10_on_4 : decode cX10_on 4 = .ok (.iload_n 3, 1) := by decide +kernel
theorem dX10_on_5 : decode cX10_on 5 = .ok (.iconst 1, 1) := by decide +kernel
theorem dX10_on_6 : decode cX10_on 6 = .ok (.iadd, 1) := by decide +kernel
theorem dX10_on_7 : decode cX10_on 7 = .ok (.imul, 1) := by decide +kernel
theorem dX10_on_8 : decode cX10_on 8 = .ok (.aload_n 0, 1) := by decide +kernel
theorem dX10_on_9 : decode cX10_on 9 = .ok (.getfield 24, 3) := by decide +kernel
theorem dX10_on_12 : decode cX10_on 12 = .ok (.arraylength, 1) := by decide +kernel
theorem dX10_on_13 : decode cX10_on 13 = .ok (.idiv, 1) := by decide +kernel
theorem dX10_on_14 : decode cX10_on 14 = .ok (.iadd, 1) := by decide +kernel
theorem dX10_on_15 : decode cX10_on 15 = .ok (.ireturn, 1) := by decide +kernel
set_option maxRecDepth 20000 in
theorem ggX10_sees_X10_on : GoodIn wsX10_sees wsX10_on := goodIn_r _ [7, 1, 55, 56, 57, 58, 59, 60, 61, 62, 63, 64, 65] (by decide +kernel) (by decide +kernel)
set_option maxRecDepth 20000 in
theorem gX10_sees_X10_on : GoodIn wsX10_sees (wsV RX10 91 RX10 yX10_on wsX10_on) := goodIn_app (goodIn_of _ (by decide +kernel)) ggX10_sees_X10_on
set_option maxRecDepth 20000 in
theorem ggX10_sees_X10_stands : GoodIn wsX10_sees wsX10_stands := goodIn_r _ [11, 12, 13, 1, 14, 15, 16, 17, 18, 19, 20, 21, 22, 23, 24, 25, 26, 27, 28, 29, 30, 31, 32, 33, 34, 35, 36, 37, 38, 39, 40, 41, 42, 43, 44, 45, 46, 47, 48, 49, 50, 51, 52, 53, 54, 55, 56, 57, 58, 59, 60, 61, 62, 63, 64, 65, 66, 67, 68, 69] (by decide +kernel) (by decide +kernel)
set_option maxRecDepth 20000 in
theorem gX10_sees_X10_stands : GoodIn wsX10_sees (wsV RX10 87 RX10 yX10_stands wsX10_stands) := goodIn_app (goodIn_of _ (by decide +kernel)) ggX10_sees_X10_stands
theorem dX10_sees_0 : decode cX10_sees 0 = .ok (.iconst 0, 1) := by decide +kernel
theorem dX10_sees_1 : decode cX10_sees 1 = .ok (.istore 4, 2) := by decide +kernel
theorem dX10_sees_3 : decode cX10_sees 3 = .ok (.iload 4, 2) := by decide +kernel
theorem dX10_sees_5 : decode cX10_sees 5 = .ok (.aload_n 0, 1) := by decide +kernel
theorem dX10_sees_6 : decode cX10_sees 6 = .ok (.getfield 24, 3) := by decide +kernel
theorem dX10_sees_9 : decode cX10_sees 9 = .ok (.arraylength, 1) := by decide +kernel
theorem dX10_sees_10 : decode cX10_sees 10 = .ok (.if_icmp .ge 66, 3) := by decide +kernel
theorem dX10_sees_13 : decode cX10_sees 13 = .ok (.aload_n 0, 1) := by decide +kernel
theorem dX10_sees_14 : decode cX10_sees 14 = .ok (.iload 4, 2) := by decide +kernel
theorem dX10_sees_16 : decode cX10_sees 16 = .ok (.aload_n 0, 1) := by decide +kernel
theorem dX10_sees_17 : decode cX10_sees 17 = .ok (.aload_n 0, 1) := by decide +kernel
theorem dX10_sees_18 : decode cX10_sees 18 = .ok (.getfield 33, 3) := by decide +kernel
theorem dX10_sees_21 : decode cX10_sees 21 = .ok (.iload_n 1, 1) := by decide +kernel
theorem dX10_sees_22 : decode cX10_sees 22 = .ok (.aaload, 1) := by decide +kernel
theorem dX10_sees_23 : decode cX10_sees 23 = .ok (.iconst 0, 1) := by decide +kernel
theorem dX10_sees_24 : decode cX10_sees 24 = .ok (.iaload, 1) := by decide +kernel
theorem dX10_sees_25 : decode cX10_sees 25 = .ok (.iload_n 2, 1) := by decide +kernel
theorem dX10_sees_26 : decode cX10_sees 26 = .ok (.iload 4, 2) := by decide +kernel
theorem dX10_sees_28 : decode cX10_sees 28 = .ok (.invokevirtual 91, 3) := by decide +kernel
theorem dX10_sees_31 : decode cX10_sees 31 = .ok (.aload_n 0, 1) := by decide +kernel
theorem dX10_sees_32 : decode cX10_sees 32 = .ok (.aload_n 0, 1) := by decide +kernel
theorem dX10_sees_33 : decode cX10_sees 33 = .ok (.getfield 33, 3) := by decide +kernel
theorem dX10_sees_36 : decode cX10_sees 36 = .ok (.iload_n 1, 1) := by decide +kernel
theorem dX10_sees_37 : decode cX10_sees 37 = .ok (.aaload, 1) := by decide +kernel
theorem dX10_sees_38 : decode cX10_sees 38 = .ok (.iconst 1, 1) := by decide +kernel
theorem dX10_sees_39 : decode cX10_sees 39 = .ok (.iaload, 1) := by decide +kernel
theorem dX10_sees_40 : decode cX10_sees 40 = .ok (.iload_n 3, 1) := by decide +kernel
theorem dX10_sees_41 : decode cX10_sees 41 = .ok (.iload 4, 2) := by decide +kernel
theorem dX10_sees_43 : decode cX10_sees 43 = .ok (.invokevirtual 91, 3) := by decide +kernel
theorem dX10_sees_46 : decode cX10_sees 46 = .ok (.invokevirtual 87, 3) := by decide +kernel
theorem dX10_sees_49 : decode cX10_sees 49 = .ok (.istore 5, 2) := by decide +kernel
theorem dX10_sees_51 : decode cX10_sees 51 = .ok (.iload 5, 2) := by decide +kernel
theorem dX10_sees_53 : decode cX10_sees 53 = .ok (.bipush 46, 2) := by decide +kernel
theorem dX10_sees_55 : decode cX10_sees 55 = .ok (.if_icmp .eq 15, 3) := by decide +kernel
theorem dX10_sees_58 : decode cX10_sees 58 = .ok (.bipush 100, 2) := by decide +kernel
theorem dX10_sees_60 : decode cX10_sees 60 = .ok (.iload 4, 2) := by decide +kernel
theorem dX10_sees_62 : decode cX10_sees 62 = .ok (.imul, 1) := by decide +kernel
theorem dX10_sees_63 : decode cX10_sees 63 = .ok (.iload 5, 2) := by decide +kernel
theorem dX10_sees_65 : decode cX10_sees 65 = .ok (.iadd, 1) := by decide +kernel
theorem dX10_sees_66 : decode cX10_sees 66 = .ok (.bipush 97, 2) := by decide +kernel
theorem dX10_sees_68 : decode cX10_sees 68 = .ok (.isub, 1) := by decide +kernel
theorem dX10_sees_69 : decode cX10_sees 69 = .ok (.ireturn, 1) := by decide +kernel
theorem dX10_sees_70 : decode cX10_sees 70 = .ok (.iinc 4 1, 3) := by decide +kernel
theorem dX10_sees_73 : decode cX10_sees 73 = .ok (.goto (-70), 3) := by decide +kernel
theorem dX10_sees_76 : decode cX10_sees 76 = .ok (.iconst (-1), 1) := by decide +kernel
theorem dX10_sees_77 : decode cX10_sees 77 = .ok (.ireturn, 1) := by decide +kernel
set_option maxRecDepth 20000 in
theorem ggX10_shown_X10_sees : GoodIn wsX10_shown wsX10_sees := goodIn_r _ [8, 9, 10, 11, 12, 13, 7, 14, 15, 16, 17, 18, 19, 3, 20, 21, 22, 23, 24, 25, 26, 27, 28, 29, 30, 31, 32, 33, 34, 35, 36, 37, 38, 39, 40, 41, 42, 43, 44, 45, 46, 47, 48, 49, 50, 51, 52, 53, 54, 55, 56, 57, 58, 59, 60, 61, 62, 63, 64, 65, 66, 67, 68, 69, 70, 71, 72, 73, 74, 75] (by decide +kernel) (by decide +kernel)
set_option maxRecDepth 20000 in
theorem gX10_shown_X10_sees : GoodIn wsX10_shown (wsV RX10 95 RX10 yX10_sees wsX10_sees) := goodIn_app (goodIn_of _ (by decide +kernel)) ggX10_shown_X10_sees
theorem dX10_shown_0 : decode cX10_shown 0 = .ok (.iconst 0, 1) := by decide +kernel
theorem dX10_shown_1 : decode cX10_shown 1 = .ok (.istore_n 3, 1) := by decide +kernel
theorem dX10_shown_2 : decode cX10_shown 2 = .ok (.iconst 0, 1) := by decide +kernel
theorem dX10_shown_3 : decode cX10_shown 3 = .ok (.istore 4, 2) := by decide +kernel
theorem dX10_shown_5 : decode cX10_shown 5 = .ok (.bipush 26, 2) := by decide +kernel
theorem dX10_shown_7 : decode cX10_shown 7 = .ok (.newarray .boolean, 2) := by decide +kernel
theorem dX10_shown_9 : decode cX10_shown 9 = .ok (.astore 5, 2) := by decide +kernel
theorem dX10_shown_11 : decode cX10_shown 11 = .ok (.iconst 0, 1) := by decide +kernel
theorem dX10_shown_12 : decode cX10_shown 12 = .ok (.istore 6, 2) := by decide +kernel
theorem dX10_shown_14 : decode cX10_shown 14 = .ok (.iload 6, 2) := by decide +kernel
theorem dX10_shown_16 : decode cX10_shown 16 = .ok (.aload_n 0, 1) := by decide +kernel
theorem dX10_shown_17 : decode cX10_shown 17 = .ok (.getfield 7, 3) := by decide +kernel
theorem dX10_shown_20 : decode cX10_shown 20 = .ok (.if_icmp .ge 76, 3) := by decide +kernel
theorem dX10_shown_23 : decode cX10_shown 23 = .ok (.iconst 0, 1) := by decide +kernel
theorem dX10_shown_24 : decode cX10_shown 24 = .ok (.istore 7, 2) := by decide +kernel
theorem dX10_shown_26 : decode cX10_shown 26 = .ok (.iload 7, 2) := by decide +kernel
theorem dX10_shown_28 : decode cX10_shown 28 = .ok (.aload_n 0, 1) := by decide +kernel
theorem dX10_shown_29 : decode cX10_shown 29 = .ok (.getfield 13, 3) := by decide +kernel
theorem dX10_shown_32 : decode cX10_shown 32 = .ok (.if_icmp .ge 58, 3) := by decide +kernel
theorem dX10_shown_35 : decode cX10_shown 35 = .ok (.aload_n 0, 1) := by decide +kernel
theorem dX10_shown_36 : decode cX10_shown 36 = .ok (.iload_n 1, 1) := by decide +kernel
theorem dX10_shown_37 : decode cX10_shown 37 = .ok (.iload 6, 2) := by decide +kernel
theorem dX10_shown_39 : decode cX10_shown 39 = .ok (.iload 7, 2) := by decide +kernel
theorem dX10_shown_41 : decode cX10_shown 41 = .ok (.invokevirtual 95, 3) := by decide +kernel
theorem dX10_shown_44 : decode cX10_shown 44 = .ok (.istore 8, 2) := by decide +kernel
theorem dX10_shown_46 : decode cX10_shown 46 = .ok (.iload_n 3, 1) := by decide +kernel
theorem dX10_shown_47 : decode cX10_shown 47 = .ok (.iload 8, 2) := by decide +kernel
theorem dX10_shown_49 : decode cX10_shown 49 = .ok (.bipush 100, 2) := by decide +kernel
theorem dX10_shown_51 : decode cX10_shown 51 = .ok (.irem, 1) := by decide +kernel
theorem dX10_shown_52 : decode cX10_shown 52 = .ok (.iload_n 2, 1) := by decide +kernel
theorem dX10_shown_53 : decode cX10_shown 53 = .ok (.if_icmp .ne 7, 3) := by decide +kernel
theorem dX10_shown_56 : decode cX10_shown 56 = .ok (.iconst 1, 1) := by decide +kernel
theorem dX10_shown_57 : decode cX10_shown 57 = .ok (.goto 4, 3) := by decide +kernel
theorem dX10_shown_60 : decode cX10_shown 60 = .ok (.iconst 0, 1) := by decide +kernel
theorem dX10_shown_61 : decode cX10_shown 61 = .ok (.iadd, 1) := by decide +kernel
theorem dX10_shown_62 : decode cX10_shown 62 = .ok (.istore_n 3, 1) := by decide +kernel
theorem dX10_shown_63 : decode cX10_shown 63 = .ok (.iload 4, 2) := by decide +kernel
theorem dX10_shown_65 : decode cX10_shown 65 = .ok (.iload 8, 2) := by decide +kernel
theorem dX10_shown_67 : decode cX10_shown 67 = .ok (.bipush 100, 2) := by decide +kernel
theorem dX10_shown_69 : decode cX10_shown 69 = .ok (.idiv, 1) := by decide +kernel
theorem dX10_shown_70 : decode cX10_shown 70 = .ok (.iconst 1, 1) := by decide +kernel
theorem dX10_shown_71 : decode cX10_shown 71 = .ok (.iadd, 1) := by decide +kernel
theorem dX10_shown_72 : decode cX10_shown 72 = .ok (.iadd, 1) := by decide +kernel
theorem dX10_shown_73 : decode cX10_shown 73 = .ok (.istore 4, 2) := by decide +kernel
theorem dX10_shown_75 : decode cX10_shown 75 = .ok (.aload 5, 2) := by decide +kernel
theorem dX10_shown_77 : decode cX10_shown 77 = .ok (.iload 8, 2) := by decide +kernel
theorem dX10_shown_79 : decode cX10_shown 79 = .ok (.bipush 100, 2) := by decide +kernel
theorem dX10_shown_81 : decode cX10_shown 81 = .ok (.irem, 1) := by decide +kernel
theorem dX10_shown_82 : decode cX10_shown 82 = .ok (.iconst 1, 1) := by decide +kernel
theorem dX10_shown_83 : decode cX10_shown 83 = .ok (.bastore, 1) := by decide +kernel
theorem dX10_shown_84 : decode cX10_shown 84 = .ok (.iinc 7 1, 3) := by decide +kernel
theorem dX10_shown_87 : decode cX10_shown 87 = .ok (.goto (-61), 3) := by decide +kernel
theorem dX10_shown_90 : decode cX10_shown 90 = .ok (.iinc 6 1, 3) := by decide +kernel
theorem dX10_shown_93 : decode cX10_shown 93 = .ok (.goto (-79), 3) := by decide +kernel
theorem dX10_shown_96 : decode cX10_shown 96 = .ok (.iconst 0, 1) := by decide +kernel
theorem dX10_shown_97 : decode cX10_shown 97 = .ok (.istore 6, 2) := by decide +kernel
theorem dX10_shown_99 : decode cX10_shown 99 = .ok (.aload 5, 2) := by decide +kernel
theorem dX10_shown_101 : decode cX10_shown 101 = .ok (.astore 7, 2) := by decide +kernel
theorem dX10_shown_103 : decode cX10_shown 103 = .ok (.aload 7, 2) := by decide +kernel
theorem dX10_shown_105 : decode cX10_shown 105 = .ok (.arraylength, 1) := by decide +kernel
theorem dX10_shown_106 : decode cX10_shown 106 = .ok (.istore 8, 2) := by decide +kernel
theorem dX10_shown_108 : decode cX10_shown 108 = .ok (.iconst 0, 1) := by decide +kernel
theorem dX10_shown_109 : decode cX10_shown 109 = .ok (.istore 9, 2) := by decide +kernel
theorem dX10_shown_111 : decode cX10_shown 111 = .ok (.iload 9, 2) := by decide +kernel
theorem dX10_shown_113 : decode cX10_shown 113 = .ok (.iload 8, 2) := by decide +kernel
theorem dX10_shown_115 : decode cX10_shown 115 = .ok (.if_icmp .ge 31, 3) := by decide +kernel
theorem dX10_shown_118 : decode cX10_shown 118 = .ok (.aload 7, 2) := by decide +kernel
theorem dX10_shown_120 : decode cX10_shown 120 = .ok (.iload 9, 2) := by decide +kernel
theorem dX10_shown_122 : decode cX10_shown 122 = .ok (.baload, 1) := by decide +kernel
theorem dX10_shown_123 : decode cX10_shown 123 = .ok (.istore 10, 2) := by decide +kernel
theorem dX10_shown_125 : decode cX10_shown 125 = .ok (.iload 6, 2) := by decide +kernel
theorem dX10_shown_127 : decode cX10_shown 127 = .ok (.iload 10, 2) := by decide +kernel
theorem dX10_shown_129 : decode cX10_shown 129 = .ok (.ifCond .eq 7, 3) := by decide +kernel
theorem dX10_shown_132 : decode cX10_shown 132 = .ok (.iconst 1, 1) := by decide +kernel
theorem dX10_shown_133 : decode cX10_shown 133 = .ok (.goto 4, 3) := by decide +kernel
theorem dX10_shown_136 : decode cX10_shown 136 = .ok (.iconst 0, 1) := by decide +kernel
theorem dX10_shown_137 : decode cX10_shown 137 = .ok (.iadd, 1) := by decide +kernel
theorem dX10_shown_138 : decode cX10_shown 138 = .ok (.istore 6, 2) := by decide +kernel
theorem dX10_shown_140 : decode cX10_shown 140 = .ok (.iinc 9 1, 3) := by decide +kernel
theorem dX10_shown_143 : decode cX10_shown 143 = .ok (.goto (-32), 3) := by decide +kernel
theorem dX10_shown_146 : decode cX10_shown 146 = .ok (.iload_n 2, 1) := by decide +kernel
theorem dX10_shown_147 : decode cX10_shown 147 = .ok (.ifCond .lt 7, 3) := by decide +kernel
theorem dX10_shown_150 : decode cX10_shown 150 = .ok (.iload_n 3, 1) := by decide +kernel
theorem dX10_shown_151 : decode cX10_shown 151 = .ok (.goto 25, 3) := by decide +kernel
theorem dX10_shown_154 : decode cX10_shown 154 = .ok (.iload_n 2, 1) := by decide +kernel
theorem dX10_shown_155 : decode cX10_shown 155 = .ok (.iconst (-1), 1) := by decide +kernel
theorem dX10_shown_156 : decode cX10_shown 156 = .ok (.if_icmp .ne 8, 3) := by decide +kernel
theorem dX10_shown_159 : decode cX10_shown 159 = .ok (.iload 6, 2) := by decide +kernel
theorem dX10_shown_161 : decode cX10_shown 161 = .ok (.goto 15, 3) := by decide +kernel
theorem dX10_shown_164 : decode cX10_shown 164 = .ok (.iload 4, 2) := by decide +kernel
theorem dX10_shown_166 : decode cX10_shown 166 = .ok (.aload_n 0, 1) := by decide +kernel
theorem dX10_shown_167 : decode cX10_shown 167 = .ok (.getfield 7, 3) := by decide +kernel
theorem dX10_shown_170 : decode cX10_shown 170 = .ok (.aload_n 0, 1) := by decide +kernel
theorem dX10_shown_171 : decode cX10_shown 171 = .ok (.getfield 13, 3) := by decide +kernel
theorem dX10_shown_174 : decode cX10_shown 174 = .ok (.imul, 1) := by decide +kernel
theorem dX10_shown_175 : decode cX10_shown 175 = .ok (.idiv, 1) := by decide +kernel
theorem dX10_shown_176 : decode cX10_shown 176 = .ok (.ireturn, 1) := by decide +kernel
set_option maxRecDepth 20000 in
theorem ggX10_price_X10_shown : GoodIn wsX10_price wsX10_shown := goodIn_r _ [15, 16, 17, 18, 19, 20, 21, 14, 22, 23, 24, 25, 26, 27, 28, 29, 30, 31, 32, 33, 34, 35, 36, 37, 38, 39, 40, 41, 42, 43, 44, 45, 46, 47, 48, 49, 50, 51, 52, 53, 54, 55, 56, 57, 58, 59, 60, 61, 62, 63, 64, 65, 66, 67, 68, 69, 70, 71, 72, 73, 74, 89, 90, 91, 92, 93, 94, 95, 96, 97, 98, 99, 100, 101, 102, 103] (by decide +kernel) (by decide +kernel)
set_option maxRecDepth 20000 in
theorem gX10_price_X10_shown : GoodIn wsX10_price (wsV RX10 98 RX10 yX10_shown wsX10_shown) := goodIn_app (goodIn_of _ (by decide +kernel)) ggX10_price_X10_shown
set_option maxRecDepth 20000 in
theorem ggX10_price_X8_value : GoodIn wsX10_price wsX8_value := goodIn_r _ [79, 80, 81, 82, 83, 84, 85, 86, 5, 6, 7, 87, 9, 10, 88, 76, 77, 78, 104, 105, 106, 107] (by decide +kernel) (by decide +kernel)
set_option maxRecDepth 20000 in
theorem gX10_price_X8_value : GoodIn wsX10_price (wsV RX10 104 RX8 yX8_value wsX8_value) := goodIn_app (goodIn_of _ (by decide +kernel)) ggX10_price_X8_value
theorem dX10_price_0 : decode cX10_price 0 = .ok (.aload_n 0, 1) := by decide +kernel
theorem dX10_price_1 : decode cX10_price 1 = .ok (.iload_n 2, 1) := by decide +kernel
theorem dX10_price_2 : decode cX10_price 2 = .ok (.iload_n 1, 1) := by decide +kernel
theorem dX10_price_3 : decode cX10_price 3 = .ok (.invokevirtual 98, 3) := by decide +kernel
theorem dX10_price_6 : decode cX10_price 6 = .ok (.istore_n 3, 1) := by decide +kernel
theorem dX10_price_7 : decode cX10_price 7 = .ok (.aload_n 0, 1) := by decide +kernel
theorem dX10_price_8 : decode cX10_price 8 = .ok (.getfield 59, 3) := by decide +kernel
theorem dX10_price_11 : decode cX10_price 11 = .ok (.ifnonnull 7, 3) := by decide +kernel
theorem dX10_price_14 : decode cX10_price 14 = .ok (.iload_n 3, 1) := by decide +kernel
theorem dX10_price_15 : decode cX10_price 15 = .ok (.iconst 1, 1) := by decide +kernel
theorem dX10_price_16 : decode cX10_price 16 = .ok (.iadd, 1) := by decide +kernel
theorem dX10_price_17 : decode cX10_price 17 = .ok (.ireturn, 1) := by decide +kernel
theorem dX10_price_18 : decode cX10_price 18 = .ok (.aload_n 0, 1) := by decide +kernel
theorem dX10_price_19 : decode cX10_price 19 = .ok (.getfield 43, 3) := by decide +kernel
theorem dX10_price_22 : decode cX10_price 22 = .ok (.iconst 0, 1) := by decide +kernel
theorem dX10_price_23 : decode cX10_price 23 = .ok (.iload_n 3, 1) := by decide +kernel
theorem dX10_price_24 : decode cX10_price 24 = .ok (.i2l, 1) := by decide +kernel
theorem dX10_price_25 : decode cX10_price 25 = .ok (.lastore, 1) := by decide +kernel
theorem dX10_price_26 : decode cX10_price 26 = .ok (.aload_n 0, 1) := by decide +kernel
theorem dX10_price_27 : decode cX10_price 27 = .ok (.getfield 43, 3) := by decide +kernel
theorem dX10_price_30 : decode cX10_price 30 = .ok (.iconst 1, 1) := by decide +kernel
theorem dX10_price_31 : decode cX10_price 31 = .ok (.aload_n 0, 1) := by decide +kernel
theorem dX10_price_32 : decode cX10_price 32 = .ok (.iload_n 2, 1) := by decide +kernel
theorem dX10_price_33 : decode cX10_price 33 = .ok (.iconst (-1), 1) := by decide +kernel
theorem dX10_price_34 : decode cX10_price 34 = .ok (.invokevirtual 98, 3) := by decide +kernel
theorem dX10_price_37 : decode cX10_price 37 = .ok (.i2l, 1) := by decide +kernel
theorem dX10_price_38 : decode cX10_price 38 = .ok (.lastore, 1) := by decide +kernel
theorem dX10_price_39 : decode cX10_price 39 = .ok (.aload_n 0, 1) := by decide +kernel
theorem dX10_price_40 : decode cX10_price 40 = .ok (.getfield 43, 3) := by decide +kernel
theorem dX10_price_43 : decode cX10_price 43 = .ok (.iconst 2, 1) := by decide +kernel
theorem dX10_price_44 : decode cX10_price 44 = .ok (.aload_n 0, 1) := by decide +kernel
theorem dX10_price_45 : decode cX10_price 45 = .ok (.iload_n 2, 1) := by decide +kernel
theorem dX10_price_46 : decode cX10_price 46 = .ok (.bipush (-2), 2) := by decide +kernel
theorem dX10_price_48 : decode cX10_price 48 = .ok (.invokevirtual 98, 3) := by decide +kernel
theorem dX10_price_51 : decode cX10_price 51 = .ok (.i2l, 1) := by decide +kernel
theorem dX10_price_52 : decode cX10_price 52 = .ok (.lastore, 1) := by decide +kernel
theorem dX10_price_53 : decode cX10_price 53 = .ok (.aload_n 0, 1) := by decide +kernel
theorem dX10_price_54 : decode cX10_price 54 = .ok (.getfield 43, 3) := by decide +kernel
theorem dX10_price_57 : decode cX10_price 57 = .ok (.iconst 3, 1) := by decide +kernel
theorem dX10_price_58 : decode cX10_price 58 = .ok (.iload_n 2, 1) := by decide +kernel
theorem dX10_price_59 : decode cX10_price 59 = .ok (.i2l, 1) := by decide +kernel
theorem dX10_price_60 : decode cX10_price 60 = .ok (.lastore, 1) := by decide +kernel
theorem dX10_price_61 : decode cX10_price 61 = .ok (.lconst 0, 1) := by decide +kernel
theorem dX10_price_62 : decode cX10_price 62 = .ok (.ldc2_w 102, 3) := by decide +kernel
theorem dX10_price_65 : decode cX10_price 65 = .ok (.aload_n 0, 1) := by decide +kernel
theorem dX10_price_66 : decode cX10_price 66 = .ok (.getfield 59, 3) := by decide +kernel
theorem dX10_price_69 : decode cX10_price 69 = .ok (.aload_n 0, 1) := by decide +kernel
theorem dX10_price_70 : decode cX10_price 70 = .ok (.getfield 43, 3) := by decide +kernel
theorem dX10_price_73 : decode cX10_price 73 = .ok (.invokevirtual 104, 3) := by decide +kernel
theorem dX10_price_76 : decode cX10_price 76 = .ok (.invokestatic 110, 3) := by decide +kernel
theorem dX10_price_79 : decode cX10_price 79 = .ok (.invokestatic 116, 3) := by decide +kernel
theorem dX10_price_82 : decode cX10_price 82 = .ok (.l2i, 1) := by decide +kernel
theorem dX10_price_83 : decode cX10_price 83 = .ok (.ireturn, 1) := by decide +kernel
theorem dX10_canUse_0 : decode cX10_canUse 0 = .ok (.aload_n 0, 1) := by decide +kernel
theorem dX10_canUse_1 : decode cX10_canUse 1 = .ok (.getfield 13, 3) := by decide +kernel
theorem dX10_canUse_4 : decode cX10_canUse 4 = .ok (.iconst 1, 1) := by decide +kernel
theorem dX10_canUse_5 : decode cX10_canUse 5 = .ok (.isub, 1) := by decide +kernel
theorem dX10_canUse_6 : decode cX10_canUse 6 = .ok (.aload_n 0, 1) := by decide +kernel
theorem dX10_canUse_7 : decode cX10_canUse 7 = .ok (.getfield 33, 3) := by decide +kernel
theorem dX10_canUse_10 : decode cX10_canUse 10 = .ok (.iload_n 2, 1) := by decide +kernel
theorem dX10_canUse_11 : decode cX10_canUse 11 = .ok (.aaload, 1) := by decide +kernel
theorem dX10_canUse_12 : decode cX10_canUse 12 = .ok (.iconst 1, 1) := by decide +kernel
theorem dX10_canUse_13 : decode cX10_canUse 13 = .ok (.iaload, 1) := by decide +kernel
theorem dX10_canUse_14 : decode cX10_canUse 14 = .ok (.isub, 1) := by decide +kernel
theorem dX10_canUse_15 : decode cX10_canUse 15 = .ok (.istore_n 3, 1) := by decide +kernel
theorem dX10_canUse_16 : decode cX10_canUse 16 = .ok (.aload_n 1, 1) := by decide +kernel
theorem dX10_canUse_17 : decode cX10_canUse 17 = .ok (.getfield 119, 3) := by decide +kernel
theorem dX10_canUse_20 : decode cX10_canUse 20 = .ok (.iload_n 3, 1) := by decide +kernel
theorem dX10_canUse_21 : decode cX10_canUse 21 = .ok (.isub, 1) := by decide +kernel
theorem dX10_canUse_22 : decode cX10_canUse 22 = .ok (.invokestatic 122, 3) := by decide +kernel
theorem dX10_canUse_25 : decode cX10_canUse 25 = .ok (.aload_n 0, 1) := by decide +kernel
theorem dX10_canUse_26 : decode cX10_canUse 26 = .ok (.getfield 16, 3) := by decide +kernel
theorem dX10_canUse_29 : decode cX10_canUse 29 = .ok (.if_icmp .gt 7, 3) := by decide +kernel
theorem dX10_canUse_32 : decode cX10_canUse 32 = .ok (.iconst 1, 1) := by decide +kernel
theorem dX10_canUse_33 : decode cX10_canUse 33 = .ok (.goto 4, 3) := by decide +kernel
theorem dX10_canUse_36 : decode cX10_canUse 36 = .ok (.iconst 0, 1) := by decide +kernel
theorem dX10_canUse_37 : decode cX10_canUse 37 = .ok (.ireturn, 1) := by decide +kernel
theorem dX10_looker_0 : decode cX10_looker 0 = .ok (.iconst 0, 1) := by decide +kernel
theorem dX10_looker_1 : decode cX10_looker 1 = .ok (.istore_n 2, 1) := by decide +kernel
theorem dX10_looker_2 : decode cX10_looker 2 = .ok (.iload_n 2, 1) := by decide +kernel
theorem dX10_looker_3 : decode cX10_looker 3 = .ok (.aload_n 0, 1) := by decide +kernel
theorem dX10_looker_4 : decode cX10_looker 4 = .ok (.getfield 39, 3) := by decide +kernel
theorem dX10_looker_7 : decode cX10_looker 7 = .ok (.arraylength, 1) := by decide +kernel
theorem dX10_looker_8 : decode cX10_looker 8 = .ok (.if_icmp .ge 37, 3) := by decide +kernel
theorem dX10_looker_11 : decode cX10_looker 11 = .ok (.aload_n 0, 1) := by decide +kernel
theorem dX10_looker_12 : decode cX10_looker 12 = .ok (.getfield 39, 3) := by decide +kernel
theorem dX10_looker_15 : decode cX10_looker 15 = .ok (.iload_n 2, 1) := by decide +kernel
theorem dX10_looker_16 : decode cX10_looker 16 = .ok (.aaload, 1) := by decide +kernel
theorem dX10_looker_17 : decode cX10_looker 17 = .ok (.getfield 126, 3) := by decide +kernel
theorem dX10_looker_20 : decode cX10_looker 20 = .ok (.iconst 1, 1) := by decide +kernel
theorem dX10_looker_21 : decode cX10_looker 21 = .ok (.if_icmp .ne 18, 3) := by decide +kernel
theorem dX10_looker_24 : decode cX10_looker 24 = .ok (.aload_n 0, 1) := by decide +kernel
theorem dX10_looker_25 : decode cX10_looker 25 = .ok (.getfield 39, 3) := by decide +kernel
theorem dX10_looker_28 : decode cX10_looker 28 = .ok (.iload_n 2, 1) := by decide +kernel
theorem dX10_looker_29 : decode cX10_looker 29 = .ok (.aaload, 1) := by decide +kernel
theorem dX10_looker_30 : decode cX10_looker 30 = .ok (.getfield 129, 3) := by decide +kernel
theorem dX10_looker_33 : decode cX10_looker 33 = .ok (.iload_n 1, 1) := by decide +kernel
theorem dX10_looker_34 : decode cX10_looker 34 = .ok (.if_icmp .ne 5, 3) := by decide +kernel
theorem dX10_looker_37 : decode cX10_looker 37 = .ok (.iload_n 2, 1) := by decide +kernel
theorem dX10_looker_38 : decode cX10_looker 38 = .ok (.ireturn, 1) := by decide +kernel
theorem dX10_looker_39 : decode cX10_looker 39 = .ok (.iinc 2 1, 3) := by decide +kernel
theorem dX10_looker_42 : decode cX10_looker 42 = .ok (.goto (-40), 3) := by decide +kernel
theorem dX10_looker_45 : decode cX10_looker 45 = .ok (.iconst (-1), 1) := by decide +kernel
theorem dX10_looker_46 : decode cX10_looker 46 = .ok (.ireturn, 1) := by decide +kernel
set_option maxRecDepth 20000 in
theorem ggX10_ticks_X10_price : GoodIn wsX10_ticks wsX10_price := goodIn_r _ [19, 20, 21, 22, 23, 24, 9, 25, 26, 27, 28, 29, 30, 31, 18, 32, 33, 34, 35, 36, 37, 38, 39, 40, 12, 41, 42, 43, 44, 45, 46, 47, 48, 49, 50, 51, 52, 53, 54, 55, 56, 57, 58, 59, 60, 61, 62, 63, 64, 65, 66, 67, 68, 69, 70, 71, 72, 73, 74, 75, 76, 77, 78, 79, 80, 81, 82, 83, 84, 85, 86, 87, 88, 89, 90, 91, 92, 93, 94, 95, 96, 97, 98, 99, 100, 101, 102, 103, 104, 118, 119, 120, 121, 122, 123, 124, 125, 126, 127, 128, 136, 137, 138, 139, 140, 141, 142, 143] (by decide +kernel) (by decide +kernel)
set_option maxRecDepth 20000 in
theorem gX10_ticks_X10_price : GoodIn wsX10_ticks (wsV RX10 141 RX10 yX10_price wsX10_price) := goodIn_app (goodIn_of _ (by decide +kernel)) ggX10_ticks_X10_price
set_option maxRecDepth 20000 in
theorem ggX10_ticks_X10_canUse : GoodIn wsX10_ticks wsX10_canUse := goodIn_r _ [108, 35, 12, 109, 110, 111, 9, 112, 113, 118, 119, 120, 121, 122, 123, 124, 125, 126, 127, 128, 129, 130, 131, 132, 133, 134, 135] (by decide +kernel) (by decide +kernel)
set_option maxRecDepth 20000 in
theorem gX10_ticks_X10_canUse : GoodIn wsX10_ticks (wsV RX10 149 RX10 yX10_canUse wsX10_canUse) := goodIn_app (goodIn_of _ (by decide +kernel)) ggX10_ticks_X10_canUse
set_option maxRecDepth 20000 in
theorem ggX10_ticks_X10_looker : GoodIn wsX10_ticks wsX10_looker := goodIn_r _ [117, 1, 2, 6, 118, 119, 120, 121, 122, 123, 124, 125, 126, 127, 128, 129, 130, 131, 132, 133, 134, 135] (by decide +kernel) (by decide +kernel)
set_option maxRecDepth 20000 in
theorem gX10_ticks_X10_looker : GoodIn wsX10_ticks (wsV RX10 153 RX10 yX10_looker wsX10_looker) := goodIn_app (goodIn_of _ (by decide +kernel)) ggX10_ticks_X10_looker
set_option maxRecDepth 20000 in
theorem ggX10_ticks_X10_shown : GoodIn wsX10_ticks wsX10_shown := goodIn_r _ [32, 33, 34, 35, 36, 37, 38, 18, 39, 40, 12, 41, 42, 43, 44, 45, 46, 47, 48, 49, 50, 51, 52, 53, 54, 55, 56, 57, 58, 59, 60, 61, 62, 63, 64, 65, 66, 67, 68, 69, 70, 71, 72, 73, 74, 75, 76, 77, 78, 79, 80, 81, 82, 83, 84, 85, 86, 87, 88, 89, 90, 118, 119, 120, 121, 122, 123, 124, 125, 126, 127, 128, 136, 137, 138, 139] (by decide +kernel) (by decide +kernel)
set_option maxRecDepth 20000 in
theorem gX10_ticks_X10_shown : GoodIn wsX10_ticks (wsV RX10 98 RX10 yX10_shown wsX10_shown) := goodIn_app (goodIn_of _ (by decide +kernel)) ggX10_ticks_X10_shown
theorem dX10_ticks_0 : decode cX10_ticks 0 = .ok (.aload_n 0, 1) := by decide +kernel
theorem dX10_ticks_1 : decode cX10_ticks 1 = .ok (.getfield 39, 3) := by decide +kernel
theorem dX10_ticks_4 : decode cX10_ticks 4 = .ok (.astore_n 1, 1) := by decide +kernel
theorem dX10_ticks_5 : decode cX10_ticks 5 = .ok (.aload_n 1, 1) := by decide +kernel
theorem dX10_ticks_6 : decode cX10_ticks 6 = .ok (.arraylength, 1) := by decide +kernel
theorem dX10_ticks_7 : decode cX10_ticks 7 = .ok (.istore_n 2, 1) := by decide +kernel
theorem dX10_ticks_8 : decode cX10_ticks 8 = .ok (.iconst 0, 1) := by decide +kernel
theorem dX10_ticks_9 : decode cX10_ticks 9 = .ok (.istore_n 3, 1) := by decide +kernel
theorem dX10_ticks_10 : decode cX10_ticks 10 = .ok (.iload_n 3, 1) := by decide +kernel
theorem dX10_ticks_11 : decode cX10_ticks 11 = .ok (.iload_n 2, 1) := by decide +kernel
theorem dX10_ticks_12 : decode cX10_ticks 12 = .ok (.if_icmp .ge 102, 3) := by decide +kernel
theorem dX10_ticks_15 : decode cX10_ticks 15 = .ok (.aload_n 1, 1) := by decide +kernel
theorem dX10_ticks_16 : decode cX10_ticks 16 = .ok (.iload_n 3, 1) := by decide +kernel
theorem dX10_ticks_17 : decode cX10_ticks 17 = .ok (.aaload, 1) := by decide +kernel
theorem dX10_ticks_18 : decode cX10_ticks 18 = .ok (.astore 4, 2) := by decide +kernel
theorem dX10_ticks_20 : decode cX10_ticks 20 = .ok (.aload 4, 2) := by decide +kernel
theorem dX10_ticks_22 : decode cX10_ticks 22 = .ok (.getfield 126, 3) := by decide +kernel
theorem dX10_ticks_25 : decode cX10_ticks 25 = .ok (.iconst 1, 1) := by decide +kernel
theorem dX10_ticks_26 : decode cX10_ticks 26 = .ok (.if_icmp .eq 6, 3) := by decide +kernel
theorem dX10_ticks_29 : decode cX10_ticks 29 = .ok (.goto 79, 3) := by decide +kernel
theorem dX10_ticks_32 : decode cX10_ticks 32 = .ok (.aload 4, 2) := by decide +kernel
theorem dX10_ticks_34 : decode cX10_ticks 34 = .ok (.dup, 1) := by decide +kernel
theorem dX10_ticks_35 : decode cX10_ticks 35 = .ok (.getfield 132, 3) := by decide +kernel
theorem dX10_ticks_38 : decode cX10_ticks 38 = .ok (.iconst 1, 1) := by decide +kernel
theorem dX10_ticks_39 : decode cX10_ticks 39 = .ok (.isub, 1) := by decide +kernel
theorem dX10_ticks_40 : decode cX10_ticks 40 = .ok (.putfield 132, 3) := by decide +kernel
theorem dX10_ticks_43 : decode cX10_ticks 43 = .ok (.aload 4, 2) := by decide +kernel
theorem dX10_ticks_45 : decode cX10_ticks 45 = .ok (.getfield 132, 3) := by decide +kernel
theorem dX10_ticks_48 : decode cX10_ticks 48 = .ok (.ifCond .le 6, 3) := by decide +kernel
theorem dX10_ticks_51 : decode cX10_ticks 51 = .ok (.goto 57, 3) := by decide +kernel
theorem dX10_ticks_54 : decode cX10_ticks 54 = .ok (.aload 4, 2) := by decide +kernel
theorem dX10_ticks_56 : decode cX10_ticks 56 = .ok (.aload 4, 2) := by decide +kernel
theorem dX10_ticks_58 : decode cX10_ticks 58 = .ok (.getfield 135, 3) := by decide +kernel
theorem dX10_ticks_61 : decode cX10_ticks 61 = .ok (.aload_n 0, 1) := by decide +kernel
theorem dX10_ticks_62 : decode cX10_ticks 62 = .ok (.aload 4, 2) := by decide +kernel
theorem dX10_ticks_64 : decode cX10_ticks 64 = .ok (.getfield 138, 3) := by decide +kernel
theorem dX10_ticks_67 : decode cX10_ticks 67 = .ok (.aload 4, 2) := by decide +kernel
theorem dX10_ticks_69 : decode cX10_ticks 69 = .ok (.getfield 129, 3) := by decide +kernel
theorem dX10_ticks_72 : decode cX10_ticks 72 = .ok (.invokevirtual 141, 3) := by decide +kernel
theorem dX10_ticks_75 : decode cX10_ticks 75 = .ok (.invokestatic 144, 3) := by decide +kernel
theorem dX10_ticks_78 : decode cX10_ticks 78 = .ok (.putfield 146, 3) := by decide +kernel
theorem dX10_ticks_81 : decode cX10_ticks 81 = .ok (.aload 4, 2) := by decide +kernel
theorem dX10_ticks_83 : decode cX10_ticks 83 = .ok (.dup, 1) := by decide +kernel
theorem dX10_ticks_84 : decode cX10_ticks 84 = .ok (.getfield 135, 3) := by decide +kernel
theorem dX10_ticks_87 : decode cX10_ticks 87 = .ok (.aload 4, 2) := by decide +kernel
theorem dX10_ticks_89 : decode cX10_ticks 89 = .ok (.getfield 146, 3) := by decide +kernel
theorem dX10_ticks_92 : decode cX10_ticks 92 = .ok (.isub, 1) := by decide +kernel
theorem dX10_ticks_93 : decode cX10_ticks 93 = .ok (.putfield 135, 3) := by decide +kernel
theorem dX10_ticks_96 : decode cX10_ticks 96 = .ok (.aload 4, 2) := by decide +kernel
theorem dX10_ticks_98 : decode cX10_ticks 98 = .ok (.iconst 2, 1) := by decide +kernel
theorem dX10_ticks_99 : decode cX10_ticks 99 = .ok (.putfield 126, 3) := by decide +kernel
theorem dX10_ticks_102 : decode cX10_ticks 102 = .ok (.aload 4, 2) := by decide +kernel
theorem dX10_ticks_104 : decode cX10_ticks 104 = .ok (.iconst (-1), 1) := by decide +kernel
theorem dX10_ticks_105 : decode cX10_ticks 105 = .ok (.putfield 129, 3) := by decide +kernel
theorem dX10_ticks_108 : decode cX10_ticks 108 = .ok (.iinc 3 1, 3) := by decide +kernel
theorem dX10_ticks_111 : decode cX10_ticks 111 = .ok (.goto (-101), 3) := by decide +kernel
theorem dX10_ticks_114 : decode cX10_ticks 114 = .ok (.aload_n 0, 1) := by decide +kernel
theorem dX10_ticks_115 : decode cX10_ticks 115 = .ok (.getfield 39, 3) := by decide +kernel
theorem dX10_ticks_118 : decode cX10_ticks 118 = .ok (.astore_n 1, 1) := by decide +kernel
theorem dX10_ticks_119 : decode cX10_ticks 119 = .ok (.aload_n 1, 1) := by decide +kernel
theorem dX10_ticks_120 : decode cX10_ticks 120 = .ok (.arraylength, 1) := by decide +kernel
theorem dX10_ticks_121 : decode cX10_ticks 121 = .ok (.istore_n 2, 1) := by decide +kernel
theorem dX10_ticks_122 : decode cX10_ticks 122 = .ok (.iconst 0, 1) := by decide +kernel
theorem dX10_ticks_123 : decode cX10_ticks 123 = .ok (.istore_n 3, 1) := by decide +kernel
theorem dX10_ticks_124 : decode cX10_ticks 124 = .ok (.iload_n 3, 1) := by decide +kernel
theorem dX10_ticks_125 : decode cX10_ticks 125 = .ok (.iload_n 2, 1) := by decide +kernel
theorem dX10_ticks_126 : decode cX10_ticks 126 = .ok (.if_icmp .ge 171, 3) := by decide +kernel
theorem dX10_ticks_129 : decode cX10_ticks 129 = .ok (.aload_n 1, 1) := by decide +kernel
theorem dX10_ticks_130 : decode cX10_ticks 130 = .ok (.iload_n 3, 1) := by decide +kernel
theorem dX10_ticks_131 : decode cX10_ticks 131 = .ok (.aaload, 1) := by decide +kernel
theorem dX10_ticks_132 : decode cX10_ticks 132 = .ok (.astore 4, 2) := by decide +kernel
theorem dX10_ticks_134 : decode cX10_ticks 134 = .ok (.aload 4, 2) := by decide +kernel
theorem dX10_ticks_136 : decode cX10_ticks 136 = .ok (.getfield 126, 3) := by decide +kernel
theorem dX10_ticks_139 : decode cX10_ticks 139 = .ok (.ifCond .eq 6, 3) := by decide +kernel
theorem dX10_ticks_142 : decode cX10_ticks 142 = .ok (.goto 149, 3) := by decide +kernel
theorem dX10_ticks_145 : decode cX10_ticks 145 = .ok (.iconst 0, 1) := by decide +kernel
theorem dX10_ticks_146 : decode cX10_ticks 146 = .ok (.istore 5, 2) := by decide +kernel
theorem dX10_ticks_148 : decode cX10_ticks 148 = .ok (.iconst (-1), 1) := by decide +kernel
theorem dX10_ticks_149 : decode cX10_ticks 149 = .ok (.istore 6, 2) := by decide +kernel
theorem dX10_ticks_151 : decode cX10_ticks 151 = .ok (.aload_n 0, 1) := by decide +kernel
theorem dX10_ticks_152 : decode cX10_ticks 152 = .ok (.getfield 33, 3) := by decide +kernel
theorem dX10_ticks_155 : decode cX10_ticks 155 = .ok (.arraylength, 1) := by decide +kernel
theorem dX10_ticks_156 : decode cX10_ticks 156 = .ok (.iconst 1, 1) := by decide +kernel
theorem dX10_ticks_157 : decode cX10_ticks 157 = .ok (.isub, 1) := by decide +kernel
theorem dX10_ticks_158 : decode cX10_ticks 158 = .ok (.istore 7, 2) := by decide +kernel
theorem dX10_ticks_160 : decode cX10_ticks 160 = .ok (.iload 7, 2) := by decide +kernel
theorem dX10_ticks_162 : decode cX10_ticks 162 = .ok (.ifCond .lt 88, 3) := by decide +kernel
theorem dX10_ticks_165 : decode cX10_ticks 165 = .ok (.aload_n 0, 1) := by decide +kernel
theorem dX10_ticks_166 : decode cX10_ticks 166 = .ok (.aload 4, 2) := by decide +kernel
theorem dX10_ticks_168 : decode cX10_ticks 168 = .ok (.iload 7, 2) := by decide +kernel
theorem dX10_ticks_170 : decode cX10_ticks 170 = .ok (.invokevirtual 149, 3) := by decide +kernel
theorem dX10_ticks_173 : decode cX10_ticks 173 = .ok (.ifCond .eq 71, 3) := by decide +kernel
theorem dX10_ticks_176 : decode cX10_ticks 176 = .ok (.aload_n 0, 1) := by decide +kernel
theorem dX10_ticks_177 : decode cX10_ticks 177 = .ok (.aload 4, 2) := by decide +kernel
theorem dX10_ticks_179 : decode cX10_ticks 179 = .ok (.getfield 138, 3) := by decide +kernel
theorem dX10_ticks_182 : decode cX10_ticks 182 = .ok (.iload 7, 2) := by decide +kernel
theorem dX10_ticks_184 : decode cX10_ticks 184 = .ok (.invokevirtual 141, 3) := by decide +kernel
theorem dX10_ticks_187 : decode cX10_ticks 187 = .ok (.aload 4, 2) := by decide +kernel
theorem dX10_ticks_189 : decode cX10_ticks 189 = .ok (.getfield 135, 3) := by decide +kernel
theorem dX10_ticks_192 : decode cX10_ticks 192 = .ok (.if_icmp .le 6, 3) := by decide +kernel
theorem dX10_ticks_195 : decode cX10_ticks 195 = .ok (.goto 49, 3) := by decide +kernel
theorem dX10_ticks_198 : decode cX10_ticks 198 = .ok (.iinc 5 1, 3) := by decide +kernel
theorem dX10_ticks_201 : decode cX10_ticks 201 = .ok (.aload_n 0, 1) := by decide +kernel
theorem dX10_ticks_202 : decode cX10_ticks 202 = .ok (.iload 7, 2) := by decide +kernel
theorem dX10_ticks_204 : decode cX10_ticks 204 = .ok (.invokevirtual 153, 3) := by decide +kernel
theorem dX10_ticks_207 : decode cX10_ticks 207 = .ok (.ifCond .ge 37, 3) := by decide +kernel
theorem dX10_ticks_210 : decode cX10_ticks 210 = .ok (.iload 6, 2) := by decide +kernel
theorem dX10_ticks_212 : decode cX10_ticks 212 = .ok (.ifCond .lt 28, 3) := by decide +kernel
theorem dX10_ticks_215 : decode cX10_ticks 215 = .ok (.aload_n 0, 1) := by decide +kernel
theorem dX10_ticks_216 : decode cX10_ticks 216 = .ok (.iload 7, 2) := by decide +kernel
theorem dX10_ticks_218 : decode cX10_ticks 218 = .ok (.aload 4, 2) := by decide +kernel
theorem dX10_ticks_220 : decode cX10_ticks 220 = .ok (.getfield 138, 3) := by decide +kernel
theorem dX10_ticks_223 : decode cX10_ticks 223 = .ok (.invokevirtual 98, 3) := by decide +kernel
theorem dX10_ticks_226 : decode cX10_ticks 226 = .ok (.aload_n 0, 1) := by decide +kernel
theorem dX10_ticks_227 : decode cX10_ticks 227 = .ok (.iload 6, 2) := by decide +kernel
theorem dX10_ticks_229 : decode cX10_ticks 229 = .ok (.aload 4, 2) := by decide +kernel
theorem dX10_ticks_231 : decode cX10_ticks 231 = .ok (.getfield 138, 3) := by decide +kernel
theorem dX10_ticks_234 : decode cX10_ticks 234 = .ok (.invokevirtual 98, 3) := by decide +kernel
theorem dX10_ticks_237 : decode cX10_ticks 237 = .ok (.if_icmp .lt 7, 3) := by decide +kernel
theorem dX10_ticks_240 : decode cX10_ticks 240 = .ok (.iload 7, 2) := by decide +kernel
theorem dX10_ticks_242 : decode cX10_ticks 242 = .ok (.istore 6, 2) := by decide +kernel
theorem dX10_ticks_244 : decode cX10_ticks 244 = .ok (.iinc 7 (-1), 3) := by decide +kernel
theorem dX10_ticks_247 : decode cX10_ticks 247 = .ok (.goto (-87), 3) := by decide +kernel
theorem dX10_ticks_250 : decode cX10_ticks 250 = .ok (.iload 5, 2) := by decide +kernel
theorem dX10_ticks_252 : decode cX10_ticks 252 = .ok (.ifCond .ne 9, 3) := by decide +kernel
theorem dX10_ticks_255 : decode cX10_ticks 255 = .ok (.aload 4, 2) := by decide +kernel
theorem dX10_ticks_257 : decode cX10_ticks 257 = .ok (.iconst 3, 1) := by decide +kernel
theorem dX10_ticks_258 : decode cX10_ticks 258 = .ok (.putfield 126, 3) := by decide +kernel
theorem dX10_ticks_261 : decode cX10_ticks 261 = .ok (.iload 6, 2) := by decide +kernel
theorem dX10_ticks_263 : decode cX10_ticks 263 = .ok (.ifCond .ge 6, 3) := by decide +kernel
theorem dX10_ticks_266 : decode cX10_ticks 266 = .ok (.goto 25, 3) := by decide +kernel
theorem dX10_ticks_269 : decode cX10_ticks 269 = .ok (.aload 4, 2) := by decide +kernel
theorem dX10_ticks_271 : decode cX10_ticks 271 = .ok (.iconst 1, 1) := by decide +kernel
theorem dX10_ticks_272 : decode cX10_ticks 272 = .ok (.putfield 126, 3) := by decide +kernel
theorem dX10_ticks_275 : decode cX10_ticks 275 = .ok (.aload 4, 2) := by decide +kernel
theorem dX10_ticks_277 : decode cX10_ticks 277 = .ok (.iload 6, 2) := by decide +kernel
theorem dX10_ticks_279 : decode cX10_ticks 279 = .ok (.putfield 129, 3) := by decide +kernel
theorem dX10_ticks_282 : decode cX10_ticks 282 = .ok (.aload 4, 2) := by decide +kernel
theorem dX10_ticks_284 : decode cX10_ticks 284 = .ok (.aload_n 0, 1) := by decide +kernel
theorem dX10_ticks_285 : decode cX10_ticks 285 = .ok (.getfield 19, 3) := by decide +kernel
theorem dX10_ticks_288 : decode cX10_ticks 288 = .ok (.putfield 132, 3) := by decide +kernel
theorem dX10_ticks_291 : decode cX10_ticks 291 = .ok (.iinc 3 1, 3) := by decide +kernel
theorem dX10_ticks_294 : decode cX10_ticks 294 = .ok (.goto (-170), 3) := by decide +kernel
theorem dX10_ticks_297 : decode cX10_ticks 297 = .ok (.aload_n 0, 1) := by decide +kernel
theorem dX10_ticks_298 : decode cX10_ticks 298 = .ok (.dup, 1) := by decide +kernel
theorem dX10_ticks_299 : decode cX10_ticks 299 = .ok (.getfield 48, 3) := by decide +kernel
theorem dX10_ticks_302 : decode cX10_ticks 302 = .ok (.iconst 1, 1) := by decide +kernel
theorem dX10_ticks_303 : decode cX10_ticks 303 = .ok (.iadd, 1) := by decide +kernel
theorem dX10_ticks_304 : decode cX10_ticks 304 = .ok (.putfield 48, 3) := by decide +kernel
theorem dX10_ticks_307 : decode cX10_ticks 307 = .ok (.return_, 1) := by decide +kernel
theorem dX10_inState_0 : decode cX10_inState 0 = .ok (.iconst 0, 1) := by decide +kernel
theorem dX10_inState_1 : decode cX10_inState 1 = .ok (.istore_n 2, 1) := by decide +kernel
theorem dX10_inState_2 : decode cX10_inState 2 = .ok (.aload_n 0, 1) := by decide +kernel
theorem dX10_inState_3 : decode cX10_inState 3 = .ok (.getfield 39, 3) := by decide +kernel
theorem dX10_inState_6 : decode cX10_inState 6 = .ok (.astore_n 3, 1) := by decide +kernel
theorem dX10_inState_7 : decode cX10_inState 7 = .ok (.aload_n 3, 1) := by decide +kernel
theorem dX10_inState_8 : decode cX10_inState 8 = .ok (.arraylength, 1) := by decide +kernel
theorem dX10_inState_9 : decode cX10_inState 9 = .ok (.istore 4, 2) := by decide +kernel
theorem dX10_inState_11 : decode cX10_inState 11 = .ok (.iconst 0, 1) := by decide +kernel
theorem dX10_inState_12 : decode cX10_inState 12 = .ok (.istore 5, 2) := by decide +kernel
theorem dX10_inState_14 : decode cX10_inState 14 = .ok (.iload 5, 2) := by decide +kernel
theorem dX10_inState_16 : decode cX10_inState 16 = .ok (.iload 4, 2) := by decide +kernel
theorem dX10_inState_18 : decode cX10_inState 18 = .ok (.if_icmp .ge 27, 3) := by decide +kernel
theorem dX10_inState_21 : decode cX10_inState 21 = .ok (.aload_n 3, 1) := by decide +kernel
theorem dX10_inState_22 : decode cX10_inState 22 = .ok (.iload 5, 2) := by decide +kernel
theorem dX10_inState_24 : decode cX10_inState 24 = .ok (.aaload, 1) := by decide +kernel
theorem dX10_inState_25 : decode cX10_inState 25 = .ok (.astore 6, 2) := by decide +kernel
theorem dX10_inState_27 : decode cX10_inState 27 = .ok (.aload 6, 2) := by decide +kernel
theorem dX10_inState_29 : decode cX10_inState 29 = .ok (.getfield 126, 3) := by decide +kernel
theorem dX10_inState_32 : decode cX10_inState 32 = .ok (.iload_n 1, 1) := by decide +kernel
theorem dX10_inState_33 : decode cX10_inState 33 = .ok (.if_icmp .ne 6, 3) := by decide +kernel
theorem dX10_inState_36 : decode cX10_inState 36 = .ok (.iinc 2 1, 3) := by decide +kernel
theorem dX10_inState_39 : decode cX10_inState 39 = .ok (.iinc 5 1, 3) := by decide +kernel
theorem dX10_inState_42 : decode cX10_inState 42 = .ok (.goto (-28), 3) := by decide +kernel
theorem dX10_inState_45 : decode cX10_inState 45 = .ok (.iload_n 2, 1) := by decide +kernel
theorem dX10_inState_46 : decode cX10_inState 46 = .ok (.ireturn, 1) := by decide +kernel
theorem dX10_paid_0 : decode cX10_paid 0 = .ok (.iconst 0, 1) := by decide +kernel
theorem dX10_paid_1 : decode cX10_paid 1 = .ok (.istore_n 1, 1) := by decide +kernel
theorem dX10_paid_2 : decode cX10_paid 2 = .ok (.aload_n 0, 1) := by decide +kernel
theorem dX10_paid_3 : decode cX10_paid 3 = .ok (.getfield 39, 3) := by decide +kernel
theorem dX10_paid_6 : decode cX10_paid 6 = .ok (.astore_n 2, 1) := by decide +kernel
theorem dX10_paid_7 : decode cX10_paid 7 = .ok (.aload_n 2, 1) := by decide +kernel
theorem dX10_paid_8 : decode cX10_paid 8 = .ok (.arraylength, 1) := by decide +kernel
theorem dX10_paid_9 : decode cX10_paid 9 = .ok (.istore_n 3, 1) := by decide +kernel
theorem dX10_paid_10 : decode cX10_paid 10 = .ok (.iconst 0, 1) := by decide +kernel
theorem dX10_paid_11 : decode cX10_paid 11 = .ok (.istore 4, 2) := by decide +kernel
theorem dX10_paid_13 : decode cX10_paid 13 = .ok (.iload 4, 2) := by decide +kernel
theorem dX10_paid_15 : decode cX10_paid 15 = .ok (.iload_n 3, 1) := by decide +kernel
theorem dX10_paid_16 : decode cX10_paid 16 = .ok (.if_icmp .ge 23, 3) := by decide +kernel
theorem dX10_paid_19 : decode cX10_paid 19 = .ok (.aload_n 2, 1) := by decide +kernel
theorem dX10_paid_20 : decode cX10_paid 20 = .ok (.iload 4, 2) := by decide +kernel
theorem dX10_paid_22 : decode cX10_paid 22 = .ok (.aaload, 1) := by decide +kernel
theorem dX10_paid_23 : decode cX10_paid 23 = .ok (.astore 5, 2) := by decide +kernel
theorem dX10_paid_25 : decode cX10_paid 25 = .ok (.iload_n 1, 1) := by decide +kernel
theorem dX10_paid_26 : decode cX10_paid 26 = .ok (.aload 5, 2) := by decide +kernel
theorem dX10_paid_28 : decode cX10_paid 28 = .ok (.getfield 146, 3) := by decide +kernel
theorem dX10_paid_31 : decode cX10_paid 31 = .ok (.iadd, 1) := by decide +kernel
theorem dX10_paid_32 : decode cX10_paid 32 = .ok (.istore_n 1, 1) := by decide +kernel
theorem dX10_paid_33 : decode cX10_paid 33 = .ok (.iinc 4 1, 3) := by decide +kernel
theorem dX10_paid_36 : decode cX10_paid 36 = .ok (.goto (-23), 3) := by decide +kernel
theorem dX10_paid_39 : decode cX10_paid 39 = .ok (.iload_n 1, 1) := by decide +kernel
theorem dX10_paid_40 : decode cX10_paid 40 = .ok (.ireturn, 1) := by decide +kernel
set_option maxRecDepth 20000 in
theorem ggX10_told_X10_looker : GoodIn wsX10_told wsX10_looker := goodIn_r _ [13, 8, 14, 15, 25, 26, 27, 28, 29, 30, 31, 32, 33, 34, 35, 36, 37, 38, 39, 40, 41, 42] (by decide +kernel) (by decide +kernel)
set_option maxRecDepth 20000 in
theorem gX10_told_X10_looker : GoodIn wsX10_told (wsV RX10 153 RX10 yX10_looker wsX10_looker) := goodIn_app (goodIn_of _ (by decide +kernel)) ggX10_told_X10_looker
set_option maxRecDepth 20000 in
theorem ggX10_told_X10_inState : GoodIn wsX10_told wsX10_inState := goodIn_r _ [19, 8, 14, 25, 26, 27, 28, 29, 30, 31, 32, 33, 34, 35, 36, 37, 38, 39, 40, 41, 42] (by decide +kernel) (by decide +kernel)
set_option maxRecDepth 20000 in
theorem gX10_told_X10_inState : GoodIn wsX10_told (wsV RX10 161 RX10 yX10_inState wsX10_inState) := goodIn_app (goodIn_of _ (by decide +kernel)) ggX10_told_X10_inState
set_option maxRecDepth 20000 in
theorem ggX10_told_X10_paid : GoodIn wsX10_told wsX10_paid := goodIn_r _ [23, 8, 24, 25, 26, 27, 28, 29, 30, 31, 32, 33, 34, 35, 36, 37, 38, 39, 40, 41, 42] (by decide +kernel) (by decide +kernel)
set_option maxRecDepth 20000 in
theorem gX10_told_X10_paid : GoodIn wsX10_told (wsV RX10 164 RX10 yX10_paid wsX10_paid) := goodIn_app (goodIn_of _ (by decide +kernel)) ggX10_told_X10_paid
theorem dX10_told_0 : decode cX10_told 0 = .ok (.iconst 0, 1) := by decide +kernel
theorem dX10_told_1 : decode cX10_told 1 = .ok (.istore_n 2, 1) := by decide +kernel
theorem dX10_told_2 : decode cX10_told 2 = .ok (.iconst 0, 1) := by decide +kernel
theorem dX10_told_3 : decode cX10_told 3 = .ok (.istore_n 3, 1) := by decide +kernel
theorem dX10_told_4 : decode cX10_told 4 = .ok (.iload_n 3, 1) := by decide +kernel
theorem dX10_told_5 : decode cX10_told 5 = .ok (.aload_n 0, 1) := by decide +kernel
theorem dX10_told_6 : decode cX10_told 6 = .ok (.getfield 33, 3) := by decide +kernel
theorem dX10_told_9 : decode cX10_told 9 = .ok (.arraylength, 1) := by decide +kernel
theorem dX10_told_10 : decode cX10_told 10 = .ok (.if_icmp .ge 20, 3) := by decide +kernel
theorem dX10_told_13 : decode cX10_told 13 = .ok (.aload_n 0, 1) := by decide +kernel
theorem dX10_told_14 : decode cX10_told 14 = .ok (.iload_n 3, 1) := by decide +kernel
theorem dX10_told_15 : decode cX10_told 15 = .ok (.invokevirtual 153, 3) := by decide +kernel
theorem dX10_told_18 : decode cX10_told 18 = .ok (.ifCond .ge 6, 3) := by decide +kernel
theorem dX10_told_21 : decode cX10_told 21 = .ok (.iinc 2 1, 3) := by decide +kernel
theorem dX10_told_24 : decode cX10_told 24 = .ok (.iinc 3 1, 3) := by decide +kernel
theorem dX10_told_27 : decode cX10_told 27 = .ok (.goto (-23), 3) := by decide +kernel
theorem dX10_told_30 : decode cX10_told 30 = .ok (.iload_n 1, 1) := by decide +kernel
theorem dX10_told_31 : decode cX10_told 31 = .ok (.ifCond .ne 10, 3) := by decide +kernel
theorem dX10_told_34 : decode cX10_told 34 = .ok (.aload_n 0, 1) := by decide +kernel
theorem dX10_told_35 : decode cX10_told 35 = .ok (.getfield 7, 3) := by decide +kernel
theorem dX10_told_38 : decode cX10_told 38 = .ok (.goto 123, 3) := by decide +kernel
theorem dX10_told_41 : decode cX10_told 41 = .ok (.iload_n 1, 1) := by decide +kernel
theorem dX10_told_42 : decode cX10_told 42 = .ok (.iconst 1, 1) := by decide +kernel
theorem dX10_told_43 : decode cX10_told 43 = .ok (.if_icmp .ne 10, 3) := by decide +kernel
theorem dX10_told_46 : decode cX10_told 46 = .ok (.aload_n 0, 1) := by decide +kernel
theorem dX10_told_47 : decode cX10_told 47 = .ok (.getfield 13, 3) := by decide +kernel
theorem dX10_told_50 : decode cX10_told 50 = .ok (.goto 111, 3) := by decide +kernel
theorem dX10_told_53 : decode cX10_told 53 = .ok (.iload_n 1, 1) := by decide +kernel
theorem dX10_told_54 : decode cX10_told 54 = .ok (.iconst 2, 1) := by decide +kernel
theorem dX10_told_55 : decode cX10_told 55 = .ok (.if_icmp .ne 11, 3) := by decide +kernel
theorem dX10_told_58 : decode cX10_told 58 = .ok (.aload_n 0, 1) := by decide +kernel
theorem dX10_told_59 : decode cX10_told 59 = .ok (.getfield 24, 3) := by decide +kernel
theorem dX10_told_62 : decode cX10_told 62 = .ok (.arraylength, 1) := by decide +kernel
theorem dX10_told_63 : decode cX10_told 63 = .ok (.goto 98, 3) := by decide +kernel
theorem dX10_told_66 : decode cX10_told 66 = .ok (.iload_n 1, 1) := by decide +kernel
theorem dX10_told_67 : decode cX10_told 67 = .ok (.iconst 3, 1) := by decide +kernel
theorem dX10_told_68 : decode cX10_told 68 = .ok (.if_icmp .ne 11, 3) := by decide +kernel
theorem dX10_told_71 : decode cX10_told 71 = .ok (.aload_n 0, 1) := by decide +kernel
theorem dX10_told_72 : decode cX10_told 72 = .ok (.getfield 33, 3) := by decide +kernel
theorem dX10_told_75 : decode cX10_told 75 = .ok (.arraylength, 1) := by decide +kernel
theorem dX10_told_76 : decode cX10_told 76 = .ok (.goto 85, 3) := by decide +kernel
theorem dX10_told_79 : decode cX10_told 79 = .ok (.iload_n 1, 1) := by decide +kernel
theorem dX10_told_80 : decode cX10_told 80 = .ok (.iconst 4, 1) := by decide +kernel
theorem dX10_told_81 : decode cX10_told 81 = .ok (.if_icmp .ne 10, 3) := by decide +kernel
theorem dX10_told_84 : decode cX10_told 84 = .ok (.aload_n 0, 1) := by decide +kernel
theorem dX10_told_85 : decode cX10_told 85 = .ok (.getfield 16, 3) := by decide +kernel
theorem dX10_told_88 : decode cX10_told 88 = .ok (.goto 73, 3) := by decide +kernel
theorem dX10_told_91 : decode cX10_told 91 = .ok (.iload_n 1, 1) := by decide +kernel
theorem dX10_told_92 : decode cX10_told 92 = .ok (.iconst 5, 1) := by decide +kernel
theorem dX10_told_93 : decode cX10_told 93 = .ok (.if_icmp .ne 10, 3) := by decide +kernel
theorem dX10_told_96 : decode cX10_told 96 = .ok (.aload_n 0, 1) := by decide +kernel
theorem dX10_told_97 : decode cX10_told 97 = .ok (.getfield 19, 3) := by decide +kernel
theorem dX10_told_100 : decode cX10_told 100 = .ok (.goto 61, 3) := by decide +kernel
theorem dX10_told_103 : decode cX10_told 103 = .ok (.iload_n 1, 1) := by decide +kernel
theorem dX10_told_104 : decode cX10_told 104 = .ok (.bipush 6, 2) := by decide +kernel
theorem dX10_told_106 : decode cX10_told 106 = .ok (.if_icmp .ne 10, 3) := by decide +kernel
theorem dX10_told_109 : decode cX10_told 109 = .ok (.aload_n 0, 1) := by decide +kernel
theorem dX10_told_110 : decode cX10_told 110 = .ok (.getfield 48, 3) := by decide +kernel
theorem dX10_told_113 : decode cX10_told 113 = .ok (.goto 48, 3) := by decide +kernel
theorem dX10_told_116 : decode cX10_told 116 = .ok (.iload_n 1, 1) := by decide +kernel
theorem dX10_told_117 : decode cX10_told 117 = .ok (.bipush 7, 2) := by decide +kernel
theorem dX10_told_119 : decode cX10_told 119 = .ok (.if_icmp .ne 11, 3) := by decide +kernel
theorem dX10_told_122 : decode cX10_told 122 = .ok (.aload_n 0, 1) := by decide +kernel
theorem dX10_told_123 : decode cX10_told 123 = .ok (.getfield 39, 3) := by decide +kernel
theorem dX10_told_126 : decode cX10_told 126 = .ok (.arraylength, 1) := by decide +kernel
theorem dX10_told_127 : decode cX10_told 127 = .ok (.goto 34, 3) := by decide +kernel
theorem dX10_told_130 : decode cX10_told 130 = .ok (.iload_n 1, 1) := by decide +kernel
theorem dX10_told_131 : decode cX10_told 131 = .ok (.bipush 12, 2) := by decide +kernel
theorem dX10_told_133 : decode cX10_told 133 = .ok (.if_icmp .ge 14, 3) := by decide +kernel
theorem dX10_told_136 : decode cX10_told 136 = .ok (.aload_n 0, 1) := by decide +kernel
theorem dX10_told_137 : decode cX10_told 137 = .ok (.iload_n 1, 1) := by decide +kernel
theorem dX10_told_138 : decode cX10_told 138 = .ok (.bipush 8, 2) := by decide +kernel
theorem dX10_told_140 : decode cX10_told 140 = .ok (.isub, 1) := by decide +kernel
theorem dX10_told_141 : decode cX10_told 141 = .ok (.invokevirtual 161, 3) := by decide +kernel
theorem dX10_told_144 : decode cX10_told 144 = .ok (.goto 17, 3) := by decide +kernel
theorem dX10_told_147 : decode cX10_told 147 = .ok (.iload_n 1, 1) := by decide +kernel
theorem dX10_told_148 : decode cX10_told 148 = .ok (.bipush 12, 2) := by decide +kernel
theorem dX10_told_150 : decode cX10_told 150 = .ok (.if_icmp .ne 10, 3) := by decide +kernel
theorem dX10_told_153 : decode cX10_told 153 = .ok (.aload_n 0, 1) := by decide +kernel
theorem dX10_told_154 : decode cX10_told 154 = .ok (.invokevirtual 164, 3) := by decide +kernel
theorem dX10_told_157 : decode cX10_told 157 = .ok (.goto 4, 3) := by decide +kernel
theorem dX10_told_160 : decode cX10_told 160 = .ok (.iload_n 2, 1) := by decide +kernel
theorem dX10_told_161 : decode cX10_told 161 = .ok (.ireturn, 1) := by decide +kernel
set_option maxRecDepth 20000 in
theorem ggX10_ofPlane_X10_stands : GoodIn wsX10_ofPlane wsX10_stands := goodIn_r _ [9, 4, 2, 10, 11, 12, 13, 14, 15, 16, 17, 18, 19, 20, 21, 22, 23, 24, 25, 26, 27, 28, 29, 30, 31, 32, 33, 34, 35, 36, 37, 38, 39, 40, 41, 42, 43, 44, 45, 46, 47, 48, 49, 50, 51, 60, 61, 62, 63, 64, 65, 66, 67, 68, 69, 70, 71, 72, 73, 74] (by decide +kernel) (by decide +kernel)
set_option maxRecDepth 20000 in
theorem gX10_ofPlane_X10_stands : GoodIn wsX10_ofPlane (wsV RX10 87 RX10 yX10_stands wsX10_stands) := goodIn_app (goodIn_of _ (by decide +kernel)) ggX10_ofPlane_X10_stands
set_option maxRecDepth 20000 in
theorem ggX10_ofPlane_X10_sees : GoodIn wsX10_ofPlane wsX10_sees := goodIn_r _ [55, 10, 3, 56, 57, 58, 8, 59, 5, 6, 7, 9, 4, 2, 11, 12, 13, 14, 15, 16, 17, 18, 19, 20, 21, 22, 23, 24, 25, 26, 27, 28, 29, 30, 31, 32, 33, 34, 35, 36, 37, 38, 39, 40, 41, 42, 43, 44, 45, 46, 47, 48, 49, 50, 51, 60, 61, 62, 63, 64, 65, 66, 67, 68, 69, 70, 71, 72, 73, 74] (by decide +kernel) (by decide +kernel)
set_option maxRecDepth 20000 in
theorem gX10_ofPlane_X10_sees : GoodIn wsX10_ofPlane (wsV RX10 95 RX10 yX10_sees wsX10_sees) := goodIn_app (goodIn_of _ (by decide +kernel)) ggX10_ofPlane_X10_sees
theorem dX10_ofPlane_0 : decode cX10_ofPlane 0 = .ok (.iconst 0, 1) := by decide +kernel
