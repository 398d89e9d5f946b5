theorem dX6_bestPull_93 : decode cX6_bestPull 93 = .ok (.invokevirtual 61, 3) := by decide +kernel
theorem dX6_bestPull_96 : decode cX6_bestPull 96 = .ok (.aload_n 0, 1) := by decide +kernel
theorem dX6_bestPull_97 : decode cX6_bestPull 97 = .ok (.getfield 33, 3) := by decide +kernel
theorem dX6_bestPull_100 : decode cX6_bestPull 100 = .ok (.aload_n 0, 1) := by decide +kernel
theorem dX6_bestPull_101 : decode cX6_bestPull 101 = .ok (.getfield 23, 3) := by decide +kernel
theorem dX6_bestPull_104 : decode cX6_bestPull 104 = .ok (.getfield 51, 3) := by decide +kernel
theorem dX6_bestPull_107 : decode cX6_bestPull 107 = .ok (.iload_n 2, 1) := by decide +kernel
theorem dX6_bestPull_108 : decode cX6_bestPull 108 = .ok (.invokevirtual 221, 3) := by decide +kernel
theorem dX6_bestPull_111 : decode cX6_bestPull 111 = .ok (.istore 6, 2) := by decide +kernel
theorem dX6_bestPull_113 : decode cX6_bestPull 113 = .ok (.iload 6, 2) := by decide +kernel
theorem dX6_bestPull_115 : decode cX6_bestPull 115 = .ok (.iload 4, 2) := by decide +kernel
theorem dX6_bestPull_117 : decode cX6_bestPull 117 = .ok (.if_icmp .le 10, 3) := by decide +kernel
theorem dX6_bestPull_120 : decode cX6_bestPull 120 = .ok (.iload 6, 2) := by decide +kernel
theorem dX6_bestPull_122 : decode cX6_bestPull 122 = .ok (.istore 4, 2) := by decide +kernel
theorem dX6_bestPull_124 : decode cX6_bestPull 124 = .ok (.iload 5, 2) := by decide +kernel
theorem dX6_bestPull_126 : decode cX6_bestPull 126 = .ok (.istore_n 3, 1) := by decide +kernel
theorem dX6_bestPull_127 : decode cX6_bestPull 127 = .ok (.iinc 5 1, 3) := by decide +kernel
theorem dX6_bestPull_130 : decode cX6_bestPull 130 = .ok (.goto (-77), 3) := by decide +kernel
theorem dX6_bestPull_133 : decode cX6_bestPull 133 = .ok (.iload_n 3, 1) := by decide +kernel
theorem dX6_bestPull_134 : decode cX6_bestPull 134 = .ok (.ireturn, 1) := by decide +kernel
set_option maxRecDepth 20000 in
theorem ggX6_foretold_X6_requireRange : GoodIn wsX6_foretold wsX6_requireRange := goodIn_ca (goodIn_r _ [9, 10, 11] (by decide +kernel) (by decide +kernel)) (goodIn_sub (fun _ h => List.mem_cons_of_mem _ (List.mem_append_right _ h)) (by decide +kernel))
set_option maxRecDepth 20000 in
theorem gX6_foretold_X6_requireRange : GoodIn wsX6_foretold (va_wsS RX6 191 yX6_requireRange wsX6_requireRange) := goodIn_app (goodIn_of _ (by decide +kernel)) ggX6_foretold_X6_requireRange
set_option maxRecDepth 20000 in
theorem ggX6_foretold_X1_copyFrom : GoodIn wsX6_foretold wsX1_copyFrom := goodIn_r _ [16, 17, 18, 19, 20, 21, 22, 23, 24, 25, 125, 126, 127, 128, 129] (by decide +kernel) (by decide +kernel)
set_option maxRecDepth 20000 in
theorem gX6_foretold_X1_copyFrom : GoodIn wsX6_foretold (wsV RX6 224 RX1 yX1_copyFrom wsX1_copyFrom) := goodIn_app (goodIn_of _ (by decide +kernel)) ggX6_foretold_X1_copyFrom
set_option maxRecDepth 20000 in
theorem ggX6_foretold_X1_tick : GoodIn wsX6_foretold wsX1_tick := goodIn_r _ [29, 17, 19, 30, 31, 32, 15, 33, 25, 34, 35, 36, 37, 38, 39, 40, 41, 20, 42, 43, 44, 45, 46, 47, 48, 49, 50, 51, 52, 53, 54, 55, 56, 57, 58, 59, 60, 61, 62, 63, 64, 65, 66, 67, 68, 69, 8, 70, 71, 72, 73, 74, 75, 76, 77, 78, 79, 80, 81, 82, 83, 84, 85, 86, 87, 88, 89, 90, 91, 92, 93, 94, 95, 96, 97, 98, 99, 100, 101, 102, 103, 104, 105, 106, 18, 125, 126, 127, 128, 129, 130, 131, 132, 133, 134, 135, 136, 137, 138, 139, 140, 141, 142, 143, 144, 145, 146, 147] (by decide +kernel) (by decide +kernel)
set_option maxRecDepth 20000 in
theorem gX6_foretold_X1_tick : GoodIn wsX6_foretold (wsV RX6 227 RX1 yX1_tick wsX1_tick) := goodIn_app (goodIn_of _ (by decide +kernel)) ggX6_foretold_X1_tick
set_option maxRecDepth 20000 in
theorem ggX6_foretold_X1_allPaid : GoodIn wsX6_foretold wsX1_allPaid := goodIn_r _ [110, 17, 30, 31, 32, 15, 33, 25, 125, 126, 127, 128, 129] (by decide +kernel) (by decide +kernel)
set_option maxRecDepth 20000 in
theorem gX6_foretold_X1_allPaid : GoodIn wsX6_foretold (wsV RX6 136 RX1 yX1_allPaid wsX1_allPaid) := goodIn_app (goodIn_of _ (by decide +kernel)) ggX6_foretold_X1_allPaid
set_option maxRecDepth 20000 in
theorem ggX6_foretold_X1_count : GoodIn wsX6_foretold wsX1_count := goodIn_r _ [114, 17, 30, 31, 32, 15, 33, 25, 125, 126, 127, 128, 129] (by decide +kernel) (by decide +kernel)
set_option maxRecDepth 20000 in
theorem gX6_foretold_X1_count : GoodIn wsX6_foretold (wsV RX6 132 RX1 yX1_count wsX1_count) := goodIn_app (goodIn_of _ (by decide +kernel)) ggX6_foretold_X1_count
theorem dX6_foretold_0 : decode cX6_foretold 0 = .ok (.iload_n 1, 1) := by decide +kernel
theorem dX6_foretold_1 : decode cX6_foretold 1 = .ok (.iconst 1, 1) := by decide +kernel
theorem dX6_foretold_2 : decode cX6_foretold 2 = .ok (.bipush 100, 2) := by decide +kernel
theorem dX6_foretold_4 : decode cX6_foretold 4 = .ok (.invokestatic 191, 3) := by decide +kernel
theorem dX6_foretold_7 : decode cX6_foretold 7 = .ok (.iload_n 2, 1) := by decide +kernel
theorem dX6_foretold_8 : decode cX6_foretold 8 = .ok (.iconst 0, 1) := by decide +kernel
theorem dX6_foretold_9 : decode cX6_foretold 9 = .ok (.iconst 3, 1) := by decide +kernel
theorem dX6_foretold_10 : decode cX6_foretold 10 = .ok (.invokestatic 191, 3) := by decide +kernel
theorem dX6_foretold_13 : decode cX6_foretold 13 = .ok (.aload_n 0, 1) := by decide +kernel
theorem dX6_foretold_14 : decode cX6_foretold 14 = .ok (.getfield 23, 3) := by decide +kernel
theorem dX6_foretold_17 : decode cX6_foretold 17 = .ok (.getfield 99, 3) := by decide +kernel
theorem dX6_foretold_20 : decode cX6_foretold 20 = .ok (.astore_n 3, 1) := by decide +kernel
theorem dX6_foretold_21 : decode cX6_foretold 21 = .ok (.aload_n 3, 1) := by decide +kernel
theorem dX6_foretold_22 : decode cX6_foretold 22 = .ok (.aload_n 0, 1) := by decide +kernel
theorem dX6_foretold_23 : decode cX6_foretold 23 = .ok (.getfield 19, 3) := by decide +kernel
theorem dX6_foretold_26 : decode cX6_foretold 26 = .ok (.getfield 99, 3) := by decide +kernel
theorem dX6_foretold_29 : decode cX6_foretold 29 = .ok (.invokevirtual 224, 3) := by decide +kernel
theorem dX6_foretold_32 : decode cX6_foretold 32 = .ok (.iconst 0, 1) := by decide +kernel
theorem dX6_foretold_33 : decode cX6_foretold 33 = .ok (.istore 4, 2) := by decide +kernel
theorem dX6_foretold_35 : decode cX6_foretold 35 = .ok (.iload 4, 2) := by decide +kernel
theorem dX6_foretold_37 : decode cX6_foretold 37 = .ok (.iload_n 1, 1) := by decide +kernel
theorem dX6_foretold_38 : decode cX6_foretold 38 = .ok (.if_icmp .ge 24, 3) := by decide +kernel
theorem dX6_foretold_41 : decode cX6_foretold 41 = .ok (.aload_n 3, 1) := by decide +kernel
theorem dX6_foretold_42 : decode cX6_foretold 42 = .ok (.aload_n 0, 1) := by decide +kernel
theorem dX6_foretold_43 : decode cX6_foretold 43 = .ok (.getfield 19, 3) := by decide +kernel
theorem dX6_foretold_46 : decode cX6_foretold 46 = .ok (.getfield 51, 3) := by decide +kernel
theorem dX6_foretold_49 : decode cX6_foretold 49 = .ok (.aload_n 0, 1) := by decide +kernel
theorem dX6_foretold_50 : decode cX6_foretold 50 = .ok (.getfield 29, 3) := by decide +kernel
theorem dX6_foretold_53 : decode cX6_foretold 53 = .ok (.invokevirtual 227, 3) := by decide +kernel
theorem dX6_foretold_56 : decode cX6_foretold 56 = .ok (.iinc 4 1, 3) := by decide +kernel
theorem dX6_foretold_59 : decode cX6_foretold 59 = .ok (.goto (-24), 3) := by decide +kernel
theorem dX6_foretold_62 : decode cX6_foretold 62 = .ok (.iload_n 2, 1) := by decide +kernel
theorem dX6_foretold_63 : decode cX6_foretold 63 = .ok (.tableswitch 42 0 2 #[25, 30, 36], 25) := by decide +kernel
theorem dX6_foretold_88 : decode cX6_foretold 88 = .ok (.aload_n 3, 1) := by decide +kernel
theorem dX6_foretold_89 : decode cX6_foretold 89 = .ok (.invokevirtual 136, 3) := by decide +kernel
theorem dX6_foretold_92 : decode cX6_foretold 92 = .ok (.ireturn, 1) := by decide +kernel
theorem dX6_foretold_93 : decode cX6_foretold 93 = .ok (.aload_n 3, 1) := by decide +kernel
theorem dX6_foretold_94 : decode cX6_foretold 94 = .ok (.iconst 0, 1) := by decide +kernel
theorem dX6_foretold_95 : decode cX6_foretold 95 = .ok (.invokevirtual 132, 3) := by decide +kernel
theorem dX6_foretold_98 : decode cX6_foretold 98 = .ok (.ireturn, 1) := by decide +kernel
theorem dX6_foretold_99 : decode cX6_foretold 99 = .ok (.aload_n 3, 1) := by decide +kernel
theorem dX6_foretold_100 : decode cX6_foretold 100 = .ok (.iconst 1, 1) := by decide +kernel
theorem dX6_foretold_101 : decode cX6_foretold 101 = .ok (.invokevirtual 132, 3) := by decide +kernel
theorem dX6_foretold_104 : decode cX6_foretold 104 = .ok (.ireturn, 1) := by decide +kernel
theorem dX6_foretold_105 : decode cX6_foretold 105 = .ok (.aload_n 3, 1) := by decide +kernel
theorem dX6_foretold_106 : decode cX6_foretold 106 = .ok (.iconst 3, 1) := by decide +kernel
theorem dX6_foretold_107 : decode cX6_foretold 107 = .ok (.invokevirtual 132, 3) := by decide +kernel
theorem dX6_foretold_110 : decode cX6_foretold 110 = .ok (.ireturn, 1) := by decide +kernel
set_option maxRecDepth 20000 in
theorem ggX6_emptyIn_X1_copyFrom : GoodIn wsX6_emptyIn wsX1_copyFrom := goodIn_r _ [11, 12, 13, 14, 15, 16, 17, 18, 19, 20, 121, 122, 123, 124, 125] (by decide +kernel) (by decide +kernel)
set_option maxRecDepth 20000 in
theorem gX6_emptyIn_X1_copyFrom : GoodIn wsX6_emptyIn (wsV RX6 224 RX1 yX1_copyFrom wsX1_copyFrom) := goodIn_app (goodIn_of _ (by decide +kernel)) ggX6_emptyIn_X1_copyFrom
set_option maxRecDepth 20000 in
theorem ggX6_emptyIn_X1_isBusy : GoodIn wsX6_emptyIn wsX1_isBusy := goodIn_r _ [24, 25, 26, 27, 10, 28, 12, 29, 30, 31, 32, 20, 121, 122, 123, 124, 125] (by decide +kernel) (by decide +kernel)
set_option maxRecDepth 20000 in
theorem gX6_emptyIn_X1_isBusy : GoodIn wsX6_emptyIn (wsV RX6 232 RX1 yX1_isBusy wsX1_isBusy) := goodIn_app (goodIn_of _ (by decide +kernel)) ggX6_emptyIn_X1_isBusy
set_option maxRecDepth 20000 in
theorem ggX6_emptyIn_X1_tick : GoodIn wsX6_emptyIn wsX1_tick := goodIn_r _ [36, 12, 14, 29, 30, 31, 10, 32, 20, 37, 38, 39, 40, 41, 42, 43, 44, 15, 45, 46, 47, 48, 49, 50, 51, 52, 53, 54, 55, 56, 57, 58, 59, 60, 61, 62, 63, 64, 65, 66, 67, 68, 69, 70, 71, 72, 73, 74, 75, 76, 77, 78, 79, 80, 81, 82, 83, 84, 85, 86, 87, 88, 89, 90, 91, 92, 93, 94, 95, 96, 97, 98, 99, 100, 101, 102, 103, 104, 105, 106, 107, 108, 109, 110, 13, 121, 122, 123, 124, 125, 126, 127, 128, 129, 130, 131, 132, 133, 134, 135, 136, 137, 138, 139, 140, 141, 142, 143] (by decide +kernel) (by decide +kernel)
set_option maxRecDepth 20000 in
theorem gX6_emptyIn_X1_tick : GoodIn wsX6_emptyIn (wsV RX6 227 RX1 yX1_tick wsX1_tick) := goodIn_app (goodIn_of _ (by decide +kernel)) ggX6_emptyIn_X1_tick
theorem dX6_emptyIn_0 : decode cX6_emptyIn 0 = .ok (.aload_n 0, 1) := by decide +kernel
theorem dX6_emptyIn_1 : decode cX6_emptyIn 1 = .ok (.getfield 23, 3) := by decide +kernel
theorem dX6_emptyIn_4 : decode cX6_emptyIn 4 = .ok (.getfield 99, 3) := by decide +kernel
theorem dX6_emptyIn_7 : decode cX6_emptyIn 7 = .ok (.astore_n 1, 1) := by decide +kernel
theorem dX6_emptyIn_8 : decode cX6_emptyIn 8 = .ok (.aload_n 1, 1) := by decide +kernel
theorem dX6_emptyIn_9 : decode cX6_emptyIn 9 = .ok (.aload_n 0, 1) := by decide +kernel
theorem dX6_emptyIn_10 : decode cX6_emptyIn 10 = .ok (.getfield 19, 3) := by decide +kernel
theorem dX6_emptyIn_13 : decode cX6_emptyIn 13 = .ok (.getfield 99, 3) := by decide +kernel
theorem dX6_emptyIn_16 : decode cX6_emptyIn 16 = .ok (.invokevirtual 224, 3) := by decide +kernel
theorem dX6_emptyIn_19 : decode cX6_emptyIn 19 = .ok (.iconst 0, 1) := by decide +kernel
theorem dX6_emptyIn_20 : decode cX6_emptyIn 20 = .ok (.istore_n 2, 1) := by decide +kernel
theorem dX6_emptyIn_21 : decode cX6_emptyIn 21 = .ok (.iload_n 2, 1) := by decide +kernel
theorem dX6_emptyIn_22 : decode cX6_emptyIn 22 = .ok (.ldc 231, 2) := by decide +kernel
theorem dX6_emptyIn_24 : decode cX6_emptyIn 24 = .ok (.if_icmp .ge 31, 3) := by decide +kernel
theorem dX6_emptyIn_27 : decode cX6_emptyIn 27 = .ok (.aload_n 1, 1) := by decide +kernel
theorem dX6_emptyIn_28 : decode cX6_emptyIn 28 = .ok (.invokevirtual 232, 3) := by decide +kernel
theorem dX6_emptyIn_31 : decode cX6_emptyIn 31 = .ok (.ifCond .eq 24, 3) := by decide +kernel
theorem dX6_emptyIn_34 : decode cX6_emptyIn 34 = .ok (.aload_n 1, 1) := by decide +kernel
theorem dX6_emptyIn_35 : decode cX6_emptyIn 35 = .ok (.aload_n 0, 1) := by decide +kernel
theorem dX6_emptyIn_36 : decode cX6_emptyIn 36 = .ok (.getfield 19, 3) := by decide +kernel
theorem dX6_emptyIn_39 : decode cX6_emptyIn 39 = .ok (.getfield 51, 3) := by decide +kernel
theorem dX6_emptyIn_42 : decode cX6_emptyIn 42 = .ok (.aload_n 0, 1) := by decide +kernel
theorem dX6_emptyIn_43 : decode cX6_emptyIn 43 = .ok (.getfield 29, 3) := by decide +kernel
theorem dX6_emptyIn_46 : decode cX6_emptyIn 46 = .ok (.invokevirtual 227, 3) := by decide +kernel
theorem dX6_emptyIn_49 : decode cX6_emptyIn 49 = .ok (.iinc 2 1, 3) := by decide +kernel
theorem dX6_emptyIn_52 : decode cX6_emptyIn 52 = .ok (.goto (-31), 3) := by decide +kernel
theorem dX6_emptyIn_55 : decode cX6_emptyIn 55 = .ok (.iload_n 2, 1) := by decide +kernel
theorem dX6_emptyIn_56 : decode cX6_emptyIn 56 = .ok (.ireturn, 1) := by decide +kernel
set_option maxRecDepth 20000 in
theorem ggX6_meanPaid_X1_count : GoodIn wsX6_meanPaid wsX1_count := goodIn_r _ [7, 8, 9, 10, 11, 6, 12, 13, 28, 29, 30, 31, 32] (by decide +kernel) (by decide +kernel)
set_option maxRecDepth 20000 in
theorem gX6_meanPaid_X1_count : GoodIn wsX6_meanPaid (wsV RX6 132 RX1 yX1_count wsX1_count) := goodIn_app (goodIn_of _ (by decide +kernel)) ggX6_meanPaid_X1_count
set_option maxRecDepth 20000 in
theorem ggX6_meanPaid_X1_allPaid : GoodIn wsX6_meanPaid wsX1_allPaid := goodIn_r _ [17, 8, 9, 10, 11, 6, 12, 13, 28, 29, 30, 31, 32] (by decide +kernel) (by decide +kernel)
set_option maxRecDepth 20000 in
theorem gX6_meanPaid_X1_allPaid : GoodIn wsX6_meanPaid (wsV RX6 136 RX1 yX1_allPaid wsX1_allPaid) := goodIn_app (goodIn_of _ (by decide +kernel)) ggX6_meanPaid_X1_allPaid
theorem dX6_meanPaid_0 : decode cX6_meanPaid 0 = .ok (.aload_n 0, 1) := by decide +kernel
theorem dX6_meanPaid_1 : decode cX6_meanPaid 1 = .ok (.getfield 19, 3) := by decide +kernel
theorem dX6_meanPaid_4 : decode cX6_meanPaid 4 = .ok (.getfield 99, 3) := by decide +kernel
theorem dX6_meanPaid_7 : decode cX6_meanPaid 7 = .ok (.iconst 2, 1) := by decide +kernel
theorem dX6_meanPaid_8 : decode cX6_meanPaid 8 = .ok (.invokevirtual 132, 3) := by decide +kernel
theorem dX6_meanPaid_11 : decode cX6_meanPaid 11 = .ok (.istore_n 1, 1) := by decide +kernel
theorem dX6_meanPaid_12 : decode cX6_meanPaid 12 = .ok (.iload_n 1, 1) := by decide +kernel
theorem dX6_meanPaid_13 : decode cX6_meanPaid 13 = .ok (.ifCond .ne 7, 3) := by decide +kernel
theorem dX6_meanPaid_16 : decode cX6_meanPaid 16 = .ok (.fconst 0, 1) := by decide +kernel
theorem dX6_meanPaid_17 : decode cX6_meanPaid 17 = .ok (.goto 17, 3) := by decide +kernel
theorem dX6_meanPaid_20 : decode cX6_meanPaid 20 = .ok (.aload_n 0, 1) := by decide +kernel
theorem dX6_meanPaid_21 : decode cX6_meanPaid 21 = .ok (.getfield 19, 3) := by decide +kernel
theorem dX6_meanPaid_24 : decode cX6_meanPaid 24 = .ok (.getfield 99, 3) := by decide +kernel
theorem dX6_meanPaid_27 : decode cX6_meanPaid 27 = .ok (.invokevirtual 136, 3) := by decide +kernel
theorem dX6_meanPaid_30 : decode cX6_meanPaid 30 = .ok (.i2f, 1) := by decide +kernel
theorem dX6_meanPaid_31 : decode cX6_meanPaid 31 = .ok (.iload_n 1, 1) := by decide +kernel
theorem dX6_meanPaid_32 : decode cX6_meanPaid 32 = .ok (.i2f, 1) := by decide +kernel
theorem dX6_meanPaid_33 : decode cX6_meanPaid 33 = .ok (.fdiv, 1) := by decide +kernel
theorem dX6_meanPaid_34 : decode cX6_meanPaid 34 = .ok (.freturn, 1) := by decide +kernel
set_option maxRecDepth 20000 in
theorem ggX6_pass_X6_requireRange : GoodIn wsX6_pass wsX6_requireRange := goodIn_ca (goodIn_r _ [8, 9, 10] (by decide +kernel) (by decide +kernel)) (goodIn_sub (fun _ h => List.mem_cons_of_mem _ (List.mem_append_right _ h)) (by decide +kernel))
set_option maxRecDepth 20000 in
theorem gX6_pass_X6_requireRange : GoodIn wsX6_pass (va_wsS RX6 191 yX6_requireRange wsX6_requireRange) := goodIn_app (goodIn_of _ (by decide +kernel)) ggX6_pass_X6_requireRange
set_option maxRecDepth 20000 in
theorem ggX6_pass_X6_remember : GoodIn wsX6_pass wsX6_remember := goodIn_r _ [14, 15, 16, 1, 17, 18, 19, 20, 21, 22, 23, 24, 25, 26, 27, 28, 29, 30, 31, 32, 33, 34, 35, 36, 37, 38, 39, 40, 41, 42, 43, 44, 45, 46, 47, 48, 49, 50, 51, 52, 53, 54, 55, 56, 57, 58, 59, 60, 61, 62, 63, 64, 65, 66, 142, 143, 144, 145, 146, 147, 148, 149, 150, 151, 152, 153, 154, 155, 156, 157, 158, 159, 160, 161, 162, 163, 164, 165, 166, 167, 168, 169] (by decide +kernel) (by decide +kernel)
set_option maxRecDepth 20000 in
theorem gX6_pass_X6_remember : GoodIn wsX6_pass (wsV RX6 89 RX6 yX6_remember wsX6_remember) := goodIn_app (goodIn_of _ (by decide +kernel)) ggX6_pass_X6_remember
set_option maxRecDepth 20000 in
theorem ggX6_pass_X1_allPaid : GoodIn wsX6_pass wsX1_allPaid := goodIn_r _ [70, 61, 71, 72, 73, 59, 74, 66, 165, 166, 167, 168, 169] (by decide +kernel) (by decide +kernel)
set_option maxRecDepth 20000 in
theorem gX6_pass_X1_allPaid : GoodIn wsX6_pass (wsV RX6 136 RX1 yX1_allPaid wsX1_allPaid) := goodIn_app (goodIn_of _ (by decide +kernel)) ggX6_pass_X1_allPaid
set_option maxRecDepth 20000 in
theorem ggX6_pass_X1_tick : GoodIn wsX6_pass wsX1_tick := goodIn_r _ [78, 61, 63, 71, 72, 73, 59, 74, 66, 79, 80, 81, 82, 83, 19, 20, 21, 64, 84, 85, 86, 87, 88, 89, 90, 91, 92, 93, 94, 95, 96, 97, 98, 99, 100, 51, 101, 53, 54, 102, 103, 104, 105, 106, 107, 108, 7, 109, 110, 111, 112, 113, 114, 115, 116, 117, 118, 119, 120, 121, 122, 123, 124, 125, 126, 127, 128, 129, 130, 131, 132, 133, 32, 134, 35, 46, 135, 136, 137, 38, 138, 139, 140, 141, 62, 165, 166, 167, 168, 169, 170, 171, 172, 173, 174, 152, 153, 154, 155, 156, 157, 158, 159, 160, 161, 162, 163, 164] (by decide +kernel) (by decide +kernel)
set_option maxRecDepth 20000 in
theorem gX6_pass_X1_tick : GoodIn wsX6_pass (wsV RX6 227 RX1 yX1_tick wsX1_tick) := goodIn_app (goodIn_of _ (by decide +kernel)) ggX6_pass_X1_tick
theorem dX6_pass_0 : decode cX6_pass 0 = .ok (.iload_n 1, 1) := by decide +kernel
theorem dX6_pass_1 : decode cX6_pass 1 = .ok (.iconst 1, 1) := by decide +kernel
theorem dX6_pass_2 : decode cX6_pass 2 = .ok (.bipush 50, 2) := by decide +kernel
theorem dX6_pass_4 : decode cX6_pass 4 = .ok (.invokestatic 191, 3) := by decide +kernel
theorem dX6_pass_7 : decode cX6_pass 7 = .ok (.aload_n 0, 1) := by decide +kernel
theorem dX6_pass_8 : decode cX6_pass 8 = .ok (.invokevirtual 89, 3) := by decide +kernel
theorem dX6_pass_11 : decode cX6_pass 11 = .ok (.aload_n 0, 1) := by decide +kernel
theorem dX6_pass_12 : decode cX6_pass 12 = .ok (.getfield 19, 3) := by decide +kernel
theorem dX6_pass_15 : decode cX6_pass 15 = .ok (.getfield 99, 3) := by decide +kernel
theorem dX6_pass_18 : decode cX6_pass 18 = .ok (.invokevirtual 136, 3) := by decide +kernel
theorem dX6_pass_21 : decode cX6_pass 21 = .ok (.istore_n 2, 1) := by decide +kernel
theorem dX6_pass_22 : decode cX6_pass 22 = .ok (.iconst 0, 1) := by decide +kernel
theorem dX6_pass_23 : decode cX6_pass 23 = .ok (.istore_n 3, 1) := by decide +kernel
theorem dX6_pass_24 : decode cX6_pass 24 = .ok (.iload_n 3, 1) := by decide +kernel
theorem dX6_pass_25 : decode cX6_pass 25 = .ok (.iload_n 1, 1) := by decide +kernel
theorem dX6_pass_26 : decode cX6_pass 26 = .ok (.if_icmp .ge 30, 3) := by decide +kernel
theorem dX6_pass_29 : decode cX6_pass 29 = .ok (.aload_n 0, 1) := by decide +kernel
theorem dX6_pass_30 : decode cX6_pass 30 = .ok (.getfield 19, 3) := by decide +kernel
theorem dX6_pass_33 : decode cX6_pass 33 = .ok (.getfield 99, 3) := by decide +kernel
theorem dX6_pass_36 : decode cX6_pass 36 = .ok (.aload_n 0, 1) := by decide +kernel
theorem dX6_pass_37 : decode cX6_pass 37 = .ok (.getfield 19, 3) := by decide +kernel
theorem dX6_pass_40 : decode cX6_pass 40 = .ok (.getfield 51, 3) := by decide +kernel
theorem dX6_pass_43 : decode cX6_pass 43 = .ok (.aload_n 0, 1) := by decide +kernel
theorem dX6_pass_44 : decode cX6_pass 44 = .ok (.getfield 29, 3) := by decide +kernel
theorem dX6_pass_47 : decode cX6_pass 47 = .ok (.invokevirtual 227, 3) := by decide +kernel
theorem dX6_pass_50 : decode cX6_pass 50 = .ok (.iinc 3 1, 3) := by decide +kernel
theorem dX6_pass_53 : decode cX6_pass 53 = .ok (.goto (-29), 3) := by decide +kernel
theorem dX6_pass_56 : decode cX6_pass 56 = .ok (.aload_n 0, 1) := by decide +kernel
theorem dX6_pass_57 : decode cX6_pass 57 = .ok (.getfield 19, 3) := by decide +kernel
theorem dX6_pass_60 : decode cX6_pass 60 = .ok (.getfield 99, 3) := by decide +kernel
theorem dX6_pass_63 : decode cX6_pass 63 = .ok (.invokevirtual 136, 3) := by decide +kernel
theorem dX6_pass_66 : decode cX6_pass 66 = .ok (.iload_n 2, 1) := by decide +kernel
theorem dX6_pass_67 : decode cX6_pass 67 = .ok (.isub, 1) := by decide +kernel
theorem dX6_pass_68 : decode cX6_pass 68 = .ok (.ireturn, 1) := by decide +kernel
set_option maxRecDepth 20000 in
theorem ggX6_pull_X6_requirePlane : GoodIn wsX6_pull wsX6_requirePlane := goodIn_ca (goodIn_r _ [12, 13, 14, 3, 4, 15, 130, 131, 132, 133, 134, 135, 136, 137, 138, 139, 140, 141, 142, 143, 144, 145, 146, 147, 148, 149] (by decide +kernel) (by decide +kernel)) (goodIn_sub (fun _ h => List.mem_cons_of_mem _ (List.mem_append_left _ (List.mem_append_right _ h))) (by decide +kernel))
set_option maxRecDepth 20000 in
theorem gX6_pull_X6_requirePlane : GoodIn wsX6_pull (wsV RX6 142 RX6 yX6_requirePlane wsX6_requirePlane) := goodIn_app (goodIn_of _ (by decide +kernel)) ggX6_pull_X6_requirePlane
set_option maxRecDepth 20000 in
theorem ggX6_pull_X6_requireRange : GoodIn wsX6_pull wsX6_requireRange := goodIn_ca (goodIn_r _ [18, 19, 20] (by decide +kernel) (by decide +kernel)) (goodIn_sub (fun _ h => List.mem_cons_of_mem _ (List.mem_append_right _ h)) (by decide +kernel))
set_option maxRecDepth 20000 in
theorem gX6_pull_X6_requireRange : GoodIn wsX6_pull (va_wsS RX6 191 yX6_requireRange wsX6_requireRange) := goodIn_app (goodIn_of _ (by decide +kernel)) ggX6_pull_X6_requireRange
set_option maxRecDepth 20000 in
theorem ggX6_pull_X0_isBack : GoodIn wsX6_pull wsX0_isBack := goodIn_r _ [25, 26, 140, 141, 142, 143, 144, 145, 146, 147, 148, 149] (by decide +kernel) (by decide +kernel)
set_option maxRecDepth 20000 in
theorem gX6_pull_X0_isBack : GoodIn wsX6_pull (wsV RX6 216 RX0 yX0_isBack wsX0_isBack) := goodIn_app (goodIn_of _ (by decide +kernel)) ggX6_pull_X0_isBack
set_option maxRecDepth 20000 in
theorem ggX6_pull_X6_remember : GoodIn wsX6_pull wsX6_remember := goodIn_r _ [30, 31, 32, 3, 33, 34, 35, 36, 37, 38, 39, 40, 41, 42, 43, 44, 45, 46, 47, 24, 48, 49, 50, 26, 51, 52, 53, 54, 55, 56, 57, 58, 59, 60, 61, 62, 63, 64, 65, 66, 67, 68, 69, 70, 71, 72, 73, 74, 75, 76, 77, 78, 79, 80, 130, 131, 132, 133, 134, 135, 136, 137, 138, 139, 140, 141, 142, 143, 144, 145, 146, 147, 148, 149, 150, 151, 152, 153, 154, 155, 156, 157] (by decide +kernel) (by decide +kernel)
set_option maxRecDepth 20000 in
theorem gX6_pull_X6_remember : GoodIn wsX6_pull (wsV RX6 89 RX6 yX6_remember wsX6_remember) := goodIn_app (goodIn_of _ (by decide +kernel)) ggX6_pull_X6_remember
set_option maxRecDepth 20000 in
theorem ggX6_pull_X5_update : GoodIn wsX6_pull wsX5_update := goodIn_r _ [85, 86, 87, 88, 89, 90, 91, 92, 93, 94, 95, 96, 84, 97, 98, 99, 100, 101, 102, 103, 104, 24, 105, 26, 106, 107, 36, 108, 109, 110, 111, 112, 59, 60, 113, 114, 115, 116, 117, 11, 118, 119, 120, 121, 122, 58, 50, 53, 123, 124, 125, 126, 127, 128, 129, 158, 159, 160, 161, 162, 140, 141, 142, 143, 144, 145, 146, 147, 148, 149] (by decide +kernel) (by decide +kernel)
set_option maxRecDepth 20000 in
theorem gX6_pull_X5_update : GoodIn wsX6_pull (wsV RX6 61 RX5 yX5_update wsX5_update) := goodIn_app (goodIn_of _ (by decide +kernel)) ggX6_pull_X5_update
theorem dX6_pull_0 : decode cX6_pull 0 = .ok (.aload_n 0, 1) := by decide +kernel
theorem dX6_pull_1 : decode cX6_pull 1 = .ok (.iload_n 1, 1) := by decide +kernel
theorem dX6_pull_2 : decode cX6_pull 2 = .ok (.invokevirtual 142, 3) := by decide +kernel
theorem dX6_pull_5 : decode cX6_pull 5 = .ok (.iload_n 2, 1) := by decide +kernel
theorem dX6_pull_6 : decode cX6_pull 6 = .ok (.iconst 0, 1) := by decide +kernel
theorem dX6_pull_7 : decode cX6_pull 7 = .ok (.aload_n 0, 1) := by decide +kernel
theorem dX6_pull_8 : decode cX6_pull 8 = .ok (.getfield 19, 3) := by decide +kernel
theorem dX6_pull_11 : decode cX6_pull 11 = .ok (.getfield 51, 3) := by decide +kernel
theorem dX6_pull_14 : decode cX6_pull 14 = .ok (.getfield 114, 3) := by decide +kernel
theorem dX6_pull_17 : decode cX6_pull 17 = .ok (.invokestatic 191, 3) := by decide +kernel
theorem dX6_pull_20 : decode cX6_pull 20 = .ok (.aload_n 0, 1) := by decide +kernel
theorem dX6_pull_21 : decode cX6_pull 21 = .ok (.getfield 19, 3) := by decide +kernel
theorem dX6_pull_24 : decode cX6_pull 24 = .ok (.getfield 51, 3) := by decide +kernel
theorem dX6_pull_27 : decode cX6_pull 27 = .ok (.iload_n 1, 1) := by decide +kernel
theorem dX6_pull_28 : decode cX6_pull 28 = .ok (.invokevirtual 216, 3) := by decide +kernel
theorem dX6_pull_31 : decode cX6_pull 31 = .ok (.ifCond .eq 13, 3) := by decide +kernel
theorem dX6_pull_34 : decode cX6_pull 34 = .ok (.new 236, 3) := by decide +kernel
theorem dX6_pull_37 : decode cX6_pull 37 = .ok (.dup, 1) := by decide +kernel
theorem dX6_pull_38 : decode cX6_pull 38 = .ok (.ldc 238, 2) := by decide +kernel
theorem dX6_pull_40 : decode cX6_pull 40 = .ok (.invokespecial 240, 3) := by decide +kernel
theorem dX6_pull_43 : decode cX6_pull 43 = .ok (.athrow, 1) := by decide +kernel
theorem dX6_pull_44 : decode cX6_pull 44 = .ok (.aload_n 0, 1) := by decide +kernel
theorem dX6_pull_45 : decode cX6_pull 45 = .ok (.invokevirtual 89, 3) := by decide +kernel
theorem dX6_pull_48 : decode cX6_pull 48 = .ok (.aload_n 0, 1) := by decide +kernel
theorem dX6_pull_49 : decode cX6_pull 49 = .ok (.getfield 19, 3) := by decide +kernel
theorem dX6_pull_52 : decode cX6_pull 52 = .ok (.getfield 51, 3) := by decide +kernel
theorem dX6_pull_55 : decode cX6_pull 55 = .ok (.getfield 152, 3) := by decide +kernel
theorem dX6_pull_58 : decode cX6_pull 58 = .ok (.iload_n 1, 1) := by decide +kernel
theorem dX6_pull_59 : decode cX6_pull 59 = .ok (.iaload, 1) := by decide +kernel
theorem dX6_pull_60 : decode cX6_pull 60 = .ok (.istore_n 3, 1) := by decide +kernel
theorem dX6_pull_61 : decode cX6_pull 61 = .ok (.aload_n 0, 1) := by decide +kernel
theorem dX6_pull_62 : decode cX6_pull 62 = .ok (.getfield 19, 3) := by decide +kernel
theorem dX6_pull_65 : decode cX6_pull 65 = .ok (.getfield 51, 3) := by decide +kernel
theorem dX6_pull_68 : decode cX6_pull 68 = .ok (.getfield 152, 3) := by decide +kernel
theorem dX6_pull_71 : decode cX6_pull 71 = .ok (.iload_n 1, 1) := by decide +kernel
theorem dX6_pull_72 : decode cX6_pull 72 = .ok (.iload_n 2, 1) := by decide +kernel
theorem dX6_pull_73 : decode cX6_pull 73 = .ok (.iastore, 1) := by decide +kernel
theorem dX6_pull_74 : decode cX6_pull 74 = .ok (.aload_n 0, 1) := by decide +kernel
theorem dX6_pull_75 : decode cX6_pull 75 = .ok (.getfield 29, 3) := by decide +kernel
theorem dX6_pull_78 : decode cX6_pull 78 = .ok (.aload_n 0, 1) := by decide +kernel
theorem dX6_pull_79 : decode cX6_pull 79 = .ok (.getfield 19, 3) := by decide +kernel
theorem dX6_pull_82 : decode cX6_pull 82 = .ok (.getfield 51, 3) := by decide +kernel
theorem dX6_pull_85 : decode cX6_pull 85 = .ok (.invokevirtual 61, 3) := by decide +kernel
theorem dX6_pull_88 : decode cX6_pull 88 = .ok (.iload_n 3, 1) := by decide +kernel
theorem dX6_pull_89 : decode cX6_pull 89 = .ok (.ireturn, 1) := by decide +kernel
set_option maxRecDepth 20000 in
theorem ggX6_come_X6_requireRange : GoodIn wsX6_come wsX6_requireRange := goodIn_ca (goodIn_r _ [9, 10, 11] (by decide +kernel) (by decide +kernel)) (goodIn_sub (fun _ h => List.mem_cons_of_mem _ (List.mem_append_right _ h)) (by decide +kernel))
set_option maxRecDepth 20000 in
theorem gX6_come_X6_requireRange : GoodIn wsX6_come (va_wsS RX6 191 yX6_requireRange wsX6_requireRange) := goodIn_app (goodIn_of _ (by decide +kernel)) ggX6_come_X6_requireRange
set_option maxRecDepth 20000 in
theorem ggX6_come_X1_isFull : GoodIn wsX6_come wsX1_isFull := goodIn_r _ [16, 17, 95, 96, 97, 98, 99] (by decide +kernel) (by decide +kernel)
set_option maxRecDepth 20000 in
theorem gX6_come_X1_isFull : GoodIn wsX6_come (wsV RX6 241 RX1 yX1_isFull wsX1_isFull) := goodIn_app (goodIn_of _ (by decide +kernel)) ggX6_come_X1_isFull
set_option maxRecDepth 20000 in
theorem ggX6_come_X6_remember : GoodIn wsX6_come wsX6_remember := goodIn_r _ [21, 22, 23, 3, 24, 25, 26, 27, 28, 29, 30, 31, 32, 33, 34, 35, 36, 37, 38, 39, 40, 41, 42, 43, 44, 45, 46, 47, 48, 49, 50, 51, 52, 53, 54, 55, 56, 57, 58, 59, 60, 61, 62, 63, 64, 65, 15, 66, 17, 67, 68, 69, 70, 71, 85, 86, 87, 88, 89, 90, 91, 92, 93, 94, 100, 101, 102, 103, 104, 105, 106, 107, 108, 109, 110, 111, 112, 95, 96, 97, 98, 99] (by decide +kernel) (by decide +kernel)
set_option maxRecDepth 20000 in
theorem gX6_come_X6_remember : GoodIn wsX6_come (wsV RX6 89 RX6 yX6_remember wsX6_remember) := goodIn_app (goodIn_of _ (by decide +kernel)) ggX6_come_X6_remember
set_option maxRecDepth 20000 in
theorem ggX6_come_X1_add : GoodIn wsX6_come wsX1_add := goodIn_r _ [75, 17, 76, 13, 14, 15, 16, 77, 78, 79, 80, 71, 81, 82, 83, 84, 95, 96, 97, 98, 99] (by decide +kernel) (by decide +kernel)
set_option maxRecDepth 20000 in
theorem gX6_come_X1_add : GoodIn wsX6_come (wsV RX6 246 RX1 yX1_add wsX1_add) := goodIn_app (goodIn_of _ (by decide +kernel)) ggX6_come_X1_add
theorem dX6_come_0 : decode cX6_come 0 = .ok (.iload_n 1, 1) := by decide +kernel
theorem dX6_come_1 : decode cX6_come 1 = .ok (.iconst 0, 1) := by decide +kernel
theorem dX6_come_2 : decode cX6_come 2 = .ok (.bipush 9, 2) := by decide +kernel
theorem dX6_come_4 : decode cX6_come 4 = .ok (.invokestatic 191, 3) := by decide +kernel
theorem dX6_come_7 : decode cX6_come 7 = .ok (.iload_n 2, 1) := by decide +kernel
theorem dX6_come_8 : decode cX6_come 8 = .ok (.iconst 0, 1) := by decide +kernel
theorem dX6_come_9 : decode cX6_come 9 = .ok (.bipush 25, 2) := by decide +kernel
theorem dX6_come_11 : decode cX6_come 11 = .ok (.invokestatic 191, 3) := by decide +kernel
theorem dX6_come_14 : decode cX6_come 14 = .ok (.iload_n 3, 1) := by decide +kernel
theorem dX6_come_15 : decode cX6_come 15 = .ok (.iconst 0, 1) := by decide +kernel
theorem dX6_come_16 : decode cX6_come 16 = .ok (.sipush 999, 3) := by decide +kernel
theorem dX6_come_19 : decode cX6_come 19 = .ok (.invokestatic 191, 3) := by decide +kernel
theorem dX6_come_22 : decode cX6_come 22 = .ok (.aload_n 0, 1) := by decide +kernel
theorem dX6_come_23 : decode cX6_come 23 = .ok (.getfield 19, 3) := by decide +kernel
theorem dX6_come_26 : decode cX6_come 26 = .ok (.getfield 99, 3) := by decide +kernel
theorem dX6_come_29 : decode cX6_come 29 = .ok (.invokevirtual 241, 3) := by decide +kernel
theorem dX6_come_32 : decode cX6_come 32 = .ok (.ifCond .eq 13, 3) := by decide +kernel
theorem dX6_come_35 : decode cX6_come 35 = .ok (.new 236, 3) := by decide +kernel
theorem dX6_come_38 : decode cX6_come 38 = .ok (.dup, 1) := by decide +kernel
theorem dX6_come_39 : decode cX6_come 39 = .ok (.ldc 244, 2) := by decide +kernel
theorem dX6_come_41 : decode cX6_come 41 = .ok (.invokespecial 240, 3) := by decide +kernel
theorem dX6_come_44 : decode cX6_come 44 = .ok (.athrow, 1) := by decide +kernel
theorem dX6_come_45 : decode cX6_come 45 = .ok (.aload_n 0, 1) := by decide +kernel
theorem dX6_come_46 : decode cX6_come 46 = .ok (.invokevirtual 89, 3) := by decide +kernel
theorem dX6_come_49 : decode cX6_come 49 = .ok (.aload_n 0, 1) := by decide +kernel
theorem dX6_come_50 : decode cX6_come 50 = .ok (.getfield 19, 3) := by decide +kernel
theorem dX6_come_53 : decode cX6_come 53 = .ok (.getfield 99, 3) := by decide +kernel
theorem dX6_come_56 : decode cX6_come 56 = .ok (.iload_n 1, 1) := by decide +kernel
theorem dX6_come_57 : decode cX6_come 57 = .ok (.iload_n 2, 1) := by decide +kernel
theorem dX6_come_58 : decode cX6_come 58 = .ok (.iload_n 3, 1) := by decide +kernel
theorem dX6_come_59 : decode cX6_come 59 = .ok (.invokevirtual 246, 3) := by decide +kernel
theorem dX6_come_62 : decode cX6_come 62 = .ok (.aload_n 0, 1) := by decide +kernel
theorem dX6_come_63 : decode cX6_come 63 = .ok (.getfield 19, 3) := by decide +kernel
theorem dX6_come_66 : decode cX6_come 66 = .ok (.getfield 99, 3) := by decide +kernel
theorem dX6_come_69 : decode cX6_come 69 = .ok (.getfield 103, 3) := by decide +kernel
theorem dX6_come_72 : decode cX6_come 72 = .ok (.iconst 1, 1) := by decide +kernel
theorem dX6_come_73 : decode cX6_come 73 = .ok (.isub, 1) := by decide +kernel
theorem dX6_come_74 : decode cX6_come 74 = .ok (.ireturn, 1) := by decide +kernel
set_option maxRecDepth 20000 in
theorem ggX6_length_X6_requireRange : GoodIn wsX6_length wsX6_requireRange := goodIn_ca (goodIn_r _ [7, 8, 9] (by decide +kernel) (by decide +kernel)) (goodIn_sub (fun _ h => List.mem_cons_of_mem _ (List.mem_append_right _ h)) (by decide +kernel))
set_option maxRecDepth 20000 in
theorem gX6_length_X6_requireRange : GoodIn wsX6_length (va_wsS RX6 191 yX6_requireRange wsX6_requireRange) := goodIn_app (goodIn_of _ (by decide +kernel)) ggX6_length_X6_requireRange
set_option maxRecDepth 20000 in
theorem ggX6_length_X6_remember : GoodIn wsX6_length wsX6_remember := goodIn_r _ [13, 14, 15, 1, 16, 17, 18, 19, 20, 21, 22, 23, 24, 25, 26, 27, 28, 29, 30, 31, 32, 33, 34, 35, 36, 37, 38, 39, 40, 41, 42, 43, 44, 45, 46, 47, 48, 49, 50, 51, 52, 53, 54, 55, 56, 57, 58, 59, 60, 61, 62, 63, 64, 65, 66, 67, 68, 69, 70, 71, 72, 73, 74, 75, 81, 82, 83, 84, 85, 86, 87, 88, 89, 90, 91, 92, 93, 76, 77, 78, 79, 80] (by decide +kernel) (by decide +kernel)
set_option maxRecDepth 20000 in
theorem gX6_length_X6_remember : GoodIn wsX6_length (wsV RX6 89 RX6 yX6_remember wsX6_remember) := goodIn_app (goodIn_of _ (by decide +kernel)) ggX6_length_X6_remember
theorem dX6_length_0 : decode cX6_length 0 = .ok (.iload_n 1, 1) := by decide +kernel
theorem dX6_length_1 : decode cX6_length 1 = .ok (.iconst 1, 1) := by decide +kernel
theorem dX6_length_2 : decode cX6_length 2 = .ok (.bipush 20, 2) := by decide +kernel
theorem dX6_length_4 : decode cX6_length 4 = .ok (.invokestatic 191, 3) := by decide +kernel
theorem dX6_length_7 : decode cX6_length 7 = .ok (.aload_n 0, 1) := by decide +kernel
theorem dX6_length_8 : decode cX6_length 8 = .ok (.invokevirtual 89, 3) := by decide +kernel
theorem dX6_length_11 : decode cX6_length 11 = .ok (.aload_n 0, 1) := by decide +kernel
theorem dX6_length_12 : decode cX6_length 12 = .ok (.getfield 19, 3) := by decide +kernel
theorem dX6_length_15 : decode cX6_length 15 = .ok (.getfield 99, 3) := by decide +kernel
theorem dX6_length_18 : decode cX6_length 18 = .ok (.getfield 126, 3) := by decide +kernel
theorem dX6_length_21 : decode cX6_length 21 = .ok (.istore_n 2, 1) := by decide +kernel
theorem dX6_length_22 : decode cX6_length 22 = .ok (.aload_n 0, 1) := by decide +kernel
theorem dX6_length_23 : decode cX6_length 23 = .ok (.getfield 19, 3) := by decide +kernel
theorem dX6_length_26 : decode cX6_length 26 = .ok (.getfield 99, 3) := by decide +kernel
theorem dX6_length_29 : decode cX6_length 29 = .ok (.iload_n 1, 1) := by decide +kernel
theorem dX6_length_30 : decode cX6_length 30 = .ok (.putfield 126, 3) := by decide +kernel
theorem dX6_length_33 : decode cX6_length 33 = .ok (.iload_n 2, 1) := by decide +kernel
theorem dX6_length_34 : decode cX6_length 34 = .ok (.ireturn, 1) := by decide +kernel
set_option maxRecDepth 20000 in
theorem ggX6_undo_X4_copyFrom : GoodIn wsX6_undo wsX4_copyFrom := goodIn_r _ [11, 12, 13, 14, 15, 16, 17, 18, 19, 20, 21, 22, 23, 24, 25, 26, 27, 28, 29, 30, 31, 32, 33, 34, 35, 36, 37, 38, 39, 40, 41, 42, 43, 44, 45, 46, 47, 48, 49, 50, 51, 111, 112, 113, 114, 115, 116, 117, 118, 119, 120, 121, 122, 123, 124, 125, 126, 127, 128, 129, 130] (by decide +kernel) (by decide +kernel)
set_option maxRecDepth 20000 in
theorem gX6_undo_X4_copyFrom : GoodIn wsX6_undo (wsV RX6 95 RX4 yX4_copyFrom wsX4_copyFrom) := goodIn_app (goodIn_of _ (by decide +kernel)) ggX6_undo_X4_copyFrom
set_option maxRecDepth 20000 in
theorem ggX6_undo_X5_update : GoodIn wsX6_undo wsX5_update := goodIn_r _ [56, 57, 58, 59, 60, 61, 62, 63, 64, 65, 66, 67, 55, 68, 69, 70, 71, 72, 73, 74, 75, 17, 76, 21, 77, 78, 79, 80, 81, 82, 83, 84, 30, 31, 85, 86, 87, 88, 89, 90, 91, 92, 93, 94, 95, 29, 20, 24, 96, 97, 98, 99, 100, 101, 102, 131, 132, 133, 134, 135, 113, 114, 115, 116, 117, 118, 119, 120, 121, 122] (by decide +kernel) (by decide +kernel)
set_option maxRecDepth 20000 in
theorem gX6_undo_X5_update : GoodIn wsX6_undo (wsV RX6 61 RX5 yX5_update wsX5_update) := goodIn_app (goodIn_of _ (by decide +kernel)) ggX6_undo_X5_update
theorem dX6_undo_0 : decode cX6_undo 0 = .ok (.aload_n 0, 1) := by decide +kernel
theorem dX6_undo_1 : decode cX6_undo 1 = .ok (.getfield 44, 3) := by decide +kernel
theorem dX6_undo_4 : decode cX6_undo 4 = .ok (.ifCond .ne 5, 3) := by decide +kernel
theorem dX6_undo_7 : decode cX6_undo 7 = .ok (.iconst (-1), 1) := by decide +kernel
theorem dX6_undo_8 : decode cX6_undo 8 = .ok (.ireturn, 1) := by decide +kernel
theorem dX6_undo_9 : decode cX6_undo 9 = .ok (.aload_n 0, 1) := by decide +kernel
theorem dX6_undo_10 : decode cX6_undo 10 = .ok (.aload_n 0, 1) := by decide +kernel
theorem dX6_undo_11 : decode cX6_undo 11 = .ok (.getfield 40, 3) := by decide +kernel
theorem dX6_undo_14 : decode cX6_undo 14 = .ok (.bipush 8, 2) := by decide +kernel
theorem dX6_undo_16 : decode cX6_undo 16 = .ok (.iadd, 1) := by decide +kernel
theorem dX6_undo_17 : decode cX6_undo 17 = .ok (.iconst 1, 1) := by decide +kernel
theorem dX6_undo_18 : decode cX6_undo 18 = .ok (.isub, 1) := by decide +kernel
theorem dX6_undo_19 : decode cX6_undo 19 = .ok (.bipush 8, 2) := by decide +kernel
theorem dX6_undo_21 : decode cX6_undo 21 = .ok (.irem, 1) := by decide +kernel
theorem dX6_undo_22 : decode cX6_undo 22 = .ok (.putfield 40, 3) := by decide +kernel
theorem dX6_undo_25 : decode cX6_undo 25 = .ok (.aload_n 0, 1) := by decide +kernel
theorem dX6_undo_26 : decode cX6_undo 26 = .ok (.dup, 1) := by decide +kernel
theorem dX6_undo_27 : decode cX6_undo 27 = .ok (.getfield 44, 3) := by decide +kernel
theorem dX6_undo_30 : decode cX6_undo 30 = .ok (.iconst 1, 1) := by decide +kernel
theorem dX6_undo_31 : decode cX6_undo 31 = .ok (.isub, 1) := by decide +kernel
theorem dX6_undo_32 : decode cX6_undo 32 = .ok (.putfield 44, 3) := by decide +kernel
theorem dX6_undo_35 : decode cX6_undo 35 = .ok (.aload_n 0, 1) := by decide +kernel
theorem dX6_undo_36 : decode cX6_undo 36 = .ok (.getfield 19, 3) := by decide +kernel
theorem dX6_undo_39 : decode cX6_undo 39 = .ok (.aload_n 0, 1) := by decide +kernel
theorem dX6_undo_40 : decode cX6_undo 40 = .ok (.getfield 36, 3) := by decide +kernel
theorem dX6_undo_43 : decode cX6_undo 43 = .ok (.aload_n 0, 1) := by decide +kernel
theorem dX6_undo_44 : decode cX6_undo 44 = .ok (.getfield 40, 3) := by decide +kernel
theorem dX6_undo_47 : decode cX6_undo 47 = .ok (.aaload, 1) := by decide +kernel
theorem dX6_undo_48 : decode cX6_undo 48 = .ok (.invokevirtual 95, 3) := by decide +kernel
theorem dX6_undo_51 : decode cX6_undo 51 = .ok (.aload_n 0, 1) := by decide +kernel
theorem dX6_undo_52 : decode cX6_undo 52 = .ok (.getfield 29, 3) := by decide +kernel
theorem dX6_undo_55 : decode cX6_undo 55 = .ok (.aload_n 0, 1) := by decide +kernel
theorem dX6_undo_56 : decode cX6_undo 56 = .ok (.getfield 19, 3) := by decide +kernel
theorem dX6_undo_59 : decode cX6_undo 59 = .ok (.getfield 51, 3) := by decide +kernel
theorem dX6_undo_62 : decode cX6_undo 62 = .ok (.invokevirtual 61, 3) := by decide +kernel
theorem dX6_undo_65 : decode cX6_undo 65 = .ok (.aload_n 0, 1) := by decide +kernel
theorem dX6_undo_66 : decode cX6_undo 66 = .ok (.getfield 44, 3) := by decide +kernel
theorem dX6_undo_69 : decode cX6_undo 69 = .ok (.ireturn, 1) := by decide +kernel
set_option maxRecDepth 20000 in
theorem ggX6_checksum_X6_state : GoodIn wsX6_checksum wsX6_state := goodIn_ca (goodIn_r _ [12, 13, 14, 2, 3, 6, 15, 16, 4, 5, 17, 18, 19, 7, 20, 21, 22, 23, 24, 25, 26, 27, 28, 29, 30, 31, 32, 33, 34, 97, 98, 99, 100, 101, 102, 103, 104, 105, 106, 107, 108, 109, 110, 111, 112, 113, 114, 115, 116, 117, 118, 119, 120, 121] (by decide +kernel) (by decide +kernel)) (goodIn_sub (fun _ h => List.mem_cons_of_mem _ (List.mem_append_left _ (List.mem_append_right _ h))) (by decide +kernel))
set_option maxRecDepth 20000 in
theorem gX6_checksum_X6_state : GoodIn wsX6_checksum (wsV RX6 251 RX6 yX6_state wsX6_state) := goodIn_app (goodIn_of _ (by decide +kernel)) ggX6_checksum_X6_state
set_option maxRecDepth 20000 in
theorem ggX6_checksum_X6_plane : GoodIn wsX6_checksum wsX6_plane := goodIn_ca (goodIn_ca (goodIn_r _ [38, 13, 14, 2, 3, 39, 40, 41, 42, 43, 11, 44, 45, 46, 4, 47, 48, 49, 50, 51, 52, 53, 54, 55, 56, 57, 58, 59, 60, 61, 62, 63, 64, 65, 66, 67, 68, 69, 70, 71, 97, 98, 99, 100, 101, 102, 103, 104, 105, 106, 107, 108, 109, 110, 111, 112, 113, 114, 115, 116, 122, 123, 124, 125, 126] (by decide +kernel) (by decide +kernel)) (goodIn_sub (fun _ h => List.mem_cons_of_mem _ (List.mem_append_left _ (List.mem_append_right _ h))) (by decide +kernel))) (goodIn_sub (fun _ h => List.mem_cons_of_mem _ (List.mem_append_right _ h)) (by decide +kernel))
set_option maxRecDepth 20000 in
theorem gX6_checksum_X6_plane : GoodIn wsX6_checksum (wsV RX6 254 RX6 yX6_plane wsX6_plane) := goodIn_app (goodIn_of _ (by decide +kernel)) ggX6_checksum_X6_plane
set_option maxRecDepth 20000 in
theorem ggX6_checksum_X6_hole : GoodIn wsX6_checksum wsX6_hole := goodIn_ca (goodIn_ca (goodIn_r _ [75, 13, 14, 2, 3, 76, 77, 6, 78, 40, 79, 80, 81, 82, 83, 11, 84, 45, 46, 5, 97, 98, 99, 100, 101, 102, 103, 104, 105, 106, 107, 108, 109, 110, 111, 112, 113, 114, 115, 116, 117, 118, 119, 120, 121, 122, 123, 124, 125, 126] (by decide +kernel) (by decide +kernel)) (goodIn_sub (fun _ h => List.mem_cons_of_mem _ (List.mem_append_left _ (List.mem_append_right _ h))) (by decide +kernel))) (goodIn_sub (fun _ h => List.mem_cons_of_mem _ (List.mem_append_right _ h)) (by decide +kernel))
set_option maxRecDepth 20000 in
theorem gX6_checksum_X6_hole : GoodIn wsX6_checksum (wsV RX6 257 RX6 yX6_hole wsX6_hole) := goodIn_app (goodIn_of _ (by decide +kernel)) ggX6_checksum_X6_hole
set_option maxRecDepth 20000 in
theorem ggX6_checksum_X6_viewer : GoodIn wsX6_checksum wsX6_viewer := goodIn_ca (goodIn_ca (goodIn_r _ [88, 2, 6, 89, 90, 91, 11, 92, 45, 46, 7, 93, 94, 95, 13, 14, 96, 27, 28, 23, 29, 30, 97, 98, 99, 100, 101, 102, 103, 104, 105, 106, 117, 118, 119, 120, 121] (by decide +kernel) (by decide +kernel)) (goodIn_sub (fun _ h => List.mem_cons_of_mem _ (List.mem_append_right _ h)) (by decide +kernel))) (goodIn_sub (fun _ h => List.mem_cons_of_mem _ (List.mem_append_left _ (List.mem_append_right _ h))) (by decide +kernel))
set_option maxRecDepth 20000 in
theorem gX6_checksum_X6_viewer : GoodIn wsX6_checksum (wsV RX6 260 RX6 yX6_viewer wsX6_viewer) := goodIn_app (goodIn_of _ (by decide +kernel)) ggX6_checksum_X6_viewer
theorem dX6_checksum_0 : decode cX6_checksum 0 = .ok (.lconst 0, 1) := by decide +kernel
theorem dX6_checksum_1 : decode cX6_checksum 1 = .ok (.lstore_n 1, 1) := by decide +kernel
theorem dX6_checksum_2 : decode cX6_checksum 2 = .ok (.iconst 0, 1) := by decide +kernel
theorem dX6_checksum_3 : decode cX6_checksum 3 = .ok (.istore_n 3, 1) := by decide +kernel
theorem dX6_checksum_4 : decode cX6_checksum 4 = .ok (.iload_n 3, 1) := by decide +kernel
theorem dX6_checksum_5 : decode cX6_checksum 5 = .ok (.bipush 14, 2) := by decide +kernel
theorem dX6_checksum_7 : decode cX6_checksum 7 = .ok (.if_icmp .ge 22, 3) := by decide +kernel
theorem dX6_checksum_10 : decode cX6_checksum 10 = .ok (.ldc2_w 249, 3) := by decide +kernel
theorem dX6_checksum_13 : decode cX6_checksum 13 = .ok (.lload_n 1, 1) := by decide +kernel
theorem dX6_checksum_14 : decode cX6_checksum 14 = .ok (.lmul, 1) := by decide +kernel
theorem dX6_checksum_15 : decode cX6_checksum 15 = .ok (.aload_n 0, 1) := by decide +kernel
theorem dX6_checksum_16 : decode cX6_checksum 16 = .ok (.iload_n 3, 1) := by decide +kernel
theorem dX6_checksum_17 : decode cX6_checksum 17 = .ok (.invokevirtual 251, 3) := by decide +kernel
theorem dX6_checksum_20 : decode cX6_checksum 20 = .ok (.i2l, 1) := by decide +kernel
theorem dX6_checksum_21 : decode cX6_checksum 21 = .ok (.ladd, 1) := by decide +kernel
theorem dX6_checksum_22 : decode cX6_checksum 22 = .ok (.lstore_n 1, 1) := by decide +kernel
theorem dX6_checksum_23 : decode cX6_checksum 23 = .ok (.iinc 3 1, 3) := by decide +kernel
theorem dX6_checksum_26 : decode cX6_checksum 26 = .ok (.goto (-22), 3) := by decide +kernel
theorem dX6_checksum_29 : decode cX6_checksum 29 = .ok (.iconst 0, 1) := by decide +kernel
theorem dX6_checksum_30 : decode cX6_checksum 30 = .ok (.istore_n 3, 1) := by decide +kernel
theorem dX6_checksum_31 : decode cX6_checksum 31 = .ok (.iload_n 3, 1) := by decide +kernel
theorem dX6_checksum_32 : decode cX6_checksum 32 = .ok (.aload_n 0, 1) := by decide +kernel
theorem dX6_checksum_33 : decode cX6_checksum 33 = .ok (.getfield 19, 3) := by decide +kernel
theorem dX6_checksum_36 : decode cX6_checksum 36 = .ok (.getfield 51, 3) := by decide +kernel
theorem dX6_checksum_39 : decode cX6_checksum 39 = .ok (.getfield 117, 3) := by decide +kernel
theorem dX6_checksum_42 : decode cX6_checksum 42 = .ok (.if_icmp .ge 39, 3) := by decide +kernel
theorem dX6_checksum_45 : decode cX6_checksum 45 = .ok (.iconst 0, 1) := by decide +kernel
theorem dX6_checksum_46 : decode cX6_checksum 46 = .ok (.istore 4, 2) := by decide +kernel
theorem dX6_checksum_48 : decode cX6_checksum 48 = .ok (.iload 4, 2) := by decide +kernel
theorem dX6_checksum_50 : decode cX6_checksum 50 = .ok (.iconst 3, 1) := by decide +kernel
theorem dX6_checksum_51 : decode cX6_checksum 51 = .ok (.if_icmp .ge 24, 3) := by decide +kernel
theorem dX6_checksum_54 : decode cX6_checksum 54 = .ok (.ldc2_w 249, 3) := by decide +kernel
theorem dX6_checksum_57 : decode cX6_checksum 57 = .ok (.lload_n 1, 1) := by decide +kernel
theorem dX6_checksum_58 : decode cX6_checksum 58 = .ok (.lmul, 1) := by decide +kernel
theorem dX6_checksum_59 : decode cX6_checksum 59 = .ok (.aload_n 0, 1) := by decide +kernel
theorem dX6_checksum_60 : decode cX6_checksum 60 = .ok (.iload_n 3, 1) := by decide +kernel
theorem dX6_checksum_61 : decode cX6_checksum 61 = .ok (.iload 4, 2) := by decide +kernel
theorem dX6_checksum_63 : decode cX6_checksum 63 = .ok (.invokevirtual 254, 3) := by decide +kernel
theorem dX6_checksum_66 : decode cX6_checksum 66 = .ok (.i2l, 1) := by decide +kernel
theorem dX6_checksum_67 : decode cX6_checksum 67 = .ok (.ladd, 1) := by decide +kernel
theorem dX6_checksum_68 : decode cX6_checksum 68 = .ok (.lstore_n 1, 1) := by decide +kernel
theorem dX6_checksum_69 : decode cX6_checksum 69 = .ok (.iinc 4 1, 3) := by decide +kernel
theorem dX6_checksum_72 : decode cX6_checksum 72 = .ok (.goto (-24), 3) := by decide +kernel
theorem dX6_checksum_75 : decode cX6_checksum 75 = .ok (.iinc 3 1, 3) := by decide +kernel
theorem dX6_checksum_78 : decode cX6_checksum 78 = .ok (.goto (-47), 3) := by decide +kernel
theorem dX6_checksum_81 : decode cX6_checksum 81 = .ok (.iconst 0, 1) := by decide +kernel
theorem dX6_checksum_82 : decode cX6_checksum 82 = .ok (.istore_n 3, 1) := by decide +kernel
theorem dX6_checksum_83 : decode cX6_checksum 83 = .ok (.iload_n 3, 1) := by decide +kernel
theorem dX6_checksum_84 : decode cX6_checksum 84 = .ok (.aload_n 0, 1) := by decide +kernel
theorem dX6_checksum_85 : decode cX6_checksum 85 = .ok (.getfield 19, 3) := by decide +kernel
theorem dX6_checksum_88 : decode cX6_checksum 88 = .ok (.getfield 51, 3) := by decide +kernel
theorem dX6_checksum_91 : decode cX6_checksum 91 = .ok (.getfield 120, 3) := by decide +kernel
theorem dX6_checksum_94 : decode cX6_checksum 94 = .ok (.if_icmp .ge 39, 3) := by decide +kernel
theorem dX6_checksum_97 : decode cX6_checksum 97 = .ok (.iconst 0, 1) := by decide +kernel
theorem dX6_checksum_98 : decode cX6_checksum 98 = .ok (.istore 4, 2) := by decide +kernel
theorem dX6_checksum_100 : decode cX6_checksum 100 = .ok (.iload 4, 2) := by decide +kernel
theorem dX6_checksum_102 : decode cX6_checksum 102 = .ok (.iconst 5, 1) := by decide +kernel
theorem dX6_checksum_103 : decode cX6_checksum 103 = .ok (.if_icmp .ge 24, 3) := by decide +kernel
theorem dX6_checksum_106 : decode cX6_checksum 106 = .ok (.ldc2_w 249, 3) := by decide +kernel
theorem dX6_checksum_109 : decode cX6_checksum 109 = .ok (.lload_n 1, 1) := by decide +kernel
theorem dX6_checksum_110 : decode cX6_checksum 110 = .ok (.lmul, 1) := by decide +kernel
theorem dX6_checksum_111 : decode cX6_checksum 111 = .ok (.aload_n 0, 1) := by decide +kernel
theorem dX6_checksum_112 : decode cX6_checksum 112 = .ok (.iload_n 3, 1) := by decide +kernel
theorem dX6_checksum_113 : decode cX6_checksum 113 = .ok (.iload 4, 2) := by decide +kernel
theorem dX6_checksum_115 : decode cX6_checksum 115 = .ok (.invokevirtual 257, 3) := by decide +kernel
theorem dX6_checksum_118 : decode cX6_checksum 118 = .ok (.i2l, 1) := by decide +kernel
theorem dX6_checksum_119 : decode cX6_checksum 119 = .ok (.ladd, 1) := by decide +kernel
theorem dX6_checksum_120 : decode cX6_checksum 120 = .ok (.lstore_n 1, 1) := by decide +kernel
theorem dX6_checksum_121 : decode cX6_checksum 121 = .ok (.iinc 4 1, 3) := by decide +kernel
theorem dX6_checksum_124 : decode cX6_checksum 124 = .ok (.goto (-24), 3) := by decide +kernel
theorem dX6_checksum_127 : decode cX6_checksum 127 = .ok (.iinc 3 1, 3) := by decide +kernel
theorem dX6_checksum_130 : decode cX6_checksum 130 = .ok (.goto (-47), 3) := by decide +kernel
theorem dX6_checksum_133 : decode cX6_checksum 133 = .ok (.iconst 0, 1) := by decide +kernel
theorem dX6_checksum_134 : decode cX6_checksum 134 = .ok (.istore_n 3, 1) := by decide +kernel
theorem dX6_checksum_135 : decode cX6_checksum 135 = .ok (.iload_n 3, 1) := by decide +kernel
theorem dX6_checksum_136 : decode cX6_checksum 136 = .ok (.aload_n 0, 1) := by decide +kernel
theorem dX6_checksum_137 : decode cX6_checksum 137 = .ok (.getfield 19, 3) := by decide +kernel
theorem dX6_checksum_140 : decode cX6_checksum 140 = .ok (.getfield 99, 3) := by decide +kernel
theorem dX6_checksum_143 : decode cX6_checksum 143 = .ok (.getfield 103, 3) := by decide +kernel
theorem dX6_checksum_146 : decode cX6_checksum 146 = .ok (.if_icmp .ge 40, 3) := by decide +kernel
theorem dX6_checksum_149 : decode cX6_checksum 149 = .ok (.iconst 0, 1) := by decide +kernel
theorem dX6_checksum_150 : decode cX6_checksum 150 = .ok (.istore 4, 2) := by decide +kernel
theorem dX6_checksum_152 : decode cX6_checksum 152 = .ok (.iload 4, 2) := by decide +kernel
theorem dX6_checksum_154 : decode cX6_checksum 154 = .ok (.bipush 7, 2) := by decide +kernel
theorem dX6_checksum_156 : decode cX6_checksum 156 = .ok (.if_icmp .ge 24, 3) := by decide +kernel
theorem dX6_checksum_159 : decode cX6_checksum 159 = .ok (.ldc2_w 249, 3) := by decide +kernel
theorem dX6_checksum_162 : decode cX6_checksum 162 = .ok (.lload_n 1, 1) := by decide +kernel
theorem dX6_checksum_163 : decode cX6_checksum 163 = .ok (.lmul, 1) := by decide +kernel
theorem dX6_checksum_164 : decode cX6_checksum 164 = .ok (.aload_n 0, 1) := by decide +kernel
theorem dX6_checksum_165 : decode cX6_checksum 165 = .ok (.iload_n 3, 1) := by decide +kernel
theorem dX6_checksum_166 : decode cX6_checksum 166 = .ok (.iload 4, 2) := by decide +kernel
theorem dX6_checksum_168 : decode cX6_checksum 168 = .ok (.invokevirtual 260, 3) := by decide +kernel
theorem dX6_checksum_171 : decode cX6_checksum 171 = .ok (.i2l, 1) := by decide +kernel
theorem dX6_checksum_172 : decode cX6_checksum 172 = .ok (.ladd, 1) := by decide +kernel
theorem dX6_checksum_173 : decode cX6_checksum 173 = .ok (.lstore_n 1, 1) := by decide +kernel
theorem dX6_checksum_174 : decode cX6_checksum 174 = .ok (.iinc 4 1, 3) := by decide +kernel
theorem dX6_checksum_177 : decode cX6_checksum 177 = .ok (.goto (-25), 3) := by decide +kernel
theorem dX6_checksum_180 : decode cX6_checksum 180 = .ok (.iinc 3 1, 3) := by decide +kernel
theorem dX6_checksum_183 : decode cX6_checksum 183 = .ok (.goto (-48), 3) := by decide +kernel
theorem dX6_checksum_186 : decode cX6_checksum 186 = .ok (.lload_n 1, 1) := by decide +kernel
theorem dX6_checksum_187 : decode cX6_checksum 187 = .ok (.lreturn, 1) := by decide +kernel
set_option maxRecDepth 20000 in
theorem ggX6_remember_X4_copyFrom : GoodIn wsX6_remember wsX4_copyFrom := goodIn_r _ [13, 14, 15, 16, 17, 18, 19, 20, 21, 22, 23, 24, 25, 26, 27, 28, 29, 30, 31, 32, 33, 34, 35, 36, 37, 38, 39, 40, 41, 42, 43, 44, 45, 46, 47, 48, 49, 50, 51, 52, 53, 62, 63, 64, 65, 66, 67, 68, 69, 70, 71, 72, 73, 74, 75, 76, 77, 78, 79, 80, 81] (by decide +kernel) (by decide +kernel)
set_option maxRecDepth 20000 in
theorem gX6_remember_X4_copyFrom : GoodIn wsX6_remember (wsV RX6 95 RX4 yX4_copyFrom wsX4_copyFrom) := goodIn_app (goodIn_of _ (by decide +kernel)) ggX6_remember_X4_copyFrom
theorem dX6_remember_0 : decode cX6_remember 0 = .ok (.aload_n 0, 1) := by decide +kernel
theorem dX6_remember_1 : decode cX6_remember 1 = .ok (.getfield 36, 3) := by decide +kernel
theorem dX6_remember_4 : decode cX6_remember 4 = .ok (.aload_n 0, 1) := by decide +kernel
theorem dX6_remember_5 : decode cX6_remember 5 = .ok (.getfield 40, 3) := by decide +kernel
theorem dX6_remember_8 : decode cX6_remember 8 = .ok (.aaload, 1) := by decide +kernel
theorem dX6_remember_9 : decode cX6_remember 9 = .ok (.aload_n 0, 1) := by decide +kernel
theorem dX6_remember_10 : decode cX6_remember 10 = .ok (.getfield 19, 3) := by decide +kernel
theorem dX6_remember_13 : decode cX6_remember 13 = .ok (.invokevirtual 95, 3) := by decide +kernel
theorem dX6_remember_16 : decode cX6_remember 16 = .ok (.aload_n 0, 1) := by decide +kernel
theorem dX6_remember_17 : decode cX6_remember 17 = .ok (.aload_n 0, 1) := by decide +kernel
theorem dX6_remember_18 : decode cX6_remember 18 = .ok (.getfield 40, 3) := by decide +kernel
theorem dX6_remember_21 : decode cX6_remember 21 = .ok (.iconst 1, 1) := by decide +kernel
theorem dX6_remember_22 : decode cX6_remember 22 = .ok (.iadd, 1) := by decide +kernel
theorem dX6_remember_23 : decode cX6_remember 23 = .ok (.bipush 8, 2) := by decide +kernel
theorem dX6_remember_25 : decode cX6_remember 25 = .ok (.irem, 1) := by decide +kernel
theorem dX6_remember_26 : decode cX6_remember 26 = .ok (.putfield 40, 3) := by decide +kernel
theorem dX6_remember_29 : decode cX6_remember 29 = .ok (.aload_n 0, 1) := by decide +kernel
theorem dX6_remember_30 : decode cX6_remember 30 = .ok (.aload_n 0, 1) := by decide +kernel
theorem dX6_remember_31 : decode cX6_remember 31 = .ok (.getfield 44, 3) := by decide +kernel
theorem dX6_remember_34 : decode cX6_remember 34 = .ok (.iconst 1, 1) := by decide +kernel
theorem dX6_remember_35 : decode cX6_remember 35 = .ok (.iadd, 1) := by decide +kernel
theorem dX6_remember_36 : decode cX6_remember 36 = .ok (.bipush 8, 2) := by decide +kernel
theorem dX6_remember_38 : decode cX6_remember 38 = .ok (.invokestatic 263, 3) := by decide +kernel
theorem dX6_remember_41 : decode cX6_remember 41 = .ok (.putfield 44, 3) := by decide +kernel
theorem dX6_remember_44 : decode cX6_remember 44 = .ok (.return_, 1) := by decide +kernel
theorem dX6_requirePlane_0 : decode cX6_requirePlane 0 = .ok (.iload_n 1, 1) := by decide +kernel
theorem dX6_requirePlane_1 : decode cX6_requirePlane 1 = .ok (.ifCond .lt 17, 3) := by decide +kernel
theorem dX6_requirePlane_4 : decode cX6_requirePlane 4 = .ok (.iload_n 1, 1) := by decide +kernel
theorem dX6_requirePlane_5 : decode cX6_requirePlane 5 = .ok (.aload_n 0, 1) := by decide +kernel
theorem dX6_requirePlane_6 : decode cX6_requirePlane 6 = .ok (.getfield 19, 3) := by decide +kernel
theorem dX6_requirePlane_9 : decode cX6_requirePlane 9 = .ok (.getfield 51, 3) := by decide +kernel
theorem dX6_requirePlane_12 : decode cX6_requirePlane 12 = .ok (.getfield 117, 3) := by decide +kernel
theorem dX6_requirePlane_15 : decode cX6_requirePlane 15 = .ok (.if_icmp .lt 14, 3) := by decide +kernel
theorem dX6_requirePlane_18 : decode cX6_requirePlane 18 = .ok (.new 268, 3) := by decide +kernel
theorem dX6_requirePlane_21 : decode cX6_requirePlane 21 = .ok (.dup, 1) := by decide +kernel
theorem dX6_requirePlane_22 : decode cX6_requirePlane 22 = .ok (.ldc_w 270, 3) := by decide +kernel
theorem dX6_requirePlane_25 : decode cX6_requirePlane 25 = .ok (.invokespecial 272, 3) := by decide +kernel
theorem dX6_requirePlane_28 : decode cX6_requirePlane 28 = .ok (.athrow, 1) := by decide +kernel
theorem dX6_requirePlane_29 : decode cX6_requirePlane 29 = .ok (.return_, 1) := by decide +kernel
theorem dX6_requireHole_0 : decode cX6_requireHole 0 = .ok (.iload_n 1, 1) := by decide +kernel
theorem dX6_requireHole_1 : decode cX6_requireHole 1 = .ok (.ifCond .lt 17, 3) := by decide +kernel
theorem dX6_requireHole_4 : decode cX6_requireHole 4 = .ok (.iload_n 1, 1) := by decide +kernel
theorem dX6_requireHole_5 : decode cX6_requireHole 5 = .ok (.aload_n 0, 1) := by decide +kernel
theorem dX6_requireHole_6 : decode cX6_requireHole 6 = .ok (.getfield 19, 3) := by decide +kernel
theorem dX6_requireHole_9 : decode cX6_requireHole 9 = .ok (.getfield 51, 3) := by decide +kernel
theorem dX6_requireHole_12 : decode cX6_requireHole 12 = .ok (.getfield 120, 3) := by decide +kernel
theorem dX6_requireHole_15 : decode cX6_requireHole 15 = .ok (.if_icmp .lt 14, 3) := by decide +kernel
theorem dX6_requireHole_18 : decode cX6_requireHole 18 = .ok (.new 268, 3) := by decide +kernel
theorem dX6_requireHole_21 : decode cX6_requireHole 21 = .ok (.dup, 1) := by decide +kernel
theorem dX6_requireHole_22 : decode cX6_requireHole 22 = .ok (.ldc_w 273, 3) := by decide +kernel
theorem dX6_requireHole_25 : decode cX6_requireHole 25 = .ok (.invokespecial 272, 3) := by decide +kernel
theorem dX6_requireHole_28 : decode cX6_requireHole 28 = .ok (.athrow, 1) := by decide +kernel
theorem dX6_requireHole_29 : decode cX6_requireHole 29 = .ok (.return_, 1) := by decide +kernel
theorem dX6_requireViewer_0 : decode cX6_requireViewer 0 = .ok (.iload_n 1, 1) := by decide +kernel
theorem dX6_requireViewer_1 : decode cX6_requireViewer 1 = .ok (.ifCond .lt 17, 3) := by decide +kernel
theorem dX6_requireViewer_4 : decode cX6_requireViewer 4 = .ok (.iload_n 1, 1) := by decide +kernel
theorem dX6_requireViewer_5 : decode cX6_requireViewer 5 = .ok (.aload_n 0, 1) := by decide +kernel
theorem dX6_requireViewer_6 : decode cX6_requireViewer 6 = .ok (.getfield 19, 3) := by decide +kernel
theorem dX6_requireViewer_9 : decode cX6_requireViewer 9 = .ok (.getfield 99, 3) := by decide +kernel
theorem dX6_requireViewer_12 : decode cX6_requireViewer 12 = .ok (.getfield 103, 3) := by decide +kernel
theorem dX6_requireViewer_15 : decode cX6_requireViewer 15 = .ok (.if_icmp .lt 14, 3) := by decide +kernel
theorem dX6_requireViewer_18 : decode cX6_requireViewer 18 = .ok (.new 268, 3) := by decide +kernel
theorem dX6_requireViewer_21 : decode cX6_requireViewer 21 = .ok (.dup, 1) := by decide +kernel
theorem dX6_requireViewer_22 : decode cX6_requireViewer 22 = .ok (.ldc_w 275, 3) := by decide +kernel
theorem dX6_requireViewer_25 : decode cX6_requireViewer 25 = .ok (.invokespecial 272, 3) := by decide +kernel
theorem dX6_requireViewer_28 : decode cX6_requireViewer 28 = .ok (.athrow, 1) := by decide +kernel
theorem dX6_requireViewer_29 : decode cX6_requireViewer 29 = .ok (.return_, 1) := by decide +kernel
theorem dX6_requireCell_0 : decode cX6_requireCell 0 = .ok (.iload_n 1, 1) := by decide +kernel
theorem dX6_requireCell_1 : decode cX6_requireCell 1 = .ok (.ifCond .lt 35, 3) := by decide +kernel
theorem dX6_requireCell_4 : decode cX6_requireCell 4 = .ok (.iload_n 1, 1) := by decide +kernel
theorem dX6_requireCell_5 : decode cX6_requireCell 5 = .ok (.aload_n 0, 1) := by decide +kernel
theorem dX6_requireCell_6 : decode cX6_requireCell 6 = .ok (.getfield 19, 3) := by decide +kernel
theorem dX6_requireCell_9 : decode cX6_requireCell 9 = .ok (.getfield 51, 3) := by decide +kernel
theorem dX6_requireCell_12 : decode cX6_requireCell 12 = .ok (.getfield 111, 3) := by decide +kernel
theorem dX6_requireCell_15 : decode cX6_requireCell 15 = .ok (.if_icmp .ge 21, 3) := by decide +kernel
theorem dX6_requireCell_18 : decode cX6_requireCell 18 = .ok (.iload_n 2, 1) := by decide +kernel
theorem dX6_requireCell_19 : decode cX6_requireCell 19 = .ok (.ifCond .lt 17, 3) := by decide +kernel
theorem dX6_requireCell_22 : decode cX6_requireCell 22 = .ok (.iload_n 2, 1) := by decide +kernel
theorem dX6_requireCell_23 : decode cX6_requireCell 23 = .ok (.aload_n 0, 1) := by decide +kernel
theorem dX6_requireCell_24 : decode cX6_requireCell 24 = .ok (.getfield 19, 3) := by decide +kernel
theorem dX6_requireCell_27 : decode cX6_requireCell 27 = .ok (.getfield 51, 3) := by decide +kernel
theorem dX6_requireCell_30 : decode cX6_requireCell 30 = .ok (.getfield 114, 3) := by decide +kernel
theorem dX6_requireCell_33 : decode cX6_requireCell 33 = .ok (.if_icmp .lt 14, 3) := by decide +kernel
theorem dX6_requireCell_36 : decode cX6_requireCell 36 = .ok (.new 268, 3) := by decide +kernel
theorem dX6_requireCell_39 : decode cX6_requireCell 39 = .ok (.dup, 1) := by decide +kernel
theorem dX6_requireCell_40 : decode cX6_requireCell 40 = .ok (.ldc_w 277, 3) := by decide +kernel
theorem dX6_requireCell_43 : decode cX6_requireCell 43 = .ok (.invokespecial 272, 3) := by decide +kernel
theorem dX6_requireCell_46 : decode cX6_requireCell 46 = .ok (.athrow, 1) := by decide +kernel
theorem dX6_requireCell_47 : decode cX6_requireCell 47 = .ok (.return_, 1) := by decide +kernel
theorem dX6_requireRange_0 : decode cX6_requireRange 0 = .ok (.iload_n 0, 1) := by decide +kernel
theorem dX6_requireRange_1 : decode cX6_requireRange 1 = .ok (.iload_n 1, 1) := by decide +kernel
theorem dX6_requireRange_2 : decode cX6_requireRange 2 = .ok (.if_icmp .lt 8, 3) := by decide +kernel
theorem dX6_requireRange_5 : decode cX6_requireRange 5 = .ok (.iload_n 0, 1) := by decide +kernel
theorem dX6_requireRange_6 : decode cX6_requireRange 6 = .ok (.iload_n 2, 1) := by decide +kernel
theorem dX6_requireRange_7 : decode cX6_requireRange 7 = .ok (.if_icmp .le 14, 3) := by decide +kernel
theorem dX6_requireRange_10 : decode cX6_requireRange 10 = .ok (.new 76, 3) := by decide +kernel
theorem dX6_requireRange_13 : decode cX6_requireRange 13 = .ok (.dup, 1) := by decide +kernel
theorem dX6_requireRange_14 : decode cX6_requireRange 14 = .ok (.ldc_w 279, 3) := by decide +kernel
theorem dX6_requireRange_17 : decode cX6_requireRange 17 = .ok (.invokespecial 80, 3) := by decide +kernel
theorem dX6_requireRange_20 : decode cX6_requireRange 20 = .ok (.athrow, 1) := by decide +kernel
theorem dX6_requireRange_21 : decode cX6_requireRange 21 = .ok (.return_, 1) := by decide +kernel
theorem dX6_quotient_0 : decode cX6_quotient 0 = .ok (.lload_n 2, 1) := by decide +kernel
theorem dX6_quotient_1 : decode cX6_quotient 1 = .ok (.lconst 0, 1) := by decide +kernel
theorem dX6_quotient_2 : decode cX6_quotient 2 = .ok (.lcmp, 1) := by decide +kernel
theorem dX6_quotient_3 : decode cX6_quotient 3 = .ok (.ifCond .ne 7, 3) := by decide +kernel
theorem dX6_quotient_6 : decode cX6_quotient 6 = .ok (.lconst 0, 1) := by decide +kernel
theorem dX6_quotient_7 : decode cX6_quotient 7 = .ok (.goto 6, 3) := by decide +kernel
theorem dX6_quotient_10 : decode cX6_quotient 10 = .ok (.lload_n 0, 1) := by decide +kernel
theorem dX6_quotient_11 : decode cX6_quotient 11 = .ok (.lload_n 2, 1) := by decide +kernel
theorem dX6_quotient_12 : decode cX6_quotient 12 = .ok (.ldiv, 1) := by decide +kernel
theorem dX6_quotient_13 : decode cX6_quotient 13 = .ok (.lreturn, 1) := by decide +kernel
theorem dX6_limited_0 : decode cX6_limited 0 = .ok (.iload_n 2, 1) := by decide +kernel
theorem dX6_limited_1 : decode cX6_limited 1 = .ok (.i2l, 1) := by decide +kernel
theorem dX6_limited_2 : decode cX6_limited 2 = .ok (.iload_n 3, 1) := by decide +kernel
theorem dX6_limited_3 : decode cX6_limited 3 = .ok (.i2l, 1) := by decide +kernel
theorem dX6_limited_4 : decode cX6_limited 4 = .ok (.lload_n 0, 1) := by decide +kernel
theorem dX6_limited_5 : decode cX6_limited 5 = .ok (.invokestatic 281, 3) := by decide +kernel
theorem dX6_limited_8 : decode cX6_limited 8 = .ok (.invokestatic 284, 3) := by decide +kernel
theorem dX6_limited_11 : decode cX6_limited 11 = .ok (.l2i, 1) := by decide +kernel
theorem dX6_limited_12 : decode cX6_limited 12 = .ok (.ireturn, 1) := by decide +kernel
set_option maxRecDepth 20000 in
theorem ggX7_init_X7_layBox : GoodIn wsX7_init wsX7_layBox := goodIn_r _ [18] (by decide +kernel) (by decide +kernel)
set_option maxRecDepth 20000 in
theorem gX7_init_X7_layBox : GoodIn wsX7_init (va_wsS RX7 38 yX7_layBox wsX7_layBox) := goodIn_app (goodIn_of _ (by decide +kernel)) ggX7_init_X7_layBox
theorem dX7_init_0 : decode cX7_init 0 = .ok (.aload_n 0, 1) := by decide +kernel
theorem dX7_init_1 : decode cX7_init 1 = .ok (.invokespecial 3, 3) := by decide +kernel
theorem dX7_init_4 : decode cX7_init 4 = .ok (.aload_n 0, 1) := by decide +kernel
theorem dX7_init_5 : decode cX7_init 5 = .ok (.sipush 800, 3) := by decide +kernel
theorem dX7_init_8 : decode cX7_init 8 = .ok (.newarray .int, 2) := by decide +kernel
theorem dX7_init_10 : decode cX7_init 10 = .ok (.putfield 9, 3) := by decide +kernel
theorem dX7_init_13 : decode cX7_init 13 = .ok (.aload_n 0, 1) := by decide +kernel
theorem dX7_init_14 : decode cX7_init 14 = .ok (.iconst (-1), 1) := by decide +kernel
theorem dX7_init_15 : decode cX7_init 15 = .ok (.putfield 13, 3) := by decide +kernel
theorem dX7_init_18 : decode cX7_init 18 = .ok (.aload_n 0, 1) := by decide +kernel
theorem dX7_init_19 : decode cX7_init 19 = .ok (.sipush 2243, 3) := by decide +kernel
theorem dX7_init_22 : decode cX7_init 22 = .ok (.newarray .int, 2) := by decide +kernel
theorem dX7_init_24 : decode cX7_init 24 = .ok (.putfield 17, 3) := by decide +kernel
theorem dX7_init_27 : decode cX7_init 27 = .ok (.aload_n 0, 1) := by decide +kernel
theorem dX7_init_28 : decode cX7_init 28 = .ok (.sipush 2243, 3) := by decide +kernel
theorem dX7_init_31 : decode cX7_init 31 = .ok (.newarray .int, 2) := by decide +kernel
theorem dX7_init_33 : decode cX7_init 33 = .ok (.putfield 20, 3) := by decide +kernel
theorem dX7_init_36 : decode cX7_init 36 = .ok (.aload_n 0, 1) := by decide +kernel
theorem dX7_init_37 : decode cX7_init 37 = .ok (.sipush 643, 3) := by decide +kernel
theorem dX7_init_40 : decode cX7_init 40 = .ok (.newarray .int, 2) := by decide +kernel
theorem dX7_init_42 : decode cX7_init 42 = .ok (.putfield 23, 3) := by decide +kernel
theorem dX7_init_45 : decode cX7_init 45 = .ok (.aload_n 0, 1) := by decide +kernel
theorem dX7_init_46 : decode cX7_init 46 = .ok (.bipush 8, 2) := by decide +kernel
theorem dX7_init_48 : decode cX7_init 48 = .ok (.sipush 2243, 3) := by decide +kernel
theorem dX7_init_51 : decode cX7_init 51 = .ok (.multianewarray 26 2, 4) := by decide +kernel
theorem dX7_init_55 : decode cX7_init 55 = .ok (.putfield 28, 3) := by decide +kernel
theorem dX7_init_58 : decode cX7_init 58 = .ok (.aload_n 0, 1) := by decide +kernel
theorem dX7_init_59 : decode cX7_init 59 = .ok (.sipush 1600, 3) := by decide +kernel
theorem dX7_init_62 : decode cX7_init 62 = .ok (.newarray .long, 2) := by decide +kernel
theorem dX7_init_64 : decode cX7_init 64 = .ok (.putfield 31, 3) := by decide +kernel
theorem dX7_init_67 : decode cX7_init 67 = .ok (.aload_n 0, 1) := by decide +kernel
theorem dX7_init_68 : decode cX7_init 68 = .ok (.iconst 4, 1) := by decide +kernel
theorem dX7_init_69 : decode cX7_init 69 = .ok (.newarray .int, 2) := by decide +kernel
theorem dX7_init_71 : decode cX7_init 71 = .ok (.putfield 35, 3) := by decide +kernel
theorem dX7_init_74 : decode cX7_init 74 = .ok (.aload_n 0, 1) := by decide +kernel
theorem dX7_init_75 : decode cX7_init 75 = .ok (.getfield 17, 3) := by decide +kernel
theorem dX7_init_78 : decode cX7_init 78 = .ok (.iconst 4, 1) := by decide +kernel
theorem dX7_init_79 : decode cX7_init 79 = .ok (.iconst 3, 1) := by decide +kernel
theorem dX7_init_80 : decode cX7_init 80 = .ok (.iconst 2, 1) := by decide +kernel
theorem dX7_init_81 : decode cX7_init 81 = .ok (.invokestatic 38, 3) := by decide +kernel
theorem dX7_init_84 : decode cX7_init 84 = .ok (.aload_n 0, 1) := by decide +kernel
theorem dX7_init_85 : decode cX7_init 85 = .ok (.getfield 17, 3) := by decide +kernel
theorem dX7_init_88 : decode cX7_init 88 = .ok (.iconst 3, 1) := by decide +kernel
theorem dX7_init_89 : decode cX7_init 89 = .ok (.iconst 1, 1) := by decide +kernel
theorem dX7_init_90 : decode cX7_init 90 = .ok (.iastore, 1) := by decide +kernel
theorem dX7_init_91 : decode cX7_init 91 = .ok (.return_, 1) := by decide +kernel
theorem dX7_thrown_0 : decode cX7_thrown 0 = .ok (.aload_n 0, 1) := by decide +kernel
theorem dX7_thrown_1 : decode cX7_thrown 1 = .ok (.getfield 42, 3) := by decide +kernel
theorem dX7_thrown_4 : decode cX7_thrown 4 = .ok (.ireturn, 1) := by decide +kernel
theorem dX7_fails_0 : decode cX7_fails 0 = .ok (.iload_n 1, 1) := by decide +kernel
theorem dX7_fails_1 : decode cX7_fails 1 = .ok (.ifCond .eq 15, 3) := by decide +kernel
theorem dX7_fails_4 : decode cX7_fails 4 = .ok (.aload_n 0, 1) := by decide +kernel
theorem dX7_fails_5 : decode cX7_fails 5 = .ok (.getfield 42, 3) := by decide +kernel
theorem dX7_fails_8 : decode cX7_fails 8 = .ok (.ifCond .ne 8, 3) := by decide +kernel
theorem dX7_fails_11 : decode cX7_fails 11 = .ok (.aload_n 0, 1) := by decide +kernel
theorem dX7_fails_12 : decode cX7_fails 12 = .ok (.iload_n 2, 1) := by decide +kernel
theorem dX7_fails_13 : decode cX7_fails 13 = .ok (.putfield 42, 3) := by decide +kernel
theorem dX7_fails_16 : decode cX7_fails 16 = .ok (.aload_n 0, 1) := by decide +kernel
theorem dX7_fails_17 : decode cX7_fails 17 = .ok (.getfield 42, 3) := by decide +kernel
theorem dX7_fails_20 : decode cX7_fails 20 = .ok (.ifCond .eq 7, 3) := by decide +kernel
theorem dX7_fails_23 : decode cX7_fails 23 = .ok (.iconst 1, 1) := by decide +kernel
theorem dX7_fails_24 : decode cX7_fails 24 = .ok (.goto 4, 3) := by decide +kernel
theorem dX7_fails_27 : decode cX7_fails 27 = .ok (.iconst 0, 1) := by decide +kernel
theorem dX7_fails_28 : decode cX7_fails 28 = .ok (.ireturn, 1) := by decide +kernel
theorem dX7_in_0 : decode cX7_in 0 = .ok (.iload_n 0, 1) := by decide +kernel
theorem dX7_in_1 : decode cX7_in 1 = .ok (.iload_n 1, 1) := by decide +kernel
theorem dX7_in_2 : decode cX7_in 2 = .ok (.if_icmp .lt 12, 3) := by decide +kernel
theorem dX7_in_5 : decode cX7_in 5 = .ok (.iload_n 0, 1) := by decide +kernel
theorem dX7_in_6 : decode cX7_in 6 = .ok (.iload_n 2, 1) := by decide +kernel
theorem dX7_in_7 : decode cX7_in 7 = .ok (.if_icmp .gt 7, 3) := by decide +kernel
theorem dX7_in_10 : decode cX7_in 10 = .ok (.iconst 1, 1) := by decide +kernel
theorem dX7_in_11 : decode cX7_in 11 = .ok (.goto 4, 3) := by decide +kernel
theorem dX7_in_14 : decode cX7_in 14 = .ok (.iconst 0, 1) := by decide +kernel
theorem dX7_in_15 : decode cX7_in 15 = .ok (.ireturn, 1) := by decide +kernel
theorem dX7_min_0 : decode cX7_min 0 = .ok (.iload_n 0, 1) := by decide +kernel
theorem dX7_min_1 : decode cX7_min 1 = .ok (.iload_n 1, 1) := by decide +kernel
theorem dX7_min_2 : decode cX7_min 2 = .ok (.if_icmp .ge 7, 3) := by decide +kernel
theorem dX7_min_5 : decode cX7_min 5 = .ok (.iload_n 0, 1) := by decide +kernel
theorem dX7_min_6 : decode cX7_min 6 = .ok (.goto 4, 3) := by decide +kernel
theorem dX7_min_9 : decode cX7_min 9 = .ok (.iload_n 1, 1) := by decide +kernel
theorem dX7_min_10 : decode cX7_min 10 = .ok (.ireturn, 1) := by decide +kernel
theorem dX7_max_0 : decode cX7_max 0 = .ok (.iload_n 0, 1) := by decide +kernel
theorem dX7_max_1 : decode cX7_max 1 = .ok (.iload_n 1, 1) := by decide +kernel
theorem dX7_max_2 : decode cX7_max 2 = .ok (.if_icmp .le 7, 3) := by decide +kernel
theorem dX7_max_5 : decode cX7_max 5 = .ok (.iload_n 0, 1) := by decide +kernel
theorem dX7_max_6 : decode cX7_max 6 = .ok (.goto 4, 3) := by decide +kernel
theorem dX7_max_9 : decode cX7_max 9 = .ok (.iload_n 1, 1) := by decide +kernel
theorem dX7_max_10 : decode cX7_max 10 = .ok (.ireturn, 1) := by decide +kernel
theorem dX7_copy_0 : decode cX7_copy 0 = .ok (.iconst 0, 1) := by decide +kernel
theorem dX7_copy_1 : decode cX7_copy 1 = .ok (.istore_n 3, 1) := by decide +kernel
theorem dX7_copy_2 : decode cX7_copy 2 = .ok (.iload_n 3, 1) := by decide +kernel
theorem dX7_copy_3 : decode cX7_copy 3 = .ok (.iload_n 2, 1) := by decide +kernel
theorem dX7_copy_4 : decode cX7_copy 4 = .ok (.if_icmp .ge 15, 3) := by decide +kernel
theorem dX7_copy_7 : decode cX7_copy 7 = .ok (.aload_n 1, 1) := by decide +kernel
theorem dX7_copy_8 : decode cX7_copy 8 = .ok (.iload_n 3, 1) := by decide +kernel
theorem dX7_copy_9 : decode cX7_copy 9 = .ok (.aload_n 0, 1) := by decide +kernel
theorem dX7_copy_10 : decode cX7_copy 10 = .ok (.iload_n 3, 1) := by decide +kernel
theorem dX7_copy_11 : decode cX7_copy 11 = .ok (.iaload, 1) := by decide +kernel
theorem dX7_copy_12 : decode cX7_copy 12 = .ok (.iastore, 1) := by decide +kernel
theorem dX7_copy_13 : decode cX7_copy 13 = .ok (.iinc 3 1, 3) := by decide +kernel
theorem dX7_copy_16 : decode cX7_copy 16 = .ok (.goto (-14), 3) := by decide +kernel
theorem dX7_copy_19 : decode cX7_copy 19 = .ok (.return_, 1) := by decide +kernel
theorem dX7_layBox_0 : decode cX7_layBox 0 = .ok (.iconst 0, 1) := by decide +kernel
theorem dX7_layBox_1 : decode cX7_layBox 1 = .ok (.istore 4, 2) := by decide +kernel
theorem dX7_layBox_3 : decode cX7_layBox 3 = .ok (.iload 4, 2) := by decide +kernel
theorem dX7_layBox_5 : decode cX7_layBox 5 = .ok (.sipush 2243, 3) := by decide +kernel
theorem dX7_layBox_8 : decode cX7_layBox 8 = .ok (.if_icmp .ge 14, 3) := by decide +kernel
theorem dX7_layBox_11 : decode cX7_layBox 11 = .ok (.aload_n 0, 1) := by decide +kernel
theorem dX7_layBox_12 : decode cX7_layBox 12 = .ok (.iload 4, 2) := by decide +kernel
theorem dX7_layBox_14 : decode cX7_layBox 14 = .ok (.iconst 0, 1) := by decide +kernel
theorem dX7_layBox_15 : decode cX7_layBox 15 = .ok (.iastore, 1) := by decide +kernel
theorem dX7_layBox_16 : decode cX7_layBox 16 = .ok (.iinc 4 1, 3) := by decide +kernel
theorem dX7_layBox_19 : decode cX7_layBox 19 = .ok (.goto (-16), 3) := by decide +kernel
theorem dX7_layBox_22 : decode cX7_layBox 22 = .ok (.aload_n 0, 1) := by decide +kernel
theorem dX7_layBox_23 : decode cX7_layBox 23 = .ok (.iconst 0, 1) := by decide +kernel
theorem dX7_layBox_24 : decode cX7_layBox 24 = .ok (.iload_n 1, 1) := by decide +kernel
theorem dX7_layBox_25 : decode cX7_layBox 25 = .ok (.iastore, 1) := by decide +kernel
theorem dX7_layBox_26 : decode cX7_layBox 26 = .ok (.aload_n 0, 1) := by decide +kernel
theorem dX7_layBox_27 : decode cX7_layBox 27 = .ok (.iconst 1, 1) := by decide +kernel
theorem dX7_layBox_28 : decode cX7_layBox 28 = .ok (.iload_n 2, 1) := by decide +kernel
theorem dX7_layBox_29 : decode cX7_layBox 29 = .ok (.iastore, 1) := by decide +kernel
theorem dX7_layBox_30 : decode cX7_layBox 30 = .ok (.aload_n 0, 1) := by decide +kernel
theorem dX7_layBox_31 : decode cX7_layBox 31 = .ok (.iconst 2, 1) := by decide +kernel
theorem dX7_layBox_32 : decode cX7_layBox 32 = .ok (.iload_n 3, 1) := by decide +kernel
theorem dX7_layBox_33 : decode cX7_layBox 33 = .ok (.iastore, 1) := by decide +kernel
theorem dX7_layBox_34 : decode cX7_layBox 34 = .ok (.aload_n 0, 1) := by decide +kernel
theorem dX7_layBox_35 : decode cX7_layBox 35 = .ok (.iconst 4, 1) := by decide +kernel
theorem dX7_layBox_36 : decode cX7_layBox 36 = .ok (.bipush 9, 2) := by decide +kernel
theorem dX7_layBox_38 : decode cX7_layBox 38 = .ok (.iastore, 1) := by decide +kernel
theorem dX7_layBox_39 : decode cX7_layBox 39 = .ok (.aload_n 0, 1) := by decide +kernel
theorem dX7_layBox_40 : decode cX7_layBox 40 = .ok (.iconst 5, 1) := by decide +kernel
theorem dX7_layBox_41 : decode cX7_layBox 41 = .ok (.iconst 3, 1) := by decide +kernel
theorem dX7_layBox_42 : decode cX7_layBox 42 = .ok (.iastore, 1) := by decide +kernel
theorem dX7_layBox_43 : decode cX7_layBox 43 = .ok (.iconst 0, 1) := by decide +kernel
theorem dX7_layBox_44 : decode cX7_layBox 44 = .ok (.istore 4, 2) := by decide +kernel
theorem dX7_layBox_46 : decode cX7_layBox 46 = .ok (.iload 4, 2) := by decide +kernel
theorem dX7_layBox_48 : decode cX7_layBox 48 = .ok (.iload_n 3, 1) := by decide +kernel
theorem dX7_layBox_49 : decode cX7_layBox 49 = .ok (.if_icmp .ge 52, 3) := by decide +kernel
theorem dX7_layBox_52 : decode cX7_layBox 52 = .ok (.iconst 0, 1) := by decide +kernel
theorem dX7_layBox_53 : decode cX7_layBox 53 = .ok (.istore 5, 2) := by decide +kernel
theorem dX7_layBox_55 : decode cX7_layBox 55 = .ok (.iload 5, 2) := by decide +kernel
theorem dX7_layBox_57 : decode cX7_layBox 57 = .ok (.iload_n 1, 1) := by decide +kernel
theorem dX7_layBox_58 : decode cX7_layBox 58 = .ok (.iload_n 2, 1) := by decide +kernel
theorem dX7_layBox_59 : decode cX7_layBox 59 = .ok (.imul, 1) := by decide +kernel
theorem dX7_layBox_60 : decode cX7_layBox 60 = .ok (.if_icmp .ge 35, 3) := by decide +kernel
theorem dX7_layBox_63 : decode cX7_layBox 63 = .ok (.aload_n 0, 1) := by decide +kernel
theorem dX7_layBox_64 : decode cX7_layBox 64 = .ok (.bipush 15, 2) := by decide +kernel
theorem dX7_layBox_66 : decode cX7_layBox 66 = .ok (.bipush 96, 2) := by decide +kernel
theorem dX7_layBox_68 : decode cX7_layBox 68 = .ok (.iload 4, 2) := by decide +kernel
theorem dX7_layBox_70 : decode cX7_layBox 70 = .ok (.imul, 1) := by decide +kernel
theorem dX7_layBox_71 : decode cX7_layBox 71 = .ok (.iadd, 1) := by decide +kernel
theorem dX7_layBox_72 : decode cX7_layBox 72 = .ok (.iload 5, 2) := by decide +kernel
theorem dX7_layBox_74 : decode cX7_layBox 74 = .ok (.iadd, 1) := by decide +kernel
theorem dX7_layBox_75 : decode cX7_layBox 75 = .ok (.iload 4, 2) := by decide +kernel
theorem dX7_layBox_77 : decode cX7_layBox 77 = .ok (.iload_n 3, 1) := by decide +kernel
theorem dX7_layBox_78 : decode cX7_layBox 78 = .ok (.iconst 1, 1) := by decide +kernel
theorem dX7_layBox_79 : decode cX7_layBox 79 = .ok (.isub, 1) := by decide +kernel
theorem dX7_layBox_80 : decode cX7_layBox 80 = .ok (.if_icmp .ne 7, 3) := by decide +kernel
theorem dX7_layBox_83 : decode cX7_layBox 83 = .ok (.iconst 0, 1) := by decide +kernel
theorem dX7_layBox_84 : decode cX7_layBox 84 = .ok (.goto 4, 3) := by decide +kernel
theorem dX7_layBox_87 : decode cX7_layBox 87 = .ok (.iconst (-1), 1) := by decide +kernel
theorem dX7_layBox_88 : decode cX7_layBox 88 = .ok (.iastore, 1) := by decide +kernel
theorem dX7_layBox_89 : decode cX7_layBox 89 = .ok (.iinc 5 1, 3) := by decide +kernel
theorem dX7_layBox_92 : decode cX7_layBox 92 = .ok (.goto (-37), 3) := by decide +kernel
theorem dX7_layBox_95 : decode cX7_layBox 95 = .ok (.iinc 4 1, 3) := by decide +kernel
theorem dX7_layBox_98 : decode cX7_layBox 98 = .ok (.goto (-52), 3) := by decide +kernel
theorem dX7_layBox_101 : decode cX7_layBox 101 = .ok (.return_, 1) := by decide +kernel
theorem dX7_append_0 : decode cX7_append 0 = .ok (.aload_n 0, 1) := by decide +kernel
theorem dX7_append_1 : decode cX7_append 1 = .ok (.iconst 0, 1) := by decide +kernel
theorem dX7_append_2 : decode cX7_append 2 = .ok (.putfield 42, 3) := by decide +kernel
theorem dX7_append_5 : decode cX7_append 5 = .ok (.aload_n 0, 1) := by decide +kernel
theorem dX7_append_6 : decode cX7_append 6 = .ok (.getfield 45, 3) := by decide +kernel
theorem dX7_append_9 : decode cX7_append 9 = .ok (.bipush 20, 2) := by decide +kernel
theorem dX7_append_11 : decode cX7_append 11 = .ok (.iadd, 1) := by decide +kernel
theorem dX7_append_12 : decode cX7_append 12 = .ok (.sipush 800, 3) := by decide +kernel
theorem dX7_append_15 : decode cX7_append 15 = .ok (.if_icmp .le 5, 3) := by decide +kernel
theorem dX7_append_18 : decode cX7_append 18 = .ok (.iconst (-1), 1) := by decide +kernel
theorem dX7_append_19 : decode cX7_append 19 = .ok (.ireturn, 1) := by decide +kernel
theorem dX7_append_20 : decode cX7_append 20 = .ok (.iconst 0, 1) := by decide +kernel
theorem dX7_append_21 : decode cX7_append 21 = .ok (.istore 6, 2) := by decide +kernel
theorem dX7_append_23 : decode cX7_append 23 = .ok (.iload 6, 2) := by decide +kernel
theorem dX7_append_25 : decode cX7_append 25 = .ok (.bipush 20, 2) := by decide +kernel
theorem dX7_append_27 : decode cX7_append 27 = .ok (.if_icmp .ge 93, 3) := by decide +kernel
theorem dX7_append_30 : decode cX7_append 30 = .ok (.iload 6, 2) := by decide +kernel
theorem dX7_append_32 : decode cX7_append 32 = .ok (.iconst 4, 1) := by decide +kernel
theorem dX7_append_33 : decode cX7_append 33 = .ok (.if_icmp .ge 7, 3) := by decide +kernel
theorem dX7_append_36 : decode cX7_append 36 = .ok (.iload_n 1, 1) := by decide +kernel
theorem dX7_append_37 : decode cX7_append 37 = .ok (.goto 39, 3) := by decide +kernel
theorem dX7_append_40 : decode cX7_append 40 = .ok (.iload 6, 2) := by decide +kernel
theorem dX7_append_42 : decode cX7_append 42 = .ok (.bipush 8, 2) := by decide +kernel
theorem dX7_append_44 : decode cX7_append 44 = .ok (.if_icmp .ge 7, 3) := by decide +kernel
theorem dX7_append_47 : decode cX7_append 47 = .ok (.iload_n 2, 1) := by decide +kernel
theorem dX7_append_48 : decode cX7_append 48 = .ok (.goto 28, 3) := by decide +kernel
theorem dX7_append_51 : decode cX7_append 51 = .ok (.iload 6, 2) := by decide +kernel
theorem dX7_append_53 : decode cX7_append 53 = .ok (.bipush 12, 2) := by decide +kernel
theorem dX7_append_55 : decode cX7_append 55 = .ok (.if_icmp .ge 7, 3) := by decide +kernel
theorem dX7_append_58 : decode cX7_append 58 = .ok (.iload_n 3, 1) := by decide +kernel
theorem dX7_append_59 : decode cX7_append 59 = .ok (.goto 17, 3) := by decide +kernel
theorem dX7_append_62 : decode cX7_append 62 = .ok (.iload 6, 2) := by decide +kernel
theorem dX7_append_64 : decode cX7_append 64 = .ok (.bipush 16, 2) := by decide +kernel
theorem dX7_append_66 : decode cX7_append 66 = .ok (.if_icmp .ge 8, 3) := by decide +kernel
theorem dX7_append_69 : decode cX7_append 69 = .ok (.iload 4, 2) := by decide +kernel
theorem dX7_append_71 : decode cX7_append 71 = .ok (.goto 5, 3) := by decide +kernel
theorem dX7_append_74 : decode cX7_append 74 = .ok (.iload 5, 2) := by decide +kernel
theorem dX7_append_76 : decode cX7_append 76 = .ok (.istore 7, 2) := by decide +kernel
theorem dX7_append_78 : decode cX7_append 78 = .ok (.aload_n 0, 1) := by decide +kernel
theorem dX7_append_79 : decode cX7_append 79 = .ok (.getfield 9, 3) := by decide +kernel
theorem dX7_append_82 : decode cX7_append 82 = .ok (.aload_n 0, 1) := by decide +kernel
theorem dX7_append_83 : decode cX7_append 83 = .ok (.getfield 45, 3) := by decide +kernel
theorem dX7_append_86 : decode cX7_append 86 = .ok (.iload 7, 2) := by decide +kernel
theorem dX7_append_88 : decode cX7_append 88 = .ok (.bipush 24, 2) := by decide +kernel
theorem dX7_append_90 : decode cX7_append 90 = .ok (.bipush 8, 2) := by decide +kernel
theorem dX7_append_92 : decode cX7_append 92 = .ok (.iload 6, 2) := by decide +kernel
theorem dX7_append_94 : decode cX7_append 94 = .ok (.iconst 4, 1) := by decide +kernel
theorem dX7_append_95 : decode cX7_append 95 = .ok (.irem, 1) := by decide +kernel
theorem dX7_append_96 : decode cX7_append 96 = .ok (.imul, 1) := by decide +kernel
theorem dX7_append_97 : decode cX7_append 97 = .ok (.isub, 1) := by decide +kernel
theorem dX7_append_98 : decode cX7_append 98 = .ok (.ishr, 1) := by decide +kernel
theorem dX7_append_99 : decode cX7_append 99 = .ok (.sipush 255, 3) := by decide +kernel
theorem dX7_append_102 : decode cX7_append 102 = .ok (.iand, 1) := by decide +kernel
theorem dX7_append_103 : decode cX7_append 103 = .ok (.iastore, 1) := by decide +kernel
theorem dX7_append_104 : decode cX7_append 104 = .ok (.aload_n 0, 1) := by decide +kernel
theorem dX7_append_105 : decode cX7_append 105 = .ok (.dup, 1) := by decide +kernel
theorem dX7_append_106 : decode cX7_append 106 = .ok (.getfield 45, 3) := by decide +kernel
theorem dX7_append_109 : decode cX7_append 109 = .ok (.iconst 1, 1) := by decide +kernel
theorem dX7_append_110 : decode cX7_append 110 = .ok (.iadd, 1) := by decide +kernel
theorem dX7_append_111 : decode cX7_append 111 = .ok (.putfield 45, 3) := by decide +kernel
theorem dX7_append_114 : decode cX7_append 114 = .ok (.iinc 6 1, 3) := by decide +kernel
theorem dX7_append_117 : decode cX7_append 117 = .ok (.goto (-94), 3) := by decide +kernel
theorem dX7_append_120 : decode cX7_append 120 = .ok (.aload_n 0, 1) := by decide +kernel
theorem dX7_append_121 : decode cX7_append 121 = .ok (.getfield 45, 3) := by decide +kernel
theorem dX7_append_124 : decode cX7_append 124 = .ok (.ireturn, 1) := by decide +kernel
theorem dX7_byteAt_0 : decode cX7_byteAt 0 = .ok (.iload_n 1, 1) := by decide +kernel
theorem dX7_byteAt_1 : decode cX7_byteAt 1 = .ok (.aload_n 0, 1) := by decide +kernel
theorem dX7_byteAt_2 : decode cX7_byteAt 2 = .ok (.getfield 48, 3) := by decide +kernel
theorem dX7_byteAt_5 : decode cX7_byteAt 5 = .ok (.if_icmp .ge 12, 3) := by decide +kernel
theorem dX7_byteAt_8 : decode cX7_byteAt 8 = .ok (.aload_n 0, 1) := by decide +kernel
theorem dX7_byteAt_9 : decode cX7_byteAt 9 = .ok (.getfield 9, 3) := by decide +kernel
theorem dX7_byteAt_12 : decode cX7_byteAt 12 = .ok (.iload_n 1, 1) := by decide +kernel
theorem dX7_byteAt_13 : decode cX7_byteAt 13 = .ok (.iaload, 1) := by decide +kernel
theorem dX7_byteAt_14 : decode cX7_byteAt 14 = .ok (.goto 4, 3) := by decide +kernel
theorem dX7_byteAt_17 : decode cX7_byteAt 17 = .ok (.iconst (-1), 1) := by decide +kernel
theorem dX7_byteAt_18 : decode cX7_byteAt 18 = .ok (.ireturn, 1) := by decide +kernel
set_option maxRecDepth 20000 in
theorem ggX7_ahead_X7_byteAt : GoodIn wsX7_ahead wsX7_byteAt := goodIn_r _ [6, 7, 8, 9, 10, 11, 12, 13, 14, 15, 16, 17, 18, 19, 20, 21, 22, 23, 24, 25, 26, 27] (by decide +kernel) (by decide +kernel)
set_option maxRecDepth 20000 in
theorem gX7_ahead_X7_byteAt : GoodIn wsX7_ahead (wsV RX7 54 RX7 yX7_byteAt wsX7_byteAt) := goodIn_app (goodIn_of _ (by decide +kernel)) ggX7_ahead_X7_byteAt
theorem dX7_ahead_0 : decode cX7_ahead 0 = .ok (.aload_n 0, 1) := by decide +kernel
theorem dX7_ahead_1 : decode cX7_ahead 1 = .ok (.aload_n 0, 1) := by decide +kernel
theorem dX7_ahead_2 : decode cX7_ahead 2 = .ok (.getfield 51, 3) := by decide +kernel
theorem dX7_ahead_5 : decode cX7_ahead 5 = .ok (.invokevirtual 54, 3) := by decide +kernel
theorem dX7_ahead_8 : decode cX7_ahead 8 = .ok (.bipush 32, 2) := by decide +kernel
theorem dX7_ahead_10 : decode cX7_ahead 10 = .ok (.if_icmp .ne 16, 3) := by decide +kernel
theorem dX7_ahead_13 : decode cX7_ahead 13 = .ok (.aload_n 0, 1) := by decide +kernel
theorem dX7_ahead_14 : decode cX7_ahead 14 = .ok (.dup, 1) := by decide +kernel
theorem dX7_ahead_15 : decode cX7_ahead 15 = .ok (.getfield 51, 3) := by decide +kernel
theorem dX7_ahead_18 : decode cX7_ahead 18 = .ok (.iconst 1, 1) := by decide +kernel
theorem dX7_ahead_19 : decode cX7_ahead 19 = .ok (.iadd, 1) := by decide +kernel
theorem dX7_ahead_20 : decode cX7_ahead 20 = .ok (.putfield 51, 3) := by decide +kernel
theorem dX7_ahead_23 : decode cX7_ahead 23 = .ok (.goto (-23), 3) := by decide +kernel
theorem dX7_ahead_26 : decode cX7_ahead 26 = .ok (.aload_n 0, 1) := by decide +kernel
theorem dX7_ahead_27 : decode cX7_ahead 27 = .ok (.aload_n 0, 1) := by decide +kernel
theorem dX7_ahead_28 : decode cX7_ahead 28 = .ok (.getfield 51, 3) := by decide +kernel
theorem dX7_ahead_31 : decode cX7_ahead 31 = .ok (.invokevirtual 54, 3) := by decide +kernel
theorem dX7_ahead_34 : decode cX7_ahead 34 = .ok (.ireturn, 1) := by decide +kernel
theorem dX7_isGood_0 : decode cX7_isGood 0 = .ok (.aload_n 0, 1) := by decide +kernel
theorem dX7_isGood_1 : decode cX7_isGood 1 = .ok (.getfield 58, 3) := by decide +kernel
theorem dX7_isGood_4 : decode cX7_isGood 4 = .ok (.ifCond .ne 7, 3) := by decide +kernel
theorem dX7_isGood_7 : decode cX7_isGood 7 = .ok (.iconst 1, 1) := by decide +kernel
theorem dX7_isGood_8 : decode cX7_isGood 8 = .ok (.goto 4, 3) := by decide +kernel
theorem dX7_isGood_11 : decode cX7_isGood 11 = .ok (.iconst 0, 1) := by decide +kernel
theorem dX7_isGood_12 : decode cX7_isGood 12 = .ok (.ireturn, 1) := by decide +kernel
theorem dX7_report_0 : decode cX7_report 0 = .ok (.aload_n 0, 1) := by decide +kernel
theorem dX7_report_1 : decode cX7_report 1 = .ok (.getfield 58, 3) := by decide +kernel
theorem dX7_report_4 : decode cX7_report 4 = .ok (.ifCond .eq 4, 3) := by decide +kernel
theorem dX7_report_7 : decode cX7_report 7 = .ok (.return_, 1) := by decide +kernel
theorem dX7_report_8 : decode cX7_report 8 = .ok (.aload_n 0, 1) := by decide +kernel
theorem dX7_report_9 : decode cX7_report 9 = .ok (.iload_n 1, 1) := by decide +kernel
theorem dX7_report_10 : decode cX7_report 10 = .ok (.putfield 58, 3) := by decide +kernel
theorem dX7_report_13 : decode cX7_report 13 = .ok (.aload_n 0, 1) := by decide +kernel
theorem dX7_report_14 : decode cX7_report 14 = .ok (.iload_n 2, 1) := by decide +kernel
theorem dX7_report_15 : decode cX7_report 15 = .ok (.putfield 61, 3) := by decide +kernel
theorem dX7_report_18 : decode cX7_report 18 = .ok (.return_, 1) := by decide +kernel
set_option maxRecDepth 20000 in
theorem ggX7_isDigit_X7_in : GoodIn wsX7_isDigit wsX7_in := goodIn_r _ [4] (by decide +kernel) (by decide +kernel)
set_option maxRecDepth 20000 in
theorem gX7_isDigit_X7_in : GoodIn wsX7_isDigit (va_wsS RX7 64 yX7_in wsX7_in) := goodIn_app (goodIn_of _ (by decide +kernel)) ggX7_isDigit_X7_in
theorem dX7_isDigit_0 : decode cX7_isDigit 0 = .ok (.iload_n 0, 1) := by decide +kernel
theorem dX7_isDigit_1 : decode cX7_isDigit 1 = .ok (.bipush 48, 2) := by decide +kernel
theorem dX7_isDigit_3 : decode cX7_isDigit 3 = .ok (.bipush 57, 2) := by decide +kernel
theorem dX7_isDigit_5 : decode cX7_isDigit 5 = .ok (.invokestatic 64, 3) := by decide +kernel
theorem dX7_isDigit_8 : decode cX7_isDigit 8 = .ok (.ireturn, 1) := by decide +kernel
set_option maxRecDepth 20000 in
theorem ggX7_takeWord_X7_isGood : GoodIn wsX7_takeWord wsX7_isGood := goodIn_r _ [6, 7, 70, 71, 72, 73, 74, 75, 76, 77, 78, 79, 80, 81, 82, 83, 84, 85, 86, 87, 88] (by decide +kernel) (by decide +kernel)
set_option maxRecDepth 20000 in
theorem gX7_takeWord_X7_isGood : GoodIn wsX7_takeWord (wsV RX7 68 RX7 yX7_isGood wsX7_isGood) := goodIn_app (goodIn_of _ (by decide +kernel)) ggX7_takeWord_X7_isGood
set_option maxRecDepth 20000 in
theorem ggX7_takeWord_X7_ahead : GoodIn wsX7_takeWord wsX7_ahead := goodIn_r _ [11, 1, 12, 13, 14, 5, 15, 16, 17, 70, 71, 72, 73, 74, 75, 76, 77, 78, 79, 80, 81, 82, 83, 84, 85, 86, 87, 88] (by decide +kernel) (by decide +kernel)
set_option maxRecDepth 20000 in
theorem gX7_takeWord_X7_ahead : GoodIn wsX7_takeWord (wsV RX7 72 RX7 yX7_ahead wsX7_ahead) := goodIn_app (goodIn_of _ (by decide +kernel)) ggX7_takeWord_X7_ahead
set_option maxRecDepth 20000 in
theorem ggX7_takeWord_J0_length_8abf5 : GoodIn wsX7_takeWord wsJ0_length_8abf5 := goodIn_r _ [22, 23, 24, 25, 26, 21, 27, 28, 29] (by decide +kernel) (by decide +kernel)
set_option maxRecDepth 20000 in
theorem gX7_takeWord_J0_length_8abf5 : GoodIn wsX7_takeWord (wsV RX7 76 RJ0 yJ0_length_8abf5 wsJ0_length_8abf5) := goodIn_app (goodIn_of _ (by decide +kernel)) ggX7_takeWord_J0_length_8abf5
set_option maxRecDepth 20000 in
theorem ggX7_takeWord_X7_byteAt : GoodIn wsX7_takeWord wsX7_byteAt := goodIn_r _ [15, 16, 17, 70, 71, 72, 73, 74, 75, 76, 77, 78, 79, 80, 81, 82, 83, 84, 85, 86, 87, 88] (by decide +kernel) (by decide +kernel)
set_option maxRecDepth 20000 in
theorem gX7_takeWord_X7_byteAt : GoodIn wsX7_takeWord (wsV RX7 54 RX7 yX7_byteAt wsX7_byteAt) := goodIn_app (goodIn_of _ (by decide +kernel)) ggX7_takeWord_X7_byteAt
set_option maxRecDepth 20000 in
theorem ggX7_takeWord_J0_charAt_5068e : GoodIn wsX7_takeWord wsJ0_charAt_5068e := goodIn_r _ [33, 23, 34, 35, 36, 21, 37, 28, 29, 38, 39, 40, 41, 42, 43, 44, 45, 46, 47, 48, 49, 50, 51, 52, 53, 54, 55, 56, 57, 58, 59, 60, 61, 62, 63, 64, 65, 66] (by decide +kernel) (by decide +kernel)
set_option maxRecDepth 20000 in
theorem gX7_takeWord_J0_charAt_5068e : GoodIn wsX7_takeWord (wsV RX7 81 RJ0 yJ0_charAt_5068e wsJ0_charAt_5068e) := goodIn_app (goodIn_of _ (by decide +kernel)) ggX7_takeWord_J0_charAt_5068e
set_option maxRecDepth 20000 in
theorem ggX7_takeWord_X7_in : GoodIn wsX7_takeWord wsX7_in := goodIn_r _ [69] (by decide +kernel) (by decide +kernel)
set_option maxRecDepth 20000 in
theorem gX7_takeWord_X7_in : GoodIn wsX7_takeWord (va_wsS RX7 64 yX7_in wsX7_in) := goodIn_app (goodIn_of _ (by decide +kernel)) ggX7_takeWord_X7_in
theorem dX7_takeWord_0 : decode cX7_takeWord 0 = .ok (.aload_n 0, 1) := by decide +kernel
theorem dX7_takeWord_1 : decode cX7_takeWord 1 = .ok (.invokevirtual 68, 3) := by decide +kernel
theorem dX7_takeWord_4 : decode cX7_takeWord 4 = .ok (.ifCond .ne 5, 3) := by decide +kernel
theorem dX7_takeWord_7 : decode cX7_takeWord 7 = .ok (.iconst 0, 1) := by decide +kernel
theorem dX7_takeWord_8 : decode cX7_takeWord 8 = .ok (.ireturn, 1) := by decide +kernel
theorem dX7_takeWord_9 : decode cX7_takeWord 9 = .ok (.aload_n 0, 1) := by decide +kernel
theorem dX7_takeWord_10 : decode cX7_takeWord 10 = .ok (.invokevirtual 72, 3) := by decide +kernel
theorem dX7_takeWord_13 : decode cX7_takeWord 13 = .ok (.pop, 1) := by decide +kernel
theorem dX7_takeWord_14 : decode cX7_takeWord 14 = .ok (.iconst 0, 1) := by decide +kernel
theorem dX7_takeWord_15 : decode cX7_takeWord 15 = .ok (.istore_n 2, 1) := by decide +kernel
theorem dX7_takeWord_16 : decode cX7_takeWord 16 = .ok (.iload_n 2, 1) := by decide +kernel
theorem dX7_takeWord_17 : decode cX7_takeWord 17 = .ok (.aload_n 1, 1) := by decide +kernel
theorem dX7_takeWord_18 : decode cX7_takeWord 18 = .ok (.invokevirtual 76, 3) := by decide +kernel
theorem dX7_takeWord_21 : decode cX7_takeWord 21 = .ok (.if_icmp .ge 27, 3) := by decide +kernel
theorem dX7_takeWord_24 : decode cX7_takeWord 24 = .ok (.aload_n 0, 1) := by decide +kernel
theorem dX7_takeWord_25 : decode cX7_takeWord 25 = .ok (.aload_n 0, 1) := by decide +kernel
theorem dX7_takeWord_26 : decode cX7_takeWord 26 = .ok (.getfield 51, 3) := by decide +kernel
theorem dX7_takeWord_29 : decode cX7_takeWord 29 = .ok (.iload_n 2, 1) := by decide +kernel
theorem dX7_takeWord_30 : decode cX7_takeWord 30 = .ok (.iadd, 1) := by decide +kernel
theorem dX7_takeWord_31 : decode cX7_takeWord 31 = .ok (.invokevirtual 54, 3) := by decide +kernel
theorem dX7_takeWord_34 : decode cX7_takeWord 34 = .ok (.aload_n 1, 1) := by decide +kernel
theorem dX7_takeWord_35 : decode cX7_takeWord 35 = .ok (.iload_n 2, 1) := by decide +kernel
theorem dX7_takeWord_36 : decode cX7_takeWord 36 = .ok (.invokevirtual 81, 3) := by decide +kernel
theorem dX7_takeWord_39 : decode cX7_takeWord 39 = .ok (.if_icmp .ne 9, 3) := by decide +kernel
theorem dX7_takeWord_42 : decode cX7_takeWord 42 = .ok (.iinc 2 1, 3) := by decide +kernel
theorem dX7_takeWord_45 : decode cX7_takeWord 45 = .ok (.goto (-29), 3) := by decide +kernel
theorem dX7_takeWord_48 : decode cX7_takeWord 48 = .ok (.iload_n 2, 1) := by decide +kernel
theorem dX7_takeWord_49 : decode cX7_takeWord 49 = .ok (.aload_n 1, 1) := by decide +kernel
theorem dX7_takeWord_50 : decode cX7_takeWord 50 = .ok (.invokevirtual 76, 3) := by decide +kernel
theorem dX7_takeWord_53 : decode cX7_takeWord 53 = .ok (.if_icmp .lt 23, 3) := by decide +kernel
theorem dX7_takeWord_56 : decode cX7_takeWord 56 = .ok (.aload_n 0, 1) := by decide +kernel
theorem dX7_takeWord_57 : decode cX7_takeWord 57 = .ok (.aload_n 0, 1) := by decide +kernel
theorem dX7_takeWord_58 : decode cX7_takeWord 58 = .ok (.getfield 51, 3) := by decide +kernel
theorem dX7_takeWord_61 : decode cX7_takeWord 61 = .ok (.iload_n 2, 1) := by decide +kernel
theorem dX7_takeWord_62 : decode cX7_takeWord 62 = .ok (.iadd, 1) := by decide +kernel
theorem dX7_takeWord_63 : decode cX7_takeWord 63 = .ok (.invokevirtual 54, 3) := by decide +kernel
theorem dX7_takeWord_66 : decode cX7_takeWord 66 = .ok (.bipush 97, 2) := by decide +kernel
theorem dX7_takeWord_68 : decode cX7_takeWord 68 = .ok (.bipush 122, 2) := by decide +kernel
theorem dX7_takeWord_70 : decode cX7_takeWord 70 = .ok (.invokestatic 64, 3) := by decide +kernel
theorem dX7_takeWord_73 : decode cX7_takeWord 73 = .ok (.ifCond .eq 5, 3) := by decide +kernel
theorem dX7_takeWord_76 : decode cX7_takeWord 76 = .ok (.iconst 0, 1) := by decide +kernel
theorem dX7_takeWord_77 : decode cX7_takeWord 77 = .ok (.ireturn, 1) := by decide +kernel
theorem dX7_takeWord_78 : decode cX7_takeWord 78 = .ok (.aload_n 0, 1) := by decide +kernel
theorem dX7_takeWord_79 : decode cX7_takeWord 79 = .ok (.dup, 1) := by decide +kernel
theorem dX7_takeWord_80 : decode cX7_takeWord 80 = .ok (.getfield 51, 3) := by decide +kernel
theorem dX7_takeWord_83 : decode cX7_takeWord 83 = .ok (.iload_n 2, 1) := by decide +kernel
theorem dX7_takeWord_84 : decode cX7_takeWord 84 = .ok (.iadd, 1) := by decide +kernel
theorem dX7_takeWord_85 : decode cX7_takeWord 85 = .ok (.putfield 51, 3) := by decide +kernel
theorem dX7_takeWord_88 : decode cX7_takeWord 88 = .ok (.iconst 1, 1) := by decide +kernel
theorem dX7_takeWord_89 : decode cX7_takeWord 89 = .ok (.ireturn, 1) := by decide +kernel
set_option maxRecDepth 20000 in
theorem ggX7_expect_X7_isGood : GoodIn wsX7_expect wsX7_isGood := goodIn_r _ [6, 7, 23, 24, 25, 26, 27, 28, 29, 30, 31, 32, 33, 34, 35, 36, 37, 38, 39, 40, 41] (by decide +kernel) (by decide +kernel)
set_option maxRecDepth 20000 in
theorem gX7_expect_X7_isGood : GoodIn wsX7_expect (wsV RX7 68 RX7 yX7_isGood wsX7_isGood) := goodIn_app (goodIn_of _ (by decide +kernel)) ggX7_expect_X7_isGood
set_option maxRecDepth 20000 in
theorem ggX7_expect_X7_ahead : GoodIn wsX7_expect wsX7_ahead := goodIn_r _ [11, 1, 12, 13, 14, 5, 15, 16, 17, 23, 24, 25, 26, 27, 28, 29, 30, 31, 32, 33, 34, 35, 36, 37, 38, 39, 40, 41] (by decide +kernel) (by decide +kernel)
set_option maxRecDepth 20000 in
theorem gX7_expect_X7_ahead : GoodIn wsX7_expect (wsV RX7 72 RX7 yX7_ahead wsX7_ahead) := goodIn_app (goodIn_of _ (by decide +kernel)) ggX7_expect_X7_ahead
set_option maxRecDepth 20000 in
theorem ggX7_expect_X7_report : GoodIn wsX7_expect wsX7_report := goodIn_r _ [21, 7, 22, 23, 24, 25, 26, 27, 28, 29, 30, 31, 32, 33, 34, 35, 36, 37, 38, 39, 40, 41] (by decide +kernel) (by decide +kernel)
set_option maxRecDepth 20000 in
theorem gX7_expect_X7_report : GoodIn wsX7_expect (wsV RX7 85 RX7 yX7_report wsX7_report) := goodIn_app (goodIn_of _ (by decide +kernel)) ggX7_expect_X7_report
theorem dX7_expect_0 : decode cX7_expect 0 = .ok (.aload_n 0, 1) := by decide +kernel
theorem dX7_expect_1 : decode cX7_expect 1 = .ok (.invokevirtual 68, 3) := by decide +kernel
theorem dX7_expect_4 : decode cX7_expect 4 = .ok (.ifCond .ne 4, 3) := by decide +kernel
theorem dX7_expect_7 : decode cX7_expect 7 = .ok (.return_, 1) := by decide +kernel
theorem dX7_expect_8 : decode cX7_expect 8 = .ok (.aload_n 0, 1) := by decide +kernel
theorem dX7_expect_9 : decode cX7_expect 9 = .ok (.invokevirtual 72, 3) := by decide +kernel
theorem dX7_expect_12 : decode cX7_expect 12 = .ok (.iload_n 1, 1) := by decide +kernel
theorem dX7_expect_13 : decode cX7_expect 13 = .ok (.if_icmp .ne 16, 3) := by decide +kernel
theorem dX7_expect_16 : decode cX7_expect 16 = .ok (.aload_n 0, 1) := by decide +kernel
theorem dX7_expect_17 : decode cX7_expect 17 = .ok (.dup, 1) := by decide +kernel
theorem dX7_expect_18 : decode cX7_expect 18 = .ok (.getfield 51, 3) := by decide +kernel
theorem dX7_expect_21 : decode cX7_expect 21 = .ok (.iconst 1, 1) := by decide +kernel
theorem dX7_expect_22 : decode cX7_expect 22 = .ok (.iadd, 1) := by decide +kernel
theorem dX7_expect_23 : decode cX7_expect 23 = .ok (.putfield 51, 3) := by decide +kernel
theorem dX7_expect_26 : decode cX7_expect 26 = .ok (.goto 13, 3) := by decide +kernel
theorem dX7_expect_29 : decode cX7_expect 29 = .ok (.aload_n 0, 1) := by decide +kernel
theorem dX7_expect_30 : decode cX7_expect 30 = .ok (.bipush (-2), 2) := by decide +kernel
theorem dX7_expect_32 : decode cX7_expect 32 = .ok (.aload_n 0, 1) := by decide +kernel
theorem dX7_expect_33 : decode cX7_expect 33 = .ok (.getfield 51, 3) := by decide +kernel
theorem dX7_expect_36 : decode cX7_expect 36 = .ok (.invokevirtual 85, 3) := by decide +kernel
theorem dX7_expect_39 : decode cX7_expect 39 = .ok (.return_, 1) := by decide +kernel
set_option maxRecDepth 20000 in
theorem ggX7_number_X7_isGood : GoodIn wsX7_number wsX7_isGood := goodIn_r _ [8, 9, 34, 35, 36, 37, 38, 39, 40, 41, 42, 43, 44, 45, 46, 47, 48, 49, 50, 51, 52] (by decide +kernel) (by decide +kernel)
set_option maxRecDepth 20000 in
theorem gX7_number_X7_isGood : GoodIn wsX7_number (wsV RX7 68 RX7 yX7_isGood wsX7_isGood) := goodIn_app (goodIn_of _ (by decide +kernel)) ggX7_number_X7_isGood
set_option maxRecDepth 20000 in
theorem ggX7_number_X7_ahead : GoodIn wsX7_number wsX7_ahead := goodIn_r _ [13, 1, 14, 15, 16, 7, 17, 18, 19, 34, 35, 36, 37, 38, 39, 40, 41, 42, 43, 44, 45, 46, 47, 48, 49, 50, 51, 52] (by decide +kernel) (by decide +kernel)
set_option maxRecDepth 20000 in
theorem gX7_number_X7_ahead : GoodIn wsX7_number (wsV RX7 72 RX7 yX7_ahead wsX7_ahead) := goodIn_app (goodIn_of _ (by decide +kernel)) ggX7_number_X7_ahead
set_option maxRecDepth 20000 in
theorem ggX7_number_X7_isDigit : GoodIn wsX7_number wsX7_isDigit := goodIn_r _ [22, 23, 24, 7, 25] (by decide +kernel) (by decide +kernel)
set_option maxRecDepth 20000 in
theorem gX7_number_X7_isDigit : GoodIn wsX7_number (va_wsS RX7 89 yX7_isDigit wsX7_isDigit) := goodIn_app (goodIn_of _ (by decide +kernel)) ggX7_number_X7_isDigit
set_option maxRecDepth 20000 in
theorem ggX7_number_X7_report : GoodIn wsX7_number wsX7_report := goodIn_r _ [29, 9, 30, 34, 35, 36, 37, 38, 39, 40, 41, 42, 43, 44, 45, 46, 47, 48, 49, 50, 51, 52] (by decide +kernel) (by decide +kernel)
set_option maxRecDepth 20000 in
theorem gX7_number_X7_report : GoodIn wsX7_number (wsV RX7 85 RX7 yX7_report wsX7_report) := goodIn_app (goodIn_of _ (by decide +kernel)) ggX7_number_X7_report
set_option maxRecDepth 20000 in
theorem ggX7_number_X7_byteAt : GoodIn wsX7_number wsX7_byteAt := goodIn_r _ [17, 18, 19, 34, 35, 36, 37, 38, 39, 40, 41, 42, 43, 44, 45, 46, 47, 48, 49, 50, 51, 52] (by decide +kernel) (by decide +kernel)
set_option maxRecDepth 20000 in
theorem gX7_number_X7_byteAt : GoodIn wsX7_number (wsV RX7 54 RX7 yX7_byteAt wsX7_byteAt) := goodIn_app (goodIn_of _ (by decide +kernel)) ggX7_number_X7_byteAt
set_option maxRecDepth 20000 in
theorem ggX7_number_X7_min : GoodIn wsX7_number wsX7_min := goodIn_r _ [33] (by decide +kernel) (by decide +kernel)
set_option maxRecDepth 20000 in
theorem gX7_number_X7_min : GoodIn wsX7_number (va_wsS RX7 97 yX7_min wsX7_min) := goodIn_app (goodIn_of _ (by decide +kernel)) ggX7_number_X7_min
set_option maxRecDepth 20000 in
theorem ggX7_number_X7_in : GoodIn wsX7_number wsX7_in := goodIn_r _ [25] (by decide +kernel) (by decide +kernel)
set_option maxRecDepth 20000 in
theorem gX7_number_X7_in : GoodIn wsX7_number (va_wsS RX7 64 yX7_in wsX7_in) := goodIn_app (goodIn_of _ (by decide +kernel)) ggX7_number_X7_in
theorem dX7_number_0 : decode cX7_number 0 = .ok (.aload_n 0, 1) := by decide +kernel
theorem dX7_number_1 : decode cX7_number 1 = .ok (.invokevirtual 68, 3) := by decide +kernel
theorem dX7_number_4 : decode cX7_number 4 = .ok (.ifCond .ne 5, 3) := by decide +kernel
theorem dX7_number_7 : decode cX7_number 7 = .ok (.iconst 0, 1) := by decide +kernel
theorem dX7_number_8 : decode cX7_number 8 = .ok (.ireturn, 1) := by decide +kernel
theorem dX7_number_9 : decode cX7_number 9 = .ok (.aload_n 0, 1) := by decide +kernel
theorem dX7_number_10 : decode cX7_number 10 = .ok (.invokevirtual 72, 3) := by decide +kernel
theorem dX7_number_13 : decode cX7_number 13 = .ok (.invokestatic 89, 3) := by decide +kernel
theorem dX7_number_16 : decode cX7_number 16 = .ok (.ifCond .ne 15, 3) := by decide +kernel
theorem dX7_number_19 : decode cX7_number 19 = .ok (.aload_n 0, 1) := by decide +kernel
theorem dX7_number_20 : decode cX7_number 20 = .ok (.bipush (-2), 2) := by decide +kernel
theorem dX7_number_22 : decode cX7_number 22 = .ok (.aload_n 0, 1) := by decide +kernel
theorem dX7_number_23 : decode cX7_number 23 = .ok (.getfield 51, 3) := by decide +kernel
theorem dX7_number_26 : decode cX7_number 26 = .ok (.invokevirtual 85, 3) := by decide +kernel
theorem dX7_number_29 : decode cX7_number 29 = .ok (.iconst 0, 1) := by decide +kernel
theorem dX7_number_30 : decode cX7_number 30 = .ok (.ireturn, 1) := by decide +kernel
theorem dX7_number_31 : decode cX7_number 31 = .ok (.aload_n 0, 1) := by decide +kernel
theorem dX7_number_32 : decode cX7_number 32 = .ok (.aload_n 0, 1) := by decide +kernel
theorem dX7_number_33 : decode cX7_number 33 = .ok (.getfield 51, 3) := by decide +kernel
theorem dX7_number_36 : decode cX7_number 36 = .ok (.putfield 93, 3) := by decide +kernel
theorem dX7_number_39 : decode cX7_number 39 = .ok (.iconst 0, 1) := by decide +kernel
theorem dX7_number_40 : decode cX7_number 40 = .ok (.istore_n 3, 1) := by decide +kernel
theorem dX7_number_41 : decode cX7_number 41 = .ok (.aload_n 0, 1) := by decide +kernel
theorem dX7_number_42 : decode cX7_number 42 = .ok (.aload_n 0, 1) := by decide +kernel
theorem dX7_number_43 : decode cX7_number 43 = .ok (.getfield 51, 3) := by decide +kernel
theorem dX7_number_46 : decode cX7_number 46 = .ok (.invokevirtual 54, 3) := by decide +kernel
theorem dX7_number_49 : decode cX7_number 49 = .ok (.invokestatic 89, 3) := by decide +kernel
theorem dX7_number_52 : decode cX7_number 52 = .ok (.ifCond .eq 38, 3) := by decide +kernel
theorem dX7_number_55 : decode cX7_number 55 = .ok (.ldc 96, 2) := by decide +kernel
theorem dX7_number_57 : decode cX7_number 57 = .ok (.bipush 10, 2) := by decide +kernel
theorem dX7_number_59 : decode cX7_number 59 = .ok (.iload_n 3, 1) := by decide +kernel
theorem dX7_number_60 : decode cX7_number 60 = .ok (.imul, 1) := by decide +kernel
theorem dX7_number_61 : decode cX7_number 61 = .ok (.aload_n 0, 1) := by decide +kernel
theorem dX7_number_62 : decode cX7_number 62 = .ok (.aload_n 0, 1) := by decide +kernel
theorem dX7_number_63 : decode cX7_number 63 = .ok (.getfield 51, 3) := by decide +kernel
theorem dX7_number_66 : decode cX7_number 66 = .ok (.invokevirtual 54, 3) := by decide +kernel
theorem dX7_number_69 : decode cX7_number 69 = .ok (.iadd, 1) := by decide +kernel
theorem dX7_number_70 : decode cX7_number 70 = .ok (.bipush 48, 2) := by decide +kernel
theorem dX7_number_72 : decode cX7_number 72 = .ok (.isub, 1) := by decide +kernel
theorem dX7_number_73 : decode cX7_number 73 = .ok (.invokestatic 97, 3) := by decide +kernel
theorem dX7_number_76 : decode cX7_number 76 = .ok (.istore_n 3, 1) := by decide +kernel
theorem dX7_number_77 : decode cX7_number 77 = .ok (.aload_n 0, 1) := by decide +kernel
theorem dX7_number_78 : decode cX7_number 78 = .ok (.dup, 1) := by decide +kernel
theorem dX7_number_79 : decode cX7_number 79 = .ok (.getfield 51, 3) := by decide +kernel
theorem dX7_number_82 : decode cX7_number 82 = .ok (.iconst 1, 1) := by decide +kernel
theorem dX7_number_83 : decode cX7_number 83 = .ok (.iadd, 1) := by decide +kernel
theorem dX7_number_84 : decode cX7_number 84 = .ok (.putfield 51, 3) := by decide +kernel
theorem dX7_number_87 : decode cX7_number 87 = .ok (.goto (-46), 3) := by decide +kernel
theorem dX7_number_90 : decode cX7_number 90 = .ok (.iload_n 3, 1) := by decide +kernel
theorem dX7_number_91 : decode cX7_number 91 = .ok (.iload_n 1, 1) := by decide +kernel
theorem dX7_number_92 : decode cX7_number 92 = .ok (.iload_n 2, 1) := by decide +kernel
theorem dX7_number_93 : decode cX7_number 93 = .ok (.invokestatic 64, 3) := by decide +kernel
theorem dX7_number_96 : decode cX7_number 96 = .ok (.ifCond .ne 13, 3) := by decide +kernel
theorem dX7_number_99 : decode cX7_number 99 = .ok (.aload_n 0, 1) := by decide +kernel
theorem dX7_number_100 : decode cX7_number 100 = .ok (.bipush (-3), 2) := by decide +kernel
theorem dX7_number_102 : decode cX7_number 102 = .ok (.aload_n 0, 1) := by decide +kernel
theorem dX7_number_103 : decode cX7_number 103 = .ok (.getfield 93, 3) := by decide +kernel
theorem dX7_number_106 : decode cX7_number 106 = .ok (.invokevirtual 85, 3) := by decide +kernel
theorem dX7_number_109 : decode cX7_number 109 = .ok (.aload_n 0, 1) := by decide +kernel
theorem dX7_number_110 : decode cX7_number 110 = .ok (.invokevirtual 68, 3) := by decide +kernel
theorem dX7_number_113 : decode cX7_number 113 = .ok (.ifCond .eq 7, 3) := by decide +kernel
theorem dX7_number_116 : decode cX7_number 116 = .ok (.iload_n 3, 1) := by decide +kernel
theorem dX7_number_117 : decode cX7_number 117 = .ok (.goto 4, 3) := by decide +kernel
theorem dX7_number_120 : decode cX7_number 120 = .ok (.iconst 0, 1) := by decide +kernel
theorem dX7_number_121 : decode cX7_number 121 = .ok (.ireturn, 1) := by decide +kernel
set_option maxRecDepth 20000 in
theorem ggX7_emit_X7_isGood : GoodIn wsX7_emit wsX7_isGood := goodIn_r _ [6, 7, 8, 9, 10, 11, 12, 13, 14, 15, 16, 17, 18, 19, 20, 21, 22, 23, 24, 25, 26] (by decide +kernel) (by decide +kernel)
set_option maxRecDepth 20000 in
theorem gX7_emit_X7_isGood : GoodIn wsX7_emit (wsV RX7 68 RX7 yX7_isGood wsX7_isGood) := goodIn_app (goodIn_of _ (by decide +kernel)) ggX7_emit_X7_isGood
theorem dX7_emit_0 : decode cX7_emit 0 = .ok (.aload_n 0, 1) := by decide +kernel
theorem dX7_emit_1 : decode cX7_emit 1 = .ok (.invokevirtual 68, 3) := by decide +kernel
theorem dX7_emit_4 : decode cX7_emit 4 = .ok (.ifCond .ne 4, 3) := by decide +kernel
theorem dX7_emit_7 : decode cX7_emit 7 = .ok (.return_, 1) := by decide +kernel
theorem dX7_emit_8 : decode cX7_emit 8 = .ok (.aload_n 0, 1) := by decide +kernel
theorem dX7_emit_9 : decode cX7_emit 9 = .ok (.getfield 20, 3) := by decide +kernel
theorem dX7_emit_12 : decode cX7_emit 12 = .ok (.sipush 643, 3) := by decide +kernel
theorem dX7_emit_15 : decode cX7_emit 15 = .ok (.aload_n 0, 1) := by decide +kernel
theorem dX7_emit_16 : decode cX7_emit 16 = .ok (.getfield 20, 3) := by decide +kernel
theorem dX7_emit_19 : decode cX7_emit 19 = .ok (.bipush 9, 2) := by decide +kernel
theorem dX7_emit_21 : decode cX7_emit 21 = .ok (.iaload, 1) := by decide +kernel
theorem dX7_emit_22 : decode cX7_emit 22 = .ok (.iadd, 1) := by decide +kernel
theorem dX7_emit_23 : decode cX7_emit 23 = .ok (.iload_n 1, 1) := by decide +kernel
theorem dX7_emit_24 : decode cX7_emit 24 = .ok (.iastore, 1) := by decide +kernel
theorem dX7_emit_25 : decode cX7_emit 25 = .ok (.aload_n 0, 1) := by decide +kernel
theorem dX7_emit_26 : decode cX7_emit 26 = .ok (.getfield 20, 3) := by decide +kernel
theorem dX7_emit_29 : decode cX7_emit 29 = .ok (.bipush 9, 2) := by decide +kernel
theorem dX7_emit_31 : decode cX7_emit 31 = .ok (.dup2, 1) := by decide +kernel
theorem dX7_emit_32 : decode cX7_emit 32 = .ok (.iaload, 1) := by decide +kernel
theorem dX7_emit_33 : decode cX7_emit 33 = .ok (.iconst 1, 1) := by decide +kernel
theorem dX7_emit_34 : decode cX7_emit 34 = .ok (.iadd, 1) := by decide +kernel
theorem dX7_emit_35 : decode cX7_emit 35 = .ok (.iastore, 1) := by decide +kernel
theorem dX7_emit_36 : decode cX7_emit 36 = .ok (.return_, 1) := by decide +kernel
set_option maxRecDepth 20000 in
theorem ggX7_factor_X7_isGood : GoodIn wsX7_factor wsX7_isGood := goodIn_r _ [7, 8, 112, 113, 114, 115, 116, 117, 118, 119, 120, 121, 122, 123, 124, 125, 126, 127, 128, 129, 130] (by decide +kernel) (by decide +kernel)
set_option maxRecDepth 20000 in
theorem gX7_factor_X7_isGood : GoodIn wsX7_factor (wsV RX7 68 RX7 yX7_isGood wsX7_isGood) := goodIn_app (goodIn_of _ (by decide +kernel)) ggX7_factor_X7_isGood
set_option maxRecDepth 20000 in
theorem ggX7_factor_X7_ahead : GoodIn wsX7_factor wsX7_ahead := goodIn_r _ [12, 2, 13, 14, 15, 6, 16, 17, 18, 112, 113, 114, 115, 116, 117, 118, 119, 120, 121, 122, 123, 124, 125, 126, 127, 128, 129, 130] (by decide +kernel) (by decide +kernel)
set_option maxRecDepth 20000 in
theorem gX7_factor_X7_ahead : GoodIn wsX7_factor (wsV RX7 72 RX7 yX7_ahead wsX7_ahead) := goodIn_app (goodIn_of _ (by decide +kernel)) ggX7_factor_X7_ahead
set_option maxRecDepth 20000 in
theorem ggX7_factor_X7_report : GoodIn wsX7_factor wsX7_report := goodIn_r _ [22, 8, 23, 112, 113, 114, 115, 116, 117, 118, 119, 120, 121, 122, 123, 124, 125, 126, 127, 128, 129, 130] (by decide +kernel) (by decide +kernel)
set_option maxRecDepth 20000 in
theorem gX7_factor_X7_report : GoodIn wsX7_factor (wsV RX7 85 RX7 yX7_report wsX7_report) := goodIn_app (goodIn_of _ (by decide +kernel)) ggX7_factor_X7_report
set_option maxRecDepth 20000 in
theorem ggX7_factor_X7_readSum : GoodIn wsX7_factor wsX7_readSum := goodIn_r _ [104, 2, 105, 106, 107, 6, 3, 4, 5, 7, 8, 9, 10, 11, 12, 13, 14, 15, 16, 17, 18, 99, 100, 101, 102, 103, 0, 1, 19, 20, 21, 22, 23, 24, 25, 26, 27, 28, 29, 30, 31, 32, 33, 34, 35, 36, 37, 38, 39, 40, 41, 42, 43, 44, 45, 46, 47, 48, 49, 50, 51, 52, 53, 54, 55, 56, 57, 58, 59, 60, 61, 62, 63, 64, 65, 66, 67, 68, 69, 70, 71, 72, 73, 74, 75, 76, 77, 78, 79, 80, 81, 82, 83, 84, 85, 86, 87, 88, 89, 90, 91, 92, 93, 94, 95, 96, 97, 98, 108, 109, 110, 111, 112, 113, 114, 115, 116, 117, 118, 119, 120, 121, 122, 123, 124, 125, 126, 127, 128, 129, 130] (by decide +kernel) (by decide +kernel)
set_option maxRecDepth 20000 in
theorem gX7_factor_X7_readSum : GoodIn wsX7_factor (wsV RX7 104 RX7 yX7_readSum wsX7_readSum) := goodIn_app (goodIn_of _ (by decide +kernel)) ggX7_factor_X7_readSum
set_option maxRecDepth 20000 in
theorem ggX7_factor_X7_expect : GoodIn wsX7_factor wsX7_expect := goodIn_r _ [30, 2, 3, 4, 5, 6, 7, 8, 9, 10, 11, 12, 13, 14, 15, 16, 17, 18, 19, 20, 21, 22, 23, 112, 113, 114, 115, 116, 117, 118, 119, 120, 121, 122, 123, 124, 125, 126, 127, 128, 129, 130] (by decide +kernel) (by decide +kernel)
set_option maxRecDepth 20000 in
theorem gX7_factor_X7_expect : GoodIn wsX7_factor (wsV RX7 107 RX7 yX7_expect wsX7_expect) := goodIn_app (goodIn_of _ (by decide +kernel)) ggX7_factor_X7_expect
set_option maxRecDepth 20000 in
theorem ggX7_factor_X7_isDigit : GoodIn wsX7_factor wsX7_isDigit := goodIn_r _ [33, 34, 35, 6, 36] (by decide +kernel) (by decide +kernel)
set_option maxRecDepth 20000 in
theorem gX7_factor_X7_isDigit : GoodIn wsX7_factor (va_wsS RX7 89 yX7_isDigit wsX7_isDigit) := goodIn_app (goodIn_of _ (by decide +kernel)) ggX7_factor_X7_isDigit
set_option maxRecDepth 20000 in
theorem ggX7_factor_X7_takeWord : GoodIn wsX7_factor wsX7_takeWord := goodIn_r _ [40, 2, 3, 4, 5, 6, 7, 8, 9, 10, 11, 12, 13, 14, 15, 16, 17, 18, 41, 42, 43, 44, 45, 46, 47, 48, 49, 50, 51, 52, 53, 54, 55, 56, 57, 58, 59, 60, 61, 62, 63, 64, 65, 66, 67, 68, 69, 70, 71, 72, 73, 74, 75, 76, 77, 78, 79, 80, 81, 82, 83, 84, 85, 86, 87, 88, 89, 34, 35, 36, 112, 113, 114, 115, 116, 117, 118, 119, 120, 121, 122, 123, 124, 125, 126, 127, 128, 129, 130] (by decide +kernel) (by decide +kernel)
set_option maxRecDepth 20000 in
theorem gX7_factor_X7_takeWord : GoodIn wsX7_factor (wsV RX7 113 RX7 yX7_takeWord wsX7_takeWord) := goodIn_app (goodIn_of _ (by decide +kernel)) ggX7_factor_X7_takeWord
set_option maxRecDepth 20000 in
theorem ggX7_factor_X7_number : GoodIn wsX7_factor wsX7_number := goodIn_r _ [93, 2, 94, 95, 3, 4, 5, 6, 7, 8, 9, 10, 11, 12, 13, 14, 15, 16, 17, 18, 31, 32, 33, 34, 35, 36, 19, 20, 21, 22, 23, 96, 97, 98, 112, 113, 114, 115, 116, 117, 118, 119, 120, 121, 122, 123, 124, 125, 126, 127, 128, 129, 130] (by decide +kernel) (by decide +kernel)
set_option maxRecDepth 20000 in
theorem gX7_factor_X7_number : GoodIn wsX7_factor (wsV RX7 123 RX7 yX7_number wsX7_number) := goodIn_app (goodIn_of _ (by decide +kernel)) ggX7_factor_X7_number
set_option maxRecDepth 20000 in
theorem ggX7_factor_X7_emit : GoodIn wsX7_factor wsX7_emit := goodIn_r _ [102, 103, 3, 4, 5, 6, 7, 8, 112, 113, 114, 115, 116, 117, 118, 119, 120, 121, 122, 123, 124, 125, 126, 127, 128, 129, 130] (by decide +kernel) (by decide +kernel)
set_option maxRecDepth 20000 in
theorem gX7_factor_X7_emit : GoodIn wsX7_factor (wsV RX7 126 RX7 yX7_emit wsX7_emit) := goodIn_app (goodIn_of _ (by decide +kernel)) ggX7_factor_X7_emit
theorem dX7_factor_0 : decode cX7_factor 0 = .ok (.aload_n 0, 1) := by decide +kernel
theorem dX7_factor_1 : decode cX7_factor 1 = .ok (.invokevirtual 68, 3) := by decide +kernel
theorem dX7_factor_4 : decode cX7_factor 4 = .ok (.ifCond .ne 4, 3) := by decide +kernel
theorem dX7_factor_7 : decode cX7_factor 7 = .ok (.return_, 1) := by decide +kernel
theorem dX7_factor_8 : decode cX7_factor 8 = .ok (.aload_n 0, 1) := by decide +kernel
theorem dX7_factor_9 : decode cX7_factor 9 = .ok (.invokevirtual 72, 3) := by decide +kernel
theorem dX7_factor_12 : decode cX7_factor 12 = .ok (.istore_n 1, 1) := by decide +kernel
theorem dX7_factor_13 : decode cX7_factor 13 = .ok (.iload_n 1, 1) := by decide +kernel
theorem dX7_factor_14 : decode cX7_factor 14 = .ok (.bipush 40, 2) := by decide +kernel
theorem dX7_factor_16 : decode cX7_factor 16 = .ok (.if_icmp .ne 62, 3) := by decide +kernel
theorem dX7_factor_19 : decode cX7_factor 19 = .ok (.aload_n 0, 1) := by decide +kernel
theorem dX7_factor_20 : decode cX7_factor 20 = .ok (.getfield 101, 3) := by decide +kernel
theorem dX7_factor_23 : decode cX7_factor 23 = .ok (.iconst 4, 1) := by decide +kernel
theorem dX7_factor_24 : decode cX7_factor 24 = .ok (.if_icmp .ne 13, 3) := by decide +kernel
theorem dX7_factor_27 : decode cX7_factor 27 = .ok (.aload_n 0, 1) := by decide +kernel
theorem dX7_factor_28 : decode cX7_factor 28 = .ok (.bipush (-6), 2) := by decide +kernel
theorem dX7_factor_30 : decode cX7_factor 30 = .ok (.aload_n 0, 1) := by decide +kernel
theorem dX7_factor_31 : decode cX7_factor 31 = .ok (.getfield 51, 3) := by decide +kernel
theorem dX7_factor_34 : decode cX7_factor 34 = .ok (.invokevirtual 85, 3) := by decide +kernel
theorem dX7_factor_37 : decode cX7_factor 37 = .ok (.aload_n 0, 1) := by decide +kernel
theorem dX7_factor_38 : decode cX7_factor 38 = .ok (.dup, 1) := by decide +kernel
theorem dX7_factor_39 : decode cX7_factor 39 = .ok (.getfield 51, 3) := by decide +kernel
theorem dX7_factor_42 : decode cX7_factor 42 = .ok (.iconst 1, 1) := by decide +kernel
theorem dX7_factor_43 : decode cX7_factor 43 = .ok (.iadd, 1) := by decide +kernel
theorem dX7_factor_44 : decode cX7_factor 44 = .ok (.putfield 51, 3) := by decide +kernel
theorem dX7_factor_47 : decode cX7_factor 47 = .ok (.aload_n 0, 1) := by decide +kernel
theorem dX7_factor_48 : decode cX7_factor 48 = .ok (.dup, 1) := by decide +kernel
theorem dX7_factor_49 : decode cX7_factor 49 = .ok (.getfield 101, 3) := by decide +kernel
theorem dX7_factor_52 : decode cX7_factor 52 = .ok (.iconst 1, 1) := by decide +kernel
theorem dX7_factor_53 : decode cX7_factor 53 = .ok (.iadd, 1) := by decide +kernel
theorem dX7_factor_54 : decode cX7_factor 54 = .ok (.putfield 101, 3) := by decide +kernel
theorem dX7_factor_57 : decode cX7_factor 57 = .ok (.aload_n 0, 1) := by decide +kernel
theorem dX7_factor_58 : decode cX7_factor 58 = .ok (.invokevirtual 104, 3) := by decide +kernel
theorem dX7_factor_61 : decode cX7_factor 61 = .ok (.aload_n 0, 1) := by decide +kernel
theorem dX7_factor_62 : decode cX7_factor 62 = .ok (.bipush 41, 2) := by decide +kernel
theorem dX7_factor_64 : decode cX7_factor 64 = .ok (.invokevirtual 107, 3) := by decide +kernel
theorem dX7_factor_67 : decode cX7_factor 67 = .ok (.aload_n 0, 1) := by decide +kernel
theorem dX7_factor_68 : decode cX7_factor 68 = .ok (.dup, 1) := by decide +kernel
theorem dX7_factor_69 : decode cX7_factor 69 = .ok (.getfield 101, 3) := by decide +kernel
theorem dX7_factor_72 : decode cX7_factor 72 = .ok (.iconst 1, 1) := by decide +kernel
theorem dX7_factor_73 : decode cX7_factor 73 = .ok (.isub, 1) := by decide +kernel
theorem dX7_factor_74 : decode cX7_factor 74 = .ok (.putfield 101, 3) := by decide +kernel
theorem dX7_factor_77 : decode cX7_factor 77 = .ok (.return_, 1) := by decide +kernel
theorem dX7_factor_78 : decode cX7_factor 78 = .ok (.iload_n 1, 1) := by decide +kernel
theorem dX7_factor_79 : decode cX7_factor 79 = .ok (.invokestatic 89, 3) := by decide +kernel
theorem dX7_factor_82 : decode cX7_factor 82 = .ok (.ifCond .eq 7, 3) := by decide +kernel
theorem dX7_factor_85 : decode cX7_factor 85 = .ok (.iconst (-1), 1) := by decide +kernel
theorem dX7_factor_86 : decode cX7_factor 86 = .ok (.goto 56, 3) := by decide +kernel
theorem dX7_factor_89 : decode cX7_factor 89 = .ok (.aload_n 0, 1) := by decide +kernel
theorem dX7_factor_90 : decode cX7_factor 90 = .ok (.ldc 111, 2) := by decide +kernel
theorem dX7_factor_92 : decode cX7_factor 92 = .ok (.invokevirtual 113, 3) := by decide +kernel
theorem dX7_factor_95 : decode cX7_factor 95 = .ok (.ifCond .eq 7, 3) := by decide +kernel
theorem dX7_factor_98 : decode cX7_factor 98 = .ok (.iconst 0, 1) := by decide +kernel
theorem dX7_factor_99 : decode cX7_factor 99 = .ok (.goto 43, 3) := by decide +kernel
theorem dX7_factor_102 : decode cX7_factor 102 = .ok (.aload_n 0, 1) := by decide +kernel
theorem dX7_factor_103 : decode cX7_factor 103 = .ok (.ldc 117, 2) := by decide +kernel
theorem dX7_factor_105 : decode cX7_factor 105 = .ok (.invokevirtual 113, 3) := by decide +kernel
theorem dX7_factor_108 : decode cX7_factor 108 = .ok (.ifCond .eq 7, 3) := by decide +kernel
theorem dX7_factor_111 : decode cX7_factor 111 = .ok (.iconst 1, 1) := by decide +kernel
theorem dX7_factor_112 : decode cX7_factor 112 = .ok (.goto 30, 3) := by decide +kernel
theorem dX7_factor_115 : decode cX7_factor 115 = .ok (.aload_n 0, 1) := by decide +kernel
theorem dX7_factor_116 : decode cX7_factor 116 = .ok (.ldc 119, 2) := by decide +kernel
theorem dX7_factor_118 : decode cX7_factor 118 = .ok (.invokevirtual 113, 3) := by decide +kernel
theorem dX7_factor_121 : decode cX7_factor 121 = .ok (.ifCond .eq 7, 3) := by decide +kernel
theorem dX7_factor_124 : decode cX7_factor 124 = .ok (.iconst 2, 1) := by decide +kernel
theorem dX7_factor_125 : decode cX7_factor 125 = .ok (.goto 17, 3) := by decide +kernel
theorem dX7_factor_128 : decode cX7_factor 128 = .ok (.aload_n 0, 1) := by decide +kernel
theorem dX7_factor_129 : decode cX7_factor 129 = .ok (.ldc 121, 2) := by decide +kernel
theorem dX7_factor_131 : decode cX7_factor 131 = .ok (.invokevirtual 113, 3) := by decide +kernel
theorem dX7_factor_134 : decode cX7_factor 134 = .ok (.ifCond .eq 7, 3) := by decide +kernel
theorem dX7_factor_137 : decode cX7_factor 137 = .ok (.iconst 3, 1) := by decide +kernel
theorem dX7_factor_138 : decode cX7_factor 138 = .ok (.goto 4, 3) := by decide +kernel
theorem dX7_factor_141 : decode cX7_factor 141 = .ok (.iconst (-1), 1) := by decide +kernel
theorem dX7_factor_142 : decode cX7_factor 142 = .ok (.istore_n 2, 1) := by decide +kernel
theorem dX7_factor_143 : decode cX7_factor 143 = .ok (.iload_n 2, 1) := by decide +kernel
theorem dX7_factor_144 : decode cX7_factor 144 = .ok (.ifCond .ge 14, 3) := by decide +kernel
theorem dX7_factor_147 : decode cX7_factor 147 = .ok (.aload_n 0, 1) := by decide +kernel
theorem dX7_factor_148 : decode cX7_factor 148 = .ok (.iconst 0, 1) := by decide +kernel
theorem dX7_factor_149 : decode cX7_factor 149 = .ok (.sipush 9999, 3) := by decide +kernel
theorem dX7_factor_152 : decode cX7_factor 152 = .ok (.invokevirtual 123, 3) := by decide +kernel
theorem dX7_factor_155 : decode cX7_factor 155 = .ok (.goto 4, 3) := by decide +kernel
theorem dX7_factor_158 : decode cX7_factor 158 = .ok (.iload_n 2, 1) := by decide +kernel
theorem dX7_factor_159 : decode cX7_factor 159 = .ok (.istore_n 3, 1) := by decide +kernel
theorem dX7_factor_160 : decode cX7_factor 160 = .ok (.aload_n 0, 1) := by decide +kernel
theorem dX7_factor_161 : decode cX7_factor 161 = .ok (.iload_n 2, 1) := by decide +kernel
theorem dX7_factor_162 : decode cX7_factor 162 = .ok (.ifCond .ge 7, 3) := by decide +kernel
theorem dX7_factor_165 : decode cX7_factor 165 = .ok (.iconst 0, 1) := by decide +kernel
theorem dX7_factor_166 : decode cX7_factor 166 = .ok (.goto 4, 3) := by decide +kernel
theorem dX7_factor_169 : decode cX7_factor 169 = .ok (.iconst 1, 1) := by decide +kernel
theorem dX7_factor_170 : decode cX7_factor 170 = .ok (.invokevirtual 126, 3) := by decide +kernel
theorem dX7_factor_173 : decode cX7_factor 173 = .ok (.aload_n 0, 1) := by decide +kernel
theorem dX7_factor_174 : decode cX7_factor 174 = .ok (.iload_n 3, 1) := by decide +kernel
theorem dX7_factor_175 : decode cX7_factor 175 = .ok (.invokevirtual 126, 3) := by decide +kernel
theorem dX7_factor_178 : decode cX7_factor 178 = .ok (.return_, 1) := by decide +kernel
set_option maxRecDepth 20000 in
theorem ggX7_term_X7_factor : GoodIn wsX7_term wsX7_factor := goodIn_r _ [26, 27, 1, 6, 7, 8, 5, 9, 10, 11, 12, 13, 14, 15, 16, 17, 18, 19, 20, 28, 29, 30, 31, 32, 33, 34, 35, 36, 37, 38, 39, 40, 41, 42, 43, 44, 45, 46, 47, 48, 49, 50, 51, 52, 53, 54, 55, 56, 57, 58, 59, 60, 61, 62, 63, 64, 65, 66, 67, 68, 69, 70, 71, 72, 73, 74, 75, 76, 77, 78, 79, 80, 81, 82, 83, 84, 85, 86, 87, 88, 89, 90, 91, 92, 93, 94, 95, 96, 97, 98, 99, 100, 101, 102, 103, 104, 105, 106, 107, 21, 22, 23, 24, 25, 108, 109, 110, 111, 0, 2, 3, 4, 112, 113, 114, 115, 116, 117, 118, 119, 120, 121, 122, 123, 124, 125, 126, 127, 128, 129, 130] (by decide +kernel) (by decide +kernel)
set_option maxRecDepth 20000 in
theorem gX7_term_X7_factor : GoodIn wsX7_term (wsV RX7 129 RX7 yX7_factor wsX7_factor) := goodIn_app (goodIn_of _ (by decide +kernel)) ggX7_term_X7_factor
set_option maxRecDepth 20000 in
theorem ggX7_term_X7_isGood : GoodIn wsX7_term wsX7_isGood := goodIn_r _ [9, 10, 112, 113, 114, 115, 116, 117, 118, 119, 120, 121, 122, 123, 124, 125, 126, 127, 128, 129, 130] (by decide +kernel) (by decide +kernel)
set_option maxRecDepth 20000 in
theorem gX7_term_X7_isGood : GoodIn wsX7_term (wsV RX7 68 RX7 yX7_isGood wsX7_isGood) := goodIn_app (goodIn_of _ (by decide +kernel)) ggX7_term_X7_isGood
set_option maxRecDepth 20000 in
theorem ggX7_term_X7_ahead : GoodIn wsX7_term wsX7_ahead := goodIn_r _ [14, 1, 15, 16, 17, 5, 18, 19, 20, 112, 113, 114, 115, 116, 117, 118, 119, 120, 121, 122, 123, 124, 125, 126, 127, 128, 129, 130] (by decide +kernel) (by decide +kernel)
set_option maxRecDepth 20000 in
theorem gX7_term_X7_ahead : GoodIn wsX7_term (wsV RX7 72 RX7 yX7_ahead wsX7_ahead) := goodIn_app (goodIn_of _ (by decide +kernel)) ggX7_term_X7_ahead
set_option maxRecDepth 20000 in
theorem ggX7_term_X7_emit : GoodIn wsX7_term wsX7_emit := goodIn_r _ [24, 25, 6, 7, 8, 5, 9, 10, 112, 113, 114, 115, 116, 117, 118, 119, 120, 121, 122, 123, 124, 125, 126, 127, 128, 129, 130] (by decide +kernel) (by decide +kernel)
set_option maxRecDepth 20000 in
theorem gX7_term_X7_emit : GoodIn wsX7_term (wsV RX7 126 RX7 yX7_emit wsX7_emit) := goodIn_app (goodIn_of _ (by decide +kernel)) ggX7_term_X7_emit
theorem dX7_term_0 : decode cX7_term 0 = .ok (.aload_n 0, 1) := by decide +kernel
theorem dX7_term_1 : decode cX7_term 1 = .ok (.invokevirtual 129, 3) := by decide +kernel
theorem dX7_term_4 : decode cX7_term 4 = .ok (.aload_n 0, 1) := by decide +kernel
theorem dX7_term_5 : decode cX7_term 5 = .ok (.invokevirtual 68, 3) := by decide +kernel
theorem dX7_term_8 : decode cX7_term 8 = .ok (.ifCond .eq 66, 3) := by decide +kernel
theorem dX7_term_11 : decode cX7_term 11 = .ok (.aload_n 0, 1) := by decide +kernel
theorem dX7_term_12 : decode cX7_term 12 = .ok (.invokevirtual 72, 3) := by decide +kernel
theorem dX7_term_15 : decode cX7_term 15 = .ok (.bipush 42, 2) := by decide +kernel
theorem dX7_term_17 : decode cX7_term 17 = .ok (.if_icmp .eq 12, 3) := by decide +kernel
theorem dX7_term_20 : decode cX7_term 20 = .ok (.aload_n 0, 1) := by decide +kernel
theorem dX7_term_21 : decode cX7_term 21 = .ok (.invokevirtual 72, 3) := by decide +kernel
theorem dX7_term_24 : decode cX7_term 24 = .ok (.bipush 47, 2) := by decide +kernel
theorem dX7_term_26 : decode cX7_term 26 = .ok (.if_icmp .ne 48, 3) := by decide +kernel
theorem dX7_term_29 : decode cX7_term 29 = .ok (.aload_n 0, 1) := by decide +kernel
theorem dX7_term_30 : decode cX7_term 30 = .ok (.invokevirtual 72, 3) := by decide +kernel
theorem dX7_term_33 : decode cX7_term 33 = .ok (.bipush 42, 2) := by decide +kernel
theorem dX7_term_35 : decode cX7_term 35 = .ok (.if_icmp .ne 7, 3) := by decide +kernel
theorem dX7_term_38 : decode cX7_term 38 = .ok (.iconst 1, 1) := by decide +kernel
theorem dX7_term_39 : decode cX7_term 39 = .ok (.goto 4, 3) := by decide +kernel
theorem dX7_term_42 : decode cX7_term 42 = .ok (.iconst 0, 1) := by decide +kernel
theorem dX7_term_43 : decode cX7_term 43 = .ok (.istore_n 1, 1) := by decide +kernel
theorem dX7_term_44 : decode cX7_term 44 = .ok (.aload_n 0, 1) := by decide +kernel
theorem dX7_term_45 : decode cX7_term 45 = .ok (.dup, 1) := by decide +kernel
theorem dX7_term_46 : decode cX7_term 46 = .ok (.getfield 51, 3) := by decide +kernel
theorem dX7_term_49 : decode cX7_term 49 = .ok (.iconst 1, 1) := by decide +kernel
theorem dX7_term_50 : decode cX7_term 50 = .ok (.iadd, 1) := by decide +kernel
theorem dX7_term_51 : decode cX7_term 51 = .ok (.putfield 51, 3) := by decide +kernel
theorem dX7_term_54 : decode cX7_term 54 = .ok (.aload_n 0, 1) := by decide +kernel
theorem dX7_term_55 : decode cX7_term 55 = .ok (.invokevirtual 129, 3) := by decide +kernel
theorem dX7_term_58 : decode cX7_term 58 = .ok (.aload_n 0, 1) := by decide +kernel
theorem dX7_term_59 : decode cX7_term 59 = .ok (.iload_n 1, 1) := by decide +kernel
theorem dX7_term_60 : decode cX7_term 60 = .ok (.ifCond .eq 7, 3) := by decide +kernel
theorem dX7_term_63 : decode cX7_term 63 = .ok (.iconst 4, 1) := by decide +kernel
theorem dX7_term_64 : decode cX7_term 64 = .ok (.goto 4, 3) := by decide +kernel
theorem dX7_term_67 : decode cX7_term 67 = .ok (.iconst 5, 1) := by decide +kernel
theorem dX7_term_68 : decode cX7_term 68 = .ok (.invokevirtual 126, 3) := by decide +kernel
theorem dX7_term_71 : decode cX7_term 71 = .ok (.goto (-67), 3) := by decide +kernel
theorem dX7_term_74 : decode cX7_term 74 = .ok (.return_, 1) := by decide +kernel
set_option maxRecDepth 20000 in
theorem ggX7_readSum_X7_term : GoodIn wsX7_readSum wsX7_term := goodIn_r _ [108, 1, 109, 110, 111, 5, 6, 7, 8, 9, 10, 11, 12, 13, 14, 15, 16, 17, 18, 19, 20, 21, 22, 23, 24, 25, 26, 27, 28, 29, 30, 31, 32, 33, 34, 35, 36, 37, 38, 39, 40, 41, 42, 43, 44, 45, 46, 47, 48, 49, 50, 51, 52, 53, 54, 55, 56, 57, 58, 59, 60, 61, 62, 63, 64, 65, 66, 67, 68, 69, 70, 71, 72, 73, 74, 75, 76, 77, 78, 79, 80, 81, 82, 83, 84, 85, 86, 87, 88, 89, 90, 91, 92, 93, 94, 95, 96, 97, 98, 99, 100, 101, 102, 103, 104, 105, 106, 107, 0, 2, 3, 4, 112, 113, 114, 115, 116, 117, 118, 119, 120, 121, 122, 123, 124, 125, 126, 127, 128, 129, 130] (by decide +kernel) (by decide +kernel)
set_option maxRecDepth 20000 in
theorem gX7_readSum_X7_term : GoodIn wsX7_readSum (wsV RX7 132 RX7 yX7_term wsX7_term) := goodIn_app (goodIn_of _ (by decide +kernel)) ggX7_readSum_X7_term
set_option maxRecDepth 20000 in
theorem ggX7_readSum_X7_isGood : GoodIn wsX7_readSum wsX7_isGood := goodIn_r _ [9, 10, 112, 113, 114, 115, 116, 117, 118, 119, 120, 121, 122, 123, 124, 125, 126, 127, 128, 129, 130] (by decide +kernel) (by decide +kernel)
set_option maxRecDepth 20000 in
theorem gX7_readSum_X7_isGood : GoodIn wsX7_readSum (wsV RX7 68 RX7 yX7_isGood wsX7_isGood) := goodIn_app (goodIn_of _ (by decide +kernel)) ggX7_readSum_X7_isGood
set_option maxRecDepth 20000 in
theorem ggX7_readSum_X7_ahead : GoodIn wsX7_readSum wsX7_ahead := goodIn_r _ [14, 1, 15, 16, 17, 5, 18, 19, 20, 112, 113, 114, 115, 116, 117, 118, 119, 120, 121, 122, 123, 124, 125, 126, 127, 128, 129, 130] (by decide +kernel) (by decide +kernel)
set_option maxRecDepth 20000 in
theorem gX7_readSum_X7_ahead : GoodIn wsX7_readSum (wsV RX7 72 RX7 yX7_ahead wsX7_ahead) := goodIn_app (goodIn_of _ (by decide +kernel)) ggX7_readSum_X7_ahead
set_option maxRecDepth 20000 in
theorem ggX7_readSum_X7_emit : GoodIn wsX7_readSum wsX7_emit := goodIn_r _ [24, 25, 6, 7, 8, 5, 9, 10, 112, 113, 114, 115, 116, 117, 118, 119, 120, 121, 122, 123, 124, 125, 126, 127, 128, 129, 130] (by decide +kernel) (by decide +kernel)
set_option maxRecDepth 20000 in
theorem gX7_readSum_X7_emit : GoodIn wsX7_readSum (wsV RX7 126 RX7 yX7_emit wsX7_emit) := goodIn_app (goodIn_of _ (by decide +kernel)) ggX7_readSum_X7_emit
theorem dX7_readSum_0 : decode cX7_readSum 0 = .ok (.aload_n 0, 1) := by decide +kernel
theorem dX7_readSum_1 : decode cX7_readSum 1 = .ok (.invokevirtual 132, 3) := by decide +kernel
theorem dX7_readSum_4 : decode cX7_readSum 4 = .ok (.aload_n 0, 1) := by decide +kernel
theorem dX7_readSum_5 : decode cX7_readSum 5 = .ok (.invokevirtual 68, 3) := by decide +kernel
theorem dX7_readSum_8 : decode cX7_readSum 8 = .ok (.ifCond .eq 66, 3) := by decide +kernel
theorem dX7_readSum_11 : decode cX7_readSum 11 = .ok (.aload_n 0, 1) := by decide +kernel
theorem dX7_readSum_12 : decode cX7_readSum 12 = .ok (.invokevirtual 72, 3) := by decide +kernel
theorem dX7_readSum_15 : decode cX7_readSum 15 = .ok (.bipush 43, 2) := by decide +kernel
theorem dX7_readSum_17 : decode cX7_readSum 17 = .ok (.if_icmp .eq 12, 3) := by decide +kernel
theorem dX7_readSum_20 : decode cX7_readSum 20 = .ok (.aload_n 0, 1) := by decide +kernel
theorem dX7_readSum_21 : decode cX7_readSum 21 = .ok (.invokevirtual 72, 3) := by decide +kernel
theorem dX7_readSum_24 : decode cX7_readSum 24 = .ok (.bipush 45, 2) := by decide +kernel
theorem dX7_readSum_26 : decode cX7_readSum 26 = .ok (.if_icmp .ne 48, 3) := by decide +kernel
theorem dX7_readSum_29 : decode cX7_readSum 29 = .ok (.aload_n 0, 1) := by decide +kernel
theorem dX7_readSum_30 : decode cX7_readSum 30 = .ok (.invokevirtual 72, 3) := by decide +kernel
theorem dX7_readSum_33 : decode cX7_readSum 33 = .ok (.bipush 43, 2) := by decide +kernel
theorem dX7_readSum_35 : decode cX7_readSum 35 = .ok (.if_icmp .ne 7, 3) := by decide +kernel
theorem dX7_readSum_38 : decode cX7_readSum 38 = .ok (.iconst 1, 1) := by decide +kernel
theorem dX7_readSum_39 : decode cX7_readSum 39 = .ok (.goto 4, 3) := by decide +kernel
theorem dX7_readSum_42 : decode cX7_readSum 42 = .ok (.iconst 0, 1) := by decide +kernel
theorem dX7_readSum_43 : decode cX7_readSum 43 = .ok (.istore_n 1, 1) := by decide +kernel
theorem dX7_readSum_44 : decode cX7_readSum 44 = .ok (.aload_n 0, 1) := by decide +kernel
theorem dX7_readSum_45 : decode cX7_readSum 45 = .ok (.dup, 1) := by decide +kernel
theorem dX7_readSum_46 : decode cX7_readSum 46 = .ok (.getfield 51, 3) := by decide +kernel
theorem dX7_readSum_49 : decode cX7_readSum 49 = .ok (.iconst 1, 1) := by decide +kernel
theorem dX7_readSum_50 : decode cX7_readSum 50 = .ok (.iadd, 1) := by decide +kernel
theorem dX7_readSum_51 : decode cX7_readSum 51 = .ok (.putfield 51, 3) := by decide +kernel
theorem dX7_readSum_54 : decode cX7_readSum 54 = .ok (.aload_n 0, 1) := by decide +kernel
theorem dX7_readSum_55 : decode cX7_readSum 55 = .ok (.invokevirtual 132, 3) := by decide +kernel
theorem dX7_readSum_58 : decode cX7_readSum 58 = .ok (.aload_n 0, 1) := by decide +kernel
theorem dX7_readSum_59 : decode cX7_readSum 59 = .ok (.iload_n 1, 1) := by decide +kernel
theorem dX7_readSum_60 : decode cX7_readSum 60 = .ok (.ifCond .eq 7, 3) := by decide +kernel
theorem dX7_readSum_63 : decode cX7_readSum 63 = .ok (.iconst 2, 1) := by decide +kernel
theorem dX7_readSum_64 : decode cX7_readSum 64 = .ok (.goto 4, 3) := by decide +kernel
theorem dX7_readSum_67 : decode cX7_readSum 67 = .ok (.iconst 3, 1) := by decide +kernel
theorem dX7_readSum_68 : decode cX7_readSum 68 = .ok (.invokevirtual 126, 3) := by decide +kernel
theorem dX7_readSum_71 : decode cX7_readSum 71 = .ok (.goto (-67), 3) := by decide +kernel
theorem dX7_readSum_74 : decode cX7_readSum 74 = .ok (.return_, 1) := by decide +kernel
set_option maxRecDepth 20000 in
theorem ggX7_once_X7_report : GoodIn wsX7_once wsX7_report := goodIn_r _ [6, 7, 8, 9, 10, 11, 12, 13, 14, 15, 16, 17, 18, 19, 20, 21, 22, 23, 24, 25, 26, 27] (by decide +kernel) (by decide +kernel)
set_option maxRecDepth 20000 in
theorem gX7_once_X7_report : GoodIn wsX7_once (wsV RX7 85 RX7 yX7_report wsX7_report) := goodIn_app (goodIn_of _ (by decide +kernel)) ggX7_once_X7_report
theorem dX7_once_0 : decode cX7_once 0 = .ok (.aload_n 0, 1) := by decide +kernel
theorem dX7_once_1 : decode cX7_once 1 = .ok (.getfield 135, 3) := by decide +kernel
theorem dX7_once_4 : decode cX7_once 4 = .ok (.iload_n 1, 1) := by decide +kernel
theorem dX7_once_5 : decode cX7_once 5 = .ok (.ishr, 1) := by decide +kernel
theorem dX7_once_6 : decode cX7_once 6 = .ok (.iconst 1, 1) := by decide +kernel
theorem dX7_once_7 : decode cX7_once 7 = .ok (.iand, 1) := by decide +kernel
theorem dX7_once_8 : decode cX7_once 8 = .ok (.iconst 1, 1) := by decide +kernel
theorem dX7_once_9 : decode cX7_once 9 = .ok (.if_icmp .ne 10, 3) := by decide +kernel
theorem dX7_once_12 : decode cX7_once 12 = .ok (.aload_n 0, 1) := by decide +kernel
theorem dX7_once_13 : decode cX7_once 13 = .ok (.bipush (-2), 2) := by decide +kernel
theorem dX7_once_15 : decode cX7_once 15 = .ok (.iload_n 2, 1) := by decide +kernel
theorem dX7_once_16 : decode cX7_once 16 = .ok (.invokevirtual 85, 3) := by decide +kernel
theorem dX7_once_19 : decode cX7_once 19 = .ok (.aload_n 0, 1) := by decide +kernel
theorem dX7_once_20 : decode cX7_once 20 = .ok (.dup, 1) := by decide +kernel
theorem dX7_once_21 : decode cX7_once 21 = .ok (.getfield 135, 3) := by decide +kernel
theorem dX7_once_24 : decode cX7_once 24 = .ok (.iconst 1, 1) := by decide +kernel
theorem dX7_once_25 : decode cX7_once 25 = .ok (.iload_n 1, 1) := by decide +kernel
theorem dX7_once_26 : decode cX7_once 26 = .ok (.ishl, 1) := by decide +kernel
theorem dX7_once_27 : decode cX7_once 27 = .ok (.ior, 1) := by decide +kernel
theorem dX7_once_28 : decode cX7_once 28 = .ok (.putfield 135, 3) := by decide +kernel
theorem dX7_once_31 : decode cX7_once 31 = .ok (.return_, 1) := by decide +kernel
set_option maxRecDepth 20000 in
theorem ggX7_isLine_X7_in : GoodIn wsX7_isLine wsX7_in := goodIn_r _ [4] (by decide +kernel) (by decide +kernel)
set_option maxRecDepth 20000 in
theorem gX7_isLine_X7_in : GoodIn wsX7_isLine (va_wsS RX7 64 yX7_in wsX7_in) := goodIn_app (goodIn_of _ (by decide +kernel)) ggX7_isLine_X7_in
theorem dX7_isLine_0 : decode cX7_isLine 0 = .ok (.iload_n 0, 1) := by decide +kernel
theorem dX7_isLine_1 : decode cX7_isLine 1 = .ok (.bipush 46, 2) := by decide +kernel
theorem dX7_isLine_3 : decode cX7_isLine 3 = .ok (.if_icmp .eq 14, 3) := by decide +kernel
theorem dX7_isLine_6 : decode cX7_isLine 6 = .ok (.iload_n 0, 1) := by decide +kernel
theorem dX7_isLine_7 : decode cX7_isLine 7 = .ok (.bipush 97, 2) := by decide +kernel
theorem dX7_isLine_9 : decode cX7_isLine 9 = .ok (.bipush 122, 2) := by decide +kernel
theorem dX7_isLine_11 : decode cX7_isLine 11 = .ok (.invokestatic 64, 3) := by decide +kernel
theorem dX7_isLine_14 : decode cX7_isLine 14 = .ok (.ifCond .eq 7, 3) := by decide +kernel
theorem dX7_isLine_17 : decode cX7_isLine 17 = .ok (.iconst 1, 1) := by decide +kernel
theorem dX7_isLine_18 : decode cX7_isLine 18 = .ok (.goto 4, 3) := by decide +kernel
theorem dX7_isLine_21 : decode cX7_isLine 21 = .ok (.iconst 0, 1) := by decide +kernel
theorem dX7_isLine_22 : decode cX7_isLine 22 = .ok (.ireturn, 1) := by decide +kernel
set_option maxRecDepth 20000 in
theorem ggX7_readLine_X7_isGood : GoodIn wsX7_readLine wsX7_isGood := goodIn_r _ [7, 8, 30, 31, 32, 33, 34, 35, 36, 37, 38, 39, 40, 41, 42, 43, 44, 45, 46, 47, 48] (by decide +kernel) (by decide +kernel)
set_option maxRecDepth 20000 in
theorem gX7_readLine_X7_isGood : GoodIn wsX7_readLine (wsV RX7 68 RX7 yX7_isGood wsX7_isGood) := goodIn_app (goodIn_of _ (by decide +kernel)) ggX7_readLine_X7_isGood
set_option maxRecDepth 20000 in
theorem ggX7_readLine_X7_ahead : GoodIn wsX7_readLine wsX7_ahead := goodIn_r _ [12, 1, 13, 14, 15, 6, 16, 17, 18, 30, 31, 32, 33, 34, 35, 36, 37, 38, 39, 40, 41, 42, 43, 44, 45, 46, 47, 48] (by decide +kernel) (by decide +kernel)
set_option maxRecDepth 20000 in
theorem gX7_readLine_X7_ahead : GoodIn wsX7_readLine (wsV RX7 72 RX7 yX7_ahead wsX7_ahead) := goodIn_app (goodIn_of _ (by decide +kernel)) ggX7_readLine_X7_ahead
set_option maxRecDepth 20000 in
theorem ggX7_readLine_X7_isLine : GoodIn wsX7_readLine wsX7_isLine := goodIn_r _ [21, 22, 23, 6, 24] (by decide +kernel) (by decide +kernel)
set_option maxRecDepth 20000 in
theorem gX7_readLine_X7_isLine : GoodIn wsX7_readLine (va_wsS RX7 138 yX7_isLine wsX7_isLine) := goodIn_app (goodIn_of _ (by decide +kernel)) ggX7_readLine_X7_isLine
set_option maxRecDepth 20000 in
theorem ggX7_readLine_X7_report : GoodIn wsX7_readLine wsX7_report := goodIn_r _ [28, 8, 29, 30, 31, 32, 33, 34, 35, 36, 37, 38, 39, 40, 41, 42, 43, 44, 45, 46, 47, 48] (by decide +kernel) (by decide +kernel)
set_option maxRecDepth 20000 in
theorem gX7_readLine_X7_report : GoodIn wsX7_readLine (wsV RX7 85 RX7 yX7_report wsX7_report) := goodIn_app (goodIn_of _ (by decide +kernel)) ggX7_readLine_X7_report
set_option maxRecDepth 20000 in
theorem ggX7_readLine_X7_byteAt : GoodIn wsX7_readLine wsX7_byteAt := goodIn_r _ [16, 17, 18, 30, 31, 32, 33, 34, 35, 36, 37, 38, 39, 40, 41, 42, 43, 44, 45, 46, 47, 48] (by decide +kernel) (by decide +kernel)
set_option maxRecDepth 20000 in
theorem gX7_readLine_X7_byteAt : GoodIn wsX7_readLine (wsV RX7 54 RX7 yX7_byteAt wsX7_byteAt) := goodIn_app (goodIn_of _ (by decide +kernel)) ggX7_readLine_X7_byteAt
theorem dX7_readLine_0 : decode cX7_readLine 0 = .ok (.aload_n 0, 1) := by decide +kernel
theorem dX7_readLine_1 : decode cX7_readLine 1 = .ok (.invokevirtual 68, 3) := by decide +kernel
theorem dX7_readLine_4 : decode cX7_readLine 4 = .ok (.ifCond .ne 4, 3) := by decide +kernel
theorem dX7_readLine_7 : decode cX7_readLine 7 = .ok (.return_, 1) := by decide +kernel
theorem dX7_readLine_8 : decode cX7_readLine 8 = .ok (.aload_n 0, 1) := by decide +kernel
theorem dX7_readLine_9 : decode cX7_readLine 9 = .ok (.invokevirtual 72, 3) := by decide +kernel
theorem dX7_readLine_12 : decode cX7_readLine 12 = .ok (.invokestatic 138, 3) := by decide +kernel
theorem dX7_readLine_15 : decode cX7_readLine 15 = .ok (.ifCond .ne 14, 3) := by decide +kernel
theorem dX7_readLine_18 : decode cX7_readLine 18 = .ok (.aload_n 0, 1) := by decide +kernel
theorem dX7_readLine_19 : decode cX7_readLine 19 = .ok (.bipush (-2), 2) := by decide +kernel
theorem dX7_readLine_21 : decode cX7_readLine 21 = .ok (.aload_n 0, 1) := by decide +kernel
theorem dX7_readLine_22 : decode cX7_readLine 22 = .ok (.getfield 51, 3) := by decide +kernel
theorem dX7_readLine_25 : decode cX7_readLine 25 = .ok (.invokevirtual 85, 3) := by decide +kernel
theorem dX7_readLine_28 : decode cX7_readLine 28 = .ok (.return_, 1) := by decide +kernel
theorem dX7_readLine_29 : decode cX7_readLine 29 = .ok (.aload_n 0, 1) := by decide +kernel
theorem dX7_readLine_30 : decode cX7_readLine 30 = .ok (.getfield 51, 3) := by decide +kernel
theorem dX7_readLine_33 : decode cX7_readLine 33 = .ok (.istore_n 3, 1) := by decide +kernel
theorem dX7_readLine_34 : decode cX7_readLine 34 = .ok (.iconst 0, 1) := by decide +kernel
theorem dX7_readLine_35 : decode cX7_readLine 35 = .ok (.istore 4, 2) := by decide +kernel
theorem dX7_readLine_37 : decode cX7_readLine 37 = .ok (.aload_n 0, 1) := by decide +kernel
theorem dX7_readLine_38 : decode cX7_readLine 38 = .ok (.getfield 20, 3) := by decide +kernel
theorem dX7_readLine_41 : decode cX7_readLine 41 = .ok (.iconst 0, 1) := by decide +kernel
theorem dX7_readLine_42 : decode cX7_readLine 42 = .ok (.iaload, 1) := by decide +kernel
theorem dX7_readLine_43 : decode cX7_readLine 43 = .ok (.istore 5, 2) := by decide +kernel
theorem dX7_readLine_45 : decode cX7_readLine 45 = .ok (.aload_n 0, 1) := by decide +kernel
theorem dX7_readLine_46 : decode cX7_readLine 46 = .ok (.iload_n 3, 1) := by decide +kernel
theorem dX7_readLine_47 : decode cX7_readLine 47 = .ok (.iload 4, 2) := by decide +kernel
theorem dX7_readLine_49 : decode cX7_readLine 49 = .ok (.iadd, 1) := by decide +kernel
theorem dX7_readLine_50 : decode cX7_readLine 50 = .ok (.invokevirtual 54, 3) := by decide +kernel
theorem dX7_readLine_53 : decode cX7_readLine 53 = .ok (.invokestatic 138, 3) := by decide +kernel
theorem dX7_readLine_56 : decode cX7_readLine 56 = .ok (.ifCond .eq 9, 3) := by decide +kernel
theorem dX7_readLine_59 : decode cX7_readLine 59 = .ok (.iinc 4 1, 3) := by decide +kernel
theorem dX7_readLine_62 : decode cX7_readLine 62 = .ok (.goto (-17), 3) := by decide +kernel
theorem dX7_readLine_65 : decode cX7_readLine 65 = .ok (.iload 4, 2) := by decide +kernel
theorem dX7_readLine_67 : decode cX7_readLine 67 = .ok (.iload 5, 2) := by decide +kernel
theorem dX7_readLine_69 : decode cX7_readLine 69 = .ok (.if_icmp .eq 10, 3) := by decide +kernel
theorem dX7_readLine_72 : decode cX7_readLine 72 = .ok (.aload_n 0, 1) := by decide +kernel
theorem dX7_readLine_73 : decode cX7_readLine 73 = .ok (.bipush (-4), 2) := by decide +kernel
theorem dX7_readLine_75 : decode cX7_readLine 75 = .ok (.iload_n 3, 1) := by decide +kernel
theorem dX7_readLine_76 : decode cX7_readLine 76 = .ok (.invokevirtual 85, 3) := by decide +kernel
theorem dX7_readLine_79 : decode cX7_readLine 79 = .ok (.iconst 0, 1) := by decide +kernel
theorem dX7_readLine_80 : decode cX7_readLine 80 = .ok (.istore 6, 2) := by decide +kernel
theorem dX7_readLine_82 : decode cX7_readLine 82 = .ok (.iload 6, 2) := by decide +kernel
theorem dX7_readLine_84 : decode cX7_readLine 84 = .ok (.iload 5, 2) := by decide +kernel
theorem dX7_readLine_86 : decode cX7_readLine 86 = .ok (.if_icmp .ge 91, 3) := by decide +kernel
theorem dX7_readLine_89 : decode cX7_readLine 89 = .ok (.aload_n 0, 1) := by decide +kernel
theorem dX7_readLine_90 : decode cX7_readLine 90 = .ok (.invokevirtual 68, 3) := by decide +kernel
theorem dX7_readLine_93 : decode cX7_readLine 93 = .ok (.ifCond .eq 84, 3) := by decide +kernel
theorem dX7_readLine_96 : decode cX7_readLine 96 = .ok (.aload_n 0, 1) := by decide +kernel
theorem dX7_readLine_97 : decode cX7_readLine 97 = .ok (.iload_n 3, 1) := by decide +kernel
theorem dX7_readLine_98 : decode cX7_readLine 98 = .ok (.iload 6, 2) := by decide +kernel
theorem dX7_readLine_100 : decode cX7_readLine 100 = .ok (.iadd, 1) := by decide +kernel
theorem dX7_readLine_101 : decode cX7_readLine 101 = .ok (.invokevirtual 54, 3) := by decide +kernel
theorem dX7_readLine_104 : decode cX7_readLine 104 = .ok (.istore 7, 2) := by decide +kernel
theorem dX7_readLine_106 : decode cX7_readLine 106 = .ok (.iload 7, 2) := by decide +kernel
theorem dX7_readLine_108 : decode cX7_readLine 108 = .ok (.bipush 46, 2) := by decide +kernel
theorem dX7_readLine_110 : decode cX7_readLine 110 = .ok (.if_icmp .ne 25, 3) := by decide +kernel
theorem dX7_readLine_113 : decode cX7_readLine 113 = .ok (.iload_n 1, 1) := by decide +kernel
theorem dX7_readLine_114 : decode cX7_readLine 114 = .ok (.aload_n 0, 1) := by decide +kernel
theorem dX7_readLine_115 : decode cX7_readLine 115 = .ok (.getfield 20, 3) := by decide +kernel
theorem dX7_readLine_118 : decode cX7_readLine 118 = .ok (.iconst 2, 1) := by decide +kernel
theorem dX7_readLine_119 : decode cX7_readLine 119 = .ok (.iaload, 1) := by decide +kernel
theorem dX7_readLine_120 : decode cX7_readLine 120 = .ok (.iconst 1, 1) := by decide +kernel
theorem dX7_readLine_121 : decode cX7_readLine 121 = .ok (.isub, 1) := by decide +kernel
theorem dX7_readLine_122 : decode cX7_readLine 122 = .ok (.if_icmp .ne 13, 3) := by decide +kernel
theorem dX7_readLine_125 : decode cX7_readLine 125 = .ok (.aload_n 0, 1) := by decide +kernel
theorem dX7_readLine_126 : decode cX7_readLine 126 = .ok (.bipush (-4), 2) := by decide +kernel
theorem dX7_readLine_128 : decode cX7_readLine 128 = .ok (.iload_n 3, 1) := by decide +kernel
theorem dX7_readLine_129 : decode cX7_readLine 129 = .ok (.iload 6, 2) := by decide +kernel
theorem dX7_readLine_131 : decode cX7_readLine 131 = .ok (.iadd, 1) := by decide +kernel
theorem dX7_readLine_132 : decode cX7_readLine 132 = .ok (.invokevirtual 85, 3) := by decide +kernel
theorem dX7_readLine_135 : decode cX7_readLine 135 = .ok (.aload_n 0, 1) := by decide +kernel
theorem dX7_readLine_136 : decode cX7_readLine 136 = .ok (.getfield 20, 3) := by decide +kernel
theorem dX7_readLine_139 : decode cX7_readLine 139 = .ok (.bipush 15, 2) := by decide +kernel
theorem dX7_readLine_141 : decode cX7_readLine 141 = .ok (.bipush 96, 2) := by decide +kernel
theorem dX7_readLine_143 : decode cX7_readLine 143 = .ok (.iload_n 1, 1) := by decide +kernel
theorem dX7_readLine_144 : decode cX7_readLine 144 = .ok (.imul, 1) := by decide +kernel
theorem dX7_readLine_145 : decode cX7_readLine 145 = .ok (.iadd, 1) := by decide +kernel
theorem dX7_readLine_146 : decode cX7_readLine 146 = .ok (.iload 5, 2) := by decide +kernel
theorem dX7_readLine_148 : decode cX7_readLine 148 = .ok (.iload_n 2, 1) := by decide +kernel
theorem dX7_readLine_149 : decode cX7_readLine 149 = .ok (.imul, 1) := by decide +kernel
theorem dX7_readLine_150 : decode cX7_readLine 150 = .ok (.iadd, 1) := by decide +kernel
theorem dX7_readLine_151 : decode cX7_readLine 151 = .ok (.iload 6, 2) := by decide +kernel
theorem dX7_readLine_153 : decode cX7_readLine 153 = .ok (.iadd, 1) := by decide +kernel
theorem dX7_readLine_154 : decode cX7_readLine 154 = .ok (.iload 7, 2) := by decide +kernel
theorem dX7_readLine_156 : decode cX7_readLine 156 = .ok (.bipush 46, 2) := by decide +kernel
theorem dX7_readLine_158 : decode cX7_readLine 158 = .ok (.if_icmp .ne 7, 3) := by decide +kernel
theorem dX7_readLine_161 : decode cX7_readLine 161 = .ok (.iconst (-1), 1) := by decide +kernel
theorem dX7_readLine_162 : decode cX7_readLine 162 = .ok (.goto 8, 3) := by decide +kernel
theorem dX7_readLine_165 : decode cX7_readLine 165 = .ok (.iload 7, 2) := by decide +kernel
theorem dX7_readLine_167 : decode cX7_readLine 167 = .ok (.bipush 97, 2) := by decide +kernel
theorem dX7_readLine_169 : decode cX7_readLine 169 = .ok (.isub, 1) := by decide +kernel
theorem dX7_readLine_170 : decode cX7_readLine 170 = .ok (.iastore, 1) := by decide +kernel
theorem dX7_readLine_171 : decode cX7_readLine 171 = .ok (.iinc 6 1, 3) := by decide +kernel
theorem dX7_readLine_174 : decode cX7_readLine 174 = .ok (.goto (-92), 3) := by decide +kernel
theorem dX7_readLine_177 : decode cX7_readLine 177 = .ok (.aload_n 0, 1) := by decide +kernel
theorem dX7_readLine_178 : decode cX7_readLine 178 = .ok (.iload_n 3, 1) := by decide +kernel
theorem dX7_readLine_179 : decode cX7_readLine 179 = .ok (.iload 4, 2) := by decide +kernel
theorem dX7_readLine_181 : decode cX7_readLine 181 = .ok (.iadd, 1) := by decide +kernel
theorem dX7_readLine_182 : decode cX7_readLine 182 = .ok (.putfield 51, 3) := by decide +kernel
theorem dX7_readLine_185 : decode cX7_readLine 185 = .ok (.return_, 1) := by decide +kernel
set_option maxRecDepth 20000 in
theorem ggX7_readPlane_X7_report : GoodIn wsX7_readPlane wsX7_report := goodIn_r _ [7, 8, 9, 35, 36, 37, 38, 39, 40, 41, 42, 43, 44, 45, 46, 47, 48, 49, 50, 51, 52, 53] (by decide +kernel) (by decide +kernel)
set_option maxRecDepth 20000 in
theorem gX7_readPlane_X7_report : GoodIn wsX7_readPlane (wsV RX7 85 RX7 yX7_report wsX7_report) := goodIn_app (goodIn_of _ (by decide +kernel)) ggX7_readPlane_X7_report
set_option maxRecDepth 20000 in
theorem ggX7_readPlane_X7_readLine : GoodIn wsX7_readPlane wsX7_readLine := goodIn_r _ [13, 14, 2, 15, 16, 17, 6, 18, 8, 19, 20, 21, 22, 23, 24, 25, 26, 27, 28, 29, 30, 31, 32, 33, 34, 3, 4, 5, 7, 9, 35, 36, 37, 38, 39, 40, 41, 42, 43, 44, 45, 46, 47, 48, 49, 50, 51, 52, 53] (by decide +kernel) (by decide +kernel)
set_option maxRecDepth 20000 in
theorem gX7_readPlane_X7_readLine : GoodIn wsX7_readPlane (wsV RX7 144 RX7 yX7_readLine wsX7_readLine) := goodIn_app (goodIn_of _ (by decide +kernel)) ggX7_readPlane_X7_readLine
theorem dX7_readPlane_0 : decode cX7_readPlane 0 = .ok (.aload_n 0, 1) := by decide +kernel
theorem dX7_readPlane_1 : decode cX7_readPlane 1 = .ok (.getfield 141, 3) := by decide +kernel
theorem dX7_readPlane_4 : decode cX7_readPlane 4 = .ok (.aload_n 0, 1) := by decide +kernel
theorem dX7_readPlane_5 : decode cX7_readPlane 5 = .ok (.getfield 20, 3) := by decide +kernel
theorem dX7_readPlane_8 : decode cX7_readPlane 8 = .ok (.iconst 2, 1) := by decide +kernel
theorem dX7_readPlane_9 : decode cX7_readPlane 9 = .ok (.iaload, 1) := by decide +kernel
theorem dX7_readPlane_10 : decode cX7_readPlane 10 = .ok (.if_icmp .ne 10, 3) := by decide +kernel
theorem dX7_readPlane_13 : decode cX7_readPlane 13 = .ok (.aload_n 0, 1) := by decide +kernel
theorem dX7_readPlane_14 : decode cX7_readPlane 14 = .ok (.bipush (-5), 2) := by decide +kernel
theorem dX7_readPlane_16 : decode cX7_readPlane 16 = .ok (.iload_n 1, 1) := by decide +kernel
theorem dX7_readPlane_17 : decode cX7_readPlane 17 = .ok (.invokevirtual 85, 3) := by decide +kernel
theorem dX7_readPlane_20 : decode cX7_readPlane 20 = .ok (.iconst 0, 1) := by decide +kernel
theorem dX7_readPlane_21 : decode cX7_readPlane 21 = .ok (.istore_n 2, 1) := by decide +kernel
theorem dX7_readPlane_22 : decode cX7_readPlane 22 = .ok (.iload_n 2, 1) := by decide +kernel
theorem dX7_readPlane_23 : decode cX7_readPlane 23 = .ok (.aload_n 0, 1) := by decide +kernel
theorem dX7_readPlane_24 : decode cX7_readPlane 24 = .ok (.getfield 20, 3) := by decide +kernel
theorem dX7_readPlane_27 : decode cX7_readPlane 27 = .ok (.iconst 1, 1) := by decide +kernel
theorem dX7_readPlane_28 : decode cX7_readPlane 28 = .ok (.iaload, 1) := by decide +kernel
theorem dX7_readPlane_29 : decode cX7_readPlane 29 = .ok (.if_icmp .ge 18, 3) := by decide +kernel
theorem dX7_readPlane_32 : decode cX7_readPlane 32 = .ok (.aload_n 0, 1) := by decide +kernel
theorem dX7_readPlane_33 : decode cX7_readPlane 33 = .ok (.aload_n 0, 1) := by decide +kernel
theorem dX7_readPlane_34 : decode cX7_readPlane 34 = .ok (.getfield 141, 3) := by decide +kernel
theorem dX7_readPlane_37 : decode cX7_readPlane 37 = .ok (.iload_n 2, 1) := by decide +kernel
theorem dX7_readPlane_38 : decode cX7_readPlane 38 = .ok (.invokevirtual 144, 3) := by decide +kernel
theorem dX7_readPlane_41 : decode cX7_readPlane 41 = .ok (.iinc 2 1, 3) := by decide +kernel
theorem dX7_readPlane_44 : decode cX7_readPlane 44 = .ok (.goto (-22), 3) := by decide +kernel
theorem dX7_readPlane_47 : decode cX7_readPlane 47 = .ok (.aload_n 0, 1) := by decide +kernel
theorem dX7_readPlane_48 : decode cX7_readPlane 48 = .ok (.dup, 1) := by decide +kernel
theorem dX7_readPlane_49 : decode cX7_readPlane 49 = .ok (.getfield 141, 3) := by decide +kernel
theorem dX7_readPlane_52 : decode cX7_readPlane 52 = .ok (.iconst 1, 1) := by decide +kernel
theorem dX7_readPlane_53 : decode cX7_readPlane 53 = .ok (.iadd, 1) := by decide +kernel
theorem dX7_readPlane_54 : decode cX7_readPlane 54 = .ok (.putfield 141, 3) := by decide +kernel
theorem dX7_readPlane_57 : decode cX7_readPlane 57 = .ok (.return_, 1) := by decide +kernel
set_option maxRecDepth 20000 in
theorem ggX7_readHole_X7_report : GoodIn wsX7_readHole wsX7_report := goodIn_r _ [6, 7, 8, 39, 40, 41, 42, 43, 44, 45, 46, 47, 48, 49, 50, 51, 52, 53, 54, 55, 56, 57] (by decide +kernel) (by decide +kernel)
set_option maxRecDepth 20000 in
theorem gX7_readHole_X7_report : GoodIn wsX7_readHole (wsV RX7 85 RX7 yX7_report wsX7_report) := goodIn_app (goodIn_of _ (by decide +kernel)) ggX7_readHole_X7_report
set_option maxRecDepth 20000 in
theorem ggX7_readHole_X7_number : GoodIn wsX7_readHole wsX7_number := goodIn_r _ [12, 13, 14, 15, 16, 17, 18, 5, 19, 7, 20, 21, 22, 23, 24, 25, 26, 27, 28, 29, 30, 31, 32, 33, 34, 35, 2, 3, 4, 6, 8, 36, 37, 38, 39, 40, 41, 42, 43, 44, 45, 46, 47, 48, 49, 50, 51, 52, 53, 54, 55, 56, 57] (by decide +kernel) (by decide +kernel)
set_option maxRecDepth 20000 in
theorem gX7_readHole_X7_number : GoodIn wsX7_readHole (wsV RX7 123 RX7 yX7_number wsX7_number) := goodIn_app (goodIn_of _ (by decide +kernel)) ggX7_readHole_X7_number
set_option maxRecDepth 20000 in
theorem ggX7_readHole_X7_isGood : GoodIn wsX7_readHole wsX7_isGood := goodIn_r _ [19, 7, 39, 40, 41, 42, 43, 44, 45, 46, 47, 48, 49, 50, 51, 52, 53, 54, 55, 56, 57] (by decide +kernel) (by decide +kernel)
set_option maxRecDepth 20000 in
theorem gX7_readHole_X7_isGood : GoodIn wsX7_readHole (wsV RX7 68 RX7 yX7_isGood wsX7_isGood) := goodIn_app (goodIn_of _ (by decide +kernel)) ggX7_readHole_X7_isGood
theorem dX7_readHole_0 : decode cX7_readHole 0 = .ok (.aload_n 0, 1) := by decide +kernel
theorem dX7_readHole_1 : decode cX7_readHole 1 = .ok (.getfield 20, 3) := by decide +kernel
theorem dX7_readHole_4 : decode cX7_readHole 4 = .ok (.iconst 3, 1) := by decide +kernel
theorem dX7_readHole_5 : decode cX7_readHole 5 = .ok (.iaload, 1) := by decide +kernel
theorem dX7_readHole_6 : decode cX7_readHole 6 = .ok (.iconst 4, 1) := by decide +kernel
theorem dX7_readHole_7 : decode cX7_readHole 7 = .ok (.if_icmp .ne 10, 3) := by decide +kernel
theorem dX7_readHole_10 : decode cX7_readHole 10 = .ok (.aload_n 0, 1) := by decide +kernel
theorem dX7_readHole_11 : decode cX7_readHole 11 = .ok (.bipush (-5), 2) := by decide +kernel
theorem dX7_readHole_13 : decode cX7_readHole 13 = .ok (.iload_n 1, 1) := by decide +kernel
theorem dX7_readHole_14 : decode cX7_readHole 14 = .ok (.invokevirtual 85, 3) := by decide +kernel
theorem dX7_readHole_17 : decode cX7_readHole 17 = .ok (.aload_n 0, 1) := by decide +kernel
theorem dX7_readHole_18 : decode cX7_readHole 18 = .ok (.iconst 0, 1) := by decide +kernel
theorem dX7_readHole_19 : decode cX7_readHole 19 = .ok (.aload_n 0, 1) := by decide +kernel
theorem dX7_readHole_20 : decode cX7_readHole 20 = .ok (.getfield 20, 3) := by decide +kernel
theorem dX7_readHole_23 : decode cX7_readHole 23 = .ok (.iconst 0, 1) := by decide +kernel
theorem dX7_readHole_24 : decode cX7_readHole 24 = .ok (.iaload, 1) := by decide +kernel
theorem dX7_readHole_25 : decode cX7_readHole 25 = .ok (.iconst 1, 1) := by decide +kernel
theorem dX7_readHole_26 : decode cX7_readHole 26 = .ok (.isub, 1) := by decide +kernel
theorem dX7_readHole_27 : decode cX7_readHole 27 = .ok (.invokevirtual 123, 3) := by decide +kernel
theorem dX7_readHole_30 : decode cX7_readHole 30 = .ok (.istore_n 2, 1) := by decide +kernel
theorem dX7_readHole_31 : decode cX7_readHole 31 = .ok (.aload_n 0, 1) := by decide +kernel
theorem dX7_readHole_32 : decode cX7_readHole 32 = .ok (.iconst 0, 1) := by decide +kernel
theorem dX7_readHole_33 : decode cX7_readHole 33 = .ok (.aload_n 0, 1) := by decide +kernel
theorem dX7_readHole_34 : decode cX7_readHole 34 = .ok (.getfield 20, 3) := by decide +kernel
theorem dX7_readHole_37 : decode cX7_readHole 37 = .ok (.iconst 1, 1) := by decide +kernel
theorem dX7_readHole_38 : decode cX7_readHole 38 = .ok (.iaload, 1) := by decide +kernel
theorem dX7_readHole_39 : decode cX7_readHole 39 = .ok (.iconst 1, 1) := by decide +kernel
theorem dX7_readHole_40 : decode cX7_readHole 40 = .ok (.isub, 1) := by decide +kernel
theorem dX7_readHole_41 : decode cX7_readHole 41 = .ok (.invokevirtual 123, 3) := by decide +kernel
theorem dX7_readHole_44 : decode cX7_readHole 44 = .ok (.istore_n 3, 1) := by decide +kernel
theorem dX7_readHole_45 : decode cX7_readHole 45 = .ok (.aload_n 0, 1) := by decide +kernel
theorem dX7_readHole_46 : decode cX7_readHole 46 = .ok (.invokevirtual 68, 3) := by decide +kernel
theorem dX7_readHole_49 : decode cX7_readHole 49 = .ok (.ifCond .ne 4, 3) := by decide +kernel
theorem dX7_readHole_52 : decode cX7_readHole 52 = .ok (.return_, 1) := by decide +kernel
theorem dX7_readHole_53 : decode cX7_readHole 53 = .ok (.aload_n 0, 1) := by decide +kernel
theorem dX7_readHole_54 : decode cX7_readHole 54 = .ok (.getfield 20, 3) := by decide +kernel
theorem dX7_readHole_57 : decode cX7_readHole 57 = .ok (.sipush 495, 3) := by decide +kernel
theorem dX7_readHole_60 : decode cX7_readHole 60 = .ok (.iconst 2, 1) := by decide +kernel
theorem dX7_readHole_61 : decode cX7_readHole 61 = .ok (.aload_n 0, 1) := by decide +kernel
theorem dX7_readHole_62 : decode cX7_readHole 62 = .ok (.getfield 20, 3) := by decide +kernel
theorem dX7_readHole_65 : decode cX7_readHole 65 = .ok (.iconst 3, 1) := by decide +kernel
theorem dX7_readHole_66 : decode cX7_readHole 66 = .ok (.iaload, 1) := by decide +kernel
theorem dX7_readHole_67 : decode cX7_readHole 67 = .ok (.imul, 1) := by decide +kernel
theorem dX7_readHole_68 : decode cX7_readHole 68 = .ok (.iadd, 1) := by decide +kernel
theorem dX7_readHole_69 : decode cX7_readHole 69 = .ok (.iload_n 2, 1) := by decide +kernel
theorem dX7_readHole_70 : decode cX7_readHole 70 = .ok (.iastore, 1) := by decide +kernel
theorem dX7_readHole_71 : decode cX7_readHole 71 = .ok (.aload_n 0, 1) := by decide +kernel
theorem dX7_readHole_72 : decode cX7_readHole 72 = .ok (.getfield 20, 3) := by decide +kernel
theorem dX7_readHole_75 : decode cX7_readHole 75 = .ok (.sipush 495, 3) := by decide +kernel
theorem dX7_readHole_78 : decode cX7_readHole 78 = .ok (.iconst 2, 1) := by decide +kernel
theorem dX7_readHole_79 : decode cX7_readHole 79 = .ok (.aload_n 0, 1) := by decide +kernel
theorem dX7_readHole_80 : decode cX7_readHole 80 = .ok (.getfield 20, 3) := by decide +kernel
theorem dX7_readHole_83 : decode cX7_readHole 83 = .ok (.iconst 3, 1) := by decide +kernel
theorem dX7_readHole_84 : decode cX7_readHole 84 = .ok (.iaload, 1) := by decide +kernel
theorem dX7_readHole_85 : decode cX7_readHole 85 = .ok (.imul, 1) := by decide +kernel
theorem dX7_readHole_86 : decode cX7_readHole 86 = .ok (.iadd, 1) := by decide +kernel
theorem dX7_readHole_87 : decode cX7_readHole 87 = .ok (.iconst 1, 1) := by decide +kernel
theorem dX7_readHole_88 : decode cX7_readHole 88 = .ok (.iadd, 1) := by decide +kernel
theorem dX7_readHole_89 : decode cX7_readHole 89 = .ok (.iload_n 3, 1) := by decide +kernel
theorem dX7_readHole_90 : decode cX7_readHole 90 = .ok (.iastore, 1) := by decide +kernel
theorem dX7_readHole_91 : decode cX7_readHole 91 = .ok (.aload_n 0, 1) := by decide +kernel
theorem dX7_readHole_92 : decode cX7_readHole 92 = .ok (.getfield 20, 3) := by decide +kernel
theorem dX7_readHole_95 : decode cX7_readHole 95 = .ok (.iconst 3, 1) := by decide +kernel
theorem dX7_readHole_96 : decode cX7_readHole 96 = .ok (.dup2, 1) := by decide +kernel
theorem dX7_readHole_97 : decode cX7_readHole 97 = .ok (.iaload, 1) := by decide +kernel
theorem dX7_readHole_98 : decode cX7_readHole 98 = .ok (.iconst 1, 1) := by decide +kernel
theorem dX7_readHole_99 : decode cX7_readHole 99 = .ok (.iadd, 1) := by decide +kernel
theorem dX7_readHole_100 : decode cX7_readHole 100 = .ok (.iastore, 1) := by decide +kernel
theorem dX7_readHole_101 : decode cX7_readHole 101 = .ok (.return_, 1) := by decide +kernel
set_option maxRecDepth 20000 in
theorem ggX7_kind_X7_isGood : GoodIn wsX7_kind wsX7_isGood := goodIn_r _ [6, 7, 26, 27, 28, 29, 30, 31, 32, 33, 34, 35, 36, 37, 38, 39, 40, 41, 42, 43, 44] (by decide +kernel) (by decide +kernel)
set_option maxRecDepth 20000 in
theorem gX7_kind_X7_isGood : GoodIn wsX7_kind (wsV RX7 68 RX7 yX7_isGood wsX7_isGood) := goodIn_app (goodIn_of _ (by decide +kernel)) ggX7_kind_X7_isGood
set_option maxRecDepth 20000 in
theorem ggX7_kind_X7_ahead : GoodIn wsX7_kind wsX7_ahead := goodIn_r _ [11, 1, 12, 13, 14, 5, 15, 16, 17, 26, 27, 28, 29, 30, 31, 32, 33, 34, 35, 36, 37, 38, 39, 40, 41, 42, 43, 44] (by decide +kernel) (by decide +kernel)
set_option maxRecDepth 20000 in
theorem gX7_kind_X7_ahead : GoodIn wsX7_kind (wsV RX7 72 RX7 yX7_ahead wsX7_ahead) := goodIn_app (goodIn_of _ (by decide +kernel)) ggX7_kind_X7_ahead
set_option maxRecDepth 20000 in
theorem ggX7_kind_X7_byteAt : GoodIn wsX7_kind wsX7_byteAt := goodIn_r _ [15, 16, 17, 26, 27, 28, 29, 30, 31, 32, 33, 34, 35, 36, 37, 38, 39, 40, 41, 42, 43, 44] (by decide +kernel) (by decide +kernel)
set_option maxRecDepth 20000 in
theorem gX7_kind_X7_byteAt : GoodIn wsX7_kind (wsV RX7 54 RX7 yX7_byteAt wsX7_byteAt) := goodIn_app (goodIn_of _ (by decide +kernel)) ggX7_kind_X7_byteAt
set_option maxRecDepth 20000 in
theorem ggX7_kind_X7_in : GoodIn wsX7_kind wsX7_in := goodIn_r _ [20] (by decide +kernel) (by decide +kernel)
set_option maxRecDepth 20000 in
theorem gX7_kind_X7_in : GoodIn wsX7_kind (va_wsS RX7 64 yX7_in wsX7_in) := goodIn_app (goodIn_of _ (by decide +kernel)) ggX7_kind_X7_in
set_option maxRecDepth 20000 in
theorem ggX7_kind_X7_report : GoodIn wsX7_kind wsX7_report := goodIn_r _ [24, 7, 25, 26, 27, 28, 29, 30, 31, 32, 33, 34, 35, 36, 37, 38, 39, 40, 41, 42, 43, 44] (by decide +kernel) (by decide +kernel)
set_option maxRecDepth 20000 in
theorem gX7_kind_X7_report : GoodIn wsX7_kind (wsV RX7 85 RX7 yX7_report wsX7_report) := goodIn_app (goodIn_of _ (by decide +kernel)) ggX7_kind_X7_report
theorem dX7_kind_0 : decode cX7_kind 0 = .ok (.aload_n 0, 1) := by decide +kernel
