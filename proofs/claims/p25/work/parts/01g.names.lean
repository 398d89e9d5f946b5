theorem dX3_readReach_1 : decode cX3_readReach 1 = .ok (.getfield 44, 3) := by decide +kernel
theorem dX3_readReach_4 : decode cX3_readReach 4 = .ok (.ifCond .eq 11, 3) := by decide +kernel
theorem dX3_readReach_7 : decode cX3_readReach 7 = .ok (.aload_n 0, 1) := by decide +kernel
theorem dX3_readReach_8 : decode cX3_readReach 8 = .ok (.bipush (-2), 2) := by decide +kernel
theorem dX3_readReach_10 : decode cX3_readReach 10 = .ok (.iload_n 1, 1) := by decide +kernel
theorem dX3_readReach_11 : decode cX3_readReach 11 = .ok (.invokevirtual 97, 3) := by decide +kernel
theorem dX3_readReach_14 : decode cX3_readReach 14 = .ok (.ireturn, 1) := by decide +kernel
theorem dX3_readReach_15 : decode cX3_readReach 15 = .ok (.aload_n 0, 1) := by decide +kernel
theorem dX3_readReach_16 : decode cX3_readReach 16 = .ok (.iconst 0, 1) := by decide +kernel
theorem dX3_readReach_17 : decode cX3_readReach 17 = .ok (.bipush 9, 2) := by decide +kernel
theorem dX3_readReach_19 : decode cX3_readReach 19 = .ok (.invokevirtual 101, 3) := by decide +kernel
theorem dX3_readReach_22 : decode cX3_readReach 22 = .ok (.ifCond .ne 5, 3) := by decide +kernel
theorem dX3_readReach_25 : decode cX3_readReach 25 = .ok (.iconst 0, 1) := by decide +kernel
theorem dX3_readReach_26 : decode cX3_readReach 26 = .ok (.ireturn, 1) := by decide +kernel
theorem dX3_readReach_27 : decode cX3_readReach 27 = .ok (.aload_n 0, 1) := by decide +kernel
theorem dX3_readReach_28 : decode cX3_readReach 28 = .ok (.iconst 1, 1) := by decide +kernel
theorem dX3_readReach_29 : decode cX3_readReach 29 = .ok (.putfield 44, 3) := by decide +kernel
theorem dX3_readReach_32 : decode cX3_readReach 32 = .ok (.aload_n 0, 1) := by decide +kernel
theorem dX3_readReach_33 : decode cX3_readReach 33 = .ok (.getfield 12, 3) := by decide +kernel
theorem dX3_readReach_36 : decode cX3_readReach 36 = .ok (.getfield 73, 3) := by decide +kernel
theorem dX3_readReach_39 : decode cX3_readReach 39 = .ok (.aload_n 0, 1) := by decide +kernel
theorem dX3_readReach_40 : decode cX3_readReach 40 = .ok (.getfield 38, 3) := by decide +kernel
theorem dX3_readReach_43 : decode cX3_readReach 43 = .ok (.putfield 159, 3) := by decide +kernel
theorem dX3_readReach_46 : decode cX3_readReach 46 = .ok (.iconst 1, 1) := by decide +kernel
theorem dX3_readReach_47 : decode cX3_readReach 47 = .ok (.ireturn, 1) := by decide +kernel
set_option maxRecDepth 20000 in
theorem ggX3_readLength_X3_fail : GoodIn wsX3_readLength wsX3_fail := goodIn_r _ [10, 11, 12, 32, 33, 34, 35, 36, 37, 38, 39, 40, 41, 42, 43] (by decide +kernel) (by decide +kernel)
set_option maxRecDepth 20000 in
theorem gX3_readLength_X3_fail : GoodIn wsX3_readLength (wsV RX3 97 RX3 yX3_fail wsX3_fail) := goodIn_app (goodIn_of _ (by decide +kernel)) ggX3_readLength_X3_fail
set_option maxRecDepth 20000 in
theorem ggX3_readLength_X3_readNumber : GoodIn wsX3_readLength wsX3_readNumber := goodIn_r _ [16, 17, 4, 18, 19, 20, 21, 22, 23, 24, 25, 26, 27, 9, 28, 29, 30, 31, 6, 7, 8, 10, 11, 12, 32, 33, 34, 35, 36, 37, 38, 39, 40, 41, 42, 43] (by decide +kernel) (by decide +kernel)
set_option maxRecDepth 20000 in
theorem gX3_readLength_X3_readNumber : GoodIn wsX3_readLength (wsV RX3 101 RX3 yX3_readNumber wsX3_readNumber) := goodIn_app (goodIn_of _ (by decide +kernel)) ggX3_readLength_X3_readNumber
theorem dX3_readLength_0 : decode cX3_readLength 0 = .ok (.aload_n 0, 1) := by decide +kernel
theorem dX3_readLength_1 : decode cX3_readLength 1 = .ok (.getfield 48, 3) := by decide +kernel
theorem dX3_readLength_4 : decode cX3_readLength 4 = .ok (.ifCond .eq 11, 3) := by decide +kernel
theorem dX3_readLength_7 : decode cX3_readLength 7 = .ok (.aload_n 0, 1) := by decide +kernel
theorem dX3_readLength_8 : decode cX3_readLength 8 = .ok (.bipush (-2), 2) := by decide +kernel
theorem dX3_readLength_10 : decode cX3_readLength 10 = .ok (.iload_n 1, 1) := by decide +kernel
theorem dX3_readLength_11 : decode cX3_readLength 11 = .ok (.invokevirtual 97, 3) := by decide +kernel
theorem dX3_readLength_14 : decode cX3_readLength 14 = .ok (.ireturn, 1) := by decide +kernel
theorem dX3_readLength_15 : decode cX3_readLength 15 = .ok (.aload_n 0, 1) := by decide +kernel
theorem dX3_readLength_16 : decode cX3_readLength 16 = .ok (.iconst 1, 1) := by decide +kernel
theorem dX3_readLength_17 : decode cX3_readLength 17 = .ok (.bipush 20, 2) := by decide +kernel
theorem dX3_readLength_19 : decode cX3_readLength 19 = .ok (.invokevirtual 101, 3) := by decide +kernel
theorem dX3_readLength_22 : decode cX3_readLength 22 = .ok (.ifCond .ne 5, 3) := by decide +kernel
theorem dX3_readLength_25 : decode cX3_readLength 25 = .ok (.iconst 0, 1) := by decide +kernel
theorem dX3_readLength_26 : decode cX3_readLength 26 = .ok (.ireturn, 1) := by decide +kernel
theorem dX3_readLength_27 : decode cX3_readLength 27 = .ok (.aload_n 0, 1) := by decide +kernel
theorem dX3_readLength_28 : decode cX3_readLength 28 = .ok (.iconst 1, 1) := by decide +kernel
theorem dX3_readLength_29 : decode cX3_readLength 29 = .ok (.putfield 48, 3) := by decide +kernel
theorem dX3_readLength_32 : decode cX3_readLength 32 = .ok (.aload_n 0, 1) := by decide +kernel
theorem dX3_readLength_33 : decode cX3_readLength 33 = .ok (.getfield 12, 3) := by decide +kernel
theorem dX3_readLength_36 : decode cX3_readLength 36 = .ok (.getfield 161, 3) := by decide +kernel
theorem dX3_readLength_39 : decode cX3_readLength 39 = .ok (.aload_n 0, 1) := by decide +kernel
theorem dX3_readLength_40 : decode cX3_readLength 40 = .ok (.getfield 38, 3) := by decide +kernel
theorem dX3_readLength_43 : decode cX3_readLength 43 = .ok (.putfield 165, 3) := by decide +kernel
theorem dX3_readLength_46 : decode cX3_readLength 46 = .ok (.iconst 1, 1) := by decide +kernel
theorem dX3_readLength_47 : decode cX3_readLength 47 = .ok (.ireturn, 1) := by decide +kernel
set_option maxRecDepth 20000 in
theorem ggX3_readViewer_X1_isFull : GoodIn wsX3_readViewer wsX1_isFull := goodIn_r _ [8, 9, 71, 72, 73, 74, 75] (by decide +kernel) (by decide +kernel)
set_option maxRecDepth 20000 in
theorem gX3_readViewer_X1_isFull : GoodIn wsX3_readViewer (wsV RX3 170 RX1 yX1_isFull wsX1_isFull) := goodIn_app (goodIn_of _ (by decide +kernel)) ggX3_readViewer_X1_isFull
set_option maxRecDepth 20000 in
theorem ggX3_readViewer_X3_fail : GoodIn wsX3_readViewer wsX3_fail := goodIn_r _ [14, 15, 16, 57, 58, 59, 60, 61, 62, 63, 64, 65, 66, 67, 68] (by decide +kernel) (by decide +kernel)
set_option maxRecDepth 20000 in
theorem gX3_readViewer_X3_fail : GoodIn wsX3_readViewer (wsV RX3 97 RX3 yX3_fail wsX3_fail) := goodIn_app (goodIn_of _ (by decide +kernel)) ggX3_readViewer_X3_fail
set_option maxRecDepth 20000 in
theorem ggX3_readViewer_X3_readNumber : GoodIn wsX3_readViewer wsX3_readNumber := goodIn_r _ [20, 21, 3, 22, 23, 24, 25, 26, 27, 28, 29, 30, 31, 13, 32, 33, 34, 35, 10, 11, 12, 14, 15, 16, 57, 58, 59, 60, 61, 62, 63, 64, 65, 66, 67, 68] (by decide +kernel) (by decide +kernel)
set_option maxRecDepth 20000 in
theorem gX3_readViewer_X3_readNumber : GoodIn wsX3_readViewer (wsV RX3 101 RX3 yX3_readNumber wsX3_readNumber) := goodIn_app (goodIn_of _ (by decide +kernel)) ggX3_readViewer_X3_readNumber
set_option maxRecDepth 20000 in
theorem ggX3_readViewer_X3_readKind : GoodIn wsX3_readViewer wsX3_readKind := goodIn_r _ [39, 21, 3, 22, 23, 29, 30, 31, 13, 32, 40, 41, 42, 10, 11, 12, 14, 15, 16, 57, 58, 59, 60, 61, 62, 63, 64, 65, 66, 67, 68] (by decide +kernel) (by decide +kernel)
set_option maxRecDepth 20000 in
theorem gX3_readViewer_X3_readKind : GoodIn wsX3_readViewer (wsV RX3 173 RX3 yX3_readKind wsX3_readKind) := goodIn_app (goodIn_of _ (by decide +kernel)) ggX3_readViewer_X3_readKind
set_option maxRecDepth 20000 in
theorem ggX3_readViewer_X1_add : GoodIn wsX3_readViewer wsX1_add := goodIn_r _ [46, 9, 47, 5, 6, 7, 8, 48, 49, 50, 51, 52, 53, 54, 55, 56, 71, 72, 73, 74, 75] (by decide +kernel) (by decide +kernel)
set_option maxRecDepth 20000 in
theorem gX3_readViewer_X1_add : GoodIn wsX3_readViewer (wsV RX3 176 RX1 yX1_add wsX1_add) := goodIn_app (goodIn_of _ (by decide +kernel)) ggX3_readViewer_X1_add
theorem dX3_readViewer_0 : decode cX3_readViewer 0 = .ok (.aload_n 0, 1) := by decide +kernel
theorem dX3_readViewer_1 : decode cX3_readViewer 1 = .ok (.getfield 12, 3) := by decide +kernel
theorem dX3_readViewer_4 : decode cX3_readViewer 4 = .ok (.getfield 161, 3) := by decide +kernel
theorem dX3_readViewer_7 : decode cX3_readViewer 7 = .ok (.invokevirtual 170, 3) := by decide +kernel
theorem dX3_readViewer_10 : decode cX3_readViewer 10 = .ok (.ifCond .eq 11, 3) := by decide +kernel
theorem dX3_readViewer_13 : decode cX3_readViewer 13 = .ok (.aload_n 0, 1) := by decide +kernel
theorem dX3_readViewer_14 : decode cX3_readViewer 14 = .ok (.bipush (-5), 2) := by decide +kernel
theorem dX3_readViewer_16 : decode cX3_readViewer 16 = .ok (.iload_n 1, 1) := by decide +kernel
theorem dX3_readViewer_17 : decode cX3_readViewer 17 = .ok (.invokevirtual 97, 3) := by decide +kernel
theorem dX3_readViewer_20 : decode cX3_readViewer 20 = .ok (.ireturn, 1) := by decide +kernel
theorem dX3_readViewer_21 : decode cX3_readViewer 21 = .ok (.aload_n 0, 1) := by decide +kernel
theorem dX3_readViewer_22 : decode cX3_readViewer 22 = .ok (.iconst 0, 1) := by decide +kernel
theorem dX3_readViewer_23 : decode cX3_readViewer 23 = .ok (.bipush 9, 2) := by decide +kernel
theorem dX3_readViewer_25 : decode cX3_readViewer 25 = .ok (.invokevirtual 101, 3) := by decide +kernel
theorem dX3_readViewer_28 : decode cX3_readViewer 28 = .ok (.ifCond .ne 5, 3) := by decide +kernel
theorem dX3_readViewer_31 : decode cX3_readViewer 31 = .ok (.iconst 0, 1) := by decide +kernel
theorem dX3_readViewer_32 : decode cX3_readViewer 32 = .ok (.ireturn, 1) := by decide +kernel
theorem dX3_readViewer_33 : decode cX3_readViewer 33 = .ok (.aload_n 0, 1) := by decide +kernel
theorem dX3_readViewer_34 : decode cX3_readViewer 34 = .ok (.getfield 38, 3) := by decide +kernel
theorem dX3_readViewer_37 : decode cX3_readViewer 37 = .ok (.istore_n 2, 1) := by decide +kernel
theorem dX3_readViewer_38 : decode cX3_readViewer 38 = .ok (.aload_n 0, 1) := by decide +kernel
theorem dX3_readViewer_39 : decode cX3_readViewer 39 = .ok (.invokevirtual 173, 3) := by decide +kernel
theorem dX3_readViewer_42 : decode cX3_readViewer 42 = .ok (.ifCond .ne 5, 3) := by decide +kernel
theorem dX3_readViewer_45 : decode cX3_readViewer 45 = .ok (.iconst 0, 1) := by decide +kernel
theorem dX3_readViewer_46 : decode cX3_readViewer 46 = .ok (.ireturn, 1) := by decide +kernel
theorem dX3_readViewer_47 : decode cX3_readViewer 47 = .ok (.aload_n 0, 1) := by decide +kernel
theorem dX3_readViewer_48 : decode cX3_readViewer 48 = .ok (.getfield 38, 3) := by decide +kernel
theorem dX3_readViewer_51 : decode cX3_readViewer 51 = .ok (.istore_n 3, 1) := by decide +kernel
theorem dX3_readViewer_52 : decode cX3_readViewer 52 = .ok (.aload_n 0, 1) := by decide +kernel
theorem dX3_readViewer_53 : decode cX3_readViewer 53 = .ok (.iconst 0, 1) := by decide +kernel
theorem dX3_readViewer_54 : decode cX3_readViewer 54 = .ok (.sipush 999, 3) := by decide +kernel
theorem dX3_readViewer_57 : decode cX3_readViewer 57 = .ok (.invokevirtual 101, 3) := by decide +kernel
theorem dX3_readViewer_60 : decode cX3_readViewer 60 = .ok (.ifCond .ne 5, 3) := by decide +kernel
theorem dX3_readViewer_63 : decode cX3_readViewer 63 = .ok (.iconst 0, 1) := by decide +kernel
theorem dX3_readViewer_64 : decode cX3_readViewer 64 = .ok (.ireturn, 1) := by decide +kernel
theorem dX3_readViewer_65 : decode cX3_readViewer 65 = .ok (.aload_n 0, 1) := by decide +kernel
theorem dX3_readViewer_66 : decode cX3_readViewer 66 = .ok (.getfield 12, 3) := by decide +kernel
theorem dX3_readViewer_69 : decode cX3_readViewer 69 = .ok (.getfield 161, 3) := by decide +kernel
theorem dX3_readViewer_72 : decode cX3_readViewer 72 = .ok (.iload_n 2, 1) := by decide +kernel
theorem dX3_readViewer_73 : decode cX3_readViewer 73 = .ok (.iload_n 3, 1) := by decide +kernel
theorem dX3_readViewer_74 : decode cX3_readViewer 74 = .ok (.aload_n 0, 1) := by decide +kernel
theorem dX3_readViewer_75 : decode cX3_readViewer 75 = .ok (.getfield 38, 3) := by decide +kernel
theorem dX3_readViewer_78 : decode cX3_readViewer 78 = .ok (.invokevirtual 176, 3) := by decide +kernel
theorem dX3_readViewer_81 : decode cX3_readViewer 81 = .ok (.iconst 1, 1) := by decide +kernel
theorem dX3_readViewer_82 : decode cX3_readViewer 82 = .ok (.ireturn, 1) := by decide +kernel
set_option maxRecDepth 20000 in
theorem ggX3_readPrice_X3_fail : GoodIn wsX3_readPrice wsX3_fail := goodIn_r _ [9, 10, 11, 120, 121, 122, 123, 124, 125, 126, 127, 128, 129, 130, 131] (by decide +kernel) (by decide +kernel)
set_option maxRecDepth 20000 in
theorem gX3_readPrice_X3_fail : GoodIn wsX3_readPrice (wsV RX3 97 RX3 yX3_fail wsX3_fail) := goodIn_app (goodIn_of _ (by decide +kernel)) ggX3_readPrice_X3_fail
set_option maxRecDepth 20000 in
theorem ggX3_readPrice_X2_clear : GoodIn wsX3_readPrice wsX2_clear := goodIn_r _ [16, 17, 144, 145, 146] (by decide +kernel) (by decide +kernel)
set_option maxRecDepth 20000 in
theorem gX3_readPrice_X2_clear : GoodIn wsX3_readPrice (wsV RX3 182 RX2 yX2_clear wsX2_clear) := goodIn_app (goodIn_of _ (by decide +kernel)) ggX3_readPrice_X2_clear
set_option maxRecDepth 20000 in
theorem ggX3_readPrice_X3_readSum : GoodIn wsX3_readPrice wsX3_readSum := goodIn_r _ [21, 22, 2, 3, 4, 23, 24, 25, 8, 26, 27, 28, 15, 29, 30, 31, 32, 33, 17, 34, 35, 36, 37, 38, 39, 40, 41, 42, 43, 44, 45, 46, 5, 6, 7, 9, 10, 11, 18, 19, 20, 47, 48, 49, 50, 51, 52, 53, 54, 55, 56, 57, 58, 59, 60, 61, 62, 63, 64, 65, 66, 67, 68, 69, 70, 71, 72, 73, 74, 75, 76, 77, 78, 79, 80, 81, 82, 83, 84, 85, 86, 87, 88, 89, 90, 91, 92, 93, 94, 95, 96, 97, 98, 99, 100, 101, 102, 103, 104, 105, 106, 107, 108, 109, 110, 111, 112, 113, 114, 115, 116, 117, 118, 119, 120, 121, 122, 123, 124, 125, 126, 127, 128, 129, 130, 131, 132, 133, 134, 135, 136, 137, 138, 139, 140, 141, 142, 143, 147, 148, 149, 150, 144, 145, 146] (by decide +kernel) (by decide +kernel)
set_option maxRecDepth 20000 in
theorem gX3_readPrice_X3_readSum : GoodIn wsX3_readPrice (wsV RX3 187 RX3 yX3_readSum wsX3_readSum) := goodIn_app (goodIn_of _ (by decide +kernel)) ggX3_readPrice_X3_readSum
theorem dX3_readPrice_0 : decode cX3_readPrice 0 = .ok (.aload_n 0, 1) := by decide +kernel
theorem dX3_readPrice_1 : decode cX3_readPrice 1 = .ok (.getfield 51, 3) := by decide +kernel
theorem dX3_readPrice_4 : decode cX3_readPrice 4 = .ok (.ifCond .eq 11, 3) := by decide +kernel
theorem dX3_readPrice_7 : decode cX3_readPrice 7 = .ok (.aload_n 0, 1) := by decide +kernel
theorem dX3_readPrice_8 : decode cX3_readPrice 8 = .ok (.bipush (-2), 2) := by decide +kernel
theorem dX3_readPrice_10 : decode cX3_readPrice 10 = .ok (.iload_n 1, 1) := by decide +kernel
theorem dX3_readPrice_11 : decode cX3_readPrice 11 = .ok (.invokevirtual 97, 3) := by decide +kernel
theorem dX3_readPrice_14 : decode cX3_readPrice 14 = .ok (.ireturn, 1) := by decide +kernel
theorem dX3_readPrice_15 : decode cX3_readPrice 15 = .ok (.aload_n 0, 1) := by decide +kernel
theorem dX3_readPrice_16 : decode cX3_readPrice 16 = .ok (.iconst 1, 1) := by decide +kernel
theorem dX3_readPrice_17 : decode cX3_readPrice 17 = .ok (.putfield 51, 3) := by decide +kernel
theorem dX3_readPrice_20 : decode cX3_readPrice 20 = .ok (.aload_n 0, 1) := by decide +kernel
theorem dX3_readPrice_21 : decode cX3_readPrice 21 = .ok (.getfield 12, 3) := by decide +kernel
theorem dX3_readPrice_24 : decode cX3_readPrice 24 = .ok (.getfield 73, 3) := by decide +kernel
theorem dX3_readPrice_27 : decode cX3_readPrice 27 = .ok (.getfield 179, 3) := by decide +kernel
theorem dX3_readPrice_30 : decode cX3_readPrice 30 = .ok (.invokevirtual 182, 3) := by decide +kernel
theorem dX3_readPrice_33 : decode cX3_readPrice 33 = .ok (.aload_n 0, 1) := by decide +kernel
theorem dX3_readPrice_34 : decode cX3_readPrice 34 = .ok (.iconst 0, 1) := by decide +kernel
theorem dX3_readPrice_35 : decode cX3_readPrice 35 = .ok (.invokevirtual 187, 3) := by decide +kernel
theorem dX3_readPrice_38 : decode cX3_readPrice 38 = .ok (.ireturn, 1) := by decide +kernel
set_option maxRecDepth 20000 in
theorem ggX3_readSum_X3_readFactor : GoodIn wsX3_readSum wsX3_readFactor := goodIn_r _ [30, 24, 31, 2, 3, 4, 25, 26, 27, 8, 28, 1, 29, 32, 33, 34, 35, 36, 37, 38, 39, 40, 41, 42, 43, 44, 45, 46, 47, 48, 49, 50, 51, 52, 53, 54, 55, 56, 57, 58, 59, 60, 61, 62, 63, 64, 65, 66, 67, 68, 69, 70, 71, 72, 73, 74, 75, 76, 77, 78, 79, 80, 81, 82, 83, 84, 85, 86, 87, 88, 89, 90, 91, 92, 93, 94, 95, 96, 97, 98, 99, 100, 101, 102, 103, 104, 105, 106, 107, 108, 109, 110, 111, 112, 113, 15, 16, 12, 17, 18, 19, 0, 5, 6, 7, 9, 10, 11, 13, 14, 20, 21, 22, 23, 114, 115, 116, 117, 118, 119, 120, 121, 122, 123, 124, 125, 126, 127, 128, 129, 130, 131, 132, 133, 134, 135, 136, 137, 138, 139, 140, 141, 142, 143, 144] (by decide +kernel) (by decide +kernel)
set_option maxRecDepth 20000 in
theorem gX3_readSum_X3_readFactor : GoodIn wsX3_readSum (wsV RX3 190 RX3 yX3_readFactor wsX3_readFactor) := goodIn_app (goodIn_of _ (by decide +kernel)) ggX3_readSum_X3_readFactor
set_option maxRecDepth 20000 in
theorem ggX3_readSum_X2_addOperation : GoodIn wsX3_readSum wsX2_addOperation := goodIn_r _ [13, 14, 15, 16, 12, 17, 18, 19, 142, 143, 144] (by decide +kernel) (by decide +kernel)
set_option maxRecDepth 20000 in
theorem gX3_readSum_X2_addOperation : GoodIn wsX3_readSum (wsV RX3 193 RX2 yX2_addOperation wsX2_addOperation) := goodIn_app (goodIn_of _ (by decide +kernel)) ggX3_readSum_X2_addOperation
set_option maxRecDepth 20000 in
theorem ggX3_readSum_X3_takesEither : GoodIn wsX3_readSum wsX3_takesEither := goodIn_r _ [23, 24, 25, 26, 27, 8, 28, 1, 29, 114, 115, 116, 117, 118, 119, 120, 121, 122, 123, 124, 125] (by decide +kernel) (by decide +kernel)
set_option maxRecDepth 20000 in
theorem gX3_readSum_X3_takesEither : GoodIn wsX3_readSum (wsV RX3 196 RX3 yX3_takesEither wsX3_takesEither) := goodIn_app (goodIn_of _ (by decide +kernel)) ggX3_readSum_X3_takesEither
theorem dX3_readSum_0 : decode cX3_readSum 0 = .ok (.iconst 0, 1) := by decide +kernel
theorem dX3_readSum_1 : decode cX3_readSum 1 = .ok (.istore_n 2, 1) := by decide +kernel
theorem dX3_readSum_2 : decode cX3_readSum 2 = .ok (.iconst 0, 1) := by decide +kernel
theorem dX3_readSum_3 : decode cX3_readSum 3 = .ok (.istore_n 3, 1) := by decide +kernel
theorem dX3_readSum_4 : decode cX3_readSum 4 = .ok (.iconst 0, 1) := by decide +kernel
theorem dX3_readSum_5 : decode cX3_readSum 5 = .ok (.istore 4, 2) := by decide +kernel
theorem dX3_readSum_7 : decode cX3_readSum 7 = .ok (.iload 4, 2) := by decide +kernel
theorem dX3_readSum_9 : decode cX3_readSum 9 = .ok (.aload_n 0, 1) := by decide +kernel
theorem dX3_readSum_10 : decode cX3_readSum 10 = .ok (.getfield 32, 3) := by decide +kernel
theorem dX3_readSum_13 : decode cX3_readSum 13 = .ok (.if_icmp .ge 75, 3) := by decide +kernel
theorem dX3_readSum_16 : decode cX3_readSum 16 = .ok (.aload_n 0, 1) := by decide +kernel
theorem dX3_readSum_17 : decode cX3_readSum 17 = .ok (.iload_n 1, 1) := by decide +kernel
theorem dX3_readSum_18 : decode cX3_readSum 18 = .ok (.invokevirtual 190, 3) := by decide +kernel
theorem dX3_readSum_21 : decode cX3_readSum 21 = .ok (.ifCond .ne 5, 3) := by decide +kernel
theorem dX3_readSum_24 : decode cX3_readSum 24 = .ok (.iconst 0, 1) := by decide +kernel
theorem dX3_readSum_25 : decode cX3_readSum 25 = .ok (.ireturn, 1) := by decide +kernel
theorem dX3_readSum_26 : decode cX3_readSum 26 = .ok (.aload_n 0, 1) := by decide +kernel
theorem dX3_readSum_27 : decode cX3_readSum 27 = .ok (.getfield 12, 3) := by decide +kernel
theorem dX3_readSum_30 : decode cX3_readSum 30 = .ok (.getfield 73, 3) := by decide +kernel
theorem dX3_readSum_33 : decode cX3_readSum 33 = .ok (.getfield 179, 3) := by decide +kernel
theorem dX3_readSum_36 : decode cX3_readSum 36 = .ok (.iload_n 3, 1) := by decide +kernel
theorem dX3_readSum_37 : decode cX3_readSum 37 = .ok (.invokevirtual 193, 3) := by decide +kernel
theorem dX3_readSum_40 : decode cX3_readSum 40 = .ok (.aload_n 0, 1) := by decide +kernel
theorem dX3_readSum_41 : decode cX3_readSum 41 = .ok (.bipush 42, 2) := by decide +kernel
theorem dX3_readSum_43 : decode cX3_readSum 43 = .ok (.bipush 47, 2) := by decide +kernel
theorem dX3_readSum_45 : decode cX3_readSum 45 = .ok (.invokevirtual 196, 3) := by decide +kernel
theorem dX3_readSum_48 : decode cX3_readSum 48 = .ok (.istore_n 3, 1) := by decide +kernel
theorem dX3_readSum_49 : decode cX3_readSum 49 = .ok (.iload_n 3, 1) := by decide +kernel
theorem dX3_readSum_50 : decode cX3_readSum 50 = .ok (.ifCond .ne 32, 3) := by decide +kernel
theorem dX3_readSum_53 : decode cX3_readSum 53 = .ok (.aload_n 0, 1) := by decide +kernel
theorem dX3_readSum_54 : decode cX3_readSum 54 = .ok (.getfield 12, 3) := by decide +kernel
theorem dX3_readSum_57 : decode cX3_readSum 57 = .ok (.getfield 73, 3) := by decide +kernel
theorem dX3_readSum_60 : decode cX3_readSum 60 = .ok (.getfield 179, 3) := by decide +kernel
theorem dX3_readSum_63 : decode cX3_readSum 63 = .ok (.iload_n 2, 1) := by decide +kernel
theorem dX3_readSum_64 : decode cX3_readSum 64 = .ok (.invokevirtual 193, 3) := by decide +kernel
theorem dX3_readSum_67 : decode cX3_readSum 67 = .ok (.aload_n 0, 1) := by decide +kernel
theorem dX3_readSum_68 : decode cX3_readSum 68 = .ok (.bipush 43, 2) := by decide +kernel
theorem dX3_readSum_70 : decode cX3_readSum 70 = .ok (.bipush 45, 2) := by decide +kernel
theorem dX3_readSum_72 : decode cX3_readSum 72 = .ok (.invokevirtual 196, 3) := by decide +kernel
theorem dX3_readSum_75 : decode cX3_readSum 75 = .ok (.istore_n 2, 1) := by decide +kernel
theorem dX3_readSum_76 : decode cX3_readSum 76 = .ok (.iload_n 2, 1) := by decide +kernel
theorem dX3_readSum_77 : decode cX3_readSum 77 = .ok (.ifCond .ne 5, 3) := by decide +kernel
theorem dX3_readSum_80 : decode cX3_readSum 80 = .ok (.iconst 1, 1) := by decide +kernel
theorem dX3_readSum_81 : decode cX3_readSum 81 = .ok (.ireturn, 1) := by decide +kernel
theorem dX3_readSum_82 : decode cX3_readSum 82 = .ok (.iinc 4 1, 3) := by decide +kernel
theorem dX3_readSum_85 : decode cX3_readSum 85 = .ok (.goto (-78), 3) := by decide +kernel
theorem dX3_readSum_88 : decode cX3_readSum 88 = .ok (.iconst 1, 1) := by decide +kernel
theorem dX3_readSum_89 : decode cX3_readSum 89 = .ok (.ireturn, 1) := by decide +kernel
set_option maxRecDepth 20000 in
theorem ggX3_takesEither_X3_peek : GoodIn wsX3_takesEither wsX3_peek := goodIn_r _ [6, 1, 7, 8, 9, 10, 11, 12, 13, 14, 15, 16, 17, 18, 19, 20] (by decide +kernel) (by decide +kernel)
set_option maxRecDepth 20000 in
theorem gX3_takesEither_X3_peek : GoodIn wsX3_takesEither (wsV RX3 62 RX3 yX3_peek wsX3_peek) := goodIn_app (goodIn_of _ (by decide +kernel)) ggX3_takesEither_X3_peek
theorem dX3_takesEither_0 : decode cX3_takesEither 0 = .ok (.aload_n 0, 1) := by decide +kernel
theorem dX3_takesEither_1 : decode cX3_takesEither 1 = .ok (.invokevirtual 62, 3) := by decide +kernel
theorem dX3_takesEither_4 : decode cX3_takesEither 4 = .ok (.istore_n 3, 1) := by decide +kernel
theorem dX3_takesEither_5 : decode cX3_takesEither 5 = .ok (.iload_n 3, 1) := by decide +kernel
theorem dX3_takesEither_6 : decode cX3_takesEither 6 = .ok (.iload_n 1, 1) := by decide +kernel
theorem dX3_takesEither_7 : decode cX3_takesEither 7 = .ok (.if_icmp .eq 10, 3) := by decide +kernel
theorem dX3_takesEither_10 : decode cX3_takesEither 10 = .ok (.iload_n 3, 1) := by decide +kernel
theorem dX3_takesEither_11 : decode cX3_takesEither 11 = .ok (.iload_n 2, 1) := by decide +kernel
theorem dX3_takesEither_12 : decode cX3_takesEither 12 = .ok (.if_icmp .eq 5, 3) := by decide +kernel
theorem dX3_takesEither_15 : decode cX3_takesEither 15 = .ok (.iconst 0, 1) := by decide +kernel
theorem dX3_takesEither_16 : decode cX3_takesEither 16 = .ok (.ireturn, 1) := by decide +kernel
theorem dX3_takesEither_17 : decode cX3_takesEither 17 = .ok (.aload_n 0, 1) := by decide +kernel
theorem dX3_takesEither_18 : decode cX3_takesEither 18 = .ok (.dup, 1) := by decide +kernel
theorem dX3_takesEither_19 : decode cX3_takesEither 19 = .ok (.getfield 35, 3) := by decide +kernel
theorem dX3_takesEither_22 : decode cX3_takesEither 22 = .ok (.iconst 1, 1) := by decide +kernel
theorem dX3_takesEither_23 : decode cX3_takesEither 23 = .ok (.iadd, 1) := by decide +kernel
theorem dX3_takesEither_24 : decode cX3_takesEither 24 = .ok (.putfield 35, 3) := by decide +kernel
theorem dX3_takesEither_27 : decode cX3_takesEither 27 = .ok (.iload_n 3, 1) := by decide +kernel
theorem dX3_takesEither_28 : decode cX3_takesEither 28 = .ok (.ireturn, 1) := by decide +kernel
set_option maxRecDepth 20000 in
theorem ggX3_readFactor_X3_peek : GoodIn wsX3_readFactor wsX3_peek := goodIn_r _ [10, 1, 11, 12, 114, 115, 116, 117, 118, 119, 120, 121, 122, 123, 124, 125] (by decide +kernel) (by decide +kernel)
set_option maxRecDepth 20000 in
theorem gX3_readFactor_X3_peek : GoodIn wsX3_readFactor (wsV RX3 62 RX3 yX3_peek wsX3_peek) := goodIn_app (goodIn_of _ (by decide +kernel)) ggX3_readFactor_X3_peek
set_option maxRecDepth 20000 in
theorem ggX3_readFactor_X3_fail : GoodIn wsX3_readFactor wsX3_fail := goodIn_r _ [16, 17, 18, 114, 115, 116, 117, 118, 119, 120, 121, 122, 123, 124, 125] (by decide +kernel) (by decide +kernel)
set_option maxRecDepth 20000 in
theorem gX3_readFactor_X3_fail : GoodIn wsX3_readFactor (wsV RX3 97 RX3 yX3_fail wsX3_fail) := goodIn_app (goodIn_of _ (by decide +kernel)) ggX3_readFactor_X3_fail
set_option maxRecDepth 20000 in
theorem ggX3_readFactor_X3_readSum : GoodIn wsX3_readFactor wsX3_readSum := goodIn_r _ [101, 11, 3, 4, 5, 102, 103, 104, 9, 105, 106, 107, 97, 108, 109, 95, 96, 98, 99, 100, 110, 111, 112, 113, 1, 6, 7, 8, 10, 12, 0, 2, 13, 14, 15, 16, 17, 18, 19, 20, 21, 22, 23, 24, 25, 26, 27, 28, 29, 30, 31, 32, 33, 34, 35, 36, 37, 38, 39, 40, 41, 42, 43, 44, 45, 46, 47, 48, 49, 50, 51, 52, 53, 54, 55, 56, 57, 58, 59, 60, 61, 62, 63, 64, 65, 66, 67, 68, 69, 70, 71, 72, 73, 74, 75, 76, 77, 78, 79, 80, 81, 82, 83, 84, 85, 86, 87, 88, 89, 90, 91, 92, 93, 94, 114, 115, 116, 117, 118, 119, 120, 121, 122, 123, 124, 125, 126, 127, 128, 129, 130, 131, 132, 133, 134, 135, 136, 137, 138, 139, 140, 141, 142, 143, 144] (by decide +kernel) (by decide +kernel)
set_option maxRecDepth 20000 in
theorem gX3_readFactor_X3_readSum : GoodIn wsX3_readFactor (wsV RX3 187 RX3 yX3_readSum wsX3_readSum) := goodIn_app (goodIn_of _ (by decide +kernel)) ggX3_readFactor_X3_readSum
set_option maxRecDepth 20000 in
theorem ggX3_readFactor_X3_readSign : GoodIn wsX3_readFactor wsX3_readSign := goodIn_r _ [25, 1, 6, 7, 8, 9, 10, 11, 12, 13, 14, 15, 16, 17, 18, 114, 115, 116, 117, 118, 119, 120, 121, 122, 123, 124, 125] (by decide +kernel) (by decide +kernel)
set_option maxRecDepth 20000 in
theorem gX3_readFactor_X3_readSign : GoodIn wsX3_readFactor (wsV RX3 69 RX3 yX3_readSign wsX3_readSign) := goodIn_app (goodIn_of _ (by decide +kernel)) ggX3_readFactor_X3_readSign
set_option maxRecDepth 20000 in
theorem ggX3_readFactor_X3_takesWord : GoodIn wsX3_readFactor wsX3_takesWord := goodIn_r _ [29, 1, 11, 12, 30, 31, 32, 33, 34, 35, 36, 37, 38, 39, 40, 41, 42, 43, 44, 45, 46, 47, 48, 49, 50, 51, 52, 53, 54, 55, 56, 57, 58, 59, 60, 61, 62, 63, 64, 65, 66, 67, 68, 69, 70, 71, 72, 73, 74, 75, 76, 77, 78, 79, 80, 9, 81, 114, 115, 116, 117, 118, 119, 120, 121, 122, 123, 124, 125, 138, 139, 140, 141] (by decide +kernel) (by decide +kernel)
set_option maxRecDepth 20000 in
theorem gX3_readFactor_X3_takesWord : GoodIn wsX3_readFactor (wsV RX3 93 RX3 yX3_takesWord wsX3_takesWord) := goodIn_app (goodIn_of _ (by decide +kernel)) ggX3_readFactor_X3_takesWord
set_option maxRecDepth 20000 in
theorem ggX3_readFactor_X3_readNumber : GoodIn wsX3_readFactor wsX3_readNumber := goodIn_r _ [85, 1, 2, 11, 12, 86, 87, 88, 89, 90, 6, 7, 8, 9, 10, 91, 92, 93, 13, 14, 15, 16, 17, 18, 114, 115, 116, 117, 118, 119, 120, 121, 122, 123, 124, 125] (by decide +kernel) (by decide +kernel)
set_option maxRecDepth 20000 in
theorem gX3_readFactor_X3_readNumber : GoodIn wsX3_readFactor (wsV RX3 101 RX3 yX3_readNumber wsX3_readNumber) := goodIn_app (goodIn_of _ (by decide +kernel)) ggX3_readFactor_X3_readNumber
set_option maxRecDepth 20000 in
theorem ggX3_readFactor_X2_add : GoodIn wsX3_readFactor wsX2_add := goodIn_r _ [98, 99, 100, 142, 143, 144] (by decide +kernel) (by decide +kernel)
set_option maxRecDepth 20000 in
theorem gX3_readFactor_X2_add : GoodIn wsX3_readFactor (wsV RX3 205 RX2 yX2_add wsX2_add) := goodIn_app (goodIn_of _ (by decide +kernel)) ggX3_readFactor_X2_add
theorem dX3_readFactor_0 : decode cX3_readFactor 0 = .ok (.aload_n 0, 1) := by decide +kernel
theorem dX3_readFactor_1 : decode cX3_readFactor 1 = .ok (.invokevirtual 62, 3) := by decide +kernel
theorem dX3_readFactor_4 : decode cX3_readFactor 4 = .ok (.istore_n 2, 1) := by decide +kernel
theorem dX3_readFactor_5 : decode cX3_readFactor 5 = .ok (.iload_n 2, 1) := by decide +kernel
theorem dX3_readFactor_6 : decode cX3_readFactor 6 = .ok (.bipush 40, 2) := by decide +kernel
theorem dX3_readFactor_8 : decode cX3_readFactor 8 = .ok (.if_icmp .ne 54, 3) := by decide +kernel
theorem dX3_readFactor_11 : decode cX3_readFactor 11 = .ok (.iload_n 1, 1) := by decide +kernel
theorem dX3_readFactor_12 : decode cX3_readFactor 12 = .ok (.iconst 4, 1) := by decide +kernel
theorem dX3_readFactor_13 : decode cX3_readFactor 13 = .ok (.if_icmp .lt 14, 3) := by decide +kernel
theorem dX3_readFactor_16 : decode cX3_readFactor 16 = .ok (.aload_n 0, 1) := by decide +kernel
theorem dX3_readFactor_17 : decode cX3_readFactor 17 = .ok (.bipush (-6), 2) := by decide +kernel
theorem dX3_readFactor_19 : decode cX3_readFactor 19 = .ok (.aload_n 0, 1) := by decide +kernel
theorem dX3_readFactor_20 : decode cX3_readFactor 20 = .ok (.getfield 35, 3) := by decide +kernel
theorem dX3_readFactor_23 : decode cX3_readFactor 23 = .ok (.invokevirtual 97, 3) := by decide +kernel
theorem dX3_readFactor_26 : decode cX3_readFactor 26 = .ok (.ireturn, 1) := by decide +kernel
theorem dX3_readFactor_27 : decode cX3_readFactor 27 = .ok (.aload_n 0, 1) := by decide +kernel
theorem dX3_readFactor_28 : decode cX3_readFactor 28 = .ok (.dup, 1) := by decide +kernel
theorem dX3_readFactor_29 : decode cX3_readFactor 29 = .ok (.getfield 35, 3) := by decide +kernel
theorem dX3_readFactor_32 : decode cX3_readFactor 32 = .ok (.iconst 1, 1) := by decide +kernel
theorem dX3_readFactor_33 : decode cX3_readFactor 33 = .ok (.iadd, 1) := by decide +kernel
theorem dX3_readFactor_34 : decode cX3_readFactor 34 = .ok (.putfield 35, 3) := by decide +kernel
theorem dX3_readFactor_37 : decode cX3_readFactor 37 = .ok (.aload_n 0, 1) := by decide +kernel
theorem dX3_readFactor_38 : decode cX3_readFactor 38 = .ok (.iload_n 1, 1) := by decide +kernel
theorem dX3_readFactor_39 : decode cX3_readFactor 39 = .ok (.iconst 1, 1) := by decide +kernel
theorem dX3_readFactor_40 : decode cX3_readFactor 40 = .ok (.iadd, 1) := by decide +kernel
theorem dX3_readFactor_41 : decode cX3_readFactor 41 = .ok (.invokevirtual 187, 3) := by decide +kernel
theorem dX3_readFactor_44 : decode cX3_readFactor 44 = .ok (.ifCond .eq 16, 3) := by decide +kernel
theorem dX3_readFactor_47 : decode cX3_readFactor 47 = .ok (.aload_n 0, 1) := by decide +kernel
theorem dX3_readFactor_48 : decode cX3_readFactor 48 = .ok (.bipush 41, 2) := by decide +kernel
theorem dX3_readFactor_50 : decode cX3_readFactor 50 = .ok (.invokevirtual 69, 3) := by decide +kernel
theorem dX3_readFactor_53 : decode cX3_readFactor 53 = .ok (.ifCond .eq 7, 3) := by decide +kernel
theorem dX3_readFactor_56 : decode cX3_readFactor 56 = .ok (.iconst 1, 1) := by decide +kernel
theorem dX3_readFactor_57 : decode cX3_readFactor 57 = .ok (.goto 4, 3) := by decide +kernel
theorem dX3_readFactor_60 : decode cX3_readFactor 60 = .ok (.iconst 0, 1) := by decide +kernel
theorem dX3_readFactor_61 : decode cX3_readFactor 61 = .ok (.ireturn, 1) := by decide +kernel
theorem dX3_readFactor_62 : decode cX3_readFactor 62 = .ok (.iconst 0, 1) := by decide +kernel
theorem dX3_readFactor_63 : decode cX3_readFactor 63 = .ok (.istore_n 3, 1) := by decide +kernel
theorem dX3_readFactor_64 : decode cX3_readFactor 64 = .ok (.aload_n 0, 1) := by decide +kernel
theorem dX3_readFactor_65 : decode cX3_readFactor 65 = .ok (.ldc 199, 2) := by decide +kernel
theorem dX3_readFactor_67 : decode cX3_readFactor 67 = .ok (.invokevirtual 93, 3) := by decide +kernel
theorem dX3_readFactor_70 : decode cX3_readFactor 70 = .ok (.ifCond .eq 8, 3) := by decide +kernel
theorem dX3_readFactor_73 : decode cX3_readFactor 73 = .ok (.iconst (-1), 1) := by decide +kernel
theorem dX3_readFactor_74 : decode cX3_readFactor 74 = .ok (.istore_n 3, 1) := by decide +kernel
theorem dX3_readFactor_75 : decode cX3_readFactor 75 = .ok (.goto 69, 3) := by decide +kernel
theorem dX3_readFactor_78 : decode cX3_readFactor 78 = .ok (.aload_n 0, 1) := by decide +kernel
theorem dX3_readFactor_79 : decode cX3_readFactor 79 = .ok (.ldc 201, 2) := by decide +kernel
theorem dX3_readFactor_81 : decode cX3_readFactor 81 = .ok (.invokevirtual 93, 3) := by decide +kernel
theorem dX3_readFactor_84 : decode cX3_readFactor 84 = .ok (.ifCond .eq 9, 3) := by decide +kernel
theorem dX3_readFactor_87 : decode cX3_readFactor 87 = .ok (.bipush (-2), 2) := by decide +kernel
theorem dX3_readFactor_89 : decode cX3_readFactor 89 = .ok (.istore_n 3, 1) := by decide +kernel
theorem dX3_readFactor_90 : decode cX3_readFactor 90 = .ok (.goto 54, 3) := by decide +kernel
theorem dX3_readFactor_93 : decode cX3_readFactor 93 = .ok (.aload_n 0, 1) := by decide +kernel
theorem dX3_readFactor_94 : decode cX3_readFactor 94 = .ok (.ldc 203, 2) := by decide +kernel
theorem dX3_readFactor_96 : decode cX3_readFactor 96 = .ok (.invokevirtual 93, 3) := by decide +kernel
theorem dX3_readFactor_99 : decode cX3_readFactor 99 = .ok (.ifCond .eq 9, 3) := by decide +kernel
theorem dX3_readFactor_102 : decode cX3_readFactor 102 = .ok (.bipush (-3), 2) := by decide +kernel
theorem dX3_readFactor_104 : decode cX3_readFactor 104 = .ok (.istore_n 3, 1) := by decide +kernel
theorem dX3_readFactor_105 : decode cX3_readFactor 105 = .ok (.goto 39, 3) := by decide +kernel
theorem dX3_readFactor_108 : decode cX3_readFactor 108 = .ok (.aload_n 0, 1) := by decide +kernel
theorem dX3_readFactor_109 : decode cX3_readFactor 109 = .ok (.ldc 112, 2) := by decide +kernel
theorem dX3_readFactor_111 : decode cX3_readFactor 111 = .ok (.invokevirtual 93, 3) := by decide +kernel
theorem dX3_readFactor_114 : decode cX3_readFactor 114 = .ok (.ifCond .eq 9, 3) := by decide +kernel
theorem dX3_readFactor_117 : decode cX3_readFactor 117 = .ok (.bipush (-4), 2) := by decide +kernel
theorem dX3_readFactor_119 : decode cX3_readFactor 119 = .ok (.istore_n 3, 1) := by decide +kernel
theorem dX3_readFactor_120 : decode cX3_readFactor 120 = .ok (.goto 24, 3) := by decide +kernel
theorem dX3_readFactor_123 : decode cX3_readFactor 123 = .ok (.aload_n 0, 1) := by decide +kernel
theorem dX3_readFactor_124 : decode cX3_readFactor 124 = .ok (.iconst 0, 1) := by decide +kernel
theorem dX3_readFactor_125 : decode cX3_readFactor 125 = .ok (.sipush 9999, 3) := by decide +kernel
theorem dX3_readFactor_128 : decode cX3_readFactor 128 = .ok (.invokevirtual 101, 3) := by decide +kernel
theorem dX3_readFactor_131 : decode cX3_readFactor 131 = .ok (.ifCond .eq 11, 3) := by decide +kernel
theorem dX3_readFactor_134 : decode cX3_readFactor 134 = .ok (.aload_n 0, 1) := by decide +kernel
theorem dX3_readFactor_135 : decode cX3_readFactor 135 = .ok (.getfield 38, 3) := by decide +kernel
theorem dX3_readFactor_138 : decode cX3_readFactor 138 = .ok (.istore_n 3, 1) := by decide +kernel
theorem dX3_readFactor_139 : decode cX3_readFactor 139 = .ok (.goto 5, 3) := by decide +kernel
theorem dX3_readFactor_142 : decode cX3_readFactor 142 = .ok (.iconst 0, 1) := by decide +kernel
theorem dX3_readFactor_143 : decode cX3_readFactor 143 = .ok (.ireturn, 1) := by decide +kernel
theorem dX3_readFactor_144 : decode cX3_readFactor 144 = .ok (.aload_n 0, 1) := by decide +kernel
theorem dX3_readFactor_145 : decode cX3_readFactor 145 = .ok (.getfield 12, 3) := by decide +kernel
theorem dX3_readFactor_148 : decode cX3_readFactor 148 = .ok (.getfield 73, 3) := by decide +kernel
theorem dX3_readFactor_151 : decode cX3_readFactor 151 = .ok (.getfield 179, 3) := by decide +kernel
theorem dX3_readFactor_154 : decode cX3_readFactor 154 = .ok (.iload_n 3, 1) := by decide +kernel
theorem dX3_readFactor_155 : decode cX3_readFactor 155 = .ok (.invokevirtual 205, 3) := by decide +kernel
theorem dX3_readFactor_158 : decode cX3_readFactor 158 = .ok (.iconst 1, 1) := by decide +kernel
theorem dX3_readFactor_159 : decode cX3_readFactor 159 = .ok (.ireturn, 1) := by decide +kernel
set_option maxRecDepth 20000 in
theorem ggX3_readSign_X3_peek : GoodIn wsX3_readSign wsX3_peek := goodIn_r _ [6, 1, 7, 8, 15, 16, 17, 18, 19, 20, 21, 22, 23, 24, 25, 26] (by decide +kernel) (by decide +kernel)
set_option maxRecDepth 20000 in
theorem gX3_readSign_X3_peek : GoodIn wsX3_readSign (wsV RX3 62 RX3 yX3_peek wsX3_peek) := goodIn_app (goodIn_of _ (by decide +kernel)) ggX3_readSign_X3_peek
set_option maxRecDepth 20000 in
theorem ggX3_readSign_X3_fail : GoodIn wsX3_readSign wsX3_fail := goodIn_r _ [12, 13, 14, 15, 16, 17, 18, 19, 20, 21, 22, 23, 24, 25, 26] (by decide +kernel) (by decide +kernel)
set_option maxRecDepth 20000 in
theorem gX3_readSign_X3_fail : GoodIn wsX3_readSign (wsV RX3 97 RX3 yX3_fail wsX3_fail) := goodIn_app (goodIn_of _ (by decide +kernel)) ggX3_readSign_X3_fail
theorem dX3_readSign_0 : decode cX3_readSign 0 = .ok (.aload_n 0, 1) := by decide +kernel
theorem dX3_readSign_1 : decode cX3_readSign 1 = .ok (.invokevirtual 62, 3) := by decide +kernel
theorem dX3_readSign_4 : decode cX3_readSign 4 = .ok (.iload_n 1, 1) := by decide +kernel
theorem dX3_readSign_5 : decode cX3_readSign 5 = .ok (.if_icmp .eq 14, 3) := by decide +kernel
theorem dX3_readSign_8 : decode cX3_readSign 8 = .ok (.aload_n 0, 1) := by decide +kernel
theorem dX3_readSign_9 : decode cX3_readSign 9 = .ok (.bipush (-2), 2) := by decide +kernel
theorem dX3_readSign_11 : decode cX3_readSign 11 = .ok (.aload_n 0, 1) := by decide +kernel
theorem dX3_readSign_12 : decode cX3_readSign 12 = .ok (.getfield 35, 3) := by decide +kernel
theorem dX3_readSign_15 : decode cX3_readSign 15 = .ok (.invokevirtual 97, 3) := by decide +kernel
theorem dX3_readSign_18 : decode cX3_readSign 18 = .ok (.ireturn, 1) := by decide +kernel
theorem dX3_readSign_19 : decode cX3_readSign 19 = .ok (.aload_n 0, 1) := by decide +kernel
theorem dX3_readSign_20 : decode cX3_readSign 20 = .ok (.dup, 1) := by decide +kernel
theorem dX3_readSign_21 : decode cX3_readSign 21 = .ok (.getfield 35, 3) := by decide +kernel
theorem dX3_readSign_24 : decode cX3_readSign 24 = .ok (.iconst 1, 1) := by decide +kernel
theorem dX3_readSign_25 : decode cX3_readSign 25 = .ok (.iadd, 1) := by decide +kernel
theorem dX3_readSign_26 : decode cX3_readSign 26 = .ok (.putfield 35, 3) := by decide +kernel
theorem dX3_readSign_29 : decode cX3_readSign 29 = .ok (.iconst 1, 1) := by decide +kernel
theorem dX3_readSign_30 : decode cX3_readSign 30 = .ok (.ireturn, 1) := by decide +kernel
set_option maxRecDepth 20000 in
theorem ggX3_readNumber_X3_peek : GoodIn wsX3_readNumber wsX3_peek := goodIn_r _ [14, 1, 3, 4, 24, 25, 26, 27, 28, 29, 30, 31, 32, 33, 34, 35] (by decide +kernel) (by decide +kernel)
set_option maxRecDepth 20000 in
theorem gX3_readNumber_X3_peek : GoodIn wsX3_readNumber (wsV RX3 62 RX3 yX3_peek wsX3_peek) := goodIn_app (goodIn_of _ (by decide +kernel)) ggX3_readNumber_X3_peek
set_option maxRecDepth 20000 in
theorem ggX3_readNumber_X3_isDigit : GoodIn wsX3_readNumber wsX3_isDigit := goodIn_r _ [17] (by decide +kernel) (by decide +kernel)
set_option maxRecDepth 20000 in
theorem gX3_readNumber_X3_isDigit : GoodIn wsX3_readNumber (va_wsS RX3 207 yX3_isDigit wsX3_isDigit) := goodIn_app (goodIn_of _ (by decide +kernel)) ggX3_readNumber_X3_isDigit
set_option maxRecDepth 20000 in
theorem ggX3_readNumber_X3_fail : GoodIn wsX3_readNumber wsX3_fail := goodIn_r _ [21, 22, 23, 24, 25, 26, 27, 28, 29, 30, 31, 32, 33, 34, 35] (by decide +kernel) (by decide +kernel)
set_option maxRecDepth 20000 in
theorem gX3_readNumber_X3_fail : GoodIn wsX3_readNumber (wsV RX3 97 RX3 yX3_fail wsX3_fail) := goodIn_app (goodIn_of _ (by decide +kernel)) ggX3_readNumber_X3_fail
theorem dX3_readNumber_0 : decode cX3_readNumber 0 = .ok (.aload_n 0, 1) := by decide +kernel
theorem dX3_readNumber_1 : decode cX3_readNumber 1 = .ok (.invokevirtual 62, 3) := by decide +kernel
theorem dX3_readNumber_4 : decode cX3_readNumber 4 = .ok (.invokestatic 207, 3) := by decide +kernel
theorem dX3_readNumber_7 : decode cX3_readNumber 7 = .ok (.ifCond .ne 14, 3) := by decide +kernel
theorem dX3_readNumber_10 : decode cX3_readNumber 10 = .ok (.aload_n 0, 1) := by decide +kernel
theorem dX3_readNumber_11 : decode cX3_readNumber 11 = .ok (.bipush (-2), 2) := by decide +kernel
theorem dX3_readNumber_13 : decode cX3_readNumber 13 = .ok (.aload_n 0, 1) := by decide +kernel
theorem dX3_readNumber_14 : decode cX3_readNumber 14 = .ok (.getfield 35, 3) := by decide +kernel
theorem dX3_readNumber_17 : decode cX3_readNumber 17 = .ok (.invokevirtual 97, 3) := by decide +kernel
theorem dX3_readNumber_20 : decode cX3_readNumber 20 = .ok (.ireturn, 1) := by decide +kernel
theorem dX3_readNumber_21 : decode cX3_readNumber 21 = .ok (.aload_n 0, 1) := by decide +kernel
theorem dX3_readNumber_22 : decode cX3_readNumber 22 = .ok (.getfield 35, 3) := by decide +kernel
theorem dX3_readNumber_25 : decode cX3_readNumber 25 = .ok (.istore_n 3, 1) := by decide +kernel
theorem dX3_readNumber_26 : decode cX3_readNumber 26 = .ok (.aload_n 0, 1) := by decide +kernel
theorem dX3_readNumber_27 : decode cX3_readNumber 27 = .ok (.iconst 0, 1) := by decide +kernel
theorem dX3_readNumber_28 : decode cX3_readNumber 28 = .ok (.putfield 38, 3) := by decide +kernel
theorem dX3_readNumber_31 : decode cX3_readNumber 31 = .ok (.aload_n 0, 1) := by decide +kernel
theorem dX3_readNumber_32 : decode cX3_readNumber 32 = .ok (.getfield 35, 3) := by decide +kernel
theorem dX3_readNumber_35 : decode cX3_readNumber 35 = .ok (.aload_n 0, 1) := by decide +kernel
theorem dX3_readNumber_36 : decode cX3_readNumber 36 = .ok (.getfield 32, 3) := by decide +kernel
theorem dX3_readNumber_39 : decode cX3_readNumber 39 = .ok (.if_icmp .ge 60, 3) := by decide +kernel
theorem dX3_readNumber_42 : decode cX3_readNumber 42 = .ok (.aload_n 0, 1) := by decide +kernel
theorem dX3_readNumber_43 : decode cX3_readNumber 43 = .ok (.getfield 28, 3) := by decide +kernel
theorem dX3_readNumber_46 : decode cX3_readNumber 46 = .ok (.aload_n 0, 1) := by decide +kernel
theorem dX3_readNumber_47 : decode cX3_readNumber 47 = .ok (.getfield 35, 3) := by decide +kernel
theorem dX3_readNumber_50 : decode cX3_readNumber 50 = .ok (.baload, 1) := by decide +kernel
theorem dX3_readNumber_51 : decode cX3_readNumber 51 = .ok (.invokestatic 207, 3) := by decide +kernel
theorem dX3_readNumber_54 : decode cX3_readNumber 54 = .ok (.ifCond .eq 45, 3) := by decide +kernel
theorem dX3_readNumber_57 : decode cX3_readNumber 57 = .ok (.aload_n 0, 1) := by decide +kernel
theorem dX3_readNumber_58 : decode cX3_readNumber 58 = .ok (.bipush 10, 2) := by decide +kernel
theorem dX3_readNumber_60 : decode cX3_readNumber 60 = .ok (.aload_n 0, 1) := by decide +kernel
theorem dX3_readNumber_61 : decode cX3_readNumber 61 = .ok (.getfield 38, 3) := by decide +kernel
theorem dX3_readNumber_64 : decode cX3_readNumber 64 = .ok (.imul, 1) := by decide +kernel
theorem dX3_readNumber_65 : decode cX3_readNumber 65 = .ok (.aload_n 0, 1) := by decide +kernel
theorem dX3_readNumber_66 : decode cX3_readNumber 66 = .ok (.getfield 28, 3) := by decide +kernel
theorem dX3_readNumber_69 : decode cX3_readNumber 69 = .ok (.aload_n 0, 1) := by decide +kernel
theorem dX3_readNumber_70 : decode cX3_readNumber 70 = .ok (.getfield 35, 3) := by decide +kernel
theorem dX3_readNumber_73 : decode cX3_readNumber 73 = .ok (.baload, 1) := by decide +kernel
theorem dX3_readNumber_74 : decode cX3_readNumber 74 = .ok (.iadd, 1) := by decide +kernel
theorem dX3_readNumber_75 : decode cX3_readNumber 75 = .ok (.bipush 48, 2) := by decide +kernel
theorem dX3_readNumber_77 : decode cX3_readNumber 77 = .ok (.isub, 1) := by decide +kernel
theorem dX3_readNumber_78 : decode cX3_readNumber 78 = .ok (.ldc 210, 2) := by decide +kernel
theorem dX3_readNumber_80 : decode cX3_readNumber 80 = .ok (.invokestatic 86, 3) := by decide +kernel
theorem dX3_readNumber_83 : decode cX3_readNumber 83 = .ok (.putfield 38, 3) := by decide +kernel
theorem dX3_readNumber_86 : decode cX3_readNumber 86 = .ok (.aload_n 0, 1) := by decide +kernel
theorem dX3_readNumber_87 : decode cX3_readNumber 87 = .ok (.dup, 1) := by decide +kernel
theorem dX3_readNumber_88 : decode cX3_readNumber 88 = .ok (.getfield 35, 3) := by decide +kernel
theorem dX3_readNumber_91 : decode cX3_readNumber 91 = .ok (.iconst 1, 1) := by decide +kernel
theorem dX3_readNumber_92 : decode cX3_readNumber 92 = .ok (.iadd, 1) := by decide +kernel
theorem dX3_readNumber_93 : decode cX3_readNumber 93 = .ok (.putfield 35, 3) := by decide +kernel
theorem dX3_readNumber_96 : decode cX3_readNumber 96 = .ok (.goto (-65), 3) := by decide +kernel
theorem dX3_readNumber_99 : decode cX3_readNumber 99 = .ok (.aload_n 0, 1) := by decide +kernel
theorem dX3_readNumber_100 : decode cX3_readNumber 100 = .ok (.getfield 38, 3) := by decide +kernel
theorem dX3_readNumber_103 : decode cX3_readNumber 103 = .ok (.iload_n 1, 1) := by decide +kernel
theorem dX3_readNumber_104 : decode cX3_readNumber 104 = .ok (.if_icmp .lt 11, 3) := by decide +kernel
theorem dX3_readNumber_107 : decode cX3_readNumber 107 = .ok (.aload_n 0, 1) := by decide +kernel
theorem dX3_readNumber_108 : decode cX3_readNumber 108 = .ok (.getfield 38, 3) := by decide +kernel
theorem dX3_readNumber_111 : decode cX3_readNumber 111 = .ok (.iload_n 2, 1) := by decide +kernel
theorem dX3_readNumber_112 : decode cX3_readNumber 112 = .ok (.if_icmp .le 13, 3) := by decide +kernel
theorem dX3_readNumber_115 : decode cX3_readNumber 115 = .ok (.aload_n 0, 1) := by decide +kernel
theorem dX3_readNumber_116 : decode cX3_readNumber 116 = .ok (.bipush (-3), 2) := by decide +kernel
theorem dX3_readNumber_118 : decode cX3_readNumber 118 = .ok (.iload_n 3, 1) := by decide +kernel
theorem dX3_readNumber_119 : decode cX3_readNumber 119 = .ok (.invokevirtual 97, 3) := by decide +kernel
theorem dX3_readNumber_122 : decode cX3_readNumber 122 = .ok (.ifCond .eq 7, 3) := by decide +kernel
theorem dX3_readNumber_125 : decode cX3_readNumber 125 = .ok (.iconst 1, 1) := by decide +kernel
theorem dX3_readNumber_126 : decode cX3_readNumber 126 = .ok (.goto 4, 3) := by decide +kernel
theorem dX3_readNumber_129 : decode cX3_readNumber 129 = .ok (.iconst 0, 1) := by decide +kernel
theorem dX3_readNumber_130 : decode cX3_readNumber 130 = .ok (.ireturn, 1) := by decide +kernel
set_option maxRecDepth 20000 in
theorem ggX3_readKind_X3_peek : GoodIn wsX3_readKind wsX3_peek := goodIn_r _ [9, 1, 3, 4, 19, 20, 21, 22, 23, 24, 25, 26, 27, 28, 29, 30] (by decide +kernel) (by decide +kernel)
set_option maxRecDepth 20000 in
theorem gX3_readKind_X3_peek : GoodIn wsX3_readKind (wsV RX3 62 RX3 yX3_peek wsX3_peek) := goodIn_app (goodIn_of _ (by decide +kernel)) ggX3_readKind_X3_peek
set_option maxRecDepth 20000 in
theorem ggX3_readKind_X3_isLetter : GoodIn wsX3_readKind wsX3_isLetter := goodIn_r _ [12] (by decide +kernel) (by decide +kernel)
set_option maxRecDepth 20000 in
theorem gX3_readKind_X3_isLetter : GoodIn wsX3_readKind (va_wsS RX3 211 yX3_isLetter wsX3_isLetter) := goodIn_app (goodIn_of _ (by decide +kernel)) ggX3_readKind_X3_isLetter
set_option maxRecDepth 20000 in
theorem ggX3_readKind_X3_fail : GoodIn wsX3_readKind wsX3_fail := goodIn_r _ [16, 17, 18, 19, 20, 21, 22, 23, 24, 25, 26, 27, 28, 29, 30] (by decide +kernel) (by decide +kernel)
set_option maxRecDepth 20000 in
theorem gX3_readKind_X3_fail : GoodIn wsX3_readKind (wsV RX3 97 RX3 yX3_fail wsX3_fail) := goodIn_app (goodIn_of _ (by decide +kernel)) ggX3_readKind_X3_fail
theorem dX3_readKind_0 : decode cX3_readKind 0 = .ok (.aload_n 0, 1) := by decide +kernel
theorem dX3_readKind_1 : decode cX3_readKind 1 = .ok (.invokevirtual 62, 3) := by decide +kernel
theorem dX3_readKind_4 : decode cX3_readKind 4 = .ok (.istore_n 1, 1) := by decide +kernel
theorem dX3_readKind_5 : decode cX3_readKind 5 = .ok (.iload_n 1, 1) := by decide +kernel
theorem dX3_readKind_6 : decode cX3_readKind 6 = .ok (.invokestatic 211, 3) := by decide +kernel
theorem dX3_readKind_9 : decode cX3_readKind 9 = .ok (.ifCond .ne 14, 3) := by decide +kernel
theorem dX3_readKind_12 : decode cX3_readKind 12 = .ok (.aload_n 0, 1) := by decide +kernel
theorem dX3_readKind_13 : decode cX3_readKind 13 = .ok (.bipush (-2), 2) := by decide +kernel
theorem dX3_readKind_15 : decode cX3_readKind 15 = .ok (.aload_n 0, 1) := by decide +kernel
theorem dX3_readKind_16 : decode cX3_readKind 16 = .ok (.getfield 35, 3) := by decide +kernel
theorem dX3_readKind_19 : decode cX3_readKind 19 = .ok (.invokevirtual 97, 3) := by decide +kernel
theorem dX3_readKind_22 : decode cX3_readKind 22 = .ok (.ireturn, 1) := by decide +kernel
theorem dX3_readKind_23 : decode cX3_readKind 23 = .ok (.aload_n 0, 1) := by decide +kernel
theorem dX3_readKind_24 : decode cX3_readKind 24 = .ok (.getfield 35, 3) := by decide +kernel
theorem dX3_readKind_27 : decode cX3_readKind 27 = .ok (.istore_n 2, 1) := by decide +kernel
theorem dX3_readKind_28 : decode cX3_readKind 28 = .ok (.aload_n 0, 1) := by decide +kernel
theorem dX3_readKind_29 : decode cX3_readKind 29 = .ok (.dup, 1) := by decide +kernel
theorem dX3_readKind_30 : decode cX3_readKind 30 = .ok (.getfield 35, 3) := by decide +kernel
theorem dX3_readKind_33 : decode cX3_readKind 33 = .ok (.iconst 1, 1) := by decide +kernel
theorem dX3_readKind_34 : decode cX3_readKind 34 = .ok (.iadd, 1) := by decide +kernel
theorem dX3_readKind_35 : decode cX3_readKind 35 = .ok (.putfield 35, 3) := by decide +kernel
theorem dX3_readKind_38 : decode cX3_readKind 38 = .ok (.aload_n 0, 1) := by decide +kernel
theorem dX3_readKind_39 : decode cX3_readKind 39 = .ok (.iload_n 1, 1) := by decide +kernel
theorem dX3_readKind_40 : decode cX3_readKind 40 = .ok (.bipush 97, 2) := by decide +kernel
theorem dX3_readKind_42 : decode cX3_readKind 42 = .ok (.isub, 1) := by decide +kernel
theorem dX3_readKind_43 : decode cX3_readKind 43 = .ok (.putfield 38, 3) := by decide +kernel
theorem dX3_readKind_46 : decode cX3_readKind 46 = .ok (.aload_n 0, 1) := by decide +kernel
theorem dX3_readKind_47 : decode cX3_readKind 47 = .ok (.getfield 35, 3) := by decide +kernel
theorem dX3_readKind_50 : decode cX3_readKind 50 = .ok (.aload_n 0, 1) := by decide +kernel
theorem dX3_readKind_51 : decode cX3_readKind 51 = .ok (.getfield 32, 3) := by decide +kernel
theorem dX3_readKind_54 : decode cX3_readKind 54 = .ok (.if_icmp .ge 28, 3) := by decide +kernel
theorem dX3_readKind_57 : decode cX3_readKind 57 = .ok (.aload_n 0, 1) := by decide +kernel
theorem dX3_readKind_58 : decode cX3_readKind 58 = .ok (.getfield 28, 3) := by decide +kernel
theorem dX3_readKind_61 : decode cX3_readKind 61 = .ok (.aload_n 0, 1) := by decide +kernel
theorem dX3_readKind_62 : decode cX3_readKind 62 = .ok (.getfield 35, 3) := by decide +kernel
theorem dX3_readKind_65 : decode cX3_readKind 65 = .ok (.baload, 1) := by decide +kernel
theorem dX3_readKind_66 : decode cX3_readKind 66 = .ok (.invokestatic 211, 3) := by decide +kernel
theorem dX3_readKind_69 : decode cX3_readKind 69 = .ok (.ifCond .eq 13, 3) := by decide +kernel
theorem dX3_readKind_72 : decode cX3_readKind 72 = .ok (.aload_n 0, 1) := by decide +kernel
theorem dX3_readKind_73 : decode cX3_readKind 73 = .ok (.bipush (-3), 2) := by decide +kernel
theorem dX3_readKind_75 : decode cX3_readKind 75 = .ok (.iload_n 2, 1) := by decide +kernel
theorem dX3_readKind_76 : decode cX3_readKind 76 = .ok (.invokevirtual 97, 3) := by decide +kernel
theorem dX3_readKind_79 : decode cX3_readKind 79 = .ok (.ifCond .eq 7, 3) := by decide +kernel
theorem dX3_readKind_82 : decode cX3_readKind 82 = .ok (.iconst 1, 1) := by decide +kernel
theorem dX3_readKind_83 : decode cX3_readKind 83 = .ok (.goto 4, 3) := by decide +kernel
theorem dX3_readKind_86 : decode cX3_readKind 86 = .ok (.iconst 0, 1) := by decide +kernel
theorem dX3_readKind_87 : decode cX3_readKind 87 = .ok (.ireturn, 1) := by decide +kernel
theorem dX3_peek_0 : decode cX3_peek 0 = .ok (.aload_n 0, 1) := by decide +kernel
theorem dX3_peek_1 : decode cX3_peek 1 = .ok (.getfield 35, 3) := by decide +kernel
theorem dX3_peek_4 : decode cX3_peek 4 = .ok (.aload_n 0, 1) := by decide +kernel
theorem dX3_peek_5 : decode cX3_peek 5 = .ok (.getfield 32, 3) := by decide +kernel
theorem dX3_peek_8 : decode cX3_peek 8 = .ok (.if_icmp .ge 30, 3) := by decide +kernel
theorem dX3_peek_11 : decode cX3_peek 11 = .ok (.aload_n 0, 1) := by decide +kernel
theorem dX3_peek_12 : decode cX3_peek 12 = .ok (.getfield 28, 3) := by decide +kernel
theorem dX3_peek_15 : decode cX3_peek 15 = .ok (.aload_n 0, 1) := by decide +kernel
theorem dX3_peek_16 : decode cX3_peek 16 = .ok (.getfield 35, 3) := by decide +kernel
theorem dX3_peek_19 : decode cX3_peek 19 = .ok (.baload, 1) := by decide +kernel
theorem dX3_peek_20 : decode cX3_peek 20 = .ok (.bipush 32, 2) := by decide +kernel
theorem dX3_peek_22 : decode cX3_peek 22 = .ok (.if_icmp .ne 16, 3) := by decide +kernel
theorem dX3_peek_25 : decode cX3_peek 25 = .ok (.aload_n 0, 1) := by decide +kernel
theorem dX3_peek_26 : decode cX3_peek 26 = .ok (.dup, 1) := by decide +kernel
theorem dX3_peek_27 : decode cX3_peek 27 = .ok (.getfield 35, 3) := by decide +kernel
theorem dX3_peek_30 : decode cX3_peek 30 = .ok (.iconst 1, 1) := by decide +kernel
theorem dX3_peek_31 : decode cX3_peek 31 = .ok (.iadd, 1) := by decide +kernel
theorem dX3_peek_32 : decode cX3_peek 32 = .ok (.putfield 35, 3) := by decide +kernel
theorem dX3_peek_35 : decode cX3_peek 35 = .ok (.goto (-35), 3) := by decide +kernel
theorem dX3_peek_38 : decode cX3_peek 38 = .ok (.aload_n 0, 1) := by decide +kernel
theorem dX3_peek_39 : decode cX3_peek 39 = .ok (.getfield 35, 3) := by decide +kernel
theorem dX3_peek_42 : decode cX3_peek 42 = .ok (.aload_n 0, 1) := by decide +kernel
theorem dX3_peek_43 : decode cX3_peek 43 = .ok (.getfield 32, 3) := by decide +kernel
theorem dX3_peek_46 : decode cX3_peek 46 = .ok (.if_icmp .ge 19, 3) := by decide +kernel
theorem dX3_peek_49 : decode cX3_peek 49 = .ok (.aload_n 0, 1) := by decide +kernel
theorem dX3_peek_50 : decode cX3_peek 50 = .ok (.getfield 28, 3) := by decide +kernel
theorem dX3_peek_53 : decode cX3_peek 53 = .ok (.aload_n 0, 1) := by decide +kernel
theorem dX3_peek_54 : decode cX3_peek 54 = .ok (.getfield 35, 3) := by decide +kernel
theorem dX3_peek_57 : decode cX3_peek 57 = .ok (.baload, 1) := by decide +kernel
theorem dX3_peek_58 : decode cX3_peek 58 = .ok (.sipush 255, 3) := by decide +kernel
theorem dX3_peek_61 : decode cX3_peek 61 = .ok (.iand, 1) := by decide +kernel
theorem dX3_peek_62 : decode cX3_peek 62 = .ok (.goto 4, 3) := by decide +kernel
theorem dX3_peek_65 : decode cX3_peek 65 = .ok (.iconst (-1), 1) := by decide +kernel
theorem dX3_peek_66 : decode cX3_peek 66 = .ok (.ireturn, 1) := by decide +kernel
set_option maxRecDepth 20000 in
theorem ggX3_takesWord_J0_length_8abf5 : GoodIn wsX3_takesWord wsJ0_length_8abf5 := goodIn_r _ [8, 9, 10, 11, 12, 7, 13, 14, 15, 69, 70, 71, 72] (by decide +kernel) (by decide +kernel)
set_option maxRecDepth 20000 in
theorem gX3_takesWord_J0_length_8abf5 : GoodIn wsX3_takesWord (wsV RX3 214 RJ0 yJ0_length_8abf5 wsJ0_length_8abf5) := goodIn_app (goodIn_of _ (by decide +kernel)) ggX3_takesWord_J0_length_8abf5
set_option maxRecDepth 20000 in
theorem ggX3_takesWord_J0_charAt_5068e : GoodIn wsX3_takesWord wsJ0_charAt_5068e := goodIn_r _ [19, 9, 20, 21, 22, 7, 23, 14, 15, 24, 25, 26, 27, 28, 29, 30, 31, 32, 33, 34, 35, 36, 37, 38, 39, 40, 41, 42, 43, 44, 45, 46, 47, 48, 49, 50, 51, 52, 69, 70, 71, 72] (by decide +kernel) (by decide +kernel)
set_option maxRecDepth 20000 in
theorem gX3_takesWord_J0_charAt_5068e : GoodIn wsX3_takesWord (wsV RX3 218 RJ0 yJ0_charAt_5068e wsJ0_charAt_5068e) := goodIn_app (goodIn_of _ (by decide +kernel)) ggX3_takesWord_J0_charAt_5068e
set_option maxRecDepth 20000 in
theorem ggX3_takesWord_X3_isLetter : GoodIn wsX3_takesWord wsX3_isLetter := goodIn_r _ [56] (by decide +kernel) (by decide +kernel)
set_option maxRecDepth 20000 in
theorem gX3_takesWord_X3_isLetter : GoodIn wsX3_takesWord (va_wsS RX3 211 yX3_isLetter wsX3_isLetter) := goodIn_app (goodIn_of _ (by decide +kernel)) ggX3_takesWord_X3_isLetter
theorem dX3_takesWord_0 : decode cX3_takesWord 0 = .ok (.aload_n 0, 1) := by decide +kernel
theorem dX3_takesWord_1 : decode cX3_takesWord 1 = .ok (.getfield 35, 3) := by decide +kernel
theorem dX3_takesWord_4 : decode cX3_takesWord 4 = .ok (.aload_n 1, 1) := by decide +kernel
theorem dX3_takesWord_5 : decode cX3_takesWord 5 = .ok (.invokevirtual 214, 3) := by decide +kernel
theorem dX3_takesWord_8 : decode cX3_takesWord 8 = .ok (.iadd, 1) := by decide +kernel
theorem dX3_takesWord_9 : decode cX3_takesWord 9 = .ok (.istore_n 2, 1) := by decide +kernel
theorem dX3_takesWord_10 : decode cX3_takesWord 10 = .ok (.iload_n 2, 1) := by decide +kernel
theorem dX3_takesWord_11 : decode cX3_takesWord 11 = .ok (.aload_n 0, 1) := by decide +kernel
theorem dX3_takesWord_12 : decode cX3_takesWord 12 = .ok (.getfield 32, 3) := by decide +kernel
theorem dX3_takesWord_15 : decode cX3_takesWord 15 = .ok (.if_icmp .le 5, 3) := by decide +kernel
theorem dX3_takesWord_18 : decode cX3_takesWord 18 = .ok (.iconst 0, 1) := by decide +kernel
theorem dX3_takesWord_19 : decode cX3_takesWord 19 = .ok (.ireturn, 1) := by decide +kernel
theorem dX3_takesWord_20 : decode cX3_takesWord 20 = .ok (.iconst 0, 1) := by decide +kernel
theorem dX3_takesWord_21 : decode cX3_takesWord 21 = .ok (.istore_n 3, 1) := by decide +kernel
theorem dX3_takesWord_22 : decode cX3_takesWord 22 = .ok (.iload_n 3, 1) := by decide +kernel
theorem dX3_takesWord_23 : decode cX3_takesWord 23 = .ok (.aload_n 1, 1) := by decide +kernel
theorem dX3_takesWord_24 : decode cX3_takesWord 24 = .ok (.invokevirtual 214, 3) := by decide +kernel
theorem dX3_takesWord_27 : decode cX3_takesWord 27 = .ok (.if_icmp .ge 30, 3) := by decide +kernel
theorem dX3_takesWord_30 : decode cX3_takesWord 30 = .ok (.aload_n 0, 1) := by decide +kernel
theorem dX3_takesWord_31 : decode cX3_takesWord 31 = .ok (.getfield 28, 3) := by decide +kernel
theorem dX3_takesWord_34 : decode cX3_takesWord 34 = .ok (.aload_n 0, 1) := by decide +kernel
theorem dX3_takesWord_35 : decode cX3_takesWord 35 = .ok (.getfield 35, 3) := by decide +kernel
theorem dX3_takesWord_38 : decode cX3_takesWord 38 = .ok (.iload_n 3, 1) := by decide +kernel
theorem dX3_takesWord_39 : decode cX3_takesWord 39 = .ok (.iadd, 1) := by decide +kernel
theorem dX3_takesWord_40 : decode cX3_takesWord 40 = .ok (.baload, 1) := by decide +kernel
theorem dX3_takesWord_41 : decode cX3_takesWord 41 = .ok (.aload_n 1, 1) := by decide +kernel
theorem dX3_takesWord_42 : decode cX3_takesWord 42 = .ok (.iload_n 3, 1) := by decide +kernel
theorem dX3_takesWord_43 : decode cX3_takesWord 43 = .ok (.invokevirtual 218, 3) := by decide +kernel
theorem dX3_takesWord_46 : decode cX3_takesWord 46 = .ok (.if_icmp .eq 5, 3) := by decide +kernel
theorem dX3_takesWord_49 : decode cX3_takesWord 49 = .ok (.iconst 0, 1) := by decide +kernel
theorem dX3_takesWord_50 : decode cX3_takesWord 50 = .ok (.ireturn, 1) := by decide +kernel
theorem dX3_takesWord_51 : decode cX3_takesWord 51 = .ok (.iinc 3 1, 3) := by decide +kernel
theorem dX3_takesWord_54 : decode cX3_takesWord 54 = .ok (.goto (-32), 3) := by decide +kernel
theorem dX3_takesWord_57 : decode cX3_takesWord 57 = .ok (.iload_n 2, 1) := by decide +kernel
theorem dX3_takesWord_58 : decode cX3_takesWord 58 = .ok (.aload_n 0, 1) := by decide +kernel
theorem dX3_takesWord_59 : decode cX3_takesWord 59 = .ok (.getfield 32, 3) := by decide +kernel
theorem dX3_takesWord_62 : decode cX3_takesWord 62 = .ok (.if_icmp .ge 17, 3) := by decide +kernel
theorem dX3_takesWord_65 : decode cX3_takesWord 65 = .ok (.aload_n 0, 1) := by decide +kernel
theorem dX3_takesWord_66 : decode cX3_takesWord 66 = .ok (.getfield 28, 3) := by decide +kernel
theorem dX3_takesWord_69 : decode cX3_takesWord 69 = .ok (.iload_n 2, 1) := by decide +kernel
theorem dX3_takesWord_70 : decode cX3_takesWord 70 = .ok (.baload, 1) := by decide +kernel
theorem dX3_takesWord_71 : decode cX3_takesWord 71 = .ok (.invokestatic 211, 3) := by decide +kernel
theorem dX3_takesWord_74 : decode cX3_takesWord 74 = .ok (.ifCond .eq 5, 3) := by decide +kernel
theorem dX3_takesWord_77 : decode cX3_takesWord 77 = .ok (.iconst 0, 1) := by decide +kernel
theorem dX3_takesWord_78 : decode cX3_takesWord 78 = .ok (.ireturn, 1) := by decide +kernel
theorem dX3_takesWord_79 : decode cX3_takesWord 79 = .ok (.aload_n 0, 1) := by decide +kernel
theorem dX3_takesWord_80 : decode cX3_takesWord 80 = .ok (.iload_n 2, 1) := by decide +kernel
theorem dX3_takesWord_81 : decode cX3_takesWord 81 = .ok (.putfield 35, 3) := by decide +kernel
theorem dX3_takesWord_84 : decode cX3_takesWord 84 = .ok (.iconst 1, 1) := by decide +kernel
theorem dX3_takesWord_85 : decode cX3_takesWord 85 = .ok (.ireturn, 1) := by decide +kernel
theorem dX3_isDigit_0 : decode cX3_isDigit 0 = .ok (.iload_n 0, 1) := by decide +kernel
theorem dX3_isDigit_1 : decode cX3_isDigit 1 = .ok (.bipush 48, 2) := by decide +kernel
theorem dX3_isDigit_3 : decode cX3_isDigit 3 = .ok (.if_icmp .lt 13, 3) := by decide +kernel
theorem dX3_isDigit_6 : decode cX3_isDigit 6 = .ok (.iload_n 0, 1) := by decide +kernel
theorem dX3_isDigit_7 : decode cX3_isDigit 7 = .ok (.bipush 57, 2) := by decide +kernel
theorem dX3_isDigit_9 : decode cX3_isDigit 9 = .ok (.if_icmp .gt 7, 3) := by decide +kernel
theorem dX3_isDigit_12 : decode cX3_isDigit 12 = .ok (.iconst 1, 1) := by decide +kernel
theorem dX3_isDigit_13 : decode cX3_isDigit 13 = .ok (.goto 4, 3) := by decide +kernel
theorem dX3_isDigit_16 : decode cX3_isDigit 16 = .ok (.iconst 0, 1) := by decide +kernel
theorem dX3_isDigit_17 : decode cX3_isDigit 17 = .ok (.ireturn, 1) := by decide +kernel
theorem dX3_isLetter_0 : decode cX3_isLetter 0 = .ok (.iload_n 0, 1) := by decide +kernel
theorem dX3_isLetter_1 : decode cX3_isLetter 1 = .ok (.bipush 97, 2) := by decide +kernel
theorem dX3_isLetter_3 : decode cX3_isLetter 3 = .ok (.if_icmp .lt 13, 3) := by decide +kernel
theorem dX3_isLetter_6 : decode cX3_isLetter 6 = .ok (.iload_n 0, 1) := by decide +kernel
theorem dX3_isLetter_7 : decode cX3_isLetter 7 = .ok (.bipush 122, 2) := by decide +kernel
theorem dX3_isLetter_9 : decode cX3_isLetter 9 = .ok (.if_icmp .gt 7, 3) := by decide +kernel
theorem dX3_isLetter_12 : decode cX3_isLetter 12 = .ok (.iconst 1, 1) := by decide +kernel
theorem dX3_isLetter_13 : decode cX3_isLetter 13 = .ok (.goto 4, 3) := by decide +kernel
theorem dX3_isLetter_16 : decode cX3_isLetter 16 = .ok (.iconst 0, 1) := by decide +kernel
theorem dX3_isLetter_17 : decode cX3_isLetter 17 = .ok (.ireturn, 1) := by decide +kernel
set_option maxRecDepth 20000 in
theorem ggX3_isOfLine_X3_isLetter : GoodIn wsX3_isOfLine wsX3_isLetter := goodIn_r _ [4] (by decide +kernel) (by decide +kernel)
set_option maxRecDepth 20000 in
theorem gX3_isOfLine_X3_isLetter : GoodIn wsX3_isOfLine (va_wsS RX3 211 yX3_isLetter wsX3_isLetter) := goodIn_app (goodIn_of _ (by decide +kernel)) ggX3_isOfLine_X3_isLetter
theorem dX3_isOfLine_0 : decode cX3_isOfLine 0 = .ok (.iload_n 0, 1) := by decide +kernel
theorem dX3_isOfLine_1 : decode cX3_isOfLine 1 = .ok (.bipush 46, 2) := by decide +kernel
theorem dX3_isOfLine_3 : decode cX3_isOfLine 3 = .ok (.if_icmp .eq 10, 3) := by decide +kernel
theorem dX3_isOfLine_6 : decode cX3_isOfLine 6 = .ok (.iload_n 0, 1) := by decide +kernel
theorem dX3_isOfLine_7 : decode cX3_isOfLine 7 = .ok (.invokestatic 211, 3) := by decide +kernel
theorem dX3_isOfLine_10 : decode cX3_isOfLine 10 = .ok (.ifCond .eq 7, 3) := by decide +kernel
theorem dX3_isOfLine_13 : decode cX3_isOfLine 13 = .ok (.iconst 1, 1) := by decide +kernel
theorem dX3_isOfLine_14 : decode cX3_isOfLine 14 = .ok (.goto 4, 3) := by decide +kernel
theorem dX3_isOfLine_17 : decode cX3_isOfLine 17 = .ok (.iconst 0, 1) := by decide +kernel
theorem dX3_isOfLine_18 : decode cX3_isOfLine 18 = .ok (.ireturn, 1) := by decide +kernel
set_option maxRecDepth 20000 in
theorem ggX4_init_X0_init : GoodIn wsX4_init wsX0_init := goodIn_r _ [13, 14, 2, 3, 15, 16, 17, 18, 19, 20, 21, 22, 23, 24, 25, 26, 27, 28, 29, 30, 31, 32, 33, 34, 43, 44, 45, 46, 47, 48, 49, 50, 51, 52, 60, 61, 62] (by decide +kernel) (by decide +kernel)
set_option maxRecDepth 20000 in
theorem gX4_init_X0_init_n9 : GoodIn wsX4_init (wsX0_init) := ggX4_init_X0_init
set_option maxRecDepth 20000 in
theorem ggX4_init_X1_init : GoodIn wsX4_init wsX1_init := goodIn_r _ [36, 37, 2, 3, 38, 39, 40, 20, 41, 42, 55, 56, 57, 58, 59] (by decide +kernel) (by decide +kernel)
set_option maxRecDepth 20000 in
theorem gX4_init_X1_init_n18 : GoodIn wsX4_init (wsX1_init) := ggX4_init_X1_init
theorem dX4_init_0 : decode cX4_init 0 = .ok (.aload_n 0, 1) := by decide +kernel
theorem dX4_init_1 : decode cX4_init 1 = .ok (.invokespecial 1, 3) := by decide +kernel
theorem dX4_init_4 : decode cX4_init 4 = .ok (.aload_n 0, 1) := by decide +kernel
theorem dX4_init_5 : decode cX4_init 5 = .ok (.new 7, 3) := by decide +kernel
theorem dX4_init_8 : decode cX4_init 8 = .ok (.dup, 1) := by decide +kernel
theorem dX4_init_9 : decode cX4_init 9 = .ok (.invokespecial 9, 3) := by decide +kernel
theorem dX4_init_12 : decode cX4_init 12 = .ok (.putfield 10, 3) := by decide +kernel
theorem dX4_init_15 : decode cX4_init 15 = .ok (.aload_n 0, 1) := by decide +kernel
theorem dX4_init_16 : decode cX4_init 16 = .ok (.new 16, 3) := by decide +kernel
theorem dX4_init_19 : decode cX4_init 19 = .ok (.dup, 1) := by decide +kernel
theorem dX4_init_20 : decode cX4_init 20 = .ok (.invokespecial 18, 3) := by decide +kernel
theorem dX4_init_23 : decode cX4_init 23 = .ok (.putfield 19, 3) := by decide +kernel
theorem dX4_init_26 : decode cX4_init 26 = .ok (.return_, 1) := by decide +kernel
set_option maxRecDepth 20000 in
theorem ggX4_begin_X0_begin : GoodIn wsX4_begin wsX0_begin := goodIn_r _ [7, 8, 9, 10, 11, 12, 13, 14, 15, 16, 17, 18, 19, 20, 21, 22, 6, 23, 24, 25, 26, 27, 28, 29, 30, 31, 32, 33, 34, 35, 36, 37, 38, 39, 40, 41, 42, 55, 56, 57, 58, 59, 60, 61, 62, 63, 64, 65, 66, 67] (by decide +kernel) (by decide +kernel)
set_option maxRecDepth 20000 in
theorem gX4_begin_X0_begin : GoodIn wsX4_begin (wsV RX4 23 RX0 yX0_begin wsX0_begin) := goodIn_app (goodIn_of _ (by decide +kernel)) ggX4_begin_X0_begin
set_option maxRecDepth 20000 in
theorem ggX4_begin_X1_begin : GoodIn wsX4_begin wsX1_begin := goodIn_r _ [47, 48, 49, 50, 51, 52, 17, 18, 19, 68, 69, 70, 71, 72] (by decide +kernel) (by decide +kernel)
set_option maxRecDepth 20000 in
theorem gX4_begin_X1_begin : GoodIn wsX4_begin (wsV RX4 27 RX1 yX1_begin wsX1_begin) := goodIn_app (goodIn_of _ (by decide +kernel)) ggX4_begin_X1_begin
theorem dX4_begin_0 : decode cX4_begin 0 = .ok (.aload_n 0, 1) := by decide +kernel
theorem dX4_begin_1 : decode cX4_begin 1 = .ok (.getfield 10, 3) := by decide +kernel
theorem dX4_begin_4 : decode cX4_begin 4 = .ok (.iload_n 1, 1) := by decide +kernel
theorem dX4_begin_5 : decode cX4_begin 5 = .ok (.iload_n 2, 1) := by decide +kernel
theorem dX4_begin_6 : decode cX4_begin 6 = .ok (.iload_n 3, 1) := by decide +kernel
theorem dX4_begin_7 : decode cX4_begin 7 = .ok (.invokevirtual 23, 3) := by decide +kernel
theorem dX4_begin_10 : decode cX4_begin 10 = .ok (.aload_n 0, 1) := by decide +kernel
theorem dX4_begin_11 : decode cX4_begin 11 = .ok (.getfield 19, 3) := by decide +kernel
theorem dX4_begin_14 : decode cX4_begin 14 = .ok (.invokevirtual 27, 3) := by decide +kernel
theorem dX4_begin_17 : decode cX4_begin 17 = .ok (.return_, 1) := by decide +kernel
set_option maxRecDepth 20000 in
theorem ggX4_copyFrom_X0_copyFrom : GoodIn wsX4_copyFrom wsX0_copyFrom := goodIn_r _ [7, 8, 9, 10, 11, 12, 13, 14, 15, 16, 17, 18, 19, 20, 21, 22, 23, 24, 25, 26, 27, 28, 29, 43, 44, 45, 46, 47, 48, 49, 50, 51, 52, 53, 54, 55] (by decide +kernel) (by decide +kernel)
set_option maxRecDepth 20000 in
theorem gX4_copyFrom_X0_copyFrom : GoodIn wsX4_copyFrom (wsV RX4 29 RX0 yX0_copyFrom wsX0_copyFrom) := goodIn_app (goodIn_of _ (by decide +kernel)) ggX4_copyFrom_X0_copyFrom
set_option maxRecDepth 20000 in
theorem ggX4_copyFrom_X1_copyFrom : GoodIn wsX4_copyFrom wsX1_copyFrom := goodIn_r _ [34, 35, 36, 37, 38, 39, 15, 16, 17, 40, 56, 57, 58, 59, 60] (by decide +kernel) (by decide +kernel)
set_option maxRecDepth 20000 in
theorem gX4_copyFrom_X1_copyFrom : GoodIn wsX4_copyFrom (wsV RX4 33 RX1 yX1_copyFrom wsX1_copyFrom) := goodIn_app (goodIn_of _ (by decide +kernel)) ggX4_copyFrom_X1_copyFrom
theorem dX4_copyFrom_0 : decode cX4_copyFrom 0 = .ok (.aload_n 0, 1) := by decide +kernel
theorem dX4_copyFrom_1 : decode cX4_copyFrom 1 = .ok (.getfield 10, 3) := by decide +kernel
theorem dX4_copyFrom_4 : decode cX4_copyFrom 4 = .ok (.aload_n 1, 1) := by decide +kernel
theorem dX4_copyFrom_5 : decode cX4_copyFrom 5 = .ok (.getfield 10, 3) := by decide +kernel
theorem dX4_copyFrom_8 : decode cX4_copyFrom 8 = .ok (.invokevirtual 29, 3) := by decide +kernel
theorem dX4_copyFrom_11 : decode cX4_copyFrom 11 = .ok (.aload_n 0, 1) := by decide +kernel
theorem dX4_copyFrom_12 : decode cX4_copyFrom 12 = .ok (.getfield 19, 3) := by decide +kernel
theorem dX4_copyFrom_15 : decode cX4_copyFrom 15 = .ok (.aload_n 1, 1) := by decide +kernel
theorem dX4_copyFrom_16 : decode cX4_copyFrom 16 = .ok (.getfield 19, 3) := by decide +kernel
theorem dX4_copyFrom_19 : decode cX4_copyFrom 19 = .ok (.invokevirtual 33, 3) := by decide +kernel
theorem dX4_copyFrom_22 : decode cX4_copyFrom 22 = .ok (.return_, 1) := by decide +kernel
theorem dX5_init_0 : decode cX5_init 0 = .ok (.aload_n 0, 1) := by decide +kernel
theorem dX5_init_1 : decode cX5_init 1 = .ok (.invokespecial 3, 3) := by decide +kernel
theorem dX5_init_4 : decode cX5_init 4 = .ok (.aload_n 0, 1) := by decide +kernel
theorem dX5_init_5 : decode cX5_init 5 = .ok (.sipush 384, 3) := by decide +kernel
theorem dX5_init_8 : decode cX5_init 8 = .ok (.newarray .int, 2) := by decide +kernel
theorem dX5_init_10 : decode cX5_init 10 = .ok (.putfield 9, 3) := by decide +kernel
theorem dX5_init_13 : decode cX5_init 13 = .ok (.aload_n 0, 1) := by decide +kernel
theorem dX5_init_14 : decode cX5_init 14 = .ok (.bipush 104, 2) := by decide +kernel
theorem dX5_init_16 : decode cX5_init 16 = .ok (.newarray .int, 2) := by decide +kernel
theorem dX5_init_18 : decode cX5_init 18 = .ok (.putfield 15, 3) := by decide +kernel
theorem dX5_init_21 : decode cX5_init 21 = .ok (.aload_n 0, 1) := by decide +kernel
theorem dX5_init_22 : decode cX5_init 22 = .ok (.iconst 4, 1) := by decide +kernel
theorem dX5_init_23 : decode cX5_init 23 = .ok (.newarray .int, 2) := by decide +kernel
theorem dX5_init_25 : decode cX5_init 25 = .ok (.putfield 18, 3) := by decide +kernel
theorem dX5_init_28 : decode cX5_init 28 = .ok (.aload_n 0, 1) := by decide +kernel
theorem dX5_init_29 : decode cX5_init 29 = .ok (.iconst 4, 1) := by decide +kernel
theorem dX5_init_30 : decode cX5_init 30 = .ok (.newarray .int, 2) := by decide +kernel
theorem dX5_init_32 : decode cX5_init 32 = .ok (.putfield 21, 3) := by decide +kernel
theorem dX5_init_35 : decode cX5_init 35 = .ok (.aload_n 0, 1) := by decide +kernel
theorem dX5_init_36 : decode cX5_init 36 = .ok (.bipush 104, 2) := by decide +kernel
theorem dX5_init_38 : decode cX5_init 38 = .ok (.newarray .int, 2) := by decide +kernel
theorem dX5_init_40 : decode cX5_init 40 = .ok (.putfield 24, 3) := by decide +kernel
theorem dX5_init_43 : decode cX5_init 43 = .ok (.return_, 1) := by decide +kernel
theorem dX5_target_0 : decode cX5_target 0 = .ok (.iload_n 0, 1) := by decide +kernel
theorem dX5_target_1 : decode cX5_target 1 = .ok (.bipush 96, 2) := by decide +kernel
theorem dX5_target_3 : decode cX5_target 3 = .ok (.imul, 1) := by decide +kernel
theorem dX5_target_4 : decode cX5_target 4 = .ok (.iload_n 2, 1) := by decide +kernel
theorem dX5_target_5 : decode cX5_target 5 = .ok (.bipush 12, 2) := by decide +kernel
theorem dX5_target_7 : decode cX5_target 7 = .ok (.imul, 1) := by decide +kernel
theorem dX5_target_8 : decode cX5_target 8 = .ok (.iadd, 1) := by decide +kernel
theorem dX5_target_9 : decode cX5_target 9 = .ok (.iload_n 1, 1) := by decide +kernel
theorem dX5_target_10 : decode cX5_target 10 = .ok (.iadd, 1) := by decide +kernel
theorem dX5_target_11 : decode cX5_target 11 = .ok (.ireturn, 1) := by decide +kernel
set_option maxRecDepth 20000 in
theorem ggX5_update_J7_fill_53178 : GoodIn wsX5_update wsJ7_fill_53178 := goodIn_r _ [8] (by decide +kernel) (by decide +kernel)
set_option maxRecDepth 20000 in
theorem gX5_update_J7_fill_53178 : GoodIn wsX5_update (va_wsS RX5 27 yJ7_fill_53178 wsJ7_fill_53178) := goodIn_app (goodIn_of _ (by decide +kernel)) ggX5_update_J7_fill_53178
set_option maxRecDepth 20000 in
theorem ggX5_update_X5_look : GoodIn wsX5_update wsX5_look := goodIn_r _ [13, 14, 15, 16, 1, 17, 18, 19, 20, 21, 22, 23, 24, 25, 26, 27, 28, 29, 30, 31, 32, 33, 34, 35, 36, 37, 38, 39, 40, 41, 42, 43, 44, 45, 46, 47, 48, 49, 12, 50, 60, 61, 62, 63, 64, 65, 66, 67, 68, 69, 55, 56, 57, 58, 59] (by decide +kernel) (by decide +kernel)
set_option maxRecDepth 20000 in
theorem gX5_update_X5_look : GoodIn wsX5_update (wsV RX5 39 RX5 yX5_look wsX5_look) := goodIn_app (goodIn_of _ (by decide +kernel)) ggX5_update_X5_look
set_option maxRecDepth 20000 in
theorem ggX5_update_X5_differentKinds : GoodIn wsX5_update wsX5_differentKinds := goodIn_r _ [54, 1, 55, 56, 57, 58, 59] (by decide +kernel) (by decide +kernel)
set_option maxRecDepth 20000 in
theorem gX5_update_X5_differentKinds : GoodIn wsX5_update (wsV RX5 43 RX5 yX5_differentKinds wsX5_differentKinds) := goodIn_app (goodIn_of _ (by decide +kernel)) ggX5_update_X5_differentKinds
theorem dX5_update_0 : decode cX5_update 0 = .ok (.aload_n 0, 1) := by decide +kernel
theorem dX5_update_1 : decode cX5_update 1 = .ok (.getfield 15, 3) := by decide +kernel
theorem dX5_update_4 : decode cX5_update 4 = .ok (.iconst 0, 1) := by decide +kernel
theorem dX5_update_5 : decode cX5_update 5 = .ok (.invokestatic 27, 3) := by decide +kernel
theorem dX5_update_8 : decode cX5_update 8 = .ok (.aload_n 0, 1) := by decide +kernel
theorem dX5_update_9 : decode cX5_update 9 = .ok (.getfield 24, 3) := by decide +kernel
theorem dX5_update_12 : decode cX5_update 12 = .ok (.iconst (-1), 1) := by decide +kernel
theorem dX5_update_13 : decode cX5_update 13 = .ok (.invokestatic 27, 3) := by decide +kernel
theorem dX5_update_16 : decode cX5_update 16 = .ok (.iconst 0, 1) := by decide +kernel
theorem dX5_update_17 : decode cX5_update 17 = .ok (.istore_n 2, 1) := by decide +kernel
theorem dX5_update_18 : decode cX5_update 18 = .ok (.iload_n 2, 1) := by decide +kernel
theorem dX5_update_19 : decode cX5_update 19 = .ok (.aload_n 1, 1) := by decide +kernel
theorem dX5_update_20 : decode cX5_update 20 = .ok (.getfield 33, 3) := by decide +kernel
theorem dX5_update_23 : decode cX5_update 23 = .ok (.if_icmp .ge 26, 3) := by decide +kernel
theorem dX5_update_26 : decode cX5_update 26 = .ok (.aload_n 0, 1) := by decide +kernel
theorem dX5_update_27 : decode cX5_update 27 = .ok (.aload_n 1, 1) := by decide +kernel
theorem dX5_update_28 : decode cX5_update 28 = .ok (.iload_n 2, 1) := by decide +kernel
theorem dX5_update_29 : decode cX5_update 29 = .ok (.invokevirtual 39, 3) := by decide +kernel
theorem dX5_update_32 : decode cX5_update 32 = .ok (.aload_n 0, 1) := by decide +kernel
theorem dX5_update_33 : decode cX5_update 33 = .ok (.getfield 18, 3) := by decide +kernel
theorem dX5_update_36 : decode cX5_update 36 = .ok (.iload_n 2, 1) := by decide +kernel
theorem dX5_update_37 : decode cX5_update 37 = .ok (.aload_n 0, 1) := by decide +kernel
theorem dX5_update_38 : decode cX5_update 38 = .ok (.iload_n 2, 1) := by decide +kernel
theorem dX5_update_39 : decode cX5_update 39 = .ok (.invokevirtual 43, 3) := by decide +kernel
theorem dX5_update_42 : decode cX5_update 42 = .ok (.iastore, 1) := by decide +kernel
theorem dX5_update_43 : decode cX5_update 43 = .ok (.iinc 2 1, 3) := by decide +kernel
theorem dX5_update_46 : decode cX5_update 46 = .ok (.goto (-28), 3) := by decide +kernel
theorem dX5_update_49 : decode cX5_update 49 = .ok (.return_, 1) := by decide +kernel
set_option maxRecDepth 20000 in
theorem ggX5_look_X0_seenFrom : GoodIn wsX5_look wsX0_seenFrom := goodIn_r _ [10, 11, 12, 13, 14, 15, 16, 17, 18, 9, 19, 20, 21, 22, 23, 24, 25, 26, 27, 28, 29, 30, 31, 32, 33, 34, 35, 40, 41, 42, 43, 44, 45, 46, 47, 48, 49] (by decide +kernel) (by decide +kernel)
set_option maxRecDepth 20000 in
theorem gX5_look_X0_seenFrom : GoodIn wsX5_look (wsV RX5 53 RX0 yX0_seenFrom wsX0_seenFrom) := goodIn_app (goodIn_of _ (by decide +kernel)) ggX5_look_X0_seenFrom
set_option maxRecDepth 20000 in
theorem ggX5_look_X5_target : GoodIn wsX5_look wsX5_target := goodIn_r _ [39] (by decide +kernel) (by decide +kernel)
set_option maxRecDepth 20000 in
theorem gX5_look_X5_target : GoodIn wsX5_look (va_wsS RX5 57 yX5_target wsX5_target) := goodIn_app (goodIn_of _ (by decide +kernel)) ggX5_look_X5_target
set_option maxRecDepth 20000 in
theorem ggX5_look_X6_quotient : GoodIn wsX5_look wsX6_quotient := goodIn_r _ [28] (by decide +kernel) (by decide +kernel)
set_option maxRecDepth 20000 in
theorem gX5_look_X6_quotient_n60 : GoodIn wsX5_look (wsX6_quotient) := ggX5_look_X6_quotient
theorem dX5_look_0 : decode cX5_look 0 = .ok (.iconst 0, 1) := by decide +kernel
theorem dX5_look_1 : decode cX5_look 1 = .ok (.istore_n 3, 1) := by decide +kernel
theorem dX5_look_2 : decode cX5_look 2 = .ok (.iconst 0, 1) := by decide +kernel
theorem dX5_look_3 : decode cX5_look 3 = .ok (.istore 4, 2) := by decide +kernel
theorem dX5_look_5 : decode cX5_look 5 = .ok (.iload 4, 2) := by decide +kernel
theorem dX5_look_7 : decode cX5_look 7 = .ok (.aload_n 1, 1) := by decide +kernel
theorem dX5_look_8 : decode cX5_look 8 = .ok (.getfield 47, 3) := by decide +kernel
theorem dX5_look_11 : decode cX5_look 11 = .ok (.if_icmp .ge 82, 3) := by decide +kernel
theorem dX5_look_14 : decode cX5_look 14 = .ok (.iconst 0, 1) := by decide +kernel
theorem dX5_look_15 : decode cX5_look 15 = .ok (.istore 5, 2) := by decide +kernel
theorem dX5_look_17 : decode cX5_look 17 = .ok (.iload 5, 2) := by decide +kernel
theorem dX5_look_19 : decode cX5_look 19 = .ok (.aload_n 1, 1) := by decide +kernel
theorem dX5_look_20 : decode cX5_look 20 = .ok (.getfield 50, 3) := by decide +kernel
theorem dX5_look_23 : decode cX5_look 23 = .ok (.if_icmp .ge 64, 3) := by decide +kernel
theorem dX5_look_26 : decode cX5_look 26 = .ok (.aload_n 1, 1) := by decide +kernel
theorem dX5_look_27 : decode cX5_look 27 = .ok (.iload_n 2, 1) := by decide +kernel
theorem dX5_look_28 : decode cX5_look 28 = .ok (.iload 5, 2) := by decide +kernel
theorem dX5_look_30 : decode cX5_look 30 = .ok (.iload 4, 2) := by decide +kernel
theorem dX5_look_32 : decode cX5_look 32 = .ok (.invokevirtual 53, 3) := by decide +kernel
theorem dX5_look_35 : decode cX5_look 35 = .ok (.istore 6, 2) := by decide +kernel
theorem dX5_look_37 : decode cX5_look 37 = .ok (.aload_n 0, 1) := by decide +kernel
theorem dX5_look_38 : decode cX5_look 38 = .ok (.getfield 9, 3) := by decide +kernel
theorem dX5_look_41 : decode cX5_look 41 = .ok (.iload_n 2, 1) := by decide +kernel
theorem dX5_look_42 : decode cX5_look 42 = .ok (.iload 5, 2) := by decide +kernel
theorem dX5_look_44 : decode cX5_look 44 = .ok (.iload 4, 2) := by decide +kernel
theorem dX5_look_46 : decode cX5_look 46 = .ok (.invokestatic 57, 3) := by decide +kernel
theorem dX5_look_49 : decode cX5_look 49 = .ok (.iload 6, 2) := by decide +kernel
theorem dX5_look_51 : decode cX5_look 51 = .ok (.iastore, 1) := by decide +kernel
theorem dX5_look_52 : decode cX5_look 52 = .ok (.aload_n 0, 1) := by decide +kernel
theorem dX5_look_53 : decode cX5_look 53 = .ok (.getfield 15, 3) := by decide +kernel
theorem dX5_look_56 : decode cX5_look 56 = .ok (.iload_n 2, 1) := by decide +kernel
theorem dX5_look_57 : decode cX5_look 57 = .ok (.bipush 26, 2) := by decide +kernel
theorem dX5_look_59 : decode cX5_look 59 = .ok (.imul, 1) := by decide +kernel
theorem dX5_look_60 : decode cX5_look 60 = .ok (.iload 6, 2) := by decide +kernel
theorem dX5_look_62 : decode cX5_look 62 = .ok (.bipush 100, 2) := by decide +kernel
theorem dX5_look_64 : decode cX5_look 64 = .ok (.irem, 1) := by decide +kernel
theorem dX5_look_65 : decode cX5_look 65 = .ok (.iadd, 1) := by decide +kernel
theorem dX5_look_66 : decode cX5_look 66 = .ok (.dup2, 1) := by decide +kernel
theorem dX5_look_67 : decode cX5_look 67 = .ok (.iaload, 1) := by decide +kernel
theorem dX5_look_68 : decode cX5_look 68 = .ok (.iconst 1, 1) := by decide +kernel
theorem dX5_look_69 : decode cX5_look 69 = .ok (.iadd, 1) := by decide +kernel
theorem dX5_look_70 : decode cX5_look 70 = .ok (.iastore, 1) := by decide +kernel
theorem dX5_look_71 : decode cX5_look 71 = .ok (.iload_n 3, 1) := by decide +kernel
theorem dX5_look_72 : decode cX5_look 72 = .ok (.iload 6, 2) := by decide +kernel
theorem dX5_look_74 : decode cX5_look 74 = .ok (.bipush 100, 2) := by decide +kernel
theorem dX5_look_76 : decode cX5_look 76 = .ok (.idiv, 1) := by decide +kernel
theorem dX5_look_77 : decode cX5_look 77 = .ok (.iconst 1, 1) := by decide +kernel
theorem dX5_look_78 : decode cX5_look 78 = .ok (.iadd, 1) := by decide +kernel
theorem dX5_look_79 : decode cX5_look 79 = .ok (.iadd, 1) := by decide +kernel
theorem dX5_look_80 : decode cX5_look 80 = .ok (.istore_n 3, 1) := by decide +kernel
theorem dX5_look_81 : decode cX5_look 81 = .ok (.iinc 5 1, 3) := by decide +kernel
theorem dX5_look_84 : decode cX5_look 84 = .ok (.goto (-67), 3) := by decide +kernel
theorem dX5_look_87 : decode cX5_look 87 = .ok (.iinc 4 1, 3) := by decide +kernel
theorem dX5_look_90 : decode cX5_look 90 = .ok (.goto (-85), 3) := by decide +kernel
theorem dX5_look_93 : decode cX5_look 93 = .ok (.aload_n 0, 1) := by decide +kernel
theorem dX5_look_94 : decode cX5_look 94 = .ok (.getfield 21, 3) := by decide +kernel
theorem dX5_look_97 : decode cX5_look 97 = .ok (.iload_n 2, 1) := by decide +kernel
theorem dX5_look_98 : decode cX5_look 98 = .ok (.iload_n 3, 1) := by decide +kernel
theorem dX5_look_99 : decode cX5_look 99 = .ok (.i2l, 1) := by decide +kernel
theorem dX5_look_100 : decode cX5_look 100 = .ok (.aload_n 1, 1) := by decide +kernel
theorem dX5_look_101 : decode cX5_look 101 = .ok (.getfield 50, 3) := by decide +kernel
theorem dX5_look_104 : decode cX5_look 104 = .ok (.aload_n 1, 1) := by decide +kernel
theorem dX5_look_105 : decode cX5_look 105 = .ok (.getfield 47, 3) := by decide +kernel
theorem dX5_look_108 : decode cX5_look 108 = .ok (.imul, 1) := by decide +kernel
theorem dX5_look_109 : decode cX5_look 109 = .ok (.i2l, 1) := by decide +kernel
theorem dX5_look_110 : decode cX5_look 110 = .ok (.invokestatic 60, 3) := by decide +kernel
theorem dX5_look_113 : decode cX5_look 113 = .ok (.l2i, 1) := by decide +kernel
theorem dX5_look_114 : decode cX5_look 114 = .ok (.iastore, 1) := by decide +kernel
theorem dX5_look_115 : decode cX5_look 115 = .ok (.return_, 1) := by decide +kernel
theorem dX5_differentKinds_0 : decode cX5_differentKinds 0 = .ok (.iconst 0, 1) := by decide +kernel
theorem dX5_differentKinds_1 : decode cX5_differentKinds 1 = .ok (.istore_n 2, 1) := by decide +kernel
theorem dX5_differentKinds_2 : decode cX5_differentKinds 2 = .ok (.iconst 0, 1) := by decide +kernel
theorem dX5_differentKinds_3 : decode cX5_differentKinds 3 = .ok (.istore_n 3, 1) := by decide +kernel
theorem dX5_differentKinds_4 : decode cX5_differentKinds 4 = .ok (.iload_n 3, 1) := by decide +kernel
theorem dX5_differentKinds_5 : decode cX5_differentKinds 5 = .ok (.bipush 26, 2) := by decide +kernel
theorem dX5_differentKinds_7 : decode cX5_differentKinds 7 = .ok (.if_icmp .ge 26, 3) := by decide +kernel
theorem dX5_differentKinds_10 : decode cX5_differentKinds 10 = .ok (.aload_n 0, 1) := by decide +kernel
theorem dX5_differentKinds_11 : decode cX5_differentKinds 11 = .ok (.getfield 15, 3) := by decide +kernel
theorem dX5_differentKinds_14 : decode cX5_differentKinds 14 = .ok (.iload_n 1, 1) := by decide +kernel
theorem dX5_differentKinds_15 : decode cX5_differentKinds 15 = .ok (.bipush 26, 2) := by decide +kernel
theorem dX5_differentKinds_17 : decode cX5_differentKinds 17 = .ok (.imul, 1) := by decide +kernel
theorem dX5_differentKinds_18 : decode cX5_differentKinds 18 = .ok (.iload_n 3, 1) := by decide +kernel
theorem dX5_differentKinds_19 : decode cX5_differentKinds 19 = .ok (.iadd, 1) := by decide +kernel
theorem dX5_differentKinds_20 : decode cX5_differentKinds 20 = .ok (.iaload, 1) := by decide +kernel
theorem dX5_differentKinds_21 : decode cX5_differentKinds 21 = .ok (.ifCond .le 6, 3) := by decide +kernel
theorem dX5_differentKinds_24 : decode cX5_differentKinds 24 = .ok (.iinc 2 1, 3) := by decide +kernel
theorem dX5_differentKinds_27 : decode cX5_differentKinds 27 = .ok (.iinc 3 1, 3) := by decide +kernel
theorem dX5_differentKinds_30 : decode cX5_differentKinds 30 = .ok (.goto (-26), 3) := by decide +kernel
theorem dX5_differentKinds_33 : decode cX5_differentKinds 33 = .ok (.iload_n 2, 1) := by decide +kernel
theorem dX5_differentKinds_34 : decode cX5_differentKinds 34 = .ok (.ireturn, 1) := by decide +kernel
theorem dX5_countInAll_0 : decode cX5_countInAll 0 = .ok (.iconst 0, 1) := by decide +kernel
theorem dX5_countInAll_1 : decode cX5_countInAll 1 = .ok (.istore_n 3, 1) := by decide +kernel
theorem dX5_countInAll_2 : decode cX5_countInAll 2 = .ok (.iconst 0, 1) := by decide +kernel
theorem dX5_countInAll_3 : decode cX5_countInAll 3 = .ok (.istore 4, 2) := by decide +kernel
theorem dX5_countInAll_5 : decode cX5_countInAll 5 = .ok (.iload 4, 2) := by decide +kernel
theorem dX5_countInAll_7 : decode cX5_countInAll 7 = .ok (.aload_n 1, 1) := by decide +kernel
theorem dX5_countInAll_8 : decode cX5_countInAll 8 = .ok (.getfield 33, 3) := by decide +kernel
theorem dX5_countInAll_11 : decode cX5_countInAll 11 = .ok (.if_icmp .ge 24, 3) := by decide +kernel
theorem dX5_countInAll_14 : decode cX5_countInAll 14 = .ok (.iload_n 3, 1) := by decide +kernel
theorem dX5_countInAll_15 : decode cX5_countInAll 15 = .ok (.aload_n 0, 1) := by decide +kernel
theorem dX5_countInAll_16 : decode cX5_countInAll 16 = .ok (.getfield 15, 3) := by decide +kernel
theorem dX5_countInAll_19 : decode cX5_countInAll 19 = .ok (.iload 4, 2) := by decide +kernel
theorem dX5_countInAll_21 : decode cX5_countInAll 21 = .ok (.bipush 26, 2) := by decide +kernel
theorem dX5_countInAll_23 : decode cX5_countInAll 23 = .ok (.imul, 1) := by decide +kernel
theorem dX5_countInAll_24 : decode cX5_countInAll 24 = .ok (.iload_n 2, 1) := by decide +kernel
theorem dX5_countInAll_25 : decode cX5_countInAll 25 = .ok (.iadd, 1) := by decide +kernel
theorem dX5_countInAll_26 : decode cX5_countInAll 26 = .ok (.iaload, 1) := by decide +kernel
theorem dX5_countInAll_27 : decode cX5_countInAll 27 = .ok (.iadd, 1) := by decide +kernel
theorem dX5_countInAll_28 : decode cX5_countInAll 28 = .ok (.istore_n 3, 1) := by decide +kernel
theorem dX5_countInAll_29 : decode cX5_countInAll 29 = .ok (.iinc 4 1, 3) := by decide +kernel
theorem dX5_countInAll_32 : decode cX5_countInAll 32 = .ok (.goto (-27), 3) := by decide +kernel
theorem dX5_countInAll_35 : decode cX5_countInAll 35 = .ok (.iload_n 3, 1) := by decide +kernel
theorem dX5_countInAll_36 : decode cX5_countInAll 36 = .ok (.ireturn, 1) := by decide +kernel
set_option maxRecDepth 20000 in
theorem ggX5_targetsOf_X5_target : GoodIn wsX5_targetsOf wsX5_target := goodIn_r _ [8] (by decide +kernel) (by decide +kernel)
set_option maxRecDepth 20000 in
theorem gX5_targetsOf_X5_target : GoodIn wsX5_targetsOf (va_wsS RX5 57 yX5_target wsX5_target) := goodIn_app (goodIn_of _ (by decide +kernel)) ggX5_targetsOf_X5_target
theorem dX5_targetsOf_0 : decode cX5_targetsOf 0 = .ok (.iconst 0, 1) := by decide +kernel
theorem dX5_targetsOf_1 : decode cX5_targetsOf 1 = .ok (.istore_n 3, 1) := by decide +kernel
theorem dX5_targetsOf_2 : decode cX5_targetsOf 2 = .ok (.iconst 0, 1) := by decide +kernel
theorem dX5_targetsOf_3 : decode cX5_targetsOf 3 = .ok (.istore 4, 2) := by decide +kernel
theorem dX5_targetsOf_5 : decode cX5_targetsOf 5 = .ok (.iload 4, 2) := by decide +kernel
theorem dX5_targetsOf_7 : decode cX5_targetsOf 7 = .ok (.aload_n 1, 1) := by decide +kernel
theorem dX5_targetsOf_8 : decode cX5_targetsOf 8 = .ok (.getfield 33, 3) := by decide +kernel
theorem dX5_targetsOf_11 : decode cX5_targetsOf 11 = .ok (.if_icmp .ge 69, 3) := by decide +kernel
theorem dX5_targetsOf_14 : decode cX5_targetsOf 14 = .ok (.iconst 0, 1) := by decide +kernel
theorem dX5_targetsOf_15 : decode cX5_targetsOf 15 = .ok (.istore 5, 2) := by decide +kernel
theorem dX5_targetsOf_17 : decode cX5_targetsOf 17 = .ok (.iload 5, 2) := by decide +kernel
theorem dX5_targetsOf_19 : decode cX5_targetsOf 19 = .ok (.aload_n 1, 1) := by decide +kernel
theorem dX5_targetsOf_20 : decode cX5_targetsOf 20 = .ok (.getfield 47, 3) := by decide +kernel
theorem dX5_targetsOf_23 : decode cX5_targetsOf 23 = .ok (.if_icmp .ge 51, 3) := by decide +kernel
theorem dX5_targetsOf_26 : decode cX5_targetsOf 26 = .ok (.iconst 0, 1) := by decide +kernel
theorem dX5_targetsOf_27 : decode cX5_targetsOf 27 = .ok (.istore 6, 2) := by decide +kernel
theorem dX5_targetsOf_29 : decode cX5_targetsOf 29 = .ok (.iload 6, 2) := by decide +kernel
theorem dX5_targetsOf_31 : decode cX5_targetsOf 31 = .ok (.aload_n 1, 1) := by decide +kernel
theorem dX5_targetsOf_32 : decode cX5_targetsOf 32 = .ok (.getfield 50, 3) := by decide +kernel
theorem dX5_targetsOf_35 : decode cX5_targetsOf 35 = .ok (.if_icmp .ge 33, 3) := by decide +kernel
theorem dX5_targetsOf_38 : decode cX5_targetsOf 38 = .ok (.aload_n 0, 1) := by decide +kernel
theorem dX5_targetsOf_39 : decode cX5_targetsOf 39 = .ok (.getfield 9, 3) := by decide +kernel
theorem dX5_targetsOf_42 : decode cX5_targetsOf 42 = .ok (.iload 4, 2) := by decide +kernel
theorem dX5_targetsOf_44 : decode cX5_targetsOf 44 = .ok (.iload 6, 2) := by decide +kernel
theorem dX5_targetsOf_46 : decode cX5_targetsOf 46 = .ok (.iload 5, 2) := by decide +kernel
theorem dX5_targetsOf_48 : decode cX5_targetsOf 48 = .ok (.invokestatic 57, 3) := by decide +kernel
theorem dX5_targetsOf_51 : decode cX5_targetsOf 51 = .ok (.iaload, 1) := by decide +kernel
theorem dX5_targetsOf_52 : decode cX5_targetsOf 52 = .ok (.bipush 100, 2) := by decide +kernel
theorem dX5_targetsOf_54 : decode cX5_targetsOf 54 = .ok (.idiv, 1) := by decide +kernel
theorem dX5_targetsOf_55 : decode cX5_targetsOf 55 = .ok (.iload_n 2, 1) := by decide +kernel
theorem dX5_targetsOf_56 : decode cX5_targetsOf 56 = .ok (.if_icmp .ne 6, 3) := by decide +kernel
theorem dX5_targetsOf_59 : decode cX5_targetsOf 59 = .ok (.iinc 3 1, 3) := by decide +kernel
theorem dX5_targetsOf_62 : decode cX5_targetsOf 62 = .ok (.iinc 6 1, 3) := by decide +kernel
theorem dX5_targetsOf_65 : decode cX5_targetsOf 65 = .ok (.goto (-36), 3) := by decide +kernel
theorem dX5_targetsOf_68 : decode cX5_targetsOf 68 = .ok (.iinc 5 1, 3) := by decide +kernel
theorem dX5_targetsOf_71 : decode cX5_targetsOf 71 = .ok (.goto (-54), 3) := by decide +kernel
theorem dX5_targetsOf_74 : decode cX5_targetsOf 74 = .ok (.iinc 4 1, 3) := by decide +kernel
theorem dX5_targetsOf_77 : decode cX5_targetsOf 77 = .ok (.goto (-72), 3) := by decide +kernel
theorem dX5_targetsOf_80 : decode cX5_targetsOf 80 = .ok (.iload_n 3, 1) := by decide +kernel
theorem dX5_targetsOf_81 : decode cX5_targetsOf 81 = .ok (.ireturn, 1) := by decide +kernel
set_option maxRecDepth 20000 in
theorem ggX5_reason_X0_crossing : GoodIn wsX5_reason wsX0_crossing := goodIn_r _ [10, 11, 12, 13, 14, 26, 27, 28, 29, 30, 31, 32, 33, 34, 35] (by decide +kernel) (by decide +kernel)
set_option maxRecDepth 20000 in
theorem gX5_reason_X0_crossing : GoodIn wsX5_reason (wsV RX5 67 RX0 yX0_crossing wsX0_crossing) := goodIn_app (goodIn_of _ (by decide +kernel)) ggX5_reason_X0_crossing
set_option maxRecDepth 20000 in
theorem ggX5_reason_X5_target : GoodIn wsX5_reason wsX5_target := goodIn_r _ [18] (by decide +kernel) (by decide +kernel)
set_option maxRecDepth 20000 in
theorem gX5_reason_X5_target : GoodIn wsX5_reason (va_wsS RX5 57 yX5_target wsX5_target) := goodIn_app (goodIn_of _ (by decide +kernel)) ggX5_reason_X5_target
set_option maxRecDepth 20000 in
theorem ggX5_reason_X0_kindAt : GoodIn wsX5_reason wsX0_kindAt := goodIn_r _ [22, 23, 24, 25, 26, 27, 28, 29, 30, 31, 32, 33, 34, 35] (by decide +kernel) (by decide +kernel)
set_option maxRecDepth 20000 in
theorem gX5_reason_X0_kindAt : GoodIn wsX5_reason (wsV RX5 73 RX0 yX0_kindAt wsX0_kindAt) := goodIn_app (goodIn_of _ (by decide +kernel)) ggX5_reason_X0_kindAt
theorem dX5_reason_0 : decode cX5_reason 0 = .ok (.iconst 0, 1) := by decide +kernel
theorem dX5_reason_1 : decode cX5_reason 1 = .ok (.istore 6, 2) := by decide +kernel
theorem dX5_reason_3 : decode cX5_reason 3 = .ok (.iconst 0, 1) := by decide +kernel
theorem dX5_reason_4 : decode cX5_reason 4 = .ok (.istore 7, 2) := by decide +kernel
theorem dX5_reason_6 : decode cX5_reason 6 = .ok (.iload 7, 2) := by decide +kernel
theorem dX5_reason_8 : decode cX5_reason 8 = .ok (.aload_n 1, 1) := by decide +kernel
theorem dX5_reason_9 : decode cX5_reason 9 = .ok (.getfield 47, 3) := by decide +kernel
theorem dX5_reason_12 : decode cX5_reason 12 = .ok (.if_icmp .ge 88, 3) := by decide +kernel
theorem dX5_reason_15 : decode cX5_reason 15 = .ok (.iconst 0, 1) := by decide +kernel
theorem dX5_reason_16 : decode cX5_reason 16 = .ok (.istore 8, 2) := by decide +kernel
theorem dX5_reason_18 : decode cX5_reason 18 = .ok (.iload 8, 2) := by decide +kernel
theorem dX5_reason_20 : decode cX5_reason 20 = .ok (.aload_n 1, 1) := by decide +kernel
theorem dX5_reason_21 : decode cX5_reason 21 = .ok (.getfield 50, 3) := by decide +kernel
theorem dX5_reason_24 : decode cX5_reason 24 = .ok (.if_icmp .ge 70, 3) := by decide +kernel
theorem dX5_reason_27 : decode cX5_reason 27 = .ok (.aload_n 1, 1) := by decide +kernel
theorem dX5_reason_28 : decode cX5_reason 28 = .ok (.aload_n 1, 1) := by decide +kernel
theorem dX5_reason_29 : decode cX5_reason 29 = .ok (.getfield 64, 3) := by decide +kernel
theorem dX5_reason_32 : decode cX5_reason 32 = .ok (.iload_n 2, 1) := by decide +kernel
theorem dX5_reason_33 : decode cX5_reason 33 = .ok (.iaload, 1) := by decide +kernel
theorem dX5_reason_34 : decode cX5_reason 34 = .ok (.iload 8, 2) := by decide +kernel
theorem dX5_reason_36 : decode cX5_reason 36 = .ok (.iload_n 3, 1) := by decide +kernel
theorem dX5_reason_37 : decode cX5_reason 37 = .ok (.invokevirtual 67, 3) := by decide +kernel
theorem dX5_reason_40 : decode cX5_reason 40 = .ok (.iload 4, 2) := by decide +kernel
theorem dX5_reason_42 : decode cX5_reason 42 = .ok (.if_icmp .ne 46, 3) := by decide +kernel
theorem dX5_reason_45 : decode cX5_reason 45 = .ok (.aload_n 1, 1) := by decide +kernel
theorem dX5_reason_46 : decode cX5_reason 46 = .ok (.aload_n 1, 1) := by decide +kernel
theorem dX5_reason_47 : decode cX5_reason 47 = .ok (.getfield 70, 3) := by decide +kernel
theorem dX5_reason_50 : decode cX5_reason 50 = .ok (.iload_n 2, 1) := by decide +kernel
theorem dX5_reason_51 : decode cX5_reason 51 = .ok (.iaload, 1) := by decide +kernel
theorem dX5_reason_52 : decode cX5_reason 52 = .ok (.iload 7, 2) := by decide +kernel
theorem dX5_reason_54 : decode cX5_reason 54 = .ok (.iload_n 3, 1) := by decide +kernel
theorem dX5_reason_55 : decode cX5_reason 55 = .ok (.invokevirtual 67, 3) := by decide +kernel
theorem dX5_reason_58 : decode cX5_reason 58 = .ok (.iload 5, 2) := by decide +kernel
theorem dX5_reason_60 : decode cX5_reason 60 = .ok (.if_icmp .ne 28, 3) := by decide +kernel
theorem dX5_reason_63 : decode cX5_reason 63 = .ok (.iconst 1, 1) := by decide +kernel
theorem dX5_reason_64 : decode cX5_reason 64 = .ok (.istore 6, 2) := by decide +kernel
theorem dX5_reason_66 : decode cX5_reason 66 = .ok (.aload_n 0, 1) := by decide +kernel
theorem dX5_reason_67 : decode cX5_reason 67 = .ok (.getfield 9, 3) := by decide +kernel
theorem dX5_reason_70 : decode cX5_reason 70 = .ok (.iload_n 2, 1) := by decide +kernel
theorem dX5_reason_71 : decode cX5_reason 71 = .ok (.iload 8, 2) := by decide +kernel
theorem dX5_reason_73 : decode cX5_reason 73 = .ok (.iload 7, 2) := by decide +kernel
theorem dX5_reason_75 : decode cX5_reason 75 = .ok (.invokestatic 57, 3) := by decide +kernel
theorem dX5_reason_78 : decode cX5_reason 78 = .ok (.iaload, 1) := by decide +kernel
theorem dX5_reason_79 : decode cX5_reason 79 = .ok (.bipush 100, 2) := by decide +kernel
theorem dX5_reason_81 : decode cX5_reason 81 = .ok (.idiv, 1) := by decide +kernel
theorem dX5_reason_82 : decode cX5_reason 82 = .ok (.iload_n 3, 1) := by decide +kernel
theorem dX5_reason_83 : decode cX5_reason 83 = .ok (.if_icmp .ne 5, 3) := by decide +kernel
theorem dX5_reason_86 : decode cX5_reason 86 = .ok (.iconst 0, 1) := by decide +kernel
theorem dX5_reason_87 : decode cX5_reason 87 = .ok (.ireturn, 1) := by decide +kernel
theorem dX5_reason_88 : decode cX5_reason 88 = .ok (.iinc 8 1, 3) := by decide +kernel
theorem dX5_reason_91 : decode cX5_reason 91 = .ok (.goto (-73), 3) := by decide +kernel
theorem dX5_reason_94 : decode cX5_reason 94 = .ok (.iinc 7 1, 3) := by decide +kernel
theorem dX5_reason_97 : decode cX5_reason 97 = .ok (.goto (-91), 3) := by decide +kernel
theorem dX5_reason_100 : decode cX5_reason 100 = .ok (.aload_n 1, 1) := by decide +kernel
theorem dX5_reason_101 : decode cX5_reason 101 = .ok (.iload_n 3, 1) := by decide +kernel
theorem dX5_reason_102 : decode cX5_reason 102 = .ok (.iload 4, 2) := by decide +kernel
theorem dX5_reason_104 : decode cX5_reason 104 = .ok (.iload 5, 2) := by decide +kernel
theorem dX5_reason_106 : decode cX5_reason 106 = .ok (.invokevirtual 73, 3) := by decide +kernel
theorem dX5_reason_109 : decode cX5_reason 109 = .ok (.iconst (-1), 1) := by decide +kernel
theorem dX5_reason_110 : decode cX5_reason 110 = .ok (.if_icmp .ne 5, 3) := by decide +kernel
theorem dX5_reason_113 : decode cX5_reason 113 = .ok (.iconst 1, 1) := by decide +kernel
theorem dX5_reason_114 : decode cX5_reason 114 = .ok (.ireturn, 1) := by decide +kernel
theorem dX5_reason_115 : decode cX5_reason 115 = .ok (.iload 6, 2) := by decide +kernel
theorem dX5_reason_117 : decode cX5_reason 117 = .ok (.ifCond .eq 7, 3) := by decide +kernel
theorem dX5_reason_120 : decode cX5_reason 120 = .ok (.iconst 3, 1) := by decide +kernel
theorem dX5_reason_121 : decode cX5_reason 121 = .ok (.goto 4, 3) := by decide +kernel
theorem dX5_reason_124 : decode cX5_reason 124 = .ok (.iconst 2, 1) := by decide +kernel
theorem dX5_reason_125 : decode cX5_reason 125 = .ok (.ireturn, 1) := by decide +kernel
set_option maxRecDepth 20000 in
theorem ggX5_priceFor_X2_value : GoodIn wsX5_priceFor wsX2_value := goodIn_r _ [10, 11, 12, 13, 14, 15, 9, 16, 17, 18, 19, 20, 21, 22, 23, 24, 25, 26, 27, 28, 29, 30, 31, 32, 33, 49, 50, 51] (by decide +kernel) (by decide +kernel)
set_option maxRecDepth 20000 in
theorem gX5_priceFor_X2_value : GoodIn wsX5_priceFor (wsV RX5 80 RX2 yX2_value wsX2_value) := goodIn_app (goodIn_of _ (by decide +kernel)) ggX5_priceFor_X2_value
set_option maxRecDepth 20000 in
theorem ggX5_priceFor_X6_limited : GoodIn wsX5_priceFor wsX6_limited := goodIn_r _ [21, 22, 23, 24, 25, 26, 27, 28] (by decide +kernel) (by decide +kernel)
set_option maxRecDepth 20000 in
theorem gX5_priceFor_X6_limited_n86 : GoodIn wsX5_priceFor (wsX6_limited) := ggX5_priceFor_X6_limited
theorem dX5_priceFor_0 : decode cX5_priceFor 0 = .ok (.iload_n 3, 1) := by decide +kernel
theorem dX5_priceFor_1 : decode cX5_priceFor 1 = .ok (.bipush 26, 2) := by decide +kernel
theorem dX5_priceFor_3 : decode cX5_priceFor 3 = .ok (.imul, 1) := by decide +kernel
theorem dX5_priceFor_4 : decode cX5_priceFor 4 = .ok (.iload_n 2, 1) := by decide +kernel
theorem dX5_priceFor_5 : decode cX5_priceFor 5 = .ok (.iadd, 1) := by decide +kernel
theorem dX5_priceFor_6 : decode cX5_priceFor 6 = .ok (.istore 4, 2) := by decide +kernel
theorem dX5_priceFor_8 : decode cX5_priceFor 8 = .ok (.aload_n 0, 1) := by decide +kernel
theorem dX5_priceFor_9 : decode cX5_priceFor 9 = .ok (.getfield 24, 3) := by decide +kernel
theorem dX5_priceFor_12 : decode cX5_priceFor 12 = .ok (.iload 4, 2) := by decide +kernel
theorem dX5_priceFor_14 : decode cX5_priceFor 14 = .ok (.iaload, 1) := by decide +kernel
theorem dX5_priceFor_15 : decode cX5_priceFor 15 = .ok (.iconst (-1), 1) := by decide +kernel
theorem dX5_priceFor_16 : decode cX5_priceFor 16 = .ok (.if_icmp .ne 49, 3) := by decide +kernel
theorem dX5_priceFor_19 : decode cX5_priceFor 19 = .ok (.aload_n 1, 1) := by decide +kernel
theorem dX5_priceFor_20 : decode cX5_priceFor 20 = .ok (.getfield 76, 3) := by decide +kernel
theorem dX5_priceFor_23 : decode cX5_priceFor 23 = .ok (.aload_n 0, 1) := by decide +kernel
theorem dX5_priceFor_24 : decode cX5_priceFor 24 = .ok (.getfield 15, 3) := by decide +kernel
theorem dX5_priceFor_27 : decode cX5_priceFor 27 = .ok (.iload 4, 2) := by decide +kernel
theorem dX5_priceFor_29 : decode cX5_priceFor 29 = .ok (.iaload, 1) := by decide +kernel
theorem dX5_priceFor_30 : decode cX5_priceFor 30 = .ok (.aload_n 0, 1) := by decide +kernel
theorem dX5_priceFor_31 : decode cX5_priceFor 31 = .ok (.getfield 18, 3) := by decide +kernel
theorem dX5_priceFor_34 : decode cX5_priceFor 34 = .ok (.iload_n 3, 1) := by decide +kernel
theorem dX5_priceFor_35 : decode cX5_priceFor 35 = .ok (.iaload, 1) := by decide +kernel
theorem dX5_priceFor_36 : decode cX5_priceFor 36 = .ok (.aload_n 0, 1) := by decide +kernel
theorem dX5_priceFor_37 : decode cX5_priceFor 37 = .ok (.getfield 21, 3) := by decide +kernel
theorem dX5_priceFor_40 : decode cX5_priceFor 40 = .ok (.iload_n 3, 1) := by decide +kernel
theorem dX5_priceFor_41 : decode cX5_priceFor 41 = .ok (.iaload, 1) := by decide +kernel
theorem dX5_priceFor_42 : decode cX5_priceFor 42 = .ok (.iload_n 3, 1) := by decide +kernel
theorem dX5_priceFor_43 : decode cX5_priceFor 43 = .ok (.invokevirtual 80, 3) := by decide +kernel
theorem dX5_priceFor_46 : decode cX5_priceFor 46 = .ok (.istore 5, 2) := by decide +kernel
theorem dX5_priceFor_48 : decode cX5_priceFor 48 = .ok (.aload_n 0, 1) := by decide +kernel
theorem dX5_priceFor_49 : decode cX5_priceFor 49 = .ok (.getfield 24, 3) := by decide +kernel
theorem dX5_priceFor_52 : decode cX5_priceFor 52 = .ok (.iload 4, 2) := by decide +kernel
theorem dX5_priceFor_54 : decode cX5_priceFor 54 = .ok (.iload 5, 2) := by decide +kernel
theorem dX5_priceFor_56 : decode cX5_priceFor 56 = .ok (.i2l, 1) := by decide +kernel
theorem dX5_priceFor_57 : decode cX5_priceFor 57 = .ok (.iconst 0, 1) := by decide +kernel
theorem dX5_priceFor_58 : decode cX5_priceFor 58 = .ok (.sipush 999, 3) := by decide +kernel
theorem dX5_priceFor_61 : decode cX5_priceFor 61 = .ok (.invokestatic 86, 3) := by decide +kernel
theorem dX5_priceFor_64 : decode cX5_priceFor 64 = .ok (.iastore, 1) := by decide +kernel
theorem dX5_priceFor_65 : decode cX5_priceFor 65 = .ok (.aload_n 0, 1) := by decide +kernel
theorem dX5_priceFor_66 : decode cX5_priceFor 66 = .ok (.getfield 24, 3) := by decide +kernel
theorem dX5_priceFor_69 : decode cX5_priceFor 69 = .ok (.iload 4, 2) := by decide +kernel
theorem dX5_priceFor_71 : decode cX5_priceFor 71 = .ok (.iaload, 1) := by decide +kernel
theorem dX5_priceFor_72 : decode cX5_priceFor 72 = .ok (.ireturn, 1) := by decide +kernel
set_option maxRecDepth 20000 in
theorem ggX6_init_X3_init : GoodIn wsX6_init wsX3_init := goodIn_r _ [23, 24, 2, 3, 25, 9, 10, 26, 27, 28, 29, 30, 31, 32, 33, 34, 35, 36, 37, 38, 39, 40, 41, 42, 43, 44, 45, 46, 47, 48, 49, 50, 51, 52, 53, 54, 55, 56, 57, 58, 59, 60, 61, 62, 63, 64, 65, 66, 67, 68, 69, 70, 71, 72, 73, 74, 75, 76, 77, 78, 79, 80, 192, 193, 172, 173, 174, 175, 176, 177, 178, 179, 180, 181, 182, 183, 199, 200, 201, 202, 203, 204, 205, 206, 207, 208, 209, 210, 211, 212, 213, 214, 215, 216] (by decide +kernel) (by decide +kernel)
set_option maxRecDepth 20000 in
theorem gX6_init_X3_init_n11 : GoodIn wsX6_init (wsX3_init) := ggX6_init_X3_init
set_option maxRecDepth 20000 in
theorem ggX6_init_X4_init : GoodIn wsX6_init wsX4_init := goodIn_r _ [40, 41, 2, 3, 42, 43, 44, 45, 46, 47, 48, 49, 50, 51, 52, 53, 54, 55, 56, 57, 58, 59, 60, 61, 62, 63, 64, 65, 66, 67, 68, 69, 70, 71, 72, 73, 74, 75, 76, 77, 78, 79, 80, 199, 200, 201, 202, 203, 204, 205, 206, 207, 208, 192, 193, 209, 210, 211, 212, 213, 214, 215, 216] (by decide +kernel) (by decide +kernel)
set_option maxRecDepth 20000 in
theorem gX6_init_X4_init_n18 : GoodIn wsX6_init (wsX4_init) := ggX6_init_X4_init
set_option maxRecDepth 20000 in
theorem ggX6_init_X5_init : GoodIn wsX6_init wsX5_init := goodIn_r _ [82, 83, 2, 3, 58, 84, 85, 86, 87, 88, 194, 195, 196, 197, 198] (by decide +kernel) (by decide +kernel)
set_option maxRecDepth 20000 in
theorem gX6_init_X5_init_n28 : GoodIn wsX6_init (wsX5_init) := ggX6_init_X5_init
set_option maxRecDepth 20000 in
theorem ggX6_init_X4_begin : GoodIn wsX6_init wsX4_begin := goodIn_r _ [92, 45, 49, 93, 94, 95, 44, 96, 53, 54, 55, 56, 57, 59, 60, 66, 97, 98, 99, 100, 101, 102, 103, 104, 105, 106, 107, 65, 108, 109, 110, 111, 112, 71, 113, 114, 115, 116, 70, 117, 118, 119, 120, 121, 122, 123, 48, 124, 76, 77, 78, 79, 125, 192, 193, 199, 200, 201, 202, 203, 204, 205, 206, 207, 208, 214, 215, 216, 209, 210, 211, 212, 213] (by decide +kernel) (by decide +kernel)
set_option maxRecDepth 20000 in
theorem gX6_init_X4_begin : GoodIn wsX6_init (wsV RX6 47 RX4 yX4_begin wsX4_begin) := goodIn_app (goodIn_of _ (by decide +kernel)) ggX6_init_X4_begin
set_option maxRecDepth 20000 in
theorem ggX6_init_X0_addHole : GoodIn wsX6_init wsX0_addHole := goodIn_r _ [129, 56, 61, 62, 199, 200, 201, 202, 203, 204, 205, 206, 207, 208] (by decide +kernel) (by decide +kernel)
set_option maxRecDepth 20000 in
theorem gX6_init_X0_addHole : GoodIn wsX6_init (wsV RX6 55 RX0 yX0_addHole wsX0_addHole) := goodIn_app (goodIn_of _ (by decide +kernel)) ggX6_init_X0_addHole
set_option maxRecDepth 20000 in
theorem ggX6_init_X5_update : GoodIn wsX6_init wsX5_update := goodIn_r _ [133, 85, 88, 134, 86, 135, 98, 99, 100, 136, 137, 138, 15, 139, 140, 141, 84, 87, 142, 143, 144, 44, 145, 55, 146, 147, 148, 149, 150, 151, 152, 153, 61, 62, 154, 155, 156, 157, 158, 159, 160, 161, 162, 163, 164, 60, 54, 59, 165, 166, 167, 168, 169, 170, 171, 194, 195, 196, 197, 198, 199, 200, 201, 202, 203, 204, 205, 206, 207, 208] (by decide +kernel) (by decide +kernel)
set_option maxRecDepth 20000 in
theorem gX6_init_X5_update : GoodIn wsX6_init (wsV RX6 61 RX5 yX5_update wsX5_update) := goodIn_app (goodIn_of _ (by decide +kernel)) ggX6_init_X5_update
theorem dX6_init_0 : decode cX6_init 0 = .ok (.aload_n 0, 1) := by decide +kernel
theorem dX6_init_1 : decode cX6_init 1 = .ok (.invokespecial 3, 3) := by decide +kernel
theorem dX6_init_4 : decode cX6_init 4 = .ok (.aload_n 0, 1) := by decide +kernel
theorem dX6_init_5 : decode cX6_init 5 = .ok (.new 9, 3) := by decide +kernel
theorem dX6_init_8 : decode cX6_init 8 = .ok (.dup, 1) := by decide +kernel
theorem dX6_init_9 : decode cX6_init 9 = .ok (.invokespecial 11, 3) := by decide +kernel
theorem dX6_init_12 : decode cX6_init 12 = .ok (.putfield 12, 3) := by decide +kernel
theorem dX6_init_15 : decode cX6_init 15 = .ok (.aload_n 0, 1) := by decide +kernel
theorem dX6_init_16 : decode cX6_init 16 = .ok (.new 16, 3) := by decide +kernel
theorem dX6_init_19 : decode cX6_init 19 = .ok (.dup, 1) := by decide +kernel
theorem dX6_init_20 : decode cX6_init 20 = .ok (.invokespecial 18, 3) := by decide +kernel
theorem dX6_init_23 : decode cX6_init 23 = .ok (.putfield 19, 3) := by decide +kernel
theorem dX6_init_26 : decode cX6_init 26 = .ok (.aload_n 0, 1) := by decide +kernel
theorem dX6_init_27 : decode cX6_init 27 = .ok (.new 16, 3) := by decide +kernel
theorem dX6_init_30 : decode cX6_init 30 = .ok (.dup, 1) := by decide +kernel
theorem dX6_init_31 : decode cX6_init 31 = .ok (.invokespecial 18, 3) := by decide +kernel
theorem dX6_init_34 : decode cX6_init 34 = .ok (.putfield 23, 3) := by decide +kernel
theorem dX6_init_37 : decode cX6_init 37 = .ok (.aload_n 0, 1) := by decide +kernel
theorem dX6_init_38 : decode cX6_init 38 = .ok (.new 26, 3) := by decide +kernel
theorem dX6_init_41 : decode cX6_init 41 = .ok (.dup, 1) := by decide +kernel
theorem dX6_init_42 : decode cX6_init 42 = .ok (.invokespecial 28, 3) := by decide +kernel
theorem dX6_init_45 : decode cX6_init 45 = .ok (.putfield 29, 3) := by decide +kernel
theorem dX6_init_48 : decode cX6_init 48 = .ok (.aload_n 0, 1) := by decide +kernel
theorem dX6_init_49 : decode cX6_init 49 = .ok (.new 26, 3) := by decide +kernel
theorem dX6_init_52 : decode cX6_init 52 = .ok (.dup, 1) := by decide +kernel
theorem dX6_init_53 : decode cX6_init 53 = .ok (.invokespecial 28, 3) := by decide +kernel
theorem dX6_init_56 : decode cX6_init 56 = .ok (.putfield 33, 3) := by decide +kernel
theorem dX6_init_59 : decode cX6_init 59 = .ok (.aload_n 0, 1) := by decide +kernel
theorem dX6_init_60 : decode cX6_init 60 = .ok (.bipush 8, 2) := by decide +kernel
theorem dX6_init_62 : decode cX6_init 62 = .ok (.anewarray 16, 3) := by decide +kernel
theorem dX6_init_65 : decode cX6_init 65 = .ok (.putfield 36, 3) := by decide +kernel
theorem dX6_init_68 : decode cX6_init 68 = .ok (.aload_n 0, 1) := by decide +kernel
theorem dX6_init_69 : decode cX6_init 69 = .ok (.iconst 0, 1) := by decide +kernel
theorem dX6_init_70 : decode cX6_init 70 = .ok (.putfield 40, 3) := by decide +kernel
theorem dX6_init_73 : decode cX6_init 73 = .ok (.aload_n 0, 1) := by decide +kernel
theorem dX6_init_74 : decode cX6_init 74 = .ok (.iconst 0, 1) := by decide +kernel
theorem dX6_init_75 : decode cX6_init 75 = .ok (.putfield 44, 3) := by decide +kernel
theorem dX6_init_78 : decode cX6_init 78 = .ok (.iconst 0, 1) := by decide +kernel
theorem dX6_init_79 : decode cX6_init 79 = .ok (.istore_n 1, 1) := by decide +kernel
theorem dX6_init_80 : decode cX6_init 80 = .ok (.iload_n 1, 1) := by decide +kernel
theorem dX6_init_81 : decode cX6_init 81 = .ok (.bipush 8, 2) := by decide +kernel
theorem dX6_init_83 : decode cX6_init 83 = .ok (.if_icmp .ge 22, 3) := by decide +kernel
theorem dX6_init_86 : decode cX6_init 86 = .ok (.aload_n 0, 1) := by decide +kernel
theorem dX6_init_87 : decode cX6_init 87 = .ok (.getfield 36, 3) := by decide +kernel
theorem dX6_init_90 : decode cX6_init 90 = .ok (.iload_n 1, 1) := by decide +kernel
theorem dX6_init_91 : decode cX6_init 91 = .ok (.new 16, 3) := by decide +kernel
theorem dX6_init_94 : decode cX6_init 94 = .ok (.dup, 1) := by decide +kernel
theorem dX6_init_95 : decode cX6_init 95 = .ok (.invokespecial 18, 3) := by decide +kernel
theorem dX6_init_98 : decode cX6_init 98 = .ok (.aastore, 1) := by decide +kernel
theorem dX6_init_99 : decode cX6_init 99 = .ok (.iinc 1 1, 3) := by decide +kernel
theorem dX6_init_102 : decode cX6_init 102 = .ok (.goto (-22), 3) := by decide +kernel
theorem dX6_init_105 : decode cX6_init 105 = .ok (.aload_n 0, 1) := by decide +kernel
theorem dX6_init_106 : decode cX6_init 106 = .ok (.getfield 19, 3) := by decide +kernel
theorem dX6_init_109 : decode cX6_init 109 = .ok (.iconst 4, 1) := by decide +kernel
theorem dX6_init_110 : decode cX6_init 110 = .ok (.iconst 3, 1) := by decide +kernel
theorem dX6_init_111 : decode cX6_init 111 = .ok (.iconst 2, 1) := by decide +kernel
theorem dX6_init_112 : decode cX6_init 112 = .ok (.invokevirtual 47, 3) := by decide +kernel
theorem dX6_init_115 : decode cX6_init 115 = .ok (.aload_n 0, 1) := by decide +kernel
theorem dX6_init_116 : decode cX6_init 116 = .ok (.getfield 19, 3) := by decide +kernel
theorem dX6_init_119 : decode cX6_init 119 = .ok (.getfield 51, 3) := by decide +kernel
theorem dX6_init_122 : decode cX6_init 122 = .ok (.iconst 0, 1) := by decide +kernel
theorem dX6_init_123 : decode cX6_init 123 = .ok (.iconst 0, 1) := by decide +kernel
theorem dX6_init_124 : decode cX6_init 124 = .ok (.invokevirtual 55, 3) := by decide +kernel
theorem dX6_init_127 : decode cX6_init 127 = .ok (.aload_n 0, 1) := by decide +kernel
theorem dX6_init_128 : decode cX6_init 128 = .ok (.getfield 29, 3) := by decide +kernel
theorem dX6_init_131 : decode cX6_init 131 = .ok (.aload_n 0, 1) := by decide +kernel
theorem dX6_init_132 : decode cX6_init 132 = .ok (.getfield 19, 3) := by decide +kernel
theorem dX6_init_135 : decode cX6_init 135 = .ok (.getfield 51, 3) := by decide +kernel
theorem dX6_init_138 : decode cX6_init 138 = .ok (.invokevirtual 61, 3) := by decide +kernel
theorem dX6_init_141 : decode cX6_init 141 = .ok (.return_, 1) := by decide +kernel
set_option maxRecDepth 20000 in
theorem ggX6_append_X3_hasRoomFor : GoodIn wsX6_append wsX3_hasRoomFor := goodIn_r _ [7, 8, 22, 23, 24, 25, 26, 27, 28, 29, 30, 31, 32, 33] (by decide +kernel) (by decide +kernel)
set_option maxRecDepth 20000 in
theorem gX6_append_X3_hasRoomFor : GoodIn wsX6_append (wsV RX6 65 RX3 yX3_hasRoomFor wsX3_hasRoomFor) := goodIn_app (goodIn_of _ (by decide +kernel)) ggX6_append_X3_hasRoomFor
set_option maxRecDepth 20000 in
theorem ggX6_append_X3_put : GoodIn wsX6_append wsX3_put := goodIn_r _ [12, 8, 13, 22, 23, 24, 25, 26, 27, 28, 29, 30, 31, 32, 33] (by decide +kernel) (by decide +kernel)
set_option maxRecDepth 20000 in
theorem gX6_append_X3_put : GoodIn wsX6_append (wsV RX6 69 RX3 yX3_put wsX3_put) := goodIn_app (goodIn_of _ (by decide +kernel)) ggX6_append_X3_put
theorem dX6_append_0 : decode cX6_append 0 = .ok (.aload_n 0, 1) := by decide +kernel
theorem dX6_append_1 : decode cX6_append 1 = .ok (.getfield 12, 3) := by decide +kernel
theorem dX6_append_4 : decode cX6_append 4 = .ok (.bipush 20, 2) := by decide +kernel
theorem dX6_append_6 : decode cX6_append 6 = .ok (.invokevirtual 65, 3) := by decide +kernel
theorem dX6_append_9 : decode cX6_append 9 = .ok (.ifCond .ne 5, 3) := by decide +kernel
theorem dX6_append_12 : decode cX6_append 12 = .ok (.iconst (-1), 1) := by decide +kernel
theorem dX6_append_13 : decode cX6_append 13 = .ok (.ireturn, 1) := by decide +kernel
theorem dX6_append_14 : decode cX6_append 14 = .ok (.aload_n 0, 1) := by decide +kernel
theorem dX6_append_15 : decode cX6_append 15 = .ok (.getfield 12, 3) := by decide +kernel
theorem dX6_append_18 : decode cX6_append 18 = .ok (.iload_n 1, 1) := by decide +kernel
theorem dX6_append_19 : decode cX6_append 19 = .ok (.invokevirtual 69, 3) := by decide +kernel
theorem dX6_append_22 : decode cX6_append 22 = .ok (.aload_n 0, 1) := by decide +kernel
theorem dX6_append_23 : decode cX6_append 23 = .ok (.getfield 12, 3) := by decide +kernel
theorem dX6_append_26 : decode cX6_append 26 = .ok (.iload_n 2, 1) := by decide +kernel
theorem dX6_append_27 : decode cX6_append 27 = .ok (.invokevirtual 69, 3) := by decide +kernel
theorem dX6_append_30 : decode cX6_append 30 = .ok (.aload_n 0, 1) := by decide +kernel
theorem dX6_append_31 : decode cX6_append 31 = .ok (.getfield 12, 3) := by decide +kernel
theorem dX6_append_34 : decode cX6_append 34 = .ok (.iload_n 3, 1) := by decide +kernel
theorem dX6_append_35 : decode cX6_append 35 = .ok (.invokevirtual 69, 3) := by decide +kernel
theorem dX6_append_38 : decode cX6_append 38 = .ok (.aload_n 0, 1) := by decide +kernel
theorem dX6_append_39 : decode cX6_append 39 = .ok (.getfield 12, 3) := by decide +kernel
theorem dX6_append_42 : decode cX6_append 42 = .ok (.iload 4, 2) := by decide +kernel
theorem dX6_append_44 : decode cX6_append 44 = .ok (.invokevirtual 69, 3) := by decide +kernel
theorem dX6_append_47 : decode cX6_append 47 = .ok (.aload_n 0, 1) := by decide +kernel
theorem dX6_append_48 : decode cX6_append 48 = .ok (.getfield 12, 3) := by decide +kernel
theorem dX6_append_51 : decode cX6_append 51 = .ok (.iload 5, 2) := by decide +kernel
theorem dX6_append_53 : decode cX6_append 53 = .ok (.invokevirtual 69, 3) := by decide +kernel
theorem dX6_append_56 : decode cX6_append 56 = .ok (.aload_n 0, 1) := by decide +kernel
theorem dX6_append_57 : decode cX6_append 57 = .ok (.getfield 12, 3) := by decide +kernel
theorem dX6_append_60 : decode cX6_append 60 = .ok (.getfield 73, 3) := by decide +kernel
theorem dX6_append_63 : decode cX6_append 63 = .ok (.ireturn, 1) := by decide +kernel
set_option maxRecDepth 20000 in
theorem ggX6_load_X3_read : GoodIn wsX6_load wsX3_read := goodIn_r _ [16, 17, 18, 19, 20, 21, 22, 23, 15, 24, 25, 26, 27, 28, 29, 30, 31, 32, 33, 34, 35, 36, 37, 38, 39, 40, 41, 42, 43, 44, 45, 46, 47, 48, 49, 50, 51, 52, 53, 54, 55, 56, 57, 58, 59, 60, 61, 62, 63, 64, 65, 66, 67, 68, 69, 70, 71, 72, 73, 74, 75, 76, 77, 78, 79, 80, 81, 82, 83, 84, 85, 86, 87, 88, 89, 90, 91, 92, 93, 94, 95, 96, 97, 98, 99, 100, 101, 102, 103, 104, 105, 106, 107, 108, 109, 110, 111, 112, 113, 114, 115, 116, 117, 118, 119, 120, 121, 122, 123, 124, 125, 126, 127, 128, 129, 130, 131, 132, 133, 134, 135, 136, 137, 138, 139, 140, 141, 142, 143, 144, 145, 146, 147, 148, 149, 150, 151, 152, 153, 154, 155, 156, 157, 158, 159, 160, 161, 162, 163, 164, 165, 166, 167, 168, 169, 170, 171, 172, 173, 174, 175, 176, 177, 178, 179, 180, 181, 182, 183, 184, 185, 186, 187, 188, 189, 190, 191, 192, 193, 194, 195, 196, 197, 198, 199, 200, 201, 202, 203, 204, 205, 206, 207, 208, 209, 210, 211, 212, 213, 214, 215, 216, 217, 218, 219, 220, 221, 222, 223, 224, 225, 226, 227, 228, 229, 230, 231, 232, 233, 234, 235, 236, 237, 238, 239, 240, 241, 242, 243, 244, 245, 246, 247, 248, 249, 250, 251, 252, 253, 254, 255, 256, 257, 258, 259, 260, 261, 262, 263, 264, 265, 351, 352, 353, 354, 355, 356, 357, 358, 359, 360, 361, 362, 363, 364, 370, 371, 372, 373, 374, 375, 376, 377, 378, 379, 380, 381, 382, 383, 384, 385, 386, 365, 366, 367, 368, 369] (by decide +kernel) (by decide +kernel)
set_option maxRecDepth 20000 in
theorem gX6_load_X3_read : GoodIn wsX6_load (wsV RX6 83 RX3 yX3_read wsX3_read) := goodIn_app (goodIn_of _ (by decide +kernel)) ggX6_load_X3_read
set_option maxRecDepth 20000 in
theorem ggX6_load_X6_remember : GoodIn wsX6_load wsX6_remember := goodIn_r _ [270, 271, 272, 6, 273, 274, 27, 28, 29, 275, 276, 277, 118, 278, 120, 121, 279, 280, 281, 125, 282, 127, 128, 129, 130, 131, 132, 283, 284, 285, 286, 133, 207, 208, 134, 287, 288, 289, 146, 290, 152, 157, 291, 292, 293, 294, 165, 295, 167, 168, 169, 170, 296, 241, 343, 344, 345, 346, 347, 348, 349, 350, 363, 364, 370, 371, 372, 373, 374, 375, 376, 377, 378, 379, 384, 385, 386, 365, 366, 367, 368, 369] (by decide +kernel) (by decide +kernel)
set_option maxRecDepth 20000 in
theorem gX6_load_X6_remember : GoodIn wsX6_load (wsV RX6 89 RX6 yX6_remember wsX6_remember) := goodIn_app (goodIn_of _ (by decide +kernel)) ggX6_load_X6_remember
set_option maxRecDepth 20000 in
theorem ggX6_load_X4_copyFrom : GoodIn wsX6_load wsX4_copyFrom := goodIn_r _ [278, 120, 121, 279, 280, 281, 125, 282, 127, 128, 129, 130, 131, 132, 283, 284, 285, 286, 133, 207, 208, 134, 287, 288, 289, 146, 290, 152, 157, 291, 292, 293, 294, 165, 295, 167, 168, 169, 170, 296, 241, 363, 364, 370, 371, 372, 373, 374, 375, 376, 377, 378, 379, 384, 385, 386, 365, 366, 367, 368, 369] (by decide +kernel) (by decide +kernel)
set_option maxRecDepth 20000 in
theorem gX6_load_X4_copyFrom : GoodIn wsX6_load (wsV RX6 95 RX4 yX4_copyFrom wsX4_copyFrom) := goodIn_app (goodIn_of _ (by decide +kernel)) ggX6_load_X4_copyFrom
set_option maxRecDepth 20000 in
theorem ggX6_load_X5_update : GoodIn wsX6_load wsX5_update := goodIn_r _ [301, 302, 303, 304, 305, 306, 136, 137, 138, 307, 308, 309, 300, 310, 311, 312, 313, 314, 315, 316, 317, 125, 318, 129, 319, 320, 28, 321, 322, 323, 324, 325, 207, 208, 326, 327, 328, 329, 330, 269, 331, 332, 333, 334, 335, 133, 128, 132, 336, 337, 338, 339, 340, 341, 342, 387, 388, 389, 390, 391, 370, 371, 372, 373, 374, 375, 376, 377, 378, 379] (by decide +kernel) (by decide +kernel)
set_option maxRecDepth 20000 in
theorem gX6_load_X5_update : GoodIn wsX6_load (wsV RX6 61 RX5 yX5_update wsX5_update) := goodIn_app (goodIn_of _ (by decide +kernel)) ggX6_load_X5_update
theorem dX6_load_0 : decode cX6_load 0 = .ok (.iload_n 1, 1) := by decide +kernel
theorem dX6_load_1 : decode cX6_load 1 = .ok (.ifCond .lt 14, 3) := by decide +kernel
theorem dX6_load_4 : decode cX6_load 4 = .ok (.iload_n 1, 1) := by decide +kernel
theorem dX6_load_5 : decode cX6_load 5 = .ok (.aload_n 0, 1) := by decide +kernel
theorem dX6_load_6 : decode cX6_load 6 = .ok (.getfield 12, 3) := by decide +kernel
theorem dX6_load_9 : decode cX6_load 9 = .ok (.getfield 73, 3) := by decide +kernel
theorem dX6_load_12 : decode cX6_load 12 = .ok (.if_icmp .le 13, 3) := by decide +kernel
theorem dX6_load_15 : decode cX6_load 15 = .ok (.new 76, 3) := by decide +kernel
theorem dX6_load_18 : decode cX6_load 18 = .ok (.dup, 1) := by decide +kernel
theorem dX6_load_19 : decode cX6_load 19 = .ok (.ldc 78, 2) := by decide +kernel
theorem dX6_load_21 : decode cX6_load 21 = .ok (.invokespecial 80, 3) := by decide +kernel
theorem dX6_load_24 : decode cX6_load 24 = .ok (.athrow, 1) := by decide +kernel
theorem dX6_load_25 : decode cX6_load 25 = .ok (.aload_n 0, 1) := by decide +kernel
theorem dX6_load_26 : decode cX6_load 26 = .ok (.getfield 12, 3) := by decide +kernel
theorem dX6_load_29 : decode cX6_load 29 = .ok (.iload_n 1, 1) := by decide +kernel
theorem dX6_load_30 : decode cX6_load 30 = .ok (.invokevirtual 83, 3) := by decide +kernel
theorem dX6_load_33 : decode cX6_load 33 = .ok (.ifCond .ne 11, 3) := by decide +kernel
theorem dX6_load_36 : decode cX6_load 36 = .ok (.aload_n 0, 1) := by decide +kernel
theorem dX6_load_37 : decode cX6_load 37 = .ok (.getfield 12, 3) := by decide +kernel
theorem dX6_load_40 : decode cX6_load 40 = .ok (.getfield 86, 3) := by decide +kernel
theorem dX6_load_43 : decode cX6_load 43 = .ok (.ireturn, 1) := by decide +kernel
theorem dX6_load_44 : decode cX6_load 44 = .ok (.aload_n 0, 1) := by decide +kernel
theorem dX6_load_45 : decode cX6_load 45 = .ok (.invokevirtual 89, 3) := by decide +kernel
theorem dX6_load_48 : decode cX6_load 48 = .ok (.aload_n 0, 1) := by decide +kernel
theorem dX6_load_49 : decode cX6_load 49 = .ok (.getfield 19, 3) := by decide +kernel
theorem dX6_load_52 : decode cX6_load 52 = .ok (.aload_n 0, 1) := by decide +kernel
theorem dX6_load_53 : decode cX6_load 53 = .ok (.getfield 12, 3) := by decide +kernel
theorem dX6_load_56 : decode cX6_load 56 = .ok (.getfield 92, 3) := by decide +kernel
theorem dX6_load_59 : decode cX6_load 59 = .ok (.invokevirtual 95, 3) := by decide +kernel
theorem dX6_load_62 : decode cX6_load 62 = .ok (.aload_n 0, 1) := by decide +kernel
theorem dX6_load_63 : decode cX6_load 63 = .ok (.getfield 29, 3) := by decide +kernel
theorem dX6_load_66 : decode cX6_load 66 = .ok (.aload_n 0, 1) := by decide +kernel
theorem dX6_load_67 : decode cX6_load 67 = .ok (.getfield 19, 3) := by decide +kernel
theorem dX6_load_70 : decode cX6_load 70 = .ok (.getfield 51, 3) := by decide +kernel
theorem dX6_load_73 : decode cX6_load 73 = .ok (.invokevirtual 61, 3) := by decide +kernel
theorem dX6_load_76 : decode cX6_load 76 = .ok (.aload_n 0, 1) := by decide +kernel
theorem dX6_load_77 : decode cX6_load 77 = .ok (.getfield 19, 3) := by decide +kernel
theorem dX6_load_80 : decode cX6_load 80 = .ok (.getfield 99, 3) := by decide +kernel
theorem dX6_load_83 : decode cX6_load 83 = .ok (.getfield 103, 3) := by decide +kernel
theorem dX6_load_86 : decode cX6_load 86 = .ok (.ireturn, 1) := by decide +kernel
theorem dX6_errorOffset_0 : decode cX6_errorOffset 0 = .ok (.aload_n 0, 1) := by decide +kernel
theorem dX6_errorOffset_1 : decode cX6_errorOffset 1 = .ok (.getfield 12, 3) := by decide +kernel
theorem dX6_errorOffset_4 : decode cX6_errorOffset 4 = .ok (.getfield 108, 3) := by decide +kernel
theorem dX6_errorOffset_7 : decode cX6_errorOffset 7 = .ok (.ireturn, 1) := by decide +kernel
set_option maxRecDepth 20000 in
theorem ggX6_state_X1_count : GoodIn wsX6_state wsX1_count := goodIn_r _ [18, 19, 20, 21, 22, 17, 23, 24, 49, 50, 51, 52, 53] (by decide +kernel) (by decide +kernel)
set_option maxRecDepth 20000 in
theorem gX6_state_X1_count : GoodIn wsX6_state (wsV RX6 132 RX1 yX1_count wsX1_count) := goodIn_app (goodIn_of _ (by decide +kernel)) ggX6_state_X1_count
set_option maxRecDepth 20000 in
theorem ggX6_state_X1_allPaid : GoodIn wsX6_state wsX1_allPaid := goodIn_r _ [28, 19, 20, 21, 22, 17, 23, 24, 49, 50, 51, 52, 53] (by decide +kernel) (by decide +kernel)
set_option maxRecDepth 20000 in
theorem gX6_state_X1_allPaid : GoodIn wsX6_state (wsV RX6 136 RX1 yX1_allPaid wsX1_allPaid) := goodIn_app (goodIn_of _ (by decide +kernel)) ggX6_state_X1_allPaid
theorem dX6_state_0 : decode cX6_state 0 = .ok (.aload_n 0, 1) := by decide +kernel
theorem dX6_state_1 : decode cX6_state 1 = .ok (.getfield 19, 3) := by decide +kernel
theorem dX6_state_4 : decode cX6_state 4 = .ok (.getfield 51, 3) := by decide +kernel
theorem dX6_state_7 : decode cX6_state 7 = .ok (.astore_n 2, 1) := by decide +kernel
theorem dX6_state_8 : decode cX6_state 8 = .ok (.aload_n 0, 1) := by decide +kernel
theorem dX6_state_9 : decode cX6_state 9 = .ok (.getfield 19, 3) := by decide +kernel
theorem dX6_state_12 : decode cX6_state 12 = .ok (.getfield 99, 3) := by decide +kernel
theorem dX6_state_15 : decode cX6_state 15 = .ok (.astore_n 3, 1) := by decide +kernel
theorem dX6_state_16 : decode cX6_state 16 = .ok (.iload_n 1, 1) := by decide +kernel
theorem dX6_state_17 : decode cX6_state 17 = .ok (.tableswitch 151 0 13 #[71, 76, 81, 86, 91, 96, 101, 106, 111, 117, 123, 129, 135, 140], 71) := by decide +kernel
theorem dX6_state_88 : decode cX6_state 88 = .ok (.aload_n 2, 1) := by decide +kernel
theorem dX6_state_89 : decode cX6_state 89 = .ok (.getfield 111, 3) := by decide +kernel
theorem dX6_state_92 : decode cX6_state 92 = .ok (.ireturn, 1) := by decide +kernel
theorem dX6_state_93 : decode cX6_state 93 = .ok (.aload_n 2, 1) := by decide +kernel
theorem dX6_state_94 : decode cX6_state 94 = .ok (.getfield 114, 3) := by decide +kernel
theorem dX6_state_97 : decode cX6_state 97 = .ok (.ireturn, 1) := by decide +kernel
theorem dX6_state_98 : decode cX6_state 98 = .ok (.aload_n 2, 1) := by decide +kernel
theorem dX6_state_99 : decode cX6_state 99 = .ok (.getfield 117, 3) := by decide +kernel
theorem dX6_state_102 : decode cX6_state 102 = .ok (.ireturn, 1) := by decide +kernel
theorem dX6_state_103 : decode cX6_state 103 = .ok (.aload_n 2, 1) := by decide +kernel
theorem dX6_state_104 : decode cX6_state 104 = .ok (.getfield 120, 3) := by decide +kernel
theorem dX6_state_107 : decode cX6_state 107 = .ok (.ireturn, 1) := by decide +kernel
theorem dX6_state_108 : decode cX6_state 108 = .ok (.aload_n 2, 1) := by decide +kernel
theorem dX6_state_109 : decode cX6_state 109 = .ok (.getfield 123, 3) := by decide +kernel
theorem dX6_state_112 : decode cX6_state 112 = .ok (.ireturn, 1) := by decide +kernel
theorem dX6_state_113 : decode cX6_state 113 = .ok (.aload_n 3, 1) := by decide +kernel
theorem dX6_state_114 : decode cX6_state 114 = .ok (.getfield 126, 3) := by decide +kernel
theorem dX6_state_117 : decode cX6_state 117 = .ok (.ireturn, 1) := by decide +kernel
theorem dX6_state_118 : decode cX6_state 118 = .ok (.aload_n 3, 1) := by decide +kernel
theorem dX6_state_119 : decode cX6_state 119 = .ok (.getfield 129, 3) := by decide +kernel
theorem dX6_state_122 : decode cX6_state 122 = .ok (.ireturn, 1) := by decide +kernel
theorem dX6_state_123 : decode cX6_state 123 = .ok (.aload_n 3, 1) := by decide +kernel
theorem dX6_state_124 : decode cX6_state 124 = .ok (.getfield 103, 3) := by decide +kernel
theorem dX6_state_127 : decode cX6_state 127 = .ok (.ireturn, 1) := by decide +kernel
theorem dX6_state_128 : decode cX6_state 128 = .ok (.aload_n 3, 1) := by decide +kernel
theorem dX6_state_129 : decode cX6_state 129 = .ok (.iconst 0, 1) := by decide +kernel
theorem dX6_state_130 : decode cX6_state 130 = .ok (.invokevirtual 132, 3) := by decide +kernel
theorem dX6_state_133 : decode cX6_state 133 = .ok (.ireturn, 1) := by decide +kernel
theorem dX6_state_134 : decode cX6_state 134 = .ok (.aload_n 3, 1) := by decide +kernel
theorem dX6_state_135 : decode cX6_state 135 = .ok (.iconst 1, 1) := by decide +kernel
theorem dX6_state_136 : decode cX6_state 136 = .ok (.invokevirtual 132, 3) := by decide +kernel
theorem dX6_state_139 : decode cX6_state 139 = .ok (.ireturn, 1) := by decide +kernel
theorem dX6_state_140 : decode cX6_state 140 = .ok (.aload_n 3, 1) := by decide +kernel
theorem dX6_state_141 : decode cX6_state 141 = .ok (.iconst 2, 1) := by decide +kernel
theorem dX6_state_142 : decode cX6_state 142 = .ok (.invokevirtual 132, 3) := by decide +kernel
theorem dX6_state_145 : decode cX6_state 145 = .ok (.ireturn, 1) := by decide +kernel
theorem dX6_state_146 : decode cX6_state 146 = .ok (.aload_n 3, 1) := by decide +kernel
theorem dX6_state_147 : decode cX6_state 147 = .ok (.iconst 3, 1) := by decide +kernel
theorem dX6_state_148 : decode cX6_state 148 = .ok (.invokevirtual 132, 3) := by decide +kernel
theorem dX6_state_151 : decode cX6_state 151 = .ok (.ireturn, 1) := by decide +kernel
theorem dX6_state_152 : decode cX6_state 152 = .ok (.aload_n 3, 1) := by decide +kernel
theorem dX6_state_153 : decode cX6_state 153 = .ok (.invokevirtual 136, 3) := by decide +kernel
theorem dX6_state_156 : decode cX6_state 156 = .ok (.ireturn, 1) := by decide +kernel
theorem dX6_state_157 : decode cX6_state 157 = .ok (.aload_n 2, 1) := by decide +kernel
theorem dX6_state_158 : decode cX6_state 158 = .ok (.getfield 120, 3) := by decide +kernel
theorem dX6_state_161 : decode cX6_state 161 = .ok (.aload_n 3, 1) := by decide +kernel
theorem dX6_state_162 : decode cX6_state 162 = .ok (.iconst 1, 1) := by decide +kernel
theorem dX6_state_163 : decode cX6_state 163 = .ok (.invokevirtual 132, 3) := by decide +kernel
theorem dX6_state_166 : decode cX6_state 166 = .ok (.isub, 1) := by decide +kernel
theorem dX6_state_167 : decode cX6_state 167 = .ok (.ireturn, 1) := by decide +kernel
theorem dX6_state_168 : decode cX6_state 168 = .ok (.new 76, 3) := by decide +kernel
theorem dX6_state_171 : decode cX6_state 171 = .ok (.dup, 1) := by decide +kernel
theorem dX6_state_172 : decode cX6_state 172 = .ok (.ldc 140, 2) := by decide +kernel
theorem dX6_state_174 : decode cX6_state 174 = .ok (.invokespecial 80, 3) := by decide +kernel
theorem dX6_state_177 : decode cX6_state 177 = .ok (.athrow, 1) := by decide +kernel
set_option maxRecDepth 20000 in
theorem ggX6_stands_X6_requirePlane : GoodIn wsX6_stands wsX6_requirePlane := goodIn_ca (goodIn_r _ [7, 8, 9, 1, 2, 10, 25, 26, 27, 28, 29, 30, 31, 32, 33, 34, 35, 36, 37, 38, 39, 40, 41, 42, 43, 44] (by decide +kernel) (by decide +kernel)) (goodIn_sub (fun _ h => List.mem_cons_of_mem _ (List.mem_append_right _ h)) (by decide +kernel))
set_option maxRecDepth 20000 in
theorem gX6_stands_X6_requirePlane : GoodIn wsX6_stands (wsV RX6 142 RX6 yX6_requirePlane wsX6_requirePlane) := goodIn_app (goodIn_of _ (by decide +kernel)) ggX6_stands_X6_requirePlane
set_option maxRecDepth 20000 in
theorem ggX6_stands_X6_requireCell : GoodIn wsX6_stands wsX6_requireCell := goodIn_ca (goodIn_r _ [14, 8, 9, 1, 2, 15, 16, 25, 26, 27, 28, 29, 30, 31, 32, 33, 34, 35, 36, 37, 38, 39, 40, 41, 42, 43, 44] (by decide +kernel) (by decide +kernel)) (goodIn_sub (fun _ h => List.mem_cons_of_mem _ (List.mem_append_right _ h)) (by decide +kernel))
set_option maxRecDepth 20000 in
theorem gX6_stands_X6_requireCell : GoodIn wsX6_stands (wsV RX6 145 RX6 yX6_requireCell wsX6_requireCell) := goodIn_app (goodIn_of _ (by decide +kernel)) ggX6_stands_X6_requireCell
set_option maxRecDepth 20000 in
theorem ggX6_stands_X0_kindAt : GoodIn wsX6_stands wsX0_kindAt := goodIn_r _ [21, 22, 23, 24, 35, 36, 37, 38, 39, 40, 41, 42, 43, 44] (by decide +kernel) (by decide +kernel)
set_option maxRecDepth 20000 in
theorem gX6_stands_X0_kindAt : GoodIn wsX6_stands (wsV RX6 148 RX0 yX0_kindAt wsX0_kindAt) := goodIn_app (goodIn_of _ (by decide +kernel)) ggX6_stands_X0_kindAt
theorem dX6_stands_0 : decode cX6_stands 0 = .ok (.aload_n 0, 1) := by decide +kernel
theorem dX6_stands_1 : decode cX6_stands 1 = .ok (.iload_n 1, 1) := by decide +kernel
theorem dX6_stands_2 : decode cX6_stands 2 = .ok (.invokevirtual 142, 3) := by decide +kernel
theorem dX6_stands_5 : decode cX6_stands 5 = .ok (.aload_n 0, 1) := by decide +kernel
theorem dX6_stands_6 : decode cX6_stands 6 = .ok (.iload_n 2, 1) := by decide +kernel
theorem dX6_stands_7 : decode cX6_stands 7 = .ok (.iload_n 3, 1) := by decide +kernel
theorem dX6_stands_8 : decode cX6_stands 8 = .ok (.invokevirtual 145, 3) := by decide +kernel
theorem dX6_stands_11 : decode cX6_stands 11 = .ok (.aload_n 0, 1) := by decide +kernel
theorem dX6_stands_12 : decode cX6_stands 12 = .ok (.getfield 19, 3) := by decide +kernel
theorem dX6_stands_15 : decode cX6_stands 15 = .ok (.getfield 51, 3) := by decide +kernel
theorem dX6_stands_18 : decode cX6_stands 18 = .ok (.iload_n 1, 1) := by decide +kernel
theorem dX6_stands_19 : decode cX6_stands 19 = .ok (.iload_n 2, 1) := by decide +kernel
theorem dX6_stands_20 : decode cX6_stands 20 = .ok (.iload_n 3, 1) := by decide +kernel
theorem dX6_stands_21 : decode cX6_stands 21 = .ok (.invokevirtual 148, 3) := by decide +kernel
theorem dX6_stands_24 : decode cX6_stands 24 = .ok (.ireturn, 1) := by decide +kernel
set_option maxRecDepth 20000 in
theorem ggX6_plane_X6_requirePlane : GoodIn wsX6_plane wsX6_requirePlane := goodIn_ca (goodIn_r _ [11, 12, 13, 3, 4, 14, 40, 41, 42, 43, 44, 45, 46, 47, 48, 49, 50, 51, 52, 53, 54, 55, 56, 57, 58, 59] (by decide +kernel) (by decide +kernel)) (goodIn_sub (fun _ h => List.mem_cons_of_mem _ (List.mem_append_right _ h)) (by decide +kernel))
set_option maxRecDepth 20000 in
theorem gX6_plane_X6_requirePlane : GoodIn wsX6_plane (wsV RX6 142 RX6 yX6_requirePlane wsX6_requirePlane) := goodIn_app (goodIn_of _ (by decide +kernel)) ggX6_plane_X6_requirePlane
set_option maxRecDepth 20000 in
theorem ggX6_plane_X0_standing : GoodIn wsX6_plane wsX0_standing := goodIn_r _ [19, 20, 21, 22, 23, 24, 18, 25, 26, 27, 50, 51, 52, 53, 54, 55, 56, 57, 58, 59] (by decide +kernel) (by decide +kernel)
set_option maxRecDepth 20000 in
theorem gX6_plane_X0_standing : GoodIn wsX6_plane (wsV RX6 156 RX0 yX0_standing wsX0_standing) := goodIn_app (goodIn_of _ (by decide +kernel)) ggX6_plane_X0_standing
set_option maxRecDepth 20000 in
theorem ggX6_plane_X5_targetsOf : GoodIn wsX6_plane wsX5_targetsOf := goodIn_r _ [32, 33, 34, 35, 36, 37, 38, 31, 39, 50, 51, 52, 53, 54, 55, 56, 57, 58, 59, 60, 61, 62, 63, 64] (by decide +kernel) (by decide +kernel)
set_option maxRecDepth 20000 in
theorem gX6_plane_X5_targetsOf : GoodIn wsX6_plane (wsV RX6 159 RX5 yX5_targetsOf wsX5_targetsOf) := goodIn_app (goodIn_of _ (by decide +kernel)) ggX6_plane_X5_targetsOf
theorem dX6_plane_0 : decode cX6_plane 0 = .ok (.aload_n 0, 1) := by decide +kernel
theorem dX6_plane_1 : decode cX6_plane 1 = .ok (.iload_n 1, 1) := by decide +kernel
theorem dX6_plane_2 : decode cX6_plane 2 = .ok (.invokevirtual 142, 3) := by decide +kernel
theorem dX6_plane_5 : decode cX6_plane 5 = .ok (.iload_n 2, 1) := by decide +kernel
theorem dX6_plane_6 : decode cX6_plane 6 = .ok (.tableswitch 67 0 2 #[26, 39, 51], 26) := by decide +kernel
theorem dX6_plane_32 : decode cX6_plane 32 = .ok (.aload_n 0, 1) := by decide +kernel
theorem dX6_plane_33 : decode cX6_plane 33 = .ok (.getfield 19, 3) := by decide +kernel
theorem dX6_plane_36 : decode cX6_plane 36 = .ok (.getfield 51, 3) := by decide +kernel
theorem dX6_plane_39 : decode cX6_plane 39 = .ok (.getfield 152, 3) := by decide +kernel
theorem dX6_plane_42 : decode cX6_plane 42 = .ok (.iload_n 1, 1) := by decide +kernel
theorem dX6_plane_43 : decode cX6_plane 43 = .ok (.iaload, 1) := by decide +kernel
theorem dX6_plane_44 : decode cX6_plane 44 = .ok (.ireturn, 1) := by decide +kernel
theorem dX6_plane_45 : decode cX6_plane 45 = .ok (.aload_n 0, 1) := by decide +kernel
theorem dX6_plane_46 : decode cX6_plane 46 = .ok (.getfield 19, 3) := by decide +kernel
theorem dX6_plane_49 : decode cX6_plane 49 = .ok (.getfield 51, 3) := by decide +kernel
theorem dX6_plane_52 : decode cX6_plane 52 = .ok (.iload_n 1, 1) := by decide +kernel
theorem dX6_plane_53 : decode cX6_plane 53 = .ok (.invokevirtual 156, 3) := by decide +kernel
theorem dX6_plane_56 : decode cX6_plane 56 = .ok (.ireturn, 1) := by decide +kernel
theorem dX6_plane_57 : decode cX6_plane 57 = .ok (.aload_n 0, 1) := by decide +kernel
theorem dX6_plane_58 : decode cX6_plane 58 = .ok (.getfield 29, 3) := by decide +kernel
theorem dX6_plane_61 : decode cX6_plane 61 = .ok (.aload_n 0, 1) := by decide +kernel
theorem dX6_plane_62 : decode cX6_plane 62 = .ok (.getfield 19, 3) := by decide +kernel
theorem dX6_plane_65 : decode cX6_plane 65 = .ok (.getfield 51, 3) := by decide +kernel
theorem dX6_plane_68 : decode cX6_plane 68 = .ok (.iload_n 1, 1) := by decide +kernel
theorem dX6_plane_69 : decode cX6_plane 69 = .ok (.invokevirtual 159, 3) := by decide +kernel
theorem dX6_plane_72 : decode cX6_plane 72 = .ok (.ireturn, 1) := by decide +kernel
theorem dX6_plane_73 : decode cX6_plane 73 = .ok (.new 76, 3) := by decide +kernel
theorem dX6_plane_76 : decode cX6_plane 76 = .ok (.dup, 1) := by decide +kernel
theorem dX6_plane_77 : decode cX6_plane 77 = .ok (.ldc 163, 2) := by decide +kernel
theorem dX6_plane_79 : decode cX6_plane 79 = .ok (.invokespecial 80, 3) := by decide +kernel
theorem dX6_plane_82 : decode cX6_plane 82 = .ok (.athrow, 1) := by decide +kernel
set_option maxRecDepth 20000 in
theorem ggX6_hole_X6_requireHole : GoodIn wsX6_hole wsX6_requireHole := goodIn_ca (goodIn_r _ [16, 17, 18, 3, 4, 19, 20, 21, 22, 23, 24, 25, 26, 27, 28, 29, 30, 31, 32, 33, 34, 35, 36, 37, 38, 39] (by decide +kernel) (by decide +kernel)) (goodIn_sub (fun _ h => List.mem_cons_of_mem _ (List.mem_append_right _ h)) (by decide +kernel))
set_option maxRecDepth 20000 in
theorem gX6_hole_X6_requireHole : GoodIn wsX6_hole (wsV RX6 165 RX6 yX6_requireHole wsX6_requireHole) := goodIn_app (goodIn_of _ (by decide +kernel)) ggX6_hole_X6_requireHole
theorem dX6_hole_0 : decode cX6_hole 0 = .ok (.aload_n 0, 1) := by decide +kernel
theorem dX6_hole_1 : decode cX6_hole 1 = .ok (.iload_n 1, 1) := by decide +kernel
theorem dX6_hole_2 : decode cX6_hole 2 = .ok (.invokevirtual 165, 3) := by decide +kernel
theorem dX6_hole_5 : decode cX6_hole 5 = .ok (.iload_n 2, 1) := by decide +kernel
theorem dX6_hole_6 : decode cX6_hole 6 = .ok (.tableswitch 93 0 4 #[34, 47, 60, 73, 83], 34) := by decide +kernel
theorem dX6_hole_40 : decode cX6_hole 40 = .ok (.aload_n 0, 1) := by decide +kernel
theorem dX6_hole_41 : decode cX6_hole 41 = .ok (.getfield 19, 3) := by decide +kernel
theorem dX6_hole_44 : decode cX6_hole 44 = .ok (.getfield 51, 3) := by decide +kernel
theorem dX6_hole_47 : decode cX6_hole 47 = .ok (.getfield 168, 3) := by decide +kernel
theorem dX6_hole_50 : decode cX6_hole 50 = .ok (.iload_n 1, 1) := by decide +kernel
theorem dX6_hole_51 : decode cX6_hole 51 = .ok (.iaload, 1) := by decide +kernel
theorem dX6_hole_52 : decode cX6_hole 52 = .ok (.ireturn, 1) := by decide +kernel
theorem dX6_hole_53 : decode cX6_hole 53 = .ok (.aload_n 0, 1) := by decide +kernel
theorem dX6_hole_54 : decode cX6_hole 54 = .ok (.getfield 19, 3) := by decide +kernel
theorem dX6_hole_57 : decode cX6_hole 57 = .ok (.getfield 51, 3) := by decide +kernel
theorem dX6_hole_60 : decode cX6_hole 60 = .ok (.getfield 171, 3) := by decide +kernel
theorem dX6_hole_63 : decode cX6_hole 63 = .ok (.iload_n 1, 1) := by decide +kernel
theorem dX6_hole_64 : decode cX6_hole 64 = .ok (.iaload, 1) := by decide +kernel
theorem dX6_hole_65 : decode cX6_hole 65 = .ok (.ireturn, 1) := by decide +kernel
theorem dX6_hole_66 : decode cX6_hole 66 = .ok (.aload_n 0, 1) := by decide +kernel
theorem dX6_hole_67 : decode cX6_hole 67 = .ok (.getfield 19, 3) := by decide +kernel
theorem dX6_hole_70 : decode cX6_hole 70 = .ok (.getfield 99, 3) := by decide +kernel
theorem dX6_hole_73 : decode cX6_hole 73 = .ok (.getfield 174, 3) := by decide +kernel
theorem dX6_hole_76 : decode cX6_hole 76 = .ok (.iload_n 1, 1) := by decide +kernel
theorem dX6_hole_77 : decode cX6_hole 77 = .ok (.iaload, 1) := by decide +kernel
theorem dX6_hole_78 : decode cX6_hole 78 = .ok (.ireturn, 1) := by decide +kernel
theorem dX6_hole_79 : decode cX6_hole 79 = .ok (.aload_n 0, 1) := by decide +kernel
theorem dX6_hole_80 : decode cX6_hole 80 = .ok (.getfield 29, 3) := by decide +kernel
theorem dX6_hole_83 : decode cX6_hole 83 = .ok (.getfield 177, 3) := by decide +kernel
theorem dX6_hole_86 : decode cX6_hole 86 = .ok (.iload_n 1, 1) := by decide +kernel
theorem dX6_hole_87 : decode cX6_hole 87 = .ok (.iaload, 1) := by decide +kernel
theorem dX6_hole_88 : decode cX6_hole 88 = .ok (.ireturn, 1) := by decide +kernel
theorem dX6_hole_89 : decode cX6_hole 89 = .ok (.aload_n 0, 1) := by decide +kernel
theorem dX6_hole_90 : decode cX6_hole 90 = .ok (.getfield 29, 3) := by decide +kernel
theorem dX6_hole_93 : decode cX6_hole 93 = .ok (.getfield 180, 3) := by decide +kernel
theorem dX6_hole_96 : decode cX6_hole 96 = .ok (.iload_n 1, 1) := by decide +kernel
theorem dX6_hole_97 : decode cX6_hole 97 = .ok (.iaload, 1) := by decide +kernel
theorem dX6_hole_98 : decode cX6_hole 98 = .ok (.ireturn, 1) := by decide +kernel
theorem dX6_hole_99 : decode cX6_hole 99 = .ok (.new 76, 3) := by decide +kernel
theorem dX6_hole_102 : decode cX6_hole 102 = .ok (.dup, 1) := by decide +kernel
theorem dX6_hole_103 : decode cX6_hole 103 = .ok (.ldc 183, 2) := by decide +kernel
theorem dX6_hole_105 : decode cX6_hole 105 = .ok (.invokespecial 80, 3) := by decide +kernel
theorem dX6_hole_108 : decode cX6_hole 108 = .ok (.athrow, 1) := by decide +kernel
set_option maxRecDepth 20000 in
theorem ggX6_sees_X6_requireHole : GoodIn wsX6_sees wsX6_requireHole := goodIn_ca (goodIn_r _ [7, 8, 9, 10, 11, 12, 23, 24, 25, 26, 27, 28, 29, 30, 36, 37, 38, 39, 40, 41, 42, 43, 44, 45, 46, 47] (by decide +kernel) (by decide +kernel)) (goodIn_sub (fun _ h => List.mem_cons_of_mem _ (List.mem_append_right _ h)) (by decide +kernel))
set_option maxRecDepth 20000 in
theorem gX6_sees_X6_requireHole : GoodIn wsX6_sees (wsV RX6 165 RX6 yX6_requireHole wsX6_requireHole) := goodIn_app (goodIn_of _ (by decide +kernel)) ggX6_sees_X6_requireHole
set_option maxRecDepth 20000 in
theorem ggX6_sees_X6_requireCell : GoodIn wsX6_sees wsX6_requireCell := goodIn_ca (goodIn_r _ [16, 8, 9, 10, 11, 17, 18, 23, 24, 25, 26, 27, 28, 29, 30, 36, 37, 38, 39, 40, 41, 42, 43, 44, 45, 46, 47] (by decide +kernel) (by decide +kernel)) (goodIn_sub (fun _ h => List.mem_cons_of_mem _ (List.mem_append_right _ h)) (by decide +kernel))
set_option maxRecDepth 20000 in
theorem gX6_sees_X6_requireCell : GoodIn wsX6_sees (wsV RX6 145 RX6 yX6_requireCell wsX6_requireCell) := goodIn_app (goodIn_of _ (by decide +kernel)) ggX6_sees_X6_requireCell
set_option maxRecDepth 20000 in
theorem ggX6_sees_X5_target : GoodIn wsX6_sees wsX5_target := goodIn_r _ [22] (by decide +kernel) (by decide +kernel)
set_option maxRecDepth 20000 in
theorem gX6_sees_X5_target : GoodIn wsX6_sees (va_wsS RX6 188 yX5_target wsX5_target) := goodIn_app (goodIn_of _ (by decide +kernel)) ggX6_sees_X5_target
theorem dX6_sees_0 : decode cX6_sees 0 = .ok (.aload_n 0, 1) := by decide +kernel
theorem dX6_sees_1 : decode cX6_sees 1 = .ok (.iload_n 1, 1) := by decide +kernel
theorem dX6_sees_2 : decode cX6_sees 2 = .ok (.invokevirtual 165, 3) := by decide +kernel
theorem dX6_sees_5 : decode cX6_sees 5 = .ok (.aload_n 0, 1) := by decide +kernel
theorem dX6_sees_6 : decode cX6_sees 6 = .ok (.iload_n 2, 1) := by decide +kernel
theorem dX6_sees_7 : decode cX6_sees 7 = .ok (.iload_n 3, 1) := by decide +kernel
theorem dX6_sees_8 : decode cX6_sees 8 = .ok (.invokevirtual 145, 3) := by decide +kernel
theorem dX6_sees_11 : decode cX6_sees 11 = .ok (.aload_n 0, 1) := by decide +kernel
theorem dX6_sees_12 : decode cX6_sees 12 = .ok (.getfield 29, 3) := by decide +kernel
theorem dX6_sees_15 : decode cX6_sees 15 = .ok (.getfield 185, 3) := by decide +kernel
theorem dX6_sees_18 : decode cX6_sees 18 = .ok (.iload_n 1, 1) := by decide +kernel
theorem dX6_sees_19 : decode cX6_sees 19 = .ok (.iload_n 2, 1) := by decide +kernel
theorem dX6_sees_20 : decode cX6_sees 20 = .ok (.iload_n 3, 1) := by decide +kernel
theorem dX6_sees_21 : decode cX6_sees 21 = .ok (.invokestatic 188, 3) := by decide +kernel
theorem dX6_sees_24 : decode cX6_sees 24 = .ok (.iaload, 1) := by decide +kernel
theorem dX6_sees_25 : decode cX6_sees 25 = .ok (.ireturn, 1) := by decide +kernel
set_option maxRecDepth 20000 in
theorem ggX6_shown_X6_requireHole : GoodIn wsX6_shown wsX6_requireHole := goodIn_ca (goodIn_r _ [7, 8, 9, 10, 11, 12, 18, 19, 20, 21, 22, 23, 24, 25, 31, 32, 33, 34, 35, 36, 37, 38, 39, 40, 41, 42] (by decide +kernel) (by decide +kernel)) (goodIn_sub (fun _ h => List.mem_cons_of_mem _ (List.mem_append_left _ (List.mem_append_right _ h))) (by decide +kernel))
set_option maxRecDepth 20000 in
theorem gX6_shown_X6_requireHole : GoodIn wsX6_shown (wsV RX6 165 RX6 yX6_requireHole wsX6_requireHole) := goodIn_app (goodIn_of _ (by decide +kernel)) ggX6_shown_X6_requireHole
set_option maxRecDepth 20000 in
theorem ggX6_shown_X6_requireRange : GoodIn wsX6_shown wsX6_requireRange := goodIn_ca (goodIn_r _ [15, 16, 17] (by decide +kernel) (by decide +kernel)) (goodIn_sub (fun _ h => List.mem_cons_of_mem _ (List.mem_append_right _ h)) (by decide +kernel))
set_option maxRecDepth 20000 in
theorem gX6_shown_X6_requireRange : GoodIn wsX6_shown (va_wsS RX6 191 yX6_requireRange wsX6_requireRange) := goodIn_app (goodIn_of _ (by decide +kernel)) ggX6_shown_X6_requireRange
theorem dX6_shown_0 : decode cX6_shown 0 = .ok (.aload_n 0, 1) := by decide +kernel
theorem dX6_shown_1 : decode cX6_shown 1 = .ok (.iload_n 1, 1) := by decide +kernel
theorem dX6_shown_2 : decode cX6_shown 2 = .ok (.invokevirtual 165, 3) := by decide +kernel
theorem dX6_shown_5 : decode cX6_shown 5 = .ok (.iload_n 2, 1) := by decide +kernel
theorem dX6_shown_6 : decode cX6_shown 6 = .ok (.iconst 0, 1) := by decide +kernel
theorem dX6_shown_7 : decode cX6_shown 7 = .ok (.bipush 25, 2) := by decide +kernel
theorem dX6_shown_9 : decode cX6_shown 9 = .ok (.invokestatic 191, 3) := by decide +kernel
theorem dX6_shown_12 : decode cX6_shown 12 = .ok (.aload_n 0, 1) := by decide +kernel
theorem dX6_shown_13 : decode cX6_shown 13 = .ok (.getfield 29, 3) := by decide +kernel
theorem dX6_shown_16 : decode cX6_shown 16 = .ok (.getfield 194, 3) := by decide +kernel
theorem dX6_shown_19 : decode cX6_shown 19 = .ok (.iload_n 1, 1) := by decide +kernel
theorem dX6_shown_20 : decode cX6_shown 20 = .ok (.bipush 26, 2) := by decide +kernel
theorem dX6_shown_22 : decode cX6_shown 22 = .ok (.imul, 1) := by decide +kernel
theorem dX6_shown_23 : decode cX6_shown 23 = .ok (.iload_n 2, 1) := by decide +kernel
theorem dX6_shown_24 : decode cX6_shown 24 = .ok (.iadd, 1) := by decide +kernel
theorem dX6_shown_25 : decode cX6_shown 25 = .ok (.iaload, 1) := by decide +kernel
theorem dX6_shown_26 : decode cX6_shown 26 = .ok (.ireturn, 1) := by decide +kernel
set_option maxRecDepth 20000 in
theorem ggX6_why_X6_requireHole : GoodIn wsX6_why wsX6_requireHole := goodIn_ca (goodIn_r _ [8, 9, 10, 2, 3, 11, 51, 52, 53, 54, 55, 56, 57, 58, 59, 60, 61, 62, 63, 64, 65, 66, 67, 68, 69, 70] (by decide +kernel) (by decide +kernel)) (goodIn_sub (fun _ h => List.mem_cons_of_mem _ (List.mem_append_right _ h)) (by decide +kernel))
set_option maxRecDepth 20000 in
theorem gX6_why_X6_requireHole : GoodIn wsX6_why (wsV RX6 165 RX6 yX6_requireHole wsX6_requireHole) := goodIn_app (goodIn_of _ (by decide +kernel)) ggX6_why_X6_requireHole
set_option maxRecDepth 20000 in
theorem ggX6_why_X6_requirePlane : GoodIn wsX6_why wsX6_requirePlane := goodIn_ca (goodIn_r _ [15, 9, 10, 2, 3, 16, 51, 52, 53, 54, 55, 56, 57, 58, 59, 60, 61, 62, 63, 64, 65, 66, 67, 68, 69, 70] (by decide +kernel) (by decide +kernel)) (goodIn_sub (fun _ h => List.mem_cons_of_mem _ (List.mem_append_right _ h)) (by decide +kernel))
set_option maxRecDepth 20000 in
theorem gX6_why_X6_requirePlane : GoodIn wsX6_why (wsV RX6 142 RX6 yX6_requirePlane wsX6_requirePlane) := goodIn_app (goodIn_of _ (by decide +kernel)) ggX6_why_X6_requirePlane
set_option maxRecDepth 20000 in
theorem ggX6_why_X6_requireCell : GoodIn wsX6_why wsX6_requireCell := goodIn_ca (goodIn_r _ [20, 9, 10, 2, 3, 21, 22, 51, 52, 53, 54, 55, 56, 57, 58, 59, 60, 61, 62, 63, 64, 65, 66, 67, 68, 69, 70] (by decide +kernel) (by decide +kernel)) (goodIn_sub (fun _ h => List.mem_cons_of_mem _ (List.mem_append_right _ h)) (by decide +kernel))
set_option maxRecDepth 20000 in
theorem gX6_why_X6_requireCell : GoodIn wsX6_why (wsV RX6 145 RX6 yX6_requireCell wsX6_requireCell) := goodIn_app (goodIn_of _ (by decide +kernel)) ggX6_why_X6_requireCell
set_option maxRecDepth 20000 in
theorem ggX6_why_X5_reason : GoodIn wsX6_why wsX5_reason := goodIn_r _ [27, 28, 29, 30, 31, 32, 33, 34, 35, 36, 37, 38, 39, 7, 40, 41, 42, 26, 43, 44, 45, 46, 47, 48, 49, 50, 61, 62, 63, 64, 65, 66, 67, 68, 69, 70, 71, 72, 73, 74, 75] (by decide +kernel) (by decide +kernel)
set_option maxRecDepth 20000 in
theorem gX6_why_X5_reason : GoodIn wsX6_why (wsV RX6 197 RX5 yX5_reason wsX5_reason) := goodIn_app (goodIn_of _ (by decide +kernel)) ggX6_why_X5_reason
theorem dX6_why_0 : decode cX6_why 0 = .ok (.aload_n 0, 1) := by decide +kernel
theorem dX6_why_1 : decode cX6_why 1 = .ok (.iload_n 1, 1) := by decide +kernel
theorem dX6_why_2 : decode cX6_why 2 = .ok (.invokevirtual 165, 3) := by decide +kernel
theorem dX6_why_5 : decode cX6_why 5 = .ok (.aload_n 0, 1) := by decide +kernel
theorem dX6_why_6 : decode cX6_why 6 = .ok (.iload_n 2, 1) := by decide +kernel
theorem dX6_why_7 : decode cX6_why 7 = .ok (.invokevirtual 142, 3) := by decide +kernel
theorem dX6_why_10 : decode cX6_why 10 = .ok (.aload_n 0, 1) := by decide +kernel
theorem dX6_why_11 : decode cX6_why 11 = .ok (.iload_n 3, 1) := by decide +kernel
theorem dX6_why_12 : decode cX6_why 12 = .ok (.iload 4, 2) := by decide +kernel
theorem dX6_why_14 : decode cX6_why 14 = .ok (.invokevirtual 145, 3) := by decide +kernel
theorem dX6_why_17 : decode cX6_why 17 = .ok (.aload_n 0, 1) := by decide +kernel
theorem dX6_why_18 : decode cX6_why 18 = .ok (.getfield 29, 3) := by decide +kernel
theorem dX6_why_21 : decode cX6_why 21 = .ok (.aload_n 0, 1) := by decide +kernel
theorem dX6_why_22 : decode cX6_why 22 = .ok (.getfield 19, 3) := by decide +kernel
theorem dX6_why_25 : decode cX6_why 25 = .ok (.getfield 51, 3) := by decide +kernel
theorem dX6_why_28 : decode cX6_why 28 = .ok (.iload_n 1, 1) := by decide +kernel
theorem dX6_why_29 : decode cX6_why 29 = .ok (.iload_n 2, 1) := by decide +kernel
theorem dX6_why_30 : decode cX6_why 30 = .ok (.iload_n 3, 1) := by decide +kernel
theorem dX6_why_31 : decode cX6_why 31 = .ok (.iload 4, 2) := by decide +kernel
theorem dX6_why_33 : decode cX6_why 33 = .ok (.invokevirtual 197, 3) := by decide +kernel
theorem dX6_why_36 : decode cX6_why 36 = .ok (.ireturn, 1) := by decide +kernel
set_option maxRecDepth 20000 in
theorem ggX6_viewer_X6_requireViewer : GoodIn wsX6_viewer wsX6_requireViewer := goodIn_ca (goodIn_r _ [7, 8, 9, 1, 2, 10, 22, 23, 24, 25, 26, 27, 28, 29, 30, 31, 32, 33, 34, 35, 36] (by decide +kernel) (by decide +kernel)) (goodIn_sub (fun _ h => List.mem_cons_of_mem _ (List.mem_append_left _ (List.mem_append_right _ h))) (by decide +kernel))
set_option maxRecDepth 20000 in
theorem gX6_viewer_X6_requireViewer : GoodIn wsX6_viewer (wsV RX6 201 RX6 yX6_requireViewer wsX6_requireViewer) := goodIn_app (goodIn_of _ (by decide +kernel)) ggX6_viewer_X6_requireViewer
set_option maxRecDepth 20000 in
theorem ggX6_viewer_X6_requireRange : GoodIn wsX6_viewer wsX6_requireRange := goodIn_ca (goodIn_r _ [13, 14, 15] (by decide +kernel) (by decide +kernel)) (goodIn_sub (fun _ h => List.mem_cons_of_mem _ (List.mem_append_right _ h)) (by decide +kernel))
set_option maxRecDepth 20000 in
theorem gX6_viewer_X6_requireRange : GoodIn wsX6_viewer (va_wsS RX6 191 yX6_requireRange wsX6_requireRange) := goodIn_app (goodIn_of _ (by decide +kernel)) ggX6_viewer_X6_requireRange
set_option maxRecDepth 20000 in
theorem ggX6_viewer_X1_fact : GoodIn wsX6_viewer wsX1_fact := goodIn_r _ [20, 21, 32, 33, 34, 35, 36] (by decide +kernel) (by decide +kernel)
set_option maxRecDepth 20000 in
theorem gX6_viewer_X1_fact : GoodIn wsX6_viewer (wsV RX6 204 RX1 yX1_fact wsX1_fact) := goodIn_app (goodIn_of _ (by decide +kernel)) ggX6_viewer_X1_fact
theorem dX6_viewer_0 : decode cX6_viewer 0 = .ok (.aload_n 0, 1) := by decide +kernel
theorem dX6_viewer_1 : decode cX6_viewer 1 = .ok (.iload_n 1, 1) := by decide +kernel
theorem dX6_viewer_2 : decode cX6_viewer 2 = .ok (.invokevirtual 201, 3) := by decide +kernel
theorem dX6_viewer_5 : decode cX6_viewer 5 = .ok (.iload_n 2, 1) := by decide +kernel
theorem dX6_viewer_6 : decode cX6_viewer 6 = .ok (.iconst 0, 1) := by decide +kernel
theorem dX6_viewer_7 : decode cX6_viewer 7 = .ok (.bipush 6, 2) := by decide +kernel
theorem dX6_viewer_9 : decode cX6_viewer 9 = .ok (.invokestatic 191, 3) := by decide +kernel
theorem dX6_viewer_12 : decode cX6_viewer 12 = .ok (.aload_n 0, 1) := by decide +kernel
theorem dX6_viewer_13 : decode cX6_viewer 13 = .ok (.getfield 19, 3) := by decide +kernel
theorem dX6_viewer_16 : decode cX6_viewer 16 = .ok (.getfield 99, 3) := by decide +kernel
theorem dX6_viewer_19 : decode cX6_viewer 19 = .ok (.iload_n 1, 1) := by decide +kernel
theorem dX6_viewer_20 : decode cX6_viewer 20 = .ok (.iload_n 2, 1) := by decide +kernel
theorem dX6_viewer_21 : decode cX6_viewer 21 = .ok (.invokevirtual 204, 3) := by decide +kernel
theorem dX6_viewer_24 : decode cX6_viewer 24 = .ok (.ireturn, 1) := by decide +kernel
set_option maxRecDepth 20000 in
theorem ggX6_price_X6_requireViewer : GoodIn wsX6_price wsX6_requireViewer := goodIn_ca (goodIn_r _ [9, 10, 11, 1, 3, 12, 72, 73, 74, 75, 76, 77, 78, 79, 80, 81, 82, 83, 84, 85, 86] (by decide +kernel) (by decide +kernel)) (goodIn_sub (fun _ h => List.mem_cons_of_mem _ (List.mem_append_right _ h)) (by decide +kernel))
set_option maxRecDepth 20000 in
theorem gX6_price_X6_requireViewer : GoodIn wsX6_price (wsV RX6 201 RX6 yX6_requireViewer wsX6_requireViewer) := goodIn_app (goodIn_of _ (by decide +kernel)) ggX6_price_X6_requireViewer
set_option maxRecDepth 20000 in
theorem ggX6_price_X6_requireHole : GoodIn wsX6_price wsX6_requireHole := goodIn_ca (goodIn_r _ [16, 10, 11, 1, 2, 17, 72, 73, 74, 75, 76, 77, 78, 79, 80, 81, 87, 88, 89, 90, 91, 92, 93, 94, 95, 96] (by decide +kernel) (by decide +kernel)) (goodIn_sub (fun _ h => List.mem_cons_of_mem _ (List.mem_append_right _ h)) (by decide +kernel))
set_option maxRecDepth 20000 in
theorem gX6_price_X6_requireHole : GoodIn wsX6_price (wsV RX6 165 RX6 yX6_requireHole wsX6_requireHole) := goodIn_app (goodIn_of _ (by decide +kernel)) ggX6_price_X6_requireHole
set_option maxRecDepth 20000 in
theorem ggX6_price_X1_fact : GoodIn wsX6_price wsX1_fact := goodIn_r _ [22, 23, 82, 83, 84, 85, 86] (by decide +kernel) (by decide +kernel)
set_option maxRecDepth 20000 in
theorem gX6_price_X1_fact : GoodIn wsX6_price (wsV RX6 204 RX1 yX1_fact wsX1_fact) := goodIn_app (goodIn_of _ (by decide +kernel)) ggX6_price_X1_fact
set_option maxRecDepth 20000 in
theorem ggX6_price_X0_canUse : GoodIn wsX6_price wsX0_canUse := goodIn_r _ [28, 29, 30, 31, 32, 33, 34, 35, 87, 88, 89, 90, 91, 92, 93, 94, 95, 96] (by decide +kernel) (by decide +kernel)
set_option maxRecDepth 20000 in
theorem gX6_price_X0_canUse : GoodIn wsX6_price (wsV RX6 208 RX0 yX0_canUse wsX0_canUse) := goodIn_app (goodIn_of _ (by decide +kernel)) ggX6_price_X0_canUse
set_option maxRecDepth 20000 in
theorem ggX6_price_X5_priceFor : GoodIn wsX6_price wsX5_priceFor := goodIn_r _ [40, 41, 42, 43, 44, 45, 46, 47, 48, 49, 50, 51, 52, 53, 54, 55, 56, 57, 58, 59, 8, 60, 61, 62, 33, 63, 64, 65, 66, 67, 68, 69, 70, 71, 97, 98, 99, 100, 101, 87, 88, 89, 90, 91, 92, 93, 94, 95, 96, 102, 103, 104] (by decide +kernel) (by decide +kernel)
set_option maxRecDepth 20000 in
theorem gX6_price_X5_priceFor : GoodIn wsX6_price (wsV RX6 212 RX5 yX5_priceFor wsX5_priceFor) := goodIn_app (goodIn_of _ (by decide +kernel)) ggX6_price_X5_priceFor
theorem dX6_price_0 : decode cX6_price 0 = .ok (.aload_n 0, 1) := by decide +kernel
theorem dX6_price_1 : decode cX6_price 1 = .ok (.iload_n 1, 1) := by decide +kernel
theorem dX6_price_2 : decode cX6_price 2 = .ok (.invokevirtual 201, 3) := by decide +kernel
theorem dX6_price_5 : decode cX6_price 5 = .ok (.aload_n 0, 1) := by decide +kernel
theorem dX6_price_6 : decode cX6_price 6 = .ok (.iload_n 2, 1) := by decide +kernel
theorem dX6_price_7 : decode cX6_price 7 = .ok (.invokevirtual 165, 3) := by decide +kernel
theorem dX6_price_10 : decode cX6_price 10 = .ok (.aload_n 0, 1) := by decide +kernel
theorem dX6_price_11 : decode cX6_price 11 = .ok (.getfield 19, 3) := by decide +kernel
theorem dX6_price_14 : decode cX6_price 14 = .ok (.getfield 51, 3) := by decide +kernel
theorem dX6_price_17 : decode cX6_price 17 = .ok (.aload_n 0, 1) := by decide +kernel
theorem dX6_price_18 : decode cX6_price 18 = .ok (.getfield 19, 3) := by decide +kernel
theorem dX6_price_21 : decode cX6_price 21 = .ok (.getfield 99, 3) := by decide +kernel
theorem dX6_price_24 : decode cX6_price 24 = .ok (.iload_n 1, 1) := by decide +kernel
theorem dX6_price_25 : decode cX6_price 25 = .ok (.iconst 0, 1) := by decide +kernel
theorem dX6_price_26 : decode cX6_price 26 = .ok (.invokevirtual 204, 3) := by decide +kernel
theorem dX6_price_29 : decode cX6_price 29 = .ok (.iload_n 2, 1) := by decide +kernel
theorem dX6_price_30 : decode cX6_price 30 = .ok (.invokevirtual 208, 3) := by decide +kernel
theorem dX6_price_33 : decode cX6_price 33 = .ok (.ifCond .ne 5, 3) := by decide +kernel
theorem dX6_price_36 : decode cX6_price 36 = .ok (.iconst (-1), 1) := by decide +kernel
theorem dX6_price_37 : decode cX6_price 37 = .ok (.ireturn, 1) := by decide +kernel
theorem dX6_price_38 : decode cX6_price 38 = .ok (.aload_n 0, 1) := by decide +kernel
theorem dX6_price_39 : decode cX6_price 39 = .ok (.getfield 29, 3) := by decide +kernel
theorem dX6_price_42 : decode cX6_price 42 = .ok (.aload_n 0, 1) := by decide +kernel
theorem dX6_price_43 : decode cX6_price 43 = .ok (.getfield 19, 3) := by decide +kernel
theorem dX6_price_46 : decode cX6_price 46 = .ok (.getfield 51, 3) := by decide +kernel
theorem dX6_price_49 : decode cX6_price 49 = .ok (.aload_n 0, 1) := by decide +kernel
theorem dX6_price_50 : decode cX6_price 50 = .ok (.getfield 19, 3) := by decide +kernel
theorem dX6_price_53 : decode cX6_price 53 = .ok (.getfield 99, 3) := by decide +kernel
theorem dX6_price_56 : decode cX6_price 56 = .ok (.iload_n 1, 1) := by decide +kernel
theorem dX6_price_57 : decode cX6_price 57 = .ok (.iconst 1, 1) := by decide +kernel
theorem dX6_price_58 : decode cX6_price 58 = .ok (.invokevirtual 204, 3) := by decide +kernel
theorem dX6_price_61 : decode cX6_price 61 = .ok (.iload_n 2, 1) := by decide +kernel
theorem dX6_price_62 : decode cX6_price 62 = .ok (.invokevirtual 212, 3) := by decide +kernel
theorem dX6_price_65 : decode cX6_price 65 = .ok (.ireturn, 1) := by decide +kernel
set_option maxRecDepth 20000 in
theorem ggX6_bestPull_X6_requirePlane : GoodIn wsX6_bestPull wsX6_requirePlane := goodIn_ca (goodIn_r _ [11, 12, 13, 1, 2, 14, 105, 106, 107, 108, 109, 110, 111, 112, 113, 114, 115, 116, 117, 118, 119, 120, 121, 122, 123, 124] (by decide +kernel) (by decide +kernel)) (goodIn_sub (fun _ h => List.mem_cons_of_mem _ (List.mem_append_left _ (List.mem_append_right _ h))) (by decide +kernel))
set_option maxRecDepth 20000 in
theorem gX6_bestPull_X6_requirePlane : GoodIn wsX6_bestPull (wsV RX6 142 RX6 yX6_requirePlane wsX6_requirePlane) := goodIn_app (goodIn_of _ (by decide +kernel)) ggX6_bestPull_X6_requirePlane
set_option maxRecDepth 20000 in
theorem ggX6_bestPull_X6_requireRange : GoodIn wsX6_bestPull wsX6_requireRange := goodIn_ca (goodIn_r _ [17, 18, 19] (by decide +kernel) (by decide +kernel)) (goodIn_sub (fun _ h => List.mem_cons_of_mem _ (List.mem_append_right _ h)) (by decide +kernel))
set_option maxRecDepth 20000 in
theorem gX6_bestPull_X6_requireRange : GoodIn wsX6_bestPull (va_wsS RX6 191 yX6_requireRange wsX6_requireRange) := goodIn_app (goodIn_of _ (by decide +kernel)) ggX6_bestPull_X6_requireRange
set_option maxRecDepth 20000 in
theorem ggX6_bestPull_X0_isBack : GoodIn wsX6_bestPull wsX0_isBack := goodIn_r _ [24, 25, 115, 116, 117, 118, 119, 120, 121, 122, 123, 124] (by decide +kernel) (by decide +kernel)
set_option maxRecDepth 20000 in
theorem gX6_bestPull_X0_isBack : GoodIn wsX6_bestPull (wsV RX6 216 RX0 yX0_isBack wsX0_isBack) := goodIn_app (goodIn_of _ (by decide +kernel)) ggX6_bestPull_X0_isBack
set_option maxRecDepth 20000 in
theorem ggX6_bestPull_X0_copyFrom : GoodIn wsX6_bestPull wsX0_copyFrom := goodIn_r _ [29, 30, 31, 25, 32, 33, 34, 35, 36, 37, 38, 39, 40, 41, 42, 43, 44, 45, 46, 47, 48, 49, 50, 115, 116, 117, 118, 119, 120, 121, 122, 123, 124, 125, 126, 127] (by decide +kernel) (by decide +kernel)
set_option maxRecDepth 20000 in
theorem gX6_bestPull_X0_copyFrom : GoodIn wsX6_bestPull (wsV RX6 219 RX0 yX0_copyFrom wsX0_copyFrom) := goodIn_app (goodIn_of _ (by decide +kernel)) ggX6_bestPull_X0_copyFrom
set_option maxRecDepth 20000 in
theorem ggX6_bestPull_X5_update : GoodIn wsX6_bestPull wsX5_update := goodIn_r _ [55, 56, 57, 58, 59, 60, 61, 62, 63, 64, 65, 66, 54, 67, 68, 69, 70, 71, 72, 73, 74, 23, 75, 25, 76, 77, 78, 79, 80, 81, 82, 83, 40, 41, 84, 85, 86, 87, 88, 10, 89, 90, 91, 92, 93, 39, 31, 34, 94, 95, 96, 97, 98, 99, 100, 128, 129, 130, 131, 132, 115, 116, 117, 118, 119, 120, 121, 122, 123, 124] (by decide +kernel) (by decide +kernel)
set_option maxRecDepth 20000 in
theorem gX6_bestPull_X5_update : GoodIn wsX6_bestPull (wsV RX6 61 RX5 yX5_update wsX5_update) := goodIn_app (goodIn_of _ (by decide +kernel)) ggX6_bestPull_X5_update
set_option maxRecDepth 20000 in
theorem ggX6_bestPull_X5_countInAll : GoodIn wsX6_bestPull wsX5_countInAll := goodIn_r _ [104, 58, 56, 115, 116, 117, 118, 119, 120, 121, 122, 123, 124, 128, 129, 130, 131, 132] (by decide +kernel) (by decide +kernel)
set_option maxRecDepth 20000 in
theorem gX6_bestPull_X5_countInAll : GoodIn wsX6_bestPull (wsV RX6 221 RX5 yX5_countInAll wsX5_countInAll) := goodIn_app (goodIn_of _ (by decide +kernel)) ggX6_bestPull_X5_countInAll
theorem dX6_bestPull_0 : decode cX6_bestPull 0 = .ok (.aload_n 0, 1) := by decide +kernel
theorem dX6_bestPull_1 : decode cX6_bestPull 1 = .ok (.iload_n 1, 1) := by decide +kernel
theorem dX6_bestPull_2 : decode cX6_bestPull 2 = .ok (.invokevirtual 142, 3) := by decide +kernel
theorem dX6_bestPull_5 : decode cX6_bestPull 5 = .ok (.iload_n 2, 1) := by decide +kernel
theorem dX6_bestPull_6 : decode cX6_bestPull 6 = .ok (.iconst 0, 1) := by decide +kernel
theorem dX6_bestPull_7 : decode cX6_bestPull 7 = .ok (.bipush 25, 2) := by decide +kernel
theorem dX6_bestPull_9 : decode cX6_bestPull 9 = .ok (.invokestatic 191, 3) := by decide +kernel
theorem dX6_bestPull_12 : decode cX6_bestPull 12 = .ok (.aload_n 0, 1) := by decide +kernel
theorem dX6_bestPull_13 : decode cX6_bestPull 13 = .ok (.getfield 19, 3) := by decide +kernel
theorem dX6_bestPull_16 : decode cX6_bestPull 16 = .ok (.getfield 51, 3) := by decide +kernel
theorem dX6_bestPull_19 : decode cX6_bestPull 19 = .ok (.iload_n 1, 1) := by decide +kernel
theorem dX6_bestPull_20 : decode cX6_bestPull 20 = .ok (.invokevirtual 216, 3) := by decide +kernel
theorem dX6_bestPull_23 : decode cX6_bestPull 23 = .ok (.ifCond .eq 5, 3) := by decide +kernel
theorem dX6_bestPull_26 : decode cX6_bestPull 26 = .ok (.iconst 0, 1) := by decide +kernel
theorem dX6_bestPull_27 : decode cX6_bestPull 27 = .ok (.ireturn, 1) := by decide +kernel
theorem dX6_bestPull_28 : decode cX6_bestPull 28 = .ok (.aload_n 0, 1) := by decide +kernel
theorem dX6_bestPull_29 : decode cX6_bestPull 29 = .ok (.getfield 23, 3) := by decide +kernel
theorem dX6_bestPull_32 : decode cX6_bestPull 32 = .ok (.getfield 51, 3) := by decide +kernel
theorem dX6_bestPull_35 : decode cX6_bestPull 35 = .ok (.aload_n 0, 1) := by decide +kernel
theorem dX6_bestPull_36 : decode cX6_bestPull 36 = .ok (.getfield 19, 3) := by decide +kernel
theorem dX6_bestPull_39 : decode cX6_bestPull 39 = .ok (.getfield 51, 3) := by decide +kernel
theorem dX6_bestPull_42 : decode cX6_bestPull 42 = .ok (.invokevirtual 219, 3) := by decide +kernel
theorem dX6_bestPull_45 : decode cX6_bestPull 45 = .ok (.iconst 0, 1) := by decide +kernel
theorem dX6_bestPull_46 : decode cX6_bestPull 46 = .ok (.istore_n 3, 1) := by decide +kernel
theorem dX6_bestPull_47 : decode cX6_bestPull 47 = .ok (.iconst (-1), 1) := by decide +kernel
theorem dX6_bestPull_48 : decode cX6_bestPull 48 = .ok (.istore 4, 2) := by decide +kernel
theorem dX6_bestPull_50 : decode cX6_bestPull 50 = .ok (.iconst 0, 1) := by decide +kernel
theorem dX6_bestPull_51 : decode cX6_bestPull 51 = .ok (.istore 5, 2) := by decide +kernel
theorem dX6_bestPull_53 : decode cX6_bestPull 53 = .ok (.iload 5, 2) := by decide +kernel
theorem dX6_bestPull_55 : decode cX6_bestPull 55 = .ok (.aload_n 0, 1) := by decide +kernel
theorem dX6_bestPull_56 : decode cX6_bestPull 56 = .ok (.getfield 19, 3) := by decide +kernel
theorem dX6_bestPull_59 : decode cX6_bestPull 59 = .ok (.getfield 51, 3) := by decide +kernel
theorem dX6_bestPull_62 : decode cX6_bestPull 62 = .ok (.getfield 114, 3) := by decide +kernel
theorem dX6_bestPull_65 : decode cX6_bestPull 65 = .ok (.if_icmp .gt 68, 3) := by decide +kernel
theorem dX6_bestPull_68 : decode cX6_bestPull 68 = .ok (.aload_n 0, 1) := by decide +kernel
theorem dX6_bestPull_69 : decode cX6_bestPull 69 = .ok (.getfield 23, 3) := by decide +kernel
theorem dX6_bestPull_72 : decode cX6_bestPull 72 = .ok (.getfield 51, 3) := by decide +kernel
theorem dX6_bestPull_75 : decode cX6_bestPull 75 = .ok (.getfield 152, 3) := by decide +kernel
theorem dX6_bestPull_78 : decode cX6_bestPull 78 = .ok (.iload_n 1, 1) := by decide +kernel
theorem dX6_bestPull_79 : decode cX6_bestPull 79 = .ok (.iload 5, 2) := by decide +kernel
theorem dX6_bestPull_81 : decode cX6_bestPull 81 = .ok (.iastore, 1) := by decide +kernel
theorem dX6_bestPull_82 : decode cX6_bestPull 82 = .ok (.aload_n 0, 1) := by decide +kernel
theorem dX6_bestPull_83 : decode cX6_bestPull 83 = .ok (.getfield 33, 3) := by decide +kernel
theorem dX6_bestPull_86 : decode cX6_bestPull 86 = .ok (.aload_n 0, 1) := by decide +kernel
theorem dX6_bestPull_87 : decode cX6_bestPull 87 = .ok (.getfield 23, 3) := by decide +kernel
theorem dX6_bestPull_90 : decode cX6_bestPull 90 = .ok (.getfield 51, 3) := by decide +kernel
