theorem dX7_kind_1 : decode cX7_kind 1 = .ok (.invokevirtual 68, 3) := by decide +kernel
theorem dX7_kind_4 : decode cX7_kind 4 = .ok (.ifCond .ne 5, 3) := by decide +kernel
theorem dX7_kind_7 : decode cX7_kind 7 = .ok (.iconst 0, 1) := by decide +kernel
theorem dX7_kind_8 : decode cX7_kind 8 = .ok (.ireturn, 1) := by decide +kernel
theorem dX7_kind_9 : decode cX7_kind 9 = .ok (.aload_n 0, 1) := by decide +kernel
theorem dX7_kind_10 : decode cX7_kind 10 = .ok (.invokevirtual 72, 3) := by decide +kernel
theorem dX7_kind_13 : decode cX7_kind 13 = .ok (.istore_n 1, 1) := by decide +kernel
theorem dX7_kind_14 : decode cX7_kind 14 = .ok (.iconst 0, 1) := by decide +kernel
theorem dX7_kind_15 : decode cX7_kind 15 = .ok (.istore_n 2, 1) := by decide +kernel
theorem dX7_kind_16 : decode cX7_kind 16 = .ok (.aload_n 0, 1) := by decide +kernel
theorem dX7_kind_17 : decode cX7_kind 17 = .ok (.getfield 51, 3) := by decide +kernel
theorem dX7_kind_20 : decode cX7_kind 20 = .ok (.istore_n 3, 1) := by decide +kernel
theorem dX7_kind_21 : decode cX7_kind 21 = .ok (.aload_n 0, 1) := by decide +kernel
theorem dX7_kind_22 : decode cX7_kind 22 = .ok (.iload_n 3, 1) := by decide +kernel
theorem dX7_kind_23 : decode cX7_kind 23 = .ok (.iload_n 2, 1) := by decide +kernel
theorem dX7_kind_24 : decode cX7_kind 24 = .ok (.iadd, 1) := by decide +kernel
theorem dX7_kind_25 : decode cX7_kind 25 = .ok (.invokevirtual 54, 3) := by decide +kernel
theorem dX7_kind_28 : decode cX7_kind 28 = .ok (.bipush 97, 2) := by decide +kernel
theorem dX7_kind_30 : decode cX7_kind 30 = .ok (.bipush 122, 2) := by decide +kernel
theorem dX7_kind_32 : decode cX7_kind 32 = .ok (.invokestatic 64, 3) := by decide +kernel
theorem dX7_kind_35 : decode cX7_kind 35 = .ok (.ifCond .eq 9, 3) := by decide +kernel
theorem dX7_kind_38 : decode cX7_kind 38 = .ok (.iinc 2 1, 3) := by decide +kernel
theorem dX7_kind_41 : decode cX7_kind 41 = .ok (.goto (-20), 3) := by decide +kernel
theorem dX7_kind_44 : decode cX7_kind 44 = .ok (.iload_n 2, 1) := by decide +kernel
theorem dX7_kind_45 : decode cX7_kind 45 = .ok (.ifCond .ne 10, 3) := by decide +kernel
theorem dX7_kind_48 : decode cX7_kind 48 = .ok (.aload_n 0, 1) := by decide +kernel
theorem dX7_kind_49 : decode cX7_kind 49 = .ok (.bipush (-2), 2) := by decide +kernel
theorem dX7_kind_51 : decode cX7_kind 51 = .ok (.iload_n 3, 1) := by decide +kernel
theorem dX7_kind_52 : decode cX7_kind 52 = .ok (.invokevirtual 85, 3) := by decide +kernel
theorem dX7_kind_55 : decode cX7_kind 55 = .ok (.iload_n 2, 1) := by decide +kernel
theorem dX7_kind_56 : decode cX7_kind 56 = .ok (.iconst 1, 1) := by decide +kernel
theorem dX7_kind_57 : decode cX7_kind 57 = .ok (.if_icmp .le 10, 3) := by decide +kernel
theorem dX7_kind_60 : decode cX7_kind 60 = .ok (.aload_n 0, 1) := by decide +kernel
theorem dX7_kind_61 : decode cX7_kind 61 = .ok (.bipush (-3), 2) := by decide +kernel
theorem dX7_kind_63 : decode cX7_kind 63 = .ok (.iload_n 3, 1) := by decide +kernel
theorem dX7_kind_64 : decode cX7_kind 64 = .ok (.invokevirtual 85, 3) := by decide +kernel
theorem dX7_kind_67 : decode cX7_kind 67 = .ok (.aload_n 0, 1) := by decide +kernel
theorem dX7_kind_68 : decode cX7_kind 68 = .ok (.dup, 1) := by decide +kernel
theorem dX7_kind_69 : decode cX7_kind 69 = .ok (.getfield 51, 3) := by decide +kernel
theorem dX7_kind_72 : decode cX7_kind 72 = .ok (.iload_n 2, 1) := by decide +kernel
theorem dX7_kind_73 : decode cX7_kind 73 = .ok (.iadd, 1) := by decide +kernel
theorem dX7_kind_74 : decode cX7_kind 74 = .ok (.putfield 51, 3) := by decide +kernel
theorem dX7_kind_77 : decode cX7_kind 77 = .ok (.aload_n 0, 1) := by decide +kernel
theorem dX7_kind_78 : decode cX7_kind 78 = .ok (.invokevirtual 68, 3) := by decide +kernel
theorem dX7_kind_81 : decode cX7_kind 81 = .ok (.ifCond .eq 10, 3) := by decide +kernel
theorem dX7_kind_84 : decode cX7_kind 84 = .ok (.iload_n 1, 1) := by decide +kernel
theorem dX7_kind_85 : decode cX7_kind 85 = .ok (.bipush 97, 2) := by decide +kernel
theorem dX7_kind_87 : decode cX7_kind 87 = .ok (.isub, 1) := by decide +kernel
theorem dX7_kind_88 : decode cX7_kind 88 = .ok (.goto 4, 3) := by decide +kernel
theorem dX7_kind_91 : decode cX7_kind 91 = .ok (.iconst 0, 1) := by decide +kernel
theorem dX7_kind_92 : decode cX7_kind 92 = .ok (.ireturn, 1) := by decide +kernel
theorem dX7_addViewer_0 : decode cX7_addViewer 0 = .ok (.sipush 503, 3) := by decide +kernel
theorem dX7_addViewer_3 : decode cX7_addViewer 3 = .ok (.bipush 7, 2) := by decide +kernel
theorem dX7_addViewer_5 : decode cX7_addViewer 5 = .ok (.aload_n 0, 1) := by decide +kernel
theorem dX7_addViewer_6 : decode cX7_addViewer 6 = .ok (.bipush 7, 2) := by decide +kernel
theorem dX7_addViewer_8 : decode cX7_addViewer 8 = .ok (.iaload, 1) := by decide +kernel
theorem dX7_addViewer_9 : decode cX7_addViewer 9 = .ok (.imul, 1) := by decide +kernel
theorem dX7_addViewer_10 : decode cX7_addViewer 10 = .ok (.iadd, 1) := by decide +kernel
theorem dX7_addViewer_11 : decode cX7_addViewer 11 = .ok (.istore 4, 2) := by decide +kernel
theorem dX7_addViewer_13 : decode cX7_addViewer 13 = .ok (.aload_n 0, 1) := by decide +kernel
theorem dX7_addViewer_14 : decode cX7_addViewer 14 = .ok (.iload 4, 2) := by decide +kernel
theorem dX7_addViewer_16 : decode cX7_addViewer 16 = .ok (.iconst 0, 1) := by decide +kernel
theorem dX7_addViewer_17 : decode cX7_addViewer 17 = .ok (.iadd, 1) := by decide +kernel
theorem dX7_addViewer_18 : decode cX7_addViewer 18 = .ok (.iload_n 1, 1) := by decide +kernel
theorem dX7_addViewer_19 : decode cX7_addViewer 19 = .ok (.iastore, 1) := by decide +kernel
theorem dX7_addViewer_20 : decode cX7_addViewer 20 = .ok (.aload_n 0, 1) := by decide +kernel
theorem dX7_addViewer_21 : decode cX7_addViewer 21 = .ok (.iload 4, 2) := by decide +kernel
theorem dX7_addViewer_23 : decode cX7_addViewer 23 = .ok (.iconst 1, 1) := by decide +kernel
theorem dX7_addViewer_24 : decode cX7_addViewer 24 = .ok (.iadd, 1) := by decide +kernel
theorem dX7_addViewer_25 : decode cX7_addViewer 25 = .ok (.iload_n 2, 1) := by decide +kernel
theorem dX7_addViewer_26 : decode cX7_addViewer 26 = .ok (.iastore, 1) := by decide +kernel
theorem dX7_addViewer_27 : decode cX7_addViewer 27 = .ok (.aload_n 0, 1) := by decide +kernel
theorem dX7_addViewer_28 : decode cX7_addViewer 28 = .ok (.iload 4, 2) := by decide +kernel
theorem dX7_addViewer_30 : decode cX7_addViewer 30 = .ok (.iconst 2, 1) := by decide +kernel
theorem dX7_addViewer_31 : decode cX7_addViewer 31 = .ok (.iadd, 1) := by decide +kernel
theorem dX7_addViewer_32 : decode cX7_addViewer 32 = .ok (.iload_n 3, 1) := by decide +kernel
theorem dX7_addViewer_33 : decode cX7_addViewer 33 = .ok (.iastore, 1) := by decide +kernel
theorem dX7_addViewer_34 : decode cX7_addViewer 34 = .ok (.aload_n 0, 1) := by decide +kernel
theorem dX7_addViewer_35 : decode cX7_addViewer 35 = .ok (.iload 4, 2) := by decide +kernel
theorem dX7_addViewer_37 : decode cX7_addViewer 37 = .ok (.iconst 3, 1) := by decide +kernel
theorem dX7_addViewer_38 : decode cX7_addViewer 38 = .ok (.iadd, 1) := by decide +kernel
theorem dX7_addViewer_39 : decode cX7_addViewer 39 = .ok (.iconst 0, 1) := by decide +kernel
theorem dX7_addViewer_40 : decode cX7_addViewer 40 = .ok (.iastore, 1) := by decide +kernel
theorem dX7_addViewer_41 : decode cX7_addViewer 41 = .ok (.aload_n 0, 1) := by decide +kernel
theorem dX7_addViewer_42 : decode cX7_addViewer 42 = .ok (.iload 4, 2) := by decide +kernel
theorem dX7_addViewer_44 : decode cX7_addViewer 44 = .ok (.iconst 4, 1) := by decide +kernel
theorem dX7_addViewer_45 : decode cX7_addViewer 45 = .ok (.iadd, 1) := by decide +kernel
theorem dX7_addViewer_46 : decode cX7_addViewer 46 = .ok (.iconst (-1), 1) := by decide +kernel
theorem dX7_addViewer_47 : decode cX7_addViewer 47 = .ok (.iastore, 1) := by decide +kernel
theorem dX7_addViewer_48 : decode cX7_addViewer 48 = .ok (.aload_n 0, 1) := by decide +kernel
theorem dX7_addViewer_49 : decode cX7_addViewer 49 = .ok (.iload 4, 2) := by decide +kernel
theorem dX7_addViewer_51 : decode cX7_addViewer 51 = .ok (.iconst 5, 1) := by decide +kernel
theorem dX7_addViewer_52 : decode cX7_addViewer 52 = .ok (.iadd, 1) := by decide +kernel
theorem dX7_addViewer_53 : decode cX7_addViewer 53 = .ok (.iconst 0, 1) := by decide +kernel
theorem dX7_addViewer_54 : decode cX7_addViewer 54 = .ok (.iastore, 1) := by decide +kernel
theorem dX7_addViewer_55 : decode cX7_addViewer 55 = .ok (.aload_n 0, 1) := by decide +kernel
theorem dX7_addViewer_56 : decode cX7_addViewer 56 = .ok (.iload 4, 2) := by decide +kernel
theorem dX7_addViewer_58 : decode cX7_addViewer 58 = .ok (.bipush 6, 2) := by decide +kernel
theorem dX7_addViewer_60 : decode cX7_addViewer 60 = .ok (.iadd, 1) := by decide +kernel
theorem dX7_addViewer_61 : decode cX7_addViewer 61 = .ok (.iconst 0, 1) := by decide +kernel
theorem dX7_addViewer_62 : decode cX7_addViewer 62 = .ok (.iastore, 1) := by decide +kernel
theorem dX7_addViewer_63 : decode cX7_addViewer 63 = .ok (.aload_n 0, 1) := by decide +kernel
theorem dX7_addViewer_64 : decode cX7_addViewer 64 = .ok (.bipush 7, 2) := by decide +kernel
theorem dX7_addViewer_66 : decode cX7_addViewer 66 = .ok (.dup2, 1) := by decide +kernel
theorem dX7_addViewer_67 : decode cX7_addViewer 67 = .ok (.iaload, 1) := by decide +kernel
theorem dX7_addViewer_68 : decode cX7_addViewer 68 = .ok (.iconst 1, 1) := by decide +kernel
theorem dX7_addViewer_69 : decode cX7_addViewer 69 = .ok (.iadd, 1) := by decide +kernel
theorem dX7_addViewer_70 : decode cX7_addViewer 70 = .ok (.iastore, 1) := by decide +kernel
theorem dX7_addViewer_71 : decode cX7_addViewer 71 = .ok (.return_, 1) := by decide +kernel
set_option maxRecDepth 20000 in
theorem ggX7_readViewer_X7_report : GoodIn wsX7_readViewer wsX7_report := goodIn_r _ [6, 7, 8, 46, 47, 48, 49, 50, 51, 52, 53, 54, 55, 56, 57, 58, 59, 60, 61, 62, 63, 64] (by decide +kernel) (by decide +kernel)
set_option maxRecDepth 20000 in
theorem gX7_readViewer_X7_report : GoodIn wsX7_readViewer (wsV RX7 85 RX7 yX7_report wsX7_report) := goodIn_app (goodIn_of _ (by decide +kernel)) ggX7_readViewer_X7_report
set_option maxRecDepth 20000 in
theorem ggX7_readViewer_X7_number : GoodIn wsX7_readViewer wsX7_number := goodIn_r _ [12, 13, 14, 15, 16, 17, 18, 5, 19, 7, 20, 21, 22, 23, 24, 25, 26, 27, 28, 29, 30, 31, 32, 33, 34, 35, 2, 3, 4, 6, 8, 36, 37, 38, 46, 47, 48, 49, 50, 51, 52, 53, 54, 55, 56, 57, 58, 59, 60, 61, 62, 63, 64] (by decide +kernel) (by decide +kernel)
set_option maxRecDepth 20000 in
theorem gX7_readViewer_X7_number : GoodIn wsX7_readViewer (wsV RX7 123 RX7 yX7_number wsX7_number) := goodIn_app (goodIn_of _ (by decide +kernel)) ggX7_readViewer_X7_number
set_option maxRecDepth 20000 in
theorem ggX7_readViewer_X7_kind : GoodIn wsX7_readViewer wsX7_kind := goodIn_r _ [42, 13, 16, 17, 18, 5, 19, 7, 20, 21, 22, 23, 24, 25, 26, 27, 28, 29, 33, 34, 35, 2, 3, 4, 6, 8, 46, 47, 48, 49, 50, 51, 52, 53, 54, 55, 56, 57, 58, 59, 60, 61, 62, 63, 64] (by decide +kernel) (by decide +kernel)
set_option maxRecDepth 20000 in
theorem gX7_readViewer_X7_kind : GoodIn wsX7_readViewer (wsV RX7 147 RX7 yX7_kind wsX7_kind) := goodIn_app (goodIn_of _ (by decide +kernel)) ggX7_readViewer_X7_kind
set_option maxRecDepth 20000 in
theorem ggX7_readViewer_X7_isGood : GoodIn wsX7_readViewer wsX7_isGood := goodIn_r _ [19, 7, 46, 47, 48, 49, 50, 51, 52, 53, 54, 55, 56, 57, 58, 59, 60, 61, 62, 63, 64] (by decide +kernel) (by decide +kernel)
set_option maxRecDepth 20000 in
theorem gX7_readViewer_X7_isGood : GoodIn wsX7_readViewer (wsV RX7 68 RX7 yX7_isGood wsX7_isGood) := goodIn_app (goodIn_of _ (by decide +kernel)) ggX7_readViewer_X7_isGood
set_option maxRecDepth 20000 in
theorem ggX7_readViewer_X7_addViewer : GoodIn wsX7_readViewer wsX7_addViewer := goodIn_r _ [45] (by decide +kernel) (by decide +kernel)
set_option maxRecDepth 20000 in
theorem gX7_readViewer_X7_addViewer : GoodIn wsX7_readViewer (va_wsS RX7 150 yX7_addViewer wsX7_addViewer) := goodIn_app (goodIn_of _ (by decide +kernel)) ggX7_readViewer_X7_addViewer
theorem dX7_readViewer_0 : decode cX7_readViewer 0 = .ok (.aload_n 0, 1) := by decide +kernel
theorem dX7_readViewer_1 : decode cX7_readViewer 1 = .ok (.getfield 20, 3) := by decide +kernel
theorem dX7_readViewer_4 : decode cX7_readViewer 4 = .ok (.bipush 7, 2) := by decide +kernel
theorem dX7_readViewer_6 : decode cX7_readViewer 6 = .ok (.iaload, 1) := by decide +kernel
theorem dX7_readViewer_7 : decode cX7_readViewer 7 = .ok (.bipush 20, 2) := by decide +kernel
theorem dX7_readViewer_9 : decode cX7_readViewer 9 = .ok (.if_icmp .ne 10, 3) := by decide +kernel
theorem dX7_readViewer_12 : decode cX7_readViewer 12 = .ok (.aload_n 0, 1) := by decide +kernel
theorem dX7_readViewer_13 : decode cX7_readViewer 13 = .ok (.bipush (-5), 2) := by decide +kernel
theorem dX7_readViewer_15 : decode cX7_readViewer 15 = .ok (.iload_n 1, 1) := by decide +kernel
theorem dX7_readViewer_16 : decode cX7_readViewer 16 = .ok (.invokevirtual 85, 3) := by decide +kernel
theorem dX7_readViewer_19 : decode cX7_readViewer 19 = .ok (.aload_n 0, 1) := by decide +kernel
theorem dX7_readViewer_20 : decode cX7_readViewer 20 = .ok (.iconst 0, 1) := by decide +kernel
theorem dX7_readViewer_21 : decode cX7_readViewer 21 = .ok (.bipush 9, 2) := by decide +kernel
theorem dX7_readViewer_23 : decode cX7_readViewer 23 = .ok (.invokevirtual 123, 3) := by decide +kernel
theorem dX7_readViewer_26 : decode cX7_readViewer 26 = .ok (.istore_n 2, 1) := by decide +kernel
theorem dX7_readViewer_27 : decode cX7_readViewer 27 = .ok (.aload_n 0, 1) := by decide +kernel
theorem dX7_readViewer_28 : decode cX7_readViewer 28 = .ok (.invokevirtual 147, 3) := by decide +kernel
theorem dX7_readViewer_31 : decode cX7_readViewer 31 = .ok (.istore_n 3, 1) := by decide +kernel
theorem dX7_readViewer_32 : decode cX7_readViewer 32 = .ok (.aload_n 0, 1) := by decide +kernel
theorem dX7_readViewer_33 : decode cX7_readViewer 33 = .ok (.iconst 0, 1) := by decide +kernel
theorem dX7_readViewer_34 : decode cX7_readViewer 34 = .ok (.sipush 999, 3) := by decide +kernel
theorem dX7_readViewer_37 : decode cX7_readViewer 37 = .ok (.invokevirtual 123, 3) := by decide +kernel
theorem dX7_readViewer_40 : decode cX7_readViewer 40 = .ok (.istore 4, 2) := by decide +kernel
theorem dX7_readViewer_42 : decode cX7_readViewer 42 = .ok (.aload_n 0, 1) := by decide +kernel
theorem dX7_readViewer_43 : decode cX7_readViewer 43 = .ok (.invokevirtual 68, 3) := by decide +kernel
theorem dX7_readViewer_46 : decode cX7_readViewer 46 = .ok (.ifCond .eq 14, 3) := by decide +kernel
theorem dX7_readViewer_49 : decode cX7_readViewer 49 = .ok (.aload_n 0, 1) := by decide +kernel
theorem dX7_readViewer_50 : decode cX7_readViewer 50 = .ok (.getfield 20, 3) := by decide +kernel
theorem dX7_readViewer_53 : decode cX7_readViewer 53 = .ok (.iload_n 2, 1) := by decide +kernel
theorem dX7_readViewer_54 : decode cX7_readViewer 54 = .ok (.iload_n 3, 1) := by decide +kernel
theorem dX7_readViewer_55 : decode cX7_readViewer 55 = .ok (.iload 4, 2) := by decide +kernel
theorem dX7_readViewer_57 : decode cX7_readViewer 57 = .ok (.invokestatic 150, 3) := by decide +kernel
theorem dX7_readViewer_60 : decode cX7_readViewer 60 = .ok (.return_, 1) := by decide +kernel
set_option maxRecDepth 20000 in
theorem ggX7_statement_X7_ahead : GoodIn wsX7_statement wsX7_ahead := goodIn_r _ [7, 1, 8, 9, 10, 6, 11, 12, 13, 145, 146, 147, 148, 149, 150, 151, 152, 153, 154, 155, 156, 157, 158, 159, 160, 161, 162, 163] (by decide +kernel) (by decide +kernel)
set_option maxRecDepth 20000 in
theorem gX7_statement_X7_ahead : GoodIn wsX7_statement (wsV RX7 72 RX7 yX7_ahead wsX7_ahead) := goodIn_app (goodIn_of _ (by decide +kernel)) ggX7_statement_X7_ahead
set_option maxRecDepth 20000 in
theorem ggX7_statement_X7_takeWord : GoodIn wsX7_statement wsX7_takeWord := goodIn_r _ [17, 1, 18, 19, 20, 6, 21, 22, 3, 4, 5, 7, 8, 9, 10, 11, 12, 13, 23, 24, 25, 26, 27, 28, 29, 30, 31, 32, 33, 34, 35, 36, 37, 38, 39, 40, 41, 42, 43, 44, 45, 46, 47, 48, 49, 50, 51, 52, 53, 54, 55, 56, 57, 58, 59, 60, 61, 62, 63, 64, 65, 66, 67, 68, 69, 70, 71, 72, 73, 74, 145, 146, 147, 148, 149, 150, 151, 152, 153, 154, 155, 156, 157, 158, 159, 160, 161, 162, 163] (by decide +kernel) (by decide +kernel)
set_option maxRecDepth 20000 in
theorem gX7_statement_X7_takeWord : GoodIn wsX7_statement (wsV RX7 113 RX7 yX7_takeWord wsX7_takeWord) := goodIn_app (goodIn_of _ (by decide +kernel)) ggX7_statement_X7_takeWord
set_option maxRecDepth 20000 in
theorem ggX7_statement_X7_readPlane : GoodIn wsX7_statement wsX7_readPlane := goodIn_r _ [78, 79, 2, 80, 81, 82, 6, 83, 22, 84, 85, 86, 87, 88, 1, 18, 19, 20, 21, 3, 4, 5, 7, 8, 9, 10, 11, 12, 13, 89, 90, 91, 72, 73, 74, 145, 146, 147, 148, 149, 150, 151, 152, 153, 154, 155, 156, 157, 158, 159, 160, 161, 162, 163] (by decide +kernel) (by decide +kernel)
set_option maxRecDepth 20000 in
theorem gX7_statement_X7_readPlane : GoodIn wsX7_statement (wsV RX7 155 RX7 yX7_readPlane wsX7_readPlane) := goodIn_app (goodIn_of _ (by decide +kernel)) ggX7_statement_X7_readPlane
set_option maxRecDepth 20000 in
theorem ggX7_statement_X7_readHole : GoodIn wsX7_statement wsX7_readHole := goodIn_r _ [95, 2, 80, 81, 82, 6, 83, 22, 84, 96, 97, 98, 99, 1, 100, 101, 18, 19, 20, 21, 3, 4, 5, 7, 8, 9, 10, 11, 12, 13, 102, 103, 104, 72, 73, 74, 105, 106, 107, 145, 146, 147, 148, 149, 150, 151, 152, 153, 154, 155, 156, 157, 158, 159, 160, 161, 162, 163] (by decide +kernel) (by decide +kernel)
set_option maxRecDepth 20000 in
theorem gX7_statement_X7_readHole : GoodIn wsX7_statement (wsV RX7 158 RX7 yX7_readHole wsX7_readHole) := goodIn_app (goodIn_of _ (by decide +kernel)) ggX7_statement_X7_readHole
set_option maxRecDepth 20000 in
theorem ggX7_statement_X7_once : GoodIn wsX7_statement wsX7_once := goodIn_r _ [111, 112, 80, 81, 82, 6, 83, 22, 84, 145, 146, 147, 148, 149, 150, 151, 152, 153, 154, 155, 156, 157, 158, 159, 160, 161, 162, 163] (by decide +kernel) (by decide +kernel)
set_option maxRecDepth 20000 in
theorem gX7_statement_X7_once : GoodIn wsX7_statement (wsV RX7 163 RX7 yX7_once wsX7_once) := goodIn_app (goodIn_of _ (by decide +kernel)) ggX7_statement_X7_once
set_option maxRecDepth 20000 in
theorem ggX7_statement_X7_number : GoodIn wsX7_statement wsX7_number := goodIn_r _ [99, 1, 100, 101, 18, 19, 20, 6, 21, 22, 3, 4, 5, 7, 8, 9, 10, 11, 12, 13, 102, 103, 104, 72, 73, 74, 80, 81, 82, 83, 84, 105, 106, 107, 145, 146, 147, 148, 149, 150, 151, 152, 153, 154, 155, 156, 157, 158, 159, 160, 161, 162, 163] (by decide +kernel) (by decide +kernel)
set_option maxRecDepth 20000 in
theorem gX7_statement_X7_number : GoodIn wsX7_statement (wsV RX7 123 RX7 yX7_number wsX7_number) := goodIn_app (goodIn_of _ (by decide +kernel)) ggX7_statement_X7_number
set_option maxRecDepth 20000 in
theorem ggX7_statement_X7_readViewer : GoodIn wsX7_statement wsX7_readViewer := goodIn_r _ [116, 2, 80, 81, 82, 6, 83, 22, 84, 96, 97, 98, 99, 1, 100, 101, 18, 19, 20, 21, 3, 4, 5, 7, 8, 9, 10, 11, 12, 13, 102, 103, 104, 72, 73, 74, 105, 106, 107, 117, 118, 119, 120, 121, 122, 123, 145, 146, 147, 148, 149, 150, 151, 152, 153, 154, 155, 156, 157, 158, 159, 160, 161, 162, 163] (by decide +kernel) (by decide +kernel)
set_option maxRecDepth 20000 in
theorem gX7_statement_X7_readViewer : GoodIn wsX7_statement (wsV RX7 169 RX7 yX7_readViewer wsX7_readViewer) := goodIn_app (goodIn_of _ (by decide +kernel)) ggX7_statement_X7_readViewer
set_option maxRecDepth 20000 in
theorem ggX7_statement_X7_readSum : GoodIn wsX7_statement wsX7_readSum := goodIn_r _ [127, 1, 128, 129, 130, 6, 18, 19, 20, 21, 22, 3, 4, 5, 7, 8, 9, 10, 11, 12, 13, 131, 132, 133, 134, 2, 135, 136, 80, 81, 82, 83, 84, 124, 125, 126, 137, 138, 139, 140, 102, 103, 104, 72, 73, 74, 14, 15, 16, 17, 23, 24, 25, 26, 27, 28, 29, 30, 31, 32, 33, 34, 35, 36, 37, 38, 39, 40, 41, 42, 43, 44, 45, 46, 47, 48, 49, 50, 51, 52, 53, 54, 55, 56, 57, 58, 59, 60, 61, 62, 63, 64, 65, 66, 67, 68, 69, 70, 71, 96, 97, 98, 99, 100, 101, 105, 106, 107, 141, 142, 143, 144, 145, 146, 147, 148, 149, 150, 151, 152, 153, 154, 155, 156, 157, 158, 159, 160, 161, 162, 163] (by decide +kernel) (by decide +kernel)
set_option maxRecDepth 20000 in
theorem gX7_statement_X7_readSum : GoodIn wsX7_statement (wsV RX7 104 RX7 yX7_readSum wsX7_readSum) := goodIn_app (goodIn_of _ (by decide +kernel)) ggX7_statement_X7_readSum
set_option maxRecDepth 20000 in
theorem ggX7_statement_X7_report : GoodIn wsX7_statement wsX7_report := goodIn_r _ [83, 22, 84, 145, 146, 147, 148, 149, 150, 151, 152, 153, 154, 155, 156, 157, 158, 159, 160, 161, 162, 163] (by decide +kernel) (by decide +kernel)
set_option maxRecDepth 20000 in
theorem gX7_statement_X7_report : GoodIn wsX7_statement (wsV RX7 85 RX7 yX7_report wsX7_report) := goodIn_app (goodIn_of _ (by decide +kernel)) ggX7_statement_X7_report
set_option maxRecDepth 20000 in
theorem ggX7_statement_X7_expect : GoodIn wsX7_statement wsX7_expect := goodIn_r _ [140, 1, 18, 19, 20, 6, 21, 22, 3, 4, 5, 7, 8, 9, 10, 11, 12, 13, 80, 81, 82, 83, 84, 145, 146, 147, 148, 149, 150, 151, 152, 153, 154, 155, 156, 157, 158, 159, 160, 161, 162, 163] (by decide +kernel) (by decide +kernel)
set_option maxRecDepth 20000 in
theorem gX7_statement_X7_expect : GoodIn wsX7_statement (wsV RX7 107 RX7 yX7_expect wsX7_expect) := goodIn_app (goodIn_of _ (by decide +kernel)) ggX7_statement_X7_expect
theorem dX7_statement_0 : decode cX7_statement 0 = .ok (.aload_n 0, 1) := by decide +kernel
theorem dX7_statement_1 : decode cX7_statement 1 = .ok (.invokevirtual 72, 3) := by decide +kernel
theorem dX7_statement_4 : decode cX7_statement 4 = .ok (.pop, 1) := by decide +kernel
theorem dX7_statement_5 : decode cX7_statement 5 = .ok (.aload_n 0, 1) := by decide +kernel
theorem dX7_statement_6 : decode cX7_statement 6 = .ok (.getfield 51, 3) := by decide +kernel
theorem dX7_statement_9 : decode cX7_statement 9 = .ok (.istore_n 1, 1) := by decide +kernel
theorem dX7_statement_10 : decode cX7_statement 10 = .ok (.aload_n 0, 1) := by decide +kernel
theorem dX7_statement_11 : decode cX7_statement 11 = .ok (.ldc 153, 2) := by decide +kernel
theorem dX7_statement_13 : decode cX7_statement 13 = .ok (.invokevirtual 113, 3) := by decide +kernel
theorem dX7_statement_16 : decode cX7_statement 16 = .ok (.ifCond .eq 11, 3) := by decide +kernel
theorem dX7_statement_19 : decode cX7_statement 19 = .ok (.aload_n 0, 1) := by decide +kernel
theorem dX7_statement_20 : decode cX7_statement 20 = .ok (.iload_n 1, 1) := by decide +kernel
theorem dX7_statement_21 : decode cX7_statement 21 = .ok (.invokevirtual 155, 3) := by decide +kernel
theorem dX7_statement_24 : decode cX7_statement 24 = .ok (.goto 136, 3) := by decide +kernel
theorem dX7_statement_27 : decode cX7_statement 27 = .ok (.aload_n 0, 1) := by decide +kernel
theorem dX7_statement_28 : decode cX7_statement 28 = .ok (.ldc 121, 2) := by decide +kernel
theorem dX7_statement_30 : decode cX7_statement 30 = .ok (.invokevirtual 113, 3) := by decide +kernel
theorem dX7_statement_33 : decode cX7_statement 33 = .ok (.ifCond .eq 11, 3) := by decide +kernel
theorem dX7_statement_36 : decode cX7_statement 36 = .ok (.aload_n 0, 1) := by decide +kernel
theorem dX7_statement_37 : decode cX7_statement 37 = .ok (.iload_n 1, 1) := by decide +kernel
theorem dX7_statement_38 : decode cX7_statement 38 = .ok (.invokevirtual 158, 3) := by decide +kernel
theorem dX7_statement_41 : decode cX7_statement 41 = .ok (.goto 119, 3) := by decide +kernel
theorem dX7_statement_44 : decode cX7_statement 44 = .ok (.aload_n 0, 1) := by decide +kernel
theorem dX7_statement_45 : decode cX7_statement 45 = .ok (.ldc 161, 2) := by decide +kernel
theorem dX7_statement_47 : decode cX7_statement 47 = .ok (.invokevirtual 113, 3) := by decide +kernel
theorem dX7_statement_50 : decode cX7_statement 50 = .ok (.ifCond .eq 25, 3) := by decide +kernel
theorem dX7_statement_53 : decode cX7_statement 53 = .ok (.aload_n 0, 1) := by decide +kernel
theorem dX7_statement_54 : decode cX7_statement 54 = .ok (.iconst 0, 1) := by decide +kernel
theorem dX7_statement_55 : decode cX7_statement 55 = .ok (.iload_n 1, 1) := by decide +kernel
theorem dX7_statement_56 : decode cX7_statement 56 = .ok (.invokevirtual 163, 3) := by decide +kernel
theorem dX7_statement_59 : decode cX7_statement 59 = .ok (.aload_n 0, 1) := by decide +kernel
theorem dX7_statement_60 : decode cX7_statement 60 = .ok (.getfield 20, 3) := by decide +kernel
theorem dX7_statement_63 : decode cX7_statement 63 = .ok (.iconst 4, 1) := by decide +kernel
theorem dX7_statement_64 : decode cX7_statement 64 = .ok (.aload_n 0, 1) := by decide +kernel
theorem dX7_statement_65 : decode cX7_statement 65 = .ok (.iconst 0, 1) := by decide +kernel
theorem dX7_statement_66 : decode cX7_statement 66 = .ok (.bipush 9, 2) := by decide +kernel
theorem dX7_statement_68 : decode cX7_statement 68 = .ok (.invokevirtual 123, 3) := by decide +kernel
theorem dX7_statement_71 : decode cX7_statement 71 = .ok (.iastore, 1) := by decide +kernel
theorem dX7_statement_72 : decode cX7_statement 72 = .ok (.goto 88, 3) := by decide +kernel
theorem dX7_statement_75 : decode cX7_statement 75 = .ok (.aload_n 0, 1) := by decide +kernel
theorem dX7_statement_76 : decode cX7_statement 76 = .ok (.ldc 166, 2) := by decide +kernel
theorem dX7_statement_78 : decode cX7_statement 78 = .ok (.invokevirtual 113, 3) := by decide +kernel
theorem dX7_statement_81 : decode cX7_statement 81 = .ok (.ifCond .eq 25, 3) := by decide +kernel
theorem dX7_statement_84 : decode cX7_statement 84 = .ok (.aload_n 0, 1) := by decide +kernel
theorem dX7_statement_85 : decode cX7_statement 85 = .ok (.iconst 1, 1) := by decide +kernel
theorem dX7_statement_86 : decode cX7_statement 86 = .ok (.iload_n 1, 1) := by decide +kernel
theorem dX7_statement_87 : decode cX7_statement 87 = .ok (.invokevirtual 163, 3) := by decide +kernel
theorem dX7_statement_90 : decode cX7_statement 90 = .ok (.aload_n 0, 1) := by decide +kernel
theorem dX7_statement_91 : decode cX7_statement 91 = .ok (.getfield 20, 3) := by decide +kernel
theorem dX7_statement_94 : decode cX7_statement 94 = .ok (.iconst 5, 1) := by decide +kernel
theorem dX7_statement_95 : decode cX7_statement 95 = .ok (.aload_n 0, 1) := by decide +kernel
theorem dX7_statement_96 : decode cX7_statement 96 = .ok (.iconst 1, 1) := by decide +kernel
theorem dX7_statement_97 : decode cX7_statement 97 = .ok (.bipush 20, 2) := by decide +kernel
theorem dX7_statement_99 : decode cX7_statement 99 = .ok (.invokevirtual 123, 3) := by decide +kernel
theorem dX7_statement_102 : decode cX7_statement 102 = .ok (.iastore, 1) := by decide +kernel
theorem dX7_statement_103 : decode cX7_statement 103 = .ok (.goto 57, 3) := by decide +kernel
theorem dX7_statement_106 : decode cX7_statement 106 = .ok (.aload_n 0, 1) := by decide +kernel
theorem dX7_statement_107 : decode cX7_statement 107 = .ok (.ldc 167, 2) := by decide +kernel
theorem dX7_statement_109 : decode cX7_statement 109 = .ok (.invokevirtual 113, 3) := by decide +kernel
theorem dX7_statement_112 : decode cX7_statement 112 = .ok (.ifCond .eq 11, 3) := by decide +kernel
theorem dX7_statement_115 : decode cX7_statement 115 = .ok (.aload_n 0, 1) := by decide +kernel
theorem dX7_statement_116 : decode cX7_statement 116 = .ok (.iload_n 1, 1) := by decide +kernel
theorem dX7_statement_117 : decode cX7_statement 117 = .ok (.invokevirtual 169, 3) := by decide +kernel
theorem dX7_statement_120 : decode cX7_statement 120 = .ok (.goto 40, 3) := by decide +kernel
theorem dX7_statement_123 : decode cX7_statement 123 = .ok (.aload_n 0, 1) := by decide +kernel
theorem dX7_statement_124 : decode cX7_statement 124 = .ok (.ldc 172, 2) := by decide +kernel
theorem dX7_statement_126 : decode cX7_statement 126 = .ok (.invokevirtual 113, 3) := by decide +kernel
theorem dX7_statement_129 : decode cX7_statement 129 = .ok (.ifCond .eq 24, 3) := by decide +kernel
theorem dX7_statement_132 : decode cX7_statement 132 = .ok (.aload_n 0, 1) := by decide +kernel
theorem dX7_statement_133 : decode cX7_statement 133 = .ok (.iconst 2, 1) := by decide +kernel
theorem dX7_statement_134 : decode cX7_statement 134 = .ok (.iload_n 1, 1) := by decide +kernel
theorem dX7_statement_135 : decode cX7_statement 135 = .ok (.invokevirtual 163, 3) := by decide +kernel
theorem dX7_statement_138 : decode cX7_statement 138 = .ok (.aload_n 0, 1) := by decide +kernel
theorem dX7_statement_139 : decode cX7_statement 139 = .ok (.getfield 20, 3) := by decide +kernel
theorem dX7_statement_142 : decode cX7_statement 142 = .ok (.bipush 8, 2) := by decide +kernel
theorem dX7_statement_144 : decode cX7_statement 144 = .ok (.iconst 1, 1) := by decide +kernel
theorem dX7_statement_145 : decode cX7_statement 145 = .ok (.iastore, 1) := by decide +kernel
theorem dX7_statement_146 : decode cX7_statement 146 = .ok (.aload_n 0, 1) := by decide +kernel
theorem dX7_statement_147 : decode cX7_statement 147 = .ok (.invokevirtual 104, 3) := by decide +kernel
theorem dX7_statement_150 : decode cX7_statement 150 = .ok (.goto 10, 3) := by decide +kernel
theorem dX7_statement_153 : decode cX7_statement 153 = .ok (.aload_n 0, 1) := by decide +kernel
theorem dX7_statement_154 : decode cX7_statement 154 = .ok (.bipush (-2), 2) := by decide +kernel
theorem dX7_statement_156 : decode cX7_statement 156 = .ok (.iload_n 1, 1) := by decide +kernel
theorem dX7_statement_157 : decode cX7_statement 157 = .ok (.invokevirtual 85, 3) := by decide +kernel
theorem dX7_statement_160 : decode cX7_statement 160 = .ok (.aload_n 0, 1) := by decide +kernel
theorem dX7_statement_161 : decode cX7_statement 161 = .ok (.bipush 59, 2) := by decide +kernel
theorem dX7_statement_163 : decode cX7_statement 163 = .ok (.invokevirtual 107, 3) := by decide +kernel
theorem dX7_statement_166 : decode cX7_statement 166 = .ok (.return_, 1) := by decide +kernel
set_option maxRecDepth 20000 in
theorem ggX7_load_X7_in : GoodIn wsX7_load wsX7_in := goodIn_r _ [16] (by decide +kernel) (by decide +kernel)
set_option maxRecDepth 20000 in
theorem gX7_load_X7_in : GoodIn wsX7_load (va_wsS RX7 64 yX7_in wsX7_in) := goodIn_app (goodIn_of _ (by decide +kernel)) ggX7_load_X7_in
set_option maxRecDepth 20000 in
theorem ggX7_load_X7_fails : GoodIn wsX7_load wsX7_fails := goodIn_r _ [20, 1, 169, 170, 171, 172, 173, 174, 175, 176, 177, 178, 179, 180, 181, 182, 183, 184, 185, 186, 187] (by decide +kernel) (by decide +kernel)
set_option maxRecDepth 20000 in
theorem gX7_load_X7_fails : GoodIn wsX7_load (wsV RX7 174 RX7 yX7_fails wsX7_fails) := goodIn_app (goodIn_of _ (by decide +kernel)) ggX7_load_X7_fails
set_option maxRecDepth 20000 in
theorem ggX7_load_X7_takeWord : GoodIn wsX7_load wsX7_takeWord := goodIn_r _ [24, 4, 25, 26, 27, 15, 28, 5, 29, 30, 31, 32, 33, 34, 35, 36, 3, 37, 38, 39, 40, 41, 42, 43, 44, 45, 46, 47, 48, 49, 50, 51, 52, 53, 54, 55, 56, 57, 58, 59, 60, 61, 62, 63, 64, 65, 66, 67, 68, 69, 70, 71, 72, 73, 74, 75, 76, 77, 78, 79, 80, 81, 82, 83, 84, 85, 86, 13, 14, 16, 169, 170, 171, 172, 173, 174, 175, 176, 177, 178, 179, 180, 181, 182, 183, 184, 185, 186, 187] (by decide +kernel) (by decide +kernel)
set_option maxRecDepth 20000 in
theorem gX7_load_X7_takeWord : GoodIn wsX7_load (wsV RX7 113 RX7 yX7_takeWord wsX7_takeWord) := goodIn_app (goodIn_of _ (by decide +kernel)) ggX7_load_X7_takeWord
set_option maxRecDepth 20000 in
theorem ggX7_load_X7_report : GoodIn wsX7_load wsX7_report := goodIn_r _ [90, 5, 6, 169, 170, 171, 172, 173, 174, 175, 176, 177, 178, 179, 180, 181, 182, 183, 184, 185, 186, 187] (by decide +kernel) (by decide +kernel)
set_option maxRecDepth 20000 in
theorem gX7_load_X7_report : GoodIn wsX7_load (wsV RX7 85 RX7 yX7_report wsX7_report) := goodIn_app (goodIn_of _ (by decide +kernel)) ggX7_load_X7_report
set_option maxRecDepth 20000 in
theorem ggX7_load_X7_number : GoodIn wsX7_load wsX7_number := goodIn_r _ [94, 4, 95, 96, 25, 26, 27, 15, 28, 5, 29, 30, 31, 32, 33, 34, 35, 36, 3, 37, 97, 98, 99, 13, 14, 16, 87, 88, 89, 90, 6, 100, 101, 102, 169, 170, 171, 172, 173, 174, 175, 176, 177, 178, 179, 180, 181, 182, 183, 184, 185, 186, 187] (by decide +kernel) (by decide +kernel)
set_option maxRecDepth 20000 in
theorem gX7_load_X7_number : GoodIn wsX7_load (wsV RX7 123 RX7 yX7_number wsX7_number) := goodIn_app (goodIn_of _ (by decide +kernel)) ggX7_load_X7_number
set_option maxRecDepth 20000 in
theorem ggX7_load_X7_layBox : GoodIn wsX7_load wsX7_layBox := goodIn_r _ [105] (by decide +kernel) (by decide +kernel)
set_option maxRecDepth 20000 in
theorem gX7_load_X7_layBox : GoodIn wsX7_load (va_wsS RX7 38 yX7_layBox wsX7_layBox) := goodIn_app (goodIn_of _ (by decide +kernel)) ggX7_load_X7_layBox
set_option maxRecDepth 20000 in
theorem ggX7_load_X7_expect : GoodIn wsX7_load wsX7_expect := goodIn_r _ [109, 4, 25, 26, 27, 15, 28, 5, 29, 30, 31, 32, 33, 34, 35, 36, 3, 37, 87, 88, 89, 90, 6, 169, 170, 171, 172, 173, 174, 175, 176, 177, 178, 179, 180, 181, 182, 183, 184, 185, 186, 187] (by decide +kernel) (by decide +kernel)
set_option maxRecDepth 20000 in
theorem gX7_load_X7_expect : GoodIn wsX7_load (wsV RX7 107 RX7 yX7_expect wsX7_expect) := goodIn_app (goodIn_of _ (by decide +kernel)) ggX7_load_X7_expect
set_option maxRecDepth 20000 in
theorem ggX7_load_X7_isGood : GoodIn wsX7_load wsX7_isGood := goodIn_r _ [28, 5, 169, 170, 171, 172, 173, 174, 175, 176, 177, 178, 179, 180, 181, 182, 183, 184, 185, 186, 187] (by decide +kernel) (by decide +kernel)
set_option maxRecDepth 20000 in
theorem gX7_load_X7_isGood : GoodIn wsX7_load (wsV RX7 68 RX7 yX7_isGood wsX7_isGood) := goodIn_app (goodIn_of _ (by decide +kernel)) ggX7_load_X7_isGood
set_option maxRecDepth 20000 in
theorem ggX7_load_X7_ahead : GoodIn wsX7_load wsX7_ahead := goodIn_r _ [32, 4, 33, 34, 35, 15, 36, 3, 37, 169, 170, 171, 172, 173, 174, 175, 176, 177, 178, 179, 180, 181, 182, 183, 184, 185, 186, 187] (by decide +kernel) (by decide +kernel)
set_option maxRecDepth 20000 in
theorem gX7_load_X7_ahead : GoodIn wsX7_load (wsV RX7 72 RX7 yX7_ahead wsX7_ahead) := goodIn_app (goodIn_of _ (by decide +kernel)) ggX7_load_X7_ahead
set_option maxRecDepth 20000 in
theorem ggX7_load_X7_statement : GoodIn wsX7_load wsX7_statement := goodIn_r _ [113, 4, 10, 29, 30, 31, 15, 32, 33, 34, 35, 36, 3, 37, 21, 22, 23, 24, 25, 26, 27, 28, 5, 38, 39, 40, 41, 42, 43, 44, 45, 46, 47, 48, 49, 50, 51, 52, 53, 54, 55, 56, 57, 58, 59, 60, 61, 62, 63, 64, 65, 66, 67, 68, 69, 70, 71, 72, 73, 74, 75, 76, 77, 78, 79, 80, 81, 82, 83, 84, 85, 86, 13, 14, 16, 114, 115, 116, 117, 9, 87, 88, 89, 90, 6, 118, 119, 120, 121, 122, 123, 124, 125, 126, 127, 128, 91, 92, 93, 94, 95, 96, 97, 98, 99, 100, 101, 102, 129, 130, 131, 132, 8, 133, 134, 135, 136, 137, 138, 139, 140, 141, 142, 143, 144, 145, 146, 147, 148, 149, 150, 151, 152, 153, 154, 155, 7, 106, 107, 108, 109, 156, 157, 158, 159, 169, 170, 171, 172, 173, 174, 175, 176, 177, 178, 179, 180, 181, 182, 183, 184, 185, 186, 187] (by decide +kernel) (by decide +kernel)
set_option maxRecDepth 20000 in
theorem gX7_load_X7_statement : GoodIn wsX7_load (wsV RX7 180 RX7 yX7_statement wsX7_statement) := goodIn_app (goodIn_of _ (by decide +kernel)) ggX7_load_X7_statement
set_option maxRecDepth 20000 in
theorem ggX7_load_X7_remember : GoodIn wsX7_load wsX7_remember := goodIn_r _ [163, 164, 165, 12, 166, 167, 15, 168, 169, 170, 171, 172, 173, 174, 175, 176, 177, 178, 179, 180, 181, 182, 183, 184, 185, 186, 187] (by decide +kernel) (by decide +kernel)
set_option maxRecDepth 20000 in
theorem gX7_load_X7_remember : GoodIn wsX7_load (wsV RX7 183 RX7 yX7_remember wsX7_remember) := goodIn_app (goodIn_of _ (by decide +kernel)) ggX7_load_X7_remember
set_option maxRecDepth 20000 in
theorem ggX7_load_X7_copy : GoodIn wsX7_load wsX7_copy := goodIn_r _ [168] (by decide +kernel) (by decide +kernel)
set_option maxRecDepth 20000 in
theorem gX7_load_X7_copy : GoodIn wsX7_load (va_wsS RX7 186 yX7_copy wsX7_copy) := goodIn_app (goodIn_of _ (by decide +kernel)) ggX7_load_X7_copy
theorem dX7_load_0 : decode cX7_load 0 = .ok (.aload_n 0, 1) := by decide +kernel
theorem dX7_load_1 : decode cX7_load 1 = .ok (.iconst 0, 1) := by decide +kernel
theorem dX7_load_2 : decode cX7_load 2 = .ok (.putfield 42, 3) := by decide +kernel
theorem dX7_load_5 : decode cX7_load 5 = .ok (.aload_n 0, 1) := by decide +kernel
theorem dX7_load_6 : decode cX7_load 6 = .ok (.iload_n 1, 1) := by decide +kernel
theorem dX7_load_7 : decode cX7_load 7 = .ok (.iconst 0, 1) := by decide +kernel
theorem dX7_load_8 : decode cX7_load 8 = .ok (.aload_n 0, 1) := by decide +kernel
theorem dX7_load_9 : decode cX7_load 9 = .ok (.getfield 45, 3) := by decide +kernel
theorem dX7_load_12 : decode cX7_load 12 = .ok (.invokestatic 64, 3) := by decide +kernel
theorem dX7_load_15 : decode cX7_load 15 = .ok (.ifCond .ne 7, 3) := by decide +kernel
theorem dX7_load_18 : decode cX7_load 18 = .ok (.iconst 1, 1) := by decide +kernel
theorem dX7_load_19 : decode cX7_load 19 = .ok (.goto 4, 3) := by decide +kernel
theorem dX7_load_22 : decode cX7_load 22 = .ok (.iconst 0, 1) := by decide +kernel
theorem dX7_load_23 : decode cX7_load 23 = .ok (.iconst 1, 1) := by decide +kernel
theorem dX7_load_24 : decode cX7_load 24 = .ok (.invokevirtual 174, 3) := by decide +kernel
theorem dX7_load_27 : decode cX7_load 27 = .ok (.ifCond .eq 5, 3) := by decide +kernel
theorem dX7_load_30 : decode cX7_load 30 = .ok (.iconst 0, 1) := by decide +kernel
theorem dX7_load_31 : decode cX7_load 31 = .ok (.ireturn, 1) := by decide +kernel
theorem dX7_load_32 : decode cX7_load 32 = .ok (.aload_n 0, 1) := by decide +kernel
theorem dX7_load_33 : decode cX7_load 33 = .ok (.iconst 0, 1) := by decide +kernel
theorem dX7_load_34 : decode cX7_load 34 = .ok (.putfield 45, 3) := by decide +kernel
theorem dX7_load_37 : decode cX7_load 37 = .ok (.aload_n 0, 1) := by decide +kernel
theorem dX7_load_38 : decode cX7_load 38 = .ok (.iload_n 1, 1) := by decide +kernel
theorem dX7_load_39 : decode cX7_load 39 = .ok (.putfield 48, 3) := by decide +kernel
theorem dX7_load_42 : decode cX7_load 42 = .ok (.aload_n 0, 1) := by decide +kernel
theorem dX7_load_43 : decode cX7_load 43 = .ok (.iconst 0, 1) := by decide +kernel
theorem dX7_load_44 : decode cX7_load 44 = .ok (.putfield 51, 3) := by decide +kernel
theorem dX7_load_47 : decode cX7_load 47 = .ok (.aload_n 0, 1) := by decide +kernel
theorem dX7_load_48 : decode cX7_load 48 = .ok (.iconst 0, 1) := by decide +kernel
theorem dX7_load_49 : decode cX7_load 49 = .ok (.putfield 58, 3) := by decide +kernel
theorem dX7_load_52 : decode cX7_load 52 = .ok (.aload_n 0, 1) := by decide +kernel
theorem dX7_load_53 : decode cX7_load 53 = .ok (.iconst (-1), 1) := by decide +kernel
theorem dX7_load_54 : decode cX7_load 54 = .ok (.putfield 61, 3) := by decide +kernel
theorem dX7_load_57 : decode cX7_load 57 = .ok (.aload_n 0, 1) := by decide +kernel
theorem dX7_load_58 : decode cX7_load 58 = .ok (.iconst 0, 1) := by decide +kernel
theorem dX7_load_59 : decode cX7_load 59 = .ok (.putfield 101, 3) := by decide +kernel
theorem dX7_load_62 : decode cX7_load 62 = .ok (.aload_n 0, 1) := by decide +kernel
theorem dX7_load_63 : decode cX7_load 63 = .ok (.iconst 0, 1) := by decide +kernel
theorem dX7_load_64 : decode cX7_load 64 = .ok (.putfield 135, 3) := by decide +kernel
theorem dX7_load_67 : decode cX7_load 67 = .ok (.aload_n 0, 1) := by decide +kernel
theorem dX7_load_68 : decode cX7_load 68 = .ok (.iconst 0, 1) := by decide +kernel
theorem dX7_load_69 : decode cX7_load 69 = .ok (.putfield 141, 3) := by decide +kernel
theorem dX7_load_72 : decode cX7_load 72 = .ok (.aload_n 0, 1) := by decide +kernel
theorem dX7_load_73 : decode cX7_load 73 = .ok (.ldc 178, 2) := by decide +kernel
theorem dX7_load_75 : decode cX7_load 75 = .ok (.invokevirtual 113, 3) := by decide +kernel
theorem dX7_load_78 : decode cX7_load 78 = .ok (.ifCond .ne 13, 3) := by decide +kernel
theorem dX7_load_81 : decode cX7_load 81 = .ok (.aload_n 0, 1) := by decide +kernel
theorem dX7_load_82 : decode cX7_load 82 = .ok (.bipush (-2), 2) := by decide +kernel
theorem dX7_load_84 : decode cX7_load 84 = .ok (.aload_n 0, 1) := by decide +kernel
theorem dX7_load_85 : decode cX7_load 85 = .ok (.getfield 51, 3) := by decide +kernel
theorem dX7_load_88 : decode cX7_load 88 = .ok (.invokevirtual 85, 3) := by decide +kernel
theorem dX7_load_91 : decode cX7_load 91 = .ok (.aload_n 0, 1) := by decide +kernel
theorem dX7_load_92 : decode cX7_load 92 = .ok (.iconst 1, 1) := by decide +kernel
theorem dX7_load_93 : decode cX7_load 93 = .ok (.bipush 12, 2) := by decide +kernel
theorem dX7_load_95 : decode cX7_load 95 = .ok (.invokevirtual 123, 3) := by decide +kernel
theorem dX7_load_98 : decode cX7_load 98 = .ok (.istore_n 2, 1) := by decide +kernel
theorem dX7_load_99 : decode cX7_load 99 = .ok (.aload_n 0, 1) := by decide +kernel
theorem dX7_load_100 : decode cX7_load 100 = .ok (.iconst 1, 1) := by decide +kernel
theorem dX7_load_101 : decode cX7_load 101 = .ok (.bipush 8, 2) := by decide +kernel
theorem dX7_load_103 : decode cX7_load 103 = .ok (.invokevirtual 123, 3) := by decide +kernel
theorem dX7_load_106 : decode cX7_load 106 = .ok (.istore_n 3, 1) := by decide +kernel
theorem dX7_load_107 : decode cX7_load 107 = .ok (.aload_n 0, 1) := by decide +kernel
theorem dX7_load_108 : decode cX7_load 108 = .ok (.iconst 1, 1) := by decide +kernel
theorem dX7_load_109 : decode cX7_load 109 = .ok (.iconst 5, 1) := by decide +kernel
theorem dX7_load_110 : decode cX7_load 110 = .ok (.invokevirtual 123, 3) := by decide +kernel
theorem dX7_load_113 : decode cX7_load 113 = .ok (.istore 4, 2) := by decide +kernel
theorem dX7_load_115 : decode cX7_load 115 = .ok (.aload_n 0, 1) := by decide +kernel
theorem dX7_load_116 : decode cX7_load 116 = .ok (.getfield 20, 3) := by decide +kernel
theorem dX7_load_119 : decode cX7_load 119 = .ok (.iload_n 2, 1) := by decide +kernel
theorem dX7_load_120 : decode cX7_load 120 = .ok (.iload_n 3, 1) := by decide +kernel
theorem dX7_load_121 : decode cX7_load 121 = .ok (.iload 4, 2) := by decide +kernel
theorem dX7_load_123 : decode cX7_load 123 = .ok (.invokestatic 38, 3) := by decide +kernel
theorem dX7_load_126 : decode cX7_load 126 = .ok (.aload_n 0, 1) := by decide +kernel
theorem dX7_load_127 : decode cX7_load 127 = .ok (.bipush 59, 2) := by decide +kernel
theorem dX7_load_129 : decode cX7_load 129 = .ok (.invokevirtual 107, 3) := by decide +kernel
theorem dX7_load_132 : decode cX7_load 132 = .ok (.aload_n 0, 1) := by decide +kernel
theorem dX7_load_133 : decode cX7_load 133 = .ok (.invokevirtual 68, 3) := by decide +kernel
theorem dX7_load_136 : decode cX7_load 136 = .ok (.ifCond .eq 18, 3) := by decide +kernel
theorem dX7_load_139 : decode cX7_load 139 = .ok (.aload_n 0, 1) := by decide +kernel
theorem dX7_load_140 : decode cX7_load 140 = .ok (.invokevirtual 72, 3) := by decide +kernel
theorem dX7_load_143 : decode cX7_load 143 = .ok (.iconst (-1), 1) := by decide +kernel
theorem dX7_load_144 : decode cX7_load 144 = .ok (.if_icmp .eq 10, 3) := by decide +kernel
theorem dX7_load_147 : decode cX7_load 147 = .ok (.aload_n 0, 1) := by decide +kernel
theorem dX7_load_148 : decode cX7_load 148 = .ok (.invokevirtual 180, 3) := by decide +kernel
theorem dX7_load_151 : decode cX7_load 151 = .ok (.goto (-19), 3) := by decide +kernel
theorem dX7_load_154 : decode cX7_load 154 = .ok (.aload_n 0, 1) := by decide +kernel
theorem dX7_load_155 : decode cX7_load 155 = .ok (.aload_n 0, 1) := by decide +kernel
theorem dX7_load_156 : decode cX7_load 156 = .ok (.getfield 61, 3) := by decide +kernel
theorem dX7_load_159 : decode cX7_load 159 = .ok (.putfield 13, 3) := by decide +kernel
theorem dX7_load_162 : decode cX7_load 162 = .ok (.aload_n 0, 1) := by decide +kernel
theorem dX7_load_163 : decode cX7_load 163 = .ok (.invokevirtual 68, 3) := by decide +kernel
theorem dX7_load_166 : decode cX7_load 166 = .ok (.ifCond .ne 8, 3) := by decide +kernel
theorem dX7_load_169 : decode cX7_load 169 = .ok (.aload_n 0, 1) := by decide +kernel
theorem dX7_load_170 : decode cX7_load 170 = .ok (.getfield 58, 3) := by decide +kernel
theorem dX7_load_173 : decode cX7_load 173 = .ok (.ireturn, 1) := by decide +kernel
theorem dX7_load_174 : decode cX7_load 174 = .ok (.aload_n 0, 1) := by decide +kernel
theorem dX7_load_175 : decode cX7_load 175 = .ok (.getfield 20, 3) := by decide +kernel
theorem dX7_load_178 : decode cX7_load 178 = .ok (.iconst 3, 1) := by decide +kernel
theorem dX7_load_179 : decode cX7_load 179 = .ok (.iaload, 1) := by decide +kernel
theorem dX7_load_180 : decode cX7_load 180 = .ok (.ifCond .ne 10, 3) := by decide +kernel
theorem dX7_load_183 : decode cX7_load 183 = .ok (.aload_n 0, 1) := by decide +kernel
theorem dX7_load_184 : decode cX7_load 184 = .ok (.getfield 20, 3) := by decide +kernel
theorem dX7_load_187 : decode cX7_load 187 = .ok (.iconst 3, 1) := by decide +kernel
theorem dX7_load_188 : decode cX7_load 188 = .ok (.iconst 1, 1) := by decide +kernel
theorem dX7_load_189 : decode cX7_load 189 = .ok (.iastore, 1) := by decide +kernel
theorem dX7_load_190 : decode cX7_load 190 = .ok (.aload_n 0, 1) := by decide +kernel
theorem dX7_load_191 : decode cX7_load 191 = .ok (.invokevirtual 183, 3) := by decide +kernel
theorem dX7_load_194 : decode cX7_load 194 = .ok (.aload_n 0, 1) := by decide +kernel
theorem dX7_load_195 : decode cX7_load 195 = .ok (.getfield 20, 3) := by decide +kernel
theorem dX7_load_198 : decode cX7_load 198 = .ok (.aload_n 0, 1) := by decide +kernel
theorem dX7_load_199 : decode cX7_load 199 = .ok (.getfield 17, 3) := by decide +kernel
theorem dX7_load_202 : decode cX7_load 202 = .ok (.sipush 2243, 3) := by decide +kernel
theorem dX7_load_205 : decode cX7_load 205 = .ok (.invokestatic 186, 3) := by decide +kernel
theorem dX7_load_208 : decode cX7_load 208 = .ok (.aload_n 0, 1) := by decide +kernel
theorem dX7_load_209 : decode cX7_load 209 = .ok (.getfield 17, 3) := by decide +kernel
theorem dX7_load_212 : decode cX7_load 212 = .ok (.bipush 7, 2) := by decide +kernel
theorem dX7_load_214 : decode cX7_load 214 = .ok (.iaload, 1) := by decide +kernel
theorem dX7_load_215 : decode cX7_load 215 = .ok (.ireturn, 1) := by decide +kernel
theorem dX7_errorOffset_0 : decode cX7_errorOffset 0 = .ok (.aload_n 0, 1) := by decide +kernel
theorem dX7_errorOffset_1 : decode cX7_errorOffset 1 = .ok (.iconst 0, 1) := by decide +kernel
theorem dX7_errorOffset_2 : decode cX7_errorOffset 2 = .ok (.putfield 42, 3) := by decide +kernel
theorem dX7_errorOffset_5 : decode cX7_errorOffset 5 = .ok (.aload_n 0, 1) := by decide +kernel
theorem dX7_errorOffset_6 : decode cX7_errorOffset 6 = .ok (.getfield 13, 3) := by decide +kernel
theorem dX7_errorOffset_9 : decode cX7_errorOffset 9 = .ok (.ireturn, 1) := by decide +kernel
theorem dX7_cells_0 : decode cX7_cells 0 = .ok (.aload_n 0, 1) := by decide +kernel
theorem dX7_cells_1 : decode cX7_cells 1 = .ok (.getfield 17, 3) := by decide +kernel
theorem dX7_cells_4 : decode cX7_cells 4 = .ok (.iconst 0, 1) := by decide +kernel
theorem dX7_cells_5 : decode cX7_cells 5 = .ok (.iaload, 1) := by decide +kernel
theorem dX7_cells_6 : decode cX7_cells 6 = .ok (.aload_n 0, 1) := by decide +kernel
theorem dX7_cells_7 : decode cX7_cells 7 = .ok (.getfield 17, 3) := by decide +kernel
theorem dX7_cells_10 : decode cX7_cells 10 = .ok (.iconst 1, 1) := by decide +kernel
theorem dX7_cells_11 : decode cX7_cells 11 = .ok (.iaload, 1) := by decide +kernel
theorem dX7_cells_12 : decode cX7_cells 12 = .ok (.imul, 1) := by decide +kernel
theorem dX7_cells_13 : decode cX7_cells 13 = .ok (.ireturn, 1) := by decide +kernel
theorem dX7_kindAt_0 : decode cX7_kindAt 0 = .ok (.iload_n 3, 1) := by decide +kernel
theorem dX7_kindAt_1 : decode cX7_kindAt 1 = .ok (.aload_n 0, 1) := by decide +kernel
theorem dX7_kindAt_2 : decode cX7_kindAt 2 = .ok (.getfield 17, 3) := by decide +kernel
theorem dX7_kindAt_5 : decode cX7_kindAt 5 = .ok (.bipush 10, 2) := by decide +kernel
theorem dX7_kindAt_7 : decode cX7_kindAt 7 = .ok (.iload_n 1, 1) := by decide +kernel
theorem dX7_kindAt_8 : decode cX7_kindAt 8 = .ok (.iadd, 1) := by decide +kernel
theorem dX7_kindAt_9 : decode cX7_kindAt 9 = .ok (.iaload, 1) := by decide +kernel
theorem dX7_kindAt_10 : decode cX7_kindAt 10 = .ok (.iadd, 1) := by decide +kernel
theorem dX7_kindAt_11 : decode cX7_kindAt 11 = .ok (.istore 4, 2) := by decide +kernel
theorem dX7_kindAt_13 : decode cX7_kindAt 13 = .ok (.iload 4, 2) := by decide +kernel
theorem dX7_kindAt_15 : decode cX7_kindAt 15 = .ok (.aload_n 0, 1) := by decide +kernel
theorem dX7_kindAt_16 : decode cX7_kindAt 16 = .ok (.getfield 17, 3) := by decide +kernel
theorem dX7_kindAt_19 : decode cX7_kindAt 19 = .ok (.iconst 1, 1) := by decide +kernel
theorem dX7_kindAt_20 : decode cX7_kindAt 20 = .ok (.iaload, 1) := by decide +kernel
theorem dX7_kindAt_21 : decode cX7_kindAt 21 = .ok (.if_icmp .ge 30, 3) := by decide +kernel
theorem dX7_kindAt_24 : decode cX7_kindAt 24 = .ok (.aload_n 0, 1) := by decide +kernel
theorem dX7_kindAt_25 : decode cX7_kindAt 25 = .ok (.getfield 17, 3) := by decide +kernel
theorem dX7_kindAt_28 : decode cX7_kindAt 28 = .ok (.bipush 15, 2) := by decide +kernel
theorem dX7_kindAt_30 : decode cX7_kindAt 30 = .ok (.bipush 96, 2) := by decide +kernel
theorem dX7_kindAt_32 : decode cX7_kindAt 32 = .ok (.iload_n 1, 1) := by decide +kernel
theorem dX7_kindAt_33 : decode cX7_kindAt 33 = .ok (.imul, 1) := by decide +kernel
theorem dX7_kindAt_34 : decode cX7_kindAt 34 = .ok (.iadd, 1) := by decide +kernel
theorem dX7_kindAt_35 : decode cX7_kindAt 35 = .ok (.aload_n 0, 1) := by decide +kernel
theorem dX7_kindAt_36 : decode cX7_kindAt 36 = .ok (.getfield 17, 3) := by decide +kernel
theorem dX7_kindAt_39 : decode cX7_kindAt 39 = .ok (.iconst 0, 1) := by decide +kernel
theorem dX7_kindAt_40 : decode cX7_kindAt 40 = .ok (.iaload, 1) := by decide +kernel
theorem dX7_kindAt_41 : decode cX7_kindAt 41 = .ok (.iload 4, 2) := by decide +kernel
theorem dX7_kindAt_43 : decode cX7_kindAt 43 = .ok (.imul, 1) := by decide +kernel
theorem dX7_kindAt_44 : decode cX7_kindAt 44 = .ok (.iadd, 1) := by decide +kernel
theorem dX7_kindAt_45 : decode cX7_kindAt 45 = .ok (.iload_n 2, 1) := by decide +kernel
theorem dX7_kindAt_46 : decode cX7_kindAt 46 = .ok (.iadd, 1) := by decide +kernel
theorem dX7_kindAt_47 : decode cX7_kindAt 47 = .ok (.iaload, 1) := by decide +kernel
theorem dX7_kindAt_48 : decode cX7_kindAt 48 = .ok (.goto 4, 3) := by decide +kernel
theorem dX7_kindAt_51 : decode cX7_kindAt 51 = .ok (.iconst (-1), 1) := by decide +kernel
theorem dX7_kindAt_52 : decode cX7_kindAt 52 = .ok (.ireturn, 1) := by decide +kernel
theorem dX7_holeX_0 : decode cX7_holeX 0 = .ok (.aload_n 0, 1) := by decide +kernel
theorem dX7_holeX_1 : decode cX7_holeX 1 = .ok (.getfield 17, 3) := by decide +kernel
theorem dX7_holeX_4 : decode cX7_holeX 4 = .ok (.sipush 495, 3) := by decide +kernel
theorem dX7_holeX_7 : decode cX7_holeX 7 = .ok (.iconst 2, 1) := by decide +kernel
theorem dX7_holeX_8 : decode cX7_holeX 8 = .ok (.iload_n 1, 1) := by decide +kernel
theorem dX7_holeX_9 : decode cX7_holeX 9 = .ok (.imul, 1) := by decide +kernel
theorem dX7_holeX_10 : decode cX7_holeX 10 = .ok (.iadd, 1) := by decide +kernel
theorem dX7_holeX_11 : decode cX7_holeX 11 = .ok (.iaload, 1) := by decide +kernel
theorem dX7_holeX_12 : decode cX7_holeX 12 = .ok (.ireturn, 1) := by decide +kernel
theorem dX7_holeY_0 : decode cX7_holeY 0 = .ok (.aload_n 0, 1) := by decide +kernel
theorem dX7_holeY_1 : decode cX7_holeY 1 = .ok (.getfield 17, 3) := by decide +kernel
theorem dX7_holeY_4 : decode cX7_holeY 4 = .ok (.sipush 495, 3) := by decide +kernel
theorem dX7_holeY_7 : decode cX7_holeY 7 = .ok (.iconst 2, 1) := by decide +kernel
theorem dX7_holeY_8 : decode cX7_holeY 8 = .ok (.iload_n 1, 1) := by decide +kernel
theorem dX7_holeY_9 : decode cX7_holeY 9 = .ok (.imul, 1) := by decide +kernel
theorem dX7_holeY_10 : decode cX7_holeY 10 = .ok (.iadd, 1) := by decide +kernel
theorem dX7_holeY_11 : decode cX7_holeY 11 = .ok (.iconst 1, 1) := by decide +kernel
theorem dX7_holeY_12 : decode cX7_holeY 12 = .ok (.iadd, 1) := by decide +kernel
theorem dX7_holeY_13 : decode cX7_holeY 13 = .ok (.iaload, 1) := by decide +kernel
theorem dX7_holeY_14 : decode cX7_holeY 14 = .ok (.ireturn, 1) := by decide +kernel
set_option maxRecDepth 20000 in
theorem ggX7_crossX_X7_holeX : GoodIn wsX7_crossX wsX7_holeX := goodIn_r _ [6, 1, 7, 8, 9, 10, 11, 12, 13, 14, 15, 16, 17, 18, 19, 20, 21, 22, 23, 24, 25] (by decide +kernel) (by decide +kernel)
set_option maxRecDepth 20000 in
theorem gX7_crossX_X7_holeX : GoodIn wsX7_crossX (wsV RX7 190 RX7 yX7_holeX wsX7_holeX) := goodIn_app (goodIn_of _ (by decide +kernel)) ggX7_crossX_X7_holeX
theorem dX7_crossX_0 : decode cX7_crossX 0 = .ok (.aload_n 0, 1) := by decide +kernel
theorem dX7_crossX_1 : decode cX7_crossX 1 = .ok (.iload_n 1, 1) := by decide +kernel
theorem dX7_crossX_2 : decode cX7_crossX 2 = .ok (.invokevirtual 190, 3) := by decide +kernel
theorem dX7_crossX_5 : decode cX7_crossX 5 = .ok (.iload_n 2, 1) := by decide +kernel
theorem dX7_crossX_6 : decode cX7_crossX 6 = .ok (.aload_n 0, 1) := by decide +kernel
theorem dX7_crossX_7 : decode cX7_crossX 7 = .ok (.getfield 17, 3) := by decide +kernel
theorem dX7_crossX_10 : decode cX7_crossX 10 = .ok (.iconst 0, 1) := by decide +kernel
theorem dX7_crossX_11 : decode cX7_crossX 11 = .ok (.iaload, 1) := by decide +kernel
theorem dX7_crossX_12 : decode cX7_crossX 12 = .ok (.irem, 1) := by decide +kernel
theorem dX7_crossX_13 : decode cX7_crossX 13 = .ok (.aload_n 0, 1) := by decide +kernel
theorem dX7_crossX_14 : decode cX7_crossX 14 = .ok (.iload_n 1, 1) := by decide +kernel
theorem dX7_crossX_15 : decode cX7_crossX 15 = .ok (.invokevirtual 190, 3) := by decide +kernel
theorem dX7_crossX_18 : decode cX7_crossX 18 = .ok (.isub, 1) := by decide +kernel
theorem dX7_crossX_19 : decode cX7_crossX 19 = .ok (.iload_n 3, 1) := by decide +kernel
theorem dX7_crossX_20 : decode cX7_crossX 20 = .ok (.iconst 1, 1) := by decide +kernel
theorem dX7_crossX_21 : decode cX7_crossX 21 = .ok (.iadd, 1) := by decide +kernel
theorem dX7_crossX_22 : decode cX7_crossX 22 = .ok (.imul, 1) := by decide +kernel
theorem dX7_crossX_23 : decode cX7_crossX 23 = .ok (.aload_n 0, 1) := by decide +kernel
theorem dX7_crossX_24 : decode cX7_crossX 24 = .ok (.getfield 17, 3) := by decide +kernel
theorem dX7_crossX_27 : decode cX7_crossX 27 = .ok (.iconst 2, 1) := by decide +kernel
theorem dX7_crossX_28 : decode cX7_crossX 28 = .ok (.iaload, 1) := by decide +kernel
theorem dX7_crossX_29 : decode cX7_crossX 29 = .ok (.idiv, 1) := by decide +kernel
theorem dX7_crossX_30 : decode cX7_crossX 30 = .ok (.iadd, 1) := by decide +kernel
theorem dX7_crossX_31 : decode cX7_crossX 31 = .ok (.ireturn, 1) := by decide +kernel
set_option maxRecDepth 20000 in
theorem ggX7_crossY_X7_holeY : GoodIn wsX7_crossY wsX7_holeY := goodIn_r _ [6, 1, 7, 8, 9, 10, 11, 12, 13, 14, 15, 16, 17, 18, 19, 20, 21, 22, 23, 24, 25] (by decide +kernel) (by decide +kernel)
set_option maxRecDepth 20000 in
theorem gX7_crossY_X7_holeY : GoodIn wsX7_crossY (wsV RX7 193 RX7 yX7_holeY wsX7_holeY) := goodIn_app (goodIn_of _ (by decide +kernel)) ggX7_crossY_X7_holeY
theorem dX7_crossY_0 : decode cX7_crossY 0 = .ok (.aload_n 0, 1) := by decide +kernel
theorem dX7_crossY_1 : decode cX7_crossY 1 = .ok (.iload_n 1, 1) := by decide +kernel
theorem dX7_crossY_2 : decode cX7_crossY 2 = .ok (.invokevirtual 193, 3) := by decide +kernel
theorem dX7_crossY_5 : decode cX7_crossY 5 = .ok (.iload_n 2, 1) := by decide +kernel
theorem dX7_crossY_6 : decode cX7_crossY 6 = .ok (.aload_n 0, 1) := by decide +kernel
theorem dX7_crossY_7 : decode cX7_crossY 7 = .ok (.getfield 17, 3) := by decide +kernel
theorem dX7_crossY_10 : decode cX7_crossY 10 = .ok (.iconst 0, 1) := by decide +kernel
theorem dX7_crossY_11 : decode cX7_crossY 11 = .ok (.iaload, 1) := by decide +kernel
theorem dX7_crossY_12 : decode cX7_crossY 12 = .ok (.idiv, 1) := by decide +kernel
theorem dX7_crossY_13 : decode cX7_crossY 13 = .ok (.aload_n 0, 1) := by decide +kernel
theorem dX7_crossY_14 : decode cX7_crossY 14 = .ok (.iload_n 1, 1) := by decide +kernel
theorem dX7_crossY_15 : decode cX7_crossY 15 = .ok (.invokevirtual 193, 3) := by decide +kernel
theorem dX7_crossY_18 : decode cX7_crossY 18 = .ok (.isub, 1) := by decide +kernel
theorem dX7_crossY_19 : decode cX7_crossY 19 = .ok (.iload_n 3, 1) := by decide +kernel
theorem dX7_crossY_20 : decode cX7_crossY 20 = .ok (.iconst 1, 1) := by decide +kernel
theorem dX7_crossY_21 : decode cX7_crossY 21 = .ok (.iadd, 1) := by decide +kernel
theorem dX7_crossY_22 : decode cX7_crossY 22 = .ok (.imul, 1) := by decide +kernel
theorem dX7_crossY_23 : decode cX7_crossY 23 = .ok (.aload_n 0, 1) := by decide +kernel
theorem dX7_crossY_24 : decode cX7_crossY 24 = .ok (.getfield 17, 3) := by decide +kernel
theorem dX7_crossY_27 : decode cX7_crossY 27 = .ok (.iconst 2, 1) := by decide +kernel
theorem dX7_crossY_28 : decode cX7_crossY 28 = .ok (.iaload, 1) := by decide +kernel
theorem dX7_crossY_29 : decode cX7_crossY 29 = .ok (.idiv, 1) := by decide +kernel
theorem dX7_crossY_30 : decode cX7_crossY 30 = .ok (.iadd, 1) := by decide +kernel
theorem dX7_crossY_31 : decode cX7_crossY 31 = .ok (.ireturn, 1) := by decide +kernel
set_option maxRecDepth 20000 in
theorem ggX7_planeSeen_X7_crossX : GoodIn wsX7_planeSeen wsX7_crossX := goodIn_r _ [5, 6, 7, 8, 9, 4, 10, 23, 24, 25, 26, 27, 28, 29, 30, 31, 32, 33, 34, 35, 36, 37, 38, 39, 40, 41] (by decide +kernel) (by decide +kernel)
set_option maxRecDepth 20000 in
theorem gX7_planeSeen_X7_crossX : GoodIn wsX7_planeSeen (wsV RX7 196 RX7 yX7_crossX wsX7_crossX) := goodIn_app (goodIn_of _ (by decide +kernel)) ggX7_planeSeen_X7_crossX
set_option maxRecDepth 20000 in
theorem ggX7_planeSeen_X7_crossY : GoodIn wsX7_planeSeen wsX7_crossY := goodIn_r _ [14, 6, 15, 16, 17, 4, 18, 23, 24, 25, 26, 27, 28, 29, 30, 31, 32, 33, 34, 35, 36, 37, 38, 39, 40, 41] (by decide +kernel) (by decide +kernel)
set_option maxRecDepth 20000 in
theorem gX7_planeSeen_X7_crossY : GoodIn wsX7_planeSeen (wsV RX7 200 RX7 yX7_crossY wsX7_crossY) := goodIn_app (goodIn_of _ (by decide +kernel)) ggX7_planeSeen_X7_crossY
set_option maxRecDepth 20000 in
theorem ggX7_planeSeen_X7_kindAt : GoodIn wsX7_planeSeen wsX7_kindAt := goodIn_r _ [22, 6, 23, 24, 25, 26, 27, 28, 29, 30, 31, 32, 33, 34, 35, 36, 37, 38, 39, 40, 41] (by decide +kernel) (by decide +kernel)
set_option maxRecDepth 20000 in
theorem gX7_planeSeen_X7_kindAt : GoodIn wsX7_planeSeen (wsV RX7 203 RX7 yX7_kindAt wsX7_kindAt) := goodIn_app (goodIn_of _ (by decide +kernel)) ggX7_planeSeen_X7_kindAt
theorem dX7_planeSeen_0 : decode cX7_planeSeen 0 = .ok (.iconst 0, 1) := by decide +kernel
theorem dX7_planeSeen_1 : decode cX7_planeSeen 1 = .ok (.istore_n 3, 1) := by decide +kernel
theorem dX7_planeSeen_2 : decode cX7_planeSeen 2 = .ok (.aload_n 0, 1) := by decide +kernel
theorem dX7_planeSeen_3 : decode cX7_planeSeen 3 = .ok (.iload_n 3, 1) := by decide +kernel
theorem dX7_planeSeen_4 : decode cX7_planeSeen 4 = .ok (.aload_n 0, 1) := by decide +kernel
theorem dX7_planeSeen_5 : decode cX7_planeSeen 5 = .ok (.iload_n 1, 1) := by decide +kernel
theorem dX7_planeSeen_6 : decode cX7_planeSeen 6 = .ok (.iload_n 2, 1) := by decide +kernel
theorem dX7_planeSeen_7 : decode cX7_planeSeen 7 = .ok (.iload_n 3, 1) := by decide +kernel
theorem dX7_planeSeen_8 : decode cX7_planeSeen 8 = .ok (.invokevirtual 196, 3) := by decide +kernel
theorem dX7_planeSeen_11 : decode cX7_planeSeen 11 = .ok (.aload_n 0, 1) := by decide +kernel
theorem dX7_planeSeen_12 : decode cX7_planeSeen 12 = .ok (.iload_n 1, 1) := by decide +kernel
theorem dX7_planeSeen_13 : decode cX7_planeSeen 13 = .ok (.iload_n 2, 1) := by decide +kernel
theorem dX7_planeSeen_14 : decode cX7_planeSeen 14 = .ok (.iload_n 3, 1) := by decide +kernel
theorem dX7_planeSeen_15 : decode cX7_planeSeen 15 = .ok (.invokevirtual 200, 3) := by decide +kernel
theorem dX7_planeSeen_18 : decode cX7_planeSeen 18 = .ok (.invokevirtual 203, 3) := by decide +kernel
theorem dX7_planeSeen_21 : decode cX7_planeSeen 21 = .ok (.iconst (-1), 1) := by decide +kernel
theorem dX7_planeSeen_22 : decode cX7_planeSeen 22 = .ok (.if_icmp .ne 9, 3) := by decide +kernel
theorem dX7_planeSeen_25 : decode cX7_planeSeen 25 = .ok (.iinc 3 1, 3) := by decide +kernel
theorem dX7_planeSeen_28 : decode cX7_planeSeen 28 = .ok (.goto (-26), 3) := by decide +kernel
theorem dX7_planeSeen_31 : decode cX7_planeSeen 31 = .ok (.iload_n 3, 1) := by decide +kernel
theorem dX7_planeSeen_32 : decode cX7_planeSeen 32 = .ok (.ireturn, 1) := by decide +kernel
set_option maxRecDepth 20000 in
theorem ggX7_kindSeen_X7_planeSeen : GoodIn wsX7_kindSeen wsX7_planeSeen := goodIn_r _ [5, 6, 7, 8, 4, 9, 10, 11, 12, 13, 14, 15, 16, 17, 18, 19, 20, 21, 22, 23, 24, 25, 26, 27, 28, 29, 30, 31, 32, 33, 34, 35, 36, 37, 38, 39, 40, 41, 42, 43, 44, 45] (by decide +kernel) (by decide +kernel)
set_option maxRecDepth 20000 in
theorem gX7_kindSeen_X7_planeSeen : GoodIn wsX7_kindSeen (wsV RX7 206 RX7 yX7_planeSeen wsX7_planeSeen) := goodIn_app (goodIn_of _ (by decide +kernel)) ggX7_kindSeen_X7_planeSeen
set_option maxRecDepth 20000 in
theorem ggX7_kindSeen_X7_crossX : GoodIn wsX7_kindSeen wsX7_crossX := goodIn_r _ [9, 10, 11, 12, 13, 4, 14, 27, 28, 29, 30, 31, 32, 33, 34, 35, 36, 37, 38, 39, 40, 41, 42, 43, 44, 45] (by decide +kernel) (by decide +kernel)
set_option maxRecDepth 20000 in
theorem gX7_kindSeen_X7_crossX : GoodIn wsX7_kindSeen (wsV RX7 196 RX7 yX7_crossX wsX7_crossX) := goodIn_app (goodIn_of _ (by decide +kernel)) ggX7_kindSeen_X7_crossX
set_option maxRecDepth 20000 in
theorem ggX7_kindSeen_X7_crossY : GoodIn wsX7_kindSeen wsX7_crossY := goodIn_r _ [18, 10, 19, 20, 21, 4, 22, 27, 28, 29, 30, 31, 32, 33, 34, 35, 36, 37, 38, 39, 40, 41, 42, 43, 44, 45] (by decide +kernel) (by decide +kernel)
set_option maxRecDepth 20000 in
theorem gX7_kindSeen_X7_crossY : GoodIn wsX7_kindSeen (wsV RX7 200 RX7 yX7_crossY wsX7_crossY) := goodIn_app (goodIn_of _ (by decide +kernel)) ggX7_kindSeen_X7_crossY
set_option maxRecDepth 20000 in
theorem ggX7_kindSeen_X7_kindAt : GoodIn wsX7_kindSeen wsX7_kindAt := goodIn_r _ [26, 10, 27, 28, 29, 30, 31, 32, 33, 34, 35, 36, 37, 38, 39, 40, 41, 42, 43, 44, 45] (by decide +kernel) (by decide +kernel)
set_option maxRecDepth 20000 in
theorem gX7_kindSeen_X7_kindAt : GoodIn wsX7_kindSeen (wsV RX7 203 RX7 yX7_kindAt wsX7_kindAt) := goodIn_app (goodIn_of _ (by decide +kernel)) ggX7_kindSeen_X7_kindAt
theorem dX7_kindSeen_0 : decode cX7_kindSeen 0 = .ok (.aload_n 0, 1) := by decide +kernel
theorem dX7_kindSeen_1 : decode cX7_kindSeen 1 = .ok (.iload_n 1, 1) := by decide +kernel
theorem dX7_kindSeen_2 : decode cX7_kindSeen 2 = .ok (.iload_n 2, 1) := by decide +kernel
theorem dX7_kindSeen_3 : decode cX7_kindSeen 3 = .ok (.invokevirtual 206, 3) := by decide +kernel
theorem dX7_kindSeen_6 : decode cX7_kindSeen 6 = .ok (.istore_n 3, 1) := by decide +kernel
theorem dX7_kindSeen_7 : decode cX7_kindSeen 7 = .ok (.aload_n 0, 1) := by decide +kernel
theorem dX7_kindSeen_8 : decode cX7_kindSeen 8 = .ok (.iload_n 3, 1) := by decide +kernel
theorem dX7_kindSeen_9 : decode cX7_kindSeen 9 = .ok (.aload_n 0, 1) := by decide +kernel
theorem dX7_kindSeen_10 : decode cX7_kindSeen 10 = .ok (.iload_n 1, 1) := by decide +kernel
theorem dX7_kindSeen_11 : decode cX7_kindSeen 11 = .ok (.iload_n 2, 1) := by decide +kernel
theorem dX7_kindSeen_12 : decode cX7_kindSeen 12 = .ok (.iload_n 3, 1) := by decide +kernel
theorem dX7_kindSeen_13 : decode cX7_kindSeen 13 = .ok (.invokevirtual 196, 3) := by decide +kernel
theorem dX7_kindSeen_16 : decode cX7_kindSeen 16 = .ok (.aload_n 0, 1) := by decide +kernel
theorem dX7_kindSeen_17 : decode cX7_kindSeen 17 = .ok (.iload_n 1, 1) := by decide +kernel
theorem dX7_kindSeen_18 : decode cX7_kindSeen 18 = .ok (.iload_n 2, 1) := by decide +kernel
theorem dX7_kindSeen_19 : decode cX7_kindSeen 19 = .ok (.iload_n 3, 1) := by decide +kernel
theorem dX7_kindSeen_20 : decode cX7_kindSeen 20 = .ok (.invokevirtual 200, 3) := by decide +kernel
theorem dX7_kindSeen_23 : decode cX7_kindSeen 23 = .ok (.invokevirtual 203, 3) := by decide +kernel
theorem dX7_kindSeen_26 : decode cX7_kindSeen 26 = .ok (.ireturn, 1) := by decide +kernel
set_option maxRecDepth 20000 in
theorem ggX7_showing_X7_cells : GoodIn wsX7_showing wsX7_cells := goodIn_r _ [5, 6, 35, 36, 37, 38, 39, 40, 41, 42, 43, 44, 45, 46, 47, 48, 49, 50, 51, 52, 53] (by decide +kernel) (by decide +kernel)
set_option maxRecDepth 20000 in
theorem gX7_showing_X7_cells : GoodIn wsX7_showing (wsV RX7 209 RX7 yX7_cells wsX7_cells) := goodIn_app (goodIn_of _ (by decide +kernel)) ggX7_showing_X7_cells
set_option maxRecDepth 20000 in
theorem ggX7_showing_X7_kindSeen : GoodIn wsX7_showing wsX7_kindSeen := goodIn_r _ [10, 11, 12, 13, 4, 14, 15, 16, 17, 18, 6, 19, 20, 21, 22, 23, 24, 25, 26, 27, 28, 29, 30, 31, 32, 33, 34, 35, 36, 37, 38, 39, 40, 41, 42, 43, 44, 45, 46, 47, 48, 49, 50, 51, 52, 53] (by decide +kernel) (by decide +kernel)
set_option maxRecDepth 20000 in
theorem gX7_showing_X7_kindSeen : GoodIn wsX7_showing (wsV RX7 212 RX7 yX7_kindSeen wsX7_kindSeen) := goodIn_app (goodIn_of _ (by decide +kernel)) ggX7_showing_X7_kindSeen
theorem dX7_showing_0 : decode cX7_showing 0 = .ok (.iconst 0, 1) := by decide +kernel
theorem dX7_showing_1 : decode cX7_showing 1 = .ok (.istore_n 3, 1) := by decide +kernel
theorem dX7_showing_2 : decode cX7_showing 2 = .ok (.iconst 0, 1) := by decide +kernel
theorem dX7_showing_3 : decode cX7_showing 3 = .ok (.istore 4, 2) := by decide +kernel
theorem dX7_showing_5 : decode cX7_showing 5 = .ok (.iload 4, 2) := by decide +kernel
theorem dX7_showing_7 : decode cX7_showing 7 = .ok (.aload_n 0, 1) := by decide +kernel
theorem dX7_showing_8 : decode cX7_showing 8 = .ok (.invokevirtual 209, 3) := by decide +kernel
theorem dX7_showing_11 : decode cX7_showing 11 = .ok (.if_icmp .ge 28, 3) := by decide +kernel
theorem dX7_showing_14 : decode cX7_showing 14 = .ok (.iload_n 3, 1) := by decide +kernel
theorem dX7_showing_15 : decode cX7_showing 15 = .ok (.aload_n 0, 1) := by decide +kernel
theorem dX7_showing_16 : decode cX7_showing 16 = .ok (.iload_n 1, 1) := by decide +kernel
theorem dX7_showing_17 : decode cX7_showing 17 = .ok (.iload 4, 2) := by decide +kernel
theorem dX7_showing_19 : decode cX7_showing 19 = .ok (.invokevirtual 212, 3) := by decide +kernel
theorem dX7_showing_22 : decode cX7_showing 22 = .ok (.iload_n 2, 1) := by decide +kernel
theorem dX7_showing_23 : decode cX7_showing 23 = .ok (.if_icmp .ne 7, 3) := by decide +kernel
theorem dX7_showing_26 : decode cX7_showing 26 = .ok (.iconst 1, 1) := by decide +kernel
theorem dX7_showing_27 : decode cX7_showing 27 = .ok (.goto 4, 3) := by decide +kernel
theorem dX7_showing_30 : decode cX7_showing 30 = .ok (.iconst 0, 1) := by decide +kernel
theorem dX7_showing_31 : decode cX7_showing 31 = .ok (.iadd, 1) := by decide +kernel
theorem dX7_showing_32 : decode cX7_showing 32 = .ok (.istore_n 3, 1) := by decide +kernel
theorem dX7_showing_33 : decode cX7_showing 33 = .ok (.iinc 4 1, 3) := by decide +kernel
theorem dX7_showing_36 : decode cX7_showing 36 = .ok (.goto (-31), 3) := by decide +kernel
theorem dX7_showing_39 : decode cX7_showing 39 = .ok (.iload_n 3, 1) := by decide +kernel
theorem dX7_showing_40 : decode cX7_showing 40 = .ok (.ireturn, 1) := by decide +kernel
set_option maxRecDepth 20000 in
theorem ggX7_kindsOf_X7_cells : GoodIn wsX7_kindsOf wsX7_cells := goodIn_r _ [5, 6, 35, 36, 37, 38, 39, 40, 41, 42, 43, 44, 45, 46, 47, 48, 49, 50, 51, 52, 53] (by decide +kernel) (by decide +kernel)
set_option maxRecDepth 20000 in
theorem gX7_kindsOf_X7_cells : GoodIn wsX7_kindsOf (wsV RX7 209 RX7 yX7_cells wsX7_cells) := goodIn_app (goodIn_of _ (by decide +kernel)) ggX7_kindsOf_X7_cells
set_option maxRecDepth 20000 in
theorem ggX7_kindsOf_X7_kindSeen : GoodIn wsX7_kindsOf wsX7_kindSeen := goodIn_r _ [10, 11, 12, 13, 4, 14, 15, 16, 17, 18, 6, 19, 20, 21, 22, 23, 24, 25, 26, 27, 28, 29, 30, 31, 32, 33, 34, 35, 36, 37, 38, 39, 40, 41, 42, 43, 44, 45, 46, 47, 48, 49, 50, 51, 52, 53] (by decide +kernel) (by decide +kernel)
set_option maxRecDepth 20000 in
theorem gX7_kindsOf_X7_kindSeen : GoodIn wsX7_kindsOf (wsV RX7 212 RX7 yX7_kindSeen wsX7_kindSeen) := goodIn_app (goodIn_of _ (by decide +kernel)) ggX7_kindsOf_X7_kindSeen
theorem dX7_kindsOf_0 : decode cX7_kindsOf 0 = .ok (.iconst 0, 1) := by decide +kernel
theorem dX7_kindsOf_1 : decode cX7_kindsOf 1 = .ok (.istore_n 2, 1) := by decide +kernel
theorem dX7_kindsOf_2 : decode cX7_kindsOf 2 = .ok (.iconst 0, 1) := by decide +kernel
theorem dX7_kindsOf_3 : decode cX7_kindsOf 3 = .ok (.istore_n 3, 1) := by decide +kernel
theorem dX7_kindsOf_4 : decode cX7_kindsOf 4 = .ok (.iconst 0, 1) := by decide +kernel
theorem dX7_kindsOf_5 : decode cX7_kindsOf 5 = .ok (.istore 4, 2) := by decide +kernel
theorem dX7_kindsOf_7 : decode cX7_kindsOf 7 = .ok (.iload 4, 2) := by decide +kernel
theorem dX7_kindsOf_9 : decode cX7_kindsOf 9 = .ok (.aload_n 0, 1) := by decide +kernel
theorem dX7_kindsOf_10 : decode cX7_kindsOf 10 = .ok (.invokevirtual 209, 3) := by decide +kernel
theorem dX7_kindsOf_13 : decode cX7_kindsOf 13 = .ok (.if_icmp .ge 21, 3) := by decide +kernel
theorem dX7_kindsOf_16 : decode cX7_kindsOf 16 = .ok (.iload_n 2, 1) := by decide +kernel
theorem dX7_kindsOf_17 : decode cX7_kindsOf 17 = .ok (.iconst 1, 1) := by decide +kernel
theorem dX7_kindsOf_18 : decode cX7_kindsOf 18 = .ok (.aload_n 0, 1) := by decide +kernel
theorem dX7_kindsOf_19 : decode cX7_kindsOf 19 = .ok (.iload_n 1, 1) := by decide +kernel
theorem dX7_kindsOf_20 : decode cX7_kindsOf 20 = .ok (.iload 4, 2) := by decide +kernel
theorem dX7_kindsOf_22 : decode cX7_kindsOf 22 = .ok (.invokevirtual 212, 3) := by decide +kernel
theorem dX7_kindsOf_25 : decode cX7_kindsOf 25 = .ok (.ishl, 1) := by decide +kernel
theorem dX7_kindsOf_26 : decode cX7_kindsOf 26 = .ok (.ior, 1) := by decide +kernel
theorem dX7_kindsOf_27 : decode cX7_kindsOf 27 = .ok (.istore_n 2, 1) := by decide +kernel
theorem dX7_kindsOf_28 : decode cX7_kindsOf 28 = .ok (.iinc 4 1, 3) := by decide +kernel
theorem dX7_kindsOf_31 : decode cX7_kindsOf 31 = .ok (.goto (-24), 3) := by decide +kernel
theorem dX7_kindsOf_34 : decode cX7_kindsOf 34 = .ok (.iconst 0, 1) := by decide +kernel
theorem dX7_kindsOf_35 : decode cX7_kindsOf 35 = .ok (.istore 4, 2) := by decide +kernel
theorem dX7_kindsOf_37 : decode cX7_kindsOf 37 = .ok (.iload 4, 2) := by decide +kernel
theorem dX7_kindsOf_39 : decode cX7_kindsOf 39 = .ok (.bipush 26, 2) := by decide +kernel
theorem dX7_kindsOf_41 : decode cX7_kindsOf 41 = .ok (.if_icmp .ge 18, 3) := by decide +kernel
theorem dX7_kindsOf_44 : decode cX7_kindsOf 44 = .ok (.iload_n 3, 1) := by decide +kernel
theorem dX7_kindsOf_45 : decode cX7_kindsOf 45 = .ok (.iload_n 2, 1) := by decide +kernel
theorem dX7_kindsOf_46 : decode cX7_kindsOf 46 = .ok (.iload 4, 2) := by decide +kernel
theorem dX7_kindsOf_48 : decode cX7_kindsOf 48 = .ok (.ishr, 1) := by decide +kernel
theorem dX7_kindsOf_49 : decode cX7_kindsOf 49 = .ok (.iconst 1, 1) := by decide +kernel
theorem dX7_kindsOf_50 : decode cX7_kindsOf 50 = .ok (.iand, 1) := by decide +kernel
theorem dX7_kindsOf_51 : decode cX7_kindsOf 51 = .ok (.iadd, 1) := by decide +kernel
theorem dX7_kindsOf_52 : decode cX7_kindsOf 52 = .ok (.istore_n 3, 1) := by decide +kernel
theorem dX7_kindsOf_53 : decode cX7_kindsOf 53 = .ok (.iinc 4 1, 3) := by decide +kernel
theorem dX7_kindsOf_56 : decode cX7_kindsOf 56 = .ok (.goto (-19), 3) := by decide +kernel
theorem dX7_kindsOf_59 : decode cX7_kindsOf 59 = .ok (.iload_n 3, 1) := by decide +kernel
theorem dX7_kindsOf_60 : decode cX7_kindsOf 60 = .ok (.ireturn, 1) := by decide +kernel
set_option maxRecDepth 20000 in
theorem ggX7_depthOf_X7_cells : GoodIn wsX7_depthOf wsX7_cells := goodIn_r _ [5, 6, 31, 32, 33, 34, 35, 36, 37, 38, 39, 40, 41, 42, 43, 44, 45, 46, 47, 48, 49] (by decide +kernel) (by decide +kernel)
set_option maxRecDepth 20000 in
theorem gX7_depthOf_X7_cells : GoodIn wsX7_depthOf (wsV RX7 209 RX7 yX7_cells wsX7_cells) := goodIn_app (goodIn_of _ (by decide +kernel)) ggX7_depthOf_X7_cells
set_option maxRecDepth 20000 in
theorem ggX7_depthOf_X7_planeSeen : GoodIn wsX7_depthOf wsX7_planeSeen := goodIn_r _ [10, 11, 12, 13, 4, 14, 6, 15, 16, 17, 18, 19, 20, 21, 22, 23, 24, 25, 26, 27, 28, 29, 30, 31, 32, 33, 34, 35, 36, 37, 38, 39, 40, 41, 42, 43, 44, 45, 46, 47, 48, 49] (by decide +kernel) (by decide +kernel)
set_option maxRecDepth 20000 in
theorem gX7_depthOf_X7_planeSeen : GoodIn wsX7_depthOf (wsV RX7 206 RX7 yX7_planeSeen wsX7_planeSeen) := goodIn_app (goodIn_of _ (by decide +kernel)) ggX7_depthOf_X7_planeSeen
theorem dX7_depthOf_0 : decode cX7_depthOf 0 = .ok (.iconst 0, 1) := by decide +kernel
theorem dX7_depthOf_1 : decode cX7_depthOf 1 = .ok (.istore_n 2, 1) := by decide +kernel
theorem dX7_depthOf_2 : decode cX7_depthOf 2 = .ok (.iconst 0, 1) := by decide +kernel
theorem dX7_depthOf_3 : decode cX7_depthOf 3 = .ok (.istore_n 3, 1) := by decide +kernel
theorem dX7_depthOf_4 : decode cX7_depthOf 4 = .ok (.iload_n 3, 1) := by decide +kernel
theorem dX7_depthOf_5 : decode cX7_depthOf 5 = .ok (.aload_n 0, 1) := by decide +kernel
theorem dX7_depthOf_6 : decode cX7_depthOf 6 = .ok (.invokevirtual 209, 3) := by decide +kernel
theorem dX7_depthOf_9 : decode cX7_depthOf 9 = .ok (.if_icmp .ge 20, 3) := by decide +kernel
theorem dX7_depthOf_12 : decode cX7_depthOf 12 = .ok (.iload_n 2, 1) := by decide +kernel
theorem dX7_depthOf_13 : decode cX7_depthOf 13 = .ok (.aload_n 0, 1) := by decide +kernel
theorem dX7_depthOf_14 : decode cX7_depthOf 14 = .ok (.iload_n 1, 1) := by decide +kernel
theorem dX7_depthOf_15 : decode cX7_depthOf 15 = .ok (.iload_n 3, 1) := by decide +kernel
theorem dX7_depthOf_16 : decode cX7_depthOf 16 = .ok (.invokevirtual 206, 3) := by decide +kernel
theorem dX7_depthOf_19 : decode cX7_depthOf 19 = .ok (.iconst 1, 1) := by decide +kernel
theorem dX7_depthOf_20 : decode cX7_depthOf 20 = .ok (.iadd, 1) := by decide +kernel
theorem dX7_depthOf_21 : decode cX7_depthOf 21 = .ok (.iadd, 1) := by decide +kernel
theorem dX7_depthOf_22 : decode cX7_depthOf 22 = .ok (.istore_n 2, 1) := by decide +kernel
theorem dX7_depthOf_23 : decode cX7_depthOf 23 = .ok (.iinc 3 1, 3) := by decide +kernel
theorem dX7_depthOf_26 : decode cX7_depthOf 26 = .ok (.goto (-22), 3) := by decide +kernel
theorem dX7_depthOf_29 : decode cX7_depthOf 29 = .ok (.iload_n 2, 1) := by decide +kernel
theorem dX7_depthOf_30 : decode cX7_depthOf 30 = .ok (.aload_n 0, 1) := by decide +kernel
theorem dX7_depthOf_31 : decode cX7_depthOf 31 = .ok (.invokevirtual 209, 3) := by decide +kernel
theorem dX7_depthOf_34 : decode cX7_depthOf 34 = .ok (.idiv, 1) := by decide +kernel
theorem dX7_depthOf_35 : decode cX7_depthOf 35 = .ok (.ireturn, 1) := by decide +kernel
theorem dX7_limited_0 : decode cX7_limited 0 = .ok (.lload_n 0, 1) := by decide +kernel
theorem dX7_limited_1 : decode cX7_limited 1 = .ok (.ldc2_w 215, 3) := by decide +kernel
theorem dX7_limited_4 : decode cX7_limited 4 = .ok (.lcmp, 1) := by decide +kernel
theorem dX7_limited_5 : decode cX7_limited 5 = .ok (.ifCond .le 9, 3) := by decide +kernel
theorem dX7_limited_8 : decode cX7_limited 8 = .ok (.ldc2_w 215, 3) := by decide +kernel
theorem dX7_limited_11 : decode cX7_limited 11 = .ok (.goto 18, 3) := by decide +kernel
theorem dX7_limited_14 : decode cX7_limited 14 = .ok (.lload_n 0, 1) := by decide +kernel
theorem dX7_limited_15 : decode cX7_limited 15 = .ok (.ldc2_w 217, 3) := by decide +kernel
theorem dX7_limited_18 : decode cX7_limited 18 = .ok (.lcmp, 1) := by decide +kernel
theorem dX7_limited_19 : decode cX7_limited 19 = .ok (.ifCond .ge 9, 3) := by decide +kernel
theorem dX7_limited_22 : decode cX7_limited 22 = .ok (.ldc2_w 217, 3) := by decide +kernel
theorem dX7_limited_25 : decode cX7_limited 25 = .ok (.goto 4, 3) := by decide +kernel
theorem dX7_limited_28 : decode cX7_limited 28 = .ok (.lload_n 0, 1) := by decide +kernel
theorem dX7_limited_29 : decode cX7_limited 29 = .ok (.lreturn, 1) := by decide +kernel
set_option maxRecDepth 20000 in
theorem ggX7_operate_X7_limited : GoodIn wsX7_operate wsX7_limited := goodIn_r _ [4, 5, 6] (by decide +kernel) (by decide +kernel)
set_option maxRecDepth 20000 in
theorem gX7_operate_X7_limited : GoodIn wsX7_operate (va_wsS RX7 219 yX7_limited wsX7_limited) := goodIn_app (goodIn_of _ (by decide +kernel)) ggX7_operate_X7_limited
theorem dX7_operate_0 : decode cX7_operate 0 = .ok (.iload_n 0, 1) := by decide +kernel
theorem dX7_operate_1 : decode cX7_operate 1 = .ok (.iconst 5, 1) := by decide +kernel
theorem dX7_operate_2 : decode cX7_operate 2 = .ok (.if_icmp .ne 20, 3) := by decide +kernel
theorem dX7_operate_5 : decode cX7_operate 5 = .ok (.lload_n 3, 1) := by decide +kernel
theorem dX7_operate_6 : decode cX7_operate 6 = .ok (.lconst 0, 1) := by decide +kernel
theorem dX7_operate_7 : decode cX7_operate 7 = .ok (.lcmp, 1) := by decide +kernel
theorem dX7_operate_8 : decode cX7_operate 8 = .ok (.ifCond .ne 7, 3) := by decide +kernel
theorem dX7_operate_11 : decode cX7_operate 11 = .ok (.lconst 0, 1) := by decide +kernel
theorem dX7_operate_12 : decode cX7_operate 12 = .ok (.goto 9, 3) := by decide +kernel
theorem dX7_operate_15 : decode cX7_operate 15 = .ok (.lload_n 1, 1) := by decide +kernel
theorem dX7_operate_16 : decode cX7_operate 16 = .ok (.lload_n 3, 1) := by decide +kernel
theorem dX7_operate_17 : decode cX7_operate 17 = .ok (.ldiv, 1) := by decide +kernel
theorem dX7_operate_18 : decode cX7_operate 18 = .ok (.invokestatic 219, 3) := by decide +kernel
theorem dX7_operate_21 : decode cX7_operate 21 = .ok (.lreturn, 1) := by decide +kernel
theorem dX7_operate_22 : decode cX7_operate 22 = .ok (.iload_n 0, 1) := by decide +kernel
theorem dX7_operate_23 : decode cX7_operate 23 = .ok (.iconst 2, 1) := by decide +kernel
theorem dX7_operate_24 : decode cX7_operate 24 = .ok (.if_icmp .ne 9, 3) := by decide +kernel
theorem dX7_operate_27 : decode cX7_operate 27 = .ok (.lload_n 1, 1) := by decide +kernel
theorem dX7_operate_28 : decode cX7_operate 28 = .ok (.lload_n 3, 1) := by decide +kernel
theorem dX7_operate_29 : decode cX7_operate 29 = .ok (.ladd, 1) := by decide +kernel
theorem dX7_operate_30 : decode cX7_operate 30 = .ok (.goto 17, 3) := by decide +kernel
theorem dX7_operate_33 : decode cX7_operate 33 = .ok (.iload_n 0, 1) := by decide +kernel
theorem dX7_operate_34 : decode cX7_operate 34 = .ok (.iconst 3, 1) := by decide +kernel
theorem dX7_operate_35 : decode cX7_operate 35 = .ok (.if_icmp .ne 9, 3) := by decide +kernel
theorem dX7_operate_38 : decode cX7_operate 38 = .ok (.lload_n 1, 1) := by decide +kernel
theorem dX7_operate_39 : decode cX7_operate 39 = .ok (.lload_n 3, 1) := by decide +kernel
theorem dX7_operate_40 : decode cX7_operate 40 = .ok (.lsub, 1) := by decide +kernel
theorem dX7_operate_41 : decode cX7_operate 41 = .ok (.goto 6, 3) := by decide +kernel
theorem dX7_operate_44 : decode cX7_operate 44 = .ok (.lload_n 1, 1) := by decide +kernel
theorem dX7_operate_45 : decode cX7_operate 45 = .ok (.lload_n 3, 1) := by decide +kernel
theorem dX7_operate_46 : decode cX7_operate 46 = .ok (.lmul, 1) := by decide +kernel
theorem dX7_operate_47 : decode cX7_operate 47 = .ok (.invokestatic 219, 3) := by decide +kernel
theorem dX7_operate_50 : decode cX7_operate 50 = .ok (.lreturn, 1) := by decide +kernel
set_option maxRecDepth 20000 in
theorem ggX7_priceOf_X7_showing : GoodIn wsX7_priceOf wsX7_showing := goodIn_r _ [8, 9, 10, 11, 7, 12, 2, 13, 14, 15, 16, 17, 18, 19, 20, 21, 22, 23, 24, 25, 26, 27, 28, 29, 30, 31, 32, 33, 34, 35, 36, 37, 38, 39, 40, 63, 64, 65, 66, 67, 68, 69, 70, 71, 72, 73, 74, 75, 76, 77, 78, 79, 80, 81] (by decide +kernel) (by decide +kernel)
set_option maxRecDepth 20000 in
theorem gX7_priceOf_X7_showing : GoodIn wsX7_priceOf (wsV RX7 223 RX7 yX7_showing wsX7_showing) := goodIn_app (goodIn_of _ (by decide +kernel)) ggX7_priceOf_X7_showing
set_option maxRecDepth 20000 in
theorem ggX7_priceOf_X7_kindsOf : GoodIn wsX7_priceOf wsX7_kindsOf := goodIn_r _ [44, 9, 10, 11, 7, 12, 2, 13, 14, 15, 16, 17, 18, 19, 20, 21, 22, 23, 24, 25, 26, 27, 28, 29, 30, 31, 32, 33, 34, 35, 36, 37, 38, 39, 40, 63, 64, 65, 66, 67, 68, 69, 70, 71, 72, 73, 74, 75, 76, 77, 78, 79, 80, 81] (by decide +kernel) (by decide +kernel)
set_option maxRecDepth 20000 in
theorem gX7_priceOf_X7_kindsOf : GoodIn wsX7_priceOf (wsV RX7 226 RX7 yX7_kindsOf wsX7_kindsOf) := goodIn_app (goodIn_of _ (by decide +kernel)) ggX7_priceOf_X7_kindsOf
set_option maxRecDepth 20000 in
theorem ggX7_priceOf_X7_depthOf : GoodIn wsX7_priceOf wsX7_depthOf := goodIn_r _ [48, 9, 10, 11, 7, 12, 2, 17, 18, 19, 20, 21, 22, 23, 24, 25, 26, 27, 28, 29, 30, 31, 32, 33, 34, 35, 36, 37, 38, 39, 40, 63, 64, 65, 66, 67, 68, 69, 70, 71, 72, 73, 74, 75, 76, 77, 78, 79, 80, 81] (by decide +kernel) (by decide +kernel)
set_option maxRecDepth 20000 in
theorem gX7_priceOf_X7_depthOf : GoodIn wsX7_priceOf (wsV RX7 229 RX7 yX7_depthOf wsX7_depthOf) := goodIn_app (goodIn_of _ (by decide +kernel)) ggX7_priceOf_X7_depthOf
set_option maxRecDepth 20000 in
theorem ggX7_priceOf_X7_operate : GoodIn wsX7_priceOf wsX7_operate := goodIn_r _ [51, 52, 53, 7, 54, 55, 56] (by decide +kernel) (by decide +kernel)
set_option maxRecDepth 20000 in
theorem gX7_priceOf_X7_operate : GoodIn wsX7_priceOf (va_wsS RX7 232 yX7_operate wsX7_operate) := goodIn_app (goodIn_of _ (by decide +kernel)) ggX7_priceOf_X7_operate
set_option maxRecDepth 20000 in
theorem ggX7_priceOf_X7_min : GoodIn wsX7_priceOf wsX7_min := goodIn_r _ [59] (by decide +kernel) (by decide +kernel)
set_option maxRecDepth 20000 in
theorem gX7_priceOf_X7_min : GoodIn wsX7_priceOf (va_wsS RX7 97 yX7_min wsX7_min) := goodIn_app (goodIn_of _ (by decide +kernel)) ggX7_priceOf_X7_min
set_option maxRecDepth 20000 in
theorem ggX7_priceOf_X7_max : GoodIn wsX7_priceOf wsX7_max := goodIn_r _ [62] (by decide +kernel) (by decide +kernel)
set_option maxRecDepth 20000 in
theorem gX7_priceOf_X7_max : GoodIn wsX7_priceOf (va_wsS RX7 236 yX7_max wsX7_max) := goodIn_app (goodIn_of _ (by decide +kernel)) ggX7_priceOf_X7_max
theorem dX7_priceOf_0 : decode cX7_priceOf 0 = .ok (.aload_n 0, 1) := by decide +kernel
theorem dX7_priceOf_1 : decode cX7_priceOf 1 = .ok (.getfield 35, 3) := by decide +kernel
theorem dX7_priceOf_4 : decode cX7_priceOf 4 = .ok (.iconst 0, 1) := by decide +kernel
theorem dX7_priceOf_5 : decode cX7_priceOf 5 = .ok (.aload_n 0, 1) := by decide +kernel
theorem dX7_priceOf_6 : decode cX7_priceOf 6 = .ok (.iload_n 2, 1) := by decide +kernel
theorem dX7_priceOf_7 : decode cX7_priceOf 7 = .ok (.iload_n 1, 1) := by decide +kernel
theorem dX7_priceOf_8 : decode cX7_priceOf 8 = .ok (.invokevirtual 223, 3) := by decide +kernel
theorem dX7_priceOf_11 : decode cX7_priceOf 11 = .ok (.iastore, 1) := by decide +kernel
theorem dX7_priceOf_12 : decode cX7_priceOf 12 = .ok (.aload_n 0, 1) := by decide +kernel
theorem dX7_priceOf_13 : decode cX7_priceOf 13 = .ok (.getfield 17, 3) := by decide +kernel
theorem dX7_priceOf_16 : decode cX7_priceOf 16 = .ok (.bipush 8, 2) := by decide +kernel
theorem dX7_priceOf_18 : decode cX7_priceOf 18 = .ok (.iaload, 1) := by decide +kernel
theorem dX7_priceOf_19 : decode cX7_priceOf 19 = .ok (.ifCond .ne 12, 3) := by decide +kernel
theorem dX7_priceOf_22 : decode cX7_priceOf 22 = .ok (.iconst 1, 1) := by decide +kernel
theorem dX7_priceOf_23 : decode cX7_priceOf 23 = .ok (.aload_n 0, 1) := by decide +kernel
theorem dX7_priceOf_24 : decode cX7_priceOf 24 = .ok (.getfield 35, 3) := by decide +kernel
theorem dX7_priceOf_27 : decode cX7_priceOf 27 = .ok (.iconst 0, 1) := by decide +kernel
theorem dX7_priceOf_28 : decode cX7_priceOf 28 = .ok (.iaload, 1) := by decide +kernel
theorem dX7_priceOf_29 : decode cX7_priceOf 29 = .ok (.iadd, 1) := by decide +kernel
theorem dX7_priceOf_30 : decode cX7_priceOf 30 = .ok (.ireturn, 1) := by decide +kernel
theorem dX7_priceOf_31 : decode cX7_priceOf 31 = .ok (.aload_n 0, 1) := by decide +kernel
theorem dX7_priceOf_32 : decode cX7_priceOf 32 = .ok (.getfield 35, 3) := by decide +kernel
theorem dX7_priceOf_35 : decode cX7_priceOf 35 = .ok (.iconst 1, 1) := by decide +kernel
theorem dX7_priceOf_36 : decode cX7_priceOf 36 = .ok (.aload_n 0, 1) := by decide +kernel
theorem dX7_priceOf_37 : decode cX7_priceOf 37 = .ok (.iload_n 2, 1) := by decide +kernel
theorem dX7_priceOf_38 : decode cX7_priceOf 38 = .ok (.invokevirtual 226, 3) := by decide +kernel
theorem dX7_priceOf_41 : decode cX7_priceOf 41 = .ok (.iastore, 1) := by decide +kernel
theorem dX7_priceOf_42 : decode cX7_priceOf 42 = .ok (.aload_n 0, 1) := by decide +kernel
theorem dX7_priceOf_43 : decode cX7_priceOf 43 = .ok (.getfield 35, 3) := by decide +kernel
theorem dX7_priceOf_46 : decode cX7_priceOf 46 = .ok (.iconst 2, 1) := by decide +kernel
theorem dX7_priceOf_47 : decode cX7_priceOf 47 = .ok (.aload_n 0, 1) := by decide +kernel
theorem dX7_priceOf_48 : decode cX7_priceOf 48 = .ok (.iload_n 2, 1) := by decide +kernel
theorem dX7_priceOf_49 : decode cX7_priceOf 49 = .ok (.invokevirtual 229, 3) := by decide +kernel
theorem dX7_priceOf_52 : decode cX7_priceOf 52 = .ok (.iastore, 1) := by decide +kernel
theorem dX7_priceOf_53 : decode cX7_priceOf 53 = .ok (.aload_n 0, 1) := by decide +kernel
theorem dX7_priceOf_54 : decode cX7_priceOf 54 = .ok (.getfield 35, 3) := by decide +kernel
theorem dX7_priceOf_57 : decode cX7_priceOf 57 = .ok (.iconst 3, 1) := by decide +kernel
theorem dX7_priceOf_58 : decode cX7_priceOf 58 = .ok (.iload_n 2, 1) := by decide +kernel
theorem dX7_priceOf_59 : decode cX7_priceOf 59 = .ok (.iastore, 1) := by decide +kernel
theorem dX7_priceOf_60 : decode cX7_priceOf 60 = .ok (.iconst 0, 1) := by decide +kernel
theorem dX7_priceOf_61 : decode cX7_priceOf 61 = .ok (.istore_n 3, 1) := by decide +kernel
theorem dX7_priceOf_62 : decode cX7_priceOf 62 = .ok (.aload_n 0, 1) := by decide +kernel
theorem dX7_priceOf_63 : decode cX7_priceOf 63 = .ok (.getfield 31, 3) := by decide +kernel
theorem dX7_priceOf_66 : decode cX7_priceOf 66 = .ok (.iconst 0, 1) := by decide +kernel
theorem dX7_priceOf_67 : decode cX7_priceOf 67 = .ok (.lconst 0, 1) := by decide +kernel
theorem dX7_priceOf_68 : decode cX7_priceOf 68 = .ok (.lastore, 1) := by decide +kernel
theorem dX7_priceOf_69 : decode cX7_priceOf 69 = .ok (.iconst 0, 1) := by decide +kernel
theorem dX7_priceOf_70 : decode cX7_priceOf 70 = .ok (.istore 4, 2) := by decide +kernel
theorem dX7_priceOf_72 : decode cX7_priceOf 72 = .ok (.iload 4, 2) := by decide +kernel
theorem dX7_priceOf_74 : decode cX7_priceOf 74 = .ok (.aload_n 0, 1) := by decide +kernel
theorem dX7_priceOf_75 : decode cX7_priceOf 75 = .ok (.getfield 17, 3) := by decide +kernel
theorem dX7_priceOf_78 : decode cX7_priceOf 78 = .ok (.bipush 9, 2) := by decide +kernel
theorem dX7_priceOf_80 : decode cX7_priceOf 80 = .ok (.iaload, 1) := by decide +kernel
theorem dX7_priceOf_81 : decode cX7_priceOf 81 = .ok (.if_icmp .ge 110, 3) := by decide +kernel
theorem dX7_priceOf_84 : decode cX7_priceOf 84 = .ok (.aload_n 0, 1) := by decide +kernel
theorem dX7_priceOf_85 : decode cX7_priceOf 85 = .ok (.getfield 17, 3) := by decide +kernel
theorem dX7_priceOf_88 : decode cX7_priceOf 88 = .ok (.sipush 643, 3) := by decide +kernel
theorem dX7_priceOf_91 : decode cX7_priceOf 91 = .ok (.iload 4, 2) := by decide +kernel
theorem dX7_priceOf_93 : decode cX7_priceOf 93 = .ok (.iadd, 1) := by decide +kernel
theorem dX7_priceOf_94 : decode cX7_priceOf 94 = .ok (.iaload, 1) := by decide +kernel
theorem dX7_priceOf_95 : decode cX7_priceOf 95 = .ok (.istore 5, 2) := by decide +kernel
theorem dX7_priceOf_97 : decode cX7_priceOf 97 = .ok (.iload 5, 2) := by decide +kernel
theorem dX7_priceOf_99 : decode cX7_priceOf 99 = .ok (.iconst 1, 1) := by decide +kernel
theorem dX7_priceOf_100 : decode cX7_priceOf 100 = .ok (.if_icmp .gt 55, 3) := by decide +kernel
theorem dX7_priceOf_103 : decode cX7_priceOf 103 = .ok (.iinc 4 1, 3) := by decide +kernel
theorem dX7_priceOf_106 : decode cX7_priceOf 106 = .ok (.aload_n 0, 1) := by decide +kernel
theorem dX7_priceOf_107 : decode cX7_priceOf 107 = .ok (.getfield 31, 3) := by decide +kernel
theorem dX7_priceOf_110 : decode cX7_priceOf 110 = .ok (.iload_n 3, 1) := by decide +kernel
theorem dX7_priceOf_111 : decode cX7_priceOf 111 = .ok (.iload 5, 2) := by decide +kernel
theorem dX7_priceOf_113 : decode cX7_priceOf 113 = .ok (.ifCond .ne 18, 3) := by decide +kernel
theorem dX7_priceOf_116 : decode cX7_priceOf 116 = .ok (.aload_n 0, 1) := by decide +kernel
theorem dX7_priceOf_117 : decode cX7_priceOf 117 = .ok (.getfield 17, 3) := by decide +kernel
theorem dX7_priceOf_120 : decode cX7_priceOf 120 = .ok (.sipush 643, 3) := by decide +kernel
theorem dX7_priceOf_123 : decode cX7_priceOf 123 = .ok (.iload 4, 2) := by decide +kernel
theorem dX7_priceOf_125 : decode cX7_priceOf 125 = .ok (.iadd, 1) := by decide +kernel
theorem dX7_priceOf_126 : decode cX7_priceOf 126 = .ok (.iaload, 1) := by decide +kernel
theorem dX7_priceOf_127 : decode cX7_priceOf 127 = .ok (.i2l, 1) := by decide +kernel
theorem dX7_priceOf_128 : decode cX7_priceOf 128 = .ok (.goto 20, 3) := by decide +kernel
theorem dX7_priceOf_131 : decode cX7_priceOf 131 = .ok (.aload_n 0, 1) := by decide +kernel
theorem dX7_priceOf_132 : decode cX7_priceOf 132 = .ok (.getfield 35, 3) := by decide +kernel
theorem dX7_priceOf_135 : decode cX7_priceOf 135 = .ok (.aload_n 0, 1) := by decide +kernel
theorem dX7_priceOf_136 : decode cX7_priceOf 136 = .ok (.getfield 17, 3) := by decide +kernel
theorem dX7_priceOf_139 : decode cX7_priceOf 139 = .ok (.sipush 643, 3) := by decide +kernel
theorem dX7_priceOf_142 : decode cX7_priceOf 142 = .ok (.iload 4, 2) := by decide +kernel
theorem dX7_priceOf_144 : decode cX7_priceOf 144 = .ok (.iadd, 1) := by decide +kernel
theorem dX7_priceOf_145 : decode cX7_priceOf 145 = .ok (.iaload, 1) := by decide +kernel
theorem dX7_priceOf_146 : decode cX7_priceOf 146 = .ok (.iaload, 1) := by decide +kernel
theorem dX7_priceOf_147 : decode cX7_priceOf 147 = .ok (.i2l, 1) := by decide +kernel
theorem dX7_priceOf_148 : decode cX7_priceOf 148 = .ok (.lastore, 1) := by decide +kernel
theorem dX7_priceOf_149 : decode cX7_priceOf 149 = .ok (.iinc 3 1, 3) := by decide +kernel
theorem dX7_priceOf_152 : decode cX7_priceOf 152 = .ok (.goto 33, 3) := by decide +kernel
theorem dX7_priceOf_155 : decode cX7_priceOf 155 = .ok (.iinc 3 (-1), 3) := by decide +kernel
theorem dX7_priceOf_158 : decode cX7_priceOf 158 = .ok (.aload_n 0, 1) := by decide +kernel
theorem dX7_priceOf_159 : decode cX7_priceOf 159 = .ok (.getfield 31, 3) := by decide +kernel
theorem dX7_priceOf_162 : decode cX7_priceOf 162 = .ok (.iload_n 3, 1) := by decide +kernel
theorem dX7_priceOf_163 : decode cX7_priceOf 163 = .ok (.iconst 1, 1) := by decide +kernel
theorem dX7_priceOf_164 : decode cX7_priceOf 164 = .ok (.isub, 1) := by decide +kernel
theorem dX7_priceOf_165 : decode cX7_priceOf 165 = .ok (.iload 5, 2) := by decide +kernel
theorem dX7_priceOf_167 : decode cX7_priceOf 167 = .ok (.aload_n 0, 1) := by decide +kernel
theorem dX7_priceOf_168 : decode cX7_priceOf 168 = .ok (.getfield 31, 3) := by decide +kernel
theorem dX7_priceOf_171 : decode cX7_priceOf 171 = .ok (.iload_n 3, 1) := by decide +kernel
theorem dX7_priceOf_172 : decode cX7_priceOf 172 = .ok (.iconst 1, 1) := by decide +kernel
theorem dX7_priceOf_173 : decode cX7_priceOf 173 = .ok (.isub, 1) := by decide +kernel
theorem dX7_priceOf_174 : decode cX7_priceOf 174 = .ok (.laload, 1) := by decide +kernel
theorem dX7_priceOf_175 : decode cX7_priceOf 175 = .ok (.aload_n 0, 1) := by decide +kernel
theorem dX7_priceOf_176 : decode cX7_priceOf 176 = .ok (.getfield 31, 3) := by decide +kernel
theorem dX7_priceOf_179 : decode cX7_priceOf 179 = .ok (.iload_n 3, 1) := by decide +kernel
theorem dX7_priceOf_180 : decode cX7_priceOf 180 = .ok (.laload, 1) := by decide +kernel
theorem dX7_priceOf_181 : decode cX7_priceOf 181 = .ok (.invokestatic 232, 3) := by decide +kernel
theorem dX7_priceOf_184 : decode cX7_priceOf 184 = .ok (.lastore, 1) := by decide +kernel
theorem dX7_priceOf_185 : decode cX7_priceOf 185 = .ok (.iinc 4 1, 3) := by decide +kernel
theorem dX7_priceOf_188 : decode cX7_priceOf 188 = .ok (.goto (-116), 3) := by decide +kernel
theorem dX7_priceOf_191 : decode cX7_priceOf 191 = .ok (.iconst 0, 1) := by decide +kernel
theorem dX7_priceOf_192 : decode cX7_priceOf 192 = .ok (.sipush 999, 3) := by decide +kernel
theorem dX7_priceOf_195 : decode cX7_priceOf 195 = .ok (.aload_n 0, 1) := by decide +kernel
theorem dX7_priceOf_196 : decode cX7_priceOf 196 = .ok (.getfield 31, 3) := by decide +kernel
theorem dX7_priceOf_199 : decode cX7_priceOf 199 = .ok (.iconst 0, 1) := by decide +kernel
theorem dX7_priceOf_200 : decode cX7_priceOf 200 = .ok (.laload, 1) := by decide +kernel
theorem dX7_priceOf_201 : decode cX7_priceOf 201 = .ok (.l2i, 1) := by decide +kernel
theorem dX7_priceOf_202 : decode cX7_priceOf 202 = .ok (.invokestatic 97, 3) := by decide +kernel
theorem dX7_priceOf_205 : decode cX7_priceOf 205 = .ok (.invokestatic 236, 3) := by decide +kernel
theorem dX7_priceOf_208 : decode cX7_priceOf 208 = .ok (.ireturn, 1) := by decide +kernel
theorem dX7_of_0 : decode cX7_of 0 = .ok (.aload_n 0, 1) := by decide +kernel
theorem dX7_of_1 : decode cX7_of 1 = .ok (.getfield 17, 3) := by decide +kernel
theorem dX7_of_4 : decode cX7_of 4 = .ok (.sipush 503, 3) := by decide +kernel
theorem dX7_of_7 : decode cX7_of 7 = .ok (.bipush 7, 2) := by decide +kernel
theorem dX7_of_9 : decode cX7_of 9 = .ok (.iload_n 1, 1) := by decide +kernel
theorem dX7_of_10 : decode cX7_of 10 = .ok (.imul, 1) := by decide +kernel
theorem dX7_of_11 : decode cX7_of 11 = .ok (.iadd, 1) := by decide +kernel
theorem dX7_of_12 : decode cX7_of 12 = .ok (.iload_n 2, 1) := by decide +kernel
theorem dX7_of_13 : decode cX7_of 13 = .ok (.iadd, 1) := by decide +kernel
theorem dX7_of_14 : decode cX7_of 14 = .ok (.iaload, 1) := by decide +kernel
theorem dX7_of_15 : decode cX7_of 15 = .ok (.ireturn, 1) := by decide +kernel
theorem dX7_set_0 : decode cX7_set 0 = .ok (.aload_n 0, 1) := by decide +kernel
theorem dX7_set_1 : decode cX7_set 1 = .ok (.getfield 17, 3) := by decide +kernel
theorem dX7_set_4 : decode cX7_set 4 = .ok (.sipush 503, 3) := by decide +kernel
theorem dX7_set_7 : decode cX7_set 7 = .ok (.bipush 7, 2) := by decide +kernel
theorem dX7_set_9 : decode cX7_set 9 = .ok (.iload_n 1, 1) := by decide +kernel
theorem dX7_set_10 : decode cX7_set 10 = .ok (.imul, 1) := by decide +kernel
theorem dX7_set_11 : decode cX7_set 11 = .ok (.iadd, 1) := by decide +kernel
theorem dX7_set_12 : decode cX7_set 12 = .ok (.iload_n 2, 1) := by decide +kernel
theorem dX7_set_13 : decode cX7_set 13 = .ok (.iadd, 1) := by decide +kernel
theorem dX7_set_14 : decode cX7_set 14 = .ok (.iload_n 3, 1) := by decide +kernel
theorem dX7_set_15 : decode cX7_set 15 = .ok (.iastore, 1) := by decide +kernel
theorem dX7_set_16 : decode cX7_set 16 = .ok (.return_, 1) := by decide +kernel
set_option maxRecDepth 20000 in
theorem ggX7_canUse_X7_of : GoodIn wsX7_canUse wsX7_of := goodIn_r _ [10, 1, 15, 16, 17, 18, 19, 20, 21, 22, 23, 24, 25, 26, 27, 28, 29, 30, 31, 32, 33] (by decide +kernel) (by decide +kernel)
set_option maxRecDepth 20000 in
theorem gX7_canUse_X7_of : GoodIn wsX7_canUse (wsV RX7 239 RX7 yX7_of wsX7_of) := goodIn_app (goodIn_of _ (by decide +kernel)) ggX7_canUse_X7_of
set_option maxRecDepth 20000 in
theorem ggX7_canUse_X7_holeY : GoodIn wsX7_canUse wsX7_holeY := goodIn_r _ [14, 1, 15, 16, 17, 18, 19, 20, 21, 22, 23, 24, 25, 26, 27, 28, 29, 30, 31, 32, 33] (by decide +kernel) (by decide +kernel)
set_option maxRecDepth 20000 in
theorem gX7_canUse_X7_holeY : GoodIn wsX7_canUse (wsV RX7 193 RX7 yX7_holeY wsX7_holeY) := goodIn_app (goodIn_of _ (by decide +kernel)) ggX7_canUse_X7_holeY
theorem dX7_canUse_0 : decode cX7_canUse 0 = .ok (.aload_n 0, 1) := by decide +kernel
theorem dX7_canUse_1 : decode cX7_canUse 1 = .ok (.iload_n 1, 1) := by decide +kernel
theorem dX7_canUse_2 : decode cX7_canUse 2 = .ok (.iconst 0, 1) := by decide +kernel
theorem dX7_canUse_3 : decode cX7_canUse 3 = .ok (.invokevirtual 239, 3) := by decide +kernel
theorem dX7_canUse_6 : decode cX7_canUse 6 = .ok (.aload_n 0, 1) := by decide +kernel
theorem dX7_canUse_7 : decode cX7_canUse 7 = .ok (.getfield 17, 3) := by decide +kernel
theorem dX7_canUse_10 : decode cX7_canUse 10 = .ok (.iconst 1, 1) := by decide +kernel
theorem dX7_canUse_11 : decode cX7_canUse 11 = .ok (.iaload, 1) := by decide +kernel
theorem dX7_canUse_12 : decode cX7_canUse 12 = .ok (.iconst 1, 1) := by decide +kernel
theorem dX7_canUse_13 : decode cX7_canUse 13 = .ok (.isub, 1) := by decide +kernel
theorem dX7_canUse_14 : decode cX7_canUse 14 = .ok (.aload_n 0, 1) := by decide +kernel
theorem dX7_canUse_15 : decode cX7_canUse 15 = .ok (.iload_n 2, 1) := by decide +kernel
theorem dX7_canUse_16 : decode cX7_canUse 16 = .ok (.invokevirtual 193, 3) := by decide +kernel
theorem dX7_canUse_19 : decode cX7_canUse 19 = .ok (.isub, 1) := by decide +kernel
theorem dX7_canUse_20 : decode cX7_canUse 20 = .ok (.isub, 1) := by decide +kernel
theorem dX7_canUse_21 : decode cX7_canUse 21 = .ok (.invokestatic 242, 3) := by decide +kernel
theorem dX7_canUse_24 : decode cX7_canUse 24 = .ok (.aload_n 0, 1) := by decide +kernel
theorem dX7_canUse_25 : decode cX7_canUse 25 = .ok (.getfield 17, 3) := by decide +kernel
theorem dX7_canUse_28 : decode cX7_canUse 28 = .ok (.iconst 4, 1) := by decide +kernel
theorem dX7_canUse_29 : decode cX7_canUse 29 = .ok (.iaload, 1) := by decide +kernel
theorem dX7_canUse_30 : decode cX7_canUse 30 = .ok (.if_icmp .gt 7, 3) := by decide +kernel
theorem dX7_canUse_33 : decode cX7_canUse 33 = .ok (.iconst 1, 1) := by decide +kernel
theorem dX7_canUse_34 : decode cX7_canUse 34 = .ok (.goto 4, 3) := by decide +kernel
theorem dX7_canUse_37 : decode cX7_canUse 37 = .ok (.iconst 0, 1) := by decide +kernel
theorem dX7_canUse_38 : decode cX7_canUse 38 = .ok (.ireturn, 1) := by decide +kernel
set_option maxRecDepth 20000 in
theorem ggX7_lookerAt_X7_of : GoodIn wsX7_lookerAt wsX7_of := goodIn_r _ [6, 1, 7, 8, 9, 10, 11, 12, 13, 14, 15, 16, 17, 18, 19, 20, 21, 22, 23, 24, 25] (by decide +kernel) (by decide +kernel)
set_option maxRecDepth 20000 in
theorem gX7_lookerAt_X7_of : GoodIn wsX7_lookerAt (wsV RX7 239 RX7 yX7_of wsX7_of) := goodIn_app (goodIn_of _ (by decide +kernel)) ggX7_lookerAt_X7_of
theorem dX7_lookerAt_0 : decode cX7_lookerAt 0 = .ok (.iconst 0, 1) := by decide +kernel
theorem dX7_lookerAt_1 : decode cX7_lookerAt 1 = .ok (.istore_n 2, 1) := by decide +kernel
theorem dX7_lookerAt_2 : decode cX7_lookerAt 2 = .ok (.iload_n 2, 1) := by decide +kernel
theorem dX7_lookerAt_3 : decode cX7_lookerAt 3 = .ok (.aload_n 0, 1) := by decide +kernel
theorem dX7_lookerAt_4 : decode cX7_lookerAt 4 = .ok (.getfield 17, 3) := by decide +kernel
theorem dX7_lookerAt_7 : decode cX7_lookerAt 7 = .ok (.bipush 7, 2) := by decide +kernel
theorem dX7_lookerAt_9 : decode cX7_lookerAt 9 = .ok (.iaload, 1) := by decide +kernel
theorem dX7_lookerAt_10 : decode cX7_lookerAt 10 = .ok (.if_icmp .ge 31, 3) := by decide +kernel
theorem dX7_lookerAt_13 : decode cX7_lookerAt 13 = .ok (.aload_n 0, 1) := by decide +kernel
theorem dX7_lookerAt_14 : decode cX7_lookerAt 14 = .ok (.iload_n 2, 1) := by decide +kernel
theorem dX7_lookerAt_15 : decode cX7_lookerAt 15 = .ok (.iconst 3, 1) := by decide +kernel
theorem dX7_lookerAt_16 : decode cX7_lookerAt 16 = .ok (.invokevirtual 239, 3) := by decide +kernel
theorem dX7_lookerAt_19 : decode cX7_lookerAt 19 = .ok (.iconst 1, 1) := by decide +kernel
theorem dX7_lookerAt_20 : decode cX7_lookerAt 20 = .ok (.if_icmp .ne 15, 3) := by decide +kernel
theorem dX7_lookerAt_23 : decode cX7_lookerAt 23 = .ok (.aload_n 0, 1) := by decide +kernel
theorem dX7_lookerAt_24 : decode cX7_lookerAt 24 = .ok (.iload_n 2, 1) := by decide +kernel
theorem dX7_lookerAt_25 : decode cX7_lookerAt 25 = .ok (.iconst 4, 1) := by decide +kernel
theorem dX7_lookerAt_26 : decode cX7_lookerAt 26 = .ok (.invokevirtual 239, 3) := by decide +kernel
theorem dX7_lookerAt_29 : decode cX7_lookerAt 29 = .ok (.iload_n 1, 1) := by decide +kernel
theorem dX7_lookerAt_30 : decode cX7_lookerAt 30 = .ok (.if_icmp .ne 5, 3) := by decide +kernel
theorem dX7_lookerAt_33 : decode cX7_lookerAt 33 = .ok (.iload_n 2, 1) := by decide +kernel
theorem dX7_lookerAt_34 : decode cX7_lookerAt 34 = .ok (.ireturn, 1) := by decide +kernel
theorem dX7_lookerAt_35 : decode cX7_lookerAt 35 = .ok (.iinc 2 1, 3) := by decide +kernel
theorem dX7_lookerAt_38 : decode cX7_lookerAt 38 = .ok (.goto (-36), 3) := by decide +kernel
theorem dX7_lookerAt_41 : decode cX7_lookerAt 41 = .ok (.iconst (-1), 1) := by decide +kernel
theorem dX7_lookerAt_42 : decode cX7_lookerAt 42 = .ok (.ireturn, 1) := by decide +kernel
set_option maxRecDepth 20000 in
theorem ggX7_inState_X7_of : GoodIn wsX7_inState wsX7_of := goodIn_r _ [6, 1, 7, 8, 9, 10, 11, 12, 13, 14, 15, 16, 17, 18, 19, 20, 21, 22, 23, 24, 25] (by decide +kernel) (by decide +kernel)
set_option maxRecDepth 20000 in
theorem gX7_inState_X7_of : GoodIn wsX7_inState (wsV RX7 239 RX7 yX7_of wsX7_of) := goodIn_app (goodIn_of _ (by decide +kernel)) ggX7_inState_X7_of
theorem dX7_inState_0 : decode cX7_inState 0 = .ok (.iconst 0, 1) := by decide +kernel
theorem dX7_inState_1 : decode cX7_inState 1 = .ok (.istore_n 2, 1) := by decide +kernel
theorem dX7_inState_2 : decode cX7_inState 2 = .ok (.iconst 0, 1) := by decide +kernel
theorem dX7_inState_3 : decode cX7_inState 3 = .ok (.istore_n 3, 1) := by decide +kernel
theorem dX7_inState_4 : decode cX7_inState 4 = .ok (.iload_n 3, 1) := by decide +kernel
theorem dX7_inState_5 : decode cX7_inState 5 = .ok (.aload_n 0, 1) := by decide +kernel
theorem dX7_inState_6 : decode cX7_inState 6 = .ok (.getfield 17, 3) := by decide +kernel
theorem dX7_inState_9 : decode cX7_inState 9 = .ok (.bipush 7, 2) := by decide +kernel
theorem dX7_inState_11 : decode cX7_inState 11 = .ok (.iaload, 1) := by decide +kernel
theorem dX7_inState_12 : decode cX7_inState 12 = .ok (.if_icmp .ge 27, 3) := by decide +kernel
theorem dX7_inState_15 : decode cX7_inState 15 = .ok (.iload_n 2, 1) := by decide +kernel
theorem dX7_inState_16 : decode cX7_inState 16 = .ok (.aload_n 0, 1) := by decide +kernel
theorem dX7_inState_17 : decode cX7_inState 17 = .ok (.iload_n 3, 1) := by decide +kernel
theorem dX7_inState_18 : decode cX7_inState 18 = .ok (.iconst 3, 1) := by decide +kernel
theorem dX7_inState_19 : decode cX7_inState 19 = .ok (.invokevirtual 239, 3) := by decide +kernel
theorem dX7_inState_22 : decode cX7_inState 22 = .ok (.iload_n 1, 1) := by decide +kernel
theorem dX7_inState_23 : decode cX7_inState 23 = .ok (.if_icmp .ne 7, 3) := by decide +kernel
theorem dX7_inState_26 : decode cX7_inState 26 = .ok (.iconst 1, 1) := by decide +kernel
theorem dX7_inState_27 : decode cX7_inState 27 = .ok (.goto 4, 3) := by decide +kernel
theorem dX7_inState_30 : decode cX7_inState 30 = .ok (.iconst 0, 1) := by decide +kernel
theorem dX7_inState_31 : decode cX7_inState 31 = .ok (.iadd, 1) := by decide +kernel
theorem dX7_inState_32 : decode cX7_inState 32 = .ok (.istore_n 2, 1) := by decide +kernel
theorem dX7_inState_33 : decode cX7_inState 33 = .ok (.iinc 3 1, 3) := by decide +kernel
theorem dX7_inState_36 : decode cX7_inState 36 = .ok (.goto (-32), 3) := by decide +kernel
theorem dX7_inState_39 : decode cX7_inState 39 = .ok (.iload_n 2, 1) := by decide +kernel
theorem dX7_inState_40 : decode cX7_inState 40 = .ok (.ireturn, 1) := by decide +kernel
set_option maxRecDepth 20000 in
theorem ggX7_paidInAll_X7_of : GoodIn wsX7_paidInAll wsX7_of := goodIn_r _ [6, 1, 7, 8, 9, 10, 11, 12, 13, 14, 15, 16, 17, 18, 19, 20, 21, 22, 23, 24, 25] (by decide +kernel) (by decide +kernel)
set_option maxRecDepth 20000 in
theorem gX7_paidInAll_X7_of : GoodIn wsX7_paidInAll (wsV RX7 239 RX7 yX7_of wsX7_of) := goodIn_app (goodIn_of _ (by decide +kernel)) ggX7_paidInAll_X7_of
theorem dX7_paidInAll_0 : decode cX7_paidInAll 0 = .ok (.iconst 0, 1) := by decide +kernel
theorem dX7_paidInAll_1 : decode cX7_paidInAll 1 = .ok (.istore_n 1, 1) := by decide +kernel
theorem dX7_paidInAll_2 : decode cX7_paidInAll 2 = .ok (.iconst 0, 1) := by decide +kernel
theorem dX7_paidInAll_3 : decode cX7_paidInAll 3 = .ok (.istore_n 2, 1) := by decide +kernel
theorem dX7_paidInAll_4 : decode cX7_paidInAll 4 = .ok (.iload_n 2, 1) := by decide +kernel
theorem dX7_paidInAll_5 : decode cX7_paidInAll 5 = .ok (.aload_n 0, 1) := by decide +kernel
theorem dX7_paidInAll_6 : decode cX7_paidInAll 6 = .ok (.getfield 17, 3) := by decide +kernel
theorem dX7_paidInAll_9 : decode cX7_paidInAll 9 = .ok (.bipush 7, 2) := by decide +kernel
theorem dX7_paidInAll_11 : decode cX7_paidInAll 11 = .ok (.iaload, 1) := by decide +kernel
theorem dX7_paidInAll_12 : decode cX7_paidInAll 12 = .ok (.if_icmp .ge 19, 3) := by decide +kernel
theorem dX7_paidInAll_15 : decode cX7_paidInAll 15 = .ok (.iload_n 1, 1) := by decide +kernel
theorem dX7_paidInAll_16 : decode cX7_paidInAll 16 = .ok (.aload_n 0, 1) := by decide +kernel
theorem dX7_paidInAll_17 : decode cX7_paidInAll 17 = .ok (.iload_n 2, 1) := by decide +kernel
theorem dX7_paidInAll_18 : decode cX7_paidInAll 18 = .ok (.bipush 6, 2) := by decide +kernel
theorem dX7_paidInAll_20 : decode cX7_paidInAll 20 = .ok (.invokevirtual 239, 3) := by decide +kernel
theorem dX7_paidInAll_23 : decode cX7_paidInAll 23 = .ok (.iadd, 1) := by decide +kernel
theorem dX7_paidInAll_24 : decode cX7_paidInAll 24 = .ok (.istore_n 1, 1) := by decide +kernel
theorem dX7_paidInAll_25 : decode cX7_paidInAll 25 = .ok (.iinc 2 1, 3) := by decide +kernel
theorem dX7_paidInAll_28 : decode cX7_paidInAll 28 = .ok (.goto (-24), 3) := by decide +kernel
theorem dX7_paidInAll_31 : decode cX7_paidInAll 31 = .ok (.iload_n 1, 1) := by decide +kernel
theorem dX7_paidInAll_32 : decode cX7_paidInAll 32 = .ok (.ireturn, 1) := by decide +kernel
set_option maxRecDepth 20000 in
theorem ggX7_look_X7_of : GoodIn wsX7_look wsX7_of := goodIn_r _ [5, 6, 75, 76, 77, 78, 79, 80, 81, 82, 83, 84, 85, 86, 87, 88, 89, 90, 91, 92, 93] (by decide +kernel) (by decide +kernel)
set_option maxRecDepth 20000 in
theorem gX7_look_X7_of : GoodIn wsX7_look (wsV RX7 239 RX7 yX7_of wsX7_of) := goodIn_app (goodIn_of _ (by decide +kernel)) ggX7_look_X7_of
set_option maxRecDepth 20000 in
theorem ggX7_look_X7_set : GoodIn wsX7_look wsX7_set := goodIn_r _ [10, 6, 75, 76, 77, 78, 79, 80, 81, 82, 83, 84, 85, 86, 87, 88, 89, 90, 91, 92, 93] (by decide +kernel) (by decide +kernel)
set_option maxRecDepth 20000 in
theorem gX7_look_X7_set : GoodIn wsX7_look (wsV RX7 247 RX7 yX7_set wsX7_set) := goodIn_app (goodIn_of _ (by decide +kernel)) ggX7_look_X7_set
set_option maxRecDepth 20000 in
theorem ggX7_look_X7_priceOf : GoodIn wsX7_look wsX7_priceOf := goodIn_r _ [14, 15, 6, 16, 17, 18, 19, 4, 20, 21, 22, 23, 24, 25, 26, 27, 28, 29, 30, 31, 32, 33, 34, 35, 36, 37, 38, 39, 40, 41, 42, 43, 44, 45, 46, 47, 48, 49, 50, 51, 52, 53, 54, 55, 56, 57, 58, 59, 60, 61, 62, 63, 64, 65, 66, 67, 68, 69, 70, 71, 72, 73, 74, 75, 76, 77, 78, 79, 80, 81, 82, 83, 84, 85, 86, 87, 88, 89, 90, 91, 92, 93] (by decide +kernel) (by decide +kernel)
set_option maxRecDepth 20000 in
theorem gX7_look_X7_priceOf : GoodIn wsX7_look (wsV RX7 251 RX7 yX7_priceOf wsX7_priceOf) := goodIn_app (goodIn_of _ (by decide +kernel)) ggX7_look_X7_priceOf
set_option maxRecDepth 20000 in
theorem ggX7_look_X7_min : GoodIn wsX7_look wsX7_min := goodIn_r _ [71] (by decide +kernel) (by decide +kernel)
set_option maxRecDepth 20000 in
theorem gX7_look_X7_min : GoodIn wsX7_look (va_wsS RX7 97 yX7_min wsX7_min) := goodIn_app (goodIn_of _ (by decide +kernel)) ggX7_look_X7_min
theorem dX7_look_0 : decode cX7_look 0 = .ok (.aload_n 0, 1) := by decide +kernel
theorem dX7_look_1 : decode cX7_look 1 = .ok (.iload_n 1, 1) := by decide +kernel
theorem dX7_look_2 : decode cX7_look 2 = .ok (.iconst 5, 1) := by decide +kernel
theorem dX7_look_3 : decode cX7_look 3 = .ok (.aload_n 0, 1) := by decide +kernel
theorem dX7_look_4 : decode cX7_look 4 = .ok (.iload_n 1, 1) := by decide +kernel
theorem dX7_look_5 : decode cX7_look 5 = .ok (.iconst 5, 1) := by decide +kernel
theorem dX7_look_6 : decode cX7_look 6 = .ok (.invokevirtual 239, 3) := by decide +kernel
theorem dX7_look_9 : decode cX7_look 9 = .ok (.iconst 1, 1) := by decide +kernel
theorem dX7_look_10 : decode cX7_look 10 = .ok (.isub, 1) := by decide +kernel
theorem dX7_look_11 : decode cX7_look 11 = .ok (.invokevirtual 247, 3) := by decide +kernel
theorem dX7_look_14 : decode cX7_look 14 = .ok (.aload_n 0, 1) := by decide +kernel
theorem dX7_look_15 : decode cX7_look 15 = .ok (.iload_n 1, 1) := by decide +kernel
theorem dX7_look_16 : decode cX7_look 16 = .ok (.iconst 5, 1) := by decide +kernel
theorem dX7_look_17 : decode cX7_look 17 = .ok (.invokevirtual 239, 3) := by decide +kernel
theorem dX7_look_20 : decode cX7_look 20 = .ok (.ifCond .le 4, 3) := by decide +kernel
theorem dX7_look_23 : decode cX7_look 23 = .ok (.return_, 1) := by decide +kernel
theorem dX7_look_24 : decode cX7_look 24 = .ok (.aload_n 0, 1) := by decide +kernel
theorem dX7_look_25 : decode cX7_look 25 = .ok (.iload_n 1, 1) := by decide +kernel
theorem dX7_look_26 : decode cX7_look 26 = .ok (.iconst 2, 1) := by decide +kernel
theorem dX7_look_27 : decode cX7_look 27 = .ok (.invokevirtual 239, 3) := by decide +kernel
theorem dX7_look_30 : decode cX7_look 30 = .ok (.aload_n 0, 1) := by decide +kernel
theorem dX7_look_31 : decode cX7_look 31 = .ok (.aload_n 0, 1) := by decide +kernel
theorem dX7_look_32 : decode cX7_look 32 = .ok (.iload_n 1, 1) := by decide +kernel
theorem dX7_look_33 : decode cX7_look 33 = .ok (.iconst 1, 1) := by decide +kernel
theorem dX7_look_34 : decode cX7_look 34 = .ok (.invokevirtual 239, 3) := by decide +kernel
theorem dX7_look_37 : decode cX7_look 37 = .ok (.aload_n 0, 1) := by decide +kernel
theorem dX7_look_38 : decode cX7_look 38 = .ok (.iload_n 1, 1) := by decide +kernel
theorem dX7_look_39 : decode cX7_look 39 = .ok (.iconst 4, 1) := by decide +kernel
theorem dX7_look_40 : decode cX7_look 40 = .ok (.invokevirtual 239, 3) := by decide +kernel
theorem dX7_look_43 : decode cX7_look 43 = .ok (.invokevirtual 251, 3) := by decide +kernel
theorem dX7_look_46 : decode cX7_look 46 = .ok (.invokestatic 97, 3) := by decide +kernel
theorem dX7_look_49 : decode cX7_look 49 = .ok (.istore_n 2, 1) := by decide +kernel
theorem dX7_look_50 : decode cX7_look 50 = .ok (.aload_n 0, 1) := by decide +kernel
theorem dX7_look_51 : decode cX7_look 51 = .ok (.iload_n 1, 1) := by decide +kernel
theorem dX7_look_52 : decode cX7_look 52 = .ok (.iconst 2, 1) := by decide +kernel
theorem dX7_look_53 : decode cX7_look 53 = .ok (.aload_n 0, 1) := by decide +kernel
theorem dX7_look_54 : decode cX7_look 54 = .ok (.iload_n 1, 1) := by decide +kernel
theorem dX7_look_55 : decode cX7_look 55 = .ok (.iconst 2, 1) := by decide +kernel
theorem dX7_look_56 : decode cX7_look 56 = .ok (.invokevirtual 239, 3) := by decide +kernel
theorem dX7_look_59 : decode cX7_look 59 = .ok (.iload_n 2, 1) := by decide +kernel
theorem dX7_look_60 : decode cX7_look 60 = .ok (.isub, 1) := by decide +kernel
theorem dX7_look_61 : decode cX7_look 61 = .ok (.invokevirtual 247, 3) := by decide +kernel
theorem dX7_look_64 : decode cX7_look 64 = .ok (.aload_n 0, 1) := by decide +kernel
theorem dX7_look_65 : decode cX7_look 65 = .ok (.iload_n 1, 1) := by decide +kernel
theorem dX7_look_66 : decode cX7_look 66 = .ok (.bipush 6, 2) := by decide +kernel
theorem dX7_look_68 : decode cX7_look 68 = .ok (.iload_n 2, 1) := by decide +kernel
theorem dX7_look_69 : decode cX7_look 69 = .ok (.invokevirtual 247, 3) := by decide +kernel
theorem dX7_look_72 : decode cX7_look 72 = .ok (.aload_n 0, 1) := by decide +kernel
theorem dX7_look_73 : decode cX7_look 73 = .ok (.iload_n 1, 1) := by decide +kernel
theorem dX7_look_74 : decode cX7_look 74 = .ok (.iconst 3, 1) := by decide +kernel
theorem dX7_look_75 : decode cX7_look 75 = .ok (.iconst 2, 1) := by decide +kernel
theorem dX7_look_76 : decode cX7_look 76 = .ok (.invokevirtual 247, 3) := by decide +kernel
theorem dX7_look_79 : decode cX7_look 79 = .ok (.aload_n 0, 1) := by decide +kernel
theorem dX7_look_80 : decode cX7_look 80 = .ok (.iload_n 1, 1) := by decide +kernel
theorem dX7_look_81 : decode cX7_look 81 = .ok (.iconst 4, 1) := by decide +kernel
theorem dX7_look_82 : decode cX7_look 82 = .ok (.iconst (-1), 1) := by decide +kernel
theorem dX7_look_83 : decode cX7_look 83 = .ok (.invokevirtual 247, 3) := by decide +kernel
theorem dX7_look_86 : decode cX7_look 86 = .ok (.return_, 1) := by decide +kernel
set_option maxRecDepth 20000 in
theorem ggX7_choose_X7_canUse : GoodIn wsX7_choose wsX7_canUse := goodIn_r _ [6, 1, 7, 8, 9, 10, 11, 12, 13, 5, 14, 15, 16, 17, 18, 87, 88, 89, 90, 91, 92, 93, 94, 95, 96, 97, 98, 99, 100, 101, 102, 103, 104, 105] (by decide +kernel) (by decide +kernel)
set_option maxRecDepth 20000 in
theorem gX7_choose_X7_canUse : GoodIn wsX7_choose (wsV RX7 254 RX7 yX7_canUse wsX7_canUse) := goodIn_app (goodIn_of _ (by decide +kernel)) ggX7_choose_X7_canUse
set_option maxRecDepth 20000 in
theorem ggX7_choose_X7_of : GoodIn wsX7_choose wsX7_of := goodIn_r _ [14, 1, 87, 88, 89, 90, 91, 92, 93, 94, 95, 96, 97, 98, 99, 100, 101, 102, 103, 104, 105] (by decide +kernel) (by decide +kernel)
set_option maxRecDepth 20000 in
theorem gX7_choose_X7_of : GoodIn wsX7_choose (wsV RX7 239 RX7 yX7_of wsX7_of) := goodIn_app (goodIn_of _ (by decide +kernel)) ggX7_choose_X7_of
set_option maxRecDepth 20000 in
theorem ggX7_choose_X7_priceOf : GoodIn wsX7_choose wsX7_priceOf := goodIn_r _ [22, 23, 1, 24, 25, 26, 27, 5, 28, 29, 30, 31, 32, 33, 34, 35, 36, 37, 38, 39, 40, 41, 42, 43, 44, 45, 46, 47, 48, 49, 50, 51, 52, 15, 16, 17, 18, 53, 54, 55, 56, 57, 58, 59, 60, 61, 62, 63, 64, 65, 66, 67, 68, 69, 70, 71, 72, 73, 74, 75, 76, 77, 78, 87, 88, 89, 90, 91, 92, 93, 94, 95, 96, 97, 98, 99, 100, 101, 102, 103, 104, 105] (by decide +kernel) (by decide +kernel)
set_option maxRecDepth 20000 in
theorem gX7_choose_X7_priceOf : GoodIn wsX7_choose (wsV RX7 251 RX7 yX7_priceOf wsX7_priceOf) := goodIn_app (goodIn_of _ (by decide +kernel)) ggX7_choose_X7_priceOf
set_option maxRecDepth 20000 in
theorem ggX7_choose_X7_showing : GoodIn wsX7_choose wsX7_showing := goodIn_r _ [28, 29, 30, 31, 5, 32, 1, 33, 34, 35, 36, 37, 38, 39, 40, 41, 42, 43, 44, 45, 46, 47, 48, 49, 50, 51, 52, 15, 16, 17, 18, 53, 54, 55, 56, 87, 88, 89, 90, 91, 92, 93, 94, 95, 96, 97, 98, 99, 100, 101, 102, 103, 104, 105] (by decide +kernel) (by decide +kernel)
set_option maxRecDepth 20000 in
theorem gX7_choose_X7_showing : GoodIn wsX7_choose (wsV RX7 223 RX7 yX7_showing wsX7_showing) := goodIn_app (goodIn_of _ (by decide +kernel)) ggX7_choose_X7_showing
set_option maxRecDepth 20000 in
theorem ggX7_choose_X7_lookerAt : GoodIn wsX7_choose wsX7_lookerAt := goodIn_r _ [82, 1, 11, 12, 13, 5, 14, 87, 88, 89, 90, 91, 92, 93, 94, 95, 96, 97, 98, 99, 100, 101, 102, 103, 104, 105] (by decide +kernel) (by decide +kernel)
set_option maxRecDepth 20000 in
theorem gX7_choose_X7_lookerAt : GoodIn wsX7_choose (wsV RX7 258 RX7 yX7_lookerAt wsX7_lookerAt) := goodIn_app (goodIn_of _ (by decide +kernel)) ggX7_choose_X7_lookerAt
set_option maxRecDepth 20000 in
theorem ggX7_choose_X7_set : GoodIn wsX7_choose wsX7_set := goodIn_r _ [86, 1, 87, 88, 89, 90, 91, 92, 93, 94, 95, 96, 97, 98, 99, 100, 101, 102, 103, 104, 105] (by decide +kernel) (by decide +kernel)
set_option maxRecDepth 20000 in
theorem gX7_choose_X7_set : GoodIn wsX7_choose (wsV RX7 247 RX7 yX7_set wsX7_set) := goodIn_app (goodIn_of _ (by decide +kernel)) ggX7_choose_X7_set
theorem dX7_choose_0 : decode cX7_choose 0 = .ok (.iconst (-1), 1) := by decide +kernel
theorem dX7_choose_1 : decode cX7_choose 1 = .ok (.istore_n 2, 1) := by decide +kernel
theorem dX7_choose_2 : decode cX7_choose 2 = .ok (.iconst 0, 1) := by decide +kernel
theorem dX7_choose_3 : decode cX7_choose 3 = .ok (.istore_n 3, 1) := by decide +kernel
theorem dX7_choose_4 : decode cX7_choose 4 = .ok (.iconst 0, 1) := by decide +kernel
theorem dX7_choose_5 : decode cX7_choose 5 = .ok (.istore 4, 2) := by decide +kernel
theorem dX7_choose_7 : decode cX7_choose 7 = .ok (.iconst 0, 1) := by decide +kernel
theorem dX7_choose_8 : decode cX7_choose 8 = .ok (.istore 5, 2) := by decide +kernel
theorem dX7_choose_10 : decode cX7_choose 10 = .ok (.iload 5, 2) := by decide +kernel
theorem dX7_choose_12 : decode cX7_choose 12 = .ok (.aload_n 0, 1) := by decide +kernel
theorem dX7_choose_13 : decode cX7_choose 13 = .ok (.getfield 17, 3) := by decide +kernel
theorem dX7_choose_16 : decode cX7_choose 16 = .ok (.iconst 3, 1) := by decide +kernel
theorem dX7_choose_17 : decode cX7_choose 17 = .ok (.iaload, 1) := by decide +kernel
theorem dX7_choose_18 : decode cX7_choose 18 = .ok (.if_icmp .ge 90, 3) := by decide +kernel
theorem dX7_choose_21 : decode cX7_choose 21 = .ok (.aload_n 0, 1) := by decide +kernel
theorem dX7_choose_22 : decode cX7_choose 22 = .ok (.iload_n 1, 1) := by decide +kernel
theorem dX7_choose_23 : decode cX7_choose 23 = .ok (.iload 5, 2) := by decide +kernel
theorem dX7_choose_25 : decode cX7_choose 25 = .ok (.invokevirtual 254, 3) := by decide +kernel
theorem dX7_choose_28 : decode cX7_choose 28 = .ok (.ifCond .eq 74, 3) := by decide +kernel
theorem dX7_choose_31 : decode cX7_choose 31 = .ok (.aload_n 0, 1) := by decide +kernel
theorem dX7_choose_32 : decode cX7_choose 32 = .ok (.aload_n 0, 1) := by decide +kernel
theorem dX7_choose_33 : decode cX7_choose 33 = .ok (.iload_n 1, 1) := by decide +kernel
theorem dX7_choose_34 : decode cX7_choose 34 = .ok (.iconst 1, 1) := by decide +kernel
theorem dX7_choose_35 : decode cX7_choose 35 = .ok (.invokevirtual 239, 3) := by decide +kernel
theorem dX7_choose_38 : decode cX7_choose 38 = .ok (.iload 5, 2) := by decide +kernel
theorem dX7_choose_40 : decode cX7_choose 40 = .ok (.invokevirtual 251, 3) := by decide +kernel
theorem dX7_choose_43 : decode cX7_choose 43 = .ok (.aload_n 0, 1) := by decide +kernel
theorem dX7_choose_44 : decode cX7_choose 44 = .ok (.iload_n 1, 1) := by decide +kernel
theorem dX7_choose_45 : decode cX7_choose 45 = .ok (.iconst 2, 1) := by decide +kernel
theorem dX7_choose_46 : decode cX7_choose 46 = .ok (.invokevirtual 239, 3) := by decide +kernel
theorem dX7_choose_49 : decode cX7_choose 49 = .ok (.if_icmp .le 6, 3) := by decide +kernel
theorem dX7_choose_52 : decode cX7_choose 52 = .ok (.goto 50, 3) := by decide +kernel
theorem dX7_choose_55 : decode cX7_choose 55 = .ok (.iconst 1, 1) := by decide +kernel
theorem dX7_choose_56 : decode cX7_choose 56 = .ok (.istore 4, 2) := by decide +kernel
theorem dX7_choose_58 : decode cX7_choose 58 = .ok (.aload_n 0, 1) := by decide +kernel
theorem dX7_choose_59 : decode cX7_choose 59 = .ok (.iload 5, 2) := by decide +kernel
theorem dX7_choose_61 : decode cX7_choose 61 = .ok (.aload_n 0, 1) := by decide +kernel
theorem dX7_choose_62 : decode cX7_choose 62 = .ok (.iload_n 1, 1) := by decide +kernel
theorem dX7_choose_63 : decode cX7_choose 63 = .ok (.iconst 1, 1) := by decide +kernel
theorem dX7_choose_64 : decode cX7_choose 64 = .ok (.invokevirtual 239, 3) := by decide +kernel
theorem dX7_choose_67 : decode cX7_choose 67 = .ok (.invokevirtual 223, 3) := by decide +kernel
theorem dX7_choose_70 : decode cX7_choose 70 = .ok (.istore 6, 2) := by decide +kernel
theorem dX7_choose_72 : decode cX7_choose 72 = .ok (.aload_n 0, 1) := by decide +kernel
theorem dX7_choose_73 : decode cX7_choose 73 = .ok (.iload 5, 2) := by decide +kernel
theorem dX7_choose_75 : decode cX7_choose 75 = .ok (.invokevirtual 258, 3) := by decide +kernel
theorem dX7_choose_78 : decode cX7_choose 78 = .ok (.iconst (-1), 1) := by decide +kernel
theorem dX7_choose_79 : decode cX7_choose 79 = .ok (.if_icmp .ne 23, 3) := by decide +kernel
theorem dX7_choose_82 : decode cX7_choose 82 = .ok (.iload_n 2, 1) := by decide +kernel
theorem dX7_choose_83 : decode cX7_choose 83 = .ok (.iconst (-1), 1) := by decide +kernel
theorem dX7_choose_84 : decode cX7_choose 84 = .ok (.if_icmp .eq 12, 3) := by decide +kernel
theorem dX7_choose_87 : decode cX7_choose 87 = .ok (.iload 6, 2) := by decide +kernel
theorem dX7_choose_89 : decode cX7_choose 89 = .ok (.iload_n 3, 1) := by decide +kernel
theorem dX7_choose_90 : decode cX7_choose 90 = .ok (.if_icmp .gt 6, 3) := by decide +kernel
theorem dX7_choose_93 : decode cX7_choose 93 = .ok (.goto 9, 3) := by decide +kernel
theorem dX7_choose_96 : decode cX7_choose 96 = .ok (.iload 5, 2) := by decide +kernel
theorem dX7_choose_98 : decode cX7_choose 98 = .ok (.istore_n 2, 1) := by decide +kernel
theorem dX7_choose_99 : decode cX7_choose 99 = .ok (.iload 6, 2) := by decide +kernel
theorem dX7_choose_101 : decode cX7_choose 101 = .ok (.istore_n 3, 1) := by decide +kernel
theorem dX7_choose_102 : decode cX7_choose 102 = .ok (.iinc 5 1, 3) := by decide +kernel
theorem dX7_choose_105 : decode cX7_choose 105 = .ok (.goto (-95), 3) := by decide +kernel
theorem dX7_choose_108 : decode cX7_choose 108 = .ok (.iload 4, 2) := by decide +kernel
theorem dX7_choose_110 : decode cX7_choose 110 = .ok (.ifCond .ne 10, 3) := by decide +kernel
theorem dX7_choose_113 : decode cX7_choose 113 = .ok (.aload_n 0, 1) := by decide +kernel
theorem dX7_choose_114 : decode cX7_choose 114 = .ok (.iload_n 1, 1) := by decide +kernel
theorem dX7_choose_115 : decode cX7_choose 115 = .ok (.iconst 3, 1) := by decide +kernel
theorem dX7_choose_116 : decode cX7_choose 116 = .ok (.iconst 3, 1) := by decide +kernel
theorem dX7_choose_117 : decode cX7_choose 117 = .ok (.invokevirtual 247, 3) := by decide +kernel
theorem dX7_choose_120 : decode cX7_choose 120 = .ok (.iload_n 2, 1) := by decide +kernel
theorem dX7_choose_121 : decode cX7_choose 121 = .ok (.iconst (-1), 1) := by decide +kernel
theorem dX7_choose_122 : decode cX7_choose 122 = .ok (.if_icmp .ne 4, 3) := by decide +kernel
theorem dX7_choose_125 : decode cX7_choose 125 = .ok (.return_, 1) := by decide +kernel
theorem dX7_choose_126 : decode cX7_choose 126 = .ok (.aload_n 0, 1) := by decide +kernel
theorem dX7_choose_127 : decode cX7_choose 127 = .ok (.iload_n 1, 1) := by decide +kernel
theorem dX7_choose_128 : decode cX7_choose 128 = .ok (.iconst 3, 1) := by decide +kernel
theorem dX7_choose_129 : decode cX7_choose 129 = .ok (.iconst 1, 1) := by decide +kernel
theorem dX7_choose_130 : decode cX7_choose 130 = .ok (.invokevirtual 247, 3) := by decide +kernel
theorem dX7_choose_133 : decode cX7_choose 133 = .ok (.aload_n 0, 1) := by decide +kernel
theorem dX7_choose_134 : decode cX7_choose 134 = .ok (.iload_n 1, 1) := by decide +kernel
theorem dX7_choose_135 : decode cX7_choose 135 = .ok (.iconst 4, 1) := by decide +kernel
theorem dX7_choose_136 : decode cX7_choose 136 = .ok (.iload_n 2, 1) := by decide +kernel
theorem dX7_choose_137 : decode cX7_choose 137 = .ok (.invokevirtual 247, 3) := by decide +kernel
theorem dX7_choose_140 : decode cX7_choose 140 = .ok (.aload_n 0, 1) := by decide +kernel
theorem dX7_choose_141 : decode cX7_choose 141 = .ok (.iload_n 1, 1) := by decide +kernel
theorem dX7_choose_142 : decode cX7_choose 142 = .ok (.iconst 5, 1) := by decide +kernel
theorem dX7_choose_143 : decode cX7_choose 143 = .ok (.aload_n 0, 1) := by decide +kernel
theorem dX7_choose_144 : decode cX7_choose 144 = .ok (.getfield 17, 3) := by decide +kernel
theorem dX7_choose_147 : decode cX7_choose 147 = .ok (.iconst 5, 1) := by decide +kernel
theorem dX7_choose_148 : decode cX7_choose 148 = .ok (.iaload, 1) := by decide +kernel
theorem dX7_choose_149 : decode cX7_choose 149 = .ok (.invokevirtual 247, 3) := by decide +kernel
theorem dX7_choose_152 : decode cX7_choose 152 = .ok (.return_, 1) := by decide +kernel
set_option maxRecDepth 20000 in
theorem ggX7_tick_X7_of : GoodIn wsX7_tick wsX7_of := goodIn_r _ [6, 1, 95, 96, 97, 98, 99, 100, 101, 102, 103, 104, 105, 106, 107, 108, 109, 110, 111, 112, 113] (by decide +kernel) (by decide +kernel)
set_option maxRecDepth 20000 in
theorem gX7_tick_X7_of : GoodIn wsX7_tick (wsV RX7 239 RX7 yX7_of wsX7_of) := goodIn_app (goodIn_of _ (by decide +kernel)) ggX7_tick_X7_of
set_option maxRecDepth 20000 in
theorem ggX7_tick_X7_look : GoodIn wsX7_tick wsX7_look := goodIn_r _ [10, 2, 3, 4, 5, 6, 1, 11, 12, 13, 14, 15, 16, 17, 18, 19, 20, 21, 22, 23, 24, 25, 26, 27, 28, 29, 30, 31, 32, 33, 34, 35, 36, 37, 38, 39, 40, 41, 42, 43, 44, 45, 46, 47, 48, 49, 50, 51, 52, 53, 54, 55, 56, 57, 58, 59, 60, 61, 62, 63, 64, 65, 66, 67, 68, 69, 70, 71, 72, 73, 74, 75, 76, 77, 78, 95, 96, 97, 98, 99, 100, 101, 102, 103, 104, 105, 106, 107, 108, 109, 110, 111, 112, 113] (by decide +kernel) (by decide +kernel)
set_option maxRecDepth 20000 in
theorem gX7_tick_X7_look : GoodIn wsX7_tick (wsV RX7 261 RX7 yX7_look wsX7_look) := goodIn_app (goodIn_of _ (by decide +kernel)) ggX7_tick_X7_look
set_option maxRecDepth 20000 in
theorem ggX7_tick_X7_choose : GoodIn wsX7_tick wsX7_choose := goodIn_r _ [82, 1, 83, 84, 85, 5, 86, 87, 88, 89, 90, 2, 3, 4, 6, 49, 50, 51, 52, 15, 16, 17, 18, 19, 20, 21, 22, 23, 24, 25, 26, 27, 28, 29, 30, 31, 32, 33, 34, 35, 36, 37, 38, 39, 40, 41, 42, 43, 44, 45, 46, 47, 48, 53, 54, 55, 56, 57, 58, 59, 60, 61, 62, 63, 64, 65, 66, 67, 68, 69, 70, 71, 72, 73, 74, 75, 76, 77, 78, 91, 92, 93, 94, 11, 12, 13, 14, 95, 96, 97, 98, 99, 100, 101, 102, 103, 104, 105, 106, 107, 108, 109, 110, 111, 112, 113] (by decide +kernel) (by decide +kernel)
set_option maxRecDepth 20000 in
theorem gX7_tick_X7_choose : GoodIn wsX7_tick (wsV RX7 264 RX7 yX7_choose wsX7_choose) := goodIn_app (goodIn_of _ (by decide +kernel)) ggX7_tick_X7_choose
theorem dX7_tick_0 : decode cX7_tick 0 = .ok (.iconst 0, 1) := by decide +kernel
theorem dX7_tick_1 : decode cX7_tick 1 = .ok (.istore_n 1, 1) := by decide +kernel
theorem dX7_tick_2 : decode cX7_tick 2 = .ok (.iload_n 1, 1) := by decide +kernel
theorem dX7_tick_3 : decode cX7_tick 3 = .ok (.aload_n 0, 1) := by decide +kernel
theorem dX7_tick_4 : decode cX7_tick 4 = .ok (.getfield 17, 3) := by decide +kernel
theorem dX7_tick_7 : decode cX7_tick 7 = .ok (.bipush 7, 2) := by decide +kernel
theorem dX7_tick_9 : decode cX7_tick 9 = .ok (.iaload, 1) := by decide +kernel
theorem dX7_tick_10 : decode cX7_tick 10 = .ok (.if_icmp .ge 24, 3) := by decide +kernel
theorem dX7_tick_13 : decode cX7_tick 13 = .ok (.aload_n 0, 1) := by decide +kernel
theorem dX7_tick_14 : decode cX7_tick 14 = .ok (.iload_n 1, 1) := by decide +kernel
theorem dX7_tick_15 : decode cX7_tick 15 = .ok (.iconst 3, 1) := by decide +kernel
theorem dX7_tick_16 : decode cX7_tick 16 = .ok (.invokevirtual 239, 3) := by decide +kernel
theorem dX7_tick_19 : decode cX7_tick 19 = .ok (.iconst 1, 1) := by decide +kernel
theorem dX7_tick_20 : decode cX7_tick 20 = .ok (.if_icmp .ne 8, 3) := by decide +kernel
theorem dX7_tick_23 : decode cX7_tick 23 = .ok (.aload_n 0, 1) := by decide +kernel
theorem dX7_tick_24 : decode cX7_tick 24 = .ok (.iload_n 1, 1) := by decide +kernel
theorem dX7_tick_25 : decode cX7_tick 25 = .ok (.invokevirtual 261, 3) := by decide +kernel
theorem dX7_tick_28 : decode cX7_tick 28 = .ok (.iinc 1 1, 3) := by decide +kernel
theorem dX7_tick_31 : decode cX7_tick 31 = .ok (.goto (-29), 3) := by decide +kernel
theorem dX7_tick_34 : decode cX7_tick 34 = .ok (.iconst 0, 1) := by decide +kernel
theorem dX7_tick_35 : decode cX7_tick 35 = .ok (.istore_n 1, 1) := by decide +kernel
theorem dX7_tick_36 : decode cX7_tick 36 = .ok (.iload_n 1, 1) := by decide +kernel
theorem dX7_tick_37 : decode cX7_tick 37 = .ok (.aload_n 0, 1) := by decide +kernel
theorem dX7_tick_38 : decode cX7_tick 38 = .ok (.getfield 17, 3) := by decide +kernel
theorem dX7_tick_41 : decode cX7_tick 41 = .ok (.bipush 7, 2) := by decide +kernel
theorem dX7_tick_43 : decode cX7_tick 43 = .ok (.iaload, 1) := by decide +kernel
theorem dX7_tick_44 : decode cX7_tick 44 = .ok (.if_icmp .ge 23, 3) := by decide +kernel
theorem dX7_tick_47 : decode cX7_tick 47 = .ok (.aload_n 0, 1) := by decide +kernel
theorem dX7_tick_48 : decode cX7_tick 48 = .ok (.iload_n 1, 1) := by decide +kernel
theorem dX7_tick_49 : decode cX7_tick 49 = .ok (.iconst 3, 1) := by decide +kernel
theorem dX7_tick_50 : decode cX7_tick 50 = .ok (.invokevirtual 239, 3) := by decide +kernel
theorem dX7_tick_53 : decode cX7_tick 53 = .ok (.ifCond .ne 8, 3) := by decide +kernel
theorem dX7_tick_56 : decode cX7_tick 56 = .ok (.aload_n 0, 1) := by decide +kernel
theorem dX7_tick_57 : decode cX7_tick 57 = .ok (.iload_n 1, 1) := by decide +kernel
theorem dX7_tick_58 : decode cX7_tick 58 = .ok (.invokevirtual 264, 3) := by decide +kernel
theorem dX7_tick_61 : decode cX7_tick 61 = .ok (.iinc 1 1, 3) := by decide +kernel
theorem dX7_tick_64 : decode cX7_tick 64 = .ok (.goto (-28), 3) := by decide +kernel
theorem dX7_tick_67 : decode cX7_tick 67 = .ok (.aload_n 0, 1) := by decide +kernel
theorem dX7_tick_68 : decode cX7_tick 68 = .ok (.getfield 17, 3) := by decide +kernel
theorem dX7_tick_71 : decode cX7_tick 71 = .ok (.bipush 6, 2) := by decide +kernel
theorem dX7_tick_73 : decode cX7_tick 73 = .ok (.dup2, 1) := by decide +kernel
theorem dX7_tick_74 : decode cX7_tick 74 = .ok (.iaload, 1) := by decide +kernel
theorem dX7_tick_75 : decode cX7_tick 75 = .ok (.iconst 1, 1) := by decide +kernel
theorem dX7_tick_76 : decode cX7_tick 76 = .ok (.iadd, 1) := by decide +kernel
theorem dX7_tick_77 : decode cX7_tick 77 = .ok (.iastore, 1) := by decide +kernel
theorem dX7_tick_78 : decode cX7_tick 78 = .ok (.return_, 1) := by decide +kernel
set_option maxRecDepth 20000 in
theorem ggX7_freeHoles_X7_lookerAt : GoodIn wsX7_freeHoles wsX7_lookerAt := goodIn_r _ [6, 1, 7, 8, 9, 5, 10, 11, 12, 13, 14, 15, 16, 17, 18, 19, 20, 21, 22, 23, 24, 25, 26, 27, 28, 29] (by decide +kernel) (by decide +kernel)
set_option maxRecDepth 20000 in
theorem gX7_freeHoles_X7_lookerAt : GoodIn wsX7_freeHoles (wsV RX7 258 RX7 yX7_lookerAt wsX7_lookerAt) := goodIn_app (goodIn_of _ (by decide +kernel)) ggX7_freeHoles_X7_lookerAt
theorem dX7_freeHoles_0 : decode cX7_freeHoles 0 = .ok (.iconst 0, 1) := by decide +kernel
theorem dX7_freeHoles_1 : decode cX7_freeHoles 1 = .ok (.istore_n 1, 1) := by decide +kernel
theorem dX7_freeHoles_2 : decode cX7_freeHoles 2 = .ok (.iconst 0, 1) := by decide +kernel
theorem dX7_freeHoles_3 : decode cX7_freeHoles 3 = .ok (.istore_n 2, 1) := by decide +kernel
theorem dX7_freeHoles_4 : decode cX7_freeHoles 4 = .ok (.iload_n 2, 1) := by decide +kernel
theorem dX7_freeHoles_5 : decode cX7_freeHoles 5 = .ok (.aload_n 0, 1) := by decide +kernel
theorem dX7_freeHoles_6 : decode cX7_freeHoles 6 = .ok (.getfield 17, 3) := by decide +kernel
theorem dX7_freeHoles_9 : decode cX7_freeHoles 9 = .ok (.iconst 3, 1) := by decide +kernel
theorem dX7_freeHoles_10 : decode cX7_freeHoles 10 = .ok (.iaload, 1) := by decide +kernel
theorem dX7_freeHoles_11 : decode cX7_freeHoles 11 = .ok (.if_icmp .ge 26, 3) := by decide +kernel
theorem dX7_freeHoles_14 : decode cX7_freeHoles 14 = .ok (.iload_n 1, 1) := by decide +kernel
theorem dX7_freeHoles_15 : decode cX7_freeHoles 15 = .ok (.aload_n 0, 1) := by decide +kernel
theorem dX7_freeHoles_16 : decode cX7_freeHoles 16 = .ok (.iload_n 2, 1) := by decide +kernel
theorem dX7_freeHoles_17 : decode cX7_freeHoles 17 = .ok (.invokevirtual 258, 3) := by decide +kernel
theorem dX7_freeHoles_20 : decode cX7_freeHoles 20 = .ok (.iconst (-1), 1) := by decide +kernel
theorem dX7_freeHoles_21 : decode cX7_freeHoles 21 = .ok (.if_icmp .ne 7, 3) := by decide +kernel
theorem dX7_freeHoles_24 : decode cX7_freeHoles 24 = .ok (.iconst 1, 1) := by decide +kernel
theorem dX7_freeHoles_25 : decode cX7_freeHoles 25 = .ok (.goto 4, 3) := by decide +kernel
theorem dX7_freeHoles_28 : decode cX7_freeHoles 28 = .ok (.iconst 0, 1) := by decide +kernel
theorem dX7_freeHoles_29 : decode cX7_freeHoles 29 = .ok (.iadd, 1) := by decide +kernel
theorem dX7_freeHoles_30 : decode cX7_freeHoles 30 = .ok (.istore_n 1, 1) := by decide +kernel
theorem dX7_freeHoles_31 : decode cX7_freeHoles 31 = .ok (.iinc 2 1, 3) := by decide +kernel
theorem dX7_freeHoles_34 : decode cX7_freeHoles 34 = .ok (.goto (-30), 3) := by decide +kernel
theorem dX7_freeHoles_37 : decode cX7_freeHoles 37 = .ok (.iload_n 1, 1) := by decide +kernel
theorem dX7_freeHoles_38 : decode cX7_freeHoles 38 = .ok (.ireturn, 1) := by decide +kernel
set_option maxRecDepth 20000 in
theorem ggX7_told_X7_inState : GoodIn wsX7_told wsX7_inState := goodIn_r _ [6, 1, 7, 8, 9, 5, 10, 23, 24, 25, 26, 27, 28, 29, 30, 31, 32, 33, 34, 35, 36, 37, 38, 39, 40, 41] (by decide +kernel) (by decide +kernel)
set_option maxRecDepth 20000 in
theorem gX7_told_X7_inState : GoodIn wsX7_told (wsV RX7 267 RX7 yX7_inState wsX7_inState) := goodIn_app (goodIn_of _ (by decide +kernel)) ggX7_told_X7_inState
set_option maxRecDepth 20000 in
theorem ggX7_told_X7_paidInAll : GoodIn wsX7_told wsX7_paidInAll := goodIn_r _ [14, 1, 7, 8, 9, 5, 10, 23, 24, 25, 26, 27, 28, 29, 30, 31, 32, 33, 34, 35, 36, 37, 38, 39, 40, 41] (by decide +kernel) (by decide +kernel)
set_option maxRecDepth 20000 in
theorem gX7_told_X7_paidInAll : GoodIn wsX7_told (wsV RX7 270 RX7 yX7_paidInAll wsX7_paidInAll) := goodIn_app (goodIn_of _ (by decide +kernel)) ggX7_told_X7_paidInAll
set_option maxRecDepth 20000 in
theorem ggX7_told_X7_freeHoles : GoodIn wsX7_told wsX7_freeHoles := goodIn_r _ [18, 1, 19, 20, 21, 5, 22, 7, 8, 9, 10, 23, 24, 25, 26, 27, 28, 29, 30, 31, 32, 33, 34, 35, 36, 37, 38, 39, 40, 41] (by decide +kernel) (by decide +kernel)
set_option maxRecDepth 20000 in
theorem gX7_told_X7_freeHoles : GoodIn wsX7_told (wsV RX7 273 RX7 yX7_freeHoles wsX7_freeHoles) := goodIn_app (goodIn_of _ (by decide +kernel)) ggX7_told_X7_freeHoles
theorem dX7_told_0 : decode cX7_told 0 = .ok (.iload_n 1, 1) := by decide +kernel
theorem dX7_told_1 : decode cX7_told 1 = .ok (.tableswitch 58 8 13 #[39, 39, 39, 39, 48, 53], 39) := by decide +kernel
theorem dX7_told_40 : decode cX7_told 40 = .ok (.aload_n 0, 1) := by decide +kernel
theorem dX7_told_41 : decode cX7_told 41 = .ok (.iload_n 1, 1) := by decide +kernel
theorem dX7_told_42 : decode cX7_told 42 = .ok (.bipush 8, 2) := by decide +kernel
theorem dX7_told_44 : decode cX7_told 44 = .ok (.isub, 1) := by decide +kernel
theorem dX7_told_45 : decode cX7_told 45 = .ok (.invokevirtual 267, 3) := by decide +kernel
theorem dX7_told_48 : decode cX7_told 48 = .ok (.ireturn, 1) := by decide +kernel
theorem dX7_told_49 : decode cX7_told 49 = .ok (.aload_n 0, 1) := by decide +kernel
theorem dX7_told_50 : decode cX7_told 50 = .ok (.invokevirtual 270, 3) := by decide +kernel
theorem dX7_told_53 : decode cX7_told 53 = .ok (.ireturn, 1) := by decide +kernel
theorem dX7_told_54 : decode cX7_told 54 = .ok (.aload_n 0, 1) := by decide +kernel
theorem dX7_told_55 : decode cX7_told 55 = .ok (.invokevirtual 273, 3) := by decide +kernel
theorem dX7_told_58 : decode cX7_told 58 = .ok (.ireturn, 1) := by decide +kernel
theorem dX7_told_59 : decode cX7_told 59 = .ok (.aload_n 0, 1) := by decide +kernel
theorem dX7_told_60 : decode cX7_told 60 = .ok (.getfield 17, 3) := by decide +kernel
theorem dX7_told_63 : decode cX7_told 63 = .ok (.iload_n 1, 1) := by decide +kernel
theorem dX7_told_64 : decode cX7_told 64 = .ok (.iaload, 1) := by decide +kernel
theorem dX7_told_65 : decode cX7_told 65 = .ok (.ireturn, 1) := by decide +kernel
set_option maxRecDepth 20000 in
theorem ggX7_state_X7_in : GoodIn wsX7_state wsX7_in := goodIn_r _ [5] (by decide +kernel) (by decide +kernel)
set_option maxRecDepth 20000 in
theorem gX7_state_X7_in : GoodIn wsX7_state (va_wsS RX7 64 yX7_in wsX7_in) := goodIn_app (goodIn_of _ (by decide +kernel)) ggX7_state_X7_in
set_option maxRecDepth 20000 in
theorem ggX7_state_X7_fails : GoodIn wsX7_state wsX7_fails := goodIn_r _ [9, 1, 35, 36, 37, 38, 39, 40, 41, 42, 43, 44, 45, 46, 47, 48, 49, 50, 51, 52, 53] (by decide +kernel) (by decide +kernel)
set_option maxRecDepth 20000 in
theorem gX7_state_X7_fails : GoodIn wsX7_state (wsV RX7 174 RX7 yX7_fails wsX7_fails) := goodIn_app (goodIn_of _ (by decide +kernel)) ggX7_state_X7_fails
set_option maxRecDepth 20000 in
theorem ggX7_state_X7_told : GoodIn wsX7_state wsX7_told := goodIn_r _ [13, 14, 15, 16, 17, 4, 18, 19, 20, 21, 22, 23, 24, 25, 26, 27, 28, 29, 30, 31, 32, 33, 34, 35, 36, 37, 38, 39, 40, 41, 42, 43, 44, 45, 46, 47, 48, 49, 50, 51, 52, 53] (by decide +kernel) (by decide +kernel)
set_option maxRecDepth 20000 in
theorem gX7_state_X7_told : GoodIn wsX7_state (wsV RX7 276 RX7 yX7_told wsX7_told) := goodIn_app (goodIn_of _ (by decide +kernel)) ggX7_state_X7_told
theorem dX7_state_0 : decode cX7_state 0 = .ok (.aload_n 0, 1) := by decide +kernel
theorem dX7_state_1 : decode cX7_state 1 = .ok (.iconst 0, 1) := by decide +kernel
theorem dX7_state_2 : decode cX7_state 2 = .ok (.putfield 42, 3) := by decide +kernel
theorem dX7_state_5 : decode cX7_state 5 = .ok (.aload_n 0, 1) := by decide +kernel
theorem dX7_state_6 : decode cX7_state 6 = .ok (.iload_n 1, 1) := by decide +kernel
theorem dX7_state_7 : decode cX7_state 7 = .ok (.iconst 0, 1) := by decide +kernel
theorem dX7_state_8 : decode cX7_state 8 = .ok (.bipush 13, 2) := by decide +kernel
theorem dX7_state_10 : decode cX7_state 10 = .ok (.invokestatic 64, 3) := by decide +kernel
theorem dX7_state_13 : decode cX7_state 13 = .ok (.ifCond .ne 7, 3) := by decide +kernel
theorem dX7_state_16 : decode cX7_state 16 = .ok (.iconst 1, 1) := by decide +kernel
theorem dX7_state_17 : decode cX7_state 17 = .ok (.goto 4, 3) := by decide +kernel
theorem dX7_state_20 : decode cX7_state 20 = .ok (.iconst 0, 1) := by decide +kernel
theorem dX7_state_21 : decode cX7_state 21 = .ok (.iconst 1, 1) := by decide +kernel
theorem dX7_state_22 : decode cX7_state 22 = .ok (.invokevirtual 174, 3) := by decide +kernel
theorem dX7_state_25 : decode cX7_state 25 = .ok (.ifCond .eq 7, 3) := by decide +kernel
theorem dX7_state_28 : decode cX7_state 28 = .ok (.iconst 0, 1) := by decide +kernel
theorem dX7_state_29 : decode cX7_state 29 = .ok (.goto 8, 3) := by decide +kernel
theorem dX7_state_32 : decode cX7_state 32 = .ok (.aload_n 0, 1) := by decide +kernel
theorem dX7_state_33 : decode cX7_state 33 = .ok (.iload_n 1, 1) := by decide +kernel
theorem dX7_state_34 : decode cX7_state 34 = .ok (.invokevirtual 276, 3) := by decide +kernel
theorem dX7_state_37 : decode cX7_state 37 = .ok (.ireturn, 1) := by decide +kernel
set_option maxRecDepth 20000 in
theorem ggX7_noPlane_X7_in : GoodIn wsX7_noPlane wsX7_in := goodIn_r _ [5] (by decide +kernel) (by decide +kernel)
set_option maxRecDepth 20000 in
theorem gX7_noPlane_X7_in : GoodIn wsX7_noPlane (va_wsS RX7 64 yX7_in wsX7_in) := goodIn_app (goodIn_of _ (by decide +kernel)) ggX7_noPlane_X7_in
set_option maxRecDepth 20000 in
theorem ggX7_noPlane_X7_fails : GoodIn wsX7_noPlane wsX7_fails := goodIn_r _ [9, 10, 11, 12, 13, 14, 15, 16, 17, 18, 19, 20, 21, 22, 23, 24, 25, 26, 27, 28, 29] (by decide +kernel) (by decide +kernel)
set_option maxRecDepth 20000 in
theorem gX7_noPlane_X7_fails : GoodIn wsX7_noPlane (wsV RX7 174 RX7 yX7_fails wsX7_fails) := goodIn_app (goodIn_of _ (by decide +kernel)) ggX7_noPlane_X7_fails
theorem dX7_noPlane_0 : decode cX7_noPlane 0 = .ok (.aload_n 0, 1) := by decide +kernel
theorem dX7_noPlane_1 : decode cX7_noPlane 1 = .ok (.iload_n 1, 1) := by decide +kernel
theorem dX7_noPlane_2 : decode cX7_noPlane 2 = .ok (.iconst 0, 1) := by decide +kernel
theorem dX7_noPlane_3 : decode cX7_noPlane 3 = .ok (.aload_n 0, 1) := by decide +kernel
theorem dX7_noPlane_4 : decode cX7_noPlane 4 = .ok (.getfield 17, 3) := by decide +kernel
theorem dX7_noPlane_7 : decode cX7_noPlane 7 = .ok (.iconst 2, 1) := by decide +kernel
theorem dX7_noPlane_8 : decode cX7_noPlane 8 = .ok (.iaload, 1) := by decide +kernel
theorem dX7_noPlane_9 : decode cX7_noPlane 9 = .ok (.iconst 1, 1) := by decide +kernel
theorem dX7_noPlane_10 : decode cX7_noPlane 10 = .ok (.isub, 1) := by decide +kernel
theorem dX7_noPlane_11 : decode cX7_noPlane 11 = .ok (.invokestatic 64, 3) := by decide +kernel
theorem dX7_noPlane_14 : decode cX7_noPlane 14 = .ok (.ifCond .ne 7, 3) := by decide +kernel
theorem dX7_noPlane_17 : decode cX7_noPlane 17 = .ok (.iconst 1, 1) := by decide +kernel
theorem dX7_noPlane_18 : decode cX7_noPlane 18 = .ok (.goto 4, 3) := by decide +kernel
theorem dX7_noPlane_21 : decode cX7_noPlane 21 = .ok (.iconst 0, 1) := by decide +kernel
theorem dX7_noPlane_22 : decode cX7_noPlane 22 = .ok (.iconst 1, 1) := by decide +kernel
theorem dX7_noPlane_23 : decode cX7_noPlane 23 = .ok (.invokevirtual 174, 3) := by decide +kernel
theorem dX7_noPlane_26 : decode cX7_noPlane 26 = .ok (.ireturn, 1) := by decide +kernel
set_option maxRecDepth 20000 in
theorem ggX7_noCell_X7_in : GoodIn wsX7_noCell wsX7_in := goodIn_r _ [5] (by decide +kernel) (by decide +kernel)
set_option maxRecDepth 20000 in
theorem gX7_noCell_X7_in : GoodIn wsX7_noCell (va_wsS RX7 64 yX7_in wsX7_in) := goodIn_app (goodIn_of _ (by decide +kernel)) ggX7_noCell_X7_in
set_option maxRecDepth 20000 in
theorem ggX7_noCell_X7_fails : GoodIn wsX7_noCell wsX7_fails := goodIn_r _ [9, 10, 11, 12, 13, 14, 15, 16, 17, 18, 19, 20, 21, 22, 23, 24, 25, 26, 27, 28, 29] (by decide +kernel) (by decide +kernel)
set_option maxRecDepth 20000 in
theorem gX7_noCell_X7_fails : GoodIn wsX7_noCell (wsV RX7 174 RX7 yX7_fails wsX7_fails) := goodIn_app (goodIn_of _ (by decide +kernel)) ggX7_noCell_X7_fails
theorem dX7_noCell_0 : decode cX7_noCell 0 = .ok (.aload_n 0, 1) := by decide +kernel
theorem dX7_noCell_1 : decode cX7_noCell 1 = .ok (.iload_n 1, 1) := by decide +kernel
theorem dX7_noCell_2 : decode cX7_noCell 2 = .ok (.iconst 0, 1) := by decide +kernel
theorem dX7_noCell_3 : decode cX7_noCell 3 = .ok (.aload_n 0, 1) := by decide +kernel
theorem dX7_noCell_4 : decode cX7_noCell 4 = .ok (.getfield 17, 3) := by decide +kernel
theorem dX7_noCell_7 : decode cX7_noCell 7 = .ok (.iconst 0, 1) := by decide +kernel
theorem dX7_noCell_8 : decode cX7_noCell 8 = .ok (.iaload, 1) := by decide +kernel
theorem dX7_noCell_9 : decode cX7_noCell 9 = .ok (.iconst 1, 1) := by decide +kernel
theorem dX7_noCell_10 : decode cX7_noCell 10 = .ok (.isub, 1) := by decide +kernel
theorem dX7_noCell_11 : decode cX7_noCell 11 = .ok (.invokestatic 64, 3) := by decide +kernel
theorem dX7_noCell_14 : decode cX7_noCell 14 = .ok (.ifCond .eq 19, 3) := by decide +kernel
theorem dX7_noCell_17 : decode cX7_noCell 17 = .ok (.iload_n 2, 1) := by decide +kernel
theorem dX7_noCell_18 : decode cX7_noCell 18 = .ok (.iconst 0, 1) := by decide +kernel
theorem dX7_noCell_19 : decode cX7_noCell 19 = .ok (.aload_n 0, 1) := by decide +kernel
theorem dX7_noCell_20 : decode cX7_noCell 20 = .ok (.getfield 17, 3) := by decide +kernel
theorem dX7_noCell_23 : decode cX7_noCell 23 = .ok (.iconst 1, 1) := by decide +kernel
theorem dX7_noCell_24 : decode cX7_noCell 24 = .ok (.iaload, 1) := by decide +kernel
theorem dX7_noCell_25 : decode cX7_noCell 25 = .ok (.iconst 1, 1) := by decide +kernel
theorem dX7_noCell_26 : decode cX7_noCell 26 = .ok (.isub, 1) := by decide +kernel
theorem dX7_noCell_27 : decode cX7_noCell 27 = .ok (.invokestatic 64, 3) := by decide +kernel
theorem dX7_noCell_30 : decode cX7_noCell 30 = .ok (.ifCond .ne 7, 3) := by decide +kernel
theorem dX7_noCell_33 : decode cX7_noCell 33 = .ok (.iconst 1, 1) := by decide +kernel
theorem dX7_noCell_34 : decode cX7_noCell 34 = .ok (.goto 4, 3) := by decide +kernel
theorem dX7_noCell_37 : decode cX7_noCell 37 = .ok (.iconst 0, 1) := by decide +kernel
theorem dX7_noCell_38 : decode cX7_noCell 38 = .ok (.iconst 1, 1) := by decide +kernel
theorem dX7_noCell_39 : decode cX7_noCell 39 = .ok (.invokevirtual 174, 3) := by decide +kernel
theorem dX7_noCell_42 : decode cX7_noCell 42 = .ok (.ireturn, 1) := by decide +kernel
set_option maxRecDepth 20000 in
theorem ggX7_noHole_X7_in : GoodIn wsX7_noHole wsX7_in := goodIn_r _ [5] (by decide +kernel) (by decide +kernel)
set_option maxRecDepth 20000 in
theorem gX7_noHole_X7_in : GoodIn wsX7_noHole (va_wsS RX7 64 yX7_in wsX7_in) := goodIn_app (goodIn_of _ (by decide +kernel)) ggX7_noHole_X7_in
set_option maxRecDepth 20000 in
theorem ggX7_noHole_X7_fails : GoodIn wsX7_noHole wsX7_fails := goodIn_r _ [9, 10, 11, 12, 13, 14, 15, 16, 17, 18, 19, 20, 21, 22, 23, 24, 25, 26, 27, 28, 29] (by decide +kernel) (by decide +kernel)
set_option maxRecDepth 20000 in
theorem gX7_noHole_X7_fails : GoodIn wsX7_noHole (wsV RX7 174 RX7 yX7_fails wsX7_fails) := goodIn_app (goodIn_of _ (by decide +kernel)) ggX7_noHole_X7_fails
theorem dX7_noHole_0 : decode cX7_noHole 0 = .ok (.aload_n 0, 1) := by decide +kernel
theorem dX7_noHole_1 : decode cX7_noHole 1 = .ok (.iload_n 1, 1) := by decide +kernel
theorem dX7_noHole_2 : decode cX7_noHole 2 = .ok (.iconst 0, 1) := by decide +kernel
theorem dX7_noHole_3 : decode cX7_noHole 3 = .ok (.aload_n 0, 1) := by decide +kernel
theorem dX7_noHole_4 : decode cX7_noHole 4 = .ok (.getfield 17, 3) := by decide +kernel
theorem dX7_noHole_7 : decode cX7_noHole 7 = .ok (.iconst 3, 1) := by decide +kernel
theorem dX7_noHole_8 : decode cX7_noHole 8 = .ok (.iaload, 1) := by decide +kernel
theorem dX7_noHole_9 : decode cX7_noHole 9 = .ok (.iconst 1, 1) := by decide +kernel
theorem dX7_noHole_10 : decode cX7_noHole 10 = .ok (.isub, 1) := by decide +kernel
theorem dX7_noHole_11 : decode cX7_noHole 11 = .ok (.invokestatic 64, 3) := by decide +kernel
theorem dX7_noHole_14 : decode cX7_noHole 14 = .ok (.ifCond .ne 7, 3) := by decide +kernel
theorem dX7_noHole_17 : decode cX7_noHole 17 = .ok (.iconst 1, 1) := by decide +kernel
theorem dX7_noHole_18 : decode cX7_noHole 18 = .ok (.goto 4, 3) := by decide +kernel
theorem dX7_noHole_21 : decode cX7_noHole 21 = .ok (.iconst 0, 1) := by decide +kernel
theorem dX7_noHole_22 : decode cX7_noHole 22 = .ok (.iconst 1, 1) := by decide +kernel
theorem dX7_noHole_23 : decode cX7_noHole 23 = .ok (.invokevirtual 174, 3) := by decide +kernel
theorem dX7_noHole_26 : decode cX7_noHole 26 = .ok (.ireturn, 1) := by decide +kernel
set_option maxRecDepth 20000 in
theorem ggX7_noViewer_X7_in : GoodIn wsX7_noViewer wsX7_in := goodIn_r _ [5] (by decide +kernel) (by decide +kernel)
set_option maxRecDepth 20000 in
theorem gX7_noViewer_X7_in : GoodIn wsX7_noViewer (va_wsS RX7 64 yX7_in wsX7_in) := goodIn_app (goodIn_of _ (by decide +kernel)) ggX7_noViewer_X7_in
set_option maxRecDepth 20000 in
theorem ggX7_noViewer_X7_fails : GoodIn wsX7_noViewer wsX7_fails := goodIn_r _ [9, 10, 11, 12, 13, 14, 15, 16, 17, 18, 19, 20, 21, 22, 23, 24, 25, 26, 27, 28, 29] (by decide +kernel) (by decide +kernel)
set_option maxRecDepth 20000 in
theorem gX7_noViewer_X7_fails : GoodIn wsX7_noViewer (wsV RX7 174 RX7 yX7_fails wsX7_fails) := goodIn_app (goodIn_of _ (by decide +kernel)) ggX7_noViewer_X7_fails
theorem dX7_noViewer_0 : decode cX7_noViewer 0 = .ok (.aload_n 0, 1) := by decide +kernel
theorem dX7_noViewer_1 : decode cX7_noViewer 1 = .ok (.iload_n 1, 1) := by decide +kernel
theorem dX7_noViewer_2 : decode cX7_noViewer 2 = .ok (.iconst 0, 1) := by decide +kernel
theorem dX7_noViewer_3 : decode cX7_noViewer 3 = .ok (.aload_n 0, 1) := by decide +kernel
theorem dX7_noViewer_4 : decode cX7_noViewer 4 = .ok (.getfield 17, 3) := by decide +kernel
theorem dX7_noViewer_7 : decode cX7_noViewer 7 = .ok (.bipush 7, 2) := by decide +kernel
theorem dX7_noViewer_9 : decode cX7_noViewer 9 = .ok (.iaload, 1) := by decide +kernel
theorem dX7_noViewer_10 : decode cX7_noViewer 10 = .ok (.iconst 1, 1) := by decide +kernel
theorem dX7_noViewer_11 : decode cX7_noViewer 11 = .ok (.isub, 1) := by decide +kernel
theorem dX7_noViewer_12 : decode cX7_noViewer 12 = .ok (.invokestatic 64, 3) := by decide +kernel
theorem dX7_noViewer_15 : decode cX7_noViewer 15 = .ok (.ifCond .ne 7, 3) := by decide +kernel
theorem dX7_noViewer_18 : decode cX7_noViewer 18 = .ok (.iconst 1, 1) := by decide +kernel
theorem dX7_noViewer_19 : decode cX7_noViewer 19 = .ok (.goto 4, 3) := by decide +kernel
theorem dX7_noViewer_22 : decode cX7_noViewer 22 = .ok (.iconst 0, 1) := by decide +kernel
theorem dX7_noViewer_23 : decode cX7_noViewer 23 = .ok (.iconst 1, 1) := by decide +kernel
theorem dX7_noViewer_24 : decode cX7_noViewer 24 = .ok (.invokevirtual 174, 3) := by decide +kernel
theorem dX7_noViewer_27 : decode cX7_noViewer 27 = .ok (.ireturn, 1) := by decide +kernel
set_option maxRecDepth 20000 in
theorem ggX7_stands_X7_noPlane : GoodIn wsX7_stands wsX7_noPlane := goodIn_r _ [6, 7, 8, 9, 5, 10, 11, 12, 13, 14, 1, 23, 24, 25, 26, 27, 28, 29, 30, 31, 32, 33, 34, 35, 36, 37, 38, 39, 40, 41] (by decide +kernel) (by decide +kernel)
set_option maxRecDepth 20000 in
theorem gX7_stands_X7_noPlane : GoodIn wsX7_stands (wsV RX7 279 RX7 yX7_noPlane wsX7_noPlane) := goodIn_app (goodIn_of _ (by decide +kernel)) ggX7_stands_X7_noPlane
set_option maxRecDepth 20000 in
theorem ggX7_stands_X7_noCell : GoodIn wsX7_stands wsX7_noCell := goodIn_r _ [18, 7, 8, 9, 5, 10, 11, 12, 13, 14, 1, 23, 24, 25, 26, 27, 28, 29, 30, 31, 32, 33, 34, 35, 36, 37, 38, 39, 40, 41] (by decide +kernel) (by decide +kernel)
set_option maxRecDepth 20000 in
theorem gX7_stands_X7_noCell : GoodIn wsX7_stands (wsV RX7 282 RX7 yX7_noCell wsX7_noCell) := goodIn_app (goodIn_of _ (by decide +kernel)) ggX7_stands_X7_noCell
set_option maxRecDepth 20000 in
theorem ggX7_stands_X7_kindAt : GoodIn wsX7_stands wsX7_kindAt := goodIn_r _ [22, 7, 23, 24, 25, 26, 27, 28, 29, 30, 31, 32, 33, 34, 35, 36, 37, 38, 39, 40, 41] (by decide +kernel) (by decide +kernel)
set_option maxRecDepth 20000 in
theorem gX7_stands_X7_kindAt : GoodIn wsX7_stands (wsV RX7 203 RX7 yX7_kindAt wsX7_kindAt) := goodIn_app (goodIn_of _ (by decide +kernel)) ggX7_stands_X7_kindAt
theorem dX7_stands_0 : decode cX7_stands 0 = .ok (.aload_n 0, 1) := by decide +kernel
theorem dX7_stands_1 : decode cX7_stands 1 = .ok (.iconst 0, 1) := by decide +kernel
theorem dX7_stands_2 : decode cX7_stands 2 = .ok (.putfield 42, 3) := by decide +kernel
theorem dX7_stands_5 : decode cX7_stands 5 = .ok (.aload_n 0, 1) := by decide +kernel
theorem dX7_stands_6 : decode cX7_stands 6 = .ok (.iload_n 1, 1) := by decide +kernel
theorem dX7_stands_7 : decode cX7_stands 7 = .ok (.invokevirtual 279, 3) := by decide +kernel
theorem dX7_stands_10 : decode cX7_stands 10 = .ok (.ifCond .ne 12, 3) := by decide +kernel
theorem dX7_stands_13 : decode cX7_stands 13 = .ok (.aload_n 0, 1) := by decide +kernel
theorem dX7_stands_14 : decode cX7_stands 14 = .ok (.iload_n 2, 1) := by decide +kernel
theorem dX7_stands_15 : decode cX7_stands 15 = .ok (.iload_n 3, 1) := by decide +kernel
theorem dX7_stands_16 : decode cX7_stands 16 = .ok (.invokevirtual 282, 3) := by decide +kernel
theorem dX7_stands_19 : decode cX7_stands 19 = .ok (.ifCond .eq 7, 3) := by decide +kernel
theorem dX7_stands_22 : decode cX7_stands 22 = .ok (.iconst 0, 1) := by decide +kernel
theorem dX7_stands_23 : decode cX7_stands 23 = .ok (.goto 10, 3) := by decide +kernel
theorem dX7_stands_26 : decode cX7_stands 26 = .ok (.aload_n 0, 1) := by decide +kernel
theorem dX7_stands_27 : decode cX7_stands 27 = .ok (.iload_n 1, 1) := by decide +kernel
theorem dX7_stands_28 : decode cX7_stands 28 = .ok (.iload_n 2, 1) := by decide +kernel
theorem dX7_stands_29 : decode cX7_stands 29 = .ok (.iload_n 3, 1) := by decide +kernel
theorem dX7_stands_30 : decode cX7_stands 30 = .ok (.invokevirtual 203, 3) := by decide +kernel
theorem dX7_stands_33 : decode cX7_stands 33 = .ok (.ireturn, 1) := by decide +kernel
set_option maxRecDepth 20000 in
theorem ggX7_toldPlane_X7_cells : GoodIn wsX7_toldPlane wsX7_cells := goodIn_r _ [6, 1, 31, 32, 33, 34, 35, 36, 37, 38, 39, 40, 41, 42, 43, 44, 45, 46, 47, 48, 49] (by decide +kernel) (by decide +kernel)
set_option maxRecDepth 20000 in
theorem gX7_toldPlane_X7_cells : GoodIn wsX7_toldPlane (wsV RX7 209 RX7 yX7_cells wsX7_cells) := goodIn_app (goodIn_of _ (by decide +kernel)) ggX7_toldPlane_X7_cells
set_option maxRecDepth 20000 in
theorem ggX7_toldPlane_X7_kindAt : GoodIn wsX7_toldPlane wsX7_kindAt := goodIn_r _ [10, 1, 31, 32, 33, 34, 35, 36, 37, 38, 39, 40, 41, 42, 43, 44, 45, 46, 47, 48, 49] (by decide +kernel) (by decide +kernel)
set_option maxRecDepth 20000 in
theorem gX7_toldPlane_X7_kindAt : GoodIn wsX7_toldPlane (wsV RX7 203 RX7 yX7_kindAt wsX7_kindAt) := goodIn_app (goodIn_of _ (by decide +kernel)) ggX7_toldPlane_X7_kindAt
set_option maxRecDepth 20000 in
theorem ggX7_toldPlane_X7_planeSeen : GoodIn wsX7_toldPlane wsX7_planeSeen := goodIn_r _ [14, 15, 16, 17, 5, 18, 1, 19, 20, 21, 22, 23, 24, 25, 26, 27, 28, 29, 30, 7, 8, 9, 10, 31, 32, 33, 34, 35, 36, 37, 38, 39, 40, 41, 42, 43, 44, 45, 46, 47, 48, 49] (by decide +kernel) (by decide +kernel)
set_option maxRecDepth 20000 in
theorem gX7_toldPlane_X7_planeSeen : GoodIn wsX7_toldPlane (wsV RX7 206 RX7 yX7_planeSeen wsX7_planeSeen) := goodIn_app (goodIn_of _ (by decide +kernel)) ggX7_toldPlane_X7_planeSeen
theorem dX7_toldPlane_0 : decode cX7_toldPlane 0 = .ok (.iload_n 2, 1) := by decide +kernel
theorem dX7_toldPlane_1 : decode cX7_toldPlane 1 = .ok (.ifCond .ne 13, 3) := by decide +kernel
theorem dX7_toldPlane_4 : decode cX7_toldPlane 4 = .ok (.aload_n 0, 1) := by decide +kernel
theorem dX7_toldPlane_5 : decode cX7_toldPlane 5 = .ok (.getfield 17, 3) := by decide +kernel
theorem dX7_toldPlane_8 : decode cX7_toldPlane 8 = .ok (.bipush 10, 2) := by decide +kernel
theorem dX7_toldPlane_10 : decode cX7_toldPlane 10 = .ok (.iload_n 1, 1) := by decide +kernel
theorem dX7_toldPlane_11 : decode cX7_toldPlane 11 = .ok (.iadd, 1) := by decide +kernel
theorem dX7_toldPlane_12 : decode cX7_toldPlane 12 = .ok (.iaload, 1) := by decide +kernel
theorem dX7_toldPlane_13 : decode cX7_toldPlane 13 = .ok (.ireturn, 1) := by decide +kernel
theorem dX7_toldPlane_14 : decode cX7_toldPlane 14 = .ok (.iconst 0, 1) := by decide +kernel
theorem dX7_toldPlane_15 : decode cX7_toldPlane 15 = .ok (.istore_n 3, 1) := by decide +kernel
theorem dX7_toldPlane_16 : decode cX7_toldPlane 16 = .ok (.iconst 0, 1) := by decide +kernel
theorem dX7_toldPlane_17 : decode cX7_toldPlane 17 = .ok (.istore 4, 2) := by decide +kernel
theorem dX7_toldPlane_19 : decode cX7_toldPlane 19 = .ok (.iload 4, 2) := by decide +kernel
theorem dX7_toldPlane_21 : decode cX7_toldPlane 21 = .ok (.aload_n 0, 1) := by decide +kernel
theorem dX7_toldPlane_22 : decode cX7_toldPlane 22 = .ok (.invokevirtual 209, 3) := by decide +kernel
theorem dX7_toldPlane_25 : decode cX7_toldPlane 25 = .ok (.if_icmp .ge 49, 3) := by decide +kernel
theorem dX7_toldPlane_28 : decode cX7_toldPlane 28 = .ok (.iload_n 2, 1) := by decide +kernel
theorem dX7_toldPlane_29 : decode cX7_toldPlane 29 = .ok (.iconst 1, 1) := by decide +kernel
theorem dX7_toldPlane_30 : decode cX7_toldPlane 30 = .ok (.if_icmp .ne 44, 3) := by decide +kernel
theorem dX7_toldPlane_33 : decode cX7_toldPlane 33 = .ok (.iload_n 3, 1) := by decide +kernel
theorem dX7_toldPlane_34 : decode cX7_toldPlane 34 = .ok (.aload_n 0, 1) := by decide +kernel
theorem dX7_toldPlane_35 : decode cX7_toldPlane 35 = .ok (.iload_n 1, 1) := by decide +kernel
theorem dX7_toldPlane_36 : decode cX7_toldPlane 36 = .ok (.iload 4, 2) := by decide +kernel
theorem dX7_toldPlane_38 : decode cX7_toldPlane 38 = .ok (.aload_n 0, 1) := by decide +kernel
theorem dX7_toldPlane_39 : decode cX7_toldPlane 39 = .ok (.getfield 17, 3) := by decide +kernel
theorem dX7_toldPlane_42 : decode cX7_toldPlane 42 = .ok (.iconst 0, 1) := by decide +kernel
theorem dX7_toldPlane_43 : decode cX7_toldPlane 43 = .ok (.iaload, 1) := by decide +kernel
theorem dX7_toldPlane_44 : decode cX7_toldPlane 44 = .ok (.irem, 1) := by decide +kernel
theorem dX7_toldPlane_45 : decode cX7_toldPlane 45 = .ok (.iload 4, 2) := by decide +kernel
theorem dX7_toldPlane_47 : decode cX7_toldPlane 47 = .ok (.aload_n 0, 1) := by decide +kernel
theorem dX7_toldPlane_48 : decode cX7_toldPlane 48 = .ok (.getfield 17, 3) := by decide +kernel
theorem dX7_toldPlane_51 : decode cX7_toldPlane 51 = .ok (.iconst 0, 1) := by decide +kernel
theorem dX7_toldPlane_52 : decode cX7_toldPlane 52 = .ok (.iaload, 1) := by decide +kernel
theorem dX7_toldPlane_53 : decode cX7_toldPlane 53 = .ok (.idiv, 1) := by decide +kernel
theorem dX7_toldPlane_54 : decode cX7_toldPlane 54 = .ok (.invokevirtual 203, 3) := by decide +kernel
theorem dX7_toldPlane_57 : decode cX7_toldPlane 57 = .ok (.iconst (-1), 1) := by decide +kernel
theorem dX7_toldPlane_58 : decode cX7_toldPlane 58 = .ok (.if_icmp .ne 7, 3) := by decide +kernel
theorem dX7_toldPlane_61 : decode cX7_toldPlane 61 = .ok (.iconst 0, 1) := by decide +kernel
theorem dX7_toldPlane_62 : decode cX7_toldPlane 62 = .ok (.goto 4, 3) := by decide +kernel
theorem dX7_toldPlane_65 : decode cX7_toldPlane 65 = .ok (.iconst 1, 1) := by decide +kernel
theorem dX7_toldPlane_66 : decode cX7_toldPlane 66 = .ok (.iadd, 1) := by decide +kernel
theorem dX7_toldPlane_67 : decode cX7_toldPlane 67 = .ok (.istore_n 3, 1) := by decide +kernel
theorem dX7_toldPlane_68 : decode cX7_toldPlane 68 = .ok (.iinc 4 1, 3) := by decide +kernel
theorem dX7_toldPlane_71 : decode cX7_toldPlane 71 = .ok (.goto (-52), 3) := by decide +kernel
theorem dX7_toldPlane_74 : decode cX7_toldPlane 74 = .ok (.iconst 0, 1) := by decide +kernel
theorem dX7_toldPlane_75 : decode cX7_toldPlane 75 = .ok (.istore 4, 2) := by decide +kernel
theorem dX7_toldPlane_77 : decode cX7_toldPlane 77 = .ok (.iload 4, 2) := by decide +kernel
theorem dX7_toldPlane_79 : decode cX7_toldPlane 79 = .ok (.aload_n 0, 1) := by decide +kernel
theorem dX7_toldPlane_80 : decode cX7_toldPlane 80 = .ok (.getfield 17, 3) := by decide +kernel
theorem dX7_toldPlane_83 : decode cX7_toldPlane 83 = .ok (.iconst 3, 1) := by decide +kernel
theorem dX7_toldPlane_84 : decode cX7_toldPlane 84 = .ok (.iaload, 1) := by decide +kernel
theorem dX7_toldPlane_85 : decode cX7_toldPlane 85 = .ok (.if_icmp .ge 52, 3) := by decide +kernel
theorem dX7_toldPlane_88 : decode cX7_toldPlane 88 = .ok (.iload_n 2, 1) := by decide +kernel
theorem dX7_toldPlane_89 : decode cX7_toldPlane 89 = .ok (.iconst 2, 1) := by decide +kernel
theorem dX7_toldPlane_90 : decode cX7_toldPlane 90 = .ok (.if_icmp .ne 47, 3) := by decide +kernel
theorem dX7_toldPlane_93 : decode cX7_toldPlane 93 = .ok (.iconst 0, 1) := by decide +kernel
theorem dX7_toldPlane_94 : decode cX7_toldPlane 94 = .ok (.istore 5, 2) := by decide +kernel
theorem dX7_toldPlane_96 : decode cX7_toldPlane 96 = .ok (.iload 5, 2) := by decide +kernel
theorem dX7_toldPlane_98 : decode cX7_toldPlane 98 = .ok (.aload_n 0, 1) := by decide +kernel
theorem dX7_toldPlane_99 : decode cX7_toldPlane 99 = .ok (.invokevirtual 209, 3) := by decide +kernel
theorem dX7_toldPlane_102 : decode cX7_toldPlane 102 = .ok (.if_icmp .ge 29, 3) := by decide +kernel
theorem dX7_toldPlane_105 : decode cX7_toldPlane 105 = .ok (.iload_n 3, 1) := by decide +kernel
theorem dX7_toldPlane_106 : decode cX7_toldPlane 106 = .ok (.aload_n 0, 1) := by decide +kernel
theorem dX7_toldPlane_107 : decode cX7_toldPlane 107 = .ok (.iload 4, 2) := by decide +kernel
theorem dX7_toldPlane_109 : decode cX7_toldPlane 109 = .ok (.iload 5, 2) := by decide +kernel
theorem dX7_toldPlane_111 : decode cX7_toldPlane 111 = .ok (.invokevirtual 206, 3) := by decide +kernel
theorem dX7_toldPlane_114 : decode cX7_toldPlane 114 = .ok (.iload_n 1, 1) := by decide +kernel
theorem dX7_toldPlane_115 : decode cX7_toldPlane 115 = .ok (.if_icmp .ne 7, 3) := by decide +kernel
theorem dX7_toldPlane_118 : decode cX7_toldPlane 118 = .ok (.iconst 1, 1) := by decide +kernel
theorem dX7_toldPlane_119 : decode cX7_toldPlane 119 = .ok (.goto 4, 3) := by decide +kernel
theorem dX7_toldPlane_122 : decode cX7_toldPlane 122 = .ok (.iconst 0, 1) := by decide +kernel
theorem dX7_toldPlane_123 : decode cX7_toldPlane 123 = .ok (.iadd, 1) := by decide +kernel
theorem dX7_toldPlane_124 : decode cX7_toldPlane 124 = .ok (.istore_n 3, 1) := by decide +kernel
theorem dX7_toldPlane_125 : decode cX7_toldPlane 125 = .ok (.iinc 5 1, 3) := by decide +kernel
theorem dX7_toldPlane_128 : decode cX7_toldPlane 128 = .ok (.goto (-32), 3) := by decide +kernel
theorem dX7_toldPlane_131 : decode cX7_toldPlane 131 = .ok (.iinc 4 1, 3) := by decide +kernel
theorem dX7_toldPlane_134 : decode cX7_toldPlane 134 = .ok (.goto (-57), 3) := by decide +kernel
theorem dX7_toldPlane_137 : decode cX7_toldPlane 137 = .ok (.iload_n 3, 1) := by decide +kernel
theorem dX7_toldPlane_138 : decode cX7_toldPlane 138 = .ok (.ireturn, 1) := by decide +kernel
set_option maxRecDepth 20000 in
theorem ggX7_plane_X7_noPlane : GoodIn wsX7_plane wsX7_noPlane := goodIn_r _ [6, 7, 8, 9, 5, 10, 11, 12, 13, 14, 1, 47, 48, 49, 50, 51, 52, 53, 54, 55, 56, 57, 58, 59, 60, 61, 62, 63, 64, 65] (by decide +kernel) (by decide +kernel)
set_option maxRecDepth 20000 in
theorem gX7_plane_X7_noPlane : GoodIn wsX7_plane (wsV RX7 279 RX7 yX7_noPlane wsX7_noPlane) := goodIn_app (goodIn_of _ (by decide +kernel)) ggX7_plane_X7_noPlane
set_option maxRecDepth 20000 in
theorem ggX7_plane_X7_in : GoodIn wsX7_plane wsX7_in := goodIn_r _ [10] (by decide +kernel) (by decide +kernel)
set_option maxRecDepth 20000 in
theorem gX7_plane_X7_in : GoodIn wsX7_plane (va_wsS RX7 64 yX7_in wsX7_in) := goodIn_app (goodIn_of _ (by decide +kernel)) ggX7_plane_X7_in
set_option maxRecDepth 20000 in
theorem ggX7_plane_X7_fails : GoodIn wsX7_plane wsX7_fails := goodIn_r _ [14, 1, 47, 48, 49, 50, 51, 52, 53, 54, 55, 56, 57, 58, 59, 60, 61, 62, 63, 64, 65] (by decide +kernel) (by decide +kernel)
set_option maxRecDepth 20000 in
theorem gX7_plane_X7_fails : GoodIn wsX7_plane (wsV RX7 174 RX7 yX7_fails wsX7_fails) := goodIn_app (goodIn_of _ (by decide +kernel)) ggX7_plane_X7_fails
set_option maxRecDepth 20000 in
theorem ggX7_plane_X7_toldPlane : GoodIn wsX7_plane wsX7_toldPlane := goodIn_r _ [18, 7, 19, 20, 21, 5, 22, 23, 24, 25, 26, 27, 28, 29, 30, 31, 32, 33, 34, 35, 36, 37, 38, 39, 40, 41, 42, 43, 44, 45, 46, 47, 48, 49, 50, 51, 52, 53, 54, 55, 56, 57, 58, 59, 60, 61, 62, 63, 64, 65] (by decide +kernel) (by decide +kernel)
set_option maxRecDepth 20000 in
theorem gX7_plane_X7_toldPlane : GoodIn wsX7_plane (wsV RX7 285 RX7 yX7_toldPlane wsX7_toldPlane) := goodIn_app (goodIn_of _ (by decide +kernel)) ggX7_plane_X7_toldPlane
theorem dX7_plane_0 : decode cX7_plane 0 = .ok (.aload_n 0, 1) := by decide +kernel
theorem dX7_plane_1 : decode cX7_plane 1 = .ok (.iconst 0, 1) := by decide +kernel
theorem dX7_plane_2 : decode cX7_plane 2 = .ok (.putfield 42, 3) := by decide +kernel
theorem dX7_plane_5 : decode cX7_plane 5 = .ok (.aload_n 0, 1) := by decide +kernel
theorem dX7_plane_6 : decode cX7_plane 6 = .ok (.iload_n 1, 1) := by decide +kernel
theorem dX7_plane_7 : decode cX7_plane 7 = .ok (.invokevirtual 279, 3) := by decide +kernel
theorem dX7_plane_10 : decode cX7_plane 10 = .ok (.ifCond .ne 25, 3) := by decide +kernel
theorem dX7_plane_13 : decode cX7_plane 13 = .ok (.aload_n 0, 1) := by decide +kernel
theorem dX7_plane_14 : decode cX7_plane 14 = .ok (.iload_n 2, 1) := by decide +kernel
theorem dX7_plane_15 : decode cX7_plane 15 = .ok (.iconst 0, 1) := by decide +kernel
theorem dX7_plane_16 : decode cX7_plane 16 = .ok (.iconst 2, 1) := by decide +kernel
theorem dX7_plane_17 : decode cX7_plane 17 = .ok (.invokestatic 64, 3) := by decide +kernel
