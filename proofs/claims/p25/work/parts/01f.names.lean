theorem wsL_law_x0 : ∀ w ∈ (vx_atS RX6 80 "java/lang/IllegalArgumentException" ["java/lang/RuntimeException", "java/lang/Exception"]).filter goodWord, w ∈ lw_tbl := by decide +kernel
theorem wsL_law_x1 : ∀ w ∈ (vx_atS RX6 272 "java/lang/IndexOutOfBoundsException" ["java/lang/RuntimeException", "java/lang/Exception"]).filter goodWord, w ∈ lw_tbl := by decide +kernel
theorem wsL_law_x2 : ∀ w ∈ (vx_atS RX6 240 "java/lang/IllegalStateException" ["java/lang/RuntimeException", "java/lang/Exception"]).filter goodWord, w ∈ lw_tbl := by decide +kernel
theorem wsL_law_in : ∀ w ∈ wsL_law, w ∈ lw_tbl := fun w h => (List.mem_append.mp h).elim (fun h => (List.mem_append.mp h).elim (fun h => (List.mem_append.mp h).elim (fun h => wsL_law_in0 w h) (fun h => wsL_law_x0 w h)) (fun h => wsL_law_x1 w h)) (fun h => wsL_law_x2 w h)
theorem inlX0 : ∀ w ∈ wsX00, w ∈ wsL_law := fun _ h => List.mem_append_left _ (List.mem_append_left _ (List.mem_append_left _ (List.mem_append_left _ (List.mem_append_left _ (List.mem_append_left _ (List.mem_append_left _ (List.mem_append_left _ (List.mem_append_left _ (List.mem_append_right _ h)))))))))
theorem inX0 : ∀ w ∈ wsX00, w ∈ lw_tbl := fun w h => wsL_law_in w (inlX0 w h)
theorem inlX1 : ∀ w ∈ wsX10, w ∈ wsL_law := fun _ h => List.mem_append_left _ (List.mem_append_left _ (List.mem_append_left _ (List.mem_append_left _ (List.mem_append_left _ (List.mem_append_left _ (List.mem_append_left _ (List.mem_append_left _ (List.mem_append_right _ h))))))))
theorem inX1 : ∀ w ∈ wsX10, w ∈ lw_tbl := fun w h => wsL_law_in w (inlX1 w h)
theorem inlX2 : ∀ w ∈ wsX20, w ∈ wsL_law := fun _ h => List.mem_append_left _ (List.mem_append_left _ (List.mem_append_left _ (List.mem_append_left _ (List.mem_append_left _ (List.mem_append_left _ (List.mem_append_left _ (List.mem_append_right _ h)))))))
theorem inX2 : ∀ w ∈ wsX20, w ∈ lw_tbl := fun w h => wsL_law_in w (inlX2 w h)
theorem inlX3 : ∀ w ∈ wsX30, w ∈ wsL_law := fun _ h => List.mem_append_left _ (List.mem_append_left _ (List.mem_append_left _ (List.mem_append_left _ (List.mem_append_left _ (List.mem_append_left _ (List.mem_append_left _ (List.mem_append_left _ (List.mem_append_left _ (List.mem_append_left _ (List.mem_append_left _ (List.mem_append_left _ (List.mem_append_right _ h))))))))))))
theorem inX3 : ∀ w ∈ wsX30, w ∈ lw_tbl := fun w h => wsL_law_in w (inlX3 w h)
theorem inlX4 : ∀ w ∈ wsX40, w ∈ wsL_law := fun _ h => List.mem_append_left _ (List.mem_append_left _ (List.mem_append_left _ (List.mem_append_left _ (List.mem_append_left _ (List.mem_append_left _ (List.mem_append_left _ (List.mem_append_left _ (List.mem_append_left _ (List.mem_append_left _ (List.mem_append_left _ (List.mem_append_right _ h)))))))))))
theorem inX4 : ∀ w ∈ wsX40, w ∈ lw_tbl := fun w h => wsL_law_in w (inlX4 w h)
theorem inlX5 : ∀ w ∈ wsX50, w ∈ wsL_law := fun _ h => List.mem_append_left _ (List.mem_append_left _ (List.mem_append_left _ (List.mem_append_left _ (List.mem_append_left _ (List.mem_append_left _ (List.mem_append_left _ (List.mem_append_left _ (List.mem_append_left _ (List.mem_append_left _ (List.mem_append_right _ h))))))))))
theorem inX5 : ∀ w ∈ wsX50, w ∈ lw_tbl := fun w h => wsL_law_in w (inlX5 w h)
theorem inlX6 : ∀ w ∈ wsX60, w ∈ wsL_law := fun _ h => List.mem_append_left _ (List.mem_append_left _ (List.mem_append_left _ (List.mem_append_left _ (List.mem_append_left _ (List.mem_append_left _ (List.mem_append_left _ (List.mem_append_left _ (List.mem_append_left _ (List.mem_append_left _ (List.mem_append_left _ (List.mem_append_left _ (List.mem_append_left _ (List.mem_append_left _ (List.mem_append_left _ (List.mem_append_left _ (List.mem_append_right _ h))))))))))))))))
theorem inX6 : ∀ w ∈ wsX60, w ∈ lw_tbl := fun w h => wsL_law_in w (inlX6 w h)
theorem inlX7 : ∀ w ∈ wsX70, w ∈ wsL_law := fun _ h => List.mem_append_left _ (List.mem_append_left _ (List.mem_append_left _ (List.mem_append_left _ (List.mem_append_left _ (List.mem_append_left _ (List.mem_append_left _ (List.mem_append_left _ (List.mem_append_left _ (List.mem_append_left _ (List.mem_append_left _ (List.mem_append_left _ (List.mem_append_left _ (List.mem_append_right _ h)))))))))))))
theorem inX7 : ∀ w ∈ wsX70, w ∈ lw_tbl := fun w h => wsL_law_in w (inlX7 w h)
theorem inlX8 : ∀ w ∈ wsX80, w ∈ wsL_law := fun _ h => List.mem_append_left _ (List.mem_append_left _ (List.mem_append_left _ (List.mem_append_left _ (List.mem_append_right _ h))))
theorem inX8 : ∀ w ∈ wsX80, w ∈ lw_tbl := fun w h => wsL_law_in w (inlX8 w h)
theorem inlX9 : ∀ w ∈ wsX90, w ∈ wsL_law := fun _ h => List.mem_append_left _ (List.mem_append_left _ (List.mem_append_left _ (List.mem_append_left _ (List.mem_append_left _ (List.mem_append_left _ (List.mem_append_left _ (List.mem_append_left _ (List.mem_append_left _ (List.mem_append_left _ (List.mem_append_left _ (List.mem_append_left _ (List.mem_append_left _ (List.mem_append_left _ (List.mem_append_left _ (List.mem_append_right _ h)))))))))))))))
theorem inX9 : ∀ w ∈ wsX90, w ∈ lw_tbl := fun w h => wsL_law_in w (inlX9 w h)
theorem inlX10 : ∀ w ∈ wsX100, w ∈ wsL_law := fun _ h => List.mem_append_left _ (List.mem_append_left _ (List.mem_append_left _ (List.mem_append_left _ (List.mem_append_left _ (List.mem_append_left _ (List.mem_append_left _ (List.mem_append_left _ (List.mem_append_left _ (List.mem_append_left _ (List.mem_append_left _ (List.mem_append_left _ (List.mem_append_left _ (List.mem_append_left _ (List.mem_append_right _ h))))))))))))))
theorem inX10 : ∀ w ∈ wsX100, w ∈ lw_tbl := fun w h => wsL_law_in w (inlX10 w h)
theorem inX11 : ∀ w ∈ wsX110, w ∈ lw_tbl := by decide +kernel
theorem inJx145de : ∀ w ∈ wsJx145de0, w ∈ lw_tbl := by decide +kernel
theorem inJ5 : ∀ w ∈ wsJ50, w ∈ lw_tbl := by decide +kernel
theorem inJx2cfe8 : ∀ w ∈ wsJx2cfe80, w ∈ lw_tbl := by decide +kernel
theorem inJx9f9b0 : ∀ w ∈ wsJx9f9b00, w ∈ lw_tbl := by decide +kernel
theorem inJx8e188 : ∀ w ∈ wsJx8e1880, w ∈ lw_tbl := by decide +kernel
theorem inJxb160c : ∀ w ∈ wsJxb160c0, w ∈ lw_tbl := by decide +kernel
theorem inJ6 : ∀ w ∈ wsJ60, w ∈ lw_tbl := by decide +kernel
theorem inJ9 : ∀ w ∈ wsJ90, w ∈ lw_tbl := by decide +kernel
theorem inJxd2413 : ∀ w ∈ wsJxd24130, w ∈ lw_tbl := by decide +kernel
theorem inlJ0 : ∀ w ∈ wsJ00, w ∈ wsL_law := fun _ h => List.mem_append_left _ (List.mem_append_left _ (List.mem_append_left _ (List.mem_append_left _ (List.mem_append_left _ (List.mem_append_right _ h)))))
theorem inJ0 : ∀ w ∈ wsJ00, w ∈ lw_tbl := fun w h => wsL_law_in w (inlJ0 w h)
theorem inlJ4 : ∀ w ∈ wsJ40, w ∈ wsL_law := fun _ h => List.mem_append_left _ (List.mem_append_left _ (List.mem_append_left _ (List.mem_append_left _ (List.mem_append_left _ (List.mem_append_left _ (List.mem_append_right _ h))))))
theorem inJ4 : ∀ w ∈ wsJ40, w ∈ lw_tbl := fun w h => wsL_law_in w (inlJ4 w h)
theorem inJ1 : ∀ w ∈ wsJ10, w ∈ lw_tbl := by decide +kernel
theorem inJ2 : ∀ w ∈ wsJ20, w ∈ lw_tbl := by decide +kernel
theorem inJ10 : ∀ w ∈ wsJ100, w ∈ lw_tbl := by decide +kernel
theorem inJxfd54e : ∀ w ∈ wsJxfd54e0, w ∈ lw_tbl := by decide +kernel
theorem inJx3cf43 : ∀ w ∈ wsJx3cf430, w ∈ lw_tbl := by decide +kernel
theorem inJ7 : ∀ w ∈ wsJ70, w ∈ lw_tbl := by decide +kernel
theorem inJ8 : ∀ w ∈ wsJ80, w ∈ lw_tbl := by decide +kernel
theorem inJ3 : ∀ w ∈ wsJ30, w ∈ lw_tbl := by decide +kernel
set_option maxRecDepth 20000 in
theorem ggX0_init_X2_init : GoodIn wsX0_init wsX2_init := goodIn_r _ [19, 20, 2, 3, 9, 21, 22, 23, 34, 35, 36] (by decide +kernel) (by decide +kernel)
set_option maxRecDepth 20000 in
theorem gX0_init_X2_init_n42 : GoodIn wsX0_init (wsX2_init) := ggX0_init_X2_init
theorem dX0_init_0 : decode cX0_init 0 = .ok (.aload_n 0, 1) := by decide +kernel
theorem dX0_init_1 : decode cX0_init 1 = .ok (.invokespecial 3, 3) := by decide +kernel
theorem dX0_init_4 : decode cX0_init 4 = .ok (.aload_n 0, 1) := by decide +kernel
theorem dX0_init_5 : decode cX0_init 5 = .ok (.iconst 1, 1) := by decide +kernel
theorem dX0_init_6 : decode cX0_init 6 = .ok (.putfield 9, 3) := by decide +kernel
theorem dX0_init_9 : decode cX0_init 9 = .ok (.aload_n 0, 1) := by decide +kernel
theorem dX0_init_10 : decode cX0_init 10 = .ok (.iconst 1, 1) := by decide +kernel
theorem dX0_init_11 : decode cX0_init 11 = .ok (.putfield 15, 3) := by decide +kernel
theorem dX0_init_14 : decode cX0_init 14 = .ok (.aload_n 0, 1) := by decide +kernel
theorem dX0_init_15 : decode cX0_init 15 = .ok (.iconst 1, 1) := by decide +kernel
theorem dX0_init_16 : decode cX0_init 16 = .ok (.putfield 18, 3) := by decide +kernel
theorem dX0_init_19 : decode cX0_init 19 = .ok (.aload_n 0, 1) := by decide +kernel
theorem dX0_init_20 : decode cX0_init 20 = .ok (.iconst 0, 1) := by decide +kernel
theorem dX0_init_21 : decode cX0_init 21 = .ok (.putfield 21, 3) := by decide +kernel
theorem dX0_init_24 : decode cX0_init 24 = .ok (.aload_n 0, 1) := by decide +kernel
theorem dX0_init_25 : decode cX0_init 25 = .ok (.bipush 9, 2) := by decide +kernel
theorem dX0_init_27 : decode cX0_init 27 = .ok (.putfield 24, 3) := by decide +kernel
theorem dX0_init_30 : decode cX0_init 30 = .ok (.aload_n 0, 1) := by decide +kernel
theorem dX0_init_31 : decode cX0_init 31 = .ok (.sipush 480, 3) := by decide +kernel
theorem dX0_init_34 : decode cX0_init 34 = .ok (.newarray .int, 2) := by decide +kernel
theorem dX0_init_36 : decode cX0_init 36 = .ok (.putfield 27, 3) := by decide +kernel
theorem dX0_init_39 : decode cX0_init 39 = .ok (.aload_n 0, 1) := by decide +kernel
theorem dX0_init_40 : decode cX0_init 40 = .ok (.iconst 5, 1) := by decide +kernel
theorem dX0_init_41 : decode cX0_init 41 = .ok (.newarray .int, 2) := by decide +kernel
theorem dX0_init_43 : decode cX0_init 43 = .ok (.putfield 31, 3) := by decide +kernel
theorem dX0_init_46 : decode cX0_init 46 = .ok (.aload_n 0, 1) := by decide +kernel
theorem dX0_init_47 : decode cX0_init 47 = .ok (.iconst 4, 1) := by decide +kernel
theorem dX0_init_48 : decode cX0_init 48 = .ok (.newarray .int, 2) := by decide +kernel
theorem dX0_init_50 : decode cX0_init 50 = .ok (.putfield 34, 3) := by decide +kernel
theorem dX0_init_53 : decode cX0_init 53 = .ok (.aload_n 0, 1) := by decide +kernel
theorem dX0_init_54 : decode cX0_init 54 = .ok (.iconst 4, 1) := by decide +kernel
theorem dX0_init_55 : decode cX0_init 55 = .ok (.newarray .int, 2) := by decide +kernel
theorem dX0_init_57 : decode cX0_init 57 = .ok (.putfield 37, 3) := by decide +kernel
theorem dX0_init_60 : decode cX0_init 60 = .ok (.aload_n 0, 1) := by decide +kernel
theorem dX0_init_61 : decode cX0_init 61 = .ok (.new 40, 3) := by decide +kernel
theorem dX0_init_64 : decode cX0_init 64 = .ok (.dup, 1) := by decide +kernel
theorem dX0_init_65 : decode cX0_init 65 = .ok (.invokespecial 42, 3) := by decide +kernel
theorem dX0_init_68 : decode cX0_init 68 = .ok (.putfield 43, 3) := by decide +kernel
theorem dX0_init_71 : decode cX0_init 71 = .ok (.return_, 1) := by decide +kernel
set_option maxRecDepth 20000 in
theorem ggX0_begin_J7_fill_53178 : GoodIn wsX0_begin wsJ7_fill_53178 := goodIn_r _ [12] (by decide +kernel) (by decide +kernel)
set_option maxRecDepth 20000 in
theorem gX0_begin_J7_fill_53178 : GoodIn wsX0_begin (va_wsS RX0 47 yJ7_fill_53178 wsJ7_fill_53178) := goodIn_app (goodIn_of _ (by decide +kernel)) ggX0_begin_J7_fill_53178
set_option maxRecDepth 20000 in
theorem ggX0_begin_X0_setKind : GoodIn wsX0_begin wsX0_setKind := goodIn_r _ [17, 6, 37, 38, 39, 40, 41, 42, 43, 44, 45, 46] (by decide +kernel) (by decide +kernel)
set_option maxRecDepth 20000 in
theorem gX0_begin_X0_setKind : GoodIn wsX0_begin (wsV RX0 53 RX0 yX0_setKind wsX0_setKind) := goodIn_app (goodIn_of _ (by decide +kernel)) ggX0_begin_X0_setKind
set_option maxRecDepth 20000 in
theorem ggX0_begin_X2_begin : GoodIn wsX0_begin wsX2_begin := goodIn_r _ [22, 23, 24, 25, 21, 26, 27, 28, 29, 30, 31, 32, 33, 34, 35, 36, 47, 48, 49] (by decide +kernel) (by decide +kernel)
set_option maxRecDepth 20000 in
theorem gX0_begin_X2_begin : GoodIn wsX0_begin (wsV RX0 57 RX2 yX2_begin wsX2_begin) := goodIn_app (goodIn_of _ (by decide +kernel)) ggX0_begin_X2_begin
theorem dX0_begin_0 : decode cX0_begin 0 = .ok (.aload_n 0, 1) := by decide +kernel
theorem dX0_begin_1 : decode cX0_begin 1 = .ok (.iload_n 1, 1) := by decide +kernel
theorem dX0_begin_2 : decode cX0_begin 2 = .ok (.putfield 9, 3) := by decide +kernel
theorem dX0_begin_5 : decode cX0_begin 5 = .ok (.aload_n 0, 1) := by decide +kernel
theorem dX0_begin_6 : decode cX0_begin 6 = .ok (.iload_n 2, 1) := by decide +kernel
theorem dX0_begin_7 : decode cX0_begin 7 = .ok (.putfield 15, 3) := by decide +kernel
theorem dX0_begin_10 : decode cX0_begin 10 = .ok (.aload_n 0, 1) := by decide +kernel
theorem dX0_begin_11 : decode cX0_begin 11 = .ok (.iload_n 3, 1) := by decide +kernel
theorem dX0_begin_12 : decode cX0_begin 12 = .ok (.putfield 18, 3) := by decide +kernel
theorem dX0_begin_15 : decode cX0_begin 15 = .ok (.aload_n 0, 1) := by decide +kernel
theorem dX0_begin_16 : decode cX0_begin 16 = .ok (.iconst 0, 1) := by decide +kernel
theorem dX0_begin_17 : decode cX0_begin 17 = .ok (.putfield 21, 3) := by decide +kernel
theorem dX0_begin_20 : decode cX0_begin 20 = .ok (.aload_n 0, 1) := by decide +kernel
theorem dX0_begin_21 : decode cX0_begin 21 = .ok (.bipush 9, 2) := by decide +kernel
theorem dX0_begin_23 : decode cX0_begin 23 = .ok (.putfield 24, 3) := by decide +kernel
theorem dX0_begin_26 : decode cX0_begin 26 = .ok (.aload_n 0, 1) := by decide +kernel
theorem dX0_begin_27 : decode cX0_begin 27 = .ok (.getfield 27, 3) := by decide +kernel
theorem dX0_begin_30 : decode cX0_begin 30 = .ok (.iconst (-1), 1) := by decide +kernel
theorem dX0_begin_31 : decode cX0_begin 31 = .ok (.invokestatic 47, 3) := by decide +kernel
theorem dX0_begin_34 : decode cX0_begin 34 = .ok (.aload_n 0, 1) := by decide +kernel
theorem dX0_begin_35 : decode cX0_begin 35 = .ok (.getfield 31, 3) := by decide +kernel
theorem dX0_begin_38 : decode cX0_begin 38 = .ok (.iconst 0, 1) := by decide +kernel
theorem dX0_begin_39 : decode cX0_begin 39 = .ok (.invokestatic 47, 3) := by decide +kernel
theorem dX0_begin_42 : decode cX0_begin 42 = .ok (.iconst 0, 1) := by decide +kernel
theorem dX0_begin_43 : decode cX0_begin 43 = .ok (.istore 4, 2) := by decide +kernel
theorem dX0_begin_45 : decode cX0_begin 45 = .ok (.iload 4, 2) := by decide +kernel
theorem dX0_begin_47 : decode cX0_begin 47 = .ok (.aload_n 0, 1) := by decide +kernel
theorem dX0_begin_48 : decode cX0_begin 48 = .ok (.getfield 15, 3) := by decide +kernel
theorem dX0_begin_51 : decode cX0_begin 51 = .ok (.if_icmp .ge 42, 3) := by decide +kernel
theorem dX0_begin_54 : decode cX0_begin 54 = .ok (.iconst 0, 1) := by decide +kernel
theorem dX0_begin_55 : decode cX0_begin 55 = .ok (.istore 5, 2) := by decide +kernel
theorem dX0_begin_57 : decode cX0_begin 57 = .ok (.iload 5, 2) := by decide +kernel
theorem dX0_begin_59 : decode cX0_begin 59 = .ok (.aload_n 0, 1) := by decide +kernel
theorem dX0_begin_60 : decode cX0_begin 60 = .ok (.getfield 9, 3) := by decide +kernel
theorem dX0_begin_63 : decode cX0_begin 63 = .ok (.if_icmp .ge 24, 3) := by decide +kernel
theorem dX0_begin_66 : decode cX0_begin 66 = .ok (.aload_n 0, 1) := by decide +kernel
theorem dX0_begin_67 : decode cX0_begin 67 = .ok (.aload_n 0, 1) := by decide +kernel
theorem dX0_begin_68 : decode cX0_begin 68 = .ok (.getfield 18, 3) := by decide +kernel
theorem dX0_begin_71 : decode cX0_begin 71 = .ok (.iconst 1, 1) := by decide +kernel
theorem dX0_begin_72 : decode cX0_begin 72 = .ok (.isub, 1) := by decide +kernel
theorem dX0_begin_73 : decode cX0_begin 73 = .ok (.iload 5, 2) := by decide +kernel
theorem dX0_begin_75 : decode cX0_begin 75 = .ok (.iload 4, 2) := by decide +kernel
theorem dX0_begin_77 : decode cX0_begin 77 = .ok (.iconst 0, 1) := by decide +kernel
theorem dX0_begin_78 : decode cX0_begin 78 = .ok (.invokevirtual 53, 3) := by decide +kernel
theorem dX0_begin_81 : decode cX0_begin 81 = .ok (.iinc 5 1, 3) := by decide +kernel
theorem dX0_begin_84 : decode cX0_begin 84 = .ok (.goto (-27), 3) := by decide +kernel
theorem dX0_begin_87 : decode cX0_begin 87 = .ok (.iinc 4 1, 3) := by decide +kernel
theorem dX0_begin_90 : decode cX0_begin 90 = .ok (.goto (-45), 3) := by decide +kernel
theorem dX0_begin_93 : decode cX0_begin 93 = .ok (.aload_n 0, 1) := by decide +kernel
theorem dX0_begin_94 : decode cX0_begin 94 = .ok (.getfield 43, 3) := by decide +kernel
theorem dX0_begin_97 : decode cX0_begin 97 = .ok (.invokevirtual 57, 3) := by decide +kernel
theorem dX0_begin_100 : decode cX0_begin 100 = .ok (.return_, 1) := by decide +kernel
set_option maxRecDepth 20000 in
theorem ggX0_copyFrom_X2_copyFrom : GoodIn wsX0_copyFrom wsX2_copyFrom := goodIn_r _ [19, 20, 21, 22, 8, 9, 10, 33, 34, 35] (by decide +kernel) (by decide +kernel)
set_option maxRecDepth 20000 in
theorem gX0_copyFrom_X2_copyFrom : GoodIn wsX0_copyFrom (wsV RX0 66 RX2 yX2_copyFrom wsX2_copyFrom) := goodIn_app (goodIn_of _ (by decide +kernel)) ggX0_copyFrom_X2_copyFrom
theorem dX0_copyFrom_0 : decode cX0_copyFrom 0 = .ok (.aload_n 0, 1) := by decide +kernel
theorem dX0_copyFrom_1 : decode cX0_copyFrom 1 = .ok (.aload_n 1, 1) := by decide +kernel
theorem dX0_copyFrom_2 : decode cX0_copyFrom 2 = .ok (.getfield 9, 3) := by decide +kernel
theorem dX0_copyFrom_5 : decode cX0_copyFrom 5 = .ok (.putfield 9, 3) := by decide +kernel
theorem dX0_copyFrom_8 : decode cX0_copyFrom 8 = .ok (.aload_n 0, 1) := by decide +kernel
theorem dX0_copyFrom_9 : decode cX0_copyFrom 9 = .ok (.aload_n 1, 1) := by decide +kernel
theorem dX0_copyFrom_10 : decode cX0_copyFrom 10 = .ok (.getfield 15, 3) := by decide +kernel
theorem dX0_copyFrom_13 : decode cX0_copyFrom 13 = .ok (.putfield 15, 3) := by decide +kernel
theorem dX0_copyFrom_16 : decode cX0_copyFrom 16 = .ok (.aload_n 0, 1) := by decide +kernel
theorem dX0_copyFrom_17 : decode cX0_copyFrom 17 = .ok (.aload_n 1, 1) := by decide +kernel
theorem dX0_copyFrom_18 : decode cX0_copyFrom 18 = .ok (.getfield 18, 3) := by decide +kernel
theorem dX0_copyFrom_21 : decode cX0_copyFrom 21 = .ok (.putfield 18, 3) := by decide +kernel
theorem dX0_copyFrom_24 : decode cX0_copyFrom 24 = .ok (.aload_n 0, 1) := by decide +kernel
theorem dX0_copyFrom_25 : decode cX0_copyFrom 25 = .ok (.aload_n 1, 1) := by decide +kernel
theorem dX0_copyFrom_26 : decode cX0_copyFrom 26 = .ok (.getfield 21, 3) := by decide +kernel
theorem dX0_copyFrom_29 : decode cX0_copyFrom 29 = .ok (.putfield 21, 3) := by decide +kernel
theorem dX0_copyFrom_32 : decode cX0_copyFrom 32 = .ok (.aload_n 0, 1) := by decide +kernel
theorem dX0_copyFrom_33 : decode cX0_copyFrom 33 = .ok (.aload_n 1, 1) := by decide +kernel
theorem dX0_copyFrom_34 : decode cX0_copyFrom 34 = .ok (.getfield 24, 3) := by decide +kernel
theorem dX0_copyFrom_37 : decode cX0_copyFrom 37 = .ok (.putfield 24, 3) := by decide +kernel
theorem dX0_copyFrom_40 : decode cX0_copyFrom 40 = .ok (.aload_n 1, 1) := by decide +kernel
theorem dX0_copyFrom_41 : decode cX0_copyFrom 41 = .ok (.getfield 27, 3) := by decide +kernel
theorem dX0_copyFrom_44 : decode cX0_copyFrom 44 = .ok (.iconst 0, 1) := by decide +kernel
theorem dX0_copyFrom_45 : decode cX0_copyFrom 45 = .ok (.aload_n 0, 1) := by decide +kernel
theorem dX0_copyFrom_46 : decode cX0_copyFrom 46 = .ok (.getfield 27, 3) := by decide +kernel
theorem dX0_copyFrom_49 : decode cX0_copyFrom 49 = .ok (.iconst 0, 1) := by decide +kernel
theorem dX0_copyFrom_50 : decode cX0_copyFrom 50 = .ok (.aload_n 0, 1) := by decide +kernel
theorem dX0_copyFrom_51 : decode cX0_copyFrom 51 = .ok (.getfield 27, 3) := by decide +kernel
theorem dX0_copyFrom_54 : decode cX0_copyFrom 54 = .ok (.arraylength, 1) := by decide +kernel
theorem dX0_copyFrom_55 : decode cX0_copyFrom 55 = .ok (.invokestatic 60, 3) := by decide +kernel
theorem dX0_copyFrom_58 : decode cX0_copyFrom 58 = .ok (.aload_n 1, 1) := by decide +kernel
theorem dX0_copyFrom_59 : decode cX0_copyFrom 59 = .ok (.getfield 31, 3) := by decide +kernel
theorem dX0_copyFrom_62 : decode cX0_copyFrom 62 = .ok (.iconst 0, 1) := by decide +kernel
theorem dX0_copyFrom_63 : decode cX0_copyFrom 63 = .ok (.aload_n 0, 1) := by decide +kernel
theorem dX0_copyFrom_64 : decode cX0_copyFrom 64 = .ok (.getfield 31, 3) := by decide +kernel
theorem dX0_copyFrom_67 : decode cX0_copyFrom 67 = .ok (.iconst 0, 1) := by decide +kernel
theorem dX0_copyFrom_68 : decode cX0_copyFrom 68 = .ok (.aload_n 0, 1) := by decide +kernel
theorem dX0_copyFrom_69 : decode cX0_copyFrom 69 = .ok (.getfield 31, 3) := by decide +kernel
theorem dX0_copyFrom_72 : decode cX0_copyFrom 72 = .ok (.arraylength, 1) := by decide +kernel
theorem dX0_copyFrom_73 : decode cX0_copyFrom 73 = .ok (.invokestatic 60, 3) := by decide +kernel
theorem dX0_copyFrom_76 : decode cX0_copyFrom 76 = .ok (.aload_n 1, 1) := by decide +kernel
theorem dX0_copyFrom_77 : decode cX0_copyFrom 77 = .ok (.getfield 34, 3) := by decide +kernel
theorem dX0_copyFrom_80 : decode cX0_copyFrom 80 = .ok (.iconst 0, 1) := by decide +kernel
theorem dX0_copyFrom_81 : decode cX0_copyFrom 81 = .ok (.aload_n 0, 1) := by decide +kernel
theorem dX0_copyFrom_82 : decode cX0_copyFrom 82 = .ok (.getfield 34, 3) := by decide +kernel
theorem dX0_copyFrom_85 : decode cX0_copyFrom 85 = .ok (.iconst 0, 1) := by decide +kernel
theorem dX0_copyFrom_86 : decode cX0_copyFrom 86 = .ok (.aload_n 0, 1) := by decide +kernel
theorem dX0_copyFrom_87 : decode cX0_copyFrom 87 = .ok (.getfield 34, 3) := by decide +kernel
theorem dX0_copyFrom_90 : decode cX0_copyFrom 90 = .ok (.arraylength, 1) := by decide +kernel
theorem dX0_copyFrom_91 : decode cX0_copyFrom 91 = .ok (.invokestatic 60, 3) := by decide +kernel
theorem dX0_copyFrom_94 : decode cX0_copyFrom 94 = .ok (.aload_n 1, 1) := by decide +kernel
theorem dX0_copyFrom_95 : decode cX0_copyFrom 95 = .ok (.getfield 37, 3) := by decide +kernel
theorem dX0_copyFrom_98 : decode cX0_copyFrom 98 = .ok (.iconst 0, 1) := by decide +kernel
theorem dX0_copyFrom_99 : decode cX0_copyFrom 99 = .ok (.aload_n 0, 1) := by decide +kernel
theorem dX0_copyFrom_100 : decode cX0_copyFrom 100 = .ok (.getfield 37, 3) := by decide +kernel
theorem dX0_copyFrom_103 : decode cX0_copyFrom 103 = .ok (.iconst 0, 1) := by decide +kernel
theorem dX0_copyFrom_104 : decode cX0_copyFrom 104 = .ok (.aload_n 0, 1) := by decide +kernel
theorem dX0_copyFrom_105 : decode cX0_copyFrom 105 = .ok (.getfield 37, 3) := by decide +kernel
theorem dX0_copyFrom_108 : decode cX0_copyFrom 108 = .ok (.arraylength, 1) := by decide +kernel
theorem dX0_copyFrom_109 : decode cX0_copyFrom 109 = .ok (.invokestatic 60, 3) := by decide +kernel
theorem dX0_copyFrom_112 : decode cX0_copyFrom 112 = .ok (.aload_n 0, 1) := by decide +kernel
theorem dX0_copyFrom_113 : decode cX0_copyFrom 113 = .ok (.getfield 43, 3) := by decide +kernel
theorem dX0_copyFrom_116 : decode cX0_copyFrom 116 = .ok (.aload_n 1, 1) := by decide +kernel
theorem dX0_copyFrom_117 : decode cX0_copyFrom 117 = .ok (.getfield 43, 3) := by decide +kernel
theorem dX0_copyFrom_120 : decode cX0_copyFrom 120 = .ok (.invokevirtual 66, 3) := by decide +kernel
theorem dX0_copyFrom_123 : decode cX0_copyFrom 123 = .ok (.return_, 1) := by decide +kernel
theorem dX0_addHole_0 : decode cX0_addHole 0 = .ok (.aload_n 0, 1) := by decide +kernel
theorem dX0_addHole_1 : decode cX0_addHole 1 = .ok (.getfield 21, 3) := by decide +kernel
theorem dX0_addHole_4 : decode cX0_addHole 4 = .ok (.iconst 4, 1) := by decide +kernel
theorem dX0_addHole_5 : decode cX0_addHole 5 = .ok (.if_icmp .ge 33, 3) := by decide +kernel
theorem dX0_addHole_8 : decode cX0_addHole 8 = .ok (.aload_n 0, 1) := by decide +kernel
theorem dX0_addHole_9 : decode cX0_addHole 9 = .ok (.getfield 34, 3) := by decide +kernel
theorem dX0_addHole_12 : decode cX0_addHole 12 = .ok (.aload_n 0, 1) := by decide +kernel
theorem dX0_addHole_13 : decode cX0_addHole 13 = .ok (.getfield 21, 3) := by decide +kernel
theorem dX0_addHole_16 : decode cX0_addHole 16 = .ok (.iload_n 1, 1) := by decide +kernel
theorem dX0_addHole_17 : decode cX0_addHole 17 = .ok (.iastore, 1) := by decide +kernel
theorem dX0_addHole_18 : decode cX0_addHole 18 = .ok (.aload_n 0, 1) := by decide +kernel
theorem dX0_addHole_19 : decode cX0_addHole 19 = .ok (.getfield 37, 3) := by decide +kernel
theorem dX0_addHole_22 : decode cX0_addHole 22 = .ok (.aload_n 0, 1) := by decide +kernel
theorem dX0_addHole_23 : decode cX0_addHole 23 = .ok (.getfield 21, 3) := by decide +kernel
theorem dX0_addHole_26 : decode cX0_addHole 26 = .ok (.iload_n 2, 1) := by decide +kernel
theorem dX0_addHole_27 : decode cX0_addHole 27 = .ok (.iastore, 1) := by decide +kernel
theorem dX0_addHole_28 : decode cX0_addHole 28 = .ok (.aload_n 0, 1) := by decide +kernel
theorem dX0_addHole_29 : decode cX0_addHole 29 = .ok (.dup, 1) := by decide +kernel
theorem dX0_addHole_30 : decode cX0_addHole 30 = .ok (.getfield 21, 3) := by decide +kernel
theorem dX0_addHole_33 : decode cX0_addHole 33 = .ok (.iconst 1, 1) := by decide +kernel
theorem dX0_addHole_34 : decode cX0_addHole 34 = .ok (.iadd, 1) := by decide +kernel
theorem dX0_addHole_35 : decode cX0_addHole 35 = .ok (.putfield 21, 3) := by decide +kernel
theorem dX0_addHole_38 : decode cX0_addHole 38 = .ok (.return_, 1) := by decide +kernel
theorem dX0_isBack_0 : decode cX0_isBack 0 = .ok (.iload_n 1, 1) := by decide +kernel
theorem dX0_isBack_1 : decode cX0_isBack 1 = .ok (.aload_n 0, 1) := by decide +kernel
theorem dX0_isBack_2 : decode cX0_isBack 2 = .ok (.getfield 18, 3) := by decide +kernel
theorem dX0_isBack_5 : decode cX0_isBack 5 = .ok (.iconst 1, 1) := by decide +kernel
theorem dX0_isBack_6 : decode cX0_isBack 6 = .ok (.isub, 1) := by decide +kernel
theorem dX0_isBack_7 : decode cX0_isBack 7 = .ok (.if_icmp .ne 7, 3) := by decide +kernel
theorem dX0_isBack_10 : decode cX0_isBack 10 = .ok (.iconst 1, 1) := by decide +kernel
theorem dX0_isBack_11 : decode cX0_isBack 11 = .ok (.goto 4, 3) := by decide +kernel
theorem dX0_isBack_14 : decode cX0_isBack 14 = .ok (.iconst 0, 1) := by decide +kernel
theorem dX0_isBack_15 : decode cX0_isBack 15 = .ok (.ireturn, 1) := by decide +kernel
theorem dX0_canUse_0 : decode cX0_canUse 0 = .ok (.iload_n 1, 1) := by decide +kernel
theorem dX0_canUse_1 : decode cX0_canUse 1 = .ok (.aload_n 0, 1) := by decide +kernel
theorem dX0_canUse_2 : decode cX0_canUse 2 = .ok (.getfield 15, 3) := by decide +kernel
theorem dX0_canUse_5 : decode cX0_canUse 5 = .ok (.iconst 1, 1) := by decide +kernel
theorem dX0_canUse_6 : decode cX0_canUse 6 = .ok (.isub, 1) := by decide +kernel
theorem dX0_canUse_7 : decode cX0_canUse 7 = .ok (.aload_n 0, 1) := by decide +kernel
theorem dX0_canUse_8 : decode cX0_canUse 8 = .ok (.getfield 37, 3) := by decide +kernel
theorem dX0_canUse_11 : decode cX0_canUse 11 = .ok (.iload_n 2, 1) := by decide +kernel
theorem dX0_canUse_12 : decode cX0_canUse 12 = .ok (.iaload, 1) := by decide +kernel
theorem dX0_canUse_13 : decode cX0_canUse 13 = .ok (.isub, 1) := by decide +kernel
theorem dX0_canUse_14 : decode cX0_canUse 14 = .ok (.isub, 1) := by decide +kernel
theorem dX0_canUse_15 : decode cX0_canUse 15 = .ok (.invokestatic 70, 3) := by decide +kernel
theorem dX0_canUse_18 : decode cX0_canUse 18 = .ok (.aload_n 0, 1) := by decide +kernel
theorem dX0_canUse_19 : decode cX0_canUse 19 = .ok (.getfield 24, 3) := by decide +kernel
theorem dX0_canUse_22 : decode cX0_canUse 22 = .ok (.if_icmp .gt 7, 3) := by decide +kernel
theorem dX0_canUse_25 : decode cX0_canUse 25 = .ok (.iconst 1, 1) := by decide +kernel
theorem dX0_canUse_26 : decode cX0_canUse 26 = .ok (.goto 4, 3) := by decide +kernel
theorem dX0_canUse_29 : decode cX0_canUse 29 = .ok (.iconst 0, 1) := by decide +kernel
theorem dX0_canUse_30 : decode cX0_canUse 30 = .ok (.ireturn, 1) := by decide +kernel
theorem dX0_setKind_0 : decode cX0_setKind 0 = .ok (.aload_n 0, 1) := by decide +kernel
theorem dX0_setKind_1 : decode cX0_setKind 1 = .ok (.getfield 27, 3) := by decide +kernel
theorem dX0_setKind_4 : decode cX0_setKind 4 = .ok (.iload_n 1, 1) := by decide +kernel
theorem dX0_setKind_5 : decode cX0_setKind 5 = .ok (.bipush 96, 2) := by decide +kernel
theorem dX0_setKind_7 : decode cX0_setKind 7 = .ok (.imul, 1) := by decide +kernel
theorem dX0_setKind_8 : decode cX0_setKind 8 = .ok (.iload_n 3, 1) := by decide +kernel
theorem dX0_setKind_9 : decode cX0_setKind 9 = .ok (.bipush 12, 2) := by decide +kernel
theorem dX0_setKind_11 : decode cX0_setKind 11 = .ok (.imul, 1) := by decide +kernel
theorem dX0_setKind_12 : decode cX0_setKind 12 = .ok (.iadd, 1) := by decide +kernel
theorem dX0_setKind_13 : decode cX0_setKind 13 = .ok (.iload_n 2, 1) := by decide +kernel
theorem dX0_setKind_14 : decode cX0_setKind 14 = .ok (.iadd, 1) := by decide +kernel
theorem dX0_setKind_15 : decode cX0_setKind 15 = .ok (.iload 4, 2) := by decide +kernel
theorem dX0_setKind_17 : decode cX0_setKind 17 = .ok (.iastore, 1) := by decide +kernel
theorem dX0_setKind_18 : decode cX0_setKind 18 = .ok (.return_, 1) := by decide +kernel
theorem dX0_kindAt_0 : decode cX0_kindAt 0 = .ok (.iload_n 3, 1) := by decide +kernel
theorem dX0_kindAt_1 : decode cX0_kindAt 1 = .ok (.aload_n 0, 1) := by decide +kernel
theorem dX0_kindAt_2 : decode cX0_kindAt 2 = .ok (.getfield 31, 3) := by decide +kernel
theorem dX0_kindAt_5 : decode cX0_kindAt 5 = .ok (.iload_n 1, 1) := by decide +kernel
theorem dX0_kindAt_6 : decode cX0_kindAt 6 = .ok (.iaload, 1) := by decide +kernel
theorem dX0_kindAt_7 : decode cX0_kindAt 7 = .ok (.iadd, 1) := by decide +kernel
theorem dX0_kindAt_8 : decode cX0_kindAt 8 = .ok (.istore 4, 2) := by decide +kernel
theorem dX0_kindAt_10 : decode cX0_kindAt 10 = .ok (.iload 4, 2) := by decide +kernel
theorem dX0_kindAt_12 : decode cX0_kindAt 12 = .ok (.aload_n 0, 1) := by decide +kernel
theorem dX0_kindAt_13 : decode cX0_kindAt 13 = .ok (.getfield 15, 3) := by decide +kernel
theorem dX0_kindAt_16 : decode cX0_kindAt 16 = .ok (.if_icmp .ge 23, 3) := by decide +kernel
theorem dX0_kindAt_19 : decode cX0_kindAt 19 = .ok (.aload_n 0, 1) := by decide +kernel
theorem dX0_kindAt_20 : decode cX0_kindAt 20 = .ok (.getfield 27, 3) := by decide +kernel
theorem dX0_kindAt_23 : decode cX0_kindAt 23 = .ok (.iload_n 1, 1) := by decide +kernel
theorem dX0_kindAt_24 : decode cX0_kindAt 24 = .ok (.bipush 96, 2) := by decide +kernel
theorem dX0_kindAt_26 : decode cX0_kindAt 26 = .ok (.imul, 1) := by decide +kernel
theorem dX0_kindAt_27 : decode cX0_kindAt 27 = .ok (.iload 4, 2) := by decide +kernel
theorem dX0_kindAt_29 : decode cX0_kindAt 29 = .ok (.bipush 12, 2) := by decide +kernel
theorem dX0_kindAt_31 : decode cX0_kindAt 31 = .ok (.imul, 1) := by decide +kernel
theorem dX0_kindAt_32 : decode cX0_kindAt 32 = .ok (.iadd, 1) := by decide +kernel
theorem dX0_kindAt_33 : decode cX0_kindAt 33 = .ok (.iload_n 2, 1) := by decide +kernel
theorem dX0_kindAt_34 : decode cX0_kindAt 34 = .ok (.iadd, 1) := by decide +kernel
theorem dX0_kindAt_35 : decode cX0_kindAt 35 = .ok (.iaload, 1) := by decide +kernel
theorem dX0_kindAt_36 : decode cX0_kindAt 36 = .ok (.goto 4, 3) := by decide +kernel
theorem dX0_kindAt_39 : decode cX0_kindAt 39 = .ok (.iconst (-1), 1) := by decide +kernel
theorem dX0_kindAt_40 : decode cX0_kindAt 40 = .ok (.ireturn, 1) := by decide +kernel
set_option maxRecDepth 20000 in
theorem ggX0_standing_X0_kindAt : GoodIn wsX0_standing wsX0_kindAt := goodIn_r _ [7, 8, 1, 9, 10, 11, 12, 13, 14, 15, 16, 17, 18, 19] (by decide +kernel) (by decide +kernel)
set_option maxRecDepth 20000 in
theorem gX0_standing_X0_kindAt : GoodIn wsX0_standing (wsV RX0 76 RX0 yX0_kindAt wsX0_kindAt) := goodIn_app (goodIn_of _ (by decide +kernel)) ggX0_standing_X0_kindAt
theorem dX0_standing_0 : decode cX0_standing 0 = .ok (.iconst 0, 1) := by decide +kernel
theorem dX0_standing_1 : decode cX0_standing 1 = .ok (.istore_n 2, 1) := by decide +kernel
theorem dX0_standing_2 : decode cX0_standing 2 = .ok (.iconst 0, 1) := by decide +kernel
theorem dX0_standing_3 : decode cX0_standing 3 = .ok (.istore_n 3, 1) := by decide +kernel
theorem dX0_standing_4 : decode cX0_standing 4 = .ok (.iload_n 3, 1) := by decide +kernel
theorem dX0_standing_5 : decode cX0_standing 5 = .ok (.aload_n 0, 1) := by decide +kernel
theorem dX0_standing_6 : decode cX0_standing 6 = .ok (.getfield 15, 3) := by decide +kernel
theorem dX0_standing_9 : decode cX0_standing 9 = .ok (.if_icmp .ge 42, 3) := by decide +kernel
theorem dX0_standing_12 : decode cX0_standing 12 = .ok (.iconst 0, 1) := by decide +kernel
theorem dX0_standing_13 : decode cX0_standing 13 = .ok (.istore 4, 2) := by decide +kernel
theorem dX0_standing_15 : decode cX0_standing 15 = .ok (.iload 4, 2) := by decide +kernel
theorem dX0_standing_17 : decode cX0_standing 17 = .ok (.aload_n 0, 1) := by decide +kernel
theorem dX0_standing_18 : decode cX0_standing 18 = .ok (.getfield 9, 3) := by decide +kernel
theorem dX0_standing_21 : decode cX0_standing 21 = .ok (.if_icmp .ge 24, 3) := by decide +kernel
theorem dX0_standing_24 : decode cX0_standing 24 = .ok (.aload_n 0, 1) := by decide +kernel
theorem dX0_standing_25 : decode cX0_standing 25 = .ok (.iload_n 1, 1) := by decide +kernel
theorem dX0_standing_26 : decode cX0_standing 26 = .ok (.iload 4, 2) := by decide +kernel
theorem dX0_standing_28 : decode cX0_standing 28 = .ok (.iload_n 3, 1) := by decide +kernel
theorem dX0_standing_29 : decode cX0_standing 29 = .ok (.invokevirtual 76, 3) := by decide +kernel
theorem dX0_standing_32 : decode cX0_standing 32 = .ok (.iconst (-1), 1) := by decide +kernel
theorem dX0_standing_33 : decode cX0_standing 33 = .ok (.if_icmp .eq 6, 3) := by decide +kernel
theorem dX0_standing_36 : decode cX0_standing 36 = .ok (.iinc 2 1, 3) := by decide +kernel
theorem dX0_standing_39 : decode cX0_standing 39 = .ok (.iinc 4 1, 3) := by decide +kernel
theorem dX0_standing_42 : decode cX0_standing 42 = .ok (.goto (-27), 3) := by decide +kernel
theorem dX0_standing_45 : decode cX0_standing 45 = .ok (.iinc 3 1, 3) := by decide +kernel
theorem dX0_standing_48 : decode cX0_standing 48 = .ok (.goto (-44), 3) := by decide +kernel
theorem dX0_standing_51 : decode cX0_standing 51 = .ok (.iload_n 2, 1) := by decide +kernel
theorem dX0_standing_52 : decode cX0_standing 52 = .ok (.ireturn, 1) := by decide +kernel
set_option maxRecDepth 20000 in
theorem ggX0_crossing_X6_quotient : GoodIn wsX0_crossing wsX6_quotient := goodIn_r _ [4] (by decide +kernel) (by decide +kernel)
set_option maxRecDepth 20000 in
theorem gX0_crossing_X6_quotient_n80 : GoodIn wsX0_crossing (wsX6_quotient) := ggX0_crossing_X6_quotient
theorem dX0_crossing_0 : decode cX0_crossing 0 = .ok (.iload_n 1, 1) := by decide +kernel
theorem dX0_crossing_1 : decode cX0_crossing 1 = .ok (.iload_n 2, 1) := by decide +kernel
theorem dX0_crossing_2 : decode cX0_crossing 2 = .ok (.iload_n 1, 1) := by decide +kernel
theorem dX0_crossing_3 : decode cX0_crossing 3 = .ok (.isub, 1) := by decide +kernel
theorem dX0_crossing_4 : decode cX0_crossing 4 = .ok (.iload_n 3, 1) := by decide +kernel
theorem dX0_crossing_5 : decode cX0_crossing 5 = .ok (.iconst 1, 1) := by decide +kernel
theorem dX0_crossing_6 : decode cX0_crossing 6 = .ok (.iadd, 1) := by decide +kernel
theorem dX0_crossing_7 : decode cX0_crossing 7 = .ok (.imul, 1) := by decide +kernel
theorem dX0_crossing_8 : decode cX0_crossing 8 = .ok (.i2l, 1) := by decide +kernel
theorem dX0_crossing_9 : decode cX0_crossing 9 = .ok (.aload_n 0, 1) := by decide +kernel
theorem dX0_crossing_10 : decode cX0_crossing 10 = .ok (.getfield 18, 3) := by decide +kernel
theorem dX0_crossing_13 : decode cX0_crossing 13 = .ok (.i2l, 1) := by decide +kernel
theorem dX0_crossing_14 : decode cX0_crossing 14 = .ok (.invokestatic 80, 3) := by decide +kernel
theorem dX0_crossing_17 : decode cX0_crossing 17 = .ok (.l2i, 1) := by decide +kernel
theorem dX0_crossing_18 : decode cX0_crossing 18 = .ok (.iadd, 1) := by decide +kernel
theorem dX0_crossing_19 : decode cX0_crossing 19 = .ok (.ireturn, 1) := by decide +kernel
set_option maxRecDepth 20000 in
theorem ggX0_crossedKind_X0_crossing : GoodIn wsX0_crossedKind wsX0_crossing := goodIn_r _ [7, 8, 9, 10, 11, 19, 20, 21, 22, 23, 24, 25, 26, 27, 28] (by decide +kernel) (by decide +kernel)
set_option maxRecDepth 20000 in
theorem gX0_crossedKind_X0_crossing : GoodIn wsX0_crossedKind (wsV RX0 84 RX0 yX0_crossing wsX0_crossing) := goodIn_app (goodIn_of _ (by decide +kernel)) ggX0_crossedKind_X0_crossing
set_option maxRecDepth 20000 in
theorem ggX0_crossedKind_X0_kindAt : GoodIn wsX0_crossedKind wsX0_kindAt := goodIn_r _ [15, 16, 17, 18, 19, 20, 21, 22, 23, 24, 25, 26, 27, 28] (by decide +kernel) (by decide +kernel)
set_option maxRecDepth 20000 in
theorem gX0_crossedKind_X0_kindAt : GoodIn wsX0_crossedKind (wsV RX0 76 RX0 yX0_kindAt wsX0_kindAt) := goodIn_app (goodIn_of _ (by decide +kernel)) ggX0_crossedKind_X0_kindAt
theorem dX0_crossedKind_0 : decode cX0_crossedKind 0 = .ok (.aload_n 0, 1) := by decide +kernel
theorem dX0_crossedKind_1 : decode cX0_crossedKind 1 = .ok (.iload_n 2, 1) := by decide +kernel
theorem dX0_crossedKind_2 : decode cX0_crossedKind 2 = .ok (.aload_n 0, 1) := by decide +kernel
theorem dX0_crossedKind_3 : decode cX0_crossedKind 3 = .ok (.aload_n 0, 1) := by decide +kernel
theorem dX0_crossedKind_4 : decode cX0_crossedKind 4 = .ok (.getfield 34, 3) := by decide +kernel
theorem dX0_crossedKind_7 : decode cX0_crossedKind 7 = .ok (.iload_n 1, 1) := by decide +kernel
theorem dX0_crossedKind_8 : decode cX0_crossedKind 8 = .ok (.iaload, 1) := by decide +kernel
theorem dX0_crossedKind_9 : decode cX0_crossedKind 9 = .ok (.iload_n 3, 1) := by decide +kernel
theorem dX0_crossedKind_10 : decode cX0_crossedKind 10 = .ok (.iload_n 2, 1) := by decide +kernel
theorem dX0_crossedKind_11 : decode cX0_crossedKind 11 = .ok (.invokevirtual 84, 3) := by decide +kernel
theorem dX0_crossedKind_14 : decode cX0_crossedKind 14 = .ok (.aload_n 0, 1) := by decide +kernel
theorem dX0_crossedKind_15 : decode cX0_crossedKind 15 = .ok (.aload_n 0, 1) := by decide +kernel
theorem dX0_crossedKind_16 : decode cX0_crossedKind 16 = .ok (.getfield 37, 3) := by decide +kernel
theorem dX0_crossedKind_19 : decode cX0_crossedKind 19 = .ok (.iload_n 1, 1) := by decide +kernel
theorem dX0_crossedKind_20 : decode cX0_crossedKind 20 = .ok (.iaload, 1) := by decide +kernel
theorem dX0_crossedKind_21 : decode cX0_crossedKind 21 = .ok (.iload 4, 2) := by decide +kernel
theorem dX0_crossedKind_23 : decode cX0_crossedKind 23 = .ok (.iload_n 2, 1) := by decide +kernel
theorem dX0_crossedKind_24 : decode cX0_crossedKind 24 = .ok (.invokevirtual 84, 3) := by decide +kernel
theorem dX0_crossedKind_27 : decode cX0_crossedKind 27 = .ok (.invokevirtual 76, 3) := by decide +kernel
theorem dX0_crossedKind_30 : decode cX0_crossedKind 30 = .ok (.ireturn, 1) := by decide +kernel
set_option maxRecDepth 20000 in
theorem ggX0_seenFrom_X0_crossedKind : GoodIn wsX0_seenFrom wsX0_crossedKind := goodIn_r _ [10, 11, 12, 13, 14, 15, 9, 16, 1, 17, 18, 19, 20, 21, 22, 23, 24, 25, 26, 27, 28, 29, 30, 31, 32, 33, 34, 35, 36] (by decide +kernel) (by decide +kernel)
set_option maxRecDepth 20000 in
theorem gX0_seenFrom_X0_crossedKind : GoodIn wsX0_seenFrom (wsV RX0 87 RX0 yX0_crossedKind wsX0_crossedKind) := goodIn_app (goodIn_of _ (by decide +kernel)) ggX0_seenFrom_X0_crossedKind
theorem dX0_seenFrom_0 : decode cX0_seenFrom 0 = .ok (.iconst 0, 1) := by decide +kernel
theorem dX0_seenFrom_1 : decode cX0_seenFrom 1 = .ok (.istore 4, 2) := by decide +kernel
theorem dX0_seenFrom_3 : decode cX0_seenFrom 3 = .ok (.aload_n 0, 1) := by decide +kernel
theorem dX0_seenFrom_4 : decode cX0_seenFrom 4 = .ok (.iload_n 1, 1) := by decide +kernel
theorem dX0_seenFrom_5 : decode cX0_seenFrom 5 = .ok (.iload 4, 2) := by decide +kernel
theorem dX0_seenFrom_7 : decode cX0_seenFrom 7 = .ok (.iload_n 2, 1) := by decide +kernel
theorem dX0_seenFrom_8 : decode cX0_seenFrom 8 = .ok (.iload_n 3, 1) := by decide +kernel
theorem dX0_seenFrom_9 : decode cX0_seenFrom 9 = .ok (.invokevirtual 87, 3) := by decide +kernel
theorem dX0_seenFrom_12 : decode cX0_seenFrom 12 = .ok (.istore 5, 2) := by decide +kernel
theorem dX0_seenFrom_14 : decode cX0_seenFrom 14 = .ok (.iload 5, 2) := by decide +kernel
theorem dX0_seenFrom_16 : decode cX0_seenFrom 16 = .ok (.iconst (-1), 1) := by decide +kernel
theorem dX0_seenFrom_17 : decode cX0_seenFrom 17 = .ok (.if_icmp .ne 31, 3) := by decide +kernel
theorem dX0_seenFrom_20 : decode cX0_seenFrom 20 = .ok (.iload 4, 2) := by decide +kernel
theorem dX0_seenFrom_22 : decode cX0_seenFrom 22 = .ok (.aload_n 0, 1) := by decide +kernel
theorem dX0_seenFrom_23 : decode cX0_seenFrom 23 = .ok (.getfield 18, 3) := by decide +kernel
theorem dX0_seenFrom_26 : decode cX0_seenFrom 26 = .ok (.iconst 1, 1) := by decide +kernel
theorem dX0_seenFrom_27 : decode cX0_seenFrom 27 = .ok (.isub, 1) := by decide +kernel
theorem dX0_seenFrom_28 : decode cX0_seenFrom 28 = .ok (.if_icmp .ge 20, 3) := by decide +kernel
theorem dX0_seenFrom_31 : decode cX0_seenFrom 31 = .ok (.iinc 4 1, 3) := by decide +kernel
theorem dX0_seenFrom_34 : decode cX0_seenFrom 34 = .ok (.aload_n 0, 1) := by decide +kernel
theorem dX0_seenFrom_35 : decode cX0_seenFrom 35 = .ok (.iload_n 1, 1) := by decide +kernel
theorem dX0_seenFrom_36 : decode cX0_seenFrom 36 = .ok (.iload 4, 2) := by decide +kernel
theorem dX0_seenFrom_38 : decode cX0_seenFrom 38 = .ok (.iload_n 2, 1) := by decide +kernel
theorem dX0_seenFrom_39 : decode cX0_seenFrom 39 = .ok (.iload_n 3, 1) := by decide +kernel
theorem dX0_seenFrom_40 : decode cX0_seenFrom 40 = .ok (.invokevirtual 87, 3) := by decide +kernel
theorem dX0_seenFrom_43 : decode cX0_seenFrom 43 = .ok (.istore 5, 2) := by decide +kernel
theorem dX0_seenFrom_45 : decode cX0_seenFrom 45 = .ok (.goto (-31), 3) := by decide +kernel
theorem dX0_seenFrom_48 : decode cX0_seenFrom 48 = .ok (.bipush 100, 2) := by decide +kernel
theorem dX0_seenFrom_50 : decode cX0_seenFrom 50 = .ok (.iload 4, 2) := by decide +kernel
theorem dX0_seenFrom_52 : decode cX0_seenFrom 52 = .ok (.imul, 1) := by decide +kernel
theorem dX0_seenFrom_53 : decode cX0_seenFrom 53 = .ok (.iload 5, 2) := by decide +kernel
theorem dX0_seenFrom_55 : decode cX0_seenFrom 55 = .ok (.iconst 0, 1) := by decide +kernel
theorem dX0_seenFrom_56 : decode cX0_seenFrom 56 = .ok (.invokestatic 91, 3) := by decide +kernel
theorem dX0_seenFrom_59 : decode cX0_seenFrom 59 = .ok (.iadd, 1) := by decide +kernel
theorem dX0_seenFrom_60 : decode cX0_seenFrom 60 = .ok (.ireturn, 1) := by decide +kernel
theorem dX1_init_0 : decode cX1_init 0 = .ok (.aload_n 0, 1) := by decide +kernel
theorem dX1_init_1 : decode cX1_init 1 = .ok (.invokespecial 3, 3) := by decide +kernel
theorem dX1_init_4 : decode cX1_init 4 = .ok (.aload_n 0, 1) := by decide +kernel
theorem dX1_init_5 : decode cX1_init 5 = .ok (.iconst 0, 1) := by decide +kernel
theorem dX1_init_6 : decode cX1_init 6 = .ok (.putfield 9, 3) := by decide +kernel
theorem dX1_init_9 : decode cX1_init 9 = .ok (.aload_n 0, 1) := by decide +kernel
theorem dX1_init_10 : decode cX1_init 10 = .ok (.iconst 3, 1) := by decide +kernel
theorem dX1_init_11 : decode cX1_init 11 = .ok (.putfield 15, 3) := by decide +kernel
theorem dX1_init_14 : decode cX1_init 14 = .ok (.aload_n 0, 1) := by decide +kernel
theorem dX1_init_15 : decode cX1_init 15 = .ok (.iconst 0, 1) := by decide +kernel
theorem dX1_init_16 : decode cX1_init 16 = .ok (.putfield 18, 3) := by decide +kernel
theorem dX1_init_19 : decode cX1_init 19 = .ok (.aload_n 0, 1) := by decide +kernel
theorem dX1_init_20 : decode cX1_init 20 = .ok (.iconst 4, 1) := by decide +kernel
theorem dX1_init_21 : decode cX1_init 21 = .ok (.newarray .int, 2) := by decide +kernel
theorem dX1_init_23 : decode cX1_init 23 = .ok (.putfield 21, 3) := by decide +kernel
theorem dX1_init_26 : decode cX1_init 26 = .ok (.aload_n 0, 1) := by decide +kernel
theorem dX1_init_27 : decode cX1_init 27 = .ok (.sipush 140, 3) := by decide +kernel
theorem dX1_init_30 : decode cX1_init 30 = .ok (.newarray .int, 2) := by decide +kernel
theorem dX1_init_32 : decode cX1_init 32 = .ok (.putfield 25, 3) := by decide +kernel
theorem dX1_init_35 : decode cX1_init 35 = .ok (.return_, 1) := by decide +kernel
set_option maxRecDepth 20000 in
theorem ggX1_begin_J7_fill_53178 : GoodIn wsX1_begin wsJ7_fill_53178 := goodIn_r _ [8] (by decide +kernel) (by decide +kernel)
set_option maxRecDepth 20000 in
theorem gX1_begin_J7_fill_53178 : GoodIn wsX1_begin (va_wsS RX1 28 yJ7_fill_53178 wsJ7_fill_53178) := goodIn_app (goodIn_of _ (by decide +kernel)) ggX1_begin_J7_fill_53178
theorem dX1_begin_0 : decode cX1_begin 0 = .ok (.aload_n 0, 1) := by decide +kernel
theorem dX1_begin_1 : decode cX1_begin 1 = .ok (.iconst 0, 1) := by decide +kernel
theorem dX1_begin_2 : decode cX1_begin 2 = .ok (.putfield 9, 3) := by decide +kernel
theorem dX1_begin_5 : decode cX1_begin 5 = .ok (.aload_n 0, 1) := by decide +kernel
theorem dX1_begin_6 : decode cX1_begin 6 = .ok (.iconst 3, 1) := by decide +kernel
theorem dX1_begin_7 : decode cX1_begin 7 = .ok (.putfield 15, 3) := by decide +kernel
theorem dX1_begin_10 : decode cX1_begin 10 = .ok (.aload_n 0, 1) := by decide +kernel
theorem dX1_begin_11 : decode cX1_begin 11 = .ok (.iconst 0, 1) := by decide +kernel
theorem dX1_begin_12 : decode cX1_begin 12 = .ok (.putfield 18, 3) := by decide +kernel
theorem dX1_begin_15 : decode cX1_begin 15 = .ok (.aload_n 0, 1) := by decide +kernel
theorem dX1_begin_16 : decode cX1_begin 16 = .ok (.getfield 21, 3) := by decide +kernel
theorem dX1_begin_19 : decode cX1_begin 19 = .ok (.iconst (-1), 1) := by decide +kernel
theorem dX1_begin_20 : decode cX1_begin 20 = .ok (.invokestatic 28, 3) := by decide +kernel
theorem dX1_begin_23 : decode cX1_begin 23 = .ok (.return_, 1) := by decide +kernel
theorem dX1_copyFrom_0 : decode cX1_copyFrom 0 = .ok (.aload_n 0, 1) := by decide +kernel
theorem dX1_copyFrom_1 : decode cX1_copyFrom 1 = .ok (.aload_n 1, 1) := by decide +kernel
theorem dX1_copyFrom_2 : decode cX1_copyFrom 2 = .ok (.getfield 9, 3) := by decide +kernel
theorem dX1_copyFrom_5 : decode cX1_copyFrom 5 = .ok (.putfield 9, 3) := by decide +kernel
theorem dX1_copyFrom_8 : decode cX1_copyFrom 8 = .ok (.aload_n 0, 1) := by decide +kernel
theorem dX1_copyFrom_9 : decode cX1_copyFrom 9 = .ok (.aload_n 1, 1) := by decide +kernel
theorem dX1_copyFrom_10 : decode cX1_copyFrom 10 = .ok (.getfield 15, 3) := by decide +kernel
theorem dX1_copyFrom_13 : decode cX1_copyFrom 13 = .ok (.putfield 15, 3) := by decide +kernel
theorem dX1_copyFrom_16 : decode cX1_copyFrom 16 = .ok (.aload_n 0, 1) := by decide +kernel
theorem dX1_copyFrom_17 : decode cX1_copyFrom 17 = .ok (.aload_n 1, 1) := by decide +kernel
theorem dX1_copyFrom_18 : decode cX1_copyFrom 18 = .ok (.getfield 18, 3) := by decide +kernel
theorem dX1_copyFrom_21 : decode cX1_copyFrom 21 = .ok (.putfield 18, 3) := by decide +kernel
theorem dX1_copyFrom_24 : decode cX1_copyFrom 24 = .ok (.aload_n 1, 1) := by decide +kernel
theorem dX1_copyFrom_25 : decode cX1_copyFrom 25 = .ok (.getfield 21, 3) := by decide +kernel
theorem dX1_copyFrom_28 : decode cX1_copyFrom 28 = .ok (.iconst 0, 1) := by decide +kernel
theorem dX1_copyFrom_29 : decode cX1_copyFrom 29 = .ok (.aload_n 0, 1) := by decide +kernel
theorem dX1_copyFrom_30 : decode cX1_copyFrom 30 = .ok (.getfield 21, 3) := by decide +kernel
theorem dX1_copyFrom_33 : decode cX1_copyFrom 33 = .ok (.iconst 0, 1) := by decide +kernel
theorem dX1_copyFrom_34 : decode cX1_copyFrom 34 = .ok (.aload_n 0, 1) := by decide +kernel
theorem dX1_copyFrom_35 : decode cX1_copyFrom 35 = .ok (.getfield 21, 3) := by decide +kernel
theorem dX1_copyFrom_38 : decode cX1_copyFrom 38 = .ok (.arraylength, 1) := by decide +kernel
theorem dX1_copyFrom_39 : decode cX1_copyFrom 39 = .ok (.invokestatic 34, 3) := by decide +kernel
theorem dX1_copyFrom_42 : decode cX1_copyFrom 42 = .ok (.aload_n 1, 1) := by decide +kernel
theorem dX1_copyFrom_43 : decode cX1_copyFrom 43 = .ok (.getfield 25, 3) := by decide +kernel
theorem dX1_copyFrom_46 : decode cX1_copyFrom 46 = .ok (.iconst 0, 1) := by decide +kernel
theorem dX1_copyFrom_47 : decode cX1_copyFrom 47 = .ok (.aload_n 0, 1) := by decide +kernel
theorem dX1_copyFrom_48 : decode cX1_copyFrom 48 = .ok (.getfield 25, 3) := by decide +kernel
theorem dX1_copyFrom_51 : decode cX1_copyFrom 51 = .ok (.iconst 0, 1) := by decide +kernel
theorem dX1_copyFrom_52 : decode cX1_copyFrom 52 = .ok (.aload_n 0, 1) := by decide +kernel
theorem dX1_copyFrom_53 : decode cX1_copyFrom 53 = .ok (.getfield 25, 3) := by decide +kernel
theorem dX1_copyFrom_56 : decode cX1_copyFrom 56 = .ok (.arraylength, 1) := by decide +kernel
theorem dX1_copyFrom_57 : decode cX1_copyFrom 57 = .ok (.invokestatic 34, 3) := by decide +kernel
theorem dX1_copyFrom_60 : decode cX1_copyFrom 60 = .ok (.return_, 1) := by decide +kernel
theorem dX1_isFull_0 : decode cX1_isFull 0 = .ok (.aload_n 0, 1) := by decide +kernel
theorem dX1_isFull_1 : decode cX1_isFull 1 = .ok (.getfield 9, 3) := by decide +kernel
theorem dX1_isFull_4 : decode cX1_isFull 4 = .ok (.bipush 20, 2) := by decide +kernel
theorem dX1_isFull_6 : decode cX1_isFull 6 = .ok (.if_icmp .lt 7, 3) := by decide +kernel
theorem dX1_isFull_9 : decode cX1_isFull 9 = .ok (.iconst 1, 1) := by decide +kernel
theorem dX1_isFull_10 : decode cX1_isFull 10 = .ok (.goto 4, 3) := by decide +kernel
theorem dX1_isFull_13 : decode cX1_isFull 13 = .ok (.iconst 0, 1) := by decide +kernel
theorem dX1_isFull_14 : decode cX1_isFull 14 = .ok (.ireturn, 1) := by decide +kernel
set_option maxRecDepth 20000 in
theorem ggX1_add_X1_isFull : GoodIn wsX1_add wsX1_isFull := goodIn_r _ [6, 1, 16, 17, 18, 19, 20] (by decide +kernel) (by decide +kernel)
set_option maxRecDepth 20000 in
theorem gX1_add_X1_isFull : GoodIn wsX1_add (wsV RX1 40 RX1 yX1_isFull wsX1_isFull) := goodIn_app (goodIn_of _ (by decide +kernel)) ggX1_add_X1_isFull
set_option maxRecDepth 20000 in
theorem ggX1_add_X1_set : GoodIn wsX1_add wsX1_set := goodIn_r _ [10, 11, 16, 17, 18, 19, 20] (by decide +kernel) (by decide +kernel)
set_option maxRecDepth 20000 in
theorem gX1_add_X1_set : GoodIn wsX1_add (wsV RX1 44 RX1 yX1_set wsX1_set) := goodIn_app (goodIn_of _ (by decide +kernel)) ggX1_add_X1_set
set_option maxRecDepth 20000 in
theorem ggX1_add_X1_endLook : GoodIn wsX1_add wsX1_endLook := goodIn_r _ [15, 7, 8, 9, 5, 10, 11, 16, 17, 18, 19, 20] (by decide +kernel) (by decide +kernel)
set_option maxRecDepth 20000 in
theorem gX1_add_X1_endLook : GoodIn wsX1_add (wsV RX1 48 RX1 yX1_endLook wsX1_endLook) := goodIn_app (goodIn_of _ (by decide +kernel)) ggX1_add_X1_endLook
theorem dX1_add_0 : decode cX1_add 0 = .ok (.aload_n 0, 1) := by decide +kernel
theorem dX1_add_1 : decode cX1_add 1 = .ok (.invokevirtual 40, 3) := by decide +kernel
theorem dX1_add_4 : decode cX1_add 4 = .ok (.ifCond .eq 4, 3) := by decide +kernel
theorem dX1_add_7 : decode cX1_add 7 = .ok (.return_, 1) := by decide +kernel
theorem dX1_add_8 : decode cX1_add 8 = .ok (.aload_n 0, 1) := by decide +kernel
theorem dX1_add_9 : decode cX1_add 9 = .ok (.getfield 9, 3) := by decide +kernel
theorem dX1_add_12 : decode cX1_add 12 = .ok (.istore 4, 2) := by decide +kernel
theorem dX1_add_14 : decode cX1_add 14 = .ok (.aload_n 0, 1) := by decide +kernel
theorem dX1_add_15 : decode cX1_add 15 = .ok (.dup, 1) := by decide +kernel
theorem dX1_add_16 : decode cX1_add 16 = .ok (.getfield 9, 3) := by decide +kernel
theorem dX1_add_19 : decode cX1_add 19 = .ok (.iconst 1, 1) := by decide +kernel
theorem dX1_add_20 : decode cX1_add 20 = .ok (.iadd, 1) := by decide +kernel
theorem dX1_add_21 : decode cX1_add 21 = .ok (.putfield 9, 3) := by decide +kernel
theorem dX1_add_24 : decode cX1_add 24 = .ok (.aload_n 0, 1) := by decide +kernel
theorem dX1_add_25 : decode cX1_add 25 = .ok (.iload 4, 2) := by decide +kernel
theorem dX1_add_27 : decode cX1_add 27 = .ok (.iconst 0, 1) := by decide +kernel
theorem dX1_add_28 : decode cX1_add 28 = .ok (.iload_n 1, 1) := by decide +kernel
theorem dX1_add_29 : decode cX1_add 29 = .ok (.invokevirtual 44, 3) := by decide +kernel
theorem dX1_add_32 : decode cX1_add 32 = .ok (.aload_n 0, 1) := by decide +kernel
theorem dX1_add_33 : decode cX1_add 33 = .ok (.iload 4, 2) := by decide +kernel
theorem dX1_add_35 : decode cX1_add 35 = .ok (.iconst 1, 1) := by decide +kernel
theorem dX1_add_36 : decode cX1_add 36 = .ok (.iload_n 2, 1) := by decide +kernel
theorem dX1_add_37 : decode cX1_add 37 = .ok (.invokevirtual 44, 3) := by decide +kernel
theorem dX1_add_40 : decode cX1_add 40 = .ok (.aload_n 0, 1) := by decide +kernel
theorem dX1_add_41 : decode cX1_add 41 = .ok (.iload 4, 2) := by decide +kernel
theorem dX1_add_43 : decode cX1_add 43 = .ok (.iconst 2, 1) := by decide +kernel
theorem dX1_add_44 : decode cX1_add 44 = .ok (.iload_n 3, 1) := by decide +kernel
theorem dX1_add_45 : decode cX1_add 45 = .ok (.invokevirtual 44, 3) := by decide +kernel
theorem dX1_add_48 : decode cX1_add 48 = .ok (.aload_n 0, 1) := by decide +kernel
theorem dX1_add_49 : decode cX1_add 49 = .ok (.iload 4, 2) := by decide +kernel
theorem dX1_add_51 : decode cX1_add 51 = .ok (.bipush 6, 2) := by decide +kernel
theorem dX1_add_53 : decode cX1_add 53 = .ok (.iconst 0, 1) := by decide +kernel
theorem dX1_add_54 : decode cX1_add 54 = .ok (.invokevirtual 44, 3) := by decide +kernel
theorem dX1_add_57 : decode cX1_add 57 = .ok (.aload_n 0, 1) := by decide +kernel
theorem dX1_add_58 : decode cX1_add 58 = .ok (.iload 4, 2) := by decide +kernel
theorem dX1_add_60 : decode cX1_add 60 = .ok (.iconst 0, 1) := by decide +kernel
theorem dX1_add_61 : decode cX1_add 61 = .ok (.invokevirtual 48, 3) := by decide +kernel
theorem dX1_add_64 : decode cX1_add 64 = .ok (.return_, 1) := by decide +kernel
theorem dX1_fact_0 : decode cX1_fact 0 = .ok (.aload_n 0, 1) := by decide +kernel
theorem dX1_fact_1 : decode cX1_fact 1 = .ok (.getfield 25, 3) := by decide +kernel
theorem dX1_fact_4 : decode cX1_fact 4 = .ok (.iload_n 1, 1) := by decide +kernel
theorem dX1_fact_5 : decode cX1_fact 5 = .ok (.bipush 7, 2) := by decide +kernel
theorem dX1_fact_7 : decode cX1_fact 7 = .ok (.imul, 1) := by decide +kernel
theorem dX1_fact_8 : decode cX1_fact 8 = .ok (.iload_n 2, 1) := by decide +kernel
theorem dX1_fact_9 : decode cX1_fact 9 = .ok (.iadd, 1) := by decide +kernel
theorem dX1_fact_10 : decode cX1_fact 10 = .ok (.iaload, 1) := by decide +kernel
theorem dX1_fact_11 : decode cX1_fact 11 = .ok (.ireturn, 1) := by decide +kernel
theorem dX1_set_0 : decode cX1_set 0 = .ok (.aload_n 0, 1) := by decide +kernel
theorem dX1_set_1 : decode cX1_set 1 = .ok (.getfield 25, 3) := by decide +kernel
theorem dX1_set_4 : decode cX1_set 4 = .ok (.iload_n 1, 1) := by decide +kernel
theorem dX1_set_5 : decode cX1_set 5 = .ok (.bipush 7, 2) := by decide +kernel
theorem dX1_set_7 : decode cX1_set 7 = .ok (.imul, 1) := by decide +kernel
theorem dX1_set_8 : decode cX1_set 8 = .ok (.iload_n 2, 1) := by decide +kernel
theorem dX1_set_9 : decode cX1_set 9 = .ok (.iadd, 1) := by decide +kernel
theorem dX1_set_10 : decode cX1_set 10 = .ok (.iload_n 3, 1) := by decide +kernel
theorem dX1_set_11 : decode cX1_set 11 = .ok (.iastore, 1) := by decide +kernel
theorem dX1_set_12 : decode cX1_set 12 = .ok (.return_, 1) := by decide +kernel
set_option maxRecDepth 20000 in
theorem ggX1_count_X1_fact : GoodIn wsX1_count wsX1_fact := goodIn_r _ [6, 7, 8, 9, 10, 11, 12] (by decide +kernel) (by decide +kernel)
set_option maxRecDepth 20000 in
theorem gX1_count_X1_fact : GoodIn wsX1_count (wsV RX1 52 RX1 yX1_fact wsX1_fact) := goodIn_app (goodIn_of _ (by decide +kernel)) ggX1_count_X1_fact
theorem dX1_count_0 : decode cX1_count 0 = .ok (.iconst 0, 1) := by decide +kernel
theorem dX1_count_1 : decode cX1_count 1 = .ok (.istore_n 2, 1) := by decide +kernel
theorem dX1_count_2 : decode cX1_count 2 = .ok (.iconst 0, 1) := by decide +kernel
theorem dX1_count_3 : decode cX1_count 3 = .ok (.istore_n 3, 1) := by decide +kernel
theorem dX1_count_4 : decode cX1_count 4 = .ok (.iload_n 3, 1) := by decide +kernel
theorem dX1_count_5 : decode cX1_count 5 = .ok (.aload_n 0, 1) := by decide +kernel
theorem dX1_count_6 : decode cX1_count 6 = .ok (.getfield 9, 3) := by decide +kernel
theorem dX1_count_9 : decode cX1_count 9 = .ok (.if_icmp .ge 22, 3) := by decide +kernel
theorem dX1_count_12 : decode cX1_count 12 = .ok (.aload_n 0, 1) := by decide +kernel
theorem dX1_count_13 : decode cX1_count 13 = .ok (.iload_n 3, 1) := by decide +kernel
theorem dX1_count_14 : decode cX1_count 14 = .ok (.iconst 3, 1) := by decide +kernel
theorem dX1_count_15 : decode cX1_count 15 = .ok (.invokevirtual 52, 3) := by decide +kernel
theorem dX1_count_18 : decode cX1_count 18 = .ok (.iload_n 1, 1) := by decide +kernel
theorem dX1_count_19 : decode cX1_count 19 = .ok (.if_icmp .ne 6, 3) := by decide +kernel
theorem dX1_count_22 : decode cX1_count 22 = .ok (.iinc 2 1, 3) := by decide +kernel
theorem dX1_count_25 : decode cX1_count 25 = .ok (.iinc 3 1, 3) := by decide +kernel
theorem dX1_count_28 : decode cX1_count 28 = .ok (.goto (-24), 3) := by decide +kernel
theorem dX1_count_31 : decode cX1_count 31 = .ok (.iload_n 2, 1) := by decide +kernel
theorem dX1_count_32 : decode cX1_count 32 = .ok (.ireturn, 1) := by decide +kernel
set_option maxRecDepth 20000 in
theorem ggX1_allPaid_X1_fact : GoodIn wsX1_allPaid wsX1_fact := goodIn_r _ [6, 7, 8, 9, 10, 11, 12] (by decide +kernel) (by decide +kernel)
set_option maxRecDepth 20000 in
theorem gX1_allPaid_X1_fact : GoodIn wsX1_allPaid (wsV RX1 52 RX1 yX1_fact wsX1_fact) := goodIn_app (goodIn_of _ (by decide +kernel)) ggX1_allPaid_X1_fact
theorem dX1_allPaid_0 : decode cX1_allPaid 0 = .ok (.iconst 0, 1) := by decide +kernel
theorem dX1_allPaid_1 : decode cX1_allPaid 1 = .ok (.istore_n 1, 1) := by decide +kernel
theorem dX1_allPaid_2 : decode cX1_allPaid 2 = .ok (.iconst 0, 1) := by decide +kernel
theorem dX1_allPaid_3 : decode cX1_allPaid 3 = .ok (.istore_n 2, 1) := by decide +kernel
theorem dX1_allPaid_4 : decode cX1_allPaid 4 = .ok (.iload_n 2, 1) := by decide +kernel
theorem dX1_allPaid_5 : decode cX1_allPaid 5 = .ok (.aload_n 0, 1) := by decide +kernel
theorem dX1_allPaid_6 : decode cX1_allPaid 6 = .ok (.getfield 9, 3) := by decide +kernel
theorem dX1_allPaid_9 : decode cX1_allPaid 9 = .ok (.if_icmp .ge 19, 3) := by decide +kernel
theorem dX1_allPaid_12 : decode cX1_allPaid 12 = .ok (.iload_n 1, 1) := by decide +kernel
theorem dX1_allPaid_13 : decode cX1_allPaid 13 = .ok (.aload_n 0, 1) := by decide +kernel
theorem dX1_allPaid_14 : decode cX1_allPaid 14 = .ok (.iload_n 2, 1) := by decide +kernel
theorem dX1_allPaid_15 : decode cX1_allPaid 15 = .ok (.bipush 6, 2) := by decide +kernel
theorem dX1_allPaid_17 : decode cX1_allPaid 17 = .ok (.invokevirtual 52, 3) := by decide +kernel
theorem dX1_allPaid_20 : decode cX1_allPaid 20 = .ok (.iadd, 1) := by decide +kernel
theorem dX1_allPaid_21 : decode cX1_allPaid 21 = .ok (.istore_n 1, 1) := by decide +kernel
theorem dX1_allPaid_22 : decode cX1_allPaid 22 = .ok (.iinc 2 1, 3) := by decide +kernel
theorem dX1_allPaid_25 : decode cX1_allPaid 25 = .ok (.goto (-21), 3) := by decide +kernel
theorem dX1_allPaid_28 : decode cX1_allPaid 28 = .ok (.iload_n 1, 1) := by decide +kernel
theorem dX1_allPaid_29 : decode cX1_allPaid 29 = .ok (.ireturn, 1) := by decide +kernel
set_option maxRecDepth 20000 in
theorem ggX1_tick_X1_fact : GoodIn wsX1_tick wsX1_fact := goodIn_r _ [7, 8, 85, 86, 87, 88, 89] (by decide +kernel) (by decide +kernel)
set_option maxRecDepth 20000 in
theorem gX1_tick_X1_fact : GoodIn wsX1_tick (wsV RX1 52 RX1 yX1_fact wsX1_fact) := goodIn_app (goodIn_of _ (by decide +kernel)) ggX1_tick_X1_fact
set_option maxRecDepth 20000 in
theorem ggX1_tick_X1_lookOn : GoodIn wsX1_tick wsX1_lookOn := goodIn_r _ [12, 13, 14, 15, 16, 17, 3, 4, 5, 6, 7, 8, 18, 19, 20, 21, 22, 23, 24, 25, 26, 27, 28, 29, 30, 31, 32, 33, 34, 35, 36, 37, 38, 39, 40, 41, 42, 43, 44, 45, 46, 47, 48, 49, 50, 51, 52, 53, 54, 55, 56, 57, 58, 59, 60, 61, 62, 85, 86, 87, 88, 89, 90, 91, 92, 93, 94, 95, 96, 97, 98, 99, 100, 101, 102, 103, 104, 105, 106, 107] (by decide +kernel) (by decide +kernel)
set_option maxRecDepth 20000 in
theorem gX1_tick_X1_lookOn : GoodIn wsX1_tick (wsV RX1 60 RX1 yX1_lookOn wsX1_lookOn) := goodIn_app (goodIn_of _ (by decide +kernel)) ggX1_tick_X1_lookOn
set_option maxRecDepth 20000 in
theorem ggX1_tick_X1_choose : GoodIn wsX1_tick wsX1_choose := goodIn_r _ [66, 67, 68, 17, 3, 4, 5, 6, 7, 8, 69, 70, 71, 72, 73, 74, 75, 76, 77, 15, 78, 79, 22, 23, 24, 25, 26, 27, 28, 29, 30, 31, 32, 33, 34, 35, 36, 37, 38, 39, 40, 41, 42, 43, 44, 45, 46, 47, 48, 49, 50, 51, 52, 53, 54, 55, 56, 57, 58, 59, 60, 61, 62, 18, 19, 20, 21, 80, 81, 82, 83, 84, 95, 96, 97, 98, 99, 100, 101, 102, 103, 104, 90, 91, 92, 93, 94, 85, 86, 87, 88, 89, 105, 106, 107] (by decide +kernel) (by decide +kernel)
set_option maxRecDepth 20000 in
theorem gX1_tick_X1_choose : GoodIn wsX1_tick (wsV RX1 64 RX1 yX1_choose wsX1_choose) := goodIn_app (goodIn_of _ (by decide +kernel)) ggX1_tick_X1_choose
theorem dX1_tick_0 : decode cX1_tick 0 = .ok (.iconst 0, 1) := by decide +kernel
theorem dX1_tick_1 : decode cX1_tick 1 = .ok (.istore_n 3, 1) := by decide +kernel
theorem dX1_tick_2 : decode cX1_tick 2 = .ok (.iload_n 3, 1) := by decide +kernel
theorem dX1_tick_3 : decode cX1_tick 3 = .ok (.aload_n 0, 1) := by decide +kernel
theorem dX1_tick_4 : decode cX1_tick 4 = .ok (.getfield 9, 3) := by decide +kernel
theorem dX1_tick_7 : decode cX1_tick 7 = .ok (.if_icmp .ge 26, 3) := by decide +kernel
theorem dX1_tick_10 : decode cX1_tick 10 = .ok (.aload_n 0, 1) := by decide +kernel
theorem dX1_tick_11 : decode cX1_tick 11 = .ok (.iload_n 3, 1) := by decide +kernel
theorem dX1_tick_12 : decode cX1_tick 12 = .ok (.iconst 3, 1) := by decide +kernel
theorem dX1_tick_13 : decode cX1_tick 13 = .ok (.invokevirtual 52, 3) := by decide +kernel
theorem dX1_tick_16 : decode cX1_tick 16 = .ok (.iconst 1, 1) := by decide +kernel
theorem dX1_tick_17 : decode cX1_tick 17 = .ok (.if_icmp .ne 10, 3) := by decide +kernel
theorem dX1_tick_20 : decode cX1_tick 20 = .ok (.aload_n 0, 1) := by decide +kernel
theorem dX1_tick_21 : decode cX1_tick 21 = .ok (.iload_n 3, 1) := by decide +kernel
theorem dX1_tick_22 : decode cX1_tick 22 = .ok (.aload_n 1, 1) := by decide +kernel
theorem dX1_tick_23 : decode cX1_tick 23 = .ok (.aload_n 2, 1) := by decide +kernel
theorem dX1_tick_24 : decode cX1_tick 24 = .ok (.invokevirtual 60, 3) := by decide +kernel
theorem dX1_tick_27 : decode cX1_tick 27 = .ok (.iinc 3 1, 3) := by decide +kernel
theorem dX1_tick_30 : decode cX1_tick 30 = .ok (.goto (-28), 3) := by decide +kernel
theorem dX1_tick_33 : decode cX1_tick 33 = .ok (.iconst 0, 1) := by decide +kernel
theorem dX1_tick_34 : decode cX1_tick 34 = .ok (.istore_n 3, 1) := by decide +kernel
theorem dX1_tick_35 : decode cX1_tick 35 = .ok (.iload_n 3, 1) := by decide +kernel
theorem dX1_tick_36 : decode cX1_tick 36 = .ok (.aload_n 0, 1) := by decide +kernel
theorem dX1_tick_37 : decode cX1_tick 37 = .ok (.getfield 9, 3) := by decide +kernel
theorem dX1_tick_40 : decode cX1_tick 40 = .ok (.if_icmp .ge 25, 3) := by decide +kernel
theorem dX1_tick_43 : decode cX1_tick 43 = .ok (.aload_n 0, 1) := by decide +kernel
theorem dX1_tick_44 : decode cX1_tick 44 = .ok (.iload_n 3, 1) := by decide +kernel
theorem dX1_tick_45 : decode cX1_tick 45 = .ok (.iconst 3, 1) := by decide +kernel
theorem dX1_tick_46 : decode cX1_tick 46 = .ok (.invokevirtual 52, 3) := by decide +kernel
theorem dX1_tick_49 : decode cX1_tick 49 = .ok (.ifCond .ne 10, 3) := by decide +kernel
theorem dX1_tick_52 : decode cX1_tick 52 = .ok (.aload_n 0, 1) := by decide +kernel
theorem dX1_tick_53 : decode cX1_tick 53 = .ok (.iload_n 3, 1) := by decide +kernel
theorem dX1_tick_54 : decode cX1_tick 54 = .ok (.aload_n 1, 1) := by decide +kernel
theorem dX1_tick_55 : decode cX1_tick 55 = .ok (.aload_n 2, 1) := by decide +kernel
theorem dX1_tick_56 : decode cX1_tick 56 = .ok (.invokevirtual 64, 3) := by decide +kernel
theorem dX1_tick_59 : decode cX1_tick 59 = .ok (.iinc 3 1, 3) := by decide +kernel
theorem dX1_tick_62 : decode cX1_tick 62 = .ok (.goto (-27), 3) := by decide +kernel
theorem dX1_tick_65 : decode cX1_tick 65 = .ok (.aload_n 0, 1) := by decide +kernel
theorem dX1_tick_66 : decode cX1_tick 66 = .ok (.dup, 1) := by decide +kernel
theorem dX1_tick_67 : decode cX1_tick 67 = .ok (.getfield 18, 3) := by decide +kernel
theorem dX1_tick_70 : decode cX1_tick 70 = .ok (.iconst 1, 1) := by decide +kernel
theorem dX1_tick_71 : decode cX1_tick 71 = .ok (.iadd, 1) := by decide +kernel
theorem dX1_tick_72 : decode cX1_tick 72 = .ok (.putfield 18, 3) := by decide +kernel
theorem dX1_tick_75 : decode cX1_tick 75 = .ok (.return_, 1) := by decide +kernel
set_option maxRecDepth 20000 in
theorem ggX1_lookOn_X1_fact : GoodIn wsX1_lookOn wsX1_fact := goodIn_r _ [10, 11, 57, 58, 59, 60, 61] (by decide +kernel) (by decide +kernel)
set_option maxRecDepth 20000 in
theorem gX1_lookOn_X1_fact : GoodIn wsX1_lookOn (wsV RX1 52 RX1 yX1_fact wsX1_fact) := goodIn_app (goodIn_of _ (by decide +kernel)) ggX1_lookOn_X1_fact
set_option maxRecDepth 20000 in
theorem ggX1_lookOn_X1_set : GoodIn wsX1_lookOn wsX1_set := goodIn_r _ [15, 11, 57, 58, 59, 60, 61] (by decide +kernel) (by decide +kernel)
set_option maxRecDepth 20000 in
theorem gX1_lookOn_X1_set : GoodIn wsX1_lookOn (wsV RX1 44 RX1 yX1_set wsX1_set) := goodIn_app (goodIn_of _ (by decide +kernel)) ggX1_lookOn_X1_set
set_option maxRecDepth 20000 in
theorem ggX1_lookOn_X5_priceFor : GoodIn wsX1_lookOn wsX5_priceFor := goodIn_r _ [20, 21, 22, 23, 24, 25, 26, 27, 28, 29, 30, 31, 32, 33, 34, 35, 36, 37, 38, 39, 40, 41, 42, 43, 3, 44, 45, 46, 47, 48, 49, 50, 51, 52, 62, 63, 64, 65, 66, 67, 68, 69, 70, 71, 72, 73, 74, 75, 76, 77, 78, 79] (by decide +kernel) (by decide +kernel)
set_option maxRecDepth 20000 in
theorem gX1_lookOn_X5_priceFor : GoodIn wsX1_lookOn (wsV RX1 67 RX5 yX5_priceFor wsX5_priceFor) := goodIn_app (goodIn_of _ (by decide +kernel)) ggX1_lookOn_X5_priceFor
set_option maxRecDepth 20000 in
theorem ggX1_lookOn_X1_endLook : GoodIn wsX1_lookOn wsX1_endLook := goodIn_r _ [56, 12, 13, 14, 9, 15, 11, 57, 58, 59, 60, 61] (by decide +kernel) (by decide +kernel)
set_option maxRecDepth 20000 in
theorem gX1_lookOn_X1_endLook : GoodIn wsX1_lookOn (wsV RX1 48 RX1 yX1_endLook wsX1_endLook) := goodIn_app (goodIn_of _ (by decide +kernel)) ggX1_lookOn_X1_endLook
theorem dX1_lookOn_0 : decode cX1_lookOn 0 = .ok (.aload_n 0, 1) := by decide +kernel
theorem dX1_lookOn_1 : decode cX1_lookOn 1 = .ok (.iload_n 1, 1) := by decide +kernel
theorem dX1_lookOn_2 : decode cX1_lookOn 2 = .ok (.iconst 5, 1) := by decide +kernel
theorem dX1_lookOn_3 : decode cX1_lookOn 3 = .ok (.invokevirtual 52, 3) := by decide +kernel
theorem dX1_lookOn_6 : decode cX1_lookOn 6 = .ok (.iconst 1, 1) := by decide +kernel
theorem dX1_lookOn_7 : decode cX1_lookOn 7 = .ok (.isub, 1) := by decide +kernel
theorem dX1_lookOn_8 : decode cX1_lookOn 8 = .ok (.istore 4, 2) := by decide +kernel
theorem dX1_lookOn_10 : decode cX1_lookOn 10 = .ok (.aload_n 0, 1) := by decide +kernel
theorem dX1_lookOn_11 : decode cX1_lookOn 11 = .ok (.iload_n 1, 1) := by decide +kernel
theorem dX1_lookOn_12 : decode cX1_lookOn 12 = .ok (.iconst 5, 1) := by decide +kernel
theorem dX1_lookOn_13 : decode cX1_lookOn 13 = .ok (.iload 4, 2) := by decide +kernel
theorem dX1_lookOn_15 : decode cX1_lookOn 15 = .ok (.invokevirtual 44, 3) := by decide +kernel
theorem dX1_lookOn_18 : decode cX1_lookOn 18 = .ok (.iload 4, 2) := by decide +kernel
theorem dX1_lookOn_20 : decode cX1_lookOn 20 = .ok (.ifCond .le 4, 3) := by decide +kernel
theorem dX1_lookOn_23 : decode cX1_lookOn 23 = .ok (.return_, 1) := by decide +kernel
theorem dX1_lookOn_24 : decode cX1_lookOn 24 = .ok (.aload_n 0, 1) := by decide +kernel
theorem dX1_lookOn_25 : decode cX1_lookOn 25 = .ok (.iload_n 1, 1) := by decide +kernel
theorem dX1_lookOn_26 : decode cX1_lookOn 26 = .ok (.iconst 4, 1) := by decide +kernel
theorem dX1_lookOn_27 : decode cX1_lookOn 27 = .ok (.invokevirtual 52, 3) := by decide +kernel
theorem dX1_lookOn_30 : decode cX1_lookOn 30 = .ok (.istore 5, 2) := by decide +kernel
theorem dX1_lookOn_32 : decode cX1_lookOn 32 = .ok (.aload_n 0, 1) := by decide +kernel
theorem dX1_lookOn_33 : decode cX1_lookOn 33 = .ok (.iload_n 1, 1) := by decide +kernel
theorem dX1_lookOn_34 : decode cX1_lookOn 34 = .ok (.iconst 2, 1) := by decide +kernel
theorem dX1_lookOn_35 : decode cX1_lookOn 35 = .ok (.invokevirtual 52, 3) := by decide +kernel
theorem dX1_lookOn_38 : decode cX1_lookOn 38 = .ok (.istore 6, 2) := by decide +kernel
theorem dX1_lookOn_40 : decode cX1_lookOn 40 = .ok (.iload 6, 2) := by decide +kernel
theorem dX1_lookOn_42 : decode cX1_lookOn 42 = .ok (.aload_n 3, 1) := by decide +kernel
theorem dX1_lookOn_43 : decode cX1_lookOn 43 = .ok (.aload_n 2, 1) := by decide +kernel
theorem dX1_lookOn_44 : decode cX1_lookOn 44 = .ok (.aload_n 0, 1) := by decide +kernel
theorem dX1_lookOn_45 : decode cX1_lookOn 45 = .ok (.iload_n 1, 1) := by decide +kernel
theorem dX1_lookOn_46 : decode cX1_lookOn 46 = .ok (.iconst 1, 1) := by decide +kernel
theorem dX1_lookOn_47 : decode cX1_lookOn 47 = .ok (.invokevirtual 52, 3) := by decide +kernel
theorem dX1_lookOn_50 : decode cX1_lookOn 50 = .ok (.iload 5, 2) := by decide +kernel
theorem dX1_lookOn_52 : decode cX1_lookOn 52 = .ok (.invokevirtual 67, 3) := by decide +kernel
theorem dX1_lookOn_55 : decode cX1_lookOn 55 = .ok (.invokestatic 73, 3) := by decide +kernel
theorem dX1_lookOn_58 : decode cX1_lookOn 58 = .ok (.istore 7, 2) := by decide +kernel
theorem dX1_lookOn_60 : decode cX1_lookOn 60 = .ok (.aload_n 0, 1) := by decide +kernel
theorem dX1_lookOn_61 : decode cX1_lookOn 61 = .ok (.iload_n 1, 1) := by decide +kernel
theorem dX1_lookOn_62 : decode cX1_lookOn 62 = .ok (.iconst 2, 1) := by decide +kernel
theorem dX1_lookOn_63 : decode cX1_lookOn 63 = .ok (.iload 6, 2) := by decide +kernel
theorem dX1_lookOn_65 : decode cX1_lookOn 65 = .ok (.iload 7, 2) := by decide +kernel
theorem dX1_lookOn_67 : decode cX1_lookOn 67 = .ok (.isub, 1) := by decide +kernel
theorem dX1_lookOn_68 : decode cX1_lookOn 68 = .ok (.invokevirtual 44, 3) := by decide +kernel
theorem dX1_lookOn_71 : decode cX1_lookOn 71 = .ok (.aload_n 0, 1) := by decide +kernel
theorem dX1_lookOn_72 : decode cX1_lookOn 72 = .ok (.iload_n 1, 1) := by decide +kernel
theorem dX1_lookOn_73 : decode cX1_lookOn 73 = .ok (.bipush 6, 2) := by decide +kernel
theorem dX1_lookOn_75 : decode cX1_lookOn 75 = .ok (.iload 7, 2) := by decide +kernel
theorem dX1_lookOn_77 : decode cX1_lookOn 77 = .ok (.invokevirtual 44, 3) := by decide +kernel
theorem dX1_lookOn_80 : decode cX1_lookOn 80 = .ok (.aload_n 0, 1) := by decide +kernel
theorem dX1_lookOn_81 : decode cX1_lookOn 81 = .ok (.getfield 21, 3) := by decide +kernel
theorem dX1_lookOn_84 : decode cX1_lookOn 84 = .ok (.iload 5, 2) := by decide +kernel
theorem dX1_lookOn_86 : decode cX1_lookOn 86 = .ok (.iconst (-1), 1) := by decide +kernel
theorem dX1_lookOn_87 : decode cX1_lookOn 87 = .ok (.iastore, 1) := by decide +kernel
theorem dX1_lookOn_88 : decode cX1_lookOn 88 = .ok (.aload_n 0, 1) := by decide +kernel
theorem dX1_lookOn_89 : decode cX1_lookOn 89 = .ok (.iload_n 1, 1) := by decide +kernel
theorem dX1_lookOn_90 : decode cX1_lookOn 90 = .ok (.iconst 2, 1) := by decide +kernel
theorem dX1_lookOn_91 : decode cX1_lookOn 91 = .ok (.invokevirtual 48, 3) := by decide +kernel
theorem dX1_lookOn_94 : decode cX1_lookOn 94 = .ok (.return_, 1) := by decide +kernel
set_option maxRecDepth 20000 in
theorem ggX1_choose_X1_fact : GoodIn wsX1_choose wsX1_fact := goodIn_r _ [8, 9, 87, 88, 89, 90, 91] (by decide +kernel) (by decide +kernel)
set_option maxRecDepth 20000 in
theorem gX1_choose_X1_fact : GoodIn wsX1_choose (wsV RX1 52 RX1 yX1_fact wsX1_fact) := goodIn_app (goodIn_of _ (by decide +kernel)) ggX1_choose_X1_fact
set_option maxRecDepth 20000 in
theorem ggX1_choose_X0_canUse : GoodIn wsX1_choose wsX0_canUse := goodIn_r _ [14, 15, 16, 17, 18, 19, 20, 21, 72, 73, 74, 75, 76, 77, 78, 79, 80, 81] (by decide +kernel) (by decide +kernel)
set_option maxRecDepth 20000 in
theorem gX1_choose_X0_canUse : GoodIn wsX1_choose (wsV RX1 83 RX0 yX0_canUse wsX0_canUse) := goodIn_app (goodIn_of _ (by decide +kernel)) ggX1_choose_X0_canUse
set_option maxRecDepth 20000 in
theorem ggX1_choose_X5_priceFor : GoodIn wsX1_choose wsX5_priceFor := goodIn_r _ [26, 27, 28, 29, 30, 31, 32, 33, 34, 35, 36, 37, 38, 39, 40, 41, 42, 43, 44, 45, 46, 47, 48, 49, 19, 50, 51, 52, 53, 54, 55, 56, 57, 58, 82, 83, 84, 85, 86, 72, 73, 74, 75, 76, 77, 78, 79, 80, 81, 92, 93, 94] (by decide +kernel) (by decide +kernel)
set_option maxRecDepth 20000 in
theorem gX1_choose_X5_priceFor : GoodIn wsX1_choose (wsV RX1 67 RX5 yX5_priceFor wsX5_priceFor) := goodIn_app (goodIn_of _ (by decide +kernel)) ggX1_choose_X5_priceFor
set_option maxRecDepth 20000 in
theorem ggX1_choose_X1_endLook : GoodIn wsX1_choose wsX1_endLook := goodIn_r _ [62, 63, 64, 65, 7, 66, 9, 87, 88, 89, 90, 91] (by decide +kernel) (by decide +kernel)
set_option maxRecDepth 20000 in
theorem gX1_choose_X1_endLook : GoodIn wsX1_choose (wsV RX1 48 RX1 yX1_endLook wsX1_endLook) := goodIn_app (goodIn_of _ (by decide +kernel)) ggX1_choose_X1_endLook
set_option maxRecDepth 20000 in
theorem ggX1_choose_X1_beginLook : GoodIn wsX1_choose wsX1_beginLook := goodIn_r _ [70, 3, 71, 63, 64, 65, 7, 66, 9, 87, 88, 89, 90, 91] (by decide +kernel) (by decide +kernel)
set_option maxRecDepth 20000 in
theorem gX1_choose_X1_beginLook : GoodIn wsX1_choose (wsV RX1 90 RX1 yX1_beginLook wsX1_beginLook) := goodIn_app (goodIn_of _ (by decide +kernel)) ggX1_choose_X1_beginLook
theorem dX1_choose_0 : decode cX1_choose 0 = .ok (.aload_n 0, 1) := by decide +kernel
theorem dX1_choose_1 : decode cX1_choose 1 = .ok (.iload_n 1, 1) := by decide +kernel
theorem dX1_choose_2 : decode cX1_choose 2 = .ok (.iconst 1, 1) := by decide +kernel
theorem dX1_choose_3 : decode cX1_choose 3 = .ok (.invokevirtual 52, 3) := by decide +kernel
theorem dX1_choose_6 : decode cX1_choose 6 = .ok (.istore 4, 2) := by decide +kernel
theorem dX1_choose_8 : decode cX1_choose 8 = .ok (.iconst 0, 1) := by decide +kernel
theorem dX1_choose_9 : decode cX1_choose 9 = .ok (.istore 5, 2) := by decide +kernel
theorem dX1_choose_11 : decode cX1_choose 11 = .ok (.iconst (-1), 1) := by decide +kernel
theorem dX1_choose_12 : decode cX1_choose 12 = .ok (.istore 6, 2) := by decide +kernel
theorem dX1_choose_14 : decode cX1_choose 14 = .ok (.iconst (-1), 1) := by decide +kernel
theorem dX1_choose_15 : decode cX1_choose 15 = .ok (.istore 7, 2) := by decide +kernel
theorem dX1_choose_17 : decode cX1_choose 17 = .ok (.iconst 0, 1) := by decide +kernel
theorem dX1_choose_18 : decode cX1_choose 18 = .ok (.istore 8, 2) := by decide +kernel
theorem dX1_choose_20 : decode cX1_choose 20 = .ok (.iload 8, 2) := by decide +kernel
theorem dX1_choose_22 : decode cX1_choose 22 = .ok (.aload_n 2, 1) := by decide +kernel
theorem dX1_choose_23 : decode cX1_choose 23 = .ok (.getfield 78, 3) := by decide +kernel
theorem dX1_choose_26 : decode cX1_choose 26 = .ok (.if_icmp .ge 86, 3) := by decide +kernel
theorem dX1_choose_29 : decode cX1_choose 29 = .ok (.aload_n 2, 1) := by decide +kernel
theorem dX1_choose_30 : decode cX1_choose 30 = .ok (.aload_n 0, 1) := by decide +kernel
theorem dX1_choose_31 : decode cX1_choose 31 = .ok (.iload_n 1, 1) := by decide +kernel
theorem dX1_choose_32 : decode cX1_choose 32 = .ok (.iconst 0, 1) := by decide +kernel
theorem dX1_choose_33 : decode cX1_choose 33 = .ok (.invokevirtual 52, 3) := by decide +kernel
theorem dX1_choose_36 : decode cX1_choose 36 = .ok (.iload 8, 2) := by decide +kernel
theorem dX1_choose_38 : decode cX1_choose 38 = .ok (.invokevirtual 83, 3) := by decide +kernel
theorem dX1_choose_41 : decode cX1_choose 41 = .ok (.ifCond .eq 65, 3) := by decide +kernel
theorem dX1_choose_44 : decode cX1_choose 44 = .ok (.aload_n 3, 1) := by decide +kernel
theorem dX1_choose_45 : decode cX1_choose 45 = .ok (.aload_n 2, 1) := by decide +kernel
theorem dX1_choose_46 : decode cX1_choose 46 = .ok (.iload 4, 2) := by decide +kernel
theorem dX1_choose_48 : decode cX1_choose 48 = .ok (.iload 8, 2) := by decide +kernel
theorem dX1_choose_50 : decode cX1_choose 50 = .ok (.invokevirtual 67, 3) := by decide +kernel
theorem dX1_choose_53 : decode cX1_choose 53 = .ok (.aload_n 0, 1) := by decide +kernel
theorem dX1_choose_54 : decode cX1_choose 54 = .ok (.iload_n 1, 1) := by decide +kernel
theorem dX1_choose_55 : decode cX1_choose 55 = .ok (.iconst 2, 1) := by decide +kernel
theorem dX1_choose_56 : decode cX1_choose 56 = .ok (.invokevirtual 52, 3) := by decide +kernel
theorem dX1_choose_59 : decode cX1_choose 59 = .ok (.if_icmp .gt 47, 3) := by decide +kernel
theorem dX1_choose_62 : decode cX1_choose 62 = .ok (.iconst 1, 1) := by decide +kernel
theorem dX1_choose_63 : decode cX1_choose 63 = .ok (.istore 5, 2) := by decide +kernel
theorem dX1_choose_65 : decode cX1_choose 65 = .ok (.aload_n 3, 1) := by decide +kernel
theorem dX1_choose_66 : decode cX1_choose 66 = .ok (.getfield 87, 3) := by decide +kernel
theorem dX1_choose_69 : decode cX1_choose 69 = .ok (.iload 8, 2) := by decide +kernel
theorem dX1_choose_71 : decode cX1_choose 71 = .ok (.bipush 26, 2) := by decide +kernel
theorem dX1_choose_73 : decode cX1_choose 73 = .ok (.imul, 1) := by decide +kernel
theorem dX1_choose_74 : decode cX1_choose 74 = .ok (.iload 4, 2) := by decide +kernel
theorem dX1_choose_76 : decode cX1_choose 76 = .ok (.iadd, 1) := by decide +kernel
theorem dX1_choose_77 : decode cX1_choose 77 = .ok (.iaload, 1) := by decide +kernel
theorem dX1_choose_78 : decode cX1_choose 78 = .ok (.istore 9, 2) := by decide +kernel
theorem dX1_choose_80 : decode cX1_choose 80 = .ok (.aload_n 0, 1) := by decide +kernel
theorem dX1_choose_81 : decode cX1_choose 81 = .ok (.getfield 21, 3) := by decide +kernel
theorem dX1_choose_84 : decode cX1_choose 84 = .ok (.iload 8, 2) := by decide +kernel
theorem dX1_choose_86 : decode cX1_choose 86 = .ok (.iaload, 1) := by decide +kernel
theorem dX1_choose_87 : decode cX1_choose 87 = .ok (.iconst (-1), 1) := by decide +kernel
theorem dX1_choose_88 : decode cX1_choose 88 = .ok (.if_icmp .ne 18, 3) := by decide +kernel
theorem dX1_choose_91 : decode cX1_choose 91 = .ok (.iload 9, 2) := by decide +kernel
theorem dX1_choose_93 : decode cX1_choose 93 = .ok (.iload 7, 2) := by decide +kernel
theorem dX1_choose_95 : decode cX1_choose 95 = .ok (.if_icmp .le 11, 3) := by decide +kernel
theorem dX1_choose_98 : decode cX1_choose 98 = .ok (.iload 9, 2) := by decide +kernel
theorem dX1_choose_100 : decode cX1_choose 100 = .ok (.istore 7, 2) := by decide +kernel
theorem dX1_choose_102 : decode cX1_choose 102 = .ok (.iload 8, 2) := by decide +kernel
theorem dX1_choose_104 : decode cX1_choose 104 = .ok (.istore 6, 2) := by decide +kernel
theorem dX1_choose_106 : decode cX1_choose 106 = .ok (.iinc 8 1, 3) := by decide +kernel
theorem dX1_choose_109 : decode cX1_choose 109 = .ok (.goto (-89), 3) := by decide +kernel
theorem dX1_choose_112 : decode cX1_choose 112 = .ok (.iload 5, 2) := by decide +kernel
theorem dX1_choose_114 : decode cX1_choose 114 = .ok (.ifCond .ne 12, 3) := by decide +kernel
theorem dX1_choose_117 : decode cX1_choose 117 = .ok (.aload_n 0, 1) := by decide +kernel
theorem dX1_choose_118 : decode cX1_choose 118 = .ok (.iload_n 1, 1) := by decide +kernel
theorem dX1_choose_119 : decode cX1_choose 119 = .ok (.iconst 3, 1) := by decide +kernel
theorem dX1_choose_120 : decode cX1_choose 120 = .ok (.invokevirtual 48, 3) := by decide +kernel
theorem dX1_choose_123 : decode cX1_choose 123 = .ok (.goto 15, 3) := by decide +kernel
theorem dX1_choose_126 : decode cX1_choose 126 = .ok (.iload 6, 2) := by decide +kernel
theorem dX1_choose_128 : decode cX1_choose 128 = .ok (.ifCond .lt 10, 3) := by decide +kernel
theorem dX1_choose_131 : decode cX1_choose 131 = .ok (.aload_n 0, 1) := by decide +kernel
theorem dX1_choose_132 : decode cX1_choose 132 = .ok (.iload_n 1, 1) := by decide +kernel
theorem dX1_choose_133 : decode cX1_choose 133 = .ok (.iload 6, 2) := by decide +kernel
theorem dX1_choose_135 : decode cX1_choose 135 = .ok (.invokevirtual 90, 3) := by decide +kernel
theorem dX1_choose_138 : decode cX1_choose 138 = .ok (.return_, 1) := by decide +kernel
set_option maxRecDepth 20000 in
theorem ggX1_beginLook_X1_set : GoodIn wsX1_beginLook wsX1_set := goodIn_r _ [7, 8, 9, 10, 11, 12, 13] (by decide +kernel) (by decide +kernel)
set_option maxRecDepth 20000 in
theorem gX1_beginLook_X1_set : GoodIn wsX1_beginLook (wsV RX1 44 RX1 yX1_set wsX1_set) := goodIn_app (goodIn_of _ (by decide +kernel)) ggX1_beginLook_X1_set
theorem dX1_beginLook_0 : decode cX1_beginLook 0 = .ok (.aload_n 0, 1) := by decide +kernel
theorem dX1_beginLook_1 : decode cX1_beginLook 1 = .ok (.getfield 21, 3) := by decide +kernel
theorem dX1_beginLook_4 : decode cX1_beginLook 4 = .ok (.iload_n 2, 1) := by decide +kernel
theorem dX1_beginLook_5 : decode cX1_beginLook 5 = .ok (.iload_n 1, 1) := by decide +kernel
theorem dX1_beginLook_6 : decode cX1_beginLook 6 = .ok (.iastore, 1) := by decide +kernel
theorem dX1_beginLook_7 : decode cX1_beginLook 7 = .ok (.aload_n 0, 1) := by decide +kernel
theorem dX1_beginLook_8 : decode cX1_beginLook 8 = .ok (.iload_n 1, 1) := by decide +kernel
theorem dX1_beginLook_9 : decode cX1_beginLook 9 = .ok (.iconst 3, 1) := by decide +kernel
theorem dX1_beginLook_10 : decode cX1_beginLook 10 = .ok (.iconst 1, 1) := by decide +kernel
theorem dX1_beginLook_11 : decode cX1_beginLook 11 = .ok (.invokevirtual 44, 3) := by decide +kernel
theorem dX1_beginLook_14 : decode cX1_beginLook 14 = .ok (.aload_n 0, 1) := by decide +kernel
theorem dX1_beginLook_15 : decode cX1_beginLook 15 = .ok (.iload_n 1, 1) := by decide +kernel
theorem dX1_beginLook_16 : decode cX1_beginLook 16 = .ok (.iconst 4, 1) := by decide +kernel
theorem dX1_beginLook_17 : decode cX1_beginLook 17 = .ok (.iload_n 2, 1) := by decide +kernel
theorem dX1_beginLook_18 : decode cX1_beginLook 18 = .ok (.invokevirtual 44, 3) := by decide +kernel
theorem dX1_beginLook_21 : decode cX1_beginLook 21 = .ok (.aload_n 0, 1) := by decide +kernel
theorem dX1_beginLook_22 : decode cX1_beginLook 22 = .ok (.iload_n 1, 1) := by decide +kernel
theorem dX1_beginLook_23 : decode cX1_beginLook 23 = .ok (.iconst 5, 1) := by decide +kernel
theorem dX1_beginLook_24 : decode cX1_beginLook 24 = .ok (.aload_n 0, 1) := by decide +kernel
theorem dX1_beginLook_25 : decode cX1_beginLook 25 = .ok (.getfield 15, 3) := by decide +kernel
theorem dX1_beginLook_28 : decode cX1_beginLook 28 = .ok (.invokevirtual 44, 3) := by decide +kernel
theorem dX1_beginLook_31 : decode cX1_beginLook 31 = .ok (.return_, 1) := by decide +kernel
set_option maxRecDepth 20000 in
theorem ggX1_endLook_X1_set : GoodIn wsX1_endLook wsX1_set := goodIn_r _ [5, 6, 7, 8, 9, 10, 11] (by decide +kernel) (by decide +kernel)
set_option maxRecDepth 20000 in
theorem gX1_endLook_X1_set : GoodIn wsX1_endLook (wsV RX1 44 RX1 yX1_set wsX1_set) := goodIn_app (goodIn_of _ (by decide +kernel)) ggX1_endLook_X1_set
theorem dX1_endLook_0 : decode cX1_endLook 0 = .ok (.aload_n 0, 1) := by decide +kernel
theorem dX1_endLook_1 : decode cX1_endLook 1 = .ok (.iload_n 1, 1) := by decide +kernel
theorem dX1_endLook_2 : decode cX1_endLook 2 = .ok (.iconst 3, 1) := by decide +kernel
theorem dX1_endLook_3 : decode cX1_endLook 3 = .ok (.iload_n 2, 1) := by decide +kernel
theorem dX1_endLook_4 : decode cX1_endLook 4 = .ok (.invokevirtual 44, 3) := by decide +kernel
theorem dX1_endLook_7 : decode cX1_endLook 7 = .ok (.aload_n 0, 1) := by decide +kernel
theorem dX1_endLook_8 : decode cX1_endLook 8 = .ok (.iload_n 1, 1) := by decide +kernel
theorem dX1_endLook_9 : decode cX1_endLook 9 = .ok (.iconst 4, 1) := by decide +kernel
theorem dX1_endLook_10 : decode cX1_endLook 10 = .ok (.iconst (-1), 1) := by decide +kernel
theorem dX1_endLook_11 : decode cX1_endLook 11 = .ok (.invokevirtual 44, 3) := by decide +kernel
theorem dX1_endLook_14 : decode cX1_endLook 14 = .ok (.aload_n 0, 1) := by decide +kernel
theorem dX1_endLook_15 : decode cX1_endLook 15 = .ok (.iload_n 1, 1) := by decide +kernel
theorem dX1_endLook_16 : decode cX1_endLook 16 = .ok (.iconst 5, 1) := by decide +kernel
theorem dX1_endLook_17 : decode cX1_endLook 17 = .ok (.iconst 0, 1) := by decide +kernel
theorem dX1_endLook_18 : decode cX1_endLook 18 = .ok (.invokevirtual 44, 3) := by decide +kernel
theorem dX1_endLook_21 : decode cX1_endLook 21 = .ok (.return_, 1) := by decide +kernel
theorem dX2_init_0 : decode cX2_init 0 = .ok (.aload_n 0, 1) := by decide +kernel
theorem dX2_init_1 : decode cX2_init 1 = .ok (.invokespecial 3, 3) := by decide +kernel
theorem dX2_init_4 : decode cX2_init 4 = .ok (.aload_n 0, 1) := by decide +kernel
theorem dX2_init_5 : decode cX2_init 5 = .ok (.sipush 800, 3) := by decide +kernel
theorem dX2_init_8 : decode cX2_init 8 = .ok (.newarray .int, 2) := by decide +kernel
theorem dX2_init_10 : decode cX2_init 10 = .ok (.putfield 9, 3) := by decide +kernel
theorem dX2_init_13 : decode cX2_init 13 = .ok (.aload_n 0, 1) := by decide +kernel
theorem dX2_init_14 : decode cX2_init 14 = .ok (.iconst 0, 1) := by decide +kernel
theorem dX2_init_15 : decode cX2_init 15 = .ok (.putfield 15, 3) := by decide +kernel
theorem dX2_init_18 : decode cX2_init 18 = .ok (.aload_n 0, 1) := by decide +kernel
theorem dX2_init_19 : decode cX2_init 19 = .ok (.bipush 16, 2) := by decide +kernel
theorem dX2_init_21 : decode cX2_init 21 = .ok (.newarray .int, 2) := by decide +kernel
theorem dX2_init_23 : decode cX2_init 23 = .ok (.putfield 19, 3) := by decide +kernel
theorem dX2_init_26 : decode cX2_init 26 = .ok (.return_, 1) := by decide +kernel
set_option maxRecDepth 20000 in
theorem ggX2_begin_X2_clear : GoodIn wsX2_begin wsX2_clear := goodIn_r _ [5, 6, 16, 17, 18] (by decide +kernel) (by decide +kernel)
set_option maxRecDepth 20000 in
theorem gX2_begin_X2_clear : GoodIn wsX2_begin (wsV RX2 22 RX2 yX2_clear wsX2_clear) := goodIn_app (goodIn_of _ (by decide +kernel)) ggX2_begin_X2_clear
set_option maxRecDepth 20000 in
theorem ggX2_begin_X2_add : GoodIn wsX2_begin wsX2_add := goodIn_r _ [10, 6, 11, 16, 17, 18] (by decide +kernel) (by decide +kernel)
set_option maxRecDepth 20000 in
theorem gX2_begin_X2_add : GoodIn wsX2_begin (wsV RX2 25 RX2 yX2_add wsX2_add) := goodIn_app (goodIn_of _ (by decide +kernel)) ggX2_begin_X2_add
set_option maxRecDepth 20000 in
theorem ggX2_begin_X2_addOperation : GoodIn wsX2_begin wsX2_addOperation := goodIn_r _ [15, 7, 8, 9, 4, 10, 6, 11, 16, 17, 18] (by decide +kernel) (by decide +kernel)
set_option maxRecDepth 20000 in
theorem gX2_begin_X2_addOperation : GoodIn wsX2_begin (wsV RX2 29 RX2 yX2_addOperation wsX2_addOperation) := goodIn_app (goodIn_of _ (by decide +kernel)) ggX2_begin_X2_addOperation
theorem dX2_begin_0 : decode cX2_begin 0 = .ok (.aload_n 0, 1) := by decide +kernel
theorem dX2_begin_1 : decode cX2_begin 1 = .ok (.invokevirtual 22, 3) := by decide +kernel
theorem dX2_begin_4 : decode cX2_begin 4 = .ok (.aload_n 0, 1) := by decide +kernel
theorem dX2_begin_5 : decode cX2_begin 5 = .ok (.iconst 1, 1) := by decide +kernel
theorem dX2_begin_6 : decode cX2_begin 6 = .ok (.invokevirtual 25, 3) := by decide +kernel
theorem dX2_begin_9 : decode cX2_begin 9 = .ok (.aload_n 0, 1) := by decide +kernel
theorem dX2_begin_10 : decode cX2_begin 10 = .ok (.iconst (-1), 1) := by decide +kernel
theorem dX2_begin_11 : decode cX2_begin 11 = .ok (.invokevirtual 25, 3) := by decide +kernel
theorem dX2_begin_14 : decode cX2_begin 14 = .ok (.aload_n 0, 1) := by decide +kernel
theorem dX2_begin_15 : decode cX2_begin 15 = .ok (.bipush 43, 2) := by decide +kernel
theorem dX2_begin_17 : decode cX2_begin 17 = .ok (.invokevirtual 29, 3) := by decide +kernel
theorem dX2_begin_20 : decode cX2_begin 20 = .ok (.return_, 1) := by decide +kernel
theorem dX2_clear_0 : decode cX2_clear 0 = .ok (.aload_n 0, 1) := by decide +kernel
theorem dX2_clear_1 : decode cX2_clear 1 = .ok (.iconst 0, 1) := by decide +kernel
theorem dX2_clear_2 : decode cX2_clear 2 = .ok (.putfield 15, 3) := by decide +kernel
theorem dX2_clear_5 : decode cX2_clear 5 = .ok (.return_, 1) := by decide +kernel
theorem dX2_add_0 : decode cX2_add 0 = .ok (.aload_n 0, 1) := by decide +kernel
theorem dX2_add_1 : decode cX2_add 1 = .ok (.getfield 15, 3) := by decide +kernel
theorem dX2_add_4 : decode cX2_add 4 = .ok (.aload_n 0, 1) := by decide +kernel
theorem dX2_add_5 : decode cX2_add 5 = .ok (.getfield 9, 3) := by decide +kernel
theorem dX2_add_8 : decode cX2_add 8 = .ok (.arraylength, 1) := by decide +kernel
theorem dX2_add_9 : decode cX2_add 9 = .ok (.if_icmp .ge 23, 3) := by decide +kernel
theorem dX2_add_12 : decode cX2_add 12 = .ok (.aload_n 0, 1) := by decide +kernel
theorem dX2_add_13 : decode cX2_add 13 = .ok (.getfield 9, 3) := by decide +kernel
theorem dX2_add_16 : decode cX2_add 16 = .ok (.aload_n 0, 1) := by decide +kernel
theorem dX2_add_17 : decode cX2_add 17 = .ok (.getfield 15, 3) := by decide +kernel
theorem dX2_add_20 : decode cX2_add 20 = .ok (.iload_n 1, 1) := by decide +kernel
theorem dX2_add_21 : decode cX2_add 21 = .ok (.iastore, 1) := by decide +kernel
theorem dX2_add_22 : decode cX2_add 22 = .ok (.aload_n 0, 1) := by decide +kernel
theorem dX2_add_23 : decode cX2_add 23 = .ok (.dup, 1) := by decide +kernel
theorem dX2_add_24 : decode cX2_add 24 = .ok (.getfield 15, 3) := by decide +kernel
theorem dX2_add_27 : decode cX2_add 27 = .ok (.iconst 1, 1) := by decide +kernel
theorem dX2_add_28 : decode cX2_add 28 = .ok (.iadd, 1) := by decide +kernel
theorem dX2_add_29 : decode cX2_add 29 = .ok (.putfield 15, 3) := by decide +kernel
theorem dX2_add_32 : decode cX2_add 32 = .ok (.return_, 1) := by decide +kernel
set_option maxRecDepth 20000 in
theorem ggX2_addOperation_X2_add : GoodIn wsX2_addOperation wsX2_add := goodIn_r _ [5, 6, 7, 8, 9, 10] (by decide +kernel) (by decide +kernel)
set_option maxRecDepth 20000 in
theorem gX2_addOperation_X2_add : GoodIn wsX2_addOperation (wsV RX2 25 RX2 yX2_add wsX2_add) := goodIn_app (goodIn_of _ (by decide +kernel)) ggX2_addOperation_X2_add
theorem dX2_addOperation_0 : decode cX2_addOperation 0 = .ok (.iload_n 1, 1) := by decide +kernel
theorem dX2_addOperation_1 : decode cX2_addOperation 1 = .ok (.ifCond .eq 9, 3) := by decide +kernel
theorem dX2_addOperation_4 : decode cX2_addOperation 4 = .ok (.aload_n 0, 1) := by decide +kernel
theorem dX2_addOperation_5 : decode cX2_addOperation 5 = .ok (.iload_n 1, 1) := by decide +kernel
theorem dX2_addOperation_6 : decode cX2_addOperation 6 = .ok (.ineg, 1) := by decide +kernel
theorem dX2_addOperation_7 : decode cX2_addOperation 7 = .ok (.invokevirtual 25, 3) := by decide +kernel
theorem dX2_addOperation_10 : decode cX2_addOperation 10 = .ok (.return_, 1) := by decide +kernel
theorem dX2_copyFrom_0 : decode cX2_copyFrom 0 = .ok (.aload_n 0, 1) := by decide +kernel
theorem dX2_copyFrom_1 : decode cX2_copyFrom 1 = .ok (.aload_n 1, 1) := by decide +kernel
theorem dX2_copyFrom_2 : decode cX2_copyFrom 2 = .ok (.getfield 15, 3) := by decide +kernel
theorem dX2_copyFrom_5 : decode cX2_copyFrom 5 = .ok (.putfield 15, 3) := by decide +kernel
theorem dX2_copyFrom_8 : decode cX2_copyFrom 8 = .ok (.aload_n 1, 1) := by decide +kernel
theorem dX2_copyFrom_9 : decode cX2_copyFrom 9 = .ok (.getfield 9, 3) := by decide +kernel
theorem dX2_copyFrom_12 : decode cX2_copyFrom 12 = .ok (.iconst 0, 1) := by decide +kernel
theorem dX2_copyFrom_13 : decode cX2_copyFrom 13 = .ok (.aload_n 0, 1) := by decide +kernel
theorem dX2_copyFrom_14 : decode cX2_copyFrom 14 = .ok (.getfield 9, 3) := by decide +kernel
theorem dX2_copyFrom_17 : decode cX2_copyFrom 17 = .ok (.iconst 0, 1) := by decide +kernel
theorem dX2_copyFrom_18 : decode cX2_copyFrom 18 = .ok (.aload_n 0, 1) := by decide +kernel
theorem dX2_copyFrom_19 : decode cX2_copyFrom 19 = .ok (.getfield 15, 3) := by decide +kernel
theorem dX2_copyFrom_22 : decode cX2_copyFrom 22 = .ok (.invokestatic 32, 3) := by decide +kernel
theorem dX2_copyFrom_25 : decode cX2_copyFrom 25 = .ok (.return_, 1) := by decide +kernel
set_option maxRecDepth 20000 in
theorem ggX2_value_X2_combine : GoodIn wsX2_value wsX2_combine := goodIn_r _ [7, 8, 9, 10, 11, 12, 13, 14, 15, 16, 17, 18, 19, 20, 21] (by decide +kernel) (by decide +kernel)
set_option maxRecDepth 20000 in
theorem gX2_value_X2_combine : GoodIn wsX2_value (va_wsS RX2 38 yX2_combine wsX2_combine) := goodIn_app (goodIn_of _ (by decide +kernel)) ggX2_value_X2_combine
set_option maxRecDepth 20000 in
theorem ggX2_value_X2_operand : GoodIn wsX2_value wsX2_operand := goodIn_r _ [24] (by decide +kernel) (by decide +kernel)
set_option maxRecDepth 20000 in
theorem gX2_value_X2_operand : GoodIn wsX2_value (va_wsS RX2 42 yX2_operand wsX2_operand) := goodIn_app (goodIn_of _ (by decide +kernel)) ggX2_value_X2_operand
theorem dX2_value_0 : decode cX2_value 0 = .ok (.iconst 0, 1) := by decide +kernel
theorem dX2_value_1 : decode cX2_value 1 = .ok (.istore 5, 2) := by decide +kernel
theorem dX2_value_3 : decode cX2_value 3 = .ok (.iconst 0, 1) := by decide +kernel
theorem dX2_value_4 : decode cX2_value 4 = .ok (.istore 6, 2) := by decide +kernel
theorem dX2_value_6 : decode cX2_value 6 = .ok (.iload 6, 2) := by decide +kernel
theorem dX2_value_8 : decode cX2_value 8 = .ok (.aload_n 0, 1) := by decide +kernel
theorem dX2_value_9 : decode cX2_value 9 = .ok (.getfield 15, 3) := by decide +kernel
theorem dX2_value_12 : decode cX2_value 12 = .ok (.if_icmp .ge 97, 3) := by decide +kernel
theorem dX2_value_15 : decode cX2_value 15 = .ok (.aload_n 0, 1) := by decide +kernel
theorem dX2_value_16 : decode cX2_value 16 = .ok (.getfield 9, 3) := by decide +kernel
theorem dX2_value_19 : decode cX2_value 19 = .ok (.iload 6, 2) := by decide +kernel
theorem dX2_value_21 : decode cX2_value 21 = .ok (.iaload, 1) := by decide +kernel
theorem dX2_value_22 : decode cX2_value 22 = .ok (.istore 7, 2) := by decide +kernel
theorem dX2_value_24 : decode cX2_value 24 = .ok (.iload 7, 2) := by decide +kernel
theorem dX2_value_26 : decode cX2_value 26 = .ok (.bipush (-4), 2) := by decide +kernel
theorem dX2_value_28 : decode cX2_value 28 = .ok (.if_icmp .ge 48, 3) := by decide +kernel
theorem dX2_value_31 : decode cX2_value 31 = .ok (.iload 5, 2) := by decide +kernel
theorem dX2_value_33 : decode cX2_value 33 = .ok (.iconst 2, 1) := by decide +kernel
theorem dX2_value_34 : decode cX2_value 34 = .ok (.if_icmp .lt 69, 3) := by decide +kernel
theorem dX2_value_37 : decode cX2_value 37 = .ok (.iinc 5 (-1), 3) := by decide +kernel
theorem dX2_value_40 : decode cX2_value 40 = .ok (.aload_n 0, 1) := by decide +kernel
theorem dX2_value_41 : decode cX2_value 41 = .ok (.getfield 19, 3) := by decide +kernel
theorem dX2_value_44 : decode cX2_value 44 = .ok (.iload 5, 2) := by decide +kernel
theorem dX2_value_46 : decode cX2_value 46 = .ok (.iconst 1, 1) := by decide +kernel
theorem dX2_value_47 : decode cX2_value 47 = .ok (.isub, 1) := by decide +kernel
theorem dX2_value_48 : decode cX2_value 48 = .ok (.iload 7, 2) := by decide +kernel
theorem dX2_value_50 : decode cX2_value 50 = .ok (.ineg, 1) := by decide +kernel
theorem dX2_value_51 : decode cX2_value 51 = .ok (.aload_n 0, 1) := by decide +kernel
theorem dX2_value_52 : decode cX2_value 52 = .ok (.getfield 19, 3) := by decide +kernel
theorem dX2_value_55 : decode cX2_value 55 = .ok (.iload 5, 2) := by decide +kernel
theorem dX2_value_57 : decode cX2_value 57 = .ok (.iconst 1, 1) := by decide +kernel
theorem dX2_value_58 : decode cX2_value 58 = .ok (.isub, 1) := by decide +kernel
theorem dX2_value_59 : decode cX2_value 59 = .ok (.iaload, 1) := by decide +kernel
theorem dX2_value_60 : decode cX2_value 60 = .ok (.i2l, 1) := by decide +kernel
theorem dX2_value_61 : decode cX2_value 61 = .ok (.aload_n 0, 1) := by decide +kernel
theorem dX2_value_62 : decode cX2_value 62 = .ok (.getfield 19, 3) := by decide +kernel
theorem dX2_value_65 : decode cX2_value 65 = .ok (.iload 5, 2) := by decide +kernel
theorem dX2_value_67 : decode cX2_value 67 = .ok (.iaload, 1) := by decide +kernel
theorem dX2_value_68 : decode cX2_value 68 = .ok (.i2l, 1) := by decide +kernel
theorem dX2_value_69 : decode cX2_value 69 = .ok (.invokestatic 38, 3) := by decide +kernel
theorem dX2_value_72 : decode cX2_value 72 = .ok (.iastore, 1) := by decide +kernel
theorem dX2_value_73 : decode cX2_value 73 = .ok (.goto 30, 3) := by decide +kernel
theorem dX2_value_76 : decode cX2_value 76 = .ok (.iload 5, 2) := by decide +kernel
theorem dX2_value_78 : decode cX2_value 78 = .ok (.bipush 16, 2) := by decide +kernel
theorem dX2_value_80 : decode cX2_value 80 = .ok (.if_icmp .ge 23, 3) := by decide +kernel
theorem dX2_value_83 : decode cX2_value 83 = .ok (.aload_n 0, 1) := by decide +kernel
theorem dX2_value_84 : decode cX2_value 84 = .ok (.getfield 19, 3) := by decide +kernel
theorem dX2_value_87 : decode cX2_value 87 = .ok (.iload 5, 2) := by decide +kernel
theorem dX2_value_89 : decode cX2_value 89 = .ok (.iload 7, 2) := by decide +kernel
theorem dX2_value_91 : decode cX2_value 91 = .ok (.iload_n 1, 1) := by decide +kernel
theorem dX2_value_92 : decode cX2_value 92 = .ok (.iload_n 2, 1) := by decide +kernel
theorem dX2_value_93 : decode cX2_value 93 = .ok (.iload_n 3, 1) := by decide +kernel
theorem dX2_value_94 : decode cX2_value 94 = .ok (.iload 4, 2) := by decide +kernel
theorem dX2_value_96 : decode cX2_value 96 = .ok (.invokestatic 42, 3) := by decide +kernel
theorem dX2_value_99 : decode cX2_value 99 = .ok (.iastore, 1) := by decide +kernel
theorem dX2_value_100 : decode cX2_value 100 = .ok (.iinc 5 1, 3) := by decide +kernel
theorem dX2_value_103 : decode cX2_value 103 = .ok (.iinc 6 1, 3) := by decide +kernel
theorem dX2_value_106 : decode cX2_value 106 = .ok (.goto (-100), 3) := by decide +kernel
theorem dX2_value_109 : decode cX2_value 109 = .ok (.aload_n 0, 1) := by decide +kernel
theorem dX2_value_110 : decode cX2_value 110 = .ok (.getfield 19, 3) := by decide +kernel
theorem dX2_value_113 : decode cX2_value 113 = .ok (.iconst 0, 1) := by decide +kernel
theorem dX2_value_114 : decode cX2_value 114 = .ok (.iaload, 1) := by decide +kernel
theorem dX2_value_115 : decode cX2_value 115 = .ok (.ireturn, 1) := by decide +kernel
theorem dX2_operand_0 : decode cX2_operand 0 = .ok (.iload_n 0, 1) := by decide +kernel
theorem dX2_operand_1 : decode cX2_operand 1 = .ok (.tableswitch 40 (-4) (-1) #[37, 35, 33, 31], 31) := by decide +kernel
theorem dX2_operand_32 : decode cX2_operand 32 = .ok (.iload_n 1, 1) := by decide +kernel
theorem dX2_operand_33 : decode cX2_operand 33 = .ok (.ireturn, 1) := by decide +kernel
theorem dX2_operand_34 : decode cX2_operand 34 = .ok (.iload_n 2, 1) := by decide +kernel
theorem dX2_operand_35 : decode cX2_operand 35 = .ok (.ireturn, 1) := by decide +kernel
theorem dX2_operand_36 : decode cX2_operand 36 = .ok (.iload_n 3, 1) := by decide +kernel
theorem dX2_operand_37 : decode cX2_operand 37 = .ok (.ireturn, 1) := by decide +kernel
theorem dX2_operand_38 : decode cX2_operand 38 = .ok (.iload 4, 2) := by decide +kernel
theorem dX2_operand_40 : decode cX2_operand 40 = .ok (.ireturn, 1) := by decide +kernel
theorem dX2_operand_41 : decode cX2_operand 41 = .ok (.iload_n 0, 1) := by decide +kernel
theorem dX2_operand_42 : decode cX2_operand 42 = .ok (.ireturn, 1) := by decide +kernel
set_option maxRecDepth 20000 in
theorem ggX2_combine_X6_limited : GoodIn wsX2_combine wsX6_limited := goodIn_r _ [5, 6, 7, 8, 9, 10, 11, 12] (by decide +kernel) (by decide +kernel)
set_option maxRecDepth 20000 in
theorem gX2_combine_X6_limited_n48 : GoodIn wsX2_combine (wsX6_limited) := ggX2_combine_X6_limited
set_option maxRecDepth 20000 in
theorem ggX2_combine_X6_quotient : GoodIn wsX2_combine wsX6_quotient := goodIn_r _ [14] (by decide +kernel) (by decide +kernel)
set_option maxRecDepth 20000 in
theorem gX2_combine_X6_quotient_n52 : GoodIn wsX2_combine (wsX6_quotient) := ggX2_combine_X6_quotient
theorem dX2_combine_0 : decode cX2_combine 0 = .ok (.iload_n 0, 1) := by decide +kernel
theorem dX2_combine_1 : decode cX2_combine 1 = .ok (.tableswitch 64 42 45 #[53, 31, 64, 42], 31) := by decide +kernel
theorem dX2_combine_32 : decode cX2_combine 32 = .ok (.lload_n 1, 1) := by decide +kernel
theorem dX2_combine_33 : decode cX2_combine 33 = .ok (.lload_n 3, 1) := by decide +kernel
theorem dX2_combine_34 : decode cX2_combine 34 = .ok (.ladd, 1) := by decide +kernel
theorem dX2_combine_35 : decode cX2_combine 35 = .ok (.ldc 46, 2) := by decide +kernel
theorem dX2_combine_37 : decode cX2_combine 37 = .ok (.ldc 47, 2) := by decide +kernel
theorem dX2_combine_39 : decode cX2_combine 39 = .ok (.invokestatic 48, 3) := by decide +kernel
theorem dX2_combine_42 : decode cX2_combine 42 = .ok (.ireturn, 1) := by decide +kernel
theorem dX2_combine_43 : decode cX2_combine 43 = .ok (.lload_n 1, 1) := by decide +kernel
theorem dX2_combine_44 : decode cX2_combine 44 = .ok (.lload_n 3, 1) := by decide +kernel
theorem dX2_combine_45 : decode cX2_combine 45 = .ok (.lsub, 1) := by decide +kernel
theorem dX2_combine_46 : decode cX2_combine 46 = .ok (.ldc 46, 2) := by decide +kernel
theorem dX2_combine_48 : decode cX2_combine 48 = .ok (.ldc 47, 2) := by decide +kernel
theorem dX2_combine_50 : decode cX2_combine 50 = .ok (.invokestatic 48, 3) := by decide +kernel
theorem dX2_combine_53 : decode cX2_combine 53 = .ok (.ireturn, 1) := by decide +kernel
theorem dX2_combine_54 : decode cX2_combine 54 = .ok (.lload_n 1, 1) := by decide +kernel
theorem dX2_combine_55 : decode cX2_combine 55 = .ok (.lload_n 3, 1) := by decide +kernel
theorem dX2_combine_56 : decode cX2_combine 56 = .ok (.lmul, 1) := by decide +kernel
theorem dX2_combine_57 : decode cX2_combine 57 = .ok (.ldc 46, 2) := by decide +kernel
theorem dX2_combine_59 : decode cX2_combine 59 = .ok (.ldc 47, 2) := by decide +kernel
theorem dX2_combine_61 : decode cX2_combine 61 = .ok (.invokestatic 48, 3) := by decide +kernel
theorem dX2_combine_64 : decode cX2_combine 64 = .ok (.ireturn, 1) := by decide +kernel
theorem dX2_combine_65 : decode cX2_combine 65 = .ok (.lload_n 1, 1) := by decide +kernel
theorem dX2_combine_66 : decode cX2_combine 66 = .ok (.lload_n 3, 1) := by decide +kernel
theorem dX2_combine_67 : decode cX2_combine 67 = .ok (.invokestatic 52, 3) := by decide +kernel
theorem dX2_combine_70 : decode cX2_combine 70 = .ok (.ldc 46, 2) := by decide +kernel
theorem dX2_combine_72 : decode cX2_combine 72 = .ok (.ldc 47, 2) := by decide +kernel
theorem dX2_combine_74 : decode cX2_combine 74 = .ok (.invokestatic 48, 3) := by decide +kernel
theorem dX2_combine_77 : decode cX2_combine 77 = .ok (.ireturn, 1) := by decide +kernel
set_option maxRecDepth 20000 in
theorem ggX3_init_X4_init : GoodIn wsX3_init wsX4_init := goodIn_r _ [21, 22, 2, 3, 23, 24, 25, 26, 27, 28, 29, 30, 31, 32, 33, 34, 35, 36, 37, 38, 39, 40, 41, 42, 43, 44, 45, 46, 47, 48, 49, 50, 51, 52, 53, 54, 55, 56, 57, 58, 59, 60, 61, 76, 77, 78, 79, 80, 81, 82, 83, 84, 85, 62, 63, 86, 87, 88, 89, 90, 91, 92, 93] (by decide +kernel) (by decide +kernel)
set_option maxRecDepth 20000 in
theorem gX3_init_X4_init_n11 : GoodIn wsX3_init (wsX4_init) := ggX3_init_X4_init
theorem dX3_init_0 : decode cX3_init 0 = .ok (.aload_n 0, 1) := by decide +kernel
theorem dX3_init_1 : decode cX3_init 1 = .ok (.invokespecial 3, 3) := by decide +kernel
theorem dX3_init_4 : decode cX3_init 4 = .ok (.aload_n 0, 1) := by decide +kernel
theorem dX3_init_5 : decode cX3_init 5 = .ok (.new 9, 3) := by decide +kernel
theorem dX3_init_8 : decode cX3_init 8 = .ok (.dup, 1) := by decide +kernel
theorem dX3_init_9 : decode cX3_init 9 = .ok (.invokespecial 11, 3) := by decide +kernel
theorem dX3_init_12 : decode cX3_init 12 = .ok (.putfield 12, 3) := by decide +kernel
theorem dX3_init_15 : decode cX3_init 15 = .ok (.aload_n 0, 1) := by decide +kernel
theorem dX3_init_16 : decode cX3_init 16 = .ok (.iconst 0, 1) := by decide +kernel
theorem dX3_init_17 : decode cX3_init 17 = .ok (.putfield 18, 3) := by decide +kernel
theorem dX3_init_20 : decode cX3_init 20 = .ok (.aload_n 0, 1) := by decide +kernel
theorem dX3_init_21 : decode cX3_init 21 = .ok (.iconst 0, 1) := by decide +kernel
theorem dX3_init_22 : decode cX3_init 22 = .ok (.putfield 22, 3) := by decide +kernel
theorem dX3_init_25 : decode cX3_init 25 = .ok (.aload_n 0, 1) := by decide +kernel
theorem dX3_init_26 : decode cX3_init 26 = .ok (.iconst (-1), 1) := by decide +kernel
theorem dX3_init_27 : decode cX3_init 27 = .ok (.putfield 25, 3) := by decide +kernel
theorem dX3_init_30 : decode cX3_init 30 = .ok (.aload_n 0, 1) := by decide +kernel
theorem dX3_init_31 : decode cX3_init 31 = .ok (.sipush 800, 3) := by decide +kernel
theorem dX3_init_34 : decode cX3_init 34 = .ok (.newarray .byte, 2) := by decide +kernel
theorem dX3_init_36 : decode cX3_init 36 = .ok (.putfield 28, 3) := by decide +kernel
theorem dX3_init_39 : decode cX3_init 39 = .ok (.aload_n 0, 1) := by decide +kernel
theorem dX3_init_40 : decode cX3_init 40 = .ok (.iconst 0, 1) := by decide +kernel
theorem dX3_init_41 : decode cX3_init 41 = .ok (.putfield 32, 3) := by decide +kernel
theorem dX3_init_44 : decode cX3_init 44 = .ok (.aload_n 0, 1) := by decide +kernel
theorem dX3_init_45 : decode cX3_init 45 = .ok (.iconst 0, 1) := by decide +kernel
theorem dX3_init_46 : decode cX3_init 46 = .ok (.putfield 35, 3) := by decide +kernel
theorem dX3_init_49 : decode cX3_init 49 = .ok (.aload_n 0, 1) := by decide +kernel
theorem dX3_init_50 : decode cX3_init 50 = .ok (.iconst 0, 1) := by decide +kernel
theorem dX3_init_51 : decode cX3_init 51 = .ok (.putfield 38, 3) := by decide +kernel
theorem dX3_init_54 : decode cX3_init 54 = .ok (.aload_n 0, 1) := by decide +kernel
theorem dX3_init_55 : decode cX3_init 55 = .ok (.iconst 0, 1) := by decide +kernel
theorem dX3_init_56 : decode cX3_init 56 = .ok (.putfield 41, 3) := by decide +kernel
theorem dX3_init_59 : decode cX3_init 59 = .ok (.aload_n 0, 1) := by decide +kernel
theorem dX3_init_60 : decode cX3_init 60 = .ok (.iconst 0, 1) := by decide +kernel
theorem dX3_init_61 : decode cX3_init 61 = .ok (.putfield 44, 3) := by decide +kernel
theorem dX3_init_64 : decode cX3_init 64 = .ok (.aload_n 0, 1) := by decide +kernel
theorem dX3_init_65 : decode cX3_init 65 = .ok (.iconst 0, 1) := by decide +kernel
theorem dX3_init_66 : decode cX3_init 66 = .ok (.putfield 48, 3) := by decide +kernel
theorem dX3_init_69 : decode cX3_init 69 = .ok (.aload_n 0, 1) := by decide +kernel
theorem dX3_init_70 : decode cX3_init 70 = .ok (.iconst 0, 1) := by decide +kernel
theorem dX3_init_71 : decode cX3_init 71 = .ok (.putfield 51, 3) := by decide +kernel
theorem dX3_init_74 : decode cX3_init 74 = .ok (.return_, 1) := by decide +kernel
theorem dX3_hasRoomFor_0 : decode cX3_hasRoomFor 0 = .ok (.aload_n 0, 1) := by decide +kernel
theorem dX3_hasRoomFor_1 : decode cX3_hasRoomFor 1 = .ok (.getfield 18, 3) := by decide +kernel
theorem dX3_hasRoomFor_4 : decode cX3_hasRoomFor 4 = .ok (.iload_n 1, 1) := by decide +kernel
theorem dX3_hasRoomFor_5 : decode cX3_hasRoomFor 5 = .ok (.iadd, 1) := by decide +kernel
theorem dX3_hasRoomFor_6 : decode cX3_hasRoomFor 6 = .ok (.sipush 800, 3) := by decide +kernel
theorem dX3_hasRoomFor_9 : decode cX3_hasRoomFor 9 = .ok (.if_icmp .gt 7, 3) := by decide +kernel
theorem dX3_hasRoomFor_12 : decode cX3_hasRoomFor 12 = .ok (.iconst 1, 1) := by decide +kernel
theorem dX3_hasRoomFor_13 : decode cX3_hasRoomFor 13 = .ok (.goto 4, 3) := by decide +kernel
theorem dX3_hasRoomFor_16 : decode cX3_hasRoomFor 16 = .ok (.iconst 0, 1) := by decide +kernel
theorem dX3_hasRoomFor_17 : decode cX3_hasRoomFor 17 = .ok (.ireturn, 1) := by decide +kernel
theorem dX3_put_0 : decode cX3_put 0 = .ok (.bipush 24, 2) := by decide +kernel
theorem dX3_put_2 : decode cX3_put 2 = .ok (.istore_n 2, 1) := by decide +kernel
theorem dX3_put_3 : decode cX3_put 3 = .ok (.iload_n 2, 1) := by decide +kernel
theorem dX3_put_4 : decode cX3_put 4 = .ok (.ifCond .lt 42, 3) := by decide +kernel
theorem dX3_put_7 : decode cX3_put 7 = .ok (.aload_n 0, 1) := by decide +kernel
theorem dX3_put_8 : decode cX3_put 8 = .ok (.getfield 18, 3) := by decide +kernel
theorem dX3_put_11 : decode cX3_put 11 = .ok (.sipush 800, 3) := by decide +kernel
theorem dX3_put_14 : decode cX3_put 14 = .ok (.if_icmp .ge 32, 3) := by decide +kernel
theorem dX3_put_17 : decode cX3_put 17 = .ok (.aload_n 0, 1) := by decide +kernel
theorem dX3_put_18 : decode cX3_put 18 = .ok (.getfield 28, 3) := by decide +kernel
theorem dX3_put_21 : decode cX3_put 21 = .ok (.aload_n 0, 1) := by decide +kernel
theorem dX3_put_22 : decode cX3_put 22 = .ok (.getfield 18, 3) := by decide +kernel
theorem dX3_put_25 : decode cX3_put 25 = .ok (.iload_n 1, 1) := by decide +kernel
theorem dX3_put_26 : decode cX3_put 26 = .ok (.iload_n 2, 1) := by decide +kernel
theorem dX3_put_27 : decode cX3_put 27 = .ok (.iushr, 1) := by decide +kernel
theorem dX3_put_28 : decode cX3_put 28 = .ok (.i2b, 1) := by decide +kernel
theorem dX3_put_29 : decode cX3_put 29 = .ok (.bastore, 1) := by decide +kernel
theorem dX3_put_30 : decode cX3_put 30 = .ok (.aload_n 0, 1) := by decide +kernel
theorem dX3_put_31 : decode cX3_put 31 = .ok (.dup, 1) := by decide +kernel
theorem dX3_put_32 : decode cX3_put 32 = .ok (.getfield 18, 3) := by decide +kernel
theorem dX3_put_35 : decode cX3_put 35 = .ok (.iconst 1, 1) := by decide +kernel
theorem dX3_put_36 : decode cX3_put 36 = .ok (.iadd, 1) := by decide +kernel
theorem dX3_put_37 : decode cX3_put 37 = .ok (.putfield 18, 3) := by decide +kernel
theorem dX3_put_40 : decode cX3_put 40 = .ok (.iinc 2 (-8), 3) := by decide +kernel
theorem dX3_put_43 : decode cX3_put 43 = .ok (.goto (-40), 3) := by decide +kernel
theorem dX3_put_46 : decode cX3_put 46 = .ok (.return_, 1) := by decide +kernel
set_option maxRecDepth 20000 in
theorem ggX3_read_X3_begin : GoodIn wsX3_read wsX3_begin := goodIn_r _ [9, 10, 11, 12, 13, 14, 1, 15, 16, 17, 18, 19, 20, 21, 251, 252, 253, 254, 255, 256, 257, 258, 259, 260, 261, 262] (by decide +kernel) (by decide +kernel)
set_option maxRecDepth 20000 in
theorem gX3_read_X3_begin : GoodIn wsX3_read (wsV RX3 54 RX3 yX3_begin wsX3_begin) := goodIn_app (goodIn_of _ (by decide +kernel)) ggX3_read_X3_begin
set_option maxRecDepth 20000 in
theorem ggX3_read_X3_readBox : GoodIn wsX3_read wsX3_readBox := goodIn_r _ [25, 15, 26, 2, 27, 28, 29, 8, 30, 1, 31, 32, 33, 34, 35, 36, 37, 38, 39, 40, 41, 42, 43, 44, 45, 46, 47, 48, 49, 50, 51, 52, 53, 54, 55, 56, 57, 58, 59, 60, 61, 62, 63, 64, 65, 66, 67, 68, 69, 70, 71, 72, 73, 74, 75, 76, 77, 78, 79, 80, 81, 82, 83, 84, 85, 86, 87, 88, 89, 90, 91, 16, 17, 92, 93, 94, 95, 96, 11, 12, 13, 14, 97, 98, 99, 100, 101, 102, 103, 104, 105, 106, 107, 108, 109, 110, 111, 112, 113, 114, 115, 116, 117, 118, 119, 120, 121, 122, 123, 124, 125, 126, 127, 128, 129, 130, 131, 132, 133, 134, 135, 136, 137, 138, 139, 140, 141, 142, 143, 144, 145, 146, 147, 148, 149, 150, 151, 152, 153, 154, 155, 156, 157, 158, 159, 160, 251, 252, 253, 254, 255, 256, 257, 258, 259, 260, 261, 262, 275, 276, 277, 278, 263, 264, 265, 266, 267, 268, 269, 270, 271, 272, 273, 274, 279, 280, 281, 282, 283, 284, 285, 286] (by decide +kernel) (by decide +kernel)
set_option maxRecDepth 20000 in
theorem gX3_read_X3_readBox : GoodIn wsX3_read (wsV RX3 58 RX3 yX3_readBox wsX3_readBox) := goodIn_app (goodIn_of _ (by decide +kernel)) ggX3_read_X3_readBox
set_option maxRecDepth 20000 in
theorem ggX3_read_X3_peek : GoodIn wsX3_read wsX3_peek := goodIn_r _ [30, 15, 1, 31, 251, 252, 253, 254, 255, 256, 257, 258, 259, 260, 261, 262] (by decide +kernel) (by decide +kernel)
set_option maxRecDepth 20000 in
theorem gX3_read_X3_peek : GoodIn wsX3_read (wsV RX3 62 RX3 yX3_peek wsX3_peek) := goodIn_app (goodIn_of _ (by decide +kernel)) ggX3_read_X3_peek
set_option maxRecDepth 20000 in
theorem ggX3_read_X3_readStatement : GoodIn wsX3_read wsX3_readStatement := goodIn_r _ [164, 15, 32, 33, 34, 8, 35, 1, 31, 36, 37, 38, 39, 40, 41, 42, 43, 44, 45, 46, 47, 48, 49, 50, 51, 52, 53, 54, 55, 56, 57, 58, 59, 60, 61, 62, 63, 64, 65, 66, 67, 68, 69, 70, 71, 72, 73, 74, 75, 76, 77, 78, 79, 80, 81, 82, 83, 84, 85, 86, 87, 165, 166, 167, 168, 18, 2, 3, 169, 170, 88, 89, 90, 91, 16, 17, 171, 172, 173, 174, 175, 27, 28, 29, 30, 176, 177, 178, 179, 180, 181, 110, 182, 114, 183, 125, 126, 127, 117, 184, 185, 186, 187, 4, 26, 92, 93, 94, 95, 96, 11, 12, 13, 14, 97, 98, 99, 188, 189, 190, 191, 115, 192, 193, 194, 195, 196, 197, 19, 198, 199, 200, 201, 202, 20, 203, 204, 205, 206, 207, 208, 209, 210, 211, 150, 212, 152, 213, 214, 215, 216, 217, 218, 219, 220, 221, 222, 223, 224, 225, 226, 227, 228, 229, 230, 231, 232, 233, 234, 21, 235, 236, 134, 135, 131, 136, 137, 237, 238, 239, 240, 241, 242, 243, 244, 144, 145, 146, 138, 139, 140, 141, 142, 245, 246, 247, 248, 249, 157, 158, 159, 160, 250, 251, 252, 253, 254, 255, 256, 257, 258, 259, 260, 261, 262, 275, 276, 277, 278, 263, 264, 265, 266, 267, 268, 269, 270, 271, 272, 273, 274, 282, 283, 284, 285, 286, 279, 280, 281] (by decide +kernel) (by decide +kernel)
set_option maxRecDepth 20000 in
theorem gX3_read_X3_readStatement : GoodIn wsX3_read (wsV RX3 66 RX3 yX3_readStatement wsX3_readStatement) := goodIn_app (goodIn_of _ (by decide +kernel)) ggX3_read_X3_readStatement
set_option maxRecDepth 20000 in
theorem ggX3_read_X3_readSign : GoodIn wsX3_read wsX3_readSign := goodIn_r _ [160, 15, 27, 28, 29, 8, 30, 1, 31, 88, 89, 90, 91, 16, 17, 251, 252, 253, 254, 255, 256, 257, 258, 259, 260, 261, 262] (by decide +kernel) (by decide +kernel)
set_option maxRecDepth 20000 in
theorem gX3_read_X3_readSign : GoodIn wsX3_read (wsV RX3 69 RX3 yX3_readSign wsX3_readSign) := goodIn_app (goodIn_of _ (by decide +kernel)) ggX3_read_X3_readSign
set_option maxRecDepth 20000 in
theorem ggX3_read_X0_addHole : GoodIn wsX3_read wsX0_addHole := goodIn_r _ [191, 115, 192, 193, 265, 266, 267, 268, 269, 270, 271, 272, 273, 274] (by decide +kernel) (by decide +kernel)
set_option maxRecDepth 20000 in
theorem gX3_read_X0_addHole : GoodIn wsX3_read (wsV RX3 82 RX0 yX0_addHole wsX0_addHole) := goodIn_app (goodIn_of _ (by decide +kernel)) ggX3_read_X0_addHole
theorem dX3_read_0 : decode cX3_read 0 = .ok (.aload_n 0, 1) := by decide +kernel
theorem dX3_read_1 : decode cX3_read 1 = .ok (.iload_n 1, 1) := by decide +kernel
theorem dX3_read_2 : decode cX3_read 2 = .ok (.invokevirtual 54, 3) := by decide +kernel
theorem dX3_read_5 : decode cX3_read 5 = .ok (.aload_n 0, 1) := by decide +kernel
theorem dX3_read_6 : decode cX3_read 6 = .ok (.invokevirtual 58, 3) := by decide +kernel
theorem dX3_read_9 : decode cX3_read 9 = .ok (.istore_n 2, 1) := by decide +kernel
theorem dX3_read_10 : decode cX3_read 10 = .ok (.iconst 0, 1) := by decide +kernel
theorem dX3_read_11 : decode cX3_read 11 = .ok (.istore_n 3, 1) := by decide +kernel
theorem dX3_read_12 : decode cX3_read 12 = .ok (.iload_n 3, 1) := by decide +kernel
theorem dX3_read_13 : decode cX3_read 13 = .ok (.aload_n 0, 1) := by decide +kernel
theorem dX3_read_14 : decode cX3_read 14 = .ok (.getfield 32, 3) := by decide +kernel
theorem dX3_read_17 : decode cX3_read 17 = .ok (.if_icmp .ge 43, 3) := by decide +kernel
theorem dX3_read_20 : decode cX3_read 20 = .ok (.iload_n 2, 1) := by decide +kernel
theorem dX3_read_21 : decode cX3_read 21 = .ok (.ifCond .eq 39, 3) := by decide +kernel
theorem dX3_read_24 : decode cX3_read 24 = .ok (.aload_n 0, 1) := by decide +kernel
theorem dX3_read_25 : decode cX3_read 25 = .ok (.invokevirtual 62, 3) := by decide +kernel
theorem dX3_read_28 : decode cX3_read 28 = .ok (.iconst (-1), 1) := by decide +kernel
theorem dX3_read_29 : decode cX3_read 29 = .ok (.if_icmp .eq 31, 3) := by decide +kernel
theorem dX3_read_32 : decode cX3_read 32 = .ok (.aload_n 0, 1) := by decide +kernel
theorem dX3_read_33 : decode cX3_read 33 = .ok (.invokevirtual 66, 3) := by decide +kernel
theorem dX3_read_36 : decode cX3_read 36 = .ok (.ifCond .eq 16, 3) := by decide +kernel
theorem dX3_read_39 : decode cX3_read 39 = .ok (.aload_n 0, 1) := by decide +kernel
theorem dX3_read_40 : decode cX3_read 40 = .ok (.bipush 59, 2) := by decide +kernel
theorem dX3_read_42 : decode cX3_read 42 = .ok (.invokevirtual 69, 3) := by decide +kernel
theorem dX3_read_45 : decode cX3_read 45 = .ok (.ifCond .eq 7, 3) := by decide +kernel
theorem dX3_read_48 : decode cX3_read 48 = .ok (.iconst 1, 1) := by decide +kernel
theorem dX3_read_49 : decode cX3_read 49 = .ok (.goto 4, 3) := by decide +kernel
theorem dX3_read_52 : decode cX3_read 52 = .ok (.iconst 0, 1) := by decide +kernel
theorem dX3_read_53 : decode cX3_read 53 = .ok (.istore_n 2, 1) := by decide +kernel
theorem dX3_read_54 : decode cX3_read 54 = .ok (.iinc 3 1, 3) := by decide +kernel
theorem dX3_read_57 : decode cX3_read 57 = .ok (.goto (-45), 3) := by decide +kernel
theorem dX3_read_60 : decode cX3_read 60 = .ok (.iload_n 2, 1) := by decide +kernel
theorem dX3_read_61 : decode cX3_read 61 = .ok (.ifCond .eq 28, 3) := by decide +kernel
theorem dX3_read_64 : decode cX3_read 64 = .ok (.aload_n 0, 1) := by decide +kernel
theorem dX3_read_65 : decode cX3_read 65 = .ok (.getfield 12, 3) := by decide +kernel
theorem dX3_read_68 : decode cX3_read 68 = .ok (.getfield 73, 3) := by decide +kernel
theorem dX3_read_71 : decode cX3_read 71 = .ok (.getfield 77, 3) := by decide +kernel
theorem dX3_read_74 : decode cX3_read 74 = .ok (.ifCond .ne 15, 3) := by decide +kernel
theorem dX3_read_77 : decode cX3_read 77 = .ok (.aload_n 0, 1) := by decide +kernel
theorem dX3_read_78 : decode cX3_read 78 = .ok (.getfield 12, 3) := by decide +kernel
theorem dX3_read_81 : decode cX3_read 81 = .ok (.getfield 73, 3) := by decide +kernel
theorem dX3_read_84 : decode cX3_read 84 = .ok (.iconst 0, 1) := by decide +kernel
theorem dX3_read_85 : decode cX3_read 85 = .ok (.iconst 0, 1) := by decide +kernel
theorem dX3_read_86 : decode cX3_read 86 = .ok (.invokevirtual 82, 3) := by decide +kernel
theorem dX3_read_89 : decode cX3_read 89 = .ok (.iload_n 2, 1) := by decide +kernel
theorem dX3_read_90 : decode cX3_read 90 = .ok (.ireturn, 1) := by decide +kernel
theorem dX3_begin_0 : decode cX3_begin 0 = .ok (.aload_n 0, 1) := by decide +kernel
theorem dX3_begin_1 : decode cX3_begin 1 = .ok (.iload_n 1, 1) := by decide +kernel
theorem dX3_begin_2 : decode cX3_begin 2 = .ok (.aload_n 0, 1) := by decide +kernel
theorem dX3_begin_3 : decode cX3_begin 3 = .ok (.getfield 18, 3) := by decide +kernel
theorem dX3_begin_6 : decode cX3_begin 6 = .ok (.invokestatic 86, 3) := by decide +kernel
theorem dX3_begin_9 : decode cX3_begin 9 = .ok (.putfield 32, 3) := by decide +kernel
theorem dX3_begin_12 : decode cX3_begin 12 = .ok (.aload_n 0, 1) := by decide +kernel
theorem dX3_begin_13 : decode cX3_begin 13 = .ok (.iconst 0, 1) := by decide +kernel
theorem dX3_begin_14 : decode cX3_begin 14 = .ok (.putfield 18, 3) := by decide +kernel
theorem dX3_begin_17 : decode cX3_begin 17 = .ok (.aload_n 0, 1) := by decide +kernel
theorem dX3_begin_18 : decode cX3_begin 18 = .ok (.iconst 0, 1) := by decide +kernel
theorem dX3_begin_19 : decode cX3_begin 19 = .ok (.putfield 35, 3) := by decide +kernel
theorem dX3_begin_22 : decode cX3_begin 22 = .ok (.aload_n 0, 1) := by decide +kernel
theorem dX3_begin_23 : decode cX3_begin 23 = .ok (.iconst 0, 1) := by decide +kernel
theorem dX3_begin_24 : decode cX3_begin 24 = .ok (.putfield 22, 3) := by decide +kernel
theorem dX3_begin_27 : decode cX3_begin 27 = .ok (.aload_n 0, 1) := by decide +kernel
theorem dX3_begin_28 : decode cX3_begin 28 = .ok (.iconst (-1), 1) := by decide +kernel
theorem dX3_begin_29 : decode cX3_begin 29 = .ok (.putfield 25, 3) := by decide +kernel
theorem dX3_begin_32 : decode cX3_begin 32 = .ok (.aload_n 0, 1) := by decide +kernel
theorem dX3_begin_33 : decode cX3_begin 33 = .ok (.iconst 0, 1) := by decide +kernel
theorem dX3_begin_34 : decode cX3_begin 34 = .ok (.putfield 41, 3) := by decide +kernel
theorem dX3_begin_37 : decode cX3_begin 37 = .ok (.aload_n 0, 1) := by decide +kernel
theorem dX3_begin_38 : decode cX3_begin 38 = .ok (.iconst 0, 1) := by decide +kernel
theorem dX3_begin_39 : decode cX3_begin 39 = .ok (.putfield 44, 3) := by decide +kernel
theorem dX3_begin_42 : decode cX3_begin 42 = .ok (.aload_n 0, 1) := by decide +kernel
theorem dX3_begin_43 : decode cX3_begin 43 = .ok (.iconst 0, 1) := by decide +kernel
theorem dX3_begin_44 : decode cX3_begin 44 = .ok (.putfield 48, 3) := by decide +kernel
theorem dX3_begin_47 : decode cX3_begin 47 = .ok (.aload_n 0, 1) := by decide +kernel
theorem dX3_begin_48 : decode cX3_begin 48 = .ok (.iconst 0, 1) := by decide +kernel
theorem dX3_begin_49 : decode cX3_begin 49 = .ok (.putfield 51, 3) := by decide +kernel
theorem dX3_begin_52 : decode cX3_begin 52 = .ok (.return_, 1) := by decide +kernel
theorem dX3_fail_0 : decode cX3_fail 0 = .ok (.aload_n 0, 1) := by decide +kernel
theorem dX3_fail_1 : decode cX3_fail 1 = .ok (.iload_n 1, 1) := by decide +kernel
theorem dX3_fail_2 : decode cX3_fail 2 = .ok (.putfield 22, 3) := by decide +kernel
theorem dX3_fail_5 : decode cX3_fail 5 = .ok (.aload_n 0, 1) := by decide +kernel
theorem dX3_fail_6 : decode cX3_fail 6 = .ok (.iload_n 2, 1) := by decide +kernel
theorem dX3_fail_7 : decode cX3_fail 7 = .ok (.putfield 25, 3) := by decide +kernel
theorem dX3_fail_10 : decode cX3_fail 10 = .ok (.iconst 0, 1) := by decide +kernel
theorem dX3_fail_11 : decode cX3_fail 11 = .ok (.ireturn, 1) := by decide +kernel
set_option maxRecDepth 20000 in
theorem ggX3_readBox_X3_peek : GoodIn wsX3_readBox wsX3_peek := goodIn_r _ [8, 1, 9, 10, 146, 147, 148, 149, 150, 151, 152, 153, 154, 155, 156, 157] (by decide +kernel) (by decide +kernel)
set_option maxRecDepth 20000 in
theorem gX3_readBox_X3_peek : GoodIn wsX3_readBox (wsV RX3 62 RX3 yX3_peek wsX3_peek) := goodIn_app (goodIn_of _ (by decide +kernel)) ggX3_readBox_X3_peek
set_option maxRecDepth 20000 in
theorem ggX3_readBox_X3_takesWord : GoodIn wsX3_readBox wsX3_takesWord := goodIn_r _ [14, 1, 9, 10, 15, 16, 17, 18, 19, 20, 21, 22, 23, 24, 25, 26, 27, 28, 29, 30, 31, 32, 33, 34, 35, 36, 37, 38, 39, 40, 41, 42, 43, 44, 45, 46, 47, 48, 49, 50, 51, 52, 53, 54, 55, 56, 57, 58, 59, 60, 61, 62, 63, 64, 65, 7, 66, 146, 147, 148, 149, 150, 151, 152, 153, 154, 155, 156, 157, 158, 159, 160, 161] (by decide +kernel) (by decide +kernel)
set_option maxRecDepth 20000 in
theorem gX3_readBox_X3_takesWord : GoodIn wsX3_readBox (wsV RX3 93 RX3 yX3_takesWord wsX3_takesWord) := goodIn_app (goodIn_of _ (by decide +kernel)) ggX3_readBox_X3_takesWord
set_option maxRecDepth 20000 in
theorem ggX3_readBox_X3_fail : GoodIn wsX3_readBox wsX3_fail := goodIn_r _ [70, 71, 72, 146, 147, 148, 149, 150, 151, 152, 153, 154, 155, 156, 157] (by decide +kernel) (by decide +kernel)
set_option maxRecDepth 20000 in
theorem gX3_readBox_X3_fail : GoodIn wsX3_readBox (wsV RX3 97 RX3 yX3_fail wsX3_fail) := goodIn_app (goodIn_of _ (by decide +kernel)) ggX3_readBox_X3_fail
set_option maxRecDepth 20000 in
theorem ggX3_readBox_X3_readNumber : GoodIn wsX3_readBox wsX3_readNumber := goodIn_r _ [76, 1, 2, 9, 10, 77, 78, 79, 80, 81, 4, 5, 6, 7, 8, 82, 83, 84, 67, 68, 69, 70, 71, 72, 146, 147, 148, 149, 150, 151, 152, 153, 154, 155, 156, 157] (by decide +kernel) (by decide +kernel)
set_option maxRecDepth 20000 in
theorem gX3_readBox_X3_readNumber : GoodIn wsX3_readBox (wsV RX3 101 RX3 yX3_readNumber wsX3_readNumber) := goodIn_app (goodIn_of _ (by decide +kernel)) ggX3_readBox_X3_readNumber
set_option maxRecDepth 20000 in
theorem ggX3_readBox_X4_begin : GoodIn wsX3_readBox wsX4_begin := goodIn_r _ [89, 90, 91, 92, 93, 94, 95, 96, 97, 98, 99, 100, 101, 102, 103, 104, 105, 106, 107, 108, 109, 110, 111, 112, 113, 114, 115, 116, 117, 118, 119, 120, 121, 122, 123, 124, 125, 126, 127, 128, 129, 130, 131, 132, 133, 134, 135, 136, 137, 138, 139, 140, 141, 162, 163, 164, 165, 166, 167, 168, 169, 170, 171, 172, 173, 174, 175, 176, 177, 178, 179, 180, 181] (by decide +kernel) (by decide +kernel)
set_option maxRecDepth 20000 in
theorem gX3_readBox_X4_begin : GoodIn wsX3_readBox (wsV RX3 104 RX4 yX4_begin wsX4_begin) := goodIn_app (goodIn_of _ (by decide +kernel)) ggX3_readBox_X4_begin
set_option maxRecDepth 20000 in
theorem ggX3_readBox_X3_readSign : GoodIn wsX3_readBox wsX3_readSign := goodIn_r _ [145, 1, 4, 5, 6, 7, 8, 9, 10, 67, 68, 69, 70, 71, 72, 146, 147, 148, 149, 150, 151, 152, 153, 154, 155, 156, 157] (by decide +kernel) (by decide +kernel)
set_option maxRecDepth 20000 in
theorem gX3_readBox_X3_readSign : GoodIn wsX3_readBox (wsV RX3 69 RX3 yX3_readSign wsX3_readSign) := goodIn_app (goodIn_of _ (by decide +kernel)) ggX3_readBox_X3_readSign
theorem dX3_readBox_0 : decode cX3_readBox 0 = .ok (.aload_n 0, 1) := by decide +kernel
theorem dX3_readBox_1 : decode cX3_readBox 1 = .ok (.invokevirtual 62, 3) := by decide +kernel
theorem dX3_readBox_4 : decode cX3_readBox 4 = .ok (.pop, 1) := by decide +kernel
theorem dX3_readBox_5 : decode cX3_readBox 5 = .ok (.aload_n 0, 1) := by decide +kernel
theorem dX3_readBox_6 : decode cX3_readBox 6 = .ok (.ldc 92, 2) := by decide +kernel
theorem dX3_readBox_8 : decode cX3_readBox 8 = .ok (.invokevirtual 93, 3) := by decide +kernel
theorem dX3_readBox_11 : decode cX3_readBox 11 = .ok (.ifCond .ne 14, 3) := by decide +kernel
theorem dX3_readBox_14 : decode cX3_readBox 14 = .ok (.aload_n 0, 1) := by decide +kernel
theorem dX3_readBox_15 : decode cX3_readBox 15 = .ok (.bipush (-2), 2) := by decide +kernel
theorem dX3_readBox_17 : decode cX3_readBox 17 = .ok (.aload_n 0, 1) := by decide +kernel
theorem dX3_readBox_18 : decode cX3_readBox 18 = .ok (.getfield 35, 3) := by decide +kernel
theorem dX3_readBox_21 : decode cX3_readBox 21 = .ok (.invokevirtual 97, 3) := by decide +kernel
theorem dX3_readBox_24 : decode cX3_readBox 24 = .ok (.ireturn, 1) := by decide +kernel
theorem dX3_readBox_25 : decode cX3_readBox 25 = .ok (.aload_n 0, 1) := by decide +kernel
theorem dX3_readBox_26 : decode cX3_readBox 26 = .ok (.iconst 1, 1) := by decide +kernel
theorem dX3_readBox_27 : decode cX3_readBox 27 = .ok (.bipush 12, 2) := by decide +kernel
theorem dX3_readBox_29 : decode cX3_readBox 29 = .ok (.invokevirtual 101, 3) := by decide +kernel
theorem dX3_readBox_32 : decode cX3_readBox 32 = .ok (.ifCond .ne 5, 3) := by decide +kernel
theorem dX3_readBox_35 : decode cX3_readBox 35 = .ok (.iconst 0, 1) := by decide +kernel
theorem dX3_readBox_36 : decode cX3_readBox 36 = .ok (.ireturn, 1) := by decide +kernel
theorem dX3_readBox_37 : decode cX3_readBox 37 = .ok (.aload_n 0, 1) := by decide +kernel
theorem dX3_readBox_38 : decode cX3_readBox 38 = .ok (.getfield 38, 3) := by decide +kernel
theorem dX3_readBox_41 : decode cX3_readBox 41 = .ok (.istore_n 1, 1) := by decide +kernel
theorem dX3_readBox_42 : decode cX3_readBox 42 = .ok (.aload_n 0, 1) := by decide +kernel
theorem dX3_readBox_43 : decode cX3_readBox 43 = .ok (.iconst 1, 1) := by decide +kernel
theorem dX3_readBox_44 : decode cX3_readBox 44 = .ok (.bipush 8, 2) := by decide +kernel
theorem dX3_readBox_46 : decode cX3_readBox 46 = .ok (.invokevirtual 101, 3) := by decide +kernel
theorem dX3_readBox_49 : decode cX3_readBox 49 = .ok (.ifCond .ne 5, 3) := by decide +kernel
theorem dX3_readBox_52 : decode cX3_readBox 52 = .ok (.iconst 0, 1) := by decide +kernel
theorem dX3_readBox_53 : decode cX3_readBox 53 = .ok (.ireturn, 1) := by decide +kernel
theorem dX3_readBox_54 : decode cX3_readBox 54 = .ok (.aload_n 0, 1) := by decide +kernel
theorem dX3_readBox_55 : decode cX3_readBox 55 = .ok (.getfield 38, 3) := by decide +kernel
theorem dX3_readBox_58 : decode cX3_readBox 58 = .ok (.istore_n 2, 1) := by decide +kernel
theorem dX3_readBox_59 : decode cX3_readBox 59 = .ok (.aload_n 0, 1) := by decide +kernel
theorem dX3_readBox_60 : decode cX3_readBox 60 = .ok (.iconst 1, 1) := by decide +kernel
theorem dX3_readBox_61 : decode cX3_readBox 61 = .ok (.iconst 5, 1) := by decide +kernel
theorem dX3_readBox_62 : decode cX3_readBox 62 = .ok (.invokevirtual 101, 3) := by decide +kernel
theorem dX3_readBox_65 : decode cX3_readBox 65 = .ok (.ifCond .ne 5, 3) := by decide +kernel
theorem dX3_readBox_68 : decode cX3_readBox 68 = .ok (.iconst 0, 1) := by decide +kernel
theorem dX3_readBox_69 : decode cX3_readBox 69 = .ok (.ireturn, 1) := by decide +kernel
theorem dX3_readBox_70 : decode cX3_readBox 70 = .ok (.aload_n 0, 1) := by decide +kernel
theorem dX3_readBox_71 : decode cX3_readBox 71 = .ok (.getfield 12, 3) := by decide +kernel
theorem dX3_readBox_74 : decode cX3_readBox 74 = .ok (.iload_n 1, 1) := by decide +kernel
theorem dX3_readBox_75 : decode cX3_readBox 75 = .ok (.iload_n 2, 1) := by decide +kernel
theorem dX3_readBox_76 : decode cX3_readBox 76 = .ok (.aload_n 0, 1) := by decide +kernel
theorem dX3_readBox_77 : decode cX3_readBox 77 = .ok (.getfield 38, 3) := by decide +kernel
theorem dX3_readBox_80 : decode cX3_readBox 80 = .ok (.invokevirtual 104, 3) := by decide +kernel
theorem dX3_readBox_83 : decode cX3_readBox 83 = .ok (.aload_n 0, 1) := by decide +kernel
theorem dX3_readBox_84 : decode cX3_readBox 84 = .ok (.bipush 59, 2) := by decide +kernel
theorem dX3_readBox_86 : decode cX3_readBox 86 = .ok (.invokevirtual 69, 3) := by decide +kernel
theorem dX3_readBox_89 : decode cX3_readBox 89 = .ok (.ireturn, 1) := by decide +kernel
set_option maxRecDepth 20000 in
theorem ggX3_readStatement_X3_takesWord : GoodIn wsX3_readStatement wsX3_takesWord := goodIn_r _ [6, 1, 7, 8, 9, 10, 11, 12, 13, 14, 15, 16, 17, 18, 19, 20, 21, 22, 23, 24, 25, 26, 27, 28, 29, 30, 31, 32, 33, 34, 35, 36, 37, 38, 39, 40, 41, 42, 43, 44, 45, 46, 47, 48, 49, 50, 51, 52, 53, 54, 55, 56, 57, 58, 59, 5, 60, 203, 204, 205, 206, 207, 208, 209, 210, 211, 212, 213, 214, 215, 216, 217, 218] (by decide +kernel) (by decide +kernel)
set_option maxRecDepth 20000 in
theorem gX3_readStatement_X3_takesWord : GoodIn wsX3_readStatement (wsV RX3 93 RX3 yX3_takesWord wsX3_takesWord) := goodIn_app (goodIn_of _ (by decide +kernel)) ggX3_readStatement_X3_takesWord
set_option maxRecDepth 20000 in
theorem ggX3_readStatement_X3_readPlane : GoodIn wsX3_readStatement wsX3_readPlane := goodIn_r _ [64, 65, 66, 67, 68, 69, 70, 71, 72, 5, 73, 74, 75, 76, 77, 78, 79, 1, 7, 8, 80, 81, 82, 83, 84, 85, 86, 87, 58, 59, 60, 88, 89, 90, 91, 92, 93, 94, 95, 96, 97, 98, 203, 204, 205, 206, 207, 208, 209, 210, 211, 212, 213, 214, 219, 220, 221, 222, 223, 224, 225, 226, 227, 228, 229, 230] (by decide +kernel) (by decide +kernel)
set_option maxRecDepth 20000 in
theorem gX3_readStatement_X3_readPlane : GoodIn wsX3_readStatement (wsV RX3 109 RX3 yX3_readPlane wsX3_readPlane) := goodIn_app (goodIn_of _ (by decide +kernel)) ggX3_readStatement_X3_readPlane
set_option maxRecDepth 20000 in
theorem ggX3_readStatement_X3_readHole : GoodIn wsX3_readStatement wsX3_readHole := goodIn_r _ [102, 66, 67, 103, 80, 104, 69, 70, 71, 72, 5, 73, 74, 75, 105, 106, 107, 108, 1, 7, 8, 109, 110, 111, 112, 113, 81, 82, 83, 84, 114, 115, 116, 117, 118, 119, 91, 120, 121, 122, 123, 203, 204, 205, 206, 207, 208, 209, 210, 211, 212, 213, 214, 219, 220, 221, 222, 223, 224, 225, 226, 227, 228, 229, 230] (by decide +kernel) (by decide +kernel)
set_option maxRecDepth 20000 in
theorem gX3_readStatement_X3_readHole : GoodIn wsX3_readStatement (wsV RX3 114 RX3 yX3_readHole wsX3_readHole) := goodIn_app (goodIn_of _ (by decide +kernel)) ggX3_readStatement_X3_readHole
set_option maxRecDepth 20000 in
theorem ggX3_readStatement_X3_readReach : GoodIn wsX3_readStatement wsX3_readReach := goodIn_r _ [127, 128, 66, 67, 104, 129, 70, 71, 72, 5, 73, 74, 75, 105, 106, 107, 108, 1, 7, 8, 109, 110, 111, 112, 113, 81, 82, 83, 84, 114, 115, 116, 203, 204, 205, 206, 207, 208, 209, 210, 211, 212, 213, 214, 219, 220, 221, 222, 223, 224, 225, 226, 227, 228, 229, 230] (by decide +kernel) (by decide +kernel)
set_option maxRecDepth 20000 in
theorem gX3_readStatement_X3_readReach : GoodIn wsX3_readStatement (wsV RX3 119 RX3 yX3_readReach wsX3_readReach) := goodIn_app (goodIn_of _ (by decide +kernel)) ggX3_readStatement_X3_readReach
set_option maxRecDepth 20000 in
theorem ggX3_readStatement_X3_readLength : GoodIn wsX3_readStatement wsX3_readLength := goodIn_r _ [133, 134, 66, 135, 104, 136, 70, 71, 72, 5, 73, 74, 75, 105, 106, 107, 108, 1, 7, 8, 109, 110, 111, 112, 113, 81, 82, 83, 84, 114, 115, 116, 203, 204, 205, 206, 207, 208, 209, 210, 211, 212, 213, 214, 219, 220, 231, 232, 233, 234, 235] (by decide +kernel) (by decide +kernel)
set_option maxRecDepth 20000 in
theorem gX3_readStatement_X3_readLength : GoodIn wsX3_readStatement (wsV RX3 124 RX3 yX3_readLength wsX3_readLength) := goodIn_app (goodIn_of _ (by decide +kernel)) ggX3_readStatement_X3_readLength
set_option maxRecDepth 20000 in
theorem ggX3_readStatement_X3_readViewer : GoodIn wsX3_readStatement wsX3_readViewer := goodIn_r _ [140, 66, 135, 104, 141, 142, 143, 144, 145, 146, 70, 71, 72, 5, 73, 74, 75, 105, 106, 107, 108, 1, 7, 8, 109, 110, 111, 112, 113, 81, 82, 83, 84, 114, 115, 116, 147, 148, 149, 150, 58, 59, 60, 151, 152, 153, 154, 155, 156, 157, 158, 159, 160, 161, 162, 163, 164, 203, 204, 205, 206, 207, 208, 209, 210, 211, 212, 213, 214, 219, 220, 231, 232, 233, 234, 235] (by decide +kernel) (by decide +kernel)
set_option maxRecDepth 20000 in
theorem gX3_readStatement_X3_readViewer : GoodIn wsX3_readStatement (wsV RX3 129 RX3 yX3_readViewer wsX3_readViewer) := goodIn_app (goodIn_of _ (by decide +kernel)) ggX3_readStatement_X3_readViewer
set_option maxRecDepth 20000 in
theorem ggX3_readStatement_X3_readPrice : GoodIn wsX3_readStatement wsX3_readPrice := goodIn_r _ [168, 169, 66, 67, 170, 70, 71, 72, 5, 73, 74, 75, 171, 172, 173, 174, 175, 176, 177, 178, 179, 180, 7, 181, 182, 183, 184, 185, 186, 187, 188, 189, 190, 191, 192, 193, 194, 195, 196, 1, 81, 82, 83, 84, 8, 197, 104, 198, 199, 200, 201, 2, 3, 4, 6, 9, 10, 11, 12, 13, 14, 15, 16, 17, 18, 19, 20, 21, 22, 23, 24, 25, 26, 27, 28, 29, 30, 31, 32, 33, 34, 35, 36, 37, 38, 39, 40, 41, 42, 43, 44, 45, 46, 47, 48, 49, 50, 51, 52, 53, 54, 55, 56, 57, 58, 59, 60, 105, 106, 107, 108, 109, 110, 111, 112, 113, 114, 115, 116, 202, 203, 204, 205, 206, 207, 208, 209, 210, 211, 212, 213, 214, 219, 220, 221, 222, 223, 224, 225, 226, 227, 228, 229, 230, 236, 237, 238, 215, 216, 217, 218] (by decide +kernel) (by decide +kernel)
set_option maxRecDepth 20000 in
theorem gX3_readStatement_X3_readPrice : GoodIn wsX3_readStatement (wsV RX3 134 RX3 yX3_readPrice wsX3_readPrice) := goodIn_app (goodIn_of _ (by decide +kernel)) ggX3_readStatement_X3_readPrice
set_option maxRecDepth 20000 in
theorem ggX3_readStatement_X3_fail : GoodIn wsX3_readStatement wsX3_fail := goodIn_r _ [73, 74, 75, 203, 204, 205, 206, 207, 208, 209, 210, 211, 212, 213, 214] (by decide +kernel) (by decide +kernel)
set_option maxRecDepth 20000 in
theorem gX3_readStatement_X3_fail : GoodIn wsX3_readStatement (wsV RX3 97 RX3 yX3_fail wsX3_fail) := goodIn_app (goodIn_of _ (by decide +kernel)) ggX3_readStatement_X3_fail
theorem dX3_readStatement_0 : decode cX3_readStatement 0 = .ok (.aload_n 0, 1) := by decide +kernel
theorem dX3_readStatement_1 : decode cX3_readStatement 1 = .ok (.getfield 35, 3) := by decide +kernel
theorem dX3_readStatement_4 : decode cX3_readStatement 4 = .ok (.istore_n 1, 1) := by decide +kernel
theorem dX3_readStatement_5 : decode cX3_readStatement 5 = .ok (.aload_n 0, 1) := by decide +kernel
theorem dX3_readStatement_6 : decode cX3_readStatement 6 = .ok (.ldc 107, 2) := by decide +kernel
theorem dX3_readStatement_8 : decode cX3_readStatement 8 = .ok (.invokevirtual 93, 3) := by decide +kernel
theorem dX3_readStatement_11 : decode cX3_readStatement 11 = .ok (.ifCond .eq 9, 3) := by decide +kernel
theorem dX3_readStatement_14 : decode cX3_readStatement 14 = .ok (.aload_n 0, 1) := by decide +kernel
theorem dX3_readStatement_15 : decode cX3_readStatement 15 = .ok (.iload_n 1, 1) := by decide +kernel
theorem dX3_readStatement_16 : decode cX3_readStatement 16 = .ok (.invokevirtual 109, 3) := by decide +kernel
theorem dX3_readStatement_19 : decode cX3_readStatement 19 = .ok (.ireturn, 1) := by decide +kernel
theorem dX3_readStatement_20 : decode cX3_readStatement 20 = .ok (.aload_n 0, 1) := by decide +kernel
theorem dX3_readStatement_21 : decode cX3_readStatement 21 = .ok (.ldc 112, 2) := by decide +kernel
theorem dX3_readStatement_23 : decode cX3_readStatement 23 = .ok (.invokevirtual 93, 3) := by decide +kernel
theorem dX3_readStatement_26 : decode cX3_readStatement 26 = .ok (.ifCond .eq 9, 3) := by decide +kernel
theorem dX3_readStatement_29 : decode cX3_readStatement 29 = .ok (.aload_n 0, 1) := by decide +kernel
theorem dX3_readStatement_30 : decode cX3_readStatement 30 = .ok (.iload_n 1, 1) := by decide +kernel
theorem dX3_readStatement_31 : decode cX3_readStatement 31 = .ok (.invokevirtual 114, 3) := by decide +kernel
theorem dX3_readStatement_34 : decode cX3_readStatement 34 = .ok (.ireturn, 1) := by decide +kernel
theorem dX3_readStatement_35 : decode cX3_readStatement 35 = .ok (.aload_n 0, 1) := by decide +kernel
theorem dX3_readStatement_36 : decode cX3_readStatement 36 = .ok (.ldc 117, 2) := by decide +kernel
theorem dX3_readStatement_38 : decode cX3_readStatement 38 = .ok (.invokevirtual 93, 3) := by decide +kernel
theorem dX3_readStatement_41 : decode cX3_readStatement 41 = .ok (.ifCond .eq 9, 3) := by decide +kernel
theorem dX3_readStatement_44 : decode cX3_readStatement 44 = .ok (.aload_n 0, 1) := by decide +kernel
theorem dX3_readStatement_45 : decode cX3_readStatement 45 = .ok (.iload_n 1, 1) := by decide +kernel
theorem dX3_readStatement_46 : decode cX3_readStatement 46 = .ok (.invokevirtual 119, 3) := by decide +kernel
theorem dX3_readStatement_49 : decode cX3_readStatement 49 = .ok (.ireturn, 1) := by decide +kernel
theorem dX3_readStatement_50 : decode cX3_readStatement 50 = .ok (.aload_n 0, 1) := by decide +kernel
theorem dX3_readStatement_51 : decode cX3_readStatement 51 = .ok (.ldc 122, 2) := by decide +kernel
theorem dX3_readStatement_53 : decode cX3_readStatement 53 = .ok (.invokevirtual 93, 3) := by decide +kernel
theorem dX3_readStatement_56 : decode cX3_readStatement 56 = .ok (.ifCond .eq 9, 3) := by decide +kernel
theorem dX3_readStatement_59 : decode cX3_readStatement 59 = .ok (.aload_n 0, 1) := by decide +kernel
theorem dX3_readStatement_60 : decode cX3_readStatement 60 = .ok (.iload_n 1, 1) := by decide +kernel
theorem dX3_readStatement_61 : decode cX3_readStatement 61 = .ok (.invokevirtual 124, 3) := by decide +kernel
theorem dX3_readStatement_64 : decode cX3_readStatement 64 = .ok (.ireturn, 1) := by decide +kernel
theorem dX3_readStatement_65 : decode cX3_readStatement 65 = .ok (.aload_n 0, 1) := by decide +kernel
theorem dX3_readStatement_66 : decode cX3_readStatement 66 = .ok (.ldc 127, 2) := by decide +kernel
theorem dX3_readStatement_68 : decode cX3_readStatement 68 = .ok (.invokevirtual 93, 3) := by decide +kernel
theorem dX3_readStatement_71 : decode cX3_readStatement 71 = .ok (.ifCond .eq 9, 3) := by decide +kernel
theorem dX3_readStatement_74 : decode cX3_readStatement 74 = .ok (.aload_n 0, 1) := by decide +kernel
theorem dX3_readStatement_75 : decode cX3_readStatement 75 = .ok (.iload_n 1, 1) := by decide +kernel
theorem dX3_readStatement_76 : decode cX3_readStatement 76 = .ok (.invokevirtual 129, 3) := by decide +kernel
theorem dX3_readStatement_79 : decode cX3_readStatement 79 = .ok (.ireturn, 1) := by decide +kernel
theorem dX3_readStatement_80 : decode cX3_readStatement 80 = .ok (.aload_n 0, 1) := by decide +kernel
theorem dX3_readStatement_81 : decode cX3_readStatement 81 = .ok (.ldc 132, 2) := by decide +kernel
theorem dX3_readStatement_83 : decode cX3_readStatement 83 = .ok (.invokevirtual 93, 3) := by decide +kernel
theorem dX3_readStatement_86 : decode cX3_readStatement 86 = .ok (.ifCond .eq 9, 3) := by decide +kernel
theorem dX3_readStatement_89 : decode cX3_readStatement 89 = .ok (.aload_n 0, 1) := by decide +kernel
theorem dX3_readStatement_90 : decode cX3_readStatement 90 = .ok (.iload_n 1, 1) := by decide +kernel
theorem dX3_readStatement_91 : decode cX3_readStatement 91 = .ok (.invokevirtual 134, 3) := by decide +kernel
theorem dX3_readStatement_94 : decode cX3_readStatement 94 = .ok (.ireturn, 1) := by decide +kernel
theorem dX3_readStatement_95 : decode cX3_readStatement 95 = .ok (.aload_n 0, 1) := by decide +kernel
theorem dX3_readStatement_96 : decode cX3_readStatement 96 = .ok (.bipush (-2), 2) := by decide +kernel
theorem dX3_readStatement_98 : decode cX3_readStatement 98 = .ok (.iload_n 1, 1) := by decide +kernel
theorem dX3_readStatement_99 : decode cX3_readStatement 99 = .ok (.invokevirtual 97, 3) := by decide +kernel
theorem dX3_readStatement_102 : decode cX3_readStatement 102 = .ok (.ireturn, 1) := by decide +kernel
set_option maxRecDepth 20000 in
theorem ggX3_readPlane_X3_fail : GoodIn wsX3_readPlane wsX3_fail := goodIn_r _ [10, 11, 12, 42, 43, 44, 45, 46, 47, 48, 49, 50, 51, 52, 53] (by decide +kernel) (by decide +kernel)
set_option maxRecDepth 20000 in
theorem gX3_readPlane_X3_fail : GoodIn wsX3_readPlane (wsV RX3 97 RX3 yX3_fail wsX3_fail) := goodIn_app (goodIn_of _ (by decide +kernel)) ggX3_readPlane_X3_fail
set_option maxRecDepth 20000 in
theorem ggX3_readPlane_X3_readLine : GoodIn wsX3_readPlane wsX3_readLine := goodIn_r _ [16, 17, 18, 19, 2, 3, 20, 21, 22, 23, 9, 24, 25, 26, 27, 28, 29, 30, 6, 7, 8, 10, 11, 12, 31, 32, 33, 34, 35, 36, 37, 38, 39, 40, 41, 42, 43, 44, 45, 46, 47, 48, 49, 50, 51, 52, 53, 54, 55, 56, 57, 58, 59, 60, 61, 62, 63, 64, 65] (by decide +kernel) (by decide +kernel)
set_option maxRecDepth 20000 in
theorem gX3_readPlane_X3_readLine : GoodIn wsX3_readPlane (wsV RX3 143 RX3 yX3_readLine wsX3_readLine) := goodIn_app (goodIn_of _ (by decide +kernel)) ggX3_readPlane_X3_readLine
theorem dX3_readPlane_0 : decode cX3_readPlane 0 = .ok (.aload_n 0, 1) := by decide +kernel
theorem dX3_readPlane_1 : decode cX3_readPlane 1 = .ok (.getfield 41, 3) := by decide +kernel
theorem dX3_readPlane_4 : decode cX3_readPlane 4 = .ok (.aload_n 0, 1) := by decide +kernel
theorem dX3_readPlane_5 : decode cX3_readPlane 5 = .ok (.getfield 12, 3) := by decide +kernel
theorem dX3_readPlane_8 : decode cX3_readPlane 8 = .ok (.getfield 73, 3) := by decide +kernel
theorem dX3_readPlane_11 : decode cX3_readPlane 11 = .ok (.getfield 137, 3) := by decide +kernel
theorem dX3_readPlane_14 : decode cX3_readPlane 14 = .ok (.if_icmp .lt 11, 3) := by decide +kernel
theorem dX3_readPlane_17 : decode cX3_readPlane 17 = .ok (.aload_n 0, 1) := by decide +kernel
theorem dX3_readPlane_18 : decode cX3_readPlane 18 = .ok (.bipush (-5), 2) := by decide +kernel
theorem dX3_readPlane_20 : decode cX3_readPlane 20 = .ok (.iload_n 1, 1) := by decide +kernel
theorem dX3_readPlane_21 : decode cX3_readPlane 21 = .ok (.invokevirtual 97, 3) := by decide +kernel
theorem dX3_readPlane_24 : decode cX3_readPlane 24 = .ok (.ireturn, 1) := by decide +kernel
theorem dX3_readPlane_25 : decode cX3_readPlane 25 = .ok (.iconst 0, 1) := by decide +kernel
theorem dX3_readPlane_26 : decode cX3_readPlane 26 = .ok (.istore_n 2, 1) := by decide +kernel
theorem dX3_readPlane_27 : decode cX3_readPlane 27 = .ok (.iload_n 2, 1) := by decide +kernel
theorem dX3_readPlane_28 : decode cX3_readPlane 28 = .ok (.aload_n 0, 1) := by decide +kernel
theorem dX3_readPlane_29 : decode cX3_readPlane 29 = .ok (.getfield 12, 3) := by decide +kernel
theorem dX3_readPlane_32 : decode cX3_readPlane 32 = .ok (.getfield 73, 3) := by decide +kernel
theorem dX3_readPlane_35 : decode cX3_readPlane 35 = .ok (.getfield 140, 3) := by decide +kernel
theorem dX3_readPlane_38 : decode cX3_readPlane 38 = .ok (.if_icmp .ge 23, 3) := by decide +kernel
theorem dX3_readPlane_41 : decode cX3_readPlane 41 = .ok (.aload_n 0, 1) := by decide +kernel
theorem dX3_readPlane_42 : decode cX3_readPlane 42 = .ok (.aload_n 0, 1) := by decide +kernel
theorem dX3_readPlane_43 : decode cX3_readPlane 43 = .ok (.getfield 41, 3) := by decide +kernel
theorem dX3_readPlane_46 : decode cX3_readPlane 46 = .ok (.iload_n 2, 1) := by decide +kernel
theorem dX3_readPlane_47 : decode cX3_readPlane 47 = .ok (.invokevirtual 143, 3) := by decide +kernel
theorem dX3_readPlane_50 : decode cX3_readPlane 50 = .ok (.ifCond .ne 5, 3) := by decide +kernel
theorem dX3_readPlane_53 : decode cX3_readPlane 53 = .ok (.iconst 0, 1) := by decide +kernel
theorem dX3_readPlane_54 : decode cX3_readPlane 54 = .ok (.ireturn, 1) := by decide +kernel
theorem dX3_readPlane_55 : decode cX3_readPlane 55 = .ok (.iinc 2 1, 3) := by decide +kernel
theorem dX3_readPlane_58 : decode cX3_readPlane 58 = .ok (.goto (-31), 3) := by decide +kernel
theorem dX3_readPlane_61 : decode cX3_readPlane 61 = .ok (.aload_n 0, 1) := by decide +kernel
theorem dX3_readPlane_62 : decode cX3_readPlane 62 = .ok (.dup, 1) := by decide +kernel
theorem dX3_readPlane_63 : decode cX3_readPlane 63 = .ok (.getfield 41, 3) := by decide +kernel
theorem dX3_readPlane_66 : decode cX3_readPlane 66 = .ok (.iconst 1, 1) := by decide +kernel
theorem dX3_readPlane_67 : decode cX3_readPlane 67 = .ok (.iadd, 1) := by decide +kernel
theorem dX3_readPlane_68 : decode cX3_readPlane 68 = .ok (.putfield 41, 3) := by decide +kernel
theorem dX3_readPlane_71 : decode cX3_readPlane 71 = .ok (.iconst 1, 1) := by decide +kernel
theorem dX3_readPlane_72 : decode cX3_readPlane 72 = .ok (.ireturn, 1) := by decide +kernel
set_option maxRecDepth 20000 in
theorem ggX3_readLine_X3_peek : GoodIn wsX3_readLine wsX3_peek := goodIn_r _ [11, 1, 2, 3, 35, 36, 37, 38, 39, 40, 41, 42, 43, 44, 45, 46] (by decide +kernel) (by decide +kernel)
set_option maxRecDepth 20000 in
theorem gX3_readLine_X3_peek : GoodIn wsX3_readLine (wsV RX3 62 RX3 yX3_peek wsX3_peek) := goodIn_app (goodIn_of _ (by decide +kernel)) ggX3_readLine_X3_peek
set_option maxRecDepth 20000 in
theorem ggX3_readLine_X3_isOfLine : GoodIn wsX3_readLine wsX3_isOfLine := goodIn_r _ [14, 15, 16, 10, 17] (by decide +kernel) (by decide +kernel)
set_option maxRecDepth 20000 in
theorem gX3_readLine_X3_isOfLine : GoodIn wsX3_readLine (va_wsS RX3 146 yX3_isOfLine wsX3_isOfLine) := goodIn_app (goodIn_of _ (by decide +kernel)) ggX3_readLine_X3_isOfLine
set_option maxRecDepth 20000 in
theorem ggX3_readLine_X3_fail : GoodIn wsX3_readLine wsX3_fail := goodIn_r _ [21, 22, 23, 35, 36, 37, 38, 39, 40, 41, 42, 43, 44, 45, 46] (by decide +kernel) (by decide +kernel)
set_option maxRecDepth 20000 in
theorem gX3_readLine_X3_fail : GoodIn wsX3_readLine (wsV RX3 97 RX3 yX3_fail wsX3_fail) := goodIn_app (goodIn_of _ (by decide +kernel)) ggX3_readLine_X3_fail
set_option maxRecDepth 20000 in
theorem ggX3_readLine_X0_isBack : GoodIn wsX3_readLine wsX0_isBack := goodIn_r _ [28, 29, 49, 50, 51, 52, 53, 54, 55, 56, 57, 58] (by decide +kernel) (by decide +kernel)
set_option maxRecDepth 20000 in
theorem gX3_readLine_X0_isBack : GoodIn wsX3_readLine (wsV RX3 152 RX0 yX0_isBack wsX0_isBack) := goodIn_app (goodIn_of _ (by decide +kernel)) ggX3_readLine_X0_isBack
set_option maxRecDepth 20000 in
theorem ggX3_readLine_X0_setKind : GoodIn wsX3_readLine wsX0_setKind := goodIn_r _ [33, 34, 49, 50, 51, 52, 53, 54, 55, 56, 57, 58] (by decide +kernel) (by decide +kernel)
set_option maxRecDepth 20000 in
theorem gX3_readLine_X0_setKind : GoodIn wsX3_readLine (wsV RX3 155 RX0 yX0_setKind wsX0_setKind) := goodIn_app (goodIn_of _ (by decide +kernel)) ggX3_readLine_X0_setKind
theorem dX3_readLine_0 : decode cX3_readLine 0 = .ok (.aload_n 0, 1) := by decide +kernel
theorem dX3_readLine_1 : decode cX3_readLine 1 = .ok (.invokevirtual 62, 3) := by decide +kernel
theorem dX3_readLine_4 : decode cX3_readLine 4 = .ok (.pop, 1) := by decide +kernel
theorem dX3_readLine_5 : decode cX3_readLine 5 = .ok (.aload_n 0, 1) := by decide +kernel
theorem dX3_readLine_6 : decode cX3_readLine 6 = .ok (.getfield 35, 3) := by decide +kernel
theorem dX3_readLine_9 : decode cX3_readLine 9 = .ok (.istore_n 3, 1) := by decide +kernel
theorem dX3_readLine_10 : decode cX3_readLine 10 = .ok (.aload_n 0, 1) := by decide +kernel
theorem dX3_readLine_11 : decode cX3_readLine 11 = .ok (.getfield 35, 3) := by decide +kernel
theorem dX3_readLine_14 : decode cX3_readLine 14 = .ok (.aload_n 0, 1) := by decide +kernel
theorem dX3_readLine_15 : decode cX3_readLine 15 = .ok (.getfield 32, 3) := by decide +kernel
theorem dX3_readLine_18 : decode cX3_readLine 18 = .ok (.if_icmp .ge 31, 3) := by decide +kernel
theorem dX3_readLine_21 : decode cX3_readLine 21 = .ok (.aload_n 0, 1) := by decide +kernel
theorem dX3_readLine_22 : decode cX3_readLine 22 = .ok (.getfield 28, 3) := by decide +kernel
theorem dX3_readLine_25 : decode cX3_readLine 25 = .ok (.aload_n 0, 1) := by decide +kernel
theorem dX3_readLine_26 : decode cX3_readLine 26 = .ok (.getfield 35, 3) := by decide +kernel
theorem dX3_readLine_29 : decode cX3_readLine 29 = .ok (.baload, 1) := by decide +kernel
theorem dX3_readLine_30 : decode cX3_readLine 30 = .ok (.invokestatic 146, 3) := by decide +kernel
theorem dX3_readLine_33 : decode cX3_readLine 33 = .ok (.ifCond .eq 16, 3) := by decide +kernel
theorem dX3_readLine_36 : decode cX3_readLine 36 = .ok (.aload_n 0, 1) := by decide +kernel
theorem dX3_readLine_37 : decode cX3_readLine 37 = .ok (.dup, 1) := by decide +kernel
theorem dX3_readLine_38 : decode cX3_readLine 38 = .ok (.getfield 35, 3) := by decide +kernel
theorem dX3_readLine_41 : decode cX3_readLine 41 = .ok (.iconst 1, 1) := by decide +kernel
theorem dX3_readLine_42 : decode cX3_readLine 42 = .ok (.iadd, 1) := by decide +kernel
theorem dX3_readLine_43 : decode cX3_readLine 43 = .ok (.putfield 35, 3) := by decide +kernel
theorem dX3_readLine_46 : decode cX3_readLine 46 = .ok (.goto (-36), 3) := by decide +kernel
theorem dX3_readLine_49 : decode cX3_readLine 49 = .ok (.aload_n 0, 1) := by decide +kernel
theorem dX3_readLine_50 : decode cX3_readLine 50 = .ok (.getfield 35, 3) := by decide +kernel
theorem dX3_readLine_53 : decode cX3_readLine 53 = .ok (.iload_n 3, 1) := by decide +kernel
theorem dX3_readLine_54 : decode cX3_readLine 54 = .ok (.if_icmp .ne 11, 3) := by decide +kernel
theorem dX3_readLine_57 : decode cX3_readLine 57 = .ok (.aload_n 0, 1) := by decide +kernel
theorem dX3_readLine_58 : decode cX3_readLine 58 = .ok (.bipush (-2), 2) := by decide +kernel
theorem dX3_readLine_60 : decode cX3_readLine 60 = .ok (.iload_n 3, 1) := by decide +kernel
theorem dX3_readLine_61 : decode cX3_readLine 61 = .ok (.invokevirtual 97, 3) := by decide +kernel
theorem dX3_readLine_64 : decode cX3_readLine 64 = .ok (.ireturn, 1) := by decide +kernel
theorem dX3_readLine_65 : decode cX3_readLine 65 = .ok (.aload_n 0, 1) := by decide +kernel
theorem dX3_readLine_66 : decode cX3_readLine 66 = .ok (.getfield 35, 3) := by decide +kernel
theorem dX3_readLine_69 : decode cX3_readLine 69 = .ok (.iload_n 3, 1) := by decide +kernel
theorem dX3_readLine_70 : decode cX3_readLine 70 = .ok (.isub, 1) := by decide +kernel
theorem dX3_readLine_71 : decode cX3_readLine 71 = .ok (.aload_n 0, 1) := by decide +kernel
theorem dX3_readLine_72 : decode cX3_readLine 72 = .ok (.getfield 12, 3) := by decide +kernel
theorem dX3_readLine_75 : decode cX3_readLine 75 = .ok (.getfield 73, 3) := by decide +kernel
theorem dX3_readLine_78 : decode cX3_readLine 78 = .ok (.getfield 149, 3) := by decide +kernel
theorem dX3_readLine_81 : decode cX3_readLine 81 = .ok (.if_icmp .eq 11, 3) := by decide +kernel
theorem dX3_readLine_84 : decode cX3_readLine 84 = .ok (.aload_n 0, 1) := by decide +kernel
theorem dX3_readLine_85 : decode cX3_readLine 85 = .ok (.bipush (-4), 2) := by decide +kernel
theorem dX3_readLine_87 : decode cX3_readLine 87 = .ok (.iload_n 3, 1) := by decide +kernel
theorem dX3_readLine_88 : decode cX3_readLine 88 = .ok (.invokevirtual 97, 3) := by decide +kernel
theorem dX3_readLine_91 : decode cX3_readLine 91 = .ok (.ireturn, 1) := by decide +kernel
theorem dX3_readLine_92 : decode cX3_readLine 92 = .ok (.iconst 0, 1) := by decide +kernel
theorem dX3_readLine_93 : decode cX3_readLine 93 = .ok (.istore 4, 2) := by decide +kernel
theorem dX3_readLine_95 : decode cX3_readLine 95 = .ok (.iload 4, 2) := by decide +kernel
theorem dX3_readLine_97 : decode cX3_readLine 97 = .ok (.aload_n 0, 1) := by decide +kernel
theorem dX3_readLine_98 : decode cX3_readLine 98 = .ok (.getfield 12, 3) := by decide +kernel
theorem dX3_readLine_101 : decode cX3_readLine 101 = .ok (.getfield 73, 3) := by decide +kernel
theorem dX3_readLine_104 : decode cX3_readLine 104 = .ok (.getfield 149, 3) := by decide +kernel
theorem dX3_readLine_107 : decode cX3_readLine 107 = .ok (.if_icmp .ge 95, 3) := by decide +kernel
theorem dX3_readLine_110 : decode cX3_readLine 110 = .ok (.aload_n 0, 1) := by decide +kernel
theorem dX3_readLine_111 : decode cX3_readLine 111 = .ok (.getfield 28, 3) := by decide +kernel
theorem dX3_readLine_114 : decode cX3_readLine 114 = .ok (.iload_n 3, 1) := by decide +kernel
theorem dX3_readLine_115 : decode cX3_readLine 115 = .ok (.iload 4, 2) := by decide +kernel
theorem dX3_readLine_117 : decode cX3_readLine 117 = .ok (.iadd, 1) := by decide +kernel
theorem dX3_readLine_118 : decode cX3_readLine 118 = .ok (.baload, 1) := by decide +kernel
theorem dX3_readLine_119 : decode cX3_readLine 119 = .ok (.bipush 46, 2) := by decide +kernel
theorem dX3_readLine_121 : decode cX3_readLine 121 = .ok (.if_icmp .ne 7, 3) := by decide +kernel
theorem dX3_readLine_124 : decode cX3_readLine 124 = .ok (.iconst 1, 1) := by decide +kernel
theorem dX3_readLine_125 : decode cX3_readLine 125 = .ok (.goto 4, 3) := by decide +kernel
theorem dX3_readLine_128 : decode cX3_readLine 128 = .ok (.iconst 0, 1) := by decide +kernel
theorem dX3_readLine_129 : decode cX3_readLine 129 = .ok (.istore 5, 2) := by decide +kernel
theorem dX3_readLine_131 : decode cX3_readLine 131 = .ok (.iload 5, 2) := by decide +kernel
theorem dX3_readLine_133 : decode cX3_readLine 133 = .ok (.ifCond .eq 28, 3) := by decide +kernel
theorem dX3_readLine_136 : decode cX3_readLine 136 = .ok (.aload_n 0, 1) := by decide +kernel
theorem dX3_readLine_137 : decode cX3_readLine 137 = .ok (.getfield 12, 3) := by decide +kernel
theorem dX3_readLine_140 : decode cX3_readLine 140 = .ok (.getfield 73, 3) := by decide +kernel
theorem dX3_readLine_143 : decode cX3_readLine 143 = .ok (.iload_n 1, 1) := by decide +kernel
theorem dX3_readLine_144 : decode cX3_readLine 144 = .ok (.invokevirtual 152, 3) := by decide +kernel
theorem dX3_readLine_147 : decode cX3_readLine 147 = .ok (.ifCond .eq 14, 3) := by decide +kernel
theorem dX3_readLine_150 : decode cX3_readLine 150 = .ok (.aload_n 0, 1) := by decide +kernel
theorem dX3_readLine_151 : decode cX3_readLine 151 = .ok (.bipush (-4), 2) := by decide +kernel
theorem dX3_readLine_153 : decode cX3_readLine 153 = .ok (.iload_n 3, 1) := by decide +kernel
theorem dX3_readLine_154 : decode cX3_readLine 154 = .ok (.iload 4, 2) := by decide +kernel
theorem dX3_readLine_156 : decode cX3_readLine 156 = .ok (.iadd, 1) := by decide +kernel
theorem dX3_readLine_157 : decode cX3_readLine 157 = .ok (.invokevirtual 97, 3) := by decide +kernel
theorem dX3_readLine_160 : decode cX3_readLine 160 = .ok (.ireturn, 1) := by decide +kernel
theorem dX3_readLine_161 : decode cX3_readLine 161 = .ok (.aload_n 0, 1) := by decide +kernel
theorem dX3_readLine_162 : decode cX3_readLine 162 = .ok (.getfield 12, 3) := by decide +kernel
theorem dX3_readLine_165 : decode cX3_readLine 165 = .ok (.getfield 73, 3) := by decide +kernel
theorem dX3_readLine_168 : decode cX3_readLine 168 = .ok (.iload_n 1, 1) := by decide +kernel
theorem dX3_readLine_169 : decode cX3_readLine 169 = .ok (.iload 4, 2) := by decide +kernel
theorem dX3_readLine_171 : decode cX3_readLine 171 = .ok (.iload_n 2, 1) := by decide +kernel
theorem dX3_readLine_172 : decode cX3_readLine 172 = .ok (.iload 5, 2) := by decide +kernel
theorem dX3_readLine_174 : decode cX3_readLine 174 = .ok (.ifCond .eq 7, 3) := by decide +kernel
theorem dX3_readLine_177 : decode cX3_readLine 177 = .ok (.iconst (-1), 1) := by decide +kernel
theorem dX3_readLine_178 : decode cX3_readLine 178 = .ok (.goto 15, 3) := by decide +kernel
theorem dX3_readLine_181 : decode cX3_readLine 181 = .ok (.aload_n 0, 1) := by decide +kernel
theorem dX3_readLine_182 : decode cX3_readLine 182 = .ok (.getfield 28, 3) := by decide +kernel
theorem dX3_readLine_185 : decode cX3_readLine 185 = .ok (.iload_n 3, 1) := by decide +kernel
theorem dX3_readLine_186 : decode cX3_readLine 186 = .ok (.iload 4, 2) := by decide +kernel
theorem dX3_readLine_188 : decode cX3_readLine 188 = .ok (.iadd, 1) := by decide +kernel
theorem dX3_readLine_189 : decode cX3_readLine 189 = .ok (.baload, 1) := by decide +kernel
theorem dX3_readLine_190 : decode cX3_readLine 190 = .ok (.bipush 97, 2) := by decide +kernel
theorem dX3_readLine_192 : decode cX3_readLine 192 = .ok (.isub, 1) := by decide +kernel
theorem dX3_readLine_193 : decode cX3_readLine 193 = .ok (.invokevirtual 155, 3) := by decide +kernel
theorem dX3_readLine_196 : decode cX3_readLine 196 = .ok (.iinc 4 1, 3) := by decide +kernel
theorem dX3_readLine_199 : decode cX3_readLine 199 = .ok (.goto (-104), 3) := by decide +kernel
theorem dX3_readLine_202 : decode cX3_readLine 202 = .ok (.iconst 1, 1) := by decide +kernel
theorem dX3_readLine_203 : decode cX3_readLine 203 = .ok (.ireturn, 1) := by decide +kernel
set_option maxRecDepth 20000 in
theorem ggX3_readHole_X3_fail : GoodIn wsX3_readHole wsX3_fail := goodIn_r _ [11, 12, 13, 41, 42, 43, 44, 45, 46, 47, 48, 49, 50, 51, 52] (by decide +kernel) (by decide +kernel)
set_option maxRecDepth 20000 in
theorem gX3_readHole_X3_fail : GoodIn wsX3_readHole (wsV RX3 97 RX3 yX3_fail wsX3_fail) := goodIn_app (goodIn_of _ (by decide +kernel)) ggX3_readHole_X3_fail
set_option maxRecDepth 20000 in
theorem ggX3_readHole_X3_readNumber : GoodIn wsX3_readHole wsX3_readNumber := goodIn_r _ [17, 18, 5, 19, 20, 21, 22, 23, 24, 25, 26, 27, 28, 10, 29, 30, 31, 32, 7, 8, 9, 11, 12, 13, 41, 42, 43, 44, 45, 46, 47, 48, 49, 50, 51, 52] (by decide +kernel) (by decide +kernel)
set_option maxRecDepth 20000 in
theorem gX3_readHole_X3_readNumber : GoodIn wsX3_readHole (wsV RX3 101 RX3 yX3_readNumber wsX3_readNumber) := goodIn_app (goodIn_of _ (by decide +kernel)) ggX3_readHole_X3_readNumber
set_option maxRecDepth 20000 in
theorem ggX3_readHole_X0_addHole : GoodIn wsX3_readHole wsX0_addHole := goodIn_r _ [37, 38, 39, 40, 55, 56, 57, 58, 59, 60, 61, 62, 63, 64] (by decide +kernel) (by decide +kernel)
set_option maxRecDepth 20000 in
theorem gX3_readHole_X0_addHole : GoodIn wsX3_readHole (wsV RX3 82 RX0 yX0_addHole wsX0_addHole) := goodIn_app (goodIn_of _ (by decide +kernel)) ggX3_readHole_X0_addHole
theorem dX3_readHole_0 : decode cX3_readHole 0 = .ok (.aload_n 0, 1) := by decide +kernel
theorem dX3_readHole_1 : decode cX3_readHole 1 = .ok (.getfield 12, 3) := by decide +kernel
theorem dX3_readHole_4 : decode cX3_readHole 4 = .ok (.getfield 73, 3) := by decide +kernel
theorem dX3_readHole_7 : decode cX3_readHole 7 = .ok (.getfield 77, 3) := by decide +kernel
theorem dX3_readHole_10 : decode cX3_readHole 10 = .ok (.iconst 4, 1) := by decide +kernel
theorem dX3_readHole_11 : decode cX3_readHole 11 = .ok (.if_icmp .lt 11, 3) := by decide +kernel
theorem dX3_readHole_14 : decode cX3_readHole 14 = .ok (.aload_n 0, 1) := by decide +kernel
theorem dX3_readHole_15 : decode cX3_readHole 15 = .ok (.bipush (-5), 2) := by decide +kernel
theorem dX3_readHole_17 : decode cX3_readHole 17 = .ok (.iload_n 1, 1) := by decide +kernel
theorem dX3_readHole_18 : decode cX3_readHole 18 = .ok (.invokevirtual 97, 3) := by decide +kernel
theorem dX3_readHole_21 : decode cX3_readHole 21 = .ok (.ireturn, 1) := by decide +kernel
theorem dX3_readHole_22 : decode cX3_readHole 22 = .ok (.aload_n 0, 1) := by decide +kernel
theorem dX3_readHole_23 : decode cX3_readHole 23 = .ok (.iconst 0, 1) := by decide +kernel
theorem dX3_readHole_24 : decode cX3_readHole 24 = .ok (.aload_n 0, 1) := by decide +kernel
theorem dX3_readHole_25 : decode cX3_readHole 25 = .ok (.getfield 12, 3) := by decide +kernel
theorem dX3_readHole_28 : decode cX3_readHole 28 = .ok (.getfield 73, 3) := by decide +kernel
theorem dX3_readHole_31 : decode cX3_readHole 31 = .ok (.getfield 149, 3) := by decide +kernel
theorem dX3_readHole_34 : decode cX3_readHole 34 = .ok (.iconst 1, 1) := by decide +kernel
theorem dX3_readHole_35 : decode cX3_readHole 35 = .ok (.isub, 1) := by decide +kernel
theorem dX3_readHole_36 : decode cX3_readHole 36 = .ok (.invokevirtual 101, 3) := by decide +kernel
theorem dX3_readHole_39 : decode cX3_readHole 39 = .ok (.ifCond .ne 5, 3) := by decide +kernel
theorem dX3_readHole_42 : decode cX3_readHole 42 = .ok (.iconst 0, 1) := by decide +kernel
theorem dX3_readHole_43 : decode cX3_readHole 43 = .ok (.ireturn, 1) := by decide +kernel
theorem dX3_readHole_44 : decode cX3_readHole 44 = .ok (.aload_n 0, 1) := by decide +kernel
theorem dX3_readHole_45 : decode cX3_readHole 45 = .ok (.getfield 38, 3) := by decide +kernel
theorem dX3_readHole_48 : decode cX3_readHole 48 = .ok (.istore_n 2, 1) := by decide +kernel
theorem dX3_readHole_49 : decode cX3_readHole 49 = .ok (.aload_n 0, 1) := by decide +kernel
theorem dX3_readHole_50 : decode cX3_readHole 50 = .ok (.iconst 0, 1) := by decide +kernel
theorem dX3_readHole_51 : decode cX3_readHole 51 = .ok (.aload_n 0, 1) := by decide +kernel
theorem dX3_readHole_52 : decode cX3_readHole 52 = .ok (.getfield 12, 3) := by decide +kernel
theorem dX3_readHole_55 : decode cX3_readHole 55 = .ok (.getfield 73, 3) := by decide +kernel
theorem dX3_readHole_58 : decode cX3_readHole 58 = .ok (.getfield 140, 3) := by decide +kernel
theorem dX3_readHole_61 : decode cX3_readHole 61 = .ok (.iconst 1, 1) := by decide +kernel
theorem dX3_readHole_62 : decode cX3_readHole 62 = .ok (.isub, 1) := by decide +kernel
theorem dX3_readHole_63 : decode cX3_readHole 63 = .ok (.invokevirtual 101, 3) := by decide +kernel
theorem dX3_readHole_66 : decode cX3_readHole 66 = .ok (.ifCond .ne 5, 3) := by decide +kernel
theorem dX3_readHole_69 : decode cX3_readHole 69 = .ok (.iconst 0, 1) := by decide +kernel
theorem dX3_readHole_70 : decode cX3_readHole 70 = .ok (.ireturn, 1) := by decide +kernel
theorem dX3_readHole_71 : decode cX3_readHole 71 = .ok (.aload_n 0, 1) := by decide +kernel
theorem dX3_readHole_72 : decode cX3_readHole 72 = .ok (.getfield 12, 3) := by decide +kernel
theorem dX3_readHole_75 : decode cX3_readHole 75 = .ok (.getfield 73, 3) := by decide +kernel
theorem dX3_readHole_78 : decode cX3_readHole 78 = .ok (.iload_n 2, 1) := by decide +kernel
theorem dX3_readHole_79 : decode cX3_readHole 79 = .ok (.aload_n 0, 1) := by decide +kernel
theorem dX3_readHole_80 : decode cX3_readHole 80 = .ok (.getfield 38, 3) := by decide +kernel
theorem dX3_readHole_83 : decode cX3_readHole 83 = .ok (.invokevirtual 82, 3) := by decide +kernel
theorem dX3_readHole_86 : decode cX3_readHole 86 = .ok (.iconst 1, 1) := by decide +kernel
theorem dX3_readHole_87 : decode cX3_readHole 87 = .ok (.ireturn, 1) := by decide +kernel
set_option maxRecDepth 20000 in
theorem ggX3_readReach_X3_fail : GoodIn wsX3_readReach wsX3_fail := goodIn_r _ [10, 11, 12, 32, 33, 34, 35, 36, 37, 38, 39, 40, 41, 42, 43] (by decide +kernel) (by decide +kernel)
set_option maxRecDepth 20000 in
theorem gX3_readReach_X3_fail : GoodIn wsX3_readReach (wsV RX3 97 RX3 yX3_fail wsX3_fail) := goodIn_app (goodIn_of _ (by decide +kernel)) ggX3_readReach_X3_fail
set_option maxRecDepth 20000 in
theorem ggX3_readReach_X3_readNumber : GoodIn wsX3_readReach wsX3_readNumber := goodIn_r _ [16, 17, 4, 18, 19, 20, 21, 22, 23, 24, 25, 26, 27, 9, 28, 29, 30, 31, 6, 7, 8, 10, 11, 12, 32, 33, 34, 35, 36, 37, 38, 39, 40, 41, 42, 43] (by decide +kernel) (by decide +kernel)
set_option maxRecDepth 20000 in
theorem gX3_readReach_X3_readNumber : GoodIn wsX3_readReach (wsV RX3 101 RX3 yX3_readNumber wsX3_readNumber) := goodIn_app (goodIn_of _ (by decide +kernel)) ggX3_readReach_X3_readNumber
theorem dX3_readReach_0 : decode cX3_readReach 0 = .ok (.aload_n 0, 1) := by decide +kernel
