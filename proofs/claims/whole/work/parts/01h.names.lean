theorem dX7_plane_20 : decode cX7_plane 20 = .ok (.ifCond .ne 7, 3) := by decide +kernel
theorem dX7_plane_23 : decode cX7_plane 23 = .ok (.iconst 1, 1) := by decide +kernel
theorem dX7_plane_24 : decode cX7_plane 24 = .ok (.goto 4, 3) := by decide +kernel
theorem dX7_plane_27 : decode cX7_plane 27 = .ok (.iconst 0, 1) := by decide +kernel
theorem dX7_plane_28 : decode cX7_plane 28 = .ok (.iconst 2, 1) := by decide +kernel
theorem dX7_plane_29 : decode cX7_plane 29 = .ok (.invokevirtual 174, 3) := by decide +kernel
theorem dX7_plane_32 : decode cX7_plane 32 = .ok (.ifCond .eq 7, 3) := by decide +kernel
theorem dX7_plane_35 : decode cX7_plane 35 = .ok (.iconst 0, 1) := by decide +kernel
theorem dX7_plane_36 : decode cX7_plane 36 = .ok (.goto 9, 3) := by decide +kernel
theorem dX7_plane_39 : decode cX7_plane 39 = .ok (.aload_n 0, 1) := by decide +kernel
theorem dX7_plane_40 : decode cX7_plane 40 = .ok (.iload_n 1, 1) := by decide +kernel
theorem dX7_plane_41 : decode cX7_plane 41 = .ok (.iload_n 2, 1) := by decide +kernel
theorem dX7_plane_42 : decode cX7_plane 42 = .ok (.invokevirtual 285, 3) := by decide +kernel
theorem dX7_plane_45 : decode cX7_plane 45 = .ok (.ireturn, 1) := by decide +kernel
set_option maxRecDepth 20000 in
theorem ggX7_toldHole_X7_holeX : GoodIn wsX7_toldHole wsX7_holeX := goodIn_r _ [5, 6, 51, 52, 53, 54, 55, 56, 57, 58, 59, 60, 61, 62, 63, 64, 65, 66, 67, 68, 69] (by decide +kernel) (by decide +kernel)
set_option maxRecDepth 20000 in
theorem gX7_toldHole_X7_holeX : GoodIn wsX7_toldHole (wsV RX7 190 RX7 yX7_holeX wsX7_holeX) := goodIn_app (goodIn_of _ (by decide +kernel)) ggX7_toldHole_X7_holeX
set_option maxRecDepth 20000 in
theorem ggX7_toldHole_X7_holeY : GoodIn wsX7_toldHole wsX7_holeY := goodIn_r _ [10, 6, 51, 52, 53, 54, 55, 56, 57, 58, 59, 60, 61, 62, 63, 64, 65, 66, 67, 68, 69] (by decide +kernel) (by decide +kernel)
set_option maxRecDepth 20000 in
theorem gX7_toldHole_X7_holeY : GoodIn wsX7_toldHole (wsV RX7 193 RX7 yX7_holeY wsX7_holeY) := goodIn_app (goodIn_of _ (by decide +kernel)) ggX7_toldHole_X7_holeY
set_option maxRecDepth 20000 in
theorem ggX7_toldHole_X7_lookerAt : GoodIn wsX7_toldHole wsX7_lookerAt := goodIn_r _ [14, 6, 15, 16, 17, 4, 18, 51, 52, 53, 54, 55, 56, 57, 58, 59, 60, 61, 62, 63, 64, 65, 66, 67, 68, 69] (by decide +kernel) (by decide +kernel)
set_option maxRecDepth 20000 in
theorem gX7_toldHole_X7_lookerAt : GoodIn wsX7_toldHole (wsV RX7 258 RX7 yX7_lookerAt wsX7_lookerAt) := goodIn_app (goodIn_of _ (by decide +kernel)) ggX7_toldHole_X7_lookerAt
set_option maxRecDepth 20000 in
theorem ggX7_toldHole_X7_kindsOf : GoodIn wsX7_toldHole wsX7_kindsOf := goodIn_r _ [22, 23, 24, 25, 4, 26, 6, 27, 28, 29, 30, 31, 32, 33, 34, 35, 36, 37, 38, 1, 2, 3, 5, 39, 40, 41, 42, 7, 8, 9, 10, 43, 44, 45, 46, 51, 52, 53, 54, 55, 56, 57, 58, 59, 60, 61, 62, 63, 64, 65, 66, 67, 68, 69] (by decide +kernel) (by decide +kernel)
set_option maxRecDepth 20000 in
theorem gX7_toldHole_X7_kindsOf : GoodIn wsX7_toldHole (wsV RX7 226 RX7 yX7_kindsOf wsX7_kindsOf) := goodIn_app (goodIn_of _ (by decide +kernel)) ggX7_toldHole_X7_kindsOf
set_option maxRecDepth 20000 in
theorem ggX7_toldHole_X7_depthOf : GoodIn wsX7_toldHole wsX7_depthOf := goodIn_r _ [50, 23, 24, 25, 4, 26, 6, 31, 32, 33, 34, 35, 36, 37, 38, 1, 2, 3, 5, 39, 40, 41, 42, 7, 8, 9, 10, 43, 44, 45, 46, 51, 52, 53, 54, 55, 56, 57, 58, 59, 60, 61, 62, 63, 64, 65, 66, 67, 68, 69] (by decide +kernel) (by decide +kernel)
set_option maxRecDepth 20000 in
theorem gX7_toldHole_X7_depthOf : GoodIn wsX7_toldHole (wsV RX7 229 RX7 yX7_depthOf wsX7_depthOf) := goodIn_app (goodIn_of _ (by decide +kernel)) ggX7_toldHole_X7_depthOf
theorem dX7_toldHole_0 : decode cX7_toldHole 0 = .ok (.iload_n 2, 1) := by decide +kernel
theorem dX7_toldHole_1 : decode cX7_toldHole 1 = .ok (.ifCond .ne 11, 3) := by decide +kernel
theorem dX7_toldHole_4 : decode cX7_toldHole 4 = .ok (.aload_n 0, 1) := by decide +kernel
theorem dX7_toldHole_5 : decode cX7_toldHole 5 = .ok (.iload_n 1, 1) := by decide +kernel
theorem dX7_toldHole_6 : decode cX7_toldHole 6 = .ok (.invokevirtual 190, 3) := by decide +kernel
theorem dX7_toldHole_9 : decode cX7_toldHole 9 = .ok (.goto 47, 3) := by decide +kernel
theorem dX7_toldHole_12 : decode cX7_toldHole 12 = .ok (.iload_n 2, 1) := by decide +kernel
theorem dX7_toldHole_13 : decode cX7_toldHole 13 = .ok (.iconst 1, 1) := by decide +kernel
theorem dX7_toldHole_14 : decode cX7_toldHole 14 = .ok (.if_icmp .ne 11, 3) := by decide +kernel
theorem dX7_toldHole_17 : decode cX7_toldHole 17 = .ok (.aload_n 0, 1) := by decide +kernel
theorem dX7_toldHole_18 : decode cX7_toldHole 18 = .ok (.iload_n 1, 1) := by decide +kernel
theorem dX7_toldHole_19 : decode cX7_toldHole 19 = .ok (.invokevirtual 193, 3) := by decide +kernel
theorem dX7_toldHole_22 : decode cX7_toldHole 22 = .ok (.goto 34, 3) := by decide +kernel
theorem dX7_toldHole_25 : decode cX7_toldHole 25 = .ok (.iload_n 2, 1) := by decide +kernel
theorem dX7_toldHole_26 : decode cX7_toldHole 26 = .ok (.iconst 2, 1) := by decide +kernel
theorem dX7_toldHole_27 : decode cX7_toldHole 27 = .ok (.if_icmp .ne 11, 3) := by decide +kernel
theorem dX7_toldHole_30 : decode cX7_toldHole 30 = .ok (.aload_n 0, 1) := by decide +kernel
theorem dX7_toldHole_31 : decode cX7_toldHole 31 = .ok (.iload_n 1, 1) := by decide +kernel
theorem dX7_toldHole_32 : decode cX7_toldHole 32 = .ok (.invokevirtual 258, 3) := by decide +kernel
theorem dX7_toldHole_35 : decode cX7_toldHole 35 = .ok (.goto 21, 3) := by decide +kernel
theorem dX7_toldHole_38 : decode cX7_toldHole 38 = .ok (.iload_n 2, 1) := by decide +kernel
theorem dX7_toldHole_39 : decode cX7_toldHole 39 = .ok (.iconst 3, 1) := by decide +kernel
theorem dX7_toldHole_40 : decode cX7_toldHole 40 = .ok (.if_icmp .ne 11, 3) := by decide +kernel
theorem dX7_toldHole_43 : decode cX7_toldHole 43 = .ok (.aload_n 0, 1) := by decide +kernel
theorem dX7_toldHole_44 : decode cX7_toldHole 44 = .ok (.iload_n 1, 1) := by decide +kernel
theorem dX7_toldHole_45 : decode cX7_toldHole 45 = .ok (.invokevirtual 226, 3) := by decide +kernel
theorem dX7_toldHole_48 : decode cX7_toldHole 48 = .ok (.goto 8, 3) := by decide +kernel
theorem dX7_toldHole_51 : decode cX7_toldHole 51 = .ok (.aload_n 0, 1) := by decide +kernel
theorem dX7_toldHole_52 : decode cX7_toldHole 52 = .ok (.iload_n 1, 1) := by decide +kernel
theorem dX7_toldHole_53 : decode cX7_toldHole 53 = .ok (.invokevirtual 229, 3) := by decide +kernel
theorem dX7_toldHole_56 : decode cX7_toldHole 56 = .ok (.ireturn, 1) := by decide +kernel
set_option maxRecDepth 20000 in
theorem ggX7_hole_X7_noHole : GoodIn wsX7_hole wsX7_noHole := goodIn_r _ [6, 7, 8, 9, 5, 10, 11, 12, 13, 14, 1, 67, 68, 69, 70, 71, 72, 73, 74, 75, 76, 77, 78, 79, 80, 81, 82, 83, 84, 85] (by decide +kernel) (by decide +kernel)
set_option maxRecDepth 20000 in
theorem gX7_hole_X7_noHole : GoodIn wsX7_hole (wsV RX7 288 RX7 yX7_noHole wsX7_noHole) := goodIn_app (goodIn_of _ (by decide +kernel)) ggX7_hole_X7_noHole
set_option maxRecDepth 20000 in
theorem ggX7_hole_X7_in : GoodIn wsX7_hole wsX7_in := goodIn_r _ [10] (by decide +kernel) (by decide +kernel)
set_option maxRecDepth 20000 in
theorem gX7_hole_X7_in : GoodIn wsX7_hole (va_wsS RX7 64 yX7_in wsX7_in) := goodIn_app (goodIn_of _ (by decide +kernel)) ggX7_hole_X7_in
set_option maxRecDepth 20000 in
theorem ggX7_hole_X7_fails : GoodIn wsX7_hole wsX7_fails := goodIn_r _ [14, 1, 67, 68, 69, 70, 71, 72, 73, 74, 75, 76, 77, 78, 79, 80, 81, 82, 83, 84, 85] (by decide +kernel) (by decide +kernel)
set_option maxRecDepth 20000 in
theorem gX7_hole_X7_fails : GoodIn wsX7_hole (wsV RX7 174 RX7 yX7_fails wsX7_fails) := goodIn_app (goodIn_of _ (by decide +kernel)) ggX7_hole_X7_fails
set_option maxRecDepth 20000 in
theorem ggX7_hole_X7_toldHole : GoodIn wsX7_hole wsX7_toldHole := goodIn_r _ [18, 19, 20, 21, 5, 22, 7, 23, 24, 25, 26, 27, 28, 29, 30, 31, 32, 33, 34, 35, 36, 37, 38, 39, 40, 41, 42, 43, 44, 45, 46, 47, 48, 49, 50, 51, 52, 53, 54, 55, 56, 57, 58, 59, 60, 61, 62, 63, 64, 65, 66, 67, 68, 69, 70, 71, 72, 73, 74, 75, 76, 77, 78, 79, 80, 81, 82, 83, 84, 85] (by decide +kernel) (by decide +kernel)
set_option maxRecDepth 20000 in
theorem gX7_hole_X7_toldHole : GoodIn wsX7_hole (wsV RX7 291 RX7 yX7_toldHole wsX7_toldHole) := goodIn_app (goodIn_of _ (by decide +kernel)) ggX7_hole_X7_toldHole
theorem dX7_hole_0 : decode cX7_hole 0 = .ok (.aload_n 0, 1) := by decide +kernel
theorem dX7_hole_1 : decode cX7_hole 1 = .ok (.iconst 0, 1) := by decide +kernel
theorem dX7_hole_2 : decode cX7_hole 2 = .ok (.putfield 42, 3) := by decide +kernel
theorem dX7_hole_5 : decode cX7_hole 5 = .ok (.aload_n 0, 1) := by decide +kernel
theorem dX7_hole_6 : decode cX7_hole 6 = .ok (.iload_n 1, 1) := by decide +kernel
theorem dX7_hole_7 : decode cX7_hole 7 = .ok (.invokevirtual 288, 3) := by decide +kernel
theorem dX7_hole_10 : decode cX7_hole 10 = .ok (.ifCond .ne 25, 3) := by decide +kernel
theorem dX7_hole_13 : decode cX7_hole 13 = .ok (.aload_n 0, 1) := by decide +kernel
theorem dX7_hole_14 : decode cX7_hole 14 = .ok (.iload_n 2, 1) := by decide +kernel
theorem dX7_hole_15 : decode cX7_hole 15 = .ok (.iconst 0, 1) := by decide +kernel
theorem dX7_hole_16 : decode cX7_hole 16 = .ok (.iconst 4, 1) := by decide +kernel
theorem dX7_hole_17 : decode cX7_hole 17 = .ok (.invokestatic 64, 3) := by decide +kernel
theorem dX7_hole_20 : decode cX7_hole 20 = .ok (.ifCond .ne 7, 3) := by decide +kernel
theorem dX7_hole_23 : decode cX7_hole 23 = .ok (.iconst 1, 1) := by decide +kernel
theorem dX7_hole_24 : decode cX7_hole 24 = .ok (.goto 4, 3) := by decide +kernel
theorem dX7_hole_27 : decode cX7_hole 27 = .ok (.iconst 0, 1) := by decide +kernel
theorem dX7_hole_28 : decode cX7_hole 28 = .ok (.iconst 2, 1) := by decide +kernel
theorem dX7_hole_29 : decode cX7_hole 29 = .ok (.invokevirtual 174, 3) := by decide +kernel
theorem dX7_hole_32 : decode cX7_hole 32 = .ok (.ifCond .eq 7, 3) := by decide +kernel
theorem dX7_hole_35 : decode cX7_hole 35 = .ok (.iconst 0, 1) := by decide +kernel
theorem dX7_hole_36 : decode cX7_hole 36 = .ok (.goto 9, 3) := by decide +kernel
theorem dX7_hole_39 : decode cX7_hole 39 = .ok (.aload_n 0, 1) := by decide +kernel
theorem dX7_hole_40 : decode cX7_hole 40 = .ok (.iload_n 1, 1) := by decide +kernel
theorem dX7_hole_41 : decode cX7_hole 41 = .ok (.iload_n 2, 1) := by decide +kernel
theorem dX7_hole_42 : decode cX7_hole 42 = .ok (.invokevirtual 291, 3) := by decide +kernel
theorem dX7_hole_45 : decode cX7_hole 45 = .ok (.ireturn, 1) := by decide +kernel
set_option maxRecDepth 20000 in
theorem ggX7_sees_X7_noHole : GoodIn wsX7_sees wsX7_noHole := goodIn_r _ [7, 2, 8, 9, 6, 10, 11, 12, 13, 14, 1, 47, 48, 49, 50, 51, 52, 53, 54, 55, 56, 57, 58, 59, 60, 61, 62, 63, 64, 65] (by decide +kernel) (by decide +kernel)
set_option maxRecDepth 20000 in
theorem gX7_sees_X7_noHole : GoodIn wsX7_sees (wsV RX7 288 RX7 yX7_noHole wsX7_noHole) := goodIn_app (goodIn_of _ (by decide +kernel)) ggX7_sees_X7_noHole
set_option maxRecDepth 20000 in
theorem ggX7_sees_X7_noCell : GoodIn wsX7_sees wsX7_noCell := goodIn_r _ [18, 2, 8, 9, 6, 10, 11, 12, 13, 14, 1, 47, 48, 49, 50, 51, 52, 53, 54, 55, 56, 57, 58, 59, 60, 61, 62, 63, 64, 65] (by decide +kernel) (by decide +kernel)
set_option maxRecDepth 20000 in
theorem gX7_sees_X7_noCell : GoodIn wsX7_sees (wsV RX7 282 RX7 yX7_noCell wsX7_noCell) := goodIn_app (goodIn_of _ (by decide +kernel)) ggX7_sees_X7_noCell
set_option maxRecDepth 20000 in
theorem ggX7_sees_X7_planeSeen : GoodIn wsX7_sees wsX7_planeSeen := goodIn_r _ [22, 23, 24, 25, 6, 26, 2, 27, 28, 29, 30, 31, 32, 33, 34, 35, 36, 37, 38, 39, 40, 41, 42, 47, 48, 49, 50, 51, 52, 53, 54, 55, 56, 57, 58, 59, 60, 61, 62, 63, 64, 65] (by decide +kernel) (by decide +kernel)
set_option maxRecDepth 20000 in
theorem gX7_sees_X7_planeSeen : GoodIn wsX7_sees (wsV RX7 206 RX7 yX7_planeSeen wsX7_planeSeen) := goodIn_app (goodIn_of _ (by decide +kernel)) ggX7_sees_X7_planeSeen
set_option maxRecDepth 20000 in
theorem ggX7_sees_X7_kindSeen : GoodIn wsX7_sees wsX7_kindSeen := goodIn_r _ [46, 19, 20, 21, 6, 22, 23, 24, 25, 26, 2, 27, 28, 29, 30, 31, 32, 33, 34, 35, 36, 37, 38, 39, 40, 41, 42, 47, 48, 49, 50, 51, 52, 53, 54, 55, 56, 57, 58, 59, 60, 61, 62, 63, 64, 65] (by decide +kernel) (by decide +kernel)
set_option maxRecDepth 20000 in
theorem gX7_sees_X7_kindSeen : GoodIn wsX7_sees (wsV RX7 212 RX7 yX7_kindSeen wsX7_kindSeen) := goodIn_app (goodIn_of _ (by decide +kernel)) ggX7_sees_X7_kindSeen
theorem dX7_sees_0 : decode cX7_sees 0 = .ok (.aload_n 0, 1) := by decide +kernel
theorem dX7_sees_1 : decode cX7_sees 1 = .ok (.iconst 0, 1) := by decide +kernel
theorem dX7_sees_2 : decode cX7_sees 2 = .ok (.putfield 42, 3) := by decide +kernel
theorem dX7_sees_5 : decode cX7_sees 5 = .ok (.aload_n 0, 1) := by decide +kernel
theorem dX7_sees_6 : decode cX7_sees 6 = .ok (.iload_n 1, 1) := by decide +kernel
theorem dX7_sees_7 : decode cX7_sees 7 = .ok (.invokevirtual 288, 3) := by decide +kernel
theorem dX7_sees_10 : decode cX7_sees 10 = .ok (.ifCond .ne 12, 3) := by decide +kernel
theorem dX7_sees_13 : decode cX7_sees 13 = .ok (.aload_n 0, 1) := by decide +kernel
theorem dX7_sees_14 : decode cX7_sees 14 = .ok (.iload_n 2, 1) := by decide +kernel
theorem dX7_sees_15 : decode cX7_sees 15 = .ok (.iload_n 3, 1) := by decide +kernel
theorem dX7_sees_16 : decode cX7_sees 16 = .ok (.invokevirtual 282, 3) := by decide +kernel
theorem dX7_sees_19 : decode cX7_sees 19 = .ok (.ifCond .eq 5, 3) := by decide +kernel
theorem dX7_sees_22 : decode cX7_sees 22 = .ok (.iconst 0, 1) := by decide +kernel
theorem dX7_sees_23 : decode cX7_sees 23 = .ok (.ireturn, 1) := by decide +kernel
theorem dX7_sees_24 : decode cX7_sees 24 = .ok (.aload_n 0, 1) := by decide +kernel
theorem dX7_sees_25 : decode cX7_sees 25 = .ok (.getfield 17, 3) := by decide +kernel
theorem dX7_sees_28 : decode cX7_sees 28 = .ok (.iconst 0, 1) := by decide +kernel
theorem dX7_sees_29 : decode cX7_sees 29 = .ok (.iaload, 1) := by decide +kernel
theorem dX7_sees_30 : decode cX7_sees 30 = .ok (.iload_n 3, 1) := by decide +kernel
theorem dX7_sees_31 : decode cX7_sees 31 = .ok (.imul, 1) := by decide +kernel
theorem dX7_sees_32 : decode cX7_sees 32 = .ok (.iload_n 2, 1) := by decide +kernel
theorem dX7_sees_33 : decode cX7_sees 33 = .ok (.iadd, 1) := by decide +kernel
theorem dX7_sees_34 : decode cX7_sees 34 = .ok (.istore 4, 2) := by decide +kernel
theorem dX7_sees_36 : decode cX7_sees 36 = .ok (.bipush 100, 2) := by decide +kernel
theorem dX7_sees_38 : decode cX7_sees 38 = .ok (.aload_n 0, 1) := by decide +kernel
theorem dX7_sees_39 : decode cX7_sees 39 = .ok (.iload_n 1, 1) := by decide +kernel
theorem dX7_sees_40 : decode cX7_sees 40 = .ok (.iload 4, 2) := by decide +kernel
theorem dX7_sees_42 : decode cX7_sees 42 = .ok (.invokevirtual 206, 3) := by decide +kernel
theorem dX7_sees_45 : decode cX7_sees 45 = .ok (.imul, 1) := by decide +kernel
theorem dX7_sees_46 : decode cX7_sees 46 = .ok (.aload_n 0, 1) := by decide +kernel
theorem dX7_sees_47 : decode cX7_sees 47 = .ok (.iload_n 1, 1) := by decide +kernel
theorem dX7_sees_48 : decode cX7_sees 48 = .ok (.iload 4, 2) := by decide +kernel
theorem dX7_sees_50 : decode cX7_sees 50 = .ok (.invokevirtual 212, 3) := by decide +kernel
theorem dX7_sees_53 : decode cX7_sees 53 = .ok (.iadd, 1) := by decide +kernel
theorem dX7_sees_54 : decode cX7_sees 54 = .ok (.ireturn, 1) := by decide +kernel
set_option maxRecDepth 20000 in
theorem ggX7_shown_X7_noHole : GoodIn wsX7_shown wsX7_noHole := goodIn_r _ [6, 7, 8, 9, 5, 10, 11, 12, 13, 14, 1, 51, 52, 53, 54, 55, 56, 57, 58, 59, 60, 61, 62, 63, 64, 65, 66, 67, 68, 69] (by decide +kernel) (by decide +kernel)
set_option maxRecDepth 20000 in
theorem gX7_shown_X7_noHole : GoodIn wsX7_shown (wsV RX7 288 RX7 yX7_noHole wsX7_noHole) := goodIn_app (goodIn_of _ (by decide +kernel)) ggX7_shown_X7_noHole
set_option maxRecDepth 20000 in
theorem ggX7_shown_X7_in : GoodIn wsX7_shown wsX7_in := goodIn_r _ [10] (by decide +kernel) (by decide +kernel)
set_option maxRecDepth 20000 in
theorem gX7_shown_X7_in : GoodIn wsX7_shown (va_wsS RX7 64 yX7_in wsX7_in) := goodIn_app (goodIn_of _ (by decide +kernel)) ggX7_shown_X7_in
set_option maxRecDepth 20000 in
theorem ggX7_shown_X7_fails : GoodIn wsX7_shown wsX7_fails := goodIn_r _ [14, 1, 51, 52, 53, 54, 55, 56, 57, 58, 59, 60, 61, 62, 63, 64, 65, 66, 67, 68, 69] (by decide +kernel) (by decide +kernel)
set_option maxRecDepth 20000 in
theorem gX7_shown_X7_fails : GoodIn wsX7_shown (wsV RX7 174 RX7 yX7_fails wsX7_fails) := goodIn_app (goodIn_of _ (by decide +kernel)) ggX7_shown_X7_fails
set_option maxRecDepth 20000 in
theorem ggX7_shown_X7_showing : GoodIn wsX7_shown wsX7_showing := goodIn_r _ [18, 19, 20, 21, 5, 22, 7, 23, 24, 25, 26, 27, 28, 29, 30, 31, 32, 33, 34, 35, 36, 37, 38, 39, 40, 41, 42, 43, 44, 45, 46, 47, 48, 49, 50, 51, 52, 53, 54, 55, 56, 57, 58, 59, 60, 61, 62, 63, 64, 65, 66, 67, 68, 69] (by decide +kernel) (by decide +kernel)
set_option maxRecDepth 20000 in
theorem gX7_shown_X7_showing : GoodIn wsX7_shown (wsV RX7 223 RX7 yX7_showing wsX7_showing) := goodIn_app (goodIn_of _ (by decide +kernel)) ggX7_shown_X7_showing
theorem dX7_shown_0 : decode cX7_shown 0 = .ok (.aload_n 0, 1) := by decide +kernel
theorem dX7_shown_1 : decode cX7_shown 1 = .ok (.iconst 0, 1) := by decide +kernel
theorem dX7_shown_2 : decode cX7_shown 2 = .ok (.putfield 42, 3) := by decide +kernel
theorem dX7_shown_5 : decode cX7_shown 5 = .ok (.aload_n 0, 1) := by decide +kernel
theorem dX7_shown_6 : decode cX7_shown 6 = .ok (.iload_n 1, 1) := by decide +kernel
theorem dX7_shown_7 : decode cX7_shown 7 = .ok (.invokevirtual 288, 3) := by decide +kernel
theorem dX7_shown_10 : decode cX7_shown 10 = .ok (.ifCond .ne 26, 3) := by decide +kernel
theorem dX7_shown_13 : decode cX7_shown 13 = .ok (.aload_n 0, 1) := by decide +kernel
theorem dX7_shown_14 : decode cX7_shown 14 = .ok (.iload_n 2, 1) := by decide +kernel
theorem dX7_shown_15 : decode cX7_shown 15 = .ok (.iconst 0, 1) := by decide +kernel
theorem dX7_shown_16 : decode cX7_shown 16 = .ok (.bipush 25, 2) := by decide +kernel
theorem dX7_shown_18 : decode cX7_shown 18 = .ok (.invokestatic 64, 3) := by decide +kernel
theorem dX7_shown_21 : decode cX7_shown 21 = .ok (.ifCond .ne 7, 3) := by decide +kernel
theorem dX7_shown_24 : decode cX7_shown 24 = .ok (.iconst 1, 1) := by decide +kernel
theorem dX7_shown_25 : decode cX7_shown 25 = .ok (.goto 4, 3) := by decide +kernel
theorem dX7_shown_28 : decode cX7_shown 28 = .ok (.iconst 0, 1) := by decide +kernel
theorem dX7_shown_29 : decode cX7_shown 29 = .ok (.iconst 2, 1) := by decide +kernel
theorem dX7_shown_30 : decode cX7_shown 30 = .ok (.invokevirtual 174, 3) := by decide +kernel
theorem dX7_shown_33 : decode cX7_shown 33 = .ok (.ifCond .eq 7, 3) := by decide +kernel
theorem dX7_shown_36 : decode cX7_shown 36 = .ok (.iconst 0, 1) := by decide +kernel
theorem dX7_shown_37 : decode cX7_shown 37 = .ok (.goto 9, 3) := by decide +kernel
theorem dX7_shown_40 : decode cX7_shown 40 = .ok (.aload_n 0, 1) := by decide +kernel
theorem dX7_shown_41 : decode cX7_shown 41 = .ok (.iload_n 1, 1) := by decide +kernel
theorem dX7_shown_42 : decode cX7_shown 42 = .ok (.iload_n 2, 1) := by decide +kernel
theorem dX7_shown_43 : decode cX7_shown 43 = .ok (.invokevirtual 223, 3) := by decide +kernel
theorem dX7_shown_46 : decode cX7_shown 46 = .ok (.ireturn, 1) := by decide +kernel
set_option maxRecDepth 20000 in
theorem ggX7_why_X7_noHole : GoodIn wsX7_why wsX7_noHole := goodIn_r _ [6, 7, 8, 9, 5, 10, 11, 12, 13, 14, 1, 51, 52, 53, 54, 55, 56, 57, 58, 59, 60, 61, 62, 63, 64, 65, 66, 67, 68, 69] (by decide +kernel) (by decide +kernel)
set_option maxRecDepth 20000 in
theorem gX7_why_X7_noHole : GoodIn wsX7_why (wsV RX7 288 RX7 yX7_noHole wsX7_noHole) := goodIn_app (goodIn_of _ (by decide +kernel)) ggX7_why_X7_noHole
set_option maxRecDepth 20000 in
theorem ggX7_why_X7_noPlane : GoodIn wsX7_why wsX7_noPlane := goodIn_r _ [18, 7, 8, 9, 5, 10, 11, 12, 13, 14, 1, 51, 52, 53, 54, 55, 56, 57, 58, 59, 60, 61, 62, 63, 64, 65, 66, 67, 68, 69] (by decide +kernel) (by decide +kernel)
set_option maxRecDepth 20000 in
theorem gX7_why_X7_noPlane : GoodIn wsX7_why (wsV RX7 279 RX7 yX7_noPlane wsX7_noPlane) := goodIn_app (goodIn_of _ (by decide +kernel)) ggX7_why_X7_noPlane
set_option maxRecDepth 20000 in
theorem ggX7_why_X7_noCell : GoodIn wsX7_why wsX7_noCell := goodIn_r _ [22, 7, 8, 9, 5, 10, 11, 12, 13, 14, 1, 51, 52, 53, 54, 55, 56, 57, 58, 59, 60, 61, 62, 63, 64, 65, 66, 67, 68, 69] (by decide +kernel) (by decide +kernel)
set_option maxRecDepth 20000 in
theorem gX7_why_X7_noCell : GoodIn wsX7_why (wsV RX7 282 RX7 yX7_noCell wsX7_noCell) := goodIn_app (goodIn_of _ (by decide +kernel)) ggX7_why_X7_noCell
set_option maxRecDepth 20000 in
theorem ggX7_why_X7_kindAt : GoodIn wsX7_why wsX7_kindAt := goodIn_r _ [26, 7, 51, 52, 53, 54, 55, 56, 57, 58, 59, 60, 61, 62, 63, 64, 65, 66, 67, 68, 69] (by decide +kernel) (by decide +kernel)
set_option maxRecDepth 20000 in
theorem gX7_why_X7_kindAt : GoodIn wsX7_why (wsV RX7 203 RX7 yX7_kindAt wsX7_kindAt) := goodIn_app (goodIn_of _ (by decide +kernel)) ggX7_why_X7_kindAt
set_option maxRecDepth 20000 in
theorem ggX7_why_X7_cells : GoodIn wsX7_why wsX7_cells := goodIn_r _ [30, 7, 51, 52, 53, 54, 55, 56, 57, 58, 59, 60, 61, 62, 63, 64, 65, 66, 67, 68, 69] (by decide +kernel) (by decide +kernel)
set_option maxRecDepth 20000 in
theorem gX7_why_X7_cells : GoodIn wsX7_why (wsV RX7 209 RX7 yX7_cells wsX7_cells) := goodIn_app (goodIn_of _ (by decide +kernel)) ggX7_why_X7_cells
set_option maxRecDepth 20000 in
theorem ggX7_why_X7_crossX : GoodIn wsX7_why wsX7_crossX := goodIn_r _ [34, 7, 35, 36, 37, 5, 38, 51, 52, 53, 54, 55, 56, 57, 58, 59, 60, 61, 62, 63, 64, 65, 66, 67, 68, 69] (by decide +kernel) (by decide +kernel)
set_option maxRecDepth 20000 in
theorem gX7_why_X7_crossX : GoodIn wsX7_why (wsV RX7 196 RX7 yX7_crossX wsX7_crossX) := goodIn_app (goodIn_of _ (by decide +kernel)) ggX7_why_X7_crossX
set_option maxRecDepth 20000 in
theorem ggX7_why_X7_crossY : GoodIn wsX7_why wsX7_crossY := goodIn_r _ [42, 7, 43, 44, 45, 5, 46, 51, 52, 53, 54, 55, 56, 57, 58, 59, 60, 61, 62, 63, 64, 65, 66, 67, 68, 69] (by decide +kernel) (by decide +kernel)
set_option maxRecDepth 20000 in
theorem gX7_why_X7_crossY : GoodIn wsX7_why (wsV RX7 200 RX7 yX7_crossY wsX7_crossY) := goodIn_app (goodIn_of _ (by decide +kernel)) ggX7_why_X7_crossY
set_option maxRecDepth 20000 in
theorem ggX7_why_X7_planeSeen : GoodIn wsX7_why wsX7_planeSeen := goodIn_r _ [50, 31, 32, 33, 5, 34, 7, 35, 36, 37, 38, 39, 40, 41, 42, 43, 44, 45, 46, 23, 24, 25, 26, 51, 52, 53, 54, 55, 56, 57, 58, 59, 60, 61, 62, 63, 64, 65, 66, 67, 68, 69] (by decide +kernel) (by decide +kernel)
set_option maxRecDepth 20000 in
theorem gX7_why_X7_planeSeen : GoodIn wsX7_why (wsV RX7 206 RX7 yX7_planeSeen wsX7_planeSeen) := goodIn_app (goodIn_of _ (by decide +kernel)) ggX7_why_X7_planeSeen
theorem dX7_why_0 : decode cX7_why 0 = .ok (.aload_n 0, 1) := by decide +kernel
theorem dX7_why_1 : decode cX7_why 1 = .ok (.iconst 0, 1) := by decide +kernel
theorem dX7_why_2 : decode cX7_why 2 = .ok (.putfield 42, 3) := by decide +kernel
theorem dX7_why_5 : decode cX7_why 5 = .ok (.aload_n 0, 1) := by decide +kernel
theorem dX7_why_6 : decode cX7_why 6 = .ok (.iload_n 1, 1) := by decide +kernel
theorem dX7_why_7 : decode cX7_why 7 = .ok (.invokevirtual 288, 3) := by decide +kernel
theorem dX7_why_10 : decode cX7_why 10 = .ok (.ifCond .ne 21, 3) := by decide +kernel
theorem dX7_why_13 : decode cX7_why 13 = .ok (.aload_n 0, 1) := by decide +kernel
theorem dX7_why_14 : decode cX7_why 14 = .ok (.iload_n 2, 1) := by decide +kernel
theorem dX7_why_15 : decode cX7_why 15 = .ok (.invokevirtual 279, 3) := by decide +kernel
theorem dX7_why_18 : decode cX7_why 18 = .ok (.ifCond .ne 13, 3) := by decide +kernel
theorem dX7_why_21 : decode cX7_why 21 = .ok (.aload_n 0, 1) := by decide +kernel
theorem dX7_why_22 : decode cX7_why 22 = .ok (.iload_n 3, 1) := by decide +kernel
theorem dX7_why_23 : decode cX7_why 23 = .ok (.iload 4, 2) := by decide +kernel
theorem dX7_why_25 : decode cX7_why 25 = .ok (.invokevirtual 282, 3) := by decide +kernel
theorem dX7_why_28 : decode cX7_why 28 = .ok (.ifCond .eq 5, 3) := by decide +kernel
theorem dX7_why_31 : decode cX7_why 31 = .ok (.iconst 0, 1) := by decide +kernel
theorem dX7_why_32 : decode cX7_why 32 = .ok (.ireturn, 1) := by decide +kernel
theorem dX7_why_33 : decode cX7_why 33 = .ok (.aload_n 0, 1) := by decide +kernel
theorem dX7_why_34 : decode cX7_why 34 = .ok (.iload_n 2, 1) := by decide +kernel
theorem dX7_why_35 : decode cX7_why 35 = .ok (.iload_n 3, 1) := by decide +kernel
theorem dX7_why_36 : decode cX7_why 36 = .ok (.iload 4, 2) := by decide +kernel
theorem dX7_why_38 : decode cX7_why 38 = .ok (.invokevirtual 203, 3) := by decide +kernel
theorem dX7_why_41 : decode cX7_why 41 = .ok (.iconst (-1), 1) := by decide +kernel
theorem dX7_why_42 : decode cX7_why 42 = .ok (.if_icmp .ne 5, 3) := by decide +kernel
theorem dX7_why_45 : decode cX7_why 45 = .ok (.iconst 1, 1) := by decide +kernel
theorem dX7_why_46 : decode cX7_why 46 = .ok (.ireturn, 1) := by decide +kernel
theorem dX7_why_47 : decode cX7_why 47 = .ok (.iconst 2, 1) := by decide +kernel
theorem dX7_why_48 : decode cX7_why 48 = .ok (.istore 5, 2) := by decide +kernel
theorem dX7_why_50 : decode cX7_why 50 = .ok (.iconst 0, 1) := by decide +kernel
theorem dX7_why_51 : decode cX7_why 51 = .ok (.istore 6, 2) := by decide +kernel
theorem dX7_why_53 : decode cX7_why 53 = .ok (.iload 6, 2) := by decide +kernel
theorem dX7_why_55 : decode cX7_why 55 = .ok (.aload_n 0, 1) := by decide +kernel
theorem dX7_why_56 : decode cX7_why 56 = .ok (.invokevirtual 209, 3) := by decide +kernel
theorem dX7_why_59 : decode cX7_why 59 = .ok (.if_icmp .ge 53, 3) := by decide +kernel
theorem dX7_why_62 : decode cX7_why 62 = .ok (.aload_n 0, 1) := by decide +kernel
theorem dX7_why_63 : decode cX7_why 63 = .ok (.iload_n 1, 1) := by decide +kernel
theorem dX7_why_64 : decode cX7_why 64 = .ok (.iload 6, 2) := by decide +kernel
theorem dX7_why_66 : decode cX7_why 66 = .ok (.iload_n 2, 1) := by decide +kernel
theorem dX7_why_67 : decode cX7_why 67 = .ok (.invokevirtual 196, 3) := by decide +kernel
theorem dX7_why_70 : decode cX7_why 70 = .ok (.iload_n 3, 1) := by decide +kernel
theorem dX7_why_71 : decode cX7_why 71 = .ok (.if_icmp .ne 35, 3) := by decide +kernel
theorem dX7_why_74 : decode cX7_why 74 = .ok (.aload_n 0, 1) := by decide +kernel
theorem dX7_why_75 : decode cX7_why 75 = .ok (.iload_n 1, 1) := by decide +kernel
theorem dX7_why_76 : decode cX7_why 76 = .ok (.iload 6, 2) := by decide +kernel
theorem dX7_why_78 : decode cX7_why 78 = .ok (.iload_n 2, 1) := by decide +kernel
theorem dX7_why_79 : decode cX7_why 79 = .ok (.invokevirtual 200, 3) := by decide +kernel
theorem dX7_why_82 : decode cX7_why 82 = .ok (.iload 4, 2) := by decide +kernel
theorem dX7_why_84 : decode cX7_why 84 = .ok (.if_icmp .eq 6, 3) := by decide +kernel
theorem dX7_why_87 : decode cX7_why 87 = .ok (.goto 19, 3) := by decide +kernel
theorem dX7_why_90 : decode cX7_why 90 = .ok (.aload_n 0, 1) := by decide +kernel
theorem dX7_why_91 : decode cX7_why 91 = .ok (.iload_n 1, 1) := by decide +kernel
theorem dX7_why_92 : decode cX7_why 92 = .ok (.iload 6, 2) := by decide +kernel
theorem dX7_why_94 : decode cX7_why 94 = .ok (.invokevirtual 206, 3) := by decide +kernel
theorem dX7_why_97 : decode cX7_why 97 = .ok (.iload_n 2, 1) := by decide +kernel
theorem dX7_why_98 : decode cX7_why 98 = .ok (.if_icmp .ne 5, 3) := by decide +kernel
theorem dX7_why_101 : decode cX7_why 101 = .ok (.iconst 0, 1) := by decide +kernel
theorem dX7_why_102 : decode cX7_why 102 = .ok (.ireturn, 1) := by decide +kernel
theorem dX7_why_103 : decode cX7_why 103 = .ok (.iconst 3, 1) := by decide +kernel
theorem dX7_why_104 : decode cX7_why 104 = .ok (.istore 5, 2) := by decide +kernel
theorem dX7_why_106 : decode cX7_why 106 = .ok (.iinc 6 1, 3) := by decide +kernel
theorem dX7_why_109 : decode cX7_why 109 = .ok (.goto (-56), 3) := by decide +kernel
theorem dX7_why_112 : decode cX7_why 112 = .ok (.iload 5, 2) := by decide +kernel
theorem dX7_why_114 : decode cX7_why 114 = .ok (.ireturn, 1) := by decide +kernel
set_option maxRecDepth 20000 in
theorem ggX7_toldViewer_X7_of : GoodIn wsX7_toldViewer wsX7_of := goodIn_r _ [5, 6, 7, 8, 9, 10, 11, 12, 13, 14, 15, 16, 17, 18, 19, 20, 21, 22, 23, 24, 25] (by decide +kernel) (by decide +kernel)
set_option maxRecDepth 20000 in
theorem gX7_toldViewer_X7_of : GoodIn wsX7_toldViewer (wsV RX7 239 RX7 yX7_of wsX7_of) := goodIn_app (goodIn_of _ (by decide +kernel)) ggX7_toldViewer_X7_of
theorem dX7_toldViewer_0 : decode cX7_toldViewer 0 = .ok (.aload_n 0, 1) := by decide +kernel
theorem dX7_toldViewer_1 : decode cX7_toldViewer 1 = .ok (.iload_n 1, 1) := by decide +kernel
theorem dX7_toldViewer_2 : decode cX7_toldViewer 2 = .ok (.iload_n 2, 1) := by decide +kernel
theorem dX7_toldViewer_3 : decode cX7_toldViewer 3 = .ok (.invokevirtual 239, 3) := by decide +kernel
theorem dX7_toldViewer_6 : decode cX7_toldViewer 6 = .ok (.ireturn, 1) := by decide +kernel
set_option maxRecDepth 20000 in
theorem ggX7_viewer_X7_noViewer : GoodIn wsX7_viewer wsX7_noViewer := goodIn_r _ [6, 7, 8, 9, 5, 10, 11, 12, 13, 14, 1, 23, 24, 25, 26, 27, 28, 29, 30, 31, 32, 33, 34, 35, 36, 37, 38, 39, 40, 41] (by decide +kernel) (by decide +kernel)
set_option maxRecDepth 20000 in
theorem gX7_viewer_X7_noViewer : GoodIn wsX7_viewer (wsV RX7 294 RX7 yX7_noViewer wsX7_noViewer) := goodIn_app (goodIn_of _ (by decide +kernel)) ggX7_viewer_X7_noViewer
set_option maxRecDepth 20000 in
theorem ggX7_viewer_X7_in : GoodIn wsX7_viewer wsX7_in := goodIn_r _ [10] (by decide +kernel) (by decide +kernel)
set_option maxRecDepth 20000 in
theorem gX7_viewer_X7_in : GoodIn wsX7_viewer (va_wsS RX7 64 yX7_in wsX7_in) := goodIn_app (goodIn_of _ (by decide +kernel)) ggX7_viewer_X7_in
set_option maxRecDepth 20000 in
theorem ggX7_viewer_X7_fails : GoodIn wsX7_viewer wsX7_fails := goodIn_r _ [14, 1, 23, 24, 25, 26, 27, 28, 29, 30, 31, 32, 33, 34, 35, 36, 37, 38, 39, 40, 41] (by decide +kernel) (by decide +kernel)
set_option maxRecDepth 20000 in
theorem gX7_viewer_X7_fails : GoodIn wsX7_viewer (wsV RX7 174 RX7 yX7_fails wsX7_fails) := goodIn_app (goodIn_of _ (by decide +kernel)) ggX7_viewer_X7_fails
set_option maxRecDepth 20000 in
theorem ggX7_viewer_X7_toldViewer : GoodIn wsX7_viewer wsX7_toldViewer := goodIn_r _ [18, 19, 20, 21, 5, 22, 7, 23, 24, 25, 26, 27, 28, 29, 30, 31, 32, 33, 34, 35, 36, 37, 38, 39, 40, 41] (by decide +kernel) (by decide +kernel)
set_option maxRecDepth 20000 in
theorem gX7_viewer_X7_toldViewer : GoodIn wsX7_viewer (wsV RX7 297 RX7 yX7_toldViewer wsX7_toldViewer) := goodIn_app (goodIn_of _ (by decide +kernel)) ggX7_viewer_X7_toldViewer
theorem dX7_viewer_0 : decode cX7_viewer 0 = .ok (.aload_n 0, 1) := by decide +kernel
theorem dX7_viewer_1 : decode cX7_viewer 1 = .ok (.iconst 0, 1) := by decide +kernel
theorem dX7_viewer_2 : decode cX7_viewer 2 = .ok (.putfield 42, 3) := by decide +kernel
theorem dX7_viewer_5 : decode cX7_viewer 5 = .ok (.aload_n 0, 1) := by decide +kernel
theorem dX7_viewer_6 : decode cX7_viewer 6 = .ok (.iload_n 1, 1) := by decide +kernel
theorem dX7_viewer_7 : decode cX7_viewer 7 = .ok (.invokevirtual 294, 3) := by decide +kernel
theorem dX7_viewer_10 : decode cX7_viewer 10 = .ok (.ifCond .ne 26, 3) := by decide +kernel
theorem dX7_viewer_13 : decode cX7_viewer 13 = .ok (.aload_n 0, 1) := by decide +kernel
theorem dX7_viewer_14 : decode cX7_viewer 14 = .ok (.iload_n 2, 1) := by decide +kernel
theorem dX7_viewer_15 : decode cX7_viewer 15 = .ok (.iconst 0, 1) := by decide +kernel
theorem dX7_viewer_16 : decode cX7_viewer 16 = .ok (.bipush 6, 2) := by decide +kernel
theorem dX7_viewer_18 : decode cX7_viewer 18 = .ok (.invokestatic 64, 3) := by decide +kernel
theorem dX7_viewer_21 : decode cX7_viewer 21 = .ok (.ifCond .ne 7, 3) := by decide +kernel
theorem dX7_viewer_24 : decode cX7_viewer 24 = .ok (.iconst 1, 1) := by decide +kernel
theorem dX7_viewer_25 : decode cX7_viewer 25 = .ok (.goto 4, 3) := by decide +kernel
theorem dX7_viewer_28 : decode cX7_viewer 28 = .ok (.iconst 0, 1) := by decide +kernel
theorem dX7_viewer_29 : decode cX7_viewer 29 = .ok (.iconst 2, 1) := by decide +kernel
theorem dX7_viewer_30 : decode cX7_viewer 30 = .ok (.invokevirtual 174, 3) := by decide +kernel
theorem dX7_viewer_33 : decode cX7_viewer 33 = .ok (.ifCond .eq 7, 3) := by decide +kernel
theorem dX7_viewer_36 : decode cX7_viewer 36 = .ok (.iconst 0, 1) := by decide +kernel
theorem dX7_viewer_37 : decode cX7_viewer 37 = .ok (.goto 9, 3) := by decide +kernel
theorem dX7_viewer_40 : decode cX7_viewer 40 = .ok (.aload_n 0, 1) := by decide +kernel
theorem dX7_viewer_41 : decode cX7_viewer 41 = .ok (.iload_n 1, 1) := by decide +kernel
theorem dX7_viewer_42 : decode cX7_viewer 42 = .ok (.iload_n 2, 1) := by decide +kernel
theorem dX7_viewer_43 : decode cX7_viewer 43 = .ok (.invokevirtual 297, 3) := by decide +kernel
theorem dX7_viewer_46 : decode cX7_viewer 46 = .ok (.ireturn, 1) := by decide +kernel
set_option maxRecDepth 20000 in
theorem ggX7_price_X7_noViewer : GoodIn wsX7_price wsX7_noViewer := goodIn_r _ [6, 7, 8, 9, 5, 10, 11, 12, 13, 14, 1, 95, 96, 97, 98, 99, 100, 101, 102, 103, 104, 105, 106, 107, 108, 109, 110, 111, 112, 113] (by decide +kernel) (by decide +kernel)
set_option maxRecDepth 20000 in
theorem gX7_price_X7_noViewer : GoodIn wsX7_price (wsV RX7 294 RX7 yX7_noViewer wsX7_noViewer) := goodIn_app (goodIn_of _ (by decide +kernel)) ggX7_price_X7_noViewer
set_option maxRecDepth 20000 in
theorem ggX7_price_X7_noHole : GoodIn wsX7_price wsX7_noHole := goodIn_r _ [18, 7, 8, 9, 5, 10, 11, 12, 13, 14, 1, 95, 96, 97, 98, 99, 100, 101, 102, 103, 104, 105, 106, 107, 108, 109, 110, 111, 112, 113] (by decide +kernel) (by decide +kernel)
set_option maxRecDepth 20000 in
theorem gX7_price_X7_noHole : GoodIn wsX7_price (wsV RX7 288 RX7 yX7_noHole wsX7_noHole) := goodIn_app (goodIn_of _ (by decide +kernel)) ggX7_price_X7_noHole
set_option maxRecDepth 20000 in
theorem ggX7_price_X7_canUse : GoodIn wsX7_price wsX7_canUse := goodIn_r _ [22, 7, 23, 24, 25, 26, 27, 28, 29, 5, 30, 31, 32, 33, 34, 95, 96, 97, 98, 99, 100, 101, 102, 103, 104, 105, 106, 107, 108, 109, 110, 111, 112, 113] (by decide +kernel) (by decide +kernel)
set_option maxRecDepth 20000 in
theorem gX7_price_X7_canUse : GoodIn wsX7_price (wsV RX7 254 RX7 yX7_canUse wsX7_canUse) := goodIn_app (goodIn_of _ (by decide +kernel)) ggX7_price_X7_canUse
set_option maxRecDepth 20000 in
theorem ggX7_price_X7_of : GoodIn wsX7_price wsX7_of := goodIn_r _ [30, 7, 95, 96, 97, 98, 99, 100, 101, 102, 103, 104, 105, 106, 107, 108, 109, 110, 111, 112, 113] (by decide +kernel) (by decide +kernel)
set_option maxRecDepth 20000 in
theorem gX7_price_X7_of : GoodIn wsX7_price (wsV RX7 239 RX7 yX7_of wsX7_of) := goodIn_app (goodIn_of _ (by decide +kernel)) ggX7_price_X7_of
set_option maxRecDepth 20000 in
theorem ggX7_price_X7_priceOf : GoodIn wsX7_price wsX7_priceOf := goodIn_r _ [38, 39, 7, 40, 41, 42, 43, 5, 44, 45, 46, 47, 48, 49, 50, 51, 52, 53, 54, 55, 56, 57, 58, 59, 60, 61, 62, 63, 64, 65, 66, 67, 68, 31, 32, 33, 34, 69, 70, 71, 72, 73, 74, 75, 76, 77, 78, 79, 80, 81, 82, 83, 84, 85, 86, 87, 88, 89, 90, 91, 92, 93, 94, 95, 96, 97, 98, 99, 100, 101, 102, 103, 104, 105, 106, 107, 108, 109, 110, 111, 112, 113] (by decide +kernel) (by decide +kernel)
set_option maxRecDepth 20000 in
theorem gX7_price_X7_priceOf : GoodIn wsX7_price (wsV RX7 251 RX7 yX7_priceOf wsX7_priceOf) := goodIn_app (goodIn_of _ (by decide +kernel)) ggX7_price_X7_priceOf
theorem dX7_price_0 : decode cX7_price 0 = .ok (.aload_n 0, 1) := by decide +kernel
theorem dX7_price_1 : decode cX7_price 1 = .ok (.iconst 0, 1) := by decide +kernel
theorem dX7_price_2 : decode cX7_price 2 = .ok (.putfield 42, 3) := by decide +kernel
theorem dX7_price_5 : decode cX7_price 5 = .ok (.aload_n 0, 1) := by decide +kernel
theorem dX7_price_6 : decode cX7_price 6 = .ok (.iload_n 1, 1) := by decide +kernel
theorem dX7_price_7 : decode cX7_price 7 = .ok (.invokevirtual 294, 3) := by decide +kernel
theorem dX7_price_10 : decode cX7_price 10 = .ok (.ifCond .ne 11, 3) := by decide +kernel
theorem dX7_price_13 : decode cX7_price 13 = .ok (.aload_n 0, 1) := by decide +kernel
theorem dX7_price_14 : decode cX7_price 14 = .ok (.iload_n 2, 1) := by decide +kernel
theorem dX7_price_15 : decode cX7_price 15 = .ok (.invokevirtual 288, 3) := by decide +kernel
theorem dX7_price_18 : decode cX7_price 18 = .ok (.ifCond .eq 5, 3) := by decide +kernel
theorem dX7_price_21 : decode cX7_price 21 = .ok (.iconst 0, 1) := by decide +kernel
theorem dX7_price_22 : decode cX7_price 22 = .ok (.ireturn, 1) := by decide +kernel
theorem dX7_price_23 : decode cX7_price 23 = .ok (.aload_n 0, 1) := by decide +kernel
theorem dX7_price_24 : decode cX7_price 24 = .ok (.iload_n 1, 1) := by decide +kernel
theorem dX7_price_25 : decode cX7_price 25 = .ok (.iload_n 2, 1) := by decide +kernel
theorem dX7_price_26 : decode cX7_price 26 = .ok (.invokevirtual 254, 3) := by decide +kernel
theorem dX7_price_29 : decode cX7_price 29 = .ok (.ifCond .eq 17, 3) := by decide +kernel
theorem dX7_price_32 : decode cX7_price 32 = .ok (.aload_n 0, 1) := by decide +kernel
theorem dX7_price_33 : decode cX7_price 33 = .ok (.aload_n 0, 1) := by decide +kernel
theorem dX7_price_34 : decode cX7_price 34 = .ok (.iload_n 1, 1) := by decide +kernel
theorem dX7_price_35 : decode cX7_price 35 = .ok (.iconst 1, 1) := by decide +kernel
theorem dX7_price_36 : decode cX7_price 36 = .ok (.invokevirtual 239, 3) := by decide +kernel
theorem dX7_price_39 : decode cX7_price 39 = .ok (.iload_n 2, 1) := by decide +kernel
theorem dX7_price_40 : decode cX7_price 40 = .ok (.invokevirtual 251, 3) := by decide +kernel
theorem dX7_price_43 : decode cX7_price 43 = .ok (.goto 4, 3) := by decide +kernel
theorem dX7_price_46 : decode cX7_price 46 = .ok (.iconst (-1), 1) := by decide +kernel
theorem dX7_price_47 : decode cX7_price 47 = .ok (.ireturn, 1) := by decide +kernel
set_option maxRecDepth 20000 in
theorem ggX7_bestPull_X7_noPlane : GoodIn wsX7_bestPull wsX7_noPlane := goodIn_r _ [7, 2, 8, 9, 6, 10, 11, 12, 13, 14, 1, 51, 52, 53, 54, 55, 56, 57, 58, 59, 60, 61, 62, 63, 64, 65, 66, 67, 68, 69] (by decide +kernel) (by decide +kernel)
set_option maxRecDepth 20000 in
theorem gX7_bestPull_X7_noPlane : GoodIn wsX7_bestPull (wsV RX7 279 RX7 yX7_noPlane wsX7_noPlane) := goodIn_app (goodIn_of _ (by decide +kernel)) ggX7_bestPull_X7_noPlane
set_option maxRecDepth 20000 in
theorem ggX7_bestPull_X7_in : GoodIn wsX7_bestPull wsX7_in := goodIn_r _ [10] (by decide +kernel) (by decide +kernel)
set_option maxRecDepth 20000 in
theorem gX7_bestPull_X7_in : GoodIn wsX7_bestPull (va_wsS RX7 64 yX7_in wsX7_in) := goodIn_app (goodIn_of _ (by decide +kernel)) ggX7_bestPull_X7_in
set_option maxRecDepth 20000 in
theorem ggX7_bestPull_X7_fails : GoodIn wsX7_bestPull wsX7_fails := goodIn_r _ [14, 1, 51, 52, 53, 54, 55, 56, 57, 58, 59, 60, 61, 62, 63, 64, 65, 66, 67, 68, 69] (by decide +kernel) (by decide +kernel)
set_option maxRecDepth 20000 in
theorem gX7_bestPull_X7_fails : GoodIn wsX7_bestPull (wsV RX7 174 RX7 yX7_fails wsX7_fails) := goodIn_app (goodIn_of _ (by decide +kernel)) ggX7_bestPull_X7_fails
set_option maxRecDepth 20000 in
theorem ggX7_bestPull_X7_showing : GoodIn wsX7_bestPull wsX7_showing := goodIn_r _ [18, 19, 20, 21, 6, 22, 2, 23, 24, 25, 26, 27, 28, 29, 30, 31, 32, 33, 34, 35, 36, 37, 38, 39, 40, 41, 42, 43, 44, 45, 46, 47, 48, 49, 50, 51, 52, 53, 54, 55, 56, 57, 58, 59, 60, 61, 62, 63, 64, 65, 66, 67, 68, 69] (by decide +kernel) (by decide +kernel)
set_option maxRecDepth 20000 in
theorem gX7_bestPull_X7_showing : GoodIn wsX7_bestPull (wsV RX7 223 RX7 yX7_showing wsX7_showing) := goodIn_app (goodIn_of _ (by decide +kernel)) ggX7_bestPull_X7_showing
theorem dX7_bestPull_0 : decode cX7_bestPull 0 = .ok (.aload_n 0, 1) := by decide +kernel
theorem dX7_bestPull_1 : decode cX7_bestPull 1 = .ok (.iconst 0, 1) := by decide +kernel
theorem dX7_bestPull_2 : decode cX7_bestPull 2 = .ok (.putfield 42, 3) := by decide +kernel
theorem dX7_bestPull_5 : decode cX7_bestPull 5 = .ok (.aload_n 0, 1) := by decide +kernel
theorem dX7_bestPull_6 : decode cX7_bestPull 6 = .ok (.iload_n 1, 1) := by decide +kernel
theorem dX7_bestPull_7 : decode cX7_bestPull 7 = .ok (.invokevirtual 279, 3) := by decide +kernel
theorem dX7_bestPull_10 : decode cX7_bestPull 10 = .ok (.ifCond .ne 38, 3) := by decide +kernel
theorem dX7_bestPull_13 : decode cX7_bestPull 13 = .ok (.aload_n 0, 1) := by decide +kernel
theorem dX7_bestPull_14 : decode cX7_bestPull 14 = .ok (.iload_n 2, 1) := by decide +kernel
theorem dX7_bestPull_15 : decode cX7_bestPull 15 = .ok (.iconst 0, 1) := by decide +kernel
theorem dX7_bestPull_16 : decode cX7_bestPull 16 = .ok (.bipush 25, 2) := by decide +kernel
theorem dX7_bestPull_18 : decode cX7_bestPull 18 = .ok (.invokestatic 64, 3) := by decide +kernel
theorem dX7_bestPull_21 : decode cX7_bestPull 21 = .ok (.ifCond .ne 7, 3) := by decide +kernel
theorem dX7_bestPull_24 : decode cX7_bestPull 24 = .ok (.iconst 1, 1) := by decide +kernel
theorem dX7_bestPull_25 : decode cX7_bestPull 25 = .ok (.goto 4, 3) := by decide +kernel
theorem dX7_bestPull_28 : decode cX7_bestPull 28 = .ok (.iconst 0, 1) := by decide +kernel
theorem dX7_bestPull_29 : decode cX7_bestPull 29 = .ok (.iconst 2, 1) := by decide +kernel
theorem dX7_bestPull_30 : decode cX7_bestPull 30 = .ok (.invokevirtual 174, 3) := by decide +kernel
theorem dX7_bestPull_33 : decode cX7_bestPull 33 = .ok (.ifCond .ne 15, 3) := by decide +kernel
theorem dX7_bestPull_36 : decode cX7_bestPull 36 = .ok (.iload_n 1, 1) := by decide +kernel
theorem dX7_bestPull_37 : decode cX7_bestPull 37 = .ok (.aload_n 0, 1) := by decide +kernel
theorem dX7_bestPull_38 : decode cX7_bestPull 38 = .ok (.getfield 17, 3) := by decide +kernel
theorem dX7_bestPull_41 : decode cX7_bestPull 41 = .ok (.iconst 2, 1) := by decide +kernel
theorem dX7_bestPull_42 : decode cX7_bestPull 42 = .ok (.iaload, 1) := by decide +kernel
theorem dX7_bestPull_43 : decode cX7_bestPull 43 = .ok (.iconst 1, 1) := by decide +kernel
theorem dX7_bestPull_44 : decode cX7_bestPull 44 = .ok (.isub, 1) := by decide +kernel
theorem dX7_bestPull_45 : decode cX7_bestPull 45 = .ok (.if_icmp .ne 5, 3) := by decide +kernel
theorem dX7_bestPull_48 : decode cX7_bestPull 48 = .ok (.iconst 0, 1) := by decide +kernel
theorem dX7_bestPull_49 : decode cX7_bestPull 49 = .ok (.ireturn, 1) := by decide +kernel
theorem dX7_bestPull_50 : decode cX7_bestPull 50 = .ok (.aload_n 0, 1) := by decide +kernel
theorem dX7_bestPull_51 : decode cX7_bestPull 51 = .ok (.getfield 17, 3) := by decide +kernel
theorem dX7_bestPull_54 : decode cX7_bestPull 54 = .ok (.bipush 10, 2) := by decide +kernel
theorem dX7_bestPull_56 : decode cX7_bestPull 56 = .ok (.iload_n 1, 1) := by decide +kernel
theorem dX7_bestPull_57 : decode cX7_bestPull 57 = .ok (.iadd, 1) := by decide +kernel
theorem dX7_bestPull_58 : decode cX7_bestPull 58 = .ok (.iaload, 1) := by decide +kernel
theorem dX7_bestPull_59 : decode cX7_bestPull 59 = .ok (.istore_n 3, 1) := by decide +kernel
theorem dX7_bestPull_60 : decode cX7_bestPull 60 = .ok (.iconst 0, 1) := by decide +kernel
theorem dX7_bestPull_61 : decode cX7_bestPull 61 = .ok (.istore 4, 2) := by decide +kernel
theorem dX7_bestPull_63 : decode cX7_bestPull 63 = .ok (.iconst (-1), 1) := by decide +kernel
theorem dX7_bestPull_64 : decode cX7_bestPull 64 = .ok (.istore 5, 2) := by decide +kernel
theorem dX7_bestPull_66 : decode cX7_bestPull 66 = .ok (.iconst 0, 1) := by decide +kernel
theorem dX7_bestPull_67 : decode cX7_bestPull 67 = .ok (.istore 6, 2) := by decide +kernel
theorem dX7_bestPull_69 : decode cX7_bestPull 69 = .ok (.iload 6, 2) := by decide +kernel
theorem dX7_bestPull_71 : decode cX7_bestPull 71 = .ok (.aload_n 0, 1) := by decide +kernel
theorem dX7_bestPull_72 : decode cX7_bestPull 72 = .ok (.getfield 17, 3) := by decide +kernel
theorem dX7_bestPull_75 : decode cX7_bestPull 75 = .ok (.iconst 1, 1) := by decide +kernel
theorem dX7_bestPull_76 : decode cX7_bestPull 76 = .ok (.iaload, 1) := by decide +kernel
theorem dX7_bestPull_77 : decode cX7_bestPull 77 = .ok (.if_icmp .gt 73, 3) := by decide +kernel
theorem dX7_bestPull_80 : decode cX7_bestPull 80 = .ok (.iconst 0, 1) := by decide +kernel
theorem dX7_bestPull_81 : decode cX7_bestPull 81 = .ok (.istore 7, 2) := by decide +kernel
theorem dX7_bestPull_83 : decode cX7_bestPull 83 = .ok (.aload_n 0, 1) := by decide +kernel
theorem dX7_bestPull_84 : decode cX7_bestPull 84 = .ok (.getfield 17, 3) := by decide +kernel
theorem dX7_bestPull_87 : decode cX7_bestPull 87 = .ok (.bipush 10, 2) := by decide +kernel
theorem dX7_bestPull_89 : decode cX7_bestPull 89 = .ok (.iload_n 1, 1) := by decide +kernel
theorem dX7_bestPull_90 : decode cX7_bestPull 90 = .ok (.iadd, 1) := by decide +kernel
theorem dX7_bestPull_91 : decode cX7_bestPull 91 = .ok (.iload 6, 2) := by decide +kernel
theorem dX7_bestPull_93 : decode cX7_bestPull 93 = .ok (.iastore, 1) := by decide +kernel
theorem dX7_bestPull_94 : decode cX7_bestPull 94 = .ok (.iconst 0, 1) := by decide +kernel
theorem dX7_bestPull_95 : decode cX7_bestPull 95 = .ok (.istore 8, 2) := by decide +kernel
theorem dX7_bestPull_97 : decode cX7_bestPull 97 = .ok (.iload 8, 2) := by decide +kernel
theorem dX7_bestPull_99 : decode cX7_bestPull 99 = .ok (.aload_n 0, 1) := by decide +kernel
theorem dX7_bestPull_100 : decode cX7_bestPull 100 = .ok (.getfield 17, 3) := by decide +kernel
theorem dX7_bestPull_103 : decode cX7_bestPull 103 = .ok (.iconst 3, 1) := by decide +kernel
theorem dX7_bestPull_104 : decode cX7_bestPull 104 = .ok (.iaload, 1) := by decide +kernel
theorem dX7_bestPull_105 : decode cX7_bestPull 105 = .ok (.if_icmp .ge 21, 3) := by decide +kernel
theorem dX7_bestPull_108 : decode cX7_bestPull 108 = .ok (.iload 7, 2) := by decide +kernel
theorem dX7_bestPull_110 : decode cX7_bestPull 110 = .ok (.aload_n 0, 1) := by decide +kernel
theorem dX7_bestPull_111 : decode cX7_bestPull 111 = .ok (.iload 8, 2) := by decide +kernel
theorem dX7_bestPull_113 : decode cX7_bestPull 113 = .ok (.iload_n 2, 1) := by decide +kernel
theorem dX7_bestPull_114 : decode cX7_bestPull 114 = .ok (.invokevirtual 223, 3) := by decide +kernel
theorem dX7_bestPull_117 : decode cX7_bestPull 117 = .ok (.iadd, 1) := by decide +kernel
theorem dX7_bestPull_118 : decode cX7_bestPull 118 = .ok (.istore 7, 2) := by decide +kernel
theorem dX7_bestPull_120 : decode cX7_bestPull 120 = .ok (.iinc 8 1, 3) := by decide +kernel
theorem dX7_bestPull_123 : decode cX7_bestPull 123 = .ok (.goto (-26), 3) := by decide +kernel
theorem dX7_bestPull_126 : decode cX7_bestPull 126 = .ok (.iload 7, 2) := by decide +kernel
theorem dX7_bestPull_128 : decode cX7_bestPull 128 = .ok (.iload 5, 2) := by decide +kernel
theorem dX7_bestPull_130 : decode cX7_bestPull 130 = .ok (.if_icmp .gt 6, 3) := by decide +kernel
theorem dX7_bestPull_133 : decode cX7_bestPull 133 = .ok (.goto 11, 3) := by decide +kernel
theorem dX7_bestPull_136 : decode cX7_bestPull 136 = .ok (.iload 7, 2) := by decide +kernel
theorem dX7_bestPull_138 : decode cX7_bestPull 138 = .ok (.istore 5, 2) := by decide +kernel
theorem dX7_bestPull_140 : decode cX7_bestPull 140 = .ok (.iload 6, 2) := by decide +kernel
theorem dX7_bestPull_142 : decode cX7_bestPull 142 = .ok (.istore 4, 2) := by decide +kernel
theorem dX7_bestPull_144 : decode cX7_bestPull 144 = .ok (.iinc 6 1, 3) := by decide +kernel
theorem dX7_bestPull_147 : decode cX7_bestPull 147 = .ok (.goto (-78), 3) := by decide +kernel
theorem dX7_bestPull_150 : decode cX7_bestPull 150 = .ok (.aload_n 0, 1) := by decide +kernel
theorem dX7_bestPull_151 : decode cX7_bestPull 151 = .ok (.getfield 17, 3) := by decide +kernel
theorem dX7_bestPull_154 : decode cX7_bestPull 154 = .ok (.bipush 10, 2) := by decide +kernel
theorem dX7_bestPull_156 : decode cX7_bestPull 156 = .ok (.iload_n 1, 1) := by decide +kernel
theorem dX7_bestPull_157 : decode cX7_bestPull 157 = .ok (.iadd, 1) := by decide +kernel
theorem dX7_bestPull_158 : decode cX7_bestPull 158 = .ok (.iload_n 3, 1) := by decide +kernel
theorem dX7_bestPull_159 : decode cX7_bestPull 159 = .ok (.iastore, 1) := by decide +kernel
theorem dX7_bestPull_160 : decode cX7_bestPull 160 = .ok (.iload 4, 2) := by decide +kernel
theorem dX7_bestPull_162 : decode cX7_bestPull 162 = .ok (.ireturn, 1) := by decide +kernel
set_option maxRecDepth 20000 in
theorem ggX7_foretold_X7_in : GoodIn wsX7_foretold wsX7_in := goodIn_r _ [7] (by decide +kernel) (by decide +kernel)
set_option maxRecDepth 20000 in
theorem gX7_foretold_X7_in : GoodIn wsX7_foretold (va_wsS RX7 64 yX7_in wsX7_in) := goodIn_app (goodIn_of _ (by decide +kernel)) ggX7_foretold_X7_in
set_option maxRecDepth 20000 in
theorem ggX7_foretold_X7_fails : GoodIn wsX7_foretold wsX7_fails := goodIn_r _ [11, 1, 119, 120, 121, 122, 123, 124, 125, 126, 127, 128, 129, 130, 131, 132, 133, 134, 135, 136, 137] (by decide +kernel) (by decide +kernel)
set_option maxRecDepth 20000 in
theorem gX7_foretold_X7_fails : GoodIn wsX7_foretold (wsV RX7 174 RX7 yX7_fails wsX7_fails) := goodIn_app (goodIn_of _ (by decide +kernel)) ggX7_foretold_X7_fails
set_option maxRecDepth 20000 in
theorem ggX7_foretold_X7_copy : GoodIn wsX7_foretold wsX7_copy := goodIn_r _ [14] (by decide +kernel) (by decide +kernel)
set_option maxRecDepth 20000 in
theorem gX7_foretold_X7_copy : GoodIn wsX7_foretold (va_wsS RX7 186 yX7_copy wsX7_copy) := goodIn_app (goodIn_of _ (by decide +kernel)) ggX7_foretold_X7_copy
set_option maxRecDepth 20000 in
theorem ggX7_foretold_X7_tick : GoodIn wsX7_foretold wsX7_tick := goodIn_r _ [18, 2, 19, 20, 21, 6, 22, 23, 24, 25, 26, 27, 28, 29, 30, 31, 32, 33, 34, 35, 36, 37, 38, 39, 40, 41, 42, 43, 44, 45, 46, 47, 48, 49, 50, 51, 52, 53, 54, 55, 56, 57, 58, 59, 60, 61, 62, 63, 64, 65, 66, 67, 68, 69, 70, 71, 72, 73, 74, 75, 76, 77, 78, 79, 80, 81, 82, 83, 84, 85, 86, 87, 88, 89, 90, 91, 92, 93, 94, 95, 96, 97, 98, 99, 100, 101, 102, 103, 104, 105, 106, 107, 108, 109, 110, 119, 120, 121, 122, 123, 124, 125, 126, 127, 128, 129, 130, 131, 132, 133, 134, 135, 136, 137] (by decide +kernel) (by decide +kernel)
set_option maxRecDepth 20000 in
theorem gX7_foretold_X7_tick : GoodIn wsX7_foretold (wsV RX7 300 RX7 yX7_tick wsX7_tick) := goodIn_app (goodIn_of _ (by decide +kernel)) ggX7_foretold_X7_tick
set_option maxRecDepth 20000 in
theorem ggX7_foretold_X7_paidInAll : GoodIn wsX7_foretold wsX7_paidInAll := goodIn_r _ [114, 2, 19, 20, 21, 6, 22, 119, 120, 121, 122, 123, 124, 125, 126, 127, 128, 129, 130, 131, 132, 133, 134, 135, 136, 137] (by decide +kernel) (by decide +kernel)
set_option maxRecDepth 20000 in
theorem gX7_foretold_X7_paidInAll : GoodIn wsX7_foretold (wsV RX7 270 RX7 yX7_paidInAll wsX7_paidInAll) := goodIn_app (goodIn_of _ (by decide +kernel)) ggX7_foretold_X7_paidInAll
set_option maxRecDepth 20000 in
theorem ggX7_foretold_X7_inState : GoodIn wsX7_foretold wsX7_inState := goodIn_r _ [118, 2, 19, 20, 21, 6, 22, 119, 120, 121, 122, 123, 124, 125, 126, 127, 128, 129, 130, 131, 132, 133, 134, 135, 136, 137] (by decide +kernel) (by decide +kernel)
set_option maxRecDepth 20000 in
theorem gX7_foretold_X7_inState : GoodIn wsX7_foretold (wsV RX7 267 RX7 yX7_inState wsX7_inState) := goodIn_app (goodIn_of _ (by decide +kernel)) ggX7_foretold_X7_inState
theorem dX7_foretold_0 : decode cX7_foretold 0 = .ok (.aload_n 0, 1) := by decide +kernel
theorem dX7_foretold_1 : decode cX7_foretold 1 = .ok (.iconst 0, 1) := by decide +kernel
theorem dX7_foretold_2 : decode cX7_foretold 2 = .ok (.putfield 42, 3) := by decide +kernel
theorem dX7_foretold_5 : decode cX7_foretold 5 = .ok (.aload_n 0, 1) := by decide +kernel
theorem dX7_foretold_6 : decode cX7_foretold 6 = .ok (.iload_n 1, 1) := by decide +kernel
theorem dX7_foretold_7 : decode cX7_foretold 7 = .ok (.iconst 1, 1) := by decide +kernel
theorem dX7_foretold_8 : decode cX7_foretold 8 = .ok (.bipush 100, 2) := by decide +kernel
theorem dX7_foretold_10 : decode cX7_foretold 10 = .ok (.invokestatic 64, 3) := by decide +kernel
theorem dX7_foretold_13 : decode cX7_foretold 13 = .ok (.ifCond .eq 12, 3) := by decide +kernel
theorem dX7_foretold_16 : decode cX7_foretold 16 = .ok (.iload_n 2, 1) := by decide +kernel
theorem dX7_foretold_17 : decode cX7_foretold 17 = .ok (.iconst 0, 1) := by decide +kernel
theorem dX7_foretold_18 : decode cX7_foretold 18 = .ok (.iconst 3, 1) := by decide +kernel
theorem dX7_foretold_19 : decode cX7_foretold 19 = .ok (.invokestatic 64, 3) := by decide +kernel
theorem dX7_foretold_22 : decode cX7_foretold 22 = .ok (.ifCond .ne 7, 3) := by decide +kernel
theorem dX7_foretold_25 : decode cX7_foretold 25 = .ok (.iconst 1, 1) := by decide +kernel
theorem dX7_foretold_26 : decode cX7_foretold 26 = .ok (.goto 4, 3) := by decide +kernel
theorem dX7_foretold_29 : decode cX7_foretold 29 = .ok (.iconst 0, 1) := by decide +kernel
theorem dX7_foretold_30 : decode cX7_foretold 30 = .ok (.iconst 1, 1) := by decide +kernel
theorem dX7_foretold_31 : decode cX7_foretold 31 = .ok (.invokevirtual 174, 3) := by decide +kernel
theorem dX7_foretold_34 : decode cX7_foretold 34 = .ok (.ifCond .eq 5, 3) := by decide +kernel
theorem dX7_foretold_37 : decode cX7_foretold 37 = .ok (.iconst 0, 1) := by decide +kernel
theorem dX7_foretold_38 : decode cX7_foretold 38 = .ok (.ireturn, 1) := by decide +kernel
theorem dX7_foretold_39 : decode cX7_foretold 39 = .ok (.aload_n 0, 1) := by decide +kernel
theorem dX7_foretold_40 : decode cX7_foretold 40 = .ok (.getfield 17, 3) := by decide +kernel
theorem dX7_foretold_43 : decode cX7_foretold 43 = .ok (.aload_n 0, 1) := by decide +kernel
theorem dX7_foretold_44 : decode cX7_foretold 44 = .ok (.getfield 23, 3) := by decide +kernel
theorem dX7_foretold_47 : decode cX7_foretold 47 = .ok (.sipush 643, 3) := by decide +kernel
theorem dX7_foretold_50 : decode cX7_foretold 50 = .ok (.invokestatic 186, 3) := by decide +kernel
theorem dX7_foretold_53 : decode cX7_foretold 53 = .ok (.iconst 0, 1) := by decide +kernel
theorem dX7_foretold_54 : decode cX7_foretold 54 = .ok (.istore_n 3, 1) := by decide +kernel
theorem dX7_foretold_55 : decode cX7_foretold 55 = .ok (.iload_n 3, 1) := by decide +kernel
theorem dX7_foretold_56 : decode cX7_foretold 56 = .ok (.iload_n 1, 1) := by decide +kernel
theorem dX7_foretold_57 : decode cX7_foretold 57 = .ok (.if_icmp .ge 13, 3) := by decide +kernel
theorem dX7_foretold_60 : decode cX7_foretold 60 = .ok (.aload_n 0, 1) := by decide +kernel
theorem dX7_foretold_61 : decode cX7_foretold 61 = .ok (.invokevirtual 300, 3) := by decide +kernel
theorem dX7_foretold_64 : decode cX7_foretold 64 = .ok (.iinc 3 1, 3) := by decide +kernel
theorem dX7_foretold_67 : decode cX7_foretold 67 = .ok (.goto (-12), 3) := by decide +kernel
theorem dX7_foretold_70 : decode cX7_foretold 70 = .ok (.iload_n 2, 1) := by decide +kernel
theorem dX7_foretold_71 : decode cX7_foretold 71 = .ok (.ifCond .ne 10, 3) := by decide +kernel
theorem dX7_foretold_74 : decode cX7_foretold 74 = .ok (.aload_n 0, 1) := by decide +kernel
theorem dX7_foretold_75 : decode cX7_foretold 75 = .ok (.invokevirtual 270, 3) := by decide +kernel
theorem dX7_foretold_78 : decode cX7_foretold 78 = .ok (.goto 26, 3) := by decide +kernel
theorem dX7_foretold_81 : decode cX7_foretold 81 = .ok (.aload_n 0, 1) := by decide +kernel
theorem dX7_foretold_82 : decode cX7_foretold 82 = .ok (.iload_n 2, 1) := by decide +kernel
theorem dX7_foretold_83 : decode cX7_foretold 83 = .ok (.iconst 1, 1) := by decide +kernel
theorem dX7_foretold_84 : decode cX7_foretold 84 = .ok (.if_icmp .ne 7, 3) := by decide +kernel
theorem dX7_foretold_87 : decode cX7_foretold 87 = .ok (.iconst 0, 1) := by decide +kernel
theorem dX7_foretold_88 : decode cX7_foretold 88 = .ok (.goto 13, 3) := by decide +kernel
theorem dX7_foretold_91 : decode cX7_foretold 91 = .ok (.iload_n 2, 1) := by decide +kernel
theorem dX7_foretold_92 : decode cX7_foretold 92 = .ok (.iconst 2, 1) := by decide +kernel
theorem dX7_foretold_93 : decode cX7_foretold 93 = .ok (.if_icmp .ne 7, 3) := by decide +kernel
theorem dX7_foretold_96 : decode cX7_foretold 96 = .ok (.iconst 1, 1) := by decide +kernel
theorem dX7_foretold_97 : decode cX7_foretold 97 = .ok (.goto 4, 3) := by decide +kernel
theorem dX7_foretold_100 : decode cX7_foretold 100 = .ok (.iconst 3, 1) := by decide +kernel
theorem dX7_foretold_101 : decode cX7_foretold 101 = .ok (.invokevirtual 267, 3) := by decide +kernel
theorem dX7_foretold_104 : decode cX7_foretold 104 = .ok (.istore_n 3, 1) := by decide +kernel
theorem dX7_foretold_105 : decode cX7_foretold 105 = .ok (.aload_n 0, 1) := by decide +kernel
theorem dX7_foretold_106 : decode cX7_foretold 106 = .ok (.getfield 23, 3) := by decide +kernel
theorem dX7_foretold_109 : decode cX7_foretold 109 = .ok (.aload_n 0, 1) := by decide +kernel
theorem dX7_foretold_110 : decode cX7_foretold 110 = .ok (.getfield 17, 3) := by decide +kernel
theorem dX7_foretold_113 : decode cX7_foretold 113 = .ok (.sipush 643, 3) := by decide +kernel
theorem dX7_foretold_116 : decode cX7_foretold 116 = .ok (.invokestatic 186, 3) := by decide +kernel
theorem dX7_foretold_119 : decode cX7_foretold 119 = .ok (.iload_n 3, 1) := by decide +kernel
theorem dX7_foretold_120 : decode cX7_foretold 120 = .ok (.ireturn, 1) := by decide +kernel
set_option maxRecDepth 20000 in
theorem ggX7_emptyIn_X7_copy : GoodIn wsX7_emptyIn wsX7_copy := goodIn_r _ [7] (by decide +kernel) (by decide +kernel)
set_option maxRecDepth 20000 in
theorem gX7_emptyIn_X7_copy : GoodIn wsX7_emptyIn (va_wsS RX7 186 yX7_copy wsX7_copy) := goodIn_app (goodIn_of _ (by decide +kernel)) ggX7_emptyIn_X7_copy
set_option maxRecDepth 20000 in
theorem ggX7_emptyIn_X7_inState : GoodIn wsX7_emptyIn wsX7_inState := goodIn_r _ [11, 2, 12, 13, 14, 6, 15, 108, 109, 110, 111, 112, 113, 114, 115, 116, 117, 118, 119, 120, 121, 122, 123, 124, 125, 126] (by decide +kernel) (by decide +kernel)
set_option maxRecDepth 20000 in
theorem gX7_emptyIn_X7_inState : GoodIn wsX7_emptyIn (wsV RX7 267 RX7 yX7_inState wsX7_inState) := goodIn_app (goodIn_of _ (by decide +kernel)) ggX7_emptyIn_X7_inState
set_option maxRecDepth 20000 in
theorem ggX7_emptyIn_X7_tick : GoodIn wsX7_emptyIn wsX7_tick := goodIn_r _ [19, 2, 12, 13, 14, 6, 15, 20, 21, 22, 23, 24, 25, 26, 27, 28, 29, 30, 31, 32, 33, 34, 35, 36, 37, 38, 39, 40, 41, 42, 43, 44, 45, 46, 47, 48, 49, 50, 51, 52, 53, 54, 55, 56, 57, 58, 59, 60, 61, 62, 63, 64, 65, 66, 67, 68, 69, 70, 71, 72, 73, 74, 75, 76, 77, 78, 79, 80, 81, 82, 83, 84, 85, 86, 87, 88, 89, 90, 91, 92, 93, 94, 95, 96, 97, 98, 99, 100, 101, 102, 103, 104, 105, 106, 107, 108, 109, 110, 111, 112, 113, 114, 115, 116, 117, 118, 119, 120, 121, 122, 123, 124, 125, 126] (by decide +kernel) (by decide +kernel)
set_option maxRecDepth 20000 in
theorem gX7_emptyIn_X7_tick : GoodIn wsX7_emptyIn (wsV RX7 300 RX7 yX7_tick wsX7_tick) := goodIn_app (goodIn_of _ (by decide +kernel)) ggX7_emptyIn_X7_tick
theorem dX7_emptyIn_0 : decode cX7_emptyIn 0 = .ok (.aload_n 0, 1) := by decide +kernel
theorem dX7_emptyIn_1 : decode cX7_emptyIn 1 = .ok (.iconst 0, 1) := by decide +kernel
theorem dX7_emptyIn_2 : decode cX7_emptyIn 2 = .ok (.putfield 42, 3) := by decide +kernel
theorem dX7_emptyIn_5 : decode cX7_emptyIn 5 = .ok (.aload_n 0, 1) := by decide +kernel
theorem dX7_emptyIn_6 : decode cX7_emptyIn 6 = .ok (.getfield 17, 3) := by decide +kernel
theorem dX7_emptyIn_9 : decode cX7_emptyIn 9 = .ok (.aload_n 0, 1) := by decide +kernel
theorem dX7_emptyIn_10 : decode cX7_emptyIn 10 = .ok (.getfield 23, 3) := by decide +kernel
theorem dX7_emptyIn_13 : decode cX7_emptyIn 13 = .ok (.sipush 643, 3) := by decide +kernel
theorem dX7_emptyIn_16 : decode cX7_emptyIn 16 = .ok (.invokestatic 186, 3) := by decide +kernel
theorem dX7_emptyIn_19 : decode cX7_emptyIn 19 = .ok (.iconst 0, 1) := by decide +kernel
theorem dX7_emptyIn_20 : decode cX7_emptyIn 20 = .ok (.istore_n 1, 1) := by decide +kernel
theorem dX7_emptyIn_21 : decode cX7_emptyIn 21 = .ok (.aload_n 0, 1) := by decide +kernel
theorem dX7_emptyIn_22 : decode cX7_emptyIn 22 = .ok (.iconst 0, 1) := by decide +kernel
theorem dX7_emptyIn_23 : decode cX7_emptyIn 23 = .ok (.invokevirtual 267, 3) := by decide +kernel
theorem dX7_emptyIn_26 : decode cX7_emptyIn 26 = .ok (.aload_n 0, 1) := by decide +kernel
theorem dX7_emptyIn_27 : decode cX7_emptyIn 27 = .ok (.iconst 1, 1) := by decide +kernel
theorem dX7_emptyIn_28 : decode cX7_emptyIn 28 = .ok (.invokevirtual 267, 3) := by decide +kernel
theorem dX7_emptyIn_31 : decode cX7_emptyIn 31 = .ok (.iadd, 1) := by decide +kernel
theorem dX7_emptyIn_32 : decode cX7_emptyIn 32 = .ok (.ifCond .le 13, 3) := by decide +kernel
theorem dX7_emptyIn_35 : decode cX7_emptyIn 35 = .ok (.aload_n 0, 1) := by decide +kernel
theorem dX7_emptyIn_36 : decode cX7_emptyIn 36 = .ok (.invokevirtual 300, 3) := by decide +kernel
theorem dX7_emptyIn_39 : decode cX7_emptyIn 39 = .ok (.iinc 1 1, 3) := by decide +kernel
theorem dX7_emptyIn_42 : decode cX7_emptyIn 42 = .ok (.goto (-21), 3) := by decide +kernel
theorem dX7_emptyIn_45 : decode cX7_emptyIn 45 = .ok (.aload_n 0, 1) := by decide +kernel
theorem dX7_emptyIn_46 : decode cX7_emptyIn 46 = .ok (.getfield 23, 3) := by decide +kernel
theorem dX7_emptyIn_49 : decode cX7_emptyIn 49 = .ok (.aload_n 0, 1) := by decide +kernel
theorem dX7_emptyIn_50 : decode cX7_emptyIn 50 = .ok (.getfield 17, 3) := by decide +kernel
theorem dX7_emptyIn_53 : decode cX7_emptyIn 53 = .ok (.sipush 643, 3) := by decide +kernel
theorem dX7_emptyIn_56 : decode cX7_emptyIn 56 = .ok (.invokestatic 186, 3) := by decide +kernel
theorem dX7_emptyIn_59 : decode cX7_emptyIn 59 = .ok (.iload_n 1, 1) := by decide +kernel
theorem dX7_emptyIn_60 : decode cX7_emptyIn 60 = .ok (.ireturn, 1) := by decide +kernel
set_option maxRecDepth 20000 in
theorem ggX7_meanPaid_X7_inState : GoodIn wsX7_meanPaid wsX7_inState := goodIn_r _ [6, 7, 8, 9, 10, 5, 11, 16, 17, 18, 19, 20, 21, 22, 23, 24, 25, 26, 27, 28, 29, 30, 31, 32, 33, 34] (by decide +kernel) (by decide +kernel)
set_option maxRecDepth 20000 in
theorem gX7_meanPaid_X7_inState : GoodIn wsX7_meanPaid (wsV RX7 267 RX7 yX7_inState wsX7_inState) := goodIn_app (goodIn_of _ (by decide +kernel)) ggX7_meanPaid_X7_inState
set_option maxRecDepth 20000 in
theorem ggX7_meanPaid_X7_paidInAll : GoodIn wsX7_meanPaid wsX7_paidInAll := goodIn_r _ [15, 7, 8, 9, 10, 5, 11, 16, 17, 18, 19, 20, 21, 22, 23, 24, 25, 26, 27, 28, 29, 30, 31, 32, 33, 34] (by decide +kernel) (by decide +kernel)
set_option maxRecDepth 20000 in
theorem gX7_meanPaid_X7_paidInAll : GoodIn wsX7_meanPaid (wsV RX7 270 RX7 yX7_paidInAll wsX7_paidInAll) := goodIn_app (goodIn_of _ (by decide +kernel)) ggX7_meanPaid_X7_paidInAll
theorem dX7_meanPaid_0 : decode cX7_meanPaid 0 = .ok (.aload_n 0, 1) := by decide +kernel
theorem dX7_meanPaid_1 : decode cX7_meanPaid 1 = .ok (.iconst 0, 1) := by decide +kernel
theorem dX7_meanPaid_2 : decode cX7_meanPaid 2 = .ok (.putfield 42, 3) := by decide +kernel
theorem dX7_meanPaid_5 : decode cX7_meanPaid 5 = .ok (.aload_n 0, 1) := by decide +kernel
theorem dX7_meanPaid_6 : decode cX7_meanPaid 6 = .ok (.iconst 2, 1) := by decide +kernel
theorem dX7_meanPaid_7 : decode cX7_meanPaid 7 = .ok (.invokevirtual 267, 3) := by decide +kernel
theorem dX7_meanPaid_10 : decode cX7_meanPaid 10 = .ok (.ifCond .ne 7, 3) := by decide +kernel
theorem dX7_meanPaid_13 : decode cX7_meanPaid 13 = .ok (.fconst 0, 1) := by decide +kernel
theorem dX7_meanPaid_14 : decode cX7_meanPaid 14 = .ok (.goto 15, 3) := by decide +kernel
theorem dX7_meanPaid_17 : decode cX7_meanPaid 17 = .ok (.aload_n 0, 1) := by decide +kernel
theorem dX7_meanPaid_18 : decode cX7_meanPaid 18 = .ok (.invokevirtual 270, 3) := by decide +kernel
theorem dX7_meanPaid_21 : decode cX7_meanPaid 21 = .ok (.i2f, 1) := by decide +kernel
theorem dX7_meanPaid_22 : decode cX7_meanPaid 22 = .ok (.aload_n 0, 1) := by decide +kernel
theorem dX7_meanPaid_23 : decode cX7_meanPaid 23 = .ok (.iconst 2, 1) := by decide +kernel
theorem dX7_meanPaid_24 : decode cX7_meanPaid 24 = .ok (.invokevirtual 267, 3) := by decide +kernel
theorem dX7_meanPaid_27 : decode cX7_meanPaid 27 = .ok (.i2f, 1) := by decide +kernel
theorem dX7_meanPaid_28 : decode cX7_meanPaid 28 = .ok (.fdiv, 1) := by decide +kernel
theorem dX7_meanPaid_29 : decode cX7_meanPaid 29 = .ok (.freturn, 1) := by decide +kernel
set_option maxRecDepth 20000 in
theorem ggX7_remember_X7_copy : GoodIn wsX7_remember wsX7_copy := goodIn_r _ [7] (by decide +kernel) (by decide +kernel)
set_option maxRecDepth 20000 in
theorem gX7_remember_X7_copy : GoodIn wsX7_remember (va_wsS RX7 186 yX7_copy wsX7_copy) := goodIn_app (goodIn_of _ (by decide +kernel)) ggX7_remember_X7_copy
theorem dX7_remember_0 : decode cX7_remember 0 = .ok (.aload_n 0, 1) := by decide +kernel
theorem dX7_remember_1 : decode cX7_remember 1 = .ok (.getfield 303, 3) := by decide +kernel
theorem dX7_remember_4 : decode cX7_remember 4 = .ok (.bipush 8, 2) := by decide +kernel
theorem dX7_remember_6 : decode cX7_remember 6 = .ok (.if_icmp .ne 47, 3) := by decide +kernel
theorem dX7_remember_9 : decode cX7_remember 9 = .ok (.iconst 1, 1) := by decide +kernel
theorem dX7_remember_10 : decode cX7_remember 10 = .ok (.istore_n 1, 1) := by decide +kernel
theorem dX7_remember_11 : decode cX7_remember 11 = .ok (.iload_n 1, 1) := by decide +kernel
theorem dX7_remember_12 : decode cX7_remember 12 = .ok (.bipush 8, 2) := by decide +kernel
theorem dX7_remember_14 : decode cX7_remember 14 = .ok (.if_icmp .ge 29, 3) := by decide +kernel
theorem dX7_remember_17 : decode cX7_remember 17 = .ok (.aload_n 0, 1) := by decide +kernel
theorem dX7_remember_18 : decode cX7_remember 18 = .ok (.getfield 28, 3) := by decide +kernel
theorem dX7_remember_21 : decode cX7_remember 21 = .ok (.iload_n 1, 1) := by decide +kernel
theorem dX7_remember_22 : decode cX7_remember 22 = .ok (.aaload, 1) := by decide +kernel
theorem dX7_remember_23 : decode cX7_remember 23 = .ok (.aload_n 0, 1) := by decide +kernel
theorem dX7_remember_24 : decode cX7_remember 24 = .ok (.getfield 28, 3) := by decide +kernel
theorem dX7_remember_27 : decode cX7_remember 27 = .ok (.iload_n 1, 1) := by decide +kernel
theorem dX7_remember_28 : decode cX7_remember 28 = .ok (.iconst 1, 1) := by decide +kernel
theorem dX7_remember_29 : decode cX7_remember 29 = .ok (.isub, 1) := by decide +kernel
theorem dX7_remember_30 : decode cX7_remember 30 = .ok (.aaload, 1) := by decide +kernel
theorem dX7_remember_31 : decode cX7_remember 31 = .ok (.sipush 2243, 3) := by decide +kernel
theorem dX7_remember_34 : decode cX7_remember 34 = .ok (.invokestatic 186, 3) := by decide +kernel
theorem dX7_remember_37 : decode cX7_remember 37 = .ok (.iinc 1 1, 3) := by decide +kernel
theorem dX7_remember_40 : decode cX7_remember 40 = .ok (.goto (-29), 3) := by decide +kernel
theorem dX7_remember_43 : decode cX7_remember 43 = .ok (.aload_n 0, 1) := by decide +kernel
theorem dX7_remember_44 : decode cX7_remember 44 = .ok (.dup, 1) := by decide +kernel
theorem dX7_remember_45 : decode cX7_remember 45 = .ok (.getfield 303, 3) := by decide +kernel
theorem dX7_remember_48 : decode cX7_remember 48 = .ok (.iconst 1, 1) := by decide +kernel
theorem dX7_remember_49 : decode cX7_remember 49 = .ok (.isub, 1) := by decide +kernel
theorem dX7_remember_50 : decode cX7_remember 50 = .ok (.putfield 303, 3) := by decide +kernel
theorem dX7_remember_53 : decode cX7_remember 53 = .ok (.aload_n 0, 1) := by decide +kernel
theorem dX7_remember_54 : decode cX7_remember 54 = .ok (.getfield 17, 3) := by decide +kernel
theorem dX7_remember_57 : decode cX7_remember 57 = .ok (.aload_n 0, 1) := by decide +kernel
theorem dX7_remember_58 : decode cX7_remember 58 = .ok (.getfield 28, 3) := by decide +kernel
theorem dX7_remember_61 : decode cX7_remember 61 = .ok (.aload_n 0, 1) := by decide +kernel
theorem dX7_remember_62 : decode cX7_remember 62 = .ok (.getfield 303, 3) := by decide +kernel
theorem dX7_remember_65 : decode cX7_remember 65 = .ok (.aaload, 1) := by decide +kernel
theorem dX7_remember_66 : decode cX7_remember 66 = .ok (.sipush 2243, 3) := by decide +kernel
theorem dX7_remember_69 : decode cX7_remember 69 = .ok (.invokestatic 186, 3) := by decide +kernel
theorem dX7_remember_72 : decode cX7_remember 72 = .ok (.aload_n 0, 1) := by decide +kernel
theorem dX7_remember_73 : decode cX7_remember 73 = .ok (.dup, 1) := by decide +kernel
theorem dX7_remember_74 : decode cX7_remember 74 = .ok (.getfield 303, 3) := by decide +kernel
theorem dX7_remember_77 : decode cX7_remember 77 = .ok (.iconst 1, 1) := by decide +kernel
theorem dX7_remember_78 : decode cX7_remember 78 = .ok (.iadd, 1) := by decide +kernel
theorem dX7_remember_79 : decode cX7_remember 79 = .ok (.putfield 303, 3) := by decide +kernel
theorem dX7_remember_82 : decode cX7_remember 82 = .ok (.return_, 1) := by decide +kernel
set_option maxRecDepth 20000 in
theorem ggX7_pass_X7_in : GoodIn wsX7_pass wsX7_in := goodIn_r _ [5] (by decide +kernel) (by decide +kernel)
set_option maxRecDepth 20000 in
theorem gX7_pass_X7_in : GoodIn wsX7_pass (va_wsS RX7 64 yX7_in wsX7_in) := goodIn_app (goodIn_of _ (by decide +kernel)) ggX7_pass_X7_in
set_option maxRecDepth 20000 in
theorem ggX7_pass_X7_fails : GoodIn wsX7_pass wsX7_fails := goodIn_r _ [9, 1, 120, 121, 122, 123, 124, 125, 126, 127, 128, 129, 130, 131, 132, 133, 134, 135, 136, 137, 138] (by decide +kernel) (by decide +kernel)
set_option maxRecDepth 20000 in
theorem gX7_pass_X7_fails : GoodIn wsX7_pass (wsV RX7 174 RX7 yX7_fails wsX7_fails) := goodIn_app (goodIn_of _ (by decide +kernel)) ggX7_pass_X7_fails
set_option maxRecDepth 20000 in
theorem ggX7_pass_X7_remember : GoodIn wsX7_pass wsX7_remember := goodIn_r _ [13, 14, 15, 16, 17, 18, 4, 19, 120, 121, 122, 123, 124, 125, 126, 127, 128, 129, 130, 131, 132, 133, 134, 135, 136, 137, 138] (by decide +kernel) (by decide +kernel)
set_option maxRecDepth 20000 in
theorem gX7_pass_X7_remember : GoodIn wsX7_pass (wsV RX7 183 RX7 yX7_remember wsX7_remember) := goodIn_app (goodIn_of _ (by decide +kernel)) ggX7_pass_X7_remember
set_option maxRecDepth 20000 in
theorem ggX7_pass_X7_paidInAll : GoodIn wsX7_pass wsX7_paidInAll := goodIn_r _ [23, 16, 24, 25, 26, 4, 27, 120, 121, 122, 123, 124, 125, 126, 127, 128, 129, 130, 131, 132, 133, 134, 135, 136, 137, 138] (by decide +kernel) (by decide +kernel)
set_option maxRecDepth 20000 in
theorem gX7_pass_X7_paidInAll : GoodIn wsX7_pass (wsV RX7 270 RX7 yX7_paidInAll wsX7_paidInAll) := goodIn_app (goodIn_of _ (by decide +kernel)) ggX7_pass_X7_paidInAll
set_option maxRecDepth 20000 in
theorem ggX7_pass_X7_tick : GoodIn wsX7_pass wsX7_tick := goodIn_r _ [31, 16, 24, 25, 26, 4, 27, 32, 33, 34, 35, 36, 37, 38, 39, 40, 41, 42, 43, 44, 45, 46, 47, 48, 49, 50, 51, 52, 53, 54, 55, 56, 57, 58, 59, 60, 61, 62, 63, 64, 65, 66, 67, 68, 69, 70, 71, 72, 73, 74, 75, 76, 77, 78, 79, 80, 81, 82, 83, 84, 85, 86, 87, 88, 89, 90, 91, 92, 93, 94, 95, 96, 97, 98, 99, 100, 101, 102, 103, 104, 105, 106, 107, 108, 109, 110, 111, 112, 113, 114, 115, 116, 117, 118, 119, 120, 121, 122, 123, 124, 125, 126, 127, 128, 129, 130, 131, 132, 133, 134, 135, 136, 137, 138] (by decide +kernel) (by decide +kernel)
set_option maxRecDepth 20000 in
theorem gX7_pass_X7_tick : GoodIn wsX7_pass (wsV RX7 300 RX7 yX7_tick wsX7_tick) := goodIn_app (goodIn_of _ (by decide +kernel)) ggX7_pass_X7_tick
theorem dX7_pass_0 : decode cX7_pass 0 = .ok (.aload_n 0, 1) := by decide +kernel
theorem dX7_pass_1 : decode cX7_pass 1 = .ok (.iconst 0, 1) := by decide +kernel
theorem dX7_pass_2 : decode cX7_pass 2 = .ok (.putfield 42, 3) := by decide +kernel
theorem dX7_pass_5 : decode cX7_pass 5 = .ok (.aload_n 0, 1) := by decide +kernel
theorem dX7_pass_6 : decode cX7_pass 6 = .ok (.iload_n 1, 1) := by decide +kernel
theorem dX7_pass_7 : decode cX7_pass 7 = .ok (.iconst 1, 1) := by decide +kernel
theorem dX7_pass_8 : decode cX7_pass 8 = .ok (.bipush 50, 2) := by decide +kernel
theorem dX7_pass_10 : decode cX7_pass 10 = .ok (.invokestatic 64, 3) := by decide +kernel
theorem dX7_pass_13 : decode cX7_pass 13 = .ok (.ifCond .ne 7, 3) := by decide +kernel
theorem dX7_pass_16 : decode cX7_pass 16 = .ok (.iconst 1, 1) := by decide +kernel
theorem dX7_pass_17 : decode cX7_pass 17 = .ok (.goto 4, 3) := by decide +kernel
theorem dX7_pass_20 : decode cX7_pass 20 = .ok (.iconst 0, 1) := by decide +kernel
theorem dX7_pass_21 : decode cX7_pass 21 = .ok (.iconst 1, 1) := by decide +kernel
theorem dX7_pass_22 : decode cX7_pass 22 = .ok (.invokevirtual 174, 3) := by decide +kernel
theorem dX7_pass_25 : decode cX7_pass 25 = .ok (.ifCond .eq 5, 3) := by decide +kernel
theorem dX7_pass_28 : decode cX7_pass 28 = .ok (.iconst 0, 1) := by decide +kernel
theorem dX7_pass_29 : decode cX7_pass 29 = .ok (.ireturn, 1) := by decide +kernel
theorem dX7_pass_30 : decode cX7_pass 30 = .ok (.aload_n 0, 1) := by decide +kernel
theorem dX7_pass_31 : decode cX7_pass 31 = .ok (.invokevirtual 183, 3) := by decide +kernel
theorem dX7_pass_34 : decode cX7_pass 34 = .ok (.aload_n 0, 1) := by decide +kernel
theorem dX7_pass_35 : decode cX7_pass 35 = .ok (.invokevirtual 270, 3) := by decide +kernel
theorem dX7_pass_38 : decode cX7_pass 38 = .ok (.istore_n 2, 1) := by decide +kernel
theorem dX7_pass_39 : decode cX7_pass 39 = .ok (.iconst 0, 1) := by decide +kernel
theorem dX7_pass_40 : decode cX7_pass 40 = .ok (.istore_n 3, 1) := by decide +kernel
theorem dX7_pass_41 : decode cX7_pass 41 = .ok (.iload_n 3, 1) := by decide +kernel
theorem dX7_pass_42 : decode cX7_pass 42 = .ok (.iload_n 1, 1) := by decide +kernel
theorem dX7_pass_43 : decode cX7_pass 43 = .ok (.if_icmp .ge 13, 3) := by decide +kernel
theorem dX7_pass_46 : decode cX7_pass 46 = .ok (.aload_n 0, 1) := by decide +kernel
theorem dX7_pass_47 : decode cX7_pass 47 = .ok (.invokevirtual 300, 3) := by decide +kernel
theorem dX7_pass_50 : decode cX7_pass 50 = .ok (.iinc 3 1, 3) := by decide +kernel
theorem dX7_pass_53 : decode cX7_pass 53 = .ok (.goto (-12), 3) := by decide +kernel
theorem dX7_pass_56 : decode cX7_pass 56 = .ok (.aload_n 0, 1) := by decide +kernel
theorem dX7_pass_57 : decode cX7_pass 57 = .ok (.invokevirtual 270, 3) := by decide +kernel
theorem dX7_pass_60 : decode cX7_pass 60 = .ok (.iload_n 2, 1) := by decide +kernel
theorem dX7_pass_61 : decode cX7_pass 61 = .ok (.isub, 1) := by decide +kernel
theorem dX7_pass_62 : decode cX7_pass 62 = .ok (.ireturn, 1) := by decide +kernel
set_option maxRecDepth 20000 in
theorem ggX7_pull_X7_noPlane : GoodIn wsX7_pull wsX7_noPlane := goodIn_r _ [7, 2, 8, 9, 6, 10, 11, 12, 13, 14, 1, 24, 25, 26, 27, 28, 29, 30, 31, 32, 33, 34, 35, 36, 37, 38, 39, 40, 41, 42] (by decide +kernel) (by decide +kernel)
set_option maxRecDepth 20000 in
theorem gX7_pull_X7_noPlane : GoodIn wsX7_pull (wsV RX7 279 RX7 yX7_noPlane wsX7_noPlane) := goodIn_app (goodIn_of _ (by decide +kernel)) ggX7_pull_X7_noPlane
set_option maxRecDepth 20000 in
theorem ggX7_pull_X7_in : GoodIn wsX7_pull wsX7_in := goodIn_r _ [10] (by decide +kernel) (by decide +kernel)
set_option maxRecDepth 20000 in
theorem gX7_pull_X7_in : GoodIn wsX7_pull (va_wsS RX7 64 yX7_in wsX7_in) := goodIn_app (goodIn_of _ (by decide +kernel)) ggX7_pull_X7_in
set_option maxRecDepth 20000 in
theorem ggX7_pull_X7_fails : GoodIn wsX7_pull wsX7_fails := goodIn_r _ [14, 1, 24, 25, 26, 27, 28, 29, 30, 31, 32, 33, 34, 35, 36, 37, 38, 39, 40, 41, 42] (by decide +kernel) (by decide +kernel)
set_option maxRecDepth 20000 in
theorem gX7_pull_X7_fails : GoodIn wsX7_pull (wsV RX7 174 RX7 yX7_fails wsX7_fails) := goodIn_app (goodIn_of _ (by decide +kernel)) ggX7_pull_X7_fails
set_option maxRecDepth 20000 in
theorem ggX7_pull_X7_remember : GoodIn wsX7_pull wsX7_remember := goodIn_r _ [18, 19, 20, 2, 21, 22, 6, 23, 24, 25, 26, 27, 28, 29, 30, 31, 32, 33, 34, 35, 36, 37, 38, 39, 40, 41, 42] (by decide +kernel) (by decide +kernel)
set_option maxRecDepth 20000 in
theorem gX7_pull_X7_remember : GoodIn wsX7_pull (wsV RX7 183 RX7 yX7_remember wsX7_remember) := goodIn_app (goodIn_of _ (by decide +kernel)) ggX7_pull_X7_remember
theorem dX7_pull_0 : decode cX7_pull 0 = .ok (.aload_n 0, 1) := by decide +kernel
theorem dX7_pull_1 : decode cX7_pull 1 = .ok (.iconst 0, 1) := by decide +kernel
theorem dX7_pull_2 : decode cX7_pull 2 = .ok (.putfield 42, 3) := by decide +kernel
theorem dX7_pull_5 : decode cX7_pull 5 = .ok (.aload_n 0, 1) := by decide +kernel
theorem dX7_pull_6 : decode cX7_pull 6 = .ok (.iload_n 1, 1) := by decide +kernel
theorem dX7_pull_7 : decode cX7_pull 7 = .ok (.invokevirtual 279, 3) := by decide +kernel
theorem dX7_pull_10 : decode cX7_pull 10 = .ok (.ifCond .ne 55, 3) := by decide +kernel
theorem dX7_pull_13 : decode cX7_pull 13 = .ok (.aload_n 0, 1) := by decide +kernel
theorem dX7_pull_14 : decode cX7_pull 14 = .ok (.iload_n 2, 1) := by decide +kernel
theorem dX7_pull_15 : decode cX7_pull 15 = .ok (.iconst 0, 1) := by decide +kernel
theorem dX7_pull_16 : decode cX7_pull 16 = .ok (.aload_n 0, 1) := by decide +kernel
theorem dX7_pull_17 : decode cX7_pull 17 = .ok (.getfield 17, 3) := by decide +kernel
theorem dX7_pull_20 : decode cX7_pull 20 = .ok (.iconst 1, 1) := by decide +kernel
theorem dX7_pull_21 : decode cX7_pull 21 = .ok (.iaload, 1) := by decide +kernel
theorem dX7_pull_22 : decode cX7_pull 22 = .ok (.invokestatic 64, 3) := by decide +kernel
theorem dX7_pull_25 : decode cX7_pull 25 = .ok (.ifCond .ne 7, 3) := by decide +kernel
theorem dX7_pull_28 : decode cX7_pull 28 = .ok (.iconst 1, 1) := by decide +kernel
theorem dX7_pull_29 : decode cX7_pull 29 = .ok (.goto 4, 3) := by decide +kernel
theorem dX7_pull_32 : decode cX7_pull 32 = .ok (.iconst 0, 1) := by decide +kernel
theorem dX7_pull_33 : decode cX7_pull 33 = .ok (.iconst 2, 1) := by decide +kernel
theorem dX7_pull_34 : decode cX7_pull 34 = .ok (.invokevirtual 174, 3) := by decide +kernel
theorem dX7_pull_37 : decode cX7_pull 37 = .ok (.ifCond .ne 28, 3) := by decide +kernel
theorem dX7_pull_40 : decode cX7_pull 40 = .ok (.aload_n 0, 1) := by decide +kernel
theorem dX7_pull_41 : decode cX7_pull 41 = .ok (.iload_n 1, 1) := by decide +kernel
theorem dX7_pull_42 : decode cX7_pull 42 = .ok (.aload_n 0, 1) := by decide +kernel
theorem dX7_pull_43 : decode cX7_pull 43 = .ok (.getfield 17, 3) := by decide +kernel
theorem dX7_pull_46 : decode cX7_pull 46 = .ok (.iconst 2, 1) := by decide +kernel
theorem dX7_pull_47 : decode cX7_pull 47 = .ok (.iaload, 1) := by decide +kernel
theorem dX7_pull_48 : decode cX7_pull 48 = .ok (.iconst 1, 1) := by decide +kernel
theorem dX7_pull_49 : decode cX7_pull 49 = .ok (.isub, 1) := by decide +kernel
theorem dX7_pull_50 : decode cX7_pull 50 = .ok (.if_icmp .ne 7, 3) := by decide +kernel
theorem dX7_pull_53 : decode cX7_pull 53 = .ok (.iconst 1, 1) := by decide +kernel
theorem dX7_pull_54 : decode cX7_pull 54 = .ok (.goto 4, 3) := by decide +kernel
theorem dX7_pull_57 : decode cX7_pull 57 = .ok (.iconst 0, 1) := by decide +kernel
theorem dX7_pull_58 : decode cX7_pull 58 = .ok (.iconst 3, 1) := by decide +kernel
theorem dX7_pull_59 : decode cX7_pull 59 = .ok (.invokevirtual 174, 3) := by decide +kernel
theorem dX7_pull_62 : decode cX7_pull 62 = .ok (.ifCond .eq 5, 3) := by decide +kernel
theorem dX7_pull_65 : decode cX7_pull 65 = .ok (.iconst 0, 1) := by decide +kernel
theorem dX7_pull_66 : decode cX7_pull 66 = .ok (.ireturn, 1) := by decide +kernel
theorem dX7_pull_67 : decode cX7_pull 67 = .ok (.aload_n 0, 1) := by decide +kernel
theorem dX7_pull_68 : decode cX7_pull 68 = .ok (.invokevirtual 183, 3) := by decide +kernel
theorem dX7_pull_71 : decode cX7_pull 71 = .ok (.aload_n 0, 1) := by decide +kernel
theorem dX7_pull_72 : decode cX7_pull 72 = .ok (.getfield 17, 3) := by decide +kernel
theorem dX7_pull_75 : decode cX7_pull 75 = .ok (.bipush 10, 2) := by decide +kernel
theorem dX7_pull_77 : decode cX7_pull 77 = .ok (.iload_n 1, 1) := by decide +kernel
theorem dX7_pull_78 : decode cX7_pull 78 = .ok (.iadd, 1) := by decide +kernel
theorem dX7_pull_79 : decode cX7_pull 79 = .ok (.iaload, 1) := by decide +kernel
theorem dX7_pull_80 : decode cX7_pull 80 = .ok (.istore_n 3, 1) := by decide +kernel
theorem dX7_pull_81 : decode cX7_pull 81 = .ok (.aload_n 0, 1) := by decide +kernel
theorem dX7_pull_82 : decode cX7_pull 82 = .ok (.getfield 17, 3) := by decide +kernel
theorem dX7_pull_85 : decode cX7_pull 85 = .ok (.bipush 10, 2) := by decide +kernel
theorem dX7_pull_87 : decode cX7_pull 87 = .ok (.iload_n 1, 1) := by decide +kernel
theorem dX7_pull_88 : decode cX7_pull 88 = .ok (.iadd, 1) := by decide +kernel
theorem dX7_pull_89 : decode cX7_pull 89 = .ok (.iload_n 2, 1) := by decide +kernel
theorem dX7_pull_90 : decode cX7_pull 90 = .ok (.iastore, 1) := by decide +kernel
theorem dX7_pull_91 : decode cX7_pull 91 = .ok (.iload_n 3, 1) := by decide +kernel
theorem dX7_pull_92 : decode cX7_pull 92 = .ok (.ireturn, 1) := by decide +kernel
set_option maxRecDepth 20000 in
theorem ggX7_come_X7_in : GoodIn wsX7_come wsX7_in := goodIn_r _ [6] (by decide +kernel) (by decide +kernel)
set_option maxRecDepth 20000 in
theorem gX7_come_X7_in : GoodIn wsX7_come (va_wsS RX7 64 yX7_in wsX7_in) := goodIn_app (goodIn_of _ (by decide +kernel)) ggX7_come_X7_in
set_option maxRecDepth 20000 in
theorem ggX7_come_X7_fails : GoodIn wsX7_come wsX7_fails := goodIn_r _ [10, 1, 23, 24, 25, 26, 27, 28, 29, 30, 31, 32, 33, 34, 35, 36, 37, 38, 39, 40, 41] (by decide +kernel) (by decide +kernel)
set_option maxRecDepth 20000 in
theorem gX7_come_X7_fails : GoodIn wsX7_come (wsV RX7 174 RX7 yX7_fails wsX7_fails) := goodIn_app (goodIn_of _ (by decide +kernel)) ggX7_come_X7_fails
set_option maxRecDepth 20000 in
theorem ggX7_come_X7_remember : GoodIn wsX7_come wsX7_remember := goodIn_r _ [14, 15, 16, 2, 17, 18, 5, 19, 23, 24, 25, 26, 27, 28, 29, 30, 31, 32, 33, 34, 35, 36, 37, 38, 39, 40, 41] (by decide +kernel) (by decide +kernel)
set_option maxRecDepth 20000 in
theorem gX7_come_X7_remember : GoodIn wsX7_come (wsV RX7 183 RX7 yX7_remember wsX7_remember) := goodIn_app (goodIn_of _ (by decide +kernel)) ggX7_come_X7_remember
set_option maxRecDepth 20000 in
theorem ggX7_come_X7_addViewer : GoodIn wsX7_come wsX7_addViewer := goodIn_r _ [22] (by decide +kernel) (by decide +kernel)
set_option maxRecDepth 20000 in
theorem gX7_come_X7_addViewer : GoodIn wsX7_come (va_wsS RX7 150 yX7_addViewer wsX7_addViewer) := goodIn_app (goodIn_of _ (by decide +kernel)) ggX7_come_X7_addViewer
theorem dX7_come_0 : decode cX7_come 0 = .ok (.aload_n 0, 1) := by decide +kernel
theorem dX7_come_1 : decode cX7_come 1 = .ok (.iconst 0, 1) := by decide +kernel
theorem dX7_come_2 : decode cX7_come 2 = .ok (.putfield 42, 3) := by decide +kernel
theorem dX7_come_5 : decode cX7_come 5 = .ok (.aload_n 0, 1) := by decide +kernel
theorem dX7_come_6 : decode cX7_come 6 = .ok (.iload_n 1, 1) := by decide +kernel
theorem dX7_come_7 : decode cX7_come 7 = .ok (.iconst 0, 1) := by decide +kernel
theorem dX7_come_8 : decode cX7_come 8 = .ok (.bipush 9, 2) := by decide +kernel
theorem dX7_come_10 : decode cX7_come 10 = .ok (.invokestatic 64, 3) := by decide +kernel
theorem dX7_come_13 : decode cX7_come 13 = .ok (.ifCond .eq 24, 3) := by decide +kernel
theorem dX7_come_16 : decode cX7_come 16 = .ok (.iload_n 2, 1) := by decide +kernel
theorem dX7_come_17 : decode cX7_come 17 = .ok (.iconst 0, 1) := by decide +kernel
theorem dX7_come_18 : decode cX7_come 18 = .ok (.bipush 25, 2) := by decide +kernel
theorem dX7_come_20 : decode cX7_come 20 = .ok (.invokestatic 64, 3) := by decide +kernel
theorem dX7_come_23 : decode cX7_come 23 = .ok (.ifCond .eq 14, 3) := by decide +kernel
theorem dX7_come_26 : decode cX7_come 26 = .ok (.iload_n 3, 1) := by decide +kernel
theorem dX7_come_27 : decode cX7_come 27 = .ok (.iconst 0, 1) := by decide +kernel
theorem dX7_come_28 : decode cX7_come 28 = .ok (.sipush 999, 3) := by decide +kernel
theorem dX7_come_31 : decode cX7_come 31 = .ok (.invokestatic 64, 3) := by decide +kernel
theorem dX7_come_34 : decode cX7_come 34 = .ok (.ifCond .ne 7, 3) := by decide +kernel
theorem dX7_come_37 : decode cX7_come 37 = .ok (.iconst 1, 1) := by decide +kernel
theorem dX7_come_38 : decode cX7_come 38 = .ok (.goto 4, 3) := by decide +kernel
theorem dX7_come_41 : decode cX7_come 41 = .ok (.iconst 0, 1) := by decide +kernel
theorem dX7_come_42 : decode cX7_come 42 = .ok (.iconst 1, 1) := by decide +kernel
theorem dX7_come_43 : decode cX7_come 43 = .ok (.invokevirtual 174, 3) := by decide +kernel
theorem dX7_come_46 : decode cX7_come 46 = .ok (.ifCond .ne 28, 3) := by decide +kernel
theorem dX7_come_49 : decode cX7_come 49 = .ok (.aload_n 0, 1) := by decide +kernel
theorem dX7_come_50 : decode cX7_come 50 = .ok (.aload_n 0, 1) := by decide +kernel
theorem dX7_come_51 : decode cX7_come 51 = .ok (.getfield 17, 3) := by decide +kernel
theorem dX7_come_54 : decode cX7_come 54 = .ok (.bipush 7, 2) := by decide +kernel
theorem dX7_come_56 : decode cX7_come 56 = .ok (.iaload, 1) := by decide +kernel
theorem dX7_come_57 : decode cX7_come 57 = .ok (.bipush 20, 2) := by decide +kernel
theorem dX7_come_59 : decode cX7_come 59 = .ok (.if_icmp .ne 7, 3) := by decide +kernel
theorem dX7_come_62 : decode cX7_come 62 = .ok (.iconst 1, 1) := by decide +kernel
theorem dX7_come_63 : decode cX7_come 63 = .ok (.goto 4, 3) := by decide +kernel
theorem dX7_come_66 : decode cX7_come 66 = .ok (.iconst 0, 1) := by decide +kernel
theorem dX7_come_67 : decode cX7_come 67 = .ok (.iconst 2, 1) := by decide +kernel
theorem dX7_come_68 : decode cX7_come 68 = .ok (.invokevirtual 174, 3) := by decide +kernel
theorem dX7_come_71 : decode cX7_come 71 = .ok (.ifCond .eq 5, 3) := by decide +kernel
theorem dX7_come_74 : decode cX7_come 74 = .ok (.iconst 0, 1) := by decide +kernel
theorem dX7_come_75 : decode cX7_come 75 = .ok (.ireturn, 1) := by decide +kernel
theorem dX7_come_76 : decode cX7_come 76 = .ok (.aload_n 0, 1) := by decide +kernel
theorem dX7_come_77 : decode cX7_come 77 = .ok (.invokevirtual 183, 3) := by decide +kernel
theorem dX7_come_80 : decode cX7_come 80 = .ok (.aload_n 0, 1) := by decide +kernel
theorem dX7_come_81 : decode cX7_come 81 = .ok (.getfield 17, 3) := by decide +kernel
theorem dX7_come_84 : decode cX7_come 84 = .ok (.iload_n 1, 1) := by decide +kernel
theorem dX7_come_85 : decode cX7_come 85 = .ok (.iload_n 2, 1) := by decide +kernel
theorem dX7_come_86 : decode cX7_come 86 = .ok (.iload_n 3, 1) := by decide +kernel
theorem dX7_come_87 : decode cX7_come 87 = .ok (.invokestatic 150, 3) := by decide +kernel
theorem dX7_come_90 : decode cX7_come 90 = .ok (.aload_n 0, 1) := by decide +kernel
theorem dX7_come_91 : decode cX7_come 91 = .ok (.getfield 17, 3) := by decide +kernel
theorem dX7_come_94 : decode cX7_come 94 = .ok (.bipush 7, 2) := by decide +kernel
theorem dX7_come_96 : decode cX7_come 96 = .ok (.iaload, 1) := by decide +kernel
theorem dX7_come_97 : decode cX7_come 97 = .ok (.iconst 1, 1) := by decide +kernel
theorem dX7_come_98 : decode cX7_come 98 = .ok (.isub, 1) := by decide +kernel
theorem dX7_come_99 : decode cX7_come 99 = .ok (.ireturn, 1) := by decide +kernel
set_option maxRecDepth 20000 in
theorem ggX7_length_X7_in : GoodIn wsX7_length wsX7_in := goodIn_r _ [6] (by decide +kernel) (by decide +kernel)
set_option maxRecDepth 20000 in
theorem gX7_length_X7_in : GoodIn wsX7_length (va_wsS RX7 64 yX7_in wsX7_in) := goodIn_app (goodIn_of _ (by decide +kernel)) ggX7_length_X7_in
set_option maxRecDepth 20000 in
theorem ggX7_length_X7_fails : GoodIn wsX7_length wsX7_fails := goodIn_r _ [10, 1, 20, 21, 22, 23, 24, 25, 26, 27, 28, 29, 30, 31, 32, 33, 34, 35, 36, 37, 38] (by decide +kernel) (by decide +kernel)
set_option maxRecDepth 20000 in
theorem gX7_length_X7_fails : GoodIn wsX7_length (wsV RX7 174 RX7 yX7_fails wsX7_fails) := goodIn_app (goodIn_of _ (by decide +kernel)) ggX7_length_X7_fails
set_option maxRecDepth 20000 in
theorem ggX7_length_X7_remember : GoodIn wsX7_length wsX7_remember := goodIn_r _ [14, 15, 16, 2, 17, 18, 5, 19, 20, 21, 22, 23, 24, 25, 26, 27, 28, 29, 30, 31, 32, 33, 34, 35, 36, 37, 38] (by decide +kernel) (by decide +kernel)
set_option maxRecDepth 20000 in
theorem gX7_length_X7_remember : GoodIn wsX7_length (wsV RX7 183 RX7 yX7_remember wsX7_remember) := goodIn_app (goodIn_of _ (by decide +kernel)) ggX7_length_X7_remember
theorem dX7_length_0 : decode cX7_length 0 = .ok (.aload_n 0, 1) := by decide +kernel
theorem dX7_length_1 : decode cX7_length 1 = .ok (.iconst 0, 1) := by decide +kernel
theorem dX7_length_2 : decode cX7_length 2 = .ok (.putfield 42, 3) := by decide +kernel
theorem dX7_length_5 : decode cX7_length 5 = .ok (.aload_n 0, 1) := by decide +kernel
theorem dX7_length_6 : decode cX7_length 6 = .ok (.iload_n 1, 1) := by decide +kernel
theorem dX7_length_7 : decode cX7_length 7 = .ok (.iconst 1, 1) := by decide +kernel
theorem dX7_length_8 : decode cX7_length 8 = .ok (.bipush 20, 2) := by decide +kernel
theorem dX7_length_10 : decode cX7_length 10 = .ok (.invokestatic 64, 3) := by decide +kernel
theorem dX7_length_13 : decode cX7_length 13 = .ok (.ifCond .ne 7, 3) := by decide +kernel
theorem dX7_length_16 : decode cX7_length 16 = .ok (.iconst 1, 1) := by decide +kernel
theorem dX7_length_17 : decode cX7_length 17 = .ok (.goto 4, 3) := by decide +kernel
theorem dX7_length_20 : decode cX7_length 20 = .ok (.iconst 0, 1) := by decide +kernel
theorem dX7_length_21 : decode cX7_length 21 = .ok (.iconst 1, 1) := by decide +kernel
theorem dX7_length_22 : decode cX7_length 22 = .ok (.invokevirtual 174, 3) := by decide +kernel
theorem dX7_length_25 : decode cX7_length 25 = .ok (.ifCond .eq 5, 3) := by decide +kernel
theorem dX7_length_28 : decode cX7_length 28 = .ok (.iconst 0, 1) := by decide +kernel
theorem dX7_length_29 : decode cX7_length 29 = .ok (.ireturn, 1) := by decide +kernel
theorem dX7_length_30 : decode cX7_length 30 = .ok (.aload_n 0, 1) := by decide +kernel
theorem dX7_length_31 : decode cX7_length 31 = .ok (.invokevirtual 183, 3) := by decide +kernel
theorem dX7_length_34 : decode cX7_length 34 = .ok (.aload_n 0, 1) := by decide +kernel
theorem dX7_length_35 : decode cX7_length 35 = .ok (.getfield 17, 3) := by decide +kernel
theorem dX7_length_38 : decode cX7_length 38 = .ok (.iconst 5, 1) := by decide +kernel
theorem dX7_length_39 : decode cX7_length 39 = .ok (.iaload, 1) := by decide +kernel
theorem dX7_length_40 : decode cX7_length 40 = .ok (.istore_n 2, 1) := by decide +kernel
theorem dX7_length_41 : decode cX7_length 41 = .ok (.aload_n 0, 1) := by decide +kernel
theorem dX7_length_42 : decode cX7_length 42 = .ok (.getfield 17, 3) := by decide +kernel
theorem dX7_length_45 : decode cX7_length 45 = .ok (.iconst 5, 1) := by decide +kernel
theorem dX7_length_46 : decode cX7_length 46 = .ok (.iload_n 1, 1) := by decide +kernel
theorem dX7_length_47 : decode cX7_length 47 = .ok (.iastore, 1) := by decide +kernel
theorem dX7_length_48 : decode cX7_length 48 = .ok (.iload_n 2, 1) := by decide +kernel
theorem dX7_length_49 : decode cX7_length 49 = .ok (.ireturn, 1) := by decide +kernel
set_option maxRecDepth 20000 in
theorem ggX7_undo_X7_copy : GoodIn wsX7_undo wsX7_copy := goodIn_r _ [8] (by decide +kernel) (by decide +kernel)
set_option maxRecDepth 20000 in
theorem gX7_undo_X7_copy : GoodIn wsX7_undo (va_wsS RX7 186 yX7_copy wsX7_copy) := goodIn_app (goodIn_of _ (by decide +kernel)) ggX7_undo_X7_copy
theorem dX7_undo_0 : decode cX7_undo 0 = .ok (.aload_n 0, 1) := by decide +kernel
theorem dX7_undo_1 : decode cX7_undo 1 = .ok (.iconst 0, 1) := by decide +kernel
theorem dX7_undo_2 : decode cX7_undo 2 = .ok (.putfield 42, 3) := by decide +kernel
theorem dX7_undo_5 : decode cX7_undo 5 = .ok (.aload_n 0, 1) := by decide +kernel
theorem dX7_undo_6 : decode cX7_undo 6 = .ok (.getfield 303, 3) := by decide +kernel
theorem dX7_undo_9 : decode cX7_undo 9 = .ok (.ifCond .ne 5, 3) := by decide +kernel
theorem dX7_undo_12 : decode cX7_undo 12 = .ok (.iconst (-1), 1) := by decide +kernel
theorem dX7_undo_13 : decode cX7_undo 13 = .ok (.ireturn, 1) := by decide +kernel
theorem dX7_undo_14 : decode cX7_undo 14 = .ok (.aload_n 0, 1) := by decide +kernel
theorem dX7_undo_15 : decode cX7_undo 15 = .ok (.dup, 1) := by decide +kernel
theorem dX7_undo_16 : decode cX7_undo 16 = .ok (.getfield 303, 3) := by decide +kernel
theorem dX7_undo_19 : decode cX7_undo 19 = .ok (.iconst 1, 1) := by decide +kernel
theorem dX7_undo_20 : decode cX7_undo 20 = .ok (.isub, 1) := by decide +kernel
theorem dX7_undo_21 : decode cX7_undo 21 = .ok (.putfield 303, 3) := by decide +kernel
theorem dX7_undo_24 : decode cX7_undo 24 = .ok (.aload_n 0, 1) := by decide +kernel
theorem dX7_undo_25 : decode cX7_undo 25 = .ok (.getfield 28, 3) := by decide +kernel
theorem dX7_undo_28 : decode cX7_undo 28 = .ok (.aload_n 0, 1) := by decide +kernel
theorem dX7_undo_29 : decode cX7_undo 29 = .ok (.getfield 303, 3) := by decide +kernel
theorem dX7_undo_32 : decode cX7_undo 32 = .ok (.aaload, 1) := by decide +kernel
theorem dX7_undo_33 : decode cX7_undo 33 = .ok (.aload_n 0, 1) := by decide +kernel
theorem dX7_undo_34 : decode cX7_undo 34 = .ok (.getfield 17, 3) := by decide +kernel
theorem dX7_undo_37 : decode cX7_undo 37 = .ok (.sipush 2243, 3) := by decide +kernel
theorem dX7_undo_40 : decode cX7_undo 40 = .ok (.invokestatic 186, 3) := by decide +kernel
theorem dX7_undo_43 : decode cX7_undo 43 = .ok (.aload_n 0, 1) := by decide +kernel
theorem dX7_undo_44 : decode cX7_undo 44 = .ok (.getfield 303, 3) := by decide +kernel
theorem dX7_undo_47 : decode cX7_undo 47 = .ok (.ireturn, 1) := by decide +kernel
set_option maxRecDepth 20000 in
theorem ggX7_checksum_X7_told : GoodIn wsX7_checksum wsX7_told := goodIn_r _ [8, 3, 9, 10, 11, 7, 12, 13, 14, 15, 16, 17, 18, 19, 20, 21, 22, 23, 24, 25, 26, 27, 28, 81, 82, 83, 84, 85, 86, 87, 88, 89, 90, 91, 92, 93, 94, 95, 96, 97, 98, 99] (by decide +kernel) (by decide +kernel)
set_option maxRecDepth 20000 in
theorem gX7_checksum_X7_told : GoodIn wsX7_checksum (wsV RX7 276 RX7 yX7_told wsX7_told) := goodIn_app (goodIn_of _ (by decide +kernel)) ggX7_checksum_X7_told
set_option maxRecDepth 20000 in
theorem ggX7_checksum_X7_toldPlane : GoodIn wsX7_checksum wsX7_toldPlane := goodIn_r _ [32, 3, 33, 34, 35, 7, 36, 37, 38, 39, 40, 41, 42, 43, 44, 45, 46, 47, 48, 49, 50, 51, 52, 53, 54, 55, 56, 57, 58, 59, 60, 81, 82, 83, 84, 85, 86, 87, 88, 89, 90, 91, 92, 93, 94, 95, 96, 97, 98, 99] (by decide +kernel) (by decide +kernel)
set_option maxRecDepth 20000 in
theorem gX7_checksum_X7_toldPlane : GoodIn wsX7_checksum (wsV RX7 285 RX7 yX7_toldPlane wsX7_toldPlane) := goodIn_app (goodIn_of _ (by decide +kernel)) ggX7_checksum_X7_toldPlane
set_option maxRecDepth 20000 in
theorem ggX7_checksum_X7_toldHole : GoodIn wsX7_checksum wsX7_toldHole := goodIn_r _ [64, 49, 50, 51, 7, 52, 3, 57, 58, 59, 60, 25, 26, 27, 28, 13, 14, 15, 16, 65, 66, 67, 68, 33, 34, 35, 36, 69, 70, 71, 72, 41, 42, 43, 44, 45, 46, 47, 48, 53, 54, 55, 56, 37, 38, 39, 40, 73, 74, 75, 76, 81, 82, 83, 84, 85, 86, 87, 88, 89, 90, 91, 92, 93, 94, 95, 96, 97, 98, 99] (by decide +kernel) (by decide +kernel)
set_option maxRecDepth 20000 in
theorem gX7_checksum_X7_toldHole : GoodIn wsX7_checksum (wsV RX7 291 RX7 yX7_toldHole wsX7_toldHole) := goodIn_app (goodIn_of _ (by decide +kernel)) ggX7_checksum_X7_toldHole
set_option maxRecDepth 20000 in
theorem ggX7_checksum_X7_toldViewer : GoodIn wsX7_checksum wsX7_toldViewer := goodIn_r _ [80, 13, 14, 15, 7, 16, 3, 81, 82, 83, 84, 85, 86, 87, 88, 89, 90, 91, 92, 93, 94, 95, 96, 97, 98, 99] (by decide +kernel) (by decide +kernel)
set_option maxRecDepth 20000 in
theorem gX7_checksum_X7_toldViewer : GoodIn wsX7_checksum (wsV RX7 297 RX7 yX7_toldViewer wsX7_toldViewer) := goodIn_app (goodIn_of _ (by decide +kernel)) ggX7_checksum_X7_toldViewer
theorem dX7_checksum_0 : decode cX7_checksum 0 = .ok (.aload_n 0, 1) := by decide +kernel
theorem dX7_checksum_1 : decode cX7_checksum 1 = .ok (.iconst 0, 1) := by decide +kernel
theorem dX7_checksum_2 : decode cX7_checksum 2 = .ok (.putfield 42, 3) := by decide +kernel
theorem dX7_checksum_5 : decode cX7_checksum 5 = .ok (.lconst 0, 1) := by decide +kernel
theorem dX7_checksum_6 : decode cX7_checksum 6 = .ok (.lstore_n 1, 1) := by decide +kernel
theorem dX7_checksum_7 : decode cX7_checksum 7 = .ok (.iconst 0, 1) := by decide +kernel
theorem dX7_checksum_8 : decode cX7_checksum 8 = .ok (.istore_n 3, 1) := by decide +kernel
theorem dX7_checksum_9 : decode cX7_checksum 9 = .ok (.iload_n 3, 1) := by decide +kernel
theorem dX7_checksum_10 : decode cX7_checksum 10 = .ok (.bipush 14, 2) := by decide +kernel
theorem dX7_checksum_12 : decode cX7_checksum 12 = .ok (.if_icmp .ge 22, 3) := by decide +kernel
theorem dX7_checksum_15 : decode cX7_checksum 15 = .ok (.ldc2_w 306, 3) := by decide +kernel
theorem dX7_checksum_18 : decode cX7_checksum 18 = .ok (.lload_n 1, 1) := by decide +kernel
theorem dX7_checksum_19 : decode cX7_checksum 19 = .ok (.lmul, 1) := by decide +kernel
theorem dX7_checksum_20 : decode cX7_checksum 20 = .ok (.aload_n 0, 1) := by decide +kernel
theorem dX7_checksum_21 : decode cX7_checksum 21 = .ok (.iload_n 3, 1) := by decide +kernel
theorem dX7_checksum_22 : decode cX7_checksum 22 = .ok (.invokevirtual 276, 3) := by decide +kernel
theorem dX7_checksum_25 : decode cX7_checksum 25 = .ok (.i2l, 1) := by decide +kernel
theorem dX7_checksum_26 : decode cX7_checksum 26 = .ok (.ladd, 1) := by decide +kernel
theorem dX7_checksum_27 : decode cX7_checksum 27 = .ok (.lstore_n 1, 1) := by decide +kernel
theorem dX7_checksum_28 : decode cX7_checksum 28 = .ok (.iinc 3 1, 3) := by decide +kernel
theorem dX7_checksum_31 : decode cX7_checksum 31 = .ok (.goto (-22), 3) := by decide +kernel
theorem dX7_checksum_34 : decode cX7_checksum 34 = .ok (.iconst 0, 1) := by decide +kernel
theorem dX7_checksum_35 : decode cX7_checksum 35 = .ok (.istore_n 3, 1) := by decide +kernel
theorem dX7_checksum_36 : decode cX7_checksum 36 = .ok (.iload_n 3, 1) := by decide +kernel
theorem dX7_checksum_37 : decode cX7_checksum 37 = .ok (.aload_n 0, 1) := by decide +kernel
theorem dX7_checksum_38 : decode cX7_checksum 38 = .ok (.getfield 17, 3) := by decide +kernel
theorem dX7_checksum_41 : decode cX7_checksum 41 = .ok (.iconst 2, 1) := by decide +kernel
theorem dX7_checksum_42 : decode cX7_checksum 42 = .ok (.iaload, 1) := by decide +kernel
theorem dX7_checksum_43 : decode cX7_checksum 43 = .ok (.if_icmp .ge 39, 3) := by decide +kernel
theorem dX7_checksum_46 : decode cX7_checksum 46 = .ok (.iconst 0, 1) := by decide +kernel
theorem dX7_checksum_47 : decode cX7_checksum 47 = .ok (.istore 4, 2) := by decide +kernel
theorem dX7_checksum_49 : decode cX7_checksum 49 = .ok (.iload 4, 2) := by decide +kernel
theorem dX7_checksum_51 : decode cX7_checksum 51 = .ok (.iconst 3, 1) := by decide +kernel
theorem dX7_checksum_52 : decode cX7_checksum 52 = .ok (.if_icmp .ge 24, 3) := by decide +kernel
theorem dX7_checksum_55 : decode cX7_checksum 55 = .ok (.ldc2_w 306, 3) := by decide +kernel
theorem dX7_checksum_58 : decode cX7_checksum 58 = .ok (.lload_n 1, 1) := by decide +kernel
theorem dX7_checksum_59 : decode cX7_checksum 59 = .ok (.lmul, 1) := by decide +kernel
theorem dX7_checksum_60 : decode cX7_checksum 60 = .ok (.aload_n 0, 1) := by decide +kernel
theorem dX7_checksum_61 : decode cX7_checksum 61 = .ok (.iload_n 3, 1) := by decide +kernel
theorem dX7_checksum_62 : decode cX7_checksum 62 = .ok (.iload 4, 2) := by decide +kernel
theorem dX7_checksum_64 : decode cX7_checksum 64 = .ok (.invokevirtual 285, 3) := by decide +kernel
theorem dX7_checksum_67 : decode cX7_checksum 67 = .ok (.i2l, 1) := by decide +kernel
theorem dX7_checksum_68 : decode cX7_checksum 68 = .ok (.ladd, 1) := by decide +kernel
theorem dX7_checksum_69 : decode cX7_checksum 69 = .ok (.lstore_n 1, 1) := by decide +kernel
theorem dX7_checksum_70 : decode cX7_checksum 70 = .ok (.iinc 4 1, 3) := by decide +kernel
theorem dX7_checksum_73 : decode cX7_checksum 73 = .ok (.goto (-24), 3) := by decide +kernel
theorem dX7_checksum_76 : decode cX7_checksum 76 = .ok (.iinc 3 1, 3) := by decide +kernel
theorem dX7_checksum_79 : decode cX7_checksum 79 = .ok (.goto (-43), 3) := by decide +kernel
theorem dX7_checksum_82 : decode cX7_checksum 82 = .ok (.iconst 0, 1) := by decide +kernel
theorem dX7_checksum_83 : decode cX7_checksum 83 = .ok (.istore_n 3, 1) := by decide +kernel
theorem dX7_checksum_84 : decode cX7_checksum 84 = .ok (.iload_n 3, 1) := by decide +kernel
theorem dX7_checksum_85 : decode cX7_checksum 85 = .ok (.aload_n 0, 1) := by decide +kernel
theorem dX7_checksum_86 : decode cX7_checksum 86 = .ok (.getfield 17, 3) := by decide +kernel
theorem dX7_checksum_89 : decode cX7_checksum 89 = .ok (.iconst 3, 1) := by decide +kernel
theorem dX7_checksum_90 : decode cX7_checksum 90 = .ok (.iaload, 1) := by decide +kernel
theorem dX7_checksum_91 : decode cX7_checksum 91 = .ok (.if_icmp .ge 39, 3) := by decide +kernel
theorem dX7_checksum_94 : decode cX7_checksum 94 = .ok (.iconst 0, 1) := by decide +kernel
theorem dX7_checksum_95 : decode cX7_checksum 95 = .ok (.istore 4, 2) := by decide +kernel
theorem dX7_checksum_97 : decode cX7_checksum 97 = .ok (.iload 4, 2) := by decide +kernel
theorem dX7_checksum_99 : decode cX7_checksum 99 = .ok (.iconst 5, 1) := by decide +kernel
theorem dX7_checksum_100 : decode cX7_checksum 100 = .ok (.if_icmp .ge 24, 3) := by decide +kernel
theorem dX7_checksum_103 : decode cX7_checksum 103 = .ok (.ldc2_w 306, 3) := by decide +kernel
theorem dX7_checksum_106 : decode cX7_checksum 106 = .ok (.lload_n 1, 1) := by decide +kernel
theorem dX7_checksum_107 : decode cX7_checksum 107 = .ok (.lmul, 1) := by decide +kernel
theorem dX7_checksum_108 : decode cX7_checksum 108 = .ok (.aload_n 0, 1) := by decide +kernel
theorem dX7_checksum_109 : decode cX7_checksum 109 = .ok (.iload_n 3, 1) := by decide +kernel
theorem dX7_checksum_110 : decode cX7_checksum 110 = .ok (.iload 4, 2) := by decide +kernel
theorem dX7_checksum_112 : decode cX7_checksum 112 = .ok (.invokevirtual 291, 3) := by decide +kernel
theorem dX7_checksum_115 : decode cX7_checksum 115 = .ok (.i2l, 1) := by decide +kernel
theorem dX7_checksum_116 : decode cX7_checksum 116 = .ok (.ladd, 1) := by decide +kernel
theorem dX7_checksum_117 : decode cX7_checksum 117 = .ok (.lstore_n 1, 1) := by decide +kernel
theorem dX7_checksum_118 : decode cX7_checksum 118 = .ok (.iinc 4 1, 3) := by decide +kernel
theorem dX7_checksum_121 : decode cX7_checksum 121 = .ok (.goto (-24), 3) := by decide +kernel
theorem dX7_checksum_124 : decode cX7_checksum 124 = .ok (.iinc 3 1, 3) := by decide +kernel
theorem dX7_checksum_127 : decode cX7_checksum 127 = .ok (.goto (-43), 3) := by decide +kernel
theorem dX7_checksum_130 : decode cX7_checksum 130 = .ok (.iconst 0, 1) := by decide +kernel
theorem dX7_checksum_131 : decode cX7_checksum 131 = .ok (.istore_n 3, 1) := by decide +kernel
theorem dX7_checksum_132 : decode cX7_checksum 132 = .ok (.iload_n 3, 1) := by decide +kernel
theorem dX7_checksum_133 : decode cX7_checksum 133 = .ok (.aload_n 0, 1) := by decide +kernel
theorem dX7_checksum_134 : decode cX7_checksum 134 = .ok (.getfield 17, 3) := by decide +kernel
theorem dX7_checksum_137 : decode cX7_checksum 137 = .ok (.bipush 7, 2) := by decide +kernel
theorem dX7_checksum_139 : decode cX7_checksum 139 = .ok (.iaload, 1) := by decide +kernel
theorem dX7_checksum_140 : decode cX7_checksum 140 = .ok (.if_icmp .ge 40, 3) := by decide +kernel
theorem dX7_checksum_143 : decode cX7_checksum 143 = .ok (.iconst 0, 1) := by decide +kernel
theorem dX7_checksum_144 : decode cX7_checksum 144 = .ok (.istore 4, 2) := by decide +kernel
theorem dX7_checksum_146 : decode cX7_checksum 146 = .ok (.iload 4, 2) := by decide +kernel
theorem dX7_checksum_148 : decode cX7_checksum 148 = .ok (.bipush 7, 2) := by decide +kernel
theorem dX7_checksum_150 : decode cX7_checksum 150 = .ok (.if_icmp .ge 24, 3) := by decide +kernel
theorem dX7_checksum_153 : decode cX7_checksum 153 = .ok (.ldc2_w 306, 3) := by decide +kernel
theorem dX7_checksum_156 : decode cX7_checksum 156 = .ok (.lload_n 1, 1) := by decide +kernel
theorem dX7_checksum_157 : decode cX7_checksum 157 = .ok (.lmul, 1) := by decide +kernel
theorem dX7_checksum_158 : decode cX7_checksum 158 = .ok (.aload_n 0, 1) := by decide +kernel
theorem dX7_checksum_159 : decode cX7_checksum 159 = .ok (.iload_n 3, 1) := by decide +kernel
theorem dX7_checksum_160 : decode cX7_checksum 160 = .ok (.iload 4, 2) := by decide +kernel
theorem dX7_checksum_162 : decode cX7_checksum 162 = .ok (.invokevirtual 297, 3) := by decide +kernel
theorem dX7_checksum_165 : decode cX7_checksum 165 = .ok (.i2l, 1) := by decide +kernel
theorem dX7_checksum_166 : decode cX7_checksum 166 = .ok (.ladd, 1) := by decide +kernel
theorem dX7_checksum_167 : decode cX7_checksum 167 = .ok (.lstore_n 1, 1) := by decide +kernel
theorem dX7_checksum_168 : decode cX7_checksum 168 = .ok (.iinc 4 1, 3) := by decide +kernel
theorem dX7_checksum_171 : decode cX7_checksum 171 = .ok (.goto (-25), 3) := by decide +kernel
theorem dX7_checksum_174 : decode cX7_checksum 174 = .ok (.iinc 3 1, 3) := by decide +kernel
theorem dX7_checksum_177 : decode cX7_checksum 177 = .ok (.goto (-45), 3) := by decide +kernel
theorem dX7_checksum_180 : decode cX7_checksum 180 = .ok (.lload_n 1, 1) := by decide +kernel
theorem dX7_checksum_181 : decode cX7_checksum 181 = .ok (.lreturn, 1) := by decide +kernel
theorem dJ9_abs_0f7a4_0 : decode cJ9_abs_0f7a4 0 = .ok (.iload_n 0, 1) := by decide +kernel
theorem dJ9_abs_0f7a4_1 : decode cJ9_abs_0f7a4 1 = .ok (.ifCond .ge 8, 3) := by decide +kernel
theorem dJ9_abs_0f7a4_4 : decode cJ9_abs_0f7a4 4 = .ok (.iload_n 0, 1) := by decide +kernel
theorem dJ9_abs_0f7a4_5 : decode cJ9_abs_0f7a4 5 = .ok (.ineg, 1) := by decide +kernel
theorem dJ9_abs_0f7a4_6 : decode cJ9_abs_0f7a4 6 = .ok (.goto 4, 3) := by decide +kernel
theorem dJ9_abs_0f7a4_9 : decode cJ9_abs_0f7a4 9 = .ok (.iload_n 0, 1) := by decide +kernel
theorem dJ9_abs_0f7a4_10 : decode cJ9_abs_0f7a4 10 = .ok (.ireturn, 1) := by decide +kernel
theorem dJ9_max_7cf53_0 : decode cJ9_max_7cf53 0 = .ok (.iload_n 0, 1) := by decide +kernel
theorem dJ9_max_7cf53_1 : decode cJ9_max_7cf53 1 = .ok (.iload_n 1, 1) := by decide +kernel
theorem dJ9_max_7cf53_2 : decode cJ9_max_7cf53 2 = .ok (.if_icmp .lt 7, 3) := by decide +kernel
theorem dJ9_max_7cf53_5 : decode cJ9_max_7cf53 5 = .ok (.iload_n 0, 1) := by decide +kernel
theorem dJ9_max_7cf53_6 : decode cJ9_max_7cf53 6 = .ok (.goto 4, 3) := by decide +kernel
theorem dJ9_max_7cf53_9 : decode cJ9_max_7cf53 9 = .ok (.iload_n 1, 1) := by decide +kernel
theorem dJ9_max_7cf53_10 : decode cJ9_max_7cf53 10 = .ok (.ireturn, 1) := by decide +kernel
theorem dJ9_max_f86c9_0 : decode cJ9_max_f86c9 0 = .ok (.lload_n 0, 1) := by decide +kernel
theorem dJ9_max_f86c9_1 : decode cJ9_max_f86c9 1 = .ok (.lload_n 2, 1) := by decide +kernel
theorem dJ9_max_f86c9_2 : decode cJ9_max_f86c9 2 = .ok (.lcmp, 1) := by decide +kernel
theorem dJ9_max_f86c9_3 : decode cJ9_max_f86c9 3 = .ok (.ifCond .lt 7, 3) := by decide +kernel
theorem dJ9_max_f86c9_6 : decode cJ9_max_f86c9 6 = .ok (.lload_n 0, 1) := by decide +kernel
theorem dJ9_max_f86c9_7 : decode cJ9_max_f86c9 7 = .ok (.goto 4, 3) := by decide +kernel
theorem dJ9_max_f86c9_10 : decode cJ9_max_f86c9 10 = .ok (.lload_n 2, 1) := by decide +kernel
theorem dJ9_max_f86c9_11 : decode cJ9_max_f86c9 11 = .ok (.lreturn, 1) := by decide +kernel
theorem dJ9_min_7cf53_0 : decode cJ9_min_7cf53 0 = .ok (.iload_n 0, 1) := by decide +kernel
theorem dJ9_min_7cf53_1 : decode cJ9_min_7cf53 1 = .ok (.iload_n 1, 1) := by decide +kernel
theorem dJ9_min_7cf53_2 : decode cJ9_min_7cf53 2 = .ok (.if_icmp .gt 7, 3) := by decide +kernel
theorem dJ9_min_7cf53_5 : decode cJ9_min_7cf53 5 = .ok (.iload_n 0, 1) := by decide +kernel
theorem dJ9_min_7cf53_6 : decode cJ9_min_7cf53 6 = .ok (.goto 4, 3) := by decide +kernel
theorem dJ9_min_7cf53_9 : decode cJ9_min_7cf53 9 = .ok (.iload_n 1, 1) := by decide +kernel
theorem dJ9_min_7cf53_10 : decode cJ9_min_7cf53 10 = .ok (.ireturn, 1) := by decide +kernel
theorem dJ9_min_f86c9_0 : decode cJ9_min_f86c9 0 = .ok (.lload_n 0, 1) := by decide +kernel
theorem dJ9_min_f86c9_1 : decode cJ9_min_f86c9 1 = .ok (.lload_n 2, 1) := by decide +kernel
theorem dJ9_min_f86c9_2 : decode cJ9_min_f86c9 2 = .ok (.lcmp, 1) := by decide +kernel
theorem dJ9_min_f86c9_3 : decode cJ9_min_f86c9 3 = .ok (.ifCond .gt 7, 3) := by decide +kernel
theorem dJ9_min_f86c9_6 : decode cJ9_min_f86c9 6 = .ok (.lload_n 0, 1) := by decide +kernel
theorem dJ9_min_f86c9_7 : decode cJ9_min_f86c9 7 = .ok (.goto 4, 3) := by decide +kernel
theorem dJ9_min_f86c9_10 : decode cJ9_min_f86c9 10 = .ok (.lload_n 2, 1) := by decide +kernel
theorem dJ9_min_f86c9_11 : decode cJ9_min_f86c9 11 = .ok (.lreturn, 1) := by decide +kernel
set_option maxRecDepth 20000 in
theorem ggJ0_length_8abf5_J0_coder_7d493 : GoodIn wsJ0_length_8abf5 wsJ0_coder_7d493 := goodIn_r _ [6, 7, 8] (by decide +kernel) (by decide +kernel)
set_option maxRecDepth 20000 in
theorem gJ0_length_8abf5_J0_coder_7d493 : GoodIn wsJ0_length_8abf5 (wsV RJ0 335 RJ0 yJ0_coder_7d493 wsJ0_coder_7d493) := goodIn_app (goodIn_of _ (by decide +kernel)) ggJ0_length_8abf5_J0_coder_7d493
theorem dJ0_length_8abf5_0 : decode cJ0_length_8abf5 0 = .ok (.aload_n 0, 1) := by decide +kernel
theorem dJ0_length_8abf5_1 : decode cJ0_length_8abf5 1 = .ok (.getfield 9, 3) := by decide +kernel
theorem dJ0_length_8abf5_4 : decode cJ0_length_8abf5 4 = .ok (.arraylength, 1) := by decide +kernel
theorem dJ0_length_8abf5_5 : decode cJ0_length_8abf5 5 = .ok (.aload_n 0, 1) := by decide +kernel
theorem dJ0_length_8abf5_6 : decode cJ0_length_8abf5 6 = .ok (.invokevirtual 335, 3) := by decide +kernel
theorem dJ0_length_8abf5_9 : decode cJ0_length_8abf5 9 = .ok (.ishr, 1) := by decide +kernel
theorem dJ0_length_8abf5_10 : decode cJ0_length_8abf5 10 = .ok (.ireturn, 1) := by decide +kernel
set_option maxRecDepth 20000 in
theorem ggJ0_charAt_5068e_J0_isLatin1_aae02 : GoodIn wsJ0_charAt_5068e wsJ0_isLatin1_aae02 := goodIn_r _ [6, 7, 8] (by decide +kernel) (by decide +kernel)
set_option maxRecDepth 20000 in
theorem gJ0_charAt_5068e_J0_isLatin1_aae02 : GoodIn wsJ0_charAt_5068e (wsV RJ0 492 RJ0 yJ0_isLatin1_aae02 wsJ0_isLatin1_aae02) := goodIn_app (goodIn_of _ (by decide +kernel)) ggJ0_charAt_5068e_J0_isLatin1_aae02
set_option maxRecDepth 20000 in
theorem ggJ0_charAt_5068e_J1_charAt_3b067 : GoodIn wsJ0_charAt_5068e wsJ1_charAt_3b067 := goodIn_r _ [12, 13, 14, 5, 15, 16, 17, 18, 19, 20] (by decide +kernel) (by decide +kernel)
set_option maxRecDepth 20000 in
theorem gJ0_charAt_5068e_J1_charAt_3b067 : GoodIn wsJ0_charAt_5068e (va_wsS RJ0 495 yJ1_charAt_3b067 wsJ1_charAt_3b067) := goodIn_app (goodIn_of _ (by decide +kernel)) ggJ0_charAt_5068e_J1_charAt_3b067
set_option maxRecDepth 20000 in
theorem ggJ0_charAt_5068e_J2_charAt_3b067 : GoodIn wsJ0_charAt_5068e wsJ2_charAt_3b067 := goodIn_r _ [24, 25, 26, 23, 27, 28, 29, 30, 31, 14, 5, 15, 16, 17, 18, 19, 20, 32, 33, 34, 35, 36, 37] (by decide +kernel) (by decide +kernel)
set_option maxRecDepth 20000 in
theorem gJ0_charAt_5068e_J2_charAt_3b067 : GoodIn wsJ0_charAt_5068e (va_wsS RJ0 498 yJ2_charAt_3b067 wsJ2_charAt_3b067) := goodIn_app (goodIn_of _ (by decide +kernel)) ggJ0_charAt_5068e_J2_charAt_3b067
theorem dJ0_charAt_5068e_0 : decode cJ0_charAt_5068e 0 = .ok (.aload_n 0, 1) := by decide +kernel
theorem dJ0_charAt_5068e_1 : decode cJ0_charAt_5068e 1 = .ok (.invokevirtual 492, 3) := by decide +kernel
theorem dJ0_charAt_5068e_4 : decode cJ0_charAt_5068e 4 = .ok (.ifCond .eq 12, 3) := by decide +kernel
theorem dJ0_charAt_5068e_7 : decode cJ0_charAt_5068e 7 = .ok (.aload_n 0, 1) := by decide +kernel
theorem dJ0_charAt_5068e_8 : decode cJ0_charAt_5068e 8 = .ok (.getfield 9, 3) := by decide +kernel
theorem dJ0_charAt_5068e_11 : decode cJ0_charAt_5068e 11 = .ok (.iload_n 1, 1) := by decide +kernel
theorem dJ0_charAt_5068e_12 : decode cJ0_charAt_5068e 12 = .ok (.invokestatic 495, 3) := by decide +kernel
theorem dJ0_charAt_5068e_15 : decode cJ0_charAt_5068e 15 = .ok (.ireturn, 1) := by decide +kernel
theorem dJ0_charAt_5068e_16 : decode cJ0_charAt_5068e 16 = .ok (.aload_n 0, 1) := by decide +kernel
theorem dJ0_charAt_5068e_17 : decode cJ0_charAt_5068e 17 = .ok (.getfield 9, 3) := by decide +kernel
theorem dJ0_charAt_5068e_20 : decode cJ0_charAt_5068e 20 = .ok (.iload_n 1, 1) := by decide +kernel
theorem dJ0_charAt_5068e_21 : decode cJ0_charAt_5068e 21 = .ok (.invokestatic 498, 3) := by decide +kernel
theorem dJ0_charAt_5068e_24 : decode cJ0_charAt_5068e 24 = .ok (.ireturn, 1) := by decide +kernel
theorem dJ0_coder_7d493_0 : decode cJ0_coder_7d493 0 = .ok (.getstatic 38, 3) := by decide +kernel
theorem dJ0_coder_7d493_3 : decode cJ0_coder_7d493 3 = .ok (.ifCond .eq 10, 3) := by decide +kernel
theorem dJ0_coder_7d493_6 : decode cJ0_coder_7d493 6 = .ok (.aload_n 0, 1) := by decide +kernel
theorem dJ0_coder_7d493_7 : decode cJ0_coder_7d493 7 = .ok (.getfield 15, 3) := by decide +kernel
theorem dJ0_coder_7d493_10 : decode cJ0_coder_7d493 10 = .ok (.goto 4, 3) := by decide +kernel
theorem dJ0_coder_7d493_13 : decode cJ0_coder_7d493 13 = .ok (.iconst 1, 1) := by decide +kernel
theorem dJ0_coder_7d493_14 : decode cJ0_coder_7d493 14 = .ok (.ireturn, 1) := by decide +kernel
theorem dJ0_isLatin1_aae02_0 : decode cJ0_isLatin1_aae02 0 = .ok (.getstatic 38, 3) := by decide +kernel
theorem dJ0_isLatin1_aae02_3 : decode cJ0_isLatin1_aae02 3 = .ok (.ifCond .eq 14, 3) := by decide +kernel
theorem dJ0_isLatin1_aae02_6 : decode cJ0_isLatin1_aae02 6 = .ok (.aload_n 0, 1) := by decide +kernel
theorem dJ0_isLatin1_aae02_7 : decode cJ0_isLatin1_aae02 7 = .ok (.getfield 15, 3) := by decide +kernel
theorem dJ0_isLatin1_aae02_10 : decode cJ0_isLatin1_aae02 10 = .ok (.ifCond .ne 7, 3) := by decide +kernel
theorem dJ0_isLatin1_aae02_13 : decode cJ0_isLatin1_aae02 13 = .ok (.iconst 1, 1) := by decide +kernel
theorem dJ0_isLatin1_aae02_14 : decode cJ0_isLatin1_aae02 14 = .ok (.goto 4, 3) := by decide +kernel
theorem dJ0_isLatin1_aae02_17 : decode cJ0_isLatin1_aae02 17 = .ok (.iconst 0, 1) := by decide +kernel
theorem dJ0_isLatin1_aae02_18 : decode cJ0_isLatin1_aae02 18 = .ok (.ireturn, 1) := by decide +kernel
set_option maxRecDepth 20000 in
theorem ggJ0_checkIndex_df160_J3_checkIndex_8e157 : GoodIn wsJ0_checkIndex_df160 wsJ3_checkIndex_8e157 := goodIn_r _ [5] (by decide +kernel) (by decide +kernel)
set_option maxRecDepth 20000 in
theorem gJ0_checkIndex_df160_J3_checkIndex_8e157 : GoodIn wsJ0_checkIndex_df160 (va_wsS RJ0 1059 yJ3_checkIndex_8e157 wsJ3_checkIndex_8e157) := goodIn_app (goodIn_of _ (by decide +kernel)) ggJ0_checkIndex_df160_J3_checkIndex_8e157
theorem dJ0_checkIndex_df160_0 : decode cJ0_checkIndex_df160 0 = .ok (.iload_n 0, 1) := by decide +kernel
theorem dJ0_checkIndex_df160_1 : decode cJ0_checkIndex_df160 1 = .ok (.iload_n 1, 1) := by decide +kernel
theorem dJ0_checkIndex_df160_2 : decode cJ0_checkIndex_df160 2 = .ok (.getstatic 1053, 3) := by decide +kernel
theorem dJ0_checkIndex_df160_5 : decode cJ0_checkIndex_df160 5 = .ok (.invokestatic 1059, 3) := by decide +kernel
theorem dJ0_checkIndex_df160_8 : decode cJ0_checkIndex_df160 8 = .ok (.pop, 1) := by decide +kernel
theorem dJ0_checkIndex_df160_9 : decode cJ0_checkIndex_df160 9 = .ok (.return_, 1) := by decide +kernel
set_option maxRecDepth 20000 in
theorem ggJ1_charAt_3b067_J0_checkIndex_df160 : GoodIn wsJ1_charAt_3b067 wsJ0_checkIndex_df160 := goodIn_r _ [4, 5, 6, 7, 8, 9] (by decide +kernel) (by decide +kernel)
set_option maxRecDepth 20000 in
theorem gJ1_charAt_3b067_J0_checkIndex_df160 : GoodIn wsJ1_charAt_3b067 (va_wsS RJ1 9 yJ0_checkIndex_df160 wsJ0_checkIndex_df160) := goodIn_app (goodIn_of _ (by decide +kernel)) ggJ1_charAt_3b067_J0_checkIndex_df160
theorem dJ1_charAt_3b067_0 : decode cJ1_charAt_3b067 0 = .ok (.iload_n 1, 1) := by decide +kernel
theorem dJ1_charAt_3b067_1 : decode cJ1_charAt_3b067 1 = .ok (.aload_n 0, 1) := by decide +kernel
theorem dJ1_charAt_3b067_2 : decode cJ1_charAt_3b067 2 = .ok (.arraylength, 1) := by decide +kernel
theorem dJ1_charAt_3b067_3 : decode cJ1_charAt_3b067 3 = .ok (.invokestatic 9, 3) := by decide +kernel
theorem dJ1_charAt_3b067_6 : decode cJ1_charAt_3b067 6 = .ok (.aload_n 0, 1) := by decide +kernel
theorem dJ1_charAt_3b067_7 : decode cJ1_charAt_3b067 7 = .ok (.iload_n 1, 1) := by decide +kernel
theorem dJ1_charAt_3b067_8 : decode cJ1_charAt_3b067 8 = .ok (.baload, 1) := by decide +kernel
theorem dJ1_charAt_3b067_9 : decode cJ1_charAt_3b067 9 = .ok (.sipush 255, 3) := by decide +kernel
theorem dJ1_charAt_3b067_12 : decode cJ1_charAt_3b067 12 = .ok (.iand, 1) := by decide +kernel
theorem dJ1_charAt_3b067_13 : decode cJ1_charAt_3b067 13 = .ok (.i2c, 1) := by decide +kernel
theorem dJ1_charAt_3b067_14 : decode cJ1_charAt_3b067 14 = .ok (.ireturn, 1) := by decide +kernel
set_option maxRecDepth 20000 in
theorem ggJ2_getChar_3b067_J2_length_9d52b : GoodIn wsJ2_getChar_3b067 wsJ2_length_9d52b := goodIn_r _ [7] (by decide +kernel) (by decide +kernel)
set_option maxRecDepth 20000 in
theorem gJ2_getChar_3b067_J2_length_9d52b : GoodIn wsJ2_getChar_3b067 (va_wsS RJ2 48 yJ2_length_9d52b wsJ2_length_9d52b) := goodIn_app (goodIn_of _ (by decide +kernel)) ggJ2_getChar_3b067_J2_length_9d52b
theorem dJ2_getChar_3b067_0 : decode cJ2_getChar_3b067 0 = .ok (.getstatic 44, 3) := by decide +kernel
theorem dJ2_getChar_3b067_3 : decode cJ2_getChar_3b067 3 = .ok (.ifCond .ne 25, 3) := by decide +kernel
theorem dJ2_getChar_3b067_6 : decode cJ2_getChar_3b067 6 = .ok (.iload_n 1, 1) := by decide +kernel
theorem dJ2_getChar_3b067_7 : decode cJ2_getChar_3b067 7 = .ok (.ifCond .lt 11, 3) := by decide +kernel
theorem dJ2_getChar_3b067_10 : decode cJ2_getChar_3b067 10 = .ok (.iload_n 1, 1) := by decide +kernel
theorem dJ2_getChar_3b067_11 : decode cJ2_getChar_3b067 11 = .ok (.aload_n 0, 1) := by decide +kernel
theorem dJ2_getChar_3b067_12 : decode cJ2_getChar_3b067 12 = .ok (.invokestatic 48, 3) := by decide +kernel
theorem dJ2_getChar_3b067_15 : decode cJ2_getChar_3b067 15 = .ok (.if_icmp .lt 13, 3) := by decide +kernel
theorem dJ2_getChar_3b067_18 : decode cJ2_getChar_3b067 18 = .ok (.new 52, 3) := by decide +kernel
theorem dJ2_getChar_3b067_21 : decode cJ2_getChar_3b067 21 = .ok (.dup, 1) := by decide +kernel
theorem dJ2_getChar_3b067_22 : decode cJ2_getChar_3b067 22 = .ok (.ldc 54, 2) := by decide +kernel
theorem dJ2_getChar_3b067_24 : decode cJ2_getChar_3b067 24 = .ok (.invokespecial 56, 3) := by decide +kernel
theorem dJ2_getChar_3b067_27 : decode cJ2_getChar_3b067 27 = .ok (.athrow, 1) := by decide +kernel
theorem dJ2_getChar_3b067_28 : decode cJ2_getChar_3b067 28 = .ok (.iload_n 1, 1) := by decide +kernel
theorem dJ2_getChar_3b067_29 : decode cJ2_getChar_3b067 29 = .ok (.iconst 1, 1) := by decide +kernel
theorem dJ2_getChar_3b067_30 : decode cJ2_getChar_3b067 30 = .ok (.ishl, 1) := by decide +kernel
theorem dJ2_getChar_3b067_31 : decode cJ2_getChar_3b067 31 = .ok (.istore_n 1, 1) := by decide +kernel
theorem dJ2_getChar_3b067_32 : decode cJ2_getChar_3b067 32 = .ok (.aload_n 0, 1) := by decide +kernel
theorem dJ2_getChar_3b067_33 : decode cJ2_getChar_3b067 33 = .ok (.iload_n 1, 1) := by decide +kernel
theorem dJ2_getChar_3b067_34 : decode cJ2_getChar_3b067 34 = .ok (.iinc 1 1, 3) := by decide +kernel
theorem dJ2_getChar_3b067_37 : decode cJ2_getChar_3b067 37 = .ok (.baload, 1) := by decide +kernel
theorem dJ2_getChar_3b067_38 : decode cJ2_getChar_3b067 38 = .ok (.sipush 255, 3) := by decide +kernel
theorem dJ2_getChar_3b067_41 : decode cJ2_getChar_3b067 41 = .ok (.iand, 1) := by decide +kernel
theorem dJ2_getChar_3b067_42 : decode cJ2_getChar_3b067 42 = .ok (.getstatic 59, 3) := by decide +kernel
theorem dJ2_getChar_3b067_45 : decode cJ2_getChar_3b067 45 = .ok (.ishl, 1) := by decide +kernel
theorem dJ2_getChar_3b067_46 : decode cJ2_getChar_3b067 46 = .ok (.aload_n 0, 1) := by decide +kernel
theorem dJ2_getChar_3b067_47 : decode cJ2_getChar_3b067 47 = .ok (.iload_n 1, 1) := by decide +kernel
theorem dJ2_getChar_3b067_48 : decode cJ2_getChar_3b067 48 = .ok (.baload, 1) := by decide +kernel
theorem dJ2_getChar_3b067_49 : decode cJ2_getChar_3b067 49 = .ok (.sipush 255, 3) := by decide +kernel
theorem dJ2_getChar_3b067_52 : decode cJ2_getChar_3b067 52 = .ok (.iand, 1) := by decide +kernel
theorem dJ2_getChar_3b067_53 : decode cJ2_getChar_3b067 53 = .ok (.getstatic 63, 3) := by decide +kernel
theorem dJ2_getChar_3b067_56 : decode cJ2_getChar_3b067 56 = .ok (.ishl, 1) := by decide +kernel
theorem dJ2_getChar_3b067_57 : decode cJ2_getChar_3b067 57 = .ok (.ior, 1) := by decide +kernel
theorem dJ2_getChar_3b067_58 : decode cJ2_getChar_3b067 58 = .ok (.i2c, 1) := by decide +kernel
theorem dJ2_getChar_3b067_59 : decode cJ2_getChar_3b067 59 = .ok (.ireturn, 1) := by decide +kernel
theorem dJ2_length_9d52b_0 : decode cJ2_length_9d52b 0 = .ok (.aload_n 0, 1) := by decide +kernel
theorem dJ2_length_9d52b_1 : decode cJ2_length_9d52b 1 = .ok (.arraylength, 1) := by decide +kernel
theorem dJ2_length_9d52b_2 : decode cJ2_length_9d52b 2 = .ok (.iconst 1, 1) := by decide +kernel
theorem dJ2_length_9d52b_3 : decode cJ2_length_9d52b 3 = .ok (.ishr, 1) := by decide +kernel
theorem dJ2_length_9d52b_4 : decode cJ2_length_9d52b 4 = .ok (.ireturn, 1) := by decide +kernel
set_option maxRecDepth 20000 in
theorem ggJ2_charAt_3b067_J2_checkIndex_2214a : GoodIn wsJ2_charAt_3b067 wsJ2_checkIndex_2214a := goodIn_r _ [4, 5, 6, 3, 7, 8, 9, 10, 11, 12, 13, 14, 15, 16] (by decide +kernel) (by decide +kernel)
set_option maxRecDepth 20000 in
theorem gJ2_charAt_3b067_J2_checkIndex_2214a : GoodIn wsJ2_charAt_3b067 (va_wsS RJ2 67 yJ2_checkIndex_2214a wsJ2_checkIndex_2214a) := goodIn_app (goodIn_of _ (by decide +kernel)) ggJ2_charAt_3b067_J2_checkIndex_2214a
set_option maxRecDepth 20000 in
theorem ggJ2_charAt_3b067_J2_getChar_3b067 : GoodIn wsJ2_charAt_3b067 wsJ2_getChar_3b067 := goodIn_r _ [19, 20, 21, 22, 5, 6, 3, 7] (by decide +kernel) (by decide +kernel)
set_option maxRecDepth 20000 in
theorem gJ2_charAt_3b067_J2_getChar_3b067 : GoodIn wsJ2_charAt_3b067 (va_wsS RJ2 71 yJ2_getChar_3b067 wsJ2_getChar_3b067) := goodIn_app (goodIn_of _ (by decide +kernel)) ggJ2_charAt_3b067_J2_getChar_3b067
theorem dJ2_charAt_3b067_0 : decode cJ2_charAt_3b067 0 = .ok (.iload_n 1, 1) := by decide +kernel
theorem dJ2_charAt_3b067_1 : decode cJ2_charAt_3b067 1 = .ok (.aload_n 0, 1) := by decide +kernel
theorem dJ2_charAt_3b067_2 : decode cJ2_charAt_3b067 2 = .ok (.invokestatic 67, 3) := by decide +kernel
theorem dJ2_charAt_3b067_5 : decode cJ2_charAt_3b067 5 = .ok (.aload_n 0, 1) := by decide +kernel
theorem dJ2_charAt_3b067_6 : decode cJ2_charAt_3b067 6 = .ok (.iload_n 1, 1) := by decide +kernel
theorem dJ2_charAt_3b067_7 : decode cJ2_charAt_3b067 7 = .ok (.invokestatic 71, 3) := by decide +kernel
theorem dJ2_charAt_3b067_10 : decode cJ2_charAt_3b067 10 = .ok (.ireturn, 1) := by decide +kernel
set_option maxRecDepth 20000 in
theorem ggJ2_checkIndex_2214a_J2_length_9d52b : GoodIn wsJ2_checkIndex_2214a wsJ2_length_9d52b := goodIn_r _ [4] (by decide +kernel) (by decide +kernel)
set_option maxRecDepth 20000 in
theorem gJ2_checkIndex_2214a_J2_length_9d52b : GoodIn wsJ2_checkIndex_2214a (va_wsS RJ2 48 yJ2_length_9d52b wsJ2_length_9d52b) := goodIn_app (goodIn_of _ (by decide +kernel)) ggJ2_checkIndex_2214a_J2_length_9d52b
set_option maxRecDepth 20000 in
theorem ggJ2_checkIndex_2214a_J0_checkIndex_df160 : GoodIn wsJ2_checkIndex_2214a wsJ0_checkIndex_df160 := goodIn_r _ [8, 9, 10, 11, 12, 13] (by decide +kernel) (by decide +kernel)
set_option maxRecDepth 20000 in
theorem gJ2_checkIndex_2214a_J0_checkIndex_df160 : GoodIn wsJ2_checkIndex_2214a (va_wsS RJ2 414 yJ0_checkIndex_df160 wsJ0_checkIndex_df160) := goodIn_app (goodIn_of _ (by decide +kernel)) ggJ2_checkIndex_2214a_J0_checkIndex_df160
theorem dJ2_checkIndex_2214a_0 : decode cJ2_checkIndex_2214a 0 = .ok (.iload_n 0, 1) := by decide +kernel
theorem dJ2_checkIndex_2214a_1 : decode cJ2_checkIndex_2214a 1 = .ok (.aload_n 1, 1) := by decide +kernel
theorem dJ2_checkIndex_2214a_2 : decode cJ2_checkIndex_2214a 2 = .ok (.invokestatic 48, 3) := by decide +kernel
theorem dJ2_checkIndex_2214a_5 : decode cJ2_checkIndex_2214a 5 = .ok (.invokestatic 414, 3) := by decide +kernel
theorem dJ2_checkIndex_2214a_8 : decode cJ2_checkIndex_2214a 8 = .ok (.return_, 1) := by decide +kernel
theorem dJ7_fill_53178_0 : decode cJ7_fill_53178 0 = .ok (.iconst 0, 1) := by decide +kernel
theorem dJ7_fill_53178_1 : decode cJ7_fill_53178 1 = .ok (.istore_n 2, 1) := by decide +kernel
theorem dJ7_fill_53178_2 : decode cJ7_fill_53178 2 = .ok (.aload_n 0, 1) := by decide +kernel
theorem dJ7_fill_53178_3 : decode cJ7_fill_53178 3 = .ok (.arraylength, 1) := by decide +kernel
theorem dJ7_fill_53178_4 : decode cJ7_fill_53178 4 = .ok (.istore_n 3, 1) := by decide +kernel
theorem dJ7_fill_53178_5 : decode cJ7_fill_53178 5 = .ok (.iload_n 2, 1) := by decide +kernel
theorem dJ7_fill_53178_6 : decode cJ7_fill_53178 6 = .ok (.iload_n 3, 1) := by decide +kernel
theorem dJ7_fill_53178_7 : decode cJ7_fill_53178 7 = .ok (.if_icmp .ge 13, 3) := by decide +kernel
theorem dJ7_fill_53178_10 : decode cJ7_fill_53178 10 = .ok (.aload_n 0, 1) := by decide +kernel
theorem dJ7_fill_53178_11 : decode cJ7_fill_53178 11 = .ok (.iload_n 2, 1) := by decide +kernel
theorem dJ7_fill_53178_12 : decode cJ7_fill_53178 12 = .ok (.iload_n 1, 1) := by decide +kernel
theorem dJ7_fill_53178_13 : decode cJ7_fill_53178 13 = .ok (.iastore, 1) := by decide +kernel
theorem dJ7_fill_53178_14 : decode cJ7_fill_53178 14 = .ok (.iinc 2 1, 3) := by decide +kernel
theorem dJ7_fill_53178_17 : decode cJ7_fill_53178 17 = .ok (.goto (-12), 3) := by decide +kernel
theorem dJ7_fill_53178_20 : decode cJ7_fill_53178 20 = .ok (.return_, 1) := by decide +kernel
theorem dJ3_checkIndex_8e157_0 : decode cJ3_checkIndex_8e157 0 = .ok (.iload_n 0, 1) := by decide +kernel
theorem dJ3_checkIndex_8e157_1 : decode cJ3_checkIndex_8e157 1 = .ok (.ifCond .lt 8, 3) := by decide +kernel
theorem dJ3_checkIndex_8e157_4 : decode cJ3_checkIndex_8e157 4 = .ok (.iload_n 0, 1) := by decide +kernel
theorem dJ3_checkIndex_8e157_5 : decode cJ3_checkIndex_8e157 5 = .ok (.iload_n 1, 1) := by decide +kernel
theorem dJ3_checkIndex_8e157_6 : decode cJ3_checkIndex_8e157 6 = .ok (.if_icmp .lt 10, 3) := by decide +kernel
theorem dJ3_checkIndex_8e157_9 : decode cJ3_checkIndex_8e157 9 = .ok (.aload_n 2, 1) := by decide +kernel
theorem dJ3_checkIndex_8e157_10 : decode cJ3_checkIndex_8e157 10 = .ok (.iload_n 0, 1) := by decide +kernel
theorem dJ3_checkIndex_8e157_11 : decode cJ3_checkIndex_8e157 11 = .ok (.iload_n 1, 1) := by decide +kernel
theorem dJ3_checkIndex_8e157_12 : decode cJ3_checkIndex_8e157 12 = .ok (.invokestatic 95, 3) := by decide +kernel
theorem dJ3_checkIndex_8e157_15 : decode cJ3_checkIndex_8e157 15 = .ok (.athrow, 1) := by decide +kernel
theorem dJ3_checkIndex_8e157_16 : decode cJ3_checkIndex_8e157 16 = .ok (.iload_n 0, 1) := by decide +kernel
theorem dJ3_checkIndex_8e157_17 : decode cJ3_checkIndex_8e157 17 = .ok (.ireturn, 1) := by decide +kernel
set_option maxRecDepth 20000 in
theorem ggL_load_X6_load : GoodIn wsL_load wsX6_load := goodIn_ca (goodIn_r _ [6, 7, 8, 9, 10, 11, 12, 13, 14, 15, 16, 17, 18, 19, 20, 21, 22, 23, 24, 25, 26, 27, 28, 29, 30, 31, 32, 33, 34, 35, 36, 37, 38, 39, 40, 41, 42, 43, 44, 45, 46, 47, 48, 49, 50, 51, 52, 53, 54, 55, 56, 57, 58, 59, 60, 61, 62, 63, 64, 65, 66, 67, 68, 69, 70, 71, 72, 73, 74, 75, 76, 77, 78, 79, 80, 81, 82, 83, 84, 85, 86, 87, 88, 89, 90, 91, 92, 93, 94, 95, 96, 97, 98, 99, 100, 101, 102, 103, 104, 105, 106, 107, 108, 109, 110, 111, 112, 113, 114, 115, 116, 117, 118, 119, 120, 121, 122, 123, 124, 125, 126, 127, 128, 129, 130, 131, 132, 133, 134, 135, 136, 137, 138, 139, 140, 141, 142, 143, 144, 145, 146, 147, 148, 149, 150, 151, 152, 153, 154, 155, 156, 157, 158, 159, 160, 161, 162, 163, 164, 165, 166, 167, 168, 169, 170, 171, 172, 173, 174, 175, 176, 177, 178, 179, 180, 181, 182, 183, 184, 185, 186, 187, 188, 189, 190, 191, 192, 193, 194, 195, 196, 197, 198, 199, 200, 201, 202, 203, 204, 205, 206, 207, 208, 209, 210, 211, 212, 213, 214, 215, 216, 217, 218, 219, 220, 221, 222, 223, 224, 225, 226, 227, 228, 229, 230, 231, 232, 233, 234, 235, 236, 237, 238, 239, 240, 241, 242, 243, 244, 245, 246, 247, 248, 249, 250, 251, 252, 253, 254, 255, 256, 257, 258, 259, 260, 261, 262, 263, 264, 265, 266, 267, 268, 269, 270, 271, 272, 273, 274, 5, 275, 276, 277, 278, 279, 280, 281, 282, 283, 284, 285, 286, 287, 288, 289, 290, 291, 292, 293, 294, 295, 296, 297, 298, 299, 300, 301, 302, 303, 304, 305, 306, 307, 308, 309, 310, 311, 312, 313, 314, 315, 316, 317, 318, 319, 320, 321, 322, 323, 324, 325, 326, 327, 328, 329, 330, 331, 332, 333, 334, 335, 336, 337, 338, 339, 340, 341, 342, 343, 344, 345, 346, 347, 348, 349, 350, 351, 352, 353, 354, 355, 356, 357, 358, 359, 360, 361, 362, 363, 364, 365, 366, 367, 368, 369, 370, 371, 372, 373, 374, 375, 376, 377, 378, 379, 380, 381, 382, 383, 384, 385, 386, 387, 388, 389, 390, 391, 392] (by decide +kernel) (by decide +kernel)) (goodIn_sub (fun _ h => List.mem_cons_of_mem _ (List.mem_append_right _ h)) (by decide +kernel))
set_option maxRecDepth 20000 in
theorem gL_load_X6_load : GoodIn wsL_load (wsV RL 7 RX6 yX6_load wsX6_load) := goodIn_app (goodIn_of _ (by decide +kernel)) ggL_load_X6_load
theorem dL_load_0 : decode cL_load 0 = .ok (.aload_n 2, 1) := by decide +kernel
theorem dL_load_1 : decode cL_load 1 = .ok (.iconst 0, 1) := by decide +kernel
theorem dL_load_2 : decode cL_load 2 = .ok (.aload_n 0, 1) := by decide +kernel
theorem dL_load_3 : decode cL_load 3 = .ok (.iload_n 1, 1) := by decide +kernel
theorem dL_load_4 : decode cL_load 4 = .ok (.invokevirtual 7, 3) := by decide +kernel
theorem dL_load_7 : decode cL_load 7 = .ok (.i2l, 1) := by decide +kernel
theorem dL_load_8 : decode cL_load 8 = .ok (.lastore, 1) := by decide +kernel
theorem dL_load_9 : decode cL_load 9 = .ok (.goto 6, 3) := by decide +kernel
theorem dL_load_12 : decode cL_load 12 = .ok (.astore_n 3, 1) := by decide +kernel
theorem dL_load_13 : decode cL_load 13 = .ok (.iconst 1, 1) := by decide +kernel
theorem dL_load_14 : decode cL_load 14 = .ok (.ireturn, 1) := by decide +kernel
theorem dL_load_15 : decode cL_load 15 = .ok (.iconst 0, 1) := by decide +kernel
theorem dL_load_16 : decode cL_load 16 = .ok (.ireturn, 1) := by decide +kernel
set_option maxRecDepth 20000 in
theorem ggL_state_X6_state : GoodIn wsL_state wsX6_state := goodIn_ca (goodIn_r _ [6, 7, 8, 9, 10, 11, 12, 13, 14, 15, 16, 17, 18, 19, 20, 21, 22, 23, 24, 25, 26, 27, 28, 29, 30, 31, 32, 33, 34, 35, 36, 37, 38, 39, 40, 41, 42, 43, 44, 45, 46, 47, 48, 49, 50, 51, 52, 53, 54, 55, 56, 57, 58, 59] (by decide +kernel) (by decide +kernel)) (goodIn_sub (fun _ h => List.mem_cons_of_mem _ (List.mem_append_right _ h)) (by decide +kernel))
set_option maxRecDepth 20000 in
theorem gL_state_X6_state : GoodIn wsL_state (wsV RL 15 RX6 yX6_state wsX6_state) := goodIn_app (goodIn_of _ (by decide +kernel)) ggL_state_X6_state
theorem dL_state_0 : decode cL_state 0 = .ok (.aload_n 2, 1) := by decide +kernel
theorem dL_state_1 : decode cL_state 1 = .ok (.iconst 0, 1) := by decide +kernel
theorem dL_state_2 : decode cL_state 2 = .ok (.aload_n 0, 1) := by decide +kernel
theorem dL_state_3 : decode cL_state 3 = .ok (.iload_n 1, 1) := by decide +kernel
theorem dL_state_4 : decode cL_state 4 = .ok (.invokevirtual 15, 3) := by decide +kernel
theorem dL_state_7 : decode cL_state 7 = .ok (.i2l, 1) := by decide +kernel
theorem dL_state_8 : decode cL_state 8 = .ok (.lastore, 1) := by decide +kernel
theorem dL_state_9 : decode cL_state 9 = .ok (.goto 6, 3) := by decide +kernel
theorem dL_state_12 : decode cL_state 12 = .ok (.astore_n 3, 1) := by decide +kernel
theorem dL_state_13 : decode cL_state 13 = .ok (.iconst 1, 1) := by decide +kernel
theorem dL_state_14 : decode cL_state 14 = .ok (.ireturn, 1) := by decide +kernel
theorem dL_state_15 : decode cL_state 15 = .ok (.iconst 0, 1) := by decide +kernel
theorem dL_state_16 : decode cL_state 16 = .ok (.ireturn, 1) := by decide +kernel
set_option maxRecDepth 20000 in
theorem ggL_stands_X6_stands : GoodIn wsL_stands wsX6_stands := goodIn_ca (goodIn_r _ [6, 7, 8, 9, 10, 11, 5, 12, 13, 14, 15, 16, 17, 18, 19, 20, 21, 22, 23, 24, 25, 26, 27, 28, 29, 30, 31, 32, 33, 34, 35, 36, 37, 38, 39, 40, 41, 42, 43, 44, 45, 46, 47, 48, 49] (by decide +kernel) (by decide +kernel)) (goodIn_sub (fun _ h => List.mem_cons_of_mem _ (List.mem_append_right _ h)) (by decide +kernel))
set_option maxRecDepth 20000 in
theorem gL_stands_X6_stands : GoodIn wsL_stands (wsV RL 18 RX6 yX6_stands wsX6_stands) := goodIn_app (goodIn_of _ (by decide +kernel)) ggL_stands_X6_stands
theorem dL_stands_0 : decode cL_stands 0 = .ok (.aload 4, 2) := by decide +kernel
theorem dL_stands_2 : decode cL_stands 2 = .ok (.iconst 0, 1) := by decide +kernel
theorem dL_stands_3 : decode cL_stands 3 = .ok (.aload_n 0, 1) := by decide +kernel
theorem dL_stands_4 : decode cL_stands 4 = .ok (.iload_n 1, 1) := by decide +kernel
theorem dL_stands_5 : decode cL_stands 5 = .ok (.iload_n 2, 1) := by decide +kernel
theorem dL_stands_6 : decode cL_stands 6 = .ok (.iload_n 3, 1) := by decide +kernel
theorem dL_stands_7 : decode cL_stands 7 = .ok (.invokevirtual 18, 3) := by decide +kernel
theorem dL_stands_10 : decode cL_stands 10 = .ok (.i2l, 1) := by decide +kernel
theorem dL_stands_11 : decode cL_stands 11 = .ok (.lastore, 1) := by decide +kernel
theorem dL_stands_12 : decode cL_stands 12 = .ok (.goto 7, 3) := by decide +kernel
theorem dL_stands_15 : decode cL_stands 15 = .ok (.astore 5, 2) := by decide +kernel
theorem dL_stands_17 : decode cL_stands 17 = .ok (.iconst 1, 1) := by decide +kernel
theorem dL_stands_18 : decode cL_stands 18 = .ok (.ireturn, 1) := by decide +kernel
theorem dL_stands_19 : decode cL_stands 19 = .ok (.iconst 0, 1) := by decide +kernel
theorem dL_stands_20 : decode cL_stands 20 = .ok (.ireturn, 1) := by decide +kernel
set_option maxRecDepth 20000 in
theorem ggL_plane_X6_plane : GoodIn wsL_plane wsX6_plane := goodIn_ca (goodIn_ca (goodIn_r _ [7, 8, 9, 10, 11, 12, 13, 14, 15, 16, 6, 17, 18, 19, 20, 21, 22, 23, 24, 25, 26, 27, 28, 29, 30, 31, 32, 33, 34, 35, 36, 37, 38, 39, 40, 41, 42, 43, 44, 45, 46, 47, 48, 49, 50, 51, 52, 53, 54, 55, 56, 57, 58, 59, 60, 61, 62, 63, 64, 65, 66, 67, 68, 69, 70] (by decide +kernel) (by decide +kernel)) (goodIn_sub (fun _ h => List.mem_cons_of_mem _ (List.mem_append_left _ (List.mem_append_right _ h))) (by decide +kernel))) (goodIn_sub (fun _ h => List.mem_cons_of_mem _ (List.mem_append_right _ h)) (by decide +kernel))
set_option maxRecDepth 20000 in
theorem gL_plane_X6_plane : GoodIn wsL_plane (wsV RL 24 RX6 yX6_plane wsX6_plane) := goodIn_app (goodIn_of _ (by decide +kernel)) ggL_plane_X6_plane
theorem dL_plane_0 : decode cL_plane 0 = .ok (.aload_n 3, 1) := by decide +kernel
theorem dL_plane_1 : decode cL_plane 1 = .ok (.iconst 0, 1) := by decide +kernel
theorem dL_plane_2 : decode cL_plane 2 = .ok (.aload_n 0, 1) := by decide +kernel
theorem dL_plane_3 : decode cL_plane 3 = .ok (.iload_n 1, 1) := by decide +kernel
theorem dL_plane_4 : decode cL_plane 4 = .ok (.iload_n 2, 1) := by decide +kernel
theorem dL_plane_5 : decode cL_plane 5 = .ok (.invokevirtual 24, 3) := by decide +kernel
theorem dL_plane_8 : decode cL_plane 8 = .ok (.i2l, 1) := by decide +kernel
theorem dL_plane_9 : decode cL_plane 9 = .ok (.lastore, 1) := by decide +kernel
theorem dL_plane_10 : decode cL_plane 10 = .ok (.goto 11, 3) := by decide +kernel
theorem dL_plane_13 : decode cL_plane 13 = .ok (.astore 4, 2) := by decide +kernel
theorem dL_plane_15 : decode cL_plane 15 = .ok (.iconst 1, 1) := by decide +kernel
theorem dL_plane_16 : decode cL_plane 16 = .ok (.ireturn, 1) := by decide +kernel
theorem dL_plane_17 : decode cL_plane 17 = .ok (.astore 4, 2) := by decide +kernel
theorem dL_plane_19 : decode cL_plane 19 = .ok (.iconst 2, 1) := by decide +kernel
theorem dL_plane_20 : decode cL_plane 20 = .ok (.ireturn, 1) := by decide +kernel
theorem dL_plane_21 : decode cL_plane 21 = .ok (.iconst 0, 1) := by decide +kernel
theorem dL_plane_22 : decode cL_plane 22 = .ok (.ireturn, 1) := by decide +kernel
set_option maxRecDepth 20000 in
theorem ggL_hole_X6_hole : GoodIn wsL_hole wsX6_hole := goodIn_ca (goodIn_ca (goodIn_r _ [7, 8, 9, 10, 11, 12, 13, 14, 15, 16, 17, 18, 19, 20, 21, 6, 22, 23, 24, 25, 26, 27, 28, 29, 30, 31, 32, 33, 34, 35, 36, 37, 38, 39, 40, 41, 42, 43, 44, 45, 46, 47, 48, 49, 50, 51, 52, 53, 54, 55] (by decide +kernel) (by decide +kernel)) (goodIn_sub (fun _ h => List.mem_cons_of_mem _ (List.mem_append_left _ (List.mem_append_right _ h))) (by decide +kernel))) (goodIn_sub (fun _ h => List.mem_cons_of_mem _ (List.mem_append_right _ h)) (by decide +kernel))
set_option maxRecDepth 20000 in
theorem gL_hole_X6_hole : GoodIn wsL_hole (wsV RL 28 RX6 yX6_hole wsX6_hole) := goodIn_app (goodIn_of _ (by decide +kernel)) ggL_hole_X6_hole
theorem dL_hole_0 : decode cL_hole 0 = .ok (.aload_n 3, 1) := by decide +kernel
theorem dL_hole_1 : decode cL_hole 1 = .ok (.iconst 0, 1) := by decide +kernel
theorem dL_hole_2 : decode cL_hole 2 = .ok (.aload_n 0, 1) := by decide +kernel
theorem dL_hole_3 : decode cL_hole 3 = .ok (.iload_n 1, 1) := by decide +kernel
theorem dL_hole_4 : decode cL_hole 4 = .ok (.iload_n 2, 1) := by decide +kernel
theorem dL_hole_5 : decode cL_hole 5 = .ok (.invokevirtual 28, 3) := by decide +kernel
theorem dL_hole_8 : decode cL_hole 8 = .ok (.i2l, 1) := by decide +kernel
theorem dL_hole_9 : decode cL_hole 9 = .ok (.lastore, 1) := by decide +kernel
theorem dL_hole_10 : decode cL_hole 10 = .ok (.goto 11, 3) := by decide +kernel
theorem dL_hole_13 : decode cL_hole 13 = .ok (.astore 4, 2) := by decide +kernel
theorem dL_hole_15 : decode cL_hole 15 = .ok (.iconst 1, 1) := by decide +kernel
theorem dL_hole_16 : decode cL_hole 16 = .ok (.ireturn, 1) := by decide +kernel
theorem dL_hole_17 : decode cL_hole 17 = .ok (.astore 4, 2) := by decide +kernel
theorem dL_hole_19 : decode cL_hole 19 = .ok (.iconst 2, 1) := by decide +kernel
theorem dL_hole_20 : decode cL_hole 20 = .ok (.ireturn, 1) := by decide +kernel
theorem dL_hole_21 : decode cL_hole 21 = .ok (.iconst 0, 1) := by decide +kernel
theorem dL_hole_22 : decode cL_hole 22 = .ok (.ireturn, 1) := by decide +kernel
set_option maxRecDepth 20000 in
theorem ggL_sees_X6_sees : GoodIn wsL_sees wsX6_sees := goodIn_ca (goodIn_r _ [6, 7, 8, 9, 10, 11, 5, 12, 13, 14, 15, 16, 17, 18, 19, 20, 21, 22, 23, 24, 25, 26, 27, 28, 29, 30, 31, 32, 33, 34, 35, 36, 37, 38, 39, 40, 41, 42, 43, 44, 45, 46, 47, 48, 49, 50, 51, 52] (by decide +kernel) (by decide +kernel)) (goodIn_sub (fun _ h => List.mem_cons_of_mem _ (List.mem_append_right _ h)) (by decide +kernel))
set_option maxRecDepth 20000 in
theorem gL_sees_X6_sees : GoodIn wsL_sees (wsV RL 31 RX6 yX6_sees wsX6_sees) := goodIn_app (goodIn_of _ (by decide +kernel)) ggL_sees_X6_sees
theorem dL_sees_0 : decode cL_sees 0 = .ok (.aload 4, 2) := by decide +kernel
theorem dL_sees_2 : decode cL_sees 2 = .ok (.iconst 0, 1) := by decide +kernel
theorem dL_sees_3 : decode cL_sees 3 = .ok (.aload_n 0, 1) := by decide +kernel
theorem dL_sees_4 : decode cL_sees 4 = .ok (.iload_n 1, 1) := by decide +kernel
theorem dL_sees_5 : decode cL_sees 5 = .ok (.iload_n 2, 1) := by decide +kernel
theorem dL_sees_6 : decode cL_sees 6 = .ok (.iload_n 3, 1) := by decide +kernel
theorem dL_sees_7 : decode cL_sees 7 = .ok (.invokevirtual 31, 3) := by decide +kernel
theorem dL_sees_10 : decode cL_sees 10 = .ok (.i2l, 1) := by decide +kernel
theorem dL_sees_11 : decode cL_sees 11 = .ok (.lastore, 1) := by decide +kernel
theorem dL_sees_12 : decode cL_sees 12 = .ok (.goto 7, 3) := by decide +kernel
theorem dL_sees_15 : decode cL_sees 15 = .ok (.astore 5, 2) := by decide +kernel
theorem dL_sees_17 : decode cL_sees 17 = .ok (.iconst 1, 1) := by decide +kernel
theorem dL_sees_18 : decode cL_sees 18 = .ok (.ireturn, 1) := by decide +kernel
theorem dL_sees_19 : decode cL_sees 19 = .ok (.iconst 0, 1) := by decide +kernel
theorem dL_sees_20 : decode cL_sees 20 = .ok (.ireturn, 1) := by decide +kernel
set_option maxRecDepth 20000 in
theorem ggL_shown_X6_shown : GoodIn wsL_shown wsX6_shown := goodIn_ca (goodIn_ca (goodIn_r _ [7, 8, 9, 10, 11, 12, 6, 13, 14, 15, 16, 17, 18, 19, 20, 21, 22, 23, 24, 25, 26, 27, 28, 29, 30, 31, 32, 33, 34, 35, 36, 37, 38, 39, 40, 41, 42, 43, 44, 45, 46, 47, 48] (by decide +kernel) (by decide +kernel)) (goodIn_sub (fun _ h => List.mem_cons_of_mem _ (List.mem_append_left _ (List.mem_append_right _ h))) (by decide +kernel))) (goodIn_sub (fun _ h => List.mem_cons_of_mem _ (List.mem_append_right _ h)) (by decide +kernel))
set_option maxRecDepth 20000 in
theorem gL_shown_X6_shown : GoodIn wsL_shown (wsV RL 34 RX6 yX6_shown wsX6_shown) := goodIn_app (goodIn_of _ (by decide +kernel)) ggL_shown_X6_shown
theorem dL_shown_0 : decode cL_shown 0 = .ok (.aload_n 3, 1) := by decide +kernel
theorem dL_shown_1 : decode cL_shown 1 = .ok (.iconst 0, 1) := by decide +kernel
theorem dL_shown_2 : decode cL_shown 2 = .ok (.aload_n 0, 1) := by decide +kernel
theorem dL_shown_3 : decode cL_shown 3 = .ok (.iload_n 1, 1) := by decide +kernel
theorem dL_shown_4 : decode cL_shown 4 = .ok (.iload_n 2, 1) := by decide +kernel
theorem dL_shown_5 : decode cL_shown 5 = .ok (.invokevirtual 34, 3) := by decide +kernel
theorem dL_shown_8 : decode cL_shown 8 = .ok (.i2l, 1) := by decide +kernel
theorem dL_shown_9 : decode cL_shown 9 = .ok (.lastore, 1) := by decide +kernel
theorem dL_shown_10 : decode cL_shown 10 = .ok (.goto 11, 3) := by decide +kernel
theorem dL_shown_13 : decode cL_shown 13 = .ok (.astore 4, 2) := by decide +kernel
theorem dL_shown_15 : decode cL_shown 15 = .ok (.iconst 1, 1) := by decide +kernel
theorem dL_shown_16 : decode cL_shown 16 = .ok (.ireturn, 1) := by decide +kernel
theorem dL_shown_17 : decode cL_shown 17 = .ok (.astore 4, 2) := by decide +kernel
theorem dL_shown_19 : decode cL_shown 19 = .ok (.iconst 2, 1) := by decide +kernel
theorem dL_shown_20 : decode cL_shown 20 = .ok (.ireturn, 1) := by decide +kernel
theorem dL_shown_21 : decode cL_shown 21 = .ok (.iconst 0, 1) := by decide +kernel
theorem dL_shown_22 : decode cL_shown 22 = .ok (.ireturn, 1) := by decide +kernel
set_option maxRecDepth 20000 in
theorem ggL_why_X6_why : GoodIn wsL_why wsX6_why := goodIn_ca (goodIn_r _ [6, 7, 8, 9, 10, 11, 12, 5, 13, 14, 15, 16, 17, 18, 19, 20, 21, 22, 23, 24, 25, 26, 27, 28, 29, 30, 31, 32, 33, 34, 35, 36, 37, 38, 39, 40, 41, 42, 43, 44, 45, 46, 47, 48, 49, 50, 51, 52, 53, 54, 55, 56, 57, 58, 59, 60, 61, 62, 63, 64, 65, 66, 67, 68, 69, 70, 71, 72, 73, 74, 75, 76, 77, 78, 79, 80] (by decide +kernel) (by decide +kernel)) (goodIn_sub (fun _ h => List.mem_cons_of_mem _ (List.mem_append_right _ h)) (by decide +kernel))
set_option maxRecDepth 20000 in
theorem gL_why_X6_why : GoodIn wsL_why (wsV RL 37 RX6 yX6_why wsX6_why) := goodIn_app (goodIn_of _ (by decide +kernel)) ggL_why_X6_why
theorem dL_why_0 : decode cL_why 0 = .ok (.aload 5, 2) := by decide +kernel
theorem dL_why_2 : decode cL_why 2 = .ok (.iconst 0, 1) := by decide +kernel
theorem dL_why_3 : decode cL_why 3 = .ok (.aload_n 0, 1) := by decide +kernel
theorem dL_why_4 : decode cL_why 4 = .ok (.iload_n 1, 1) := by decide +kernel
theorem dL_why_5 : decode cL_why 5 = .ok (.iload_n 2, 1) := by decide +kernel
theorem dL_why_6 : decode cL_why 6 = .ok (.iload_n 3, 1) := by decide +kernel
theorem dL_why_7 : decode cL_why 7 = .ok (.iload 4, 2) := by decide +kernel
theorem dL_why_9 : decode cL_why 9 = .ok (.invokevirtual 37, 3) := by decide +kernel
theorem dL_why_12 : decode cL_why 12 = .ok (.i2l, 1) := by decide +kernel
theorem dL_why_13 : decode cL_why 13 = .ok (.lastore, 1) := by decide +kernel
theorem dL_why_14 : decode cL_why 14 = .ok (.goto 7, 3) := by decide +kernel
theorem dL_why_17 : decode cL_why 17 = .ok (.astore 6, 2) := by decide +kernel
theorem dL_why_19 : decode cL_why 19 = .ok (.iconst 1, 1) := by decide +kernel
theorem dL_why_20 : decode cL_why 20 = .ok (.ireturn, 1) := by decide +kernel
theorem dL_why_21 : decode cL_why 21 = .ok (.iconst 0, 1) := by decide +kernel
theorem dL_why_22 : decode cL_why 22 = .ok (.ireturn, 1) := by decide +kernel
set_option maxRecDepth 20000 in
theorem ggL_viewer_X6_viewer : GoodIn wsL_viewer wsX6_viewer := goodIn_ca (goodIn_ca (goodIn_r _ [7, 8, 9, 10, 11, 12, 6, 13, 14, 15, 16, 17, 18, 19, 20, 21, 22, 23, 24, 25, 26, 27, 28, 29, 30, 31, 32, 33, 34, 35, 36, 37, 38, 39, 40, 41, 42] (by decide +kernel) (by decide +kernel)) (goodIn_sub (fun _ h => List.mem_cons_of_mem _ (List.mem_append_left _ (List.mem_append_right _ h))) (by decide +kernel))) (goodIn_sub (fun _ h => List.mem_cons_of_mem _ (List.mem_append_right _ h)) (by decide +kernel))
set_option maxRecDepth 20000 in
theorem gL_viewer_X6_viewer : GoodIn wsL_viewer (wsV RL 41 RX6 yX6_viewer wsX6_viewer) := goodIn_app (goodIn_of _ (by decide +kernel)) ggL_viewer_X6_viewer
theorem dL_viewer_0 : decode cL_viewer 0 = .ok (.aload_n 3, 1) := by decide +kernel
theorem dL_viewer_1 : decode cL_viewer 1 = .ok (.iconst 0, 1) := by decide +kernel
theorem dL_viewer_2 : decode cL_viewer 2 = .ok (.aload_n 0, 1) := by decide +kernel
theorem dL_viewer_3 : decode cL_viewer 3 = .ok (.iload_n 1, 1) := by decide +kernel
theorem dL_viewer_4 : decode cL_viewer 4 = .ok (.iload_n 2, 1) := by decide +kernel
theorem dL_viewer_5 : decode cL_viewer 5 = .ok (.invokevirtual 41, 3) := by decide +kernel
theorem dL_viewer_8 : decode cL_viewer 8 = .ok (.i2l, 1) := by decide +kernel
theorem dL_viewer_9 : decode cL_viewer 9 = .ok (.lastore, 1) := by decide +kernel
theorem dL_viewer_10 : decode cL_viewer 10 = .ok (.goto 11, 3) := by decide +kernel
theorem dL_viewer_13 : decode cL_viewer 13 = .ok (.astore 4, 2) := by decide +kernel
theorem dL_viewer_15 : decode cL_viewer 15 = .ok (.iconst 1, 1) := by decide +kernel
theorem dL_viewer_16 : decode cL_viewer 16 = .ok (.ireturn, 1) := by decide +kernel
theorem dL_viewer_17 : decode cL_viewer 17 = .ok (.astore 4, 2) := by decide +kernel
theorem dL_viewer_19 : decode cL_viewer 19 = .ok (.iconst 2, 1) := by decide +kernel
theorem dL_viewer_20 : decode cL_viewer 20 = .ok (.ireturn, 1) := by decide +kernel
theorem dL_viewer_21 : decode cL_viewer 21 = .ok (.iconst 0, 1) := by decide +kernel
theorem dL_viewer_22 : decode cL_viewer 22 = .ok (.ireturn, 1) := by decide +kernel
set_option maxRecDepth 20000 in
theorem ggL_price_X6_price : GoodIn wsL_price wsX6_price := goodIn_ca (goodIn_r _ [6, 7, 8, 9, 10, 11, 12, 13, 5, 14, 15, 16, 17, 18, 19, 20, 21, 22, 23, 24, 25, 26, 27, 28, 29, 30, 31, 32, 33, 34, 35, 36, 37, 38, 39, 40, 41, 42, 43, 44, 45, 46, 47, 48, 49, 50, 51, 52, 53, 54, 55, 56, 57, 58, 59, 60, 61, 62, 63, 64, 65, 66, 67, 68, 69, 70, 71, 72, 73, 74, 75, 76, 77, 78, 79, 80, 81, 82, 83, 84, 85, 86, 87, 88, 89, 90, 91, 92, 93, 94, 95, 96, 97, 98, 99, 100, 101, 102, 103, 104, 105, 106, 107, 108, 109] (by decide +kernel) (by decide +kernel)) (goodIn_sub (fun _ h => List.mem_cons_of_mem _ (List.mem_append_right _ h)) (by decide +kernel))
set_option maxRecDepth 20000 in
theorem gL_price_X6_price : GoodIn wsL_price (wsV RL 44 RX6 yX6_price wsX6_price) := goodIn_app (goodIn_of _ (by decide +kernel)) ggL_price_X6_price
theorem dL_price_0 : decode cL_price 0 = .ok (.aload_n 3, 1) := by decide +kernel
theorem dL_price_1 : decode cL_price 1 = .ok (.iconst 0, 1) := by decide +kernel
theorem dL_price_2 : decode cL_price 2 = .ok (.aload_n 0, 1) := by decide +kernel
theorem dL_price_3 : decode cL_price 3 = .ok (.iload_n 1, 1) := by decide +kernel
theorem dL_price_4 : decode cL_price 4 = .ok (.iload_n 2, 1) := by decide +kernel
theorem dL_price_5 : decode cL_price 5 = .ok (.invokevirtual 44, 3) := by decide +kernel
theorem dL_price_8 : decode cL_price 8 = .ok (.i2l, 1) := by decide +kernel
theorem dL_price_9 : decode cL_price 9 = .ok (.lastore, 1) := by decide +kernel
theorem dL_price_10 : decode cL_price 10 = .ok (.goto 7, 3) := by decide +kernel
theorem dL_price_13 : decode cL_price 13 = .ok (.astore 4, 2) := by decide +kernel
theorem dL_price_15 : decode cL_price 15 = .ok (.iconst 1, 1) := by decide +kernel
theorem dL_price_16 : decode cL_price 16 = .ok (.ireturn, 1) := by decide +kernel
theorem dL_price_17 : decode cL_price 17 = .ok (.iconst 0, 1) := by decide +kernel
theorem dL_price_18 : decode cL_price 18 = .ok (.ireturn, 1) := by decide +kernel
set_option maxRecDepth 20000 in
theorem ggL_bestPull_X6_bestPull : GoodIn wsL_bestPull wsX6_bestPull := goodIn_ca (goodIn_ca (goodIn_r _ [7, 8, 9, 10, 11, 12, 13, 14, 15, 16, 6, 17, 18, 19, 20, 21, 22, 23, 24, 25, 26, 27, 28, 29, 30, 31, 32, 33, 34, 35, 36, 37, 38, 39, 40, 41, 42, 43, 44, 45, 46, 47, 48, 49, 50, 51, 52, 53, 54, 55, 56, 57, 58, 59, 60, 61, 62, 63, 64, 65, 66, 67, 68, 69, 70, 71, 72, 73, 74, 75, 76, 77, 78, 79, 80, 81, 82, 83, 84, 85, 86, 87, 88, 89, 90, 91, 92, 93, 94, 95, 96, 97, 98, 99, 100, 101, 102, 103, 104, 105, 106, 107, 108, 109, 110, 111, 112, 113, 114, 115, 116, 117, 118, 119, 120, 121, 122, 123, 124, 125, 126, 127, 128, 129, 130, 131, 132, 133, 134, 135, 136, 137, 138] (by decide +kernel) (by decide +kernel)) (goodIn_sub (fun _ h => List.mem_cons_of_mem _ (List.mem_append_left _ (List.mem_append_right _ h))) (by decide +kernel))) (goodIn_sub (fun _ h => List.mem_cons_of_mem _ (List.mem_append_right _ h)) (by decide +kernel))
set_option maxRecDepth 20000 in
theorem gL_bestPull_X6_bestPull : GoodIn wsL_bestPull (wsV RL 47 RX6 yX6_bestPull wsX6_bestPull) := goodIn_app (goodIn_of _ (by decide +kernel)) ggL_bestPull_X6_bestPull
theorem dL_bestPull_0 : decode cL_bestPull 0 = .ok (.aload_n 3, 1) := by decide +kernel
theorem dL_bestPull_1 : decode cL_bestPull 1 = .ok (.iconst 0, 1) := by decide +kernel
theorem dL_bestPull_2 : decode cL_bestPull 2 = .ok (.aload_n 0, 1) := by decide +kernel
theorem dL_bestPull_3 : decode cL_bestPull 3 = .ok (.iload_n 1, 1) := by decide +kernel
theorem dL_bestPull_4 : decode cL_bestPull 4 = .ok (.iload_n 2, 1) := by decide +kernel
theorem dL_bestPull_5 : decode cL_bestPull 5 = .ok (.invokevirtual 47, 3) := by decide +kernel
theorem dL_bestPull_8 : decode cL_bestPull 8 = .ok (.i2l, 1) := by decide +kernel
theorem dL_bestPull_9 : decode cL_bestPull 9 = .ok (.lastore, 1) := by decide +kernel
theorem dL_bestPull_10 : decode cL_bestPull 10 = .ok (.goto 11, 3) := by decide +kernel
theorem dL_bestPull_13 : decode cL_bestPull 13 = .ok (.astore 4, 2) := by decide +kernel
theorem dL_bestPull_15 : decode cL_bestPull 15 = .ok (.iconst 1, 1) := by decide +kernel
theorem dL_bestPull_16 : decode cL_bestPull 16 = .ok (.ireturn, 1) := by decide +kernel
theorem dL_bestPull_17 : decode cL_bestPull 17 = .ok (.astore 4, 2) := by decide +kernel
theorem dL_bestPull_19 : decode cL_bestPull 19 = .ok (.iconst 2, 1) := by decide +kernel
theorem dL_bestPull_20 : decode cL_bestPull 20 = .ok (.ireturn, 1) := by decide +kernel
theorem dL_bestPull_21 : decode cL_bestPull 21 = .ok (.iconst 0, 1) := by decide +kernel
theorem dL_bestPull_22 : decode cL_bestPull 22 = .ok (.ireturn, 1) := by decide +kernel
set_option maxRecDepth 20000 in
theorem ggL_foretold_X6_foretold : GoodIn wsL_foretold wsX6_foretold := goodIn_ca (goodIn_r _ [6, 7, 8, 9, 10, 11, 12, 13, 5, 14, 15, 16, 17, 18, 19, 20, 21, 22, 23, 24, 25, 26, 27, 28, 29, 30, 31, 32, 33, 34, 35, 36, 37, 38, 39, 40, 41, 42, 43, 44, 45, 46, 47, 48, 49, 50, 51, 52, 53, 54, 55, 56, 57, 58, 59, 60, 61, 62, 63, 64, 65, 66, 67, 68, 69, 70, 71, 72, 73, 74, 75, 76, 77, 78, 79, 80, 81, 82, 83, 84, 85, 86, 87, 88, 89, 90, 91, 92, 93, 94, 95, 96, 97, 98, 99, 100, 101, 102, 103, 104, 105, 106, 107, 108, 109, 110, 111, 112, 113, 114, 115, 116, 117, 118, 119, 120, 121, 122, 123, 124, 125, 126, 127, 128, 129, 130, 131, 132, 133, 134, 135, 136, 137, 138, 139, 140, 141, 142, 143, 144, 145, 146, 147, 148, 149, 150, 151, 152] (by decide +kernel) (by decide +kernel)) (goodIn_sub (fun _ h => List.mem_cons_of_mem _ (List.mem_append_right _ h)) (by decide +kernel))
set_option maxRecDepth 20000 in
theorem gL_foretold_X6_foretold : GoodIn wsL_foretold (wsV RL 50 RX6 yX6_foretold wsX6_foretold) := goodIn_app (goodIn_of _ (by decide +kernel)) ggL_foretold_X6_foretold
theorem dL_foretold_0 : decode cL_foretold 0 = .ok (.aload_n 3, 1) := by decide +kernel
theorem dL_foretold_1 : decode cL_foretold 1 = .ok (.iconst 0, 1) := by decide +kernel
theorem dL_foretold_2 : decode cL_foretold 2 = .ok (.aload_n 0, 1) := by decide +kernel
theorem dL_foretold_3 : decode cL_foretold 3 = .ok (.iload_n 1, 1) := by decide +kernel
theorem dL_foretold_4 : decode cL_foretold 4 = .ok (.iload_n 2, 1) := by decide +kernel
theorem dL_foretold_5 : decode cL_foretold 5 = .ok (.invokevirtual 50, 3) := by decide +kernel
theorem dL_foretold_8 : decode cL_foretold 8 = .ok (.i2l, 1) := by decide +kernel
theorem dL_foretold_9 : decode cL_foretold 9 = .ok (.lastore, 1) := by decide +kernel
theorem dL_foretold_10 : decode cL_foretold 10 = .ok (.goto 7, 3) := by decide +kernel
theorem dL_foretold_13 : decode cL_foretold 13 = .ok (.astore 4, 2) := by decide +kernel
theorem dL_foretold_15 : decode cL_foretold 15 = .ok (.iconst 1, 1) := by decide +kernel
theorem dL_foretold_16 : decode cL_foretold 16 = .ok (.ireturn, 1) := by decide +kernel
theorem dL_foretold_17 : decode cL_foretold 17 = .ok (.iconst 0, 1) := by decide +kernel
theorem dL_foretold_18 : decode cL_foretold 18 = .ok (.ireturn, 1) := by decide +kernel
set_option maxRecDepth 20000 in
theorem ggL_pass_X6_pass : GoodIn wsL_pass wsX6_pass := goodIn_ca (goodIn_r _ [6, 7, 8, 9, 10, 11, 12, 5, 13, 14, 15, 16, 17, 18, 19, 20, 21, 22, 23, 24, 25, 26, 27, 28, 29, 30, 31, 32, 33, 34, 35, 36, 37, 38, 39, 40, 41, 42, 43, 44, 45, 46, 47, 48, 49, 50, 51, 52, 53, 54, 55, 56, 57, 58, 59, 60, 61, 62, 63, 64, 65, 66, 67, 68, 69, 70, 71, 72, 73, 74, 75, 76, 77, 78, 79, 80, 81, 82, 83, 84, 85, 86, 87, 88, 89, 90, 91, 92, 93, 94, 95, 96, 97, 98, 99, 100, 101, 102, 103, 104, 105, 106, 107, 108, 109, 110, 111, 112, 113, 114, 115, 116, 117, 118, 119, 120, 121, 122, 123, 124, 125, 126, 127, 128, 129, 130, 131, 132, 133, 134, 135, 136, 137, 138, 139, 140, 141, 142, 143, 144, 145, 146, 147, 148, 149, 150, 151, 152, 153, 154, 155, 156, 157, 158, 159, 160, 161, 162, 163, 164, 165, 166, 167, 168, 169, 170, 171, 172, 173, 174, 175, 176, 177, 178, 179] (by decide +kernel) (by decide +kernel)) (goodIn_sub (fun _ h => List.mem_cons_of_mem _ (List.mem_append_right _ h)) (by decide +kernel))
set_option maxRecDepth 20000 in
theorem gL_pass_X6_pass : GoodIn wsL_pass (wsV RL 53 RX6 yX6_pass wsX6_pass) := goodIn_app (goodIn_of _ (by decide +kernel)) ggL_pass_X6_pass
theorem dL_pass_0 : decode cL_pass 0 = .ok (.aload_n 2, 1) := by decide +kernel
theorem dL_pass_1 : decode cL_pass 1 = .ok (.iconst 0, 1) := by decide +kernel
theorem dL_pass_2 : decode cL_pass 2 = .ok (.aload_n 0, 1) := by decide +kernel
theorem dL_pass_3 : decode cL_pass 3 = .ok (.iload_n 1, 1) := by decide +kernel
theorem dL_pass_4 : decode cL_pass 4 = .ok (.invokevirtual 53, 3) := by decide +kernel
theorem dL_pass_7 : decode cL_pass 7 = .ok (.i2l, 1) := by decide +kernel
theorem dL_pass_8 : decode cL_pass 8 = .ok (.lastore, 1) := by decide +kernel
theorem dL_pass_9 : decode cL_pass 9 = .ok (.goto 6, 3) := by decide +kernel
theorem dL_pass_12 : decode cL_pass 12 = .ok (.astore_n 3, 1) := by decide +kernel
theorem dL_pass_13 : decode cL_pass 13 = .ok (.iconst 1, 1) := by decide +kernel
theorem dL_pass_14 : decode cL_pass 14 = .ok (.ireturn, 1) := by decide +kernel
theorem dL_pass_15 : decode cL_pass 15 = .ok (.iconst 0, 1) := by decide +kernel
theorem dL_pass_16 : decode cL_pass 16 = .ok (.ireturn, 1) := by decide +kernel
set_option maxRecDepth 20000 in
theorem ggL_pull_X6_pull : GoodIn wsL_pull wsX6_pull := goodIn_ca (goodIn_ca (goodIn_ca (goodIn_r _ [8, 9, 10, 11, 12, 13, 14, 15, 16, 17, 18, 7, 19, 20, 21, 22, 23, 24, 25, 26, 27, 28, 29, 30, 31, 32, 33, 34, 35, 36, 37, 38, 39, 40, 41, 42, 43, 44, 45, 46, 47, 48, 49, 50, 51, 52, 53, 54, 55, 56, 57, 58, 59, 60, 61, 62, 63, 64, 65, 66, 67, 68, 69, 70, 71, 72, 73, 74, 75, 76, 77, 78, 79, 80, 81, 82, 83, 84, 85, 86, 87, 88, 89, 90, 91, 92, 93, 94, 95, 96, 97, 98, 99, 100, 101, 102, 103, 104, 105, 106, 107, 108, 109, 110, 111, 112, 113, 114, 115, 116, 117, 118, 119, 120, 121, 122, 123, 124, 125, 126, 127, 128, 129, 130, 131, 132, 133, 134, 135, 136, 137, 138, 139, 140, 141, 142, 143, 144, 145, 146, 147, 148, 149, 150, 151, 152, 153, 154, 155, 156, 157, 158, 159, 160, 161, 162, 163, 164, 165, 166, 167, 168, 169] (by decide +kernel) (by decide +kernel)) (goodIn_sub (fun _ h => List.mem_cons_of_mem _ (List.mem_append_left _ (List.mem_append_left _ (List.mem_append_right _ h)))) (by decide +kernel))) (goodIn_sub (fun _ h => List.mem_cons_of_mem _ (List.mem_append_left _ (List.mem_append_right _ h))) (by decide +kernel))) (goodIn_sub (fun _ h => List.mem_cons_of_mem _ (List.mem_append_right _ h)) (by decide +kernel))
set_option maxRecDepth 20000 in
theorem gL_pull_X6_pull : GoodIn wsL_pull (wsV RL 56 RX6 yX6_pull wsX6_pull) := goodIn_app (goodIn_of _ (by decide +kernel)) ggL_pull_X6_pull
theorem dL_pull_0 : decode cL_pull 0 = .ok (.aload_n 3, 1) := by decide +kernel
theorem dL_pull_1 : decode cL_pull 1 = .ok (.iconst 0, 1) := by decide +kernel
theorem dL_pull_2 : decode cL_pull 2 = .ok (.aload_n 0, 1) := by decide +kernel
theorem dL_pull_3 : decode cL_pull 3 = .ok (.iload_n 1, 1) := by decide +kernel
theorem dL_pull_4 : decode cL_pull 4 = .ok (.iload_n 2, 1) := by decide +kernel
theorem dL_pull_5 : decode cL_pull 5 = .ok (.invokevirtual 56, 3) := by decide +kernel
theorem dL_pull_8 : decode cL_pull 8 = .ok (.i2l, 1) := by decide +kernel
theorem dL_pull_9 : decode cL_pull 9 = .ok (.lastore, 1) := by decide +kernel
theorem dL_pull_10 : decode cL_pull 10 = .ok (.goto 15, 3) := by decide +kernel
theorem dL_pull_13 : decode cL_pull 13 = .ok (.astore 4, 2) := by decide +kernel
theorem dL_pull_15 : decode cL_pull 15 = .ok (.iconst 1, 1) := by decide +kernel
theorem dL_pull_16 : decode cL_pull 16 = .ok (.ireturn, 1) := by decide +kernel
theorem dL_pull_17 : decode cL_pull 17 = .ok (.astore 4, 2) := by decide +kernel
theorem dL_pull_19 : decode cL_pull 19 = .ok (.iconst 2, 1) := by decide +kernel
theorem dL_pull_20 : decode cL_pull 20 = .ok (.ireturn, 1) := by decide +kernel
theorem dL_pull_21 : decode cL_pull 21 = .ok (.astore 4, 2) := by decide +kernel
theorem dL_pull_23 : decode cL_pull 23 = .ok (.iconst 3, 1) := by decide +kernel
theorem dL_pull_24 : decode cL_pull 24 = .ok (.ireturn, 1) := by decide +kernel
theorem dL_pull_25 : decode cL_pull 25 = .ok (.iconst 0, 1) := by decide +kernel
theorem dL_pull_26 : decode cL_pull 26 = .ok (.ireturn, 1) := by decide +kernel
set_option maxRecDepth 20000 in
theorem ggL_come_X6_come : GoodIn wsL_come wsX6_come := goodIn_ca (goodIn_ca (goodIn_r _ [7, 8, 9, 10, 11, 12, 13, 14, 6, 15, 16, 17, 18, 19, 20, 21, 22, 23, 24, 25, 26, 27, 28, 29, 30, 31, 32, 33, 34, 35, 36, 37, 38, 39, 40, 41, 42, 43, 44, 45, 46, 47, 48, 49, 50, 51, 52, 53, 54, 55, 56, 57, 58, 59, 60, 61, 62, 63, 64, 65, 66, 67, 68, 69, 70, 71, 72, 73, 74, 75, 76, 77, 78, 79, 80, 81, 82, 83, 84, 85, 86, 87, 88, 89, 90, 91, 92, 93, 94, 95, 96, 97, 98, 99, 100, 101, 102, 103, 104, 105, 106, 107, 108, 109, 110, 111, 112, 113, 114, 115, 116, 117, 118] (by decide +kernel) (by decide +kernel)) (goodIn_sub (fun _ h => List.mem_cons_of_mem _ (List.mem_append_left _ (List.mem_append_right _ h))) (by decide +kernel))) (goodIn_sub (fun _ h => List.mem_cons_of_mem _ (List.mem_append_right _ h)) (by decide +kernel))
set_option maxRecDepth 20000 in
theorem gL_come_X6_come : GoodIn wsL_come (wsV RL 61 RX6 yX6_come wsX6_come) := goodIn_app (goodIn_of _ (by decide +kernel)) ggL_come_X6_come
theorem dL_come_0 : decode cL_come 0 = .ok (.aload 4, 2) := by decide +kernel
theorem dL_come_2 : decode cL_come 2 = .ok (.iconst 0, 1) := by decide +kernel
theorem dL_come_3 : decode cL_come 3 = .ok (.aload_n 0, 1) := by decide +kernel
theorem dL_come_4 : decode cL_come 4 = .ok (.iload_n 1, 1) := by decide +kernel
theorem dL_come_5 : decode cL_come 5 = .ok (.iload_n 2, 1) := by decide +kernel
theorem dL_come_6 : decode cL_come 6 = .ok (.iload_n 3, 1) := by decide +kernel
theorem dL_come_7 : decode cL_come 7 = .ok (.invokevirtual 61, 3) := by decide +kernel
theorem dL_come_10 : decode cL_come 10 = .ok (.i2l, 1) := by decide +kernel
theorem dL_come_11 : decode cL_come 11 = .ok (.lastore, 1) := by decide +kernel
theorem dL_come_12 : decode cL_come 12 = .ok (.goto 11, 3) := by decide +kernel
theorem dL_come_15 : decode cL_come 15 = .ok (.astore 5, 2) := by decide +kernel
theorem dL_come_17 : decode cL_come 17 = .ok (.iconst 1, 1) := by decide +kernel
theorem dL_come_18 : decode cL_come 18 = .ok (.ireturn, 1) := by decide +kernel
theorem dL_come_19 : decode cL_come 19 = .ok (.astore 5, 2) := by decide +kernel
theorem dL_come_21 : decode cL_come 21 = .ok (.iconst 2, 1) := by decide +kernel
theorem dL_come_22 : decode cL_come 22 = .ok (.ireturn, 1) := by decide +kernel
theorem dL_come_23 : decode cL_come 23 = .ok (.iconst 0, 1) := by decide +kernel
theorem dL_come_24 : decode cL_come 24 = .ok (.ireturn, 1) := by decide +kernel
set_option maxRecDepth 20000 in
theorem ggL_length_X6_length : GoodIn wsL_length wsX6_length := goodIn_ca (goodIn_r _ [6, 7, 8, 9, 10, 11, 5, 12, 13, 14, 15, 16, 17, 18, 19, 20, 21, 22, 23, 24, 25, 26, 27, 28, 29, 30, 31, 32, 33, 34, 35, 36, 37, 38, 39, 40, 41, 42, 43, 44, 45, 46, 47, 48, 49, 50, 51, 52, 53, 54, 55, 56, 57, 58, 59, 60, 61, 62, 63, 64, 65, 66, 67, 68, 69, 70, 71, 72, 73, 74, 75, 76, 77, 78, 79, 80, 81, 82, 83, 84, 85, 86, 87, 88, 89, 90, 91, 92, 93, 94, 95, 96, 97, 98] (by decide +kernel) (by decide +kernel)) (goodIn_sub (fun _ h => List.mem_cons_of_mem _ (List.mem_append_right _ h)) (by decide +kernel))
set_option maxRecDepth 20000 in
theorem gL_length_X6_length : GoodIn wsL_length (wsV RL 64 RX6 yX6_length wsX6_length) := goodIn_app (goodIn_of _ (by decide +kernel)) ggL_length_X6_length
theorem dL_length_0 : decode cL_length 0 = .ok (.aload_n 2, 1) := by decide +kernel
theorem dL_length_1 : decode cL_length 1 = .ok (.iconst 0, 1) := by decide +kernel
theorem dL_length_2 : decode cL_length 2 = .ok (.aload_n 0, 1) := by decide +kernel
theorem dL_length_3 : decode cL_length 3 = .ok (.iload_n 1, 1) := by decide +kernel
theorem dL_length_4 : decode cL_length 4 = .ok (.invokevirtual 64, 3) := by decide +kernel
theorem dL_length_7 : decode cL_length 7 = .ok (.i2l, 1) := by decide +kernel
theorem dL_length_8 : decode cL_length 8 = .ok (.lastore, 1) := by decide +kernel
theorem dL_length_9 : decode cL_length 9 = .ok (.goto 6, 3) := by decide +kernel
theorem dL_length_12 : decode cL_length 12 = .ok (.astore_n 3, 1) := by decide +kernel
theorem dL_length_13 : decode cL_length 13 = .ok (.iconst 1, 1) := by decide +kernel
theorem dL_length_14 : decode cL_length 14 = .ok (.ireturn, 1) := by decide +kernel
theorem dL_length_15 : decode cL_length 15 = .ok (.iconst 0, 1) := by decide +kernel
theorem dL_length_16 : decode cL_length 16 = .ok (.ireturn, 1) := by decide +kernel
