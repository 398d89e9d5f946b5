/-! THE LAW: operation 9 -/
section OP
variable {p : Program} {l : Launch} {e : Env} {s : State} {m : MethodId} {below : List Frame} {meth : Method} {c : Code} {b L : Nat} {xs : Nat → Int32} {D : va_G} {cy : Nat → ClassId} {u v : Nat → Nat} {qo qx qout : Nat} {Q : State → Prop} {cells slots : Nat}
set_option maxHeartbeats 4000000 in
set_option maxRecDepth 100000 in
theorem op_why {st : St} {rf : Rf} {out : Nat → Int64} {H : Heap} {locs : List Loc} {ls : Array Slot} {i : Int32} {a1 a2 a3 a4 a5 : Int32} (C : LC p l s m c b L xs D cy) (R : RAll st rf) (hP : va_P D vwCl (LW cy u v qo qx qout st rf out) H) (hD : va_D (fun q => s.heap.size ≤ q) (LW cy u v qo qx qout st rf out)) (hS : va_S (fun q => s.heap.size ≤ q) s.heap H locs) (hl : lv_has ls 9 [(4, .int i), (3, .ref qout), (2, .ref qx), (1, .ref qo), (0, .ref b)]) (hi1 : vp_in (i + 1) L) (hi2 : vp_in (i + 2) L) (hi3 : vp_in (i + 3) L) (hi4 : vp_in (i + 4) L) (hi5 : vp_in (i + 5) L) (ha1 : xs (i + 1).toNatClampNeg = a1) (ha2 : xs (i + 2).toNatClampNeg = a2) (ha3 : xs (i + 3).toNatClampNeg = a3) (ha4 : xs (i + 4).toNatClampNeg = a4) (ha5 : xs (i + 5).toNatClampNeg = a5) (hc : cells + 1 ≤ room_1.cells) (hs : slots + 6 ≤ room_1.slots)
    (K : KE p l e s m below meth c b D cy u v qo qx qout Q i (cells + 1) (slots + 6)) : W p l e room_1 s m #[Value.ref b] below meth c H locs cells slots Q (F0 m 706 ls []) := by
  obtain ⟨hx, hb, hml, hown, hts, hX, hbl, hEL, hst⟩ := C
  have hE := hEL.1.1
  have hK := hE.1
  have hA : ∀ q, s.heap.size ≤ q → (fun q => s.heap.size ≤ q) q := fun _ h => h
  refine lv_aload_n hx hb dL_law_706 rfl (lv_at hl 3 rfl) ?_
  refine lv_aload_n hx hb dL_law_707 rfl (lv_at hl 4 rfl) ?_
  refine lv_iload hx hb dL_law_708 (lv_at hl 0 rfl) ?_
  refine lv_iconst (v := 1) hx hb dL_law_710 (by decide) ?_
  refine lv_iadd hx hb dL_law_711 ?_
  refine lw_ld hx hb hX hbl hS hi1 ha1 dL_law_712 ?_
  refine lv_aload_n hx hb dL_law_713 rfl (lv_at hl 4 rfl) ?_
  refine lv_iload hx hb dL_law_714 (lv_at hl 0 rfl) ?_
  refine lv_iconst (v := 2) hx hb dL_law_716 (by decide) ?_
  refine lv_iadd hx hb dL_law_717 ?_
  refine lw_ld hx hb hX hbl hS hi2 ha2 dL_law_718 ?_
  refine lv_aload_n hx hb dL_law_719 rfl (lv_at hl 4 rfl) ?_
  refine lv_iload hx hb dL_law_720 (lv_at hl 0 rfl) ?_
  refine lv_iconst (v := 3) hx hb dL_law_722 (by decide) ?_
  refine lv_iadd hx hb dL_law_723 ?_
  refine lw_ld hx hb hX hbl hS hi3 ha3 dL_law_724 ?_
  refine lv_aload_n hx hb dL_law_725 rfl (lv_at hl 4 rfl) ?_
  refine lv_iload hx hb dL_law_726 (lv_at hl 0 rfl) ?_
  refine lv_iconst (v := 4) hx hb dL_law_728 (by decide) ?_
  refine lv_iadd hx hb dL_law_729 ?_
  refine lw_ld hx hb hX hbl hS hi4 ha4 dL_law_730 ?_
  refine lv_aload_n hx hb dL_law_731 rfl (lv_at hl 1 rfl) ?_
  rcases f_why R a1 a2 a3 a4 (Rf.thrown rf) with ⟨v9, g1, g2⟩ | ⟨e9, t9, w9, he, g1, g2⟩
  · refine ke_i (LW cy u v qo qx qout st rf (vp_updL out 0 v9.toInt64)) (vx_runSW (As := [.ref qo, .int a1, .int a2, .int a3, .int a4, .ref qout]) (rest := []) ⟨hx, hb, hml, hown, hts⟩ (c_L_why qo (u 14) (u 15) (u 16) (u 17) (u 18) (u 19) (u 38) (u 39) qout H.size (.ref (u 0)) (.ref (u 26)) (.ref (u 44)) (.ref (u 50)) (.int (St.nextPast st)) (.int (St.undoable st)) (.ref (u 23)) (.int (Sh.reach (St.now st))) (.ref (u 20)) (.ref (u 40)) (.ref (u 41)) (.ref (u 42)) (.ref (u 43)) (Sh.width (St.now st)) (Sh.height (St.now st)) (Sh.planes (St.now st)) (Sh.holes (St.now st)) (Sh.cells (St.now st)) (Sh.pulls (St.now st)) (Sh.holeX (St.now st)) (Sh.holeY (St.now st)) (Vw.seen (St.view st)) a1 a2 a3 a4 out v9 g1) (vx_cwSW 6 hts gL_law_L_why rfl rfl rfl kd_L_why ⟨Nat.le_of_ble_eq_true rfl, Nat.le_of_ble_eq_true rfl⟩) ⟨kP_blind (EL_ok D cy) D _ _ _, kStart (EL_ok D cy) hEL hP hD hS hA [0, 15, 16, 17, 18, 19, 20, 39, 40, 164] rfl rfl _⟩ rfl rfl hl.1 rfl (lv_room (Nat.le_of_ble_eq_true rfl)) dL_law_732 ⟨by omega, by omega⟩) hP hD hS hA [0, 15, 16, 17, 18, 19, 20, 39, 40, 164] [1, 2, 3, 4, 5, 6, 7, 8, 9, 10, 11, 12, 13, 14, 21, 22, 23, 24, 25, 26, 27, 28, 29, 30, 31, 32, 33, 34, 35, 36, 37, 38, 41, 42, 43, 44, 45, 46, 47, 48, 49, 50, 51, 52, 53, 54, 55, 56, 57, 58, 59, 60, 61, 62, 63, 64, 65, 66, 67, 68, 69, 70, 71, 72, 73, 74, 75, 76, 77, 78, 79, 80, 81, 82, 83, 84, 85, 86, 87, 88, 89, 90, 91, 92, 93, 94, 95, 96, 97, 98, 99, 100, 101, 102, 103, 104, 105, 106, 107, 108, 109, 110, 111, 112, 113, 114, 115, 116, 117, 118, 119, 120, 121, 122, 123, 124, 125, 126, 127, 128, 129, 130, 131, 132, 133, 134, 135, 136, 137, 138, 139, 140, 141, 142, 143, 144, 145, 146, 147, 148, 149, 150, 151, 152, 153, 154, 155, 156, 157, 158, 159, 160, 161, 162, 163] rfl rfl rfl 165 rfl (by decide +kernel) (fun H locs hP hD hS => ?_)
    refine lv_istore (lv' := [(5, .int 0), (4, .int i), (3, .ref qout), (2, .ref qx), (1, .ref qo), (0, .ref b)]) hx hb dL_law_735 hl (by decide) rfl (fun ls hl => ?_)
    refine lv_aload_n hx hb dL_law_737 rfl (lv_at hl 3 rfl) ?_
    refine lv_aload_n hx hb dL_law_738 rfl (lv_at hl 5 rfl) ?_
    refine lv_iload hx hb dL_law_739 (lv_at hl 1 rfl) ?_
    refine lv_iconst (v := 1) hx hb dL_law_741 (by decide) ?_
    refine lv_iadd hx hb dL_law_742 ?_
    refine lw_ld hx hb hX hbl hS hi1 ha1 dL_law_743 ?_
    refine lv_aload_n hx hb dL_law_744 rfl (lv_at hl 5 rfl) ?_
    refine lv_iload hx hb dL_law_745 (lv_at hl 1 rfl) ?_
    refine lv_iconst (v := 2) hx hb dL_law_747 (by decide) ?_
    refine lv_iadd hx hb dL_law_748 ?_
    refine lw_ld hx hb hX hbl hS hi2 ha2 dL_law_749 ?_
    refine lv_aload_n hx hb dL_law_750 rfl (lv_at hl 5 rfl) ?_
    refine lv_iload hx hb dL_law_751 (lv_at hl 1 rfl) ?_
    refine lv_iconst (v := 3) hx hb dL_law_753 (by decide) ?_
    refine lv_iadd hx hb dL_law_754 ?_
    refine lw_ld hx hb hX hbl hS hi3 ha3 dL_law_755 ?_
    refine lv_aload_n hx hb dL_law_756 rfl (lv_at hl 5 rfl) ?_
    refine lv_iload hx hb dL_law_757 (lv_at hl 1 rfl) ?_
    refine lv_iconst (v := 4) hx hb dL_law_759 (by decide) ?_
    refine lv_iadd hx hb dL_law_760 ?_
    refine lw_ld hx hb hX hbl hS hi4 ha4 dL_law_761 ?_
    refine ke_i (LW cy u v qo qx qout st (Rf.thr rf (nI 0)) (vp_updL out 0 v9.toInt64)) (va_runV (As := [.int a1, .int a2, .int a3, .int a4]) (rest := []) ⟨hx, hb, hml, hown, hts⟩ (c_X7_why qx (v 1) H.size (.ref (v 0)) (.int (Rf.bufferLength rf)) (.int (Rf.textLength rf)) (.int (Rf.position rf)) (.int (Rf.error rf)) (.int (Rf.errorAt rf)) (.int (Rf.errorOffset rf)) (.ref (v 2)) (.ref (v 3)) (.ref (v 4)) (.int (Rf.undoDepth rf)) (.int (Rf.numberStart rf)) (.int (Rf.nesting rf)) (.int (Rf.seen rf)) (.int (Rf.toldPlanes rf)) (.ref (v 13)) (.ref (v 14)) (Rf.thrown rf) (Rf.data rf) a1 a2 a3 a4 (v9, nI 0) g2) (cwV 4 hts gL_law_X7_why rfl rfl rfl kd_X7_why ⟨Nat.le_of_ble_eq_true rfl, Nat.le_of_ble_eq_true rfl⟩) ⟨kP_blind (EN_ok D cy) D _ _ _, va_recv hK hP (ci := 7) (q0 := 148) rfl rfl, kStart (EN_ok D cy) hE hP hD hS hA [148, 150] rfl rfl _⟩ rfl rfl hl.1 rfl (lv_room (Nat.le_of_ble_eq_true rfl)) dL_law_762 ⟨by omega, by omega⟩) hP hD hS hA [148, 150] [0, 1, 2, 3, 4, 5, 6, 7, 8, 9, 10, 11, 12, 13, 14, 15, 16, 17, 18, 19, 20, 21, 22, 23, 24, 25, 26, 27, 28, 29, 30, 31, 32, 33, 34, 35, 36, 37, 38, 39, 40, 41, 42, 43, 44, 45, 46, 47, 48, 49, 50, 51, 52, 53, 54, 55, 56, 57, 58, 59, 60, 61, 62, 63, 64, 65, 66, 67, 68, 69, 70, 71, 72, 73, 74, 75, 76, 77, 78, 79, 80, 81, 82, 83, 84, 85, 86, 87, 88, 89, 90, 91, 92, 93, 94, 95, 96, 97, 98, 99, 100, 101, 102, 103, 104, 105, 106, 107, 108, 109, 110, 111, 112, 113, 114, 115, 116, 117, 118, 119, 120, 121, 122, 123, 124, 125, 126, 127, 128, 129, 130, 131, 132, 133, 134, 135, 136, 137, 138, 139, 140, 141, 142, 143, 144, 145, 146, 147, 149, 151, 152, 153, 154, 155, 156, 157, 158, 159, 160, 161, 162, 163, 164] rfl rfl rfl 165 rfl (by decide +kernel) (fun H locs hP hD hS => ?_)
    refine lv_istore (lv' := [(6, .int v9), (5, .int 0), (4, .int i), (3, .ref qout), (2, .ref qx), (1, .ref qo), (0, .ref b)]) hx hb dL_law_765 hl (by decide) rfl (fun ls hl => ?_)
    refine lv_aload_n hx hb dL_law_767 rfl (lv_at hl 4 rfl) ?_
    refine ke_s (va_runV (As := []) (rest := []) ⟨hx, hb, hml, hown, hts⟩ (c_X7_thrown qx H.size (.ref (v 0)) (.int (Rf.bufferLength (Rf.thr rf (nI 0)))) (.int (Rf.textLength (Rf.thr rf (nI 0)))) (.int (Rf.position (Rf.thr rf (nI 0)))) (.int (Rf.error (Rf.thr rf (nI 0)))) (.int (Rf.errorAt (Rf.thr rf (nI 0)))) (.int (Rf.errorOffset (Rf.thr rf (nI 0)))) (.ref (v 1)) (.ref (v 2)) (.ref (v 3)) (.ref (v 4)) (.int (Rf.undoDepth (Rf.thr rf (nI 0)))) (.int (Rf.numberStart (Rf.thr rf (nI 0)))) (.int (Rf.nesting (Rf.thr rf (nI 0)))) (.int (Rf.seen (Rf.thr rf (nI 0)))) (.int (Rf.toldPlanes (Rf.thr rf (nI 0)))) (.ref (v 13)) (.ref (v 14)) (Rf.thrown (Rf.thr rf (nI 0))) (nI 0) rfl) (cwV 0 hts gL_law_X7_thrown rfl rfl rfl kd_X7_thrown ⟨Nat.le_of_ble_eq_true rfl, Nat.le_of_ble_eq_true rfl⟩) ⟨kP_blind (EN_ok D cy) D _ _ _, va_recv hK hP (ci := 7) (q0 := 148) rfl rfl, kStart (EN_ok D cy) hE hP hD hS hA [148] rfl rfl _⟩ rfl rfl hl.1 rfl (lv_room (Nat.le_of_ble_eq_true rfl)) dL_law_768 ⟨by omega, by omega⟩) hP hD hS hA [148] [0, 1, 2, 3, 4, 5, 6, 7, 8, 9, 10, 11, 12, 13, 14, 15, 16, 17, 18, 19, 20, 21, 22, 23, 24, 25, 26, 27, 28, 29, 30, 31, 32, 33, 34, 35, 36, 37, 38, 39, 40, 41, 42, 43, 44, 45, 46, 47, 48, 49, 50, 51, 52, 53, 54, 55, 56, 57, 58, 59, 60, 61, 62, 63, 64, 65, 66, 67, 68, 69, 70, 71, 72, 73, 74, 75, 76, 77, 78, 79, 80, 81, 82, 83, 84, 85, 86, 87, 88, 89, 90, 91, 92, 93, 94, 95, 96, 97, 98, 99, 100, 101, 102, 103, 104, 105, 106, 107, 108, 109, 110, 111, 112, 113, 114, 115, 116, 117, 118, 119, 120, 121, 122, 123, 124, 125, 126, 127, 128, 129, 130, 131, 132, 133, 134, 135, 136, 137, 138, 139, 140, 141, 142, 143, 144, 145, 146, 147, 149, 150, 151, 152, 153, 154, 155, 156, 157, 158, 159, 160, 161, 162, 163, 164] rfl 165 rfl (by decide +kernel) (fun H locs hP hD hS => ?_)
    refine lv_iload hx hb dL_law_771 (lv_at hl 1 rfl) ?_
    refine lv_icmp_eq (tgt := 778) hx hb dL_law_773 (by decide) (fun _ => ?_) (fun h => absurd (show nI 0 = (0 : Int32) from rfl) h)
    refine lv_iload hx hb dL_law_778 (lv_at hl 1 rfl) ?_
    refine lv_if_ne (tgt := 795) hx hb dL_law_780 (by decide) (fun h => absurd rfl h) (fun _ => ?_)
    refine lv_aload_n hx hb dL_law_783 rfl (lv_at hl 3 rfl) ?_
    refine lv_iconst (v := 0) hx hb dL_law_784 (by decide) ?_
    refine va_lald hx hb hK hP 164 2 rfl rfl (show ¬ ((0 : Int32) < 0 ∨ 1 ≤ (0 : Int32).toNatClampNeg) by decide) dL_law_785 ?_
    refine lv_iload hx hb dL_law_786 (lv_at hl 0 rfl) ?_
    refine lv_i2l hx hb dL_law_788 rfl ?_
    refine W.lcmp hx hb dL_law_789 ?_
    rw [show lg_cmp ((vp_updL out 0 v9.toInt64) (0 : Int32).toNatClampNeg) v9.toInt64 = 0 from lg_cmp_self _]
    refine lv_if_eq (tgt := 795) hx hb dL_law_790 (by decide) (fun _ => ?_) (fun h => absurd rfl h)
    refine lv_goto (tgt := 1413) hx hb dL_law_795 (by decide) ?_
    refine W.widen (k := cells + 1) (n := slots + 6) (by omega) (by omega) ?_
    exact K _ _ _ _ _ _ (R.thr (nI 0)) hP hD hS (lv_sub hl [2, 3, 4, 5, 6] rfl)
  · rcases (show e9 = 1 ∧ t9 = 1 from by simpa using he) with ⟨rfl, rfl⟩
    refine ke_s (vx_runSW (As := [.ref qo, .int a1, .int a2, .int a3, .int a4, .ref qout]) (rest := []) ⟨hx, hb, hml, hown, hts⟩ (t1_L_why qo (u 14) (u 15) (u 16) (u 17) (u 18) (u 19) (u 38) (u 39) qout H.size (.ref (u 0)) (.ref (u 26)) (.ref (u 44)) (.ref (u 50)) (.int (St.nextPast st)) (.int (St.undoable st)) (.ref (u 23)) (.int (Sh.reach (St.now st))) (.ref (u 20)) (.ref (u 40)) (.ref (u 41)) (.ref (u 42)) (.ref (u 43)) (Sh.width (St.now st)) (Sh.height (St.now st)) (Sh.planes (St.now st)) (Sh.holes (St.now st)) (Sh.cells (St.now st)) (Sh.pulls (St.now st)) (Sh.holeX (St.now st)) (Sh.holeY (St.now st)) (Vw.seen (St.view st)) a1 a2 a3 a4 out hst g1) (vx_cwSW 6 hts gL_law_L_why rfl rfl rfl kd_L_why ⟨Nat.le_of_ble_eq_true rfl, Nat.le_of_ble_eq_true rfl⟩) ⟨kP_blind (EL_ok D cy) D _ _ _, kStart (EL_ok D cy) hEL hP hD hS hA [0, 15, 16, 17, 18, 19, 20, 39, 40, 164] rfl rfl _⟩ rfl rfl hl.1 rfl (lv_room (Nat.le_of_ble_eq_true rfl)) dL_law_732 ⟨by omega, by omega⟩) hP hD hS hA [0, 15, 16, 17, 18, 19, 20, 39, 40, 164] [1, 2, 3, 4, 5, 6, 7, 8, 9, 10, 11, 12, 13, 14, 21, 22, 23, 24, 25, 26, 27, 28, 29, 30, 31, 32, 33, 34, 35, 36, 37, 38, 41, 42, 43, 44, 45, 46, 47, 48, 49, 50, 51, 52, 53, 54, 55, 56, 57, 58, 59, 60, 61, 62, 63, 64, 65, 66, 67, 68, 69, 70, 71, 72, 73, 74, 75, 76, 77, 78, 79, 80, 81, 82, 83, 84, 85, 86, 87, 88, 89, 90, 91, 92, 93, 94, 95, 96, 97, 98, 99, 100, 101, 102, 103, 104, 105, 106, 107, 108, 109, 110, 111, 112, 113, 114, 115, 116, 117, 118, 119, 120, 121, 122, 123, 124, 125, 126, 127, 128, 129, 130, 131, 132, 133, 134, 135, 136, 137, 138, 139, 140, 141, 142, 143, 144, 145, 146, 147, 148, 149, 150, 151, 152, 153, 154, 155, 156, 157, 158, 159, 160, 161, 162, 163] rfl 165 rfl (by decide +kernel) (fun H locs hP hD hS => ?_)
    refine lv_istore (lv' := [(5, .int 1), (4, .int i), (3, .ref qout), (2, .ref qx), (1, .ref qo), (0, .ref b)]) hx hb dL_law_735 hl (by decide) rfl (fun ls hl => ?_)
    refine lv_aload_n hx hb dL_law_737 rfl (lv_at hl 3 rfl) ?_
    refine lv_aload_n hx hb dL_law_738 rfl (lv_at hl 5 rfl) ?_
    refine lv_iload hx hb dL_law_739 (lv_at hl 1 rfl) ?_
    refine lv_iconst (v := 1) hx hb dL_law_741 (by decide) ?_
    refine lv_iadd hx hb dL_law_742 ?_
    refine lw_ld hx hb hX hbl hS hi1 ha1 dL_law_743 ?_
    refine lv_aload_n hx hb dL_law_744 rfl (lv_at hl 5 rfl) ?_
    refine lv_iload hx hb dL_law_745 (lv_at hl 1 rfl) ?_
    refine lv_iconst (v := 2) hx hb dL_law_747 (by decide) ?_
    refine lv_iadd hx hb dL_law_748 ?_
    refine lw_ld hx hb hX hbl hS hi2 ha2 dL_law_749 ?_
    refine lv_aload_n hx hb dL_law_750 rfl (lv_at hl 5 rfl) ?_
    refine lv_iload hx hb dL_law_751 (lv_at hl 1 rfl) ?_
    refine lv_iconst (v := 3) hx hb dL_law_753 (by decide) ?_
    refine lv_iadd hx hb dL_law_754 ?_
    refine lw_ld hx hb hX hbl hS hi3 ha3 dL_law_755 ?_
    refine lv_aload_n hx hb dL_law_756 rfl (lv_at hl 5 rfl) ?_
    refine lv_iload hx hb dL_law_757 (lv_at hl 1 rfl) ?_
    refine lv_iconst (v := 4) hx hb dL_law_759 (by decide) ?_
    refine lv_iadd hx hb dL_law_760 ?_
    refine lw_ld hx hb hX hbl hS hi4 ha4 dL_law_761 ?_
    refine ke_i (LW cy u v qo qx qout st (Rf.thr rf (nI 1)) out) (va_runV (As := [.int a1, .int a2, .int a3, .int a4]) (rest := []) ⟨hx, hb, hml, hown, hts⟩ (c_X7_why qx (v 1) H.size (.ref (v 0)) (.int (Rf.bufferLength rf)) (.int (Rf.textLength rf)) (.int (Rf.position rf)) (.int (Rf.error rf)) (.int (Rf.errorAt rf)) (.int (Rf.errorOffset rf)) (.ref (v 2)) (.ref (v 3)) (.ref (v 4)) (.int (Rf.undoDepth rf)) (.int (Rf.numberStart rf)) (.int (Rf.nesting rf)) (.int (Rf.seen rf)) (.int (Rf.toldPlanes rf)) (.ref (v 13)) (.ref (v 14)) (Rf.thrown rf) (Rf.data rf) a1 a2 a3 a4 (w9, nI 1) g2) (cwV 4 hts gL_law_X7_why rfl rfl rfl kd_X7_why ⟨Nat.le_of_ble_eq_true rfl, Nat.le_of_ble_eq_true rfl⟩) ⟨kP_blind (EN_ok D cy) D _ _ _, va_recv hK hP (ci := 7) (q0 := 148) rfl rfl, kStart (EN_ok D cy) hE hP hD hS hA [148, 150] rfl rfl _⟩ rfl rfl hl.1 rfl (lv_room (Nat.le_of_ble_eq_true rfl)) dL_law_762 ⟨by omega, by omega⟩) hP hD hS hA [148, 150] [0, 1, 2, 3, 4, 5, 6, 7, 8, 9, 10, 11, 12, 13, 14, 15, 16, 17, 18, 19, 20, 21, 22, 23, 24, 25, 26, 27, 28, 29, 30, 31, 32, 33, 34, 35, 36, 37, 38, 39, 40, 41, 42, 43, 44, 45, 46, 47, 48, 49, 50, 51, 52, 53, 54, 55, 56, 57, 58, 59, 60, 61, 62, 63, 64, 65, 66, 67, 68, 69, 70, 71, 72, 73, 74, 75, 76, 77, 78, 79, 80, 81, 82, 83, 84, 85, 86, 87, 88, 89, 90, 91, 92, 93, 94, 95, 96, 97, 98, 99, 100, 101, 102, 103, 104, 105, 106, 107, 108, 109, 110, 111, 112, 113, 114, 115, 116, 117, 118, 119, 120, 121, 122, 123, 124, 125, 126, 127, 128, 129, 130, 131, 132, 133, 134, 135, 136, 137, 138, 139, 140, 141, 142, 143, 144, 145, 146, 147, 149, 151, 152, 153, 154, 155, 156, 157, 158, 159, 160, 161, 162, 163, 164] rfl rfl rfl 165 rfl (by decide +kernel) (fun H locs hP hD hS => ?_)
    refine lv_istore (lv' := [(6, .int w9), (5, .int 1), (4, .int i), (3, .ref qout), (2, .ref qx), (1, .ref qo), (0, .ref b)]) hx hb dL_law_765 hl (by decide) rfl (fun ls hl => ?_)
    refine lv_aload_n hx hb dL_law_767 rfl (lv_at hl 4 rfl) ?_
    refine ke_s (va_runV (As := []) (rest := []) ⟨hx, hb, hml, hown, hts⟩ (c_X7_thrown qx H.size (.ref (v 0)) (.int (Rf.bufferLength (Rf.thr rf (nI 1)))) (.int (Rf.textLength (Rf.thr rf (nI 1)))) (.int (Rf.position (Rf.thr rf (nI 1)))) (.int (Rf.error (Rf.thr rf (nI 1)))) (.int (Rf.errorAt (Rf.thr rf (nI 1)))) (.int (Rf.errorOffset (Rf.thr rf (nI 1)))) (.ref (v 1)) (.ref (v 2)) (.ref (v 3)) (.ref (v 4)) (.int (Rf.undoDepth (Rf.thr rf (nI 1)))) (.int (Rf.numberStart (Rf.thr rf (nI 1)))) (.int (Rf.nesting (Rf.thr rf (nI 1)))) (.int (Rf.seen (Rf.thr rf (nI 1)))) (.int (Rf.toldPlanes (Rf.thr rf (nI 1)))) (.ref (v 13)) (.ref (v 14)) (Rf.thrown (Rf.thr rf (nI 1))) (nI 1) rfl) (cwV 0 hts gL_law_X7_thrown rfl rfl rfl kd_X7_thrown ⟨Nat.le_of_ble_eq_true rfl, Nat.le_of_ble_eq_true rfl⟩) ⟨kP_blind (EN_ok D cy) D _ _ _, va_recv hK hP (ci := 7) (q0 := 148) rfl rfl, kStart (EN_ok D cy) hE hP hD hS hA [148] rfl rfl _⟩ rfl rfl hl.1 rfl (lv_room (Nat.le_of_ble_eq_true rfl)) dL_law_768 ⟨by omega, by omega⟩) hP hD hS hA [148] [0, 1, 2, 3, 4, 5, 6, 7, 8, 9, 10, 11, 12, 13, 14, 15, 16, 17, 18, 19, 20, 21, 22, 23, 24, 25, 26, 27, 28, 29, 30, 31, 32, 33, 34, 35, 36, 37, 38, 39, 40, 41, 42, 43, 44, 45, 46, 47, 48, 49, 50, 51, 52, 53, 54, 55, 56, 57, 58, 59, 60, 61, 62, 63, 64, 65, 66, 67, 68, 69, 70, 71, 72, 73, 74, 75, 76, 77, 78, 79, 80, 81, 82, 83, 84, 85, 86, 87, 88, 89, 90, 91, 92, 93, 94, 95, 96, 97, 98, 99, 100, 101, 102, 103, 104, 105, 106, 107, 108, 109, 110, 111, 112, 113, 114, 115, 116, 117, 118, 119, 120, 121, 122, 123, 124, 125, 126, 127, 128, 129, 130, 131, 132, 133, 134, 135, 136, 137, 138, 139, 140, 141, 142, 143, 144, 145, 146, 147, 149, 150, 151, 152, 153, 154, 155, 156, 157, 158, 159, 160, 161, 162, 163, 164] rfl 165 rfl (by decide +kernel) (fun H locs hP hD hS => ?_)
    refine lv_iload hx hb dL_law_771 (lv_at hl 1 rfl) ?_
    refine lv_icmp_eq (tgt := 778) hx hb dL_law_773 (by decide) (fun _ => ?_) (fun h => absurd (show nI 1 = (1 : Int32) from rfl) h)
    refine lv_iload hx hb dL_law_778 (lv_at hl 1 rfl) ?_
    refine lv_if_ne (tgt := 795) hx hb dL_law_780 (by decide) (fun _ => ?_) (fun h => absurd h (by decide))
    refine lv_goto (tgt := 1413) hx hb dL_law_795 (by decide) ?_
    refine W.widen (k := cells + 1) (n := slots + 6) (by omega) (by omega) ?_
    exact K _ _ _ _ _ _ (R.thr (nI 1)) hP hD hS (lv_sub hl [2, 3, 4, 5, 6] rfl)
end OP
