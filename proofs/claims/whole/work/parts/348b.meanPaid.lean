/-! THE LAW: operation meanPaid -/
section OP
variable {p : Program} {l : Launch} {e : Env} {s : State} {m : MethodId} {below : List Frame} {meth : Method} {c : Code} {b L : Nat} {xs : Nat → Int32} {D : va_G} {cy : Nat → ClassId} {u v : Nat → Nat} {qo qx qout : Nat} {Q : State → Prop} {cells slots : Nat}
set_option maxHeartbeats 4000000 in
set_option maxRecDepth 100000 in
theorem op_meanPaid {st : St} {rf : Rf} {out : Nat → Int64} {H : Heap} {locs : List Loc} {ls : Array Slot} {i : Int32} {a1 a2 a3 a4 a5 : Int32} (C : LC p l s m c b L xs D cy) (R : RAll st rf) (hP : va_P D vwCl (LW cy u v qo qx qout st rf out) H) (hD : va_D (fun q => s.heap.size ≤ q) (LW cy u v qo qx qout st rf out)) (hS : va_S (fun q => s.heap.size ≤ q) s.heap H locs) (hl : lv_has ls 9 [(4, .int i), (3, .ref qout), (2, .ref qx), (1, .ref qo), (0, .ref b)]) (hi1 : vp_in (i + 1) L) (hi2 : vp_in (i + 2) L) (hi3 : vp_in (i + 3) L) (hi4 : vp_in (i + 4) L) (hi5 : vp_in (i + 5) L) (ha1 : xs (i + 1).toNatClampNeg = a1) (ha2 : xs (i + 2).toNatClampNeg = a2) (ha3 : xs (i + 3).toNatClampNeg = a3) (ha4 : xs (i + 4).toNatClampNeg = a4) (ha5 : xs (i + 5).toNatClampNeg = a5) (hc : cells + 1 ≤ room_1.cells) (hs : slots + 6 ≤ room_1.slots)
    (K : KE p l e s m below meth c b D cy u v qo qx qout Q i (cells + 1) (slots + 6)) : W p l e room_1 s m #[Value.ref b] below meth c H locs cells slots Q (F0 m 1083 ls []) := by
  obtain ⟨hx, hb, hml, hown, hts, hX, hbl, hEL, hst⟩ := C
  have hE := hEL.1.1
  have hK := hE.1
  have hA : ∀ q, s.heap.size ≤ q → (fun q => s.heap.size ≤ q) q := fun _ h => h
  obtain ⟨v9, g1, g2, g3⟩ := f_meanPaidN R (Rf.thrown rf)
  obtain ⟨g4, g5⟩ := mean_nn g3
  refine lv_aload_n hx hb dL_law_1083 rfl (lv_at hl 3 rfl) ?_
  refine kd_f (LW cy u v qo qx qout st rf out) (va_runV (As := []) (rest := []) ⟨hx, hb, hml, hown, hts⟩ (c_X6_meanPaid qo (u 14) (u 23) (u 25) H.size (.ref (u 0)) (.ref (u 26)) (.ref (u 38)) (.ref (u 44)) (.ref (u 50)) (.int (St.nextPast st)) (.int (St.undoable st)) (.ref (u 15)) (.int (Sh.lookLength (St.now st))) (.int (Sh.time (St.now st))) (.ref (u 24)) (Sh.viewers (St.now st)) (Sh.facts (St.now st)) v9 g1) (cwV 0 hts gL_law_X6_meanPaid rfl rfl rfl kd_X6_meanPaid ⟨Nat.le_of_ble_eq_true rfl, Nat.le_of_ble_eq_true rfl⟩) ⟨kP_blind (EN_ok D cy) D _ _ _, va_recv hK hP (ci := 6) (q0 := 0) rfl rfl, kStart (EN_ok D cy) hE hP hD hS hA [0, 15, 24, 26] rfl rfl _⟩ rfl rfl hl.1 rfl (lv_room (Nat.le_of_ble_eq_true rfl)) dL_law_1084 ⟨by omega, by omega⟩) hP hD hS hA [0, 15, 24, 26] [1, 2, 3, 4, 5, 6, 7, 8, 9, 10, 11, 12, 13, 14, 16, 17, 18, 19, 20, 21, 22, 23, 25, 27, 28, 29, 30, 31, 32, 33, 34, 35, 36, 37, 38, 39, 40, 41, 42, 43, 44, 45, 46, 47, 48, 49, 50, 51, 52, 53, 54, 55, 56, 57, 58, 59, 60, 61, 62, 63, 64, 65, 66, 67, 68, 69, 70, 71, 72, 73, 74, 75, 76, 77, 78, 79, 80, 81, 82, 83, 84, 85, 86, 87, 88, 89, 90, 91, 92, 93, 94, 95, 96, 97, 98, 99, 100, 101, 102, 103, 104, 105, 106, 107, 108, 109, 110, 111, 112, 113, 114, 115, 116, 117, 118, 119, 120, 121, 122, 123, 124, 125, 126, 127, 128, 129, 130, 131, 132, 133, 134, 135, 136, 137, 138, 139, 140, 141, 142, 143, 144, 145, 146, 147, 148, 149, 150, 151, 152, 153, 154, 155, 156, 157, 158, 159, 160, 161, 162, 163, 164] rfl rfl rfl 165 rfl (by decide +kernel) (fun H locs hP hD hS => ?_)
  refine lv_f2d hx hb dL_law_1087 g4 ?_
  refine lv_dstore (lv' := [(5, .double (FP.f2d v9)), (4, .int i), (3, .ref qout), (2, .ref qx), (1, .ref qo), (0, .ref b)]) hx hb dL_law_1088 hl (by decide) rfl (fun ls hl => ?_)
  refine lv_aload_n hx hb dL_law_1090 rfl (lv_at hl 3 rfl) ?_
  refine kd_f (LW cy u v qo qx qout st (Rf.thr rf (nI 0)) out) (va_runV (As := []) (rest := []) ⟨hx, hb, hml, hown, hts⟩ (c_X7_meanPaid qx (v 1) H.size (.ref (v 0)) (.int (Rf.bufferLength rf)) (.int (Rf.textLength rf)) (.int (Rf.position rf)) (.int (Rf.error rf)) (.int (Rf.errorAt rf)) (.int (Rf.errorOffset rf)) (.ref (v 2)) (.ref (v 3)) (.ref (v 4)) (.int (Rf.undoDepth rf)) (.int (Rf.numberStart rf)) (.int (Rf.nesting rf)) (.int (Rf.seen rf)) (.int (Rf.toldPlanes rf)) (.ref (v 13)) (.ref (v 14)) (Rf.thrown rf) (Rf.data rf) (v9, nI 0) g2) (cwV 0 hts gL_law_X7_meanPaid rfl rfl rfl kd_X7_meanPaid ⟨Nat.le_of_ble_eq_true rfl, Nat.le_of_ble_eq_true rfl⟩) ⟨kP_blind (EN_ok D cy) D _ _ _, va_recv hK hP (ci := 7) (q0 := 148) rfl rfl, kStart (EN_ok D cy) hE hP hD hS hA [148, 150] rfl rfl _⟩ rfl rfl hl.1 rfl (lv_room (Nat.le_of_ble_eq_true rfl)) dL_law_1091 ⟨by omega, by omega⟩) hP hD hS hA [148, 150] [0, 1, 2, 3, 4, 5, 6, 7, 8, 9, 10, 11, 12, 13, 14, 15, 16, 17, 18, 19, 20, 21, 22, 23, 24, 25, 26, 27, 28, 29, 30, 31, 32, 33, 34, 35, 36, 37, 38, 39, 40, 41, 42, 43, 44, 45, 46, 47, 48, 49, 50, 51, 52, 53, 54, 55, 56, 57, 58, 59, 60, 61, 62, 63, 64, 65, 66, 67, 68, 69, 70, 71, 72, 73, 74, 75, 76, 77, 78, 79, 80, 81, 82, 83, 84, 85, 86, 87, 88, 89, 90, 91, 92, 93, 94, 95, 96, 97, 98, 99, 100, 101, 102, 103, 104, 105, 106, 107, 108, 109, 110, 111, 112, 113, 114, 115, 116, 117, 118, 119, 120, 121, 122, 123, 124, 125, 126, 127, 128, 129, 130, 131, 132, 133, 134, 135, 136, 137, 138, 139, 140, 141, 142, 143, 144, 145, 146, 147, 149, 151, 152, 153, 154, 155, 156, 157, 158, 159, 160, 161, 162, 163, 164] rfl rfl rfl 165 rfl (by decide +kernel) (fun H locs hP hD hS => ?_)
  refine lv_f2d hx hb dL_law_1094 g4 ?_
  refine lv_dstore (lv' := [(7, .double (FP.f2d v9)), (5, .double (FP.f2d v9)), (4, .int i), (3, .ref qout), (2, .ref qx), (1, .ref qo), (0, .ref b)]) hx hb dL_law_1095 hl (by decide) rfl (fun ls hl => ?_)
  refine lv_dload hx hb dL_law_1097 (lv_at hl 1 rfl) ?_
  refine lv_dload hx hb dL_law_1099 (lv_at hl 0 rfl) ?_
  refine lv_dcmp hx hb dL_law_1101 ?_
  rw [g5]
  refine lv_if_eq (tgt := 1123) hx hb dL_law_1102 (by decide) (fun _ => ?_) (fun h => absurd rfl h)
  refine lv_goto (tgt := 1413) hx hb dL_law_1123 (by decide) ?_
  refine W.widen (k := cells + 1) (n := slots + 6) (by omega) (by omega) ?_
  exact K _ _ _ _ _ _ (R.thr (nI 0)) hP hD hS (lv_sub hl [2, 3, 4, 5, 6] rfl)
end OP
