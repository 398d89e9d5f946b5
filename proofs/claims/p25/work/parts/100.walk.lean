/-! contracts, written by program (gen.py): J7_fill_53178 X0_setKind X2_clear X2_add X2_addOperation X2_begin X0_begin X2_copyFrom X0_copyFrom X0_addHole X0_isBack X0_canUse X0_kindAt X0_standing X6_quotient X0_crossing X0_crossedKind X0_seenFrom X1_begin X1_copyFrom X1_isFull X1_set X1_endLook X1_add X1_fact X1_count -/
theorem kd_J7_fill_53178 : yJ7_fill_53178.cls ≠ "java/lang/invoke/MethodHandle" ∧ yJ7_fill_53178.cls ≠ "java/lang/invoke/VarHandle" ∧ (parseMethodDescriptor yJ7_fill_53178.desc).map (fun d => d.parameters.length) = some 2 := by decide +kernel
set_option maxHeartbeats 4000000 in
set_option maxRecDepth 100000 in
theorem c_J7_fill_53178 {l : Launch} {D : va_G} {cy : Nat → ClassId} (n_o : Nat) (q_o : Nat) (sz : Nat) (o : Nat → Int32) (p1 : Int32) (res : (Nat → Int32)) (hF : J7_fill_53178 n_o o p1 = some res) : Met l yJ7_fill_53178 wsJ7_fill_53178 ({ frames := 0, cells := 0, slots := 0, locals := 0 } : Room) (kP (EN D cy) D [.ref q_o, .int p1] [(q_o, .inl (cy 0, n_o, .inl o))] sz) (kQv D [(q_o, .inl (cy 0, n_o, .inl res))] (va_A [(q_o, .inl (cy 0, n_o, .inl o))] sz)) 0 0 (va_A [(q_o, .inl (cy 0, n_o, .inl o))] sz) := by
  refine kMet (y := yJ7_fill_53178) (av := [.ref q_o, .int p1]) (cc := cJ7_fill_53178) (maxL := 4) (ret := none) (own := RJ7) (Qc := fun A9 => (kQv D [(q_o, .inl (cy 0, n_o, .inl res))] A9)) (by decide) rfl rfl (Nat.le_of_ble_eq_true rfl) ?_
  intro p e s m args below meth c A hx hb hr hts hown hml hlocks hname hE hP hD hA hsz ls hl
  have hK := hE.1
  have hl : lv_has ls 4 [(0, .ref q_o), (1, .int p1)] := hl
  have hS : va_S A s.heap s.heap [] := va_S.rf
  obtain ⟨QQ, hQQ⟩ : ∃ Q9, Q9 = MQ below (kQv D [(q_o, .inl (cy 0, n_o, .inl res))] A) args s 0 0 A := ⟨_, rfl⟩
  rw [← hQQ]
  have J5 : ∀ (n5 : Nat) (l2 : Int32) (l3 : Int32) (o : Nat → Int32) (H : Heap) (locs : List Loc) (ls : Array Slot), va_P D vwCl [(q_o, .inl (cy 0, n_o, .inl o))] H → va_D A [(q_o, .inl (cy 0, n_o, .inl o))] → va_S A s.heap H locs → lv_has ls 4 [(0, .ref q_o), (1, .int p1), (2, .int l2), (3, .int l3)] → J7_fill_53178_L5 n_o p1 n5 l2 l3 o = some res → W p l e ({ frames := 0, cells := 0, slots := 0, locals := 0 } : Room) s m args below meth c H locs 0 0 QQ (F0 m 5 ls []) := by
    intro n5
    induction n5 with
    | zero =>
      intro l2 l3 o H locs ls hP hD hS hl hF
      rw [J7_fill_53178_L5] at hF
      cases hF
    | succ n5 ih5 =>
      intro l2 l3 o H locs ls hP hD hS hl hF
      rw [J7_fill_53178_L5] at hF
      refine lv_iload_n hx hb dJ7_fill_53178_5 rfl (lv_at hl 2 rfl) ?_
      refine lv_iload_n hx hb dJ7_fill_53178_6 rfl (lv_at hl 3 rfl) ?_
      refine lv_icmp_ge (tgt := 20) hx hb dJ7_fill_53178_7 (by decide) (fun c1 => ?_) (fun c1 => ?_)
      · have hF := if_p hF c1
        obtain rfl := so_o hF
        rw [hQQ]
        exact kr_v hx hb hr hlocks hP hD hS dJ7_fill_53178_20
      · have hF := if_n hF c1
        refine lv_aload_n hx hb dJ7_fill_53178_10 rfl (lv_at hl 0 rfl) ?_
        refine lv_iload_n hx hb dJ7_fill_53178_11 rfl (lv_at hl 2 rfl) ?_
        refine lv_iload_n hx hb dJ7_fill_53178_12 rfl (lv_at hl 1 rfl) ?_
        obtain ⟨h2, hF⟩ := st_o hF
        refine va_iast hx hb hK hP hD hS 0 0 rfl rfl h2 dJ7_fill_53178_13 (fun H locs hP hD hS => ?_)
        obtain ⟨b3, eb3⟩ : ∃ y : Nat → Int32, y = (upd o l2.toNatClampNeg p1) := ⟨_, rfl⟩
        have hF := hF b3 eb3
        have hP : va_P D vwCl [(q_o, .inl (cy 0, n_o, .inl b3))] H := by rw [eb3]; exact hP
        have hD : va_D A [(q_o, .inl (cy 0, n_o, .inl b3))] := by rw [eb3]; exact hD
        obtain ⟨v4, ev4⟩ : ∃ y : Int32, y = l2 + (1 : Int32) := ⟨_, rfl⟩
        have hF := nm_o hF v4 ev4
        refine lv_iinc (v := v4) (lv' := [(2, .int v4), (0, .ref q_o), (1, .int p1), (3, .int l3)]) hx hb dJ7_fill_53178_14 hl (k := 2) rfl (by rw [ev4]; rfl) (by decide) rfl (fun ls hl => ?_)
        refine lv_goto (tgt := 5) hx hb dJ7_fill_53178_17 (by decide) ?_
        exact ih5 v4 l3 b3 H locs ls hP hD hS (lv_sub hl [1, 2, 0, 3] rfl) hF
  have main : ∀ (H : Heap) (locs : List Loc) (ls : Array Slot), va_P D vwCl [(q_o, .inl (cy 0, n_o, .inl o))] H → va_D A [(q_o, .inl (cy 0, n_o, .inl o))] → va_S A s.heap H locs → lv_has ls 4 [(0, .ref q_o), (1, .int p1)] → W p l e ({ frames := 0, cells := 0, slots := 0, locals := 0 } : Room) s m args below meth c H locs 0 0 QQ (F0 m 0 ls []) := by
    intro H locs ls hP hD hS hl
    unfold J7_fill_53178 at hF
    refine lv_iconst (v := 0) hx hb dJ7_fill_53178_0 (by decide) ?_
    refine lv_istore_n (lv' := [(2, .int (0 : Int32)), (0, .ref q_o), (1, .int p1)]) hx hb dJ7_fill_53178_1 rfl hl (by decide) rfl (fun ls hl => ?_)
    refine lv_aload_n hx hb dJ7_fill_53178_2 rfl (lv_at hl 1 rfl) ?_
    refine va_alen hx hb hK hP 0 0 rfl rfl (v := nI n_o) rfl dJ7_fill_53178_3 ?_
    refine lv_topi (fun v5 ev5 => ?_)
    have hF := nm_o hF v5 ev5
    refine lv_istore_n (lv' := [(3, .int v5), (2, .int (0 : Int32)), (0, .ref q_o), (1, .int p1)]) hx hb dJ7_fill_53178_4 rfl hl (by decide) rfl (fun ls hl => ?_)
    exact J5 FU (0 : Int32) v5 o H locs ls hP hD hS (lv_sub hl [2, 3, 1, 0] rfl) hF
  exact main s.heap [] ls hP hD hS hl
theorem kd_X0_setKind : yX0_setKind.cls = RX0 ∧ yX0_setKind.cls ≠ "java/lang/invoke/MethodHandle" ∧ yX0_setKind.cls ≠ "java/lang/invoke/VarHandle" ∧ (parseMethodDescriptor yX0_setKind.desc).map (fun d => d.parameters.length) = some 4 := by decide +kernel
set_option maxHeartbeats 4000000 in
set_option maxRecDepth 100000 in
theorem c_X0_setKind {l : Launch} {D : va_G} {cy : Nat → ClassId} (q_o q_o_cells : Nat) (sz : Nat) (x_o_width x_o_height x_o_planes x_o_holes x_o_reach x_o_pulls x_o_holeX x_o_holeY x_o_price : Value) (o_cells : Nat → Int32) (p1 : Int32) (p2 : Int32) (p3 : Int32) (p4 : Int32) (res : (Nat → Int32)) (hF : X0_setKind o_cells p1 p2 p3 p4 = some res) : Met l yX0_setKind wsX0_setKind ({ frames := 0, cells := 0, slots := 0, locals := 0 } : Room) (kP (EN D cy) D [.ref q_o, .int p1, .int p2, .int p3, .int p4] [(q_o, .inr (0, [x_o_width, x_o_height, x_o_planes, x_o_holes, x_o_reach, .ref q_o_cells, x_o_pulls, x_o_holeX, x_o_holeY, x_o_price])), (q_o_cells, .inl (cy 0, 480, .inl o_cells))] sz) (kQv D [(q_o, .inr (0, [x_o_width, x_o_height, x_o_planes, x_o_holes, x_o_reach, .ref q_o_cells, x_o_pulls, x_o_holeX, x_o_holeY, x_o_price])), (q_o_cells, .inl (cy 0, 480, .inl res))] (va_A [(q_o, .inr (0, [x_o_width, x_o_height, x_o_planes, x_o_holes, x_o_reach, .ref q_o_cells, x_o_pulls, x_o_holeX, x_o_holeY, x_o_price])), (q_o_cells, .inl (cy 0, 480, .inl o_cells))] sz)) 0 0 (va_A [(q_o, .inr (0, [x_o_width, x_o_height, x_o_planes, x_o_holes, x_o_reach, .ref q_o_cells, x_o_pulls, x_o_holeX, x_o_holeY, x_o_price])), (q_o_cells, .inl (cy 0, 480, .inl o_cells))] sz) := by
  refine kMet (y := yX0_setKind) (av := [.ref q_o, .int p1, .int p2, .int p3, .int p4]) (cc := cX0_setKind) (maxL := 5) (ret := none) (own := RX0) (Qc := fun A9 => (kQv D [(q_o, .inr (0, [x_o_width, x_o_height, x_o_planes, x_o_holes, x_o_reach, .ref q_o_cells, x_o_pulls, x_o_holeX, x_o_holeY, x_o_price])), (q_o_cells, .inl (cy 0, 480, .inl res))] A9)) (by decide) rfl rfl (Nat.le_of_ble_eq_true rfl) ?_
  intro p e s m args below meth c A hx hb hr hts hown hml hlocks hname hE hP hD hA hsz ls hl
  have hK := hE.1
  have hl : lv_has ls 5 [(0, .ref q_o), (1, .int p1), (2, .int p2), (3, .int p3), (4, .int p4)] := hl
  have hS : va_S A s.heap s.heap [] := va_S.rf
  have f_f27 := hts (.fieldLink RX0 27 "PeepBox$Box" "cells" "[I") (by decide +kernel)
  have f_inX0 : ∀ w ∈ wsX00, w ∈ wsX0_setKind := by decide +kernel
  obtain ⟨QQ, hQQ⟩ : ∃ Q9, Q9 = MQ below (kQv D [(q_o, .inr (0, [x_o_width, x_o_height, x_o_planes, x_o_holes, x_o_reach, .ref q_o_cells, x_o_pulls, x_o_holeX, x_o_holeY, x_o_price])), (q_o_cells, .inl (cy 0, 480, .inl res))] A) args s 0 0 A := ⟨_, rfl⟩
  rw [← hQQ]
  have main : ∀ (H : Heap) (locs : List Loc) (ls : Array Slot), va_P D vwCl [(q_o, .inr (0, [x_o_width, x_o_height, x_o_planes, x_o_holes, x_o_reach, .ref q_o_cells, x_o_pulls, x_o_holeX, x_o_holeY, x_o_price])), (q_o_cells, .inl (cy 0, 480, .inl o_cells))] H → va_D A [(q_o, .inr (0, [x_o_width, x_o_height, x_o_planes, x_o_holes, x_o_reach, .ref q_o_cells, x_o_pulls, x_o_holeX, x_o_holeY, x_o_price])), (q_o_cells, .inl (cy 0, 480, .inl o_cells))] → va_S A s.heap H locs → lv_has ls 5 [(0, .ref q_o), (1, .int p1), (2, .int p2), (3, .int p3), (4, .int p4)] → W p l e ({ frames := 0, cells := 0, slots := 0, locals := 0 } : Room) s m args below meth c H locs 0 0 QQ (F0 m 0 ls []) := by
    intro H locs ls hP hD hS hl
    unfold X0_setKind at hF
    refine lv_aload_n hx hb dX0_setKind_0 rfl (lv_at hl 0 rfl) ?_
    refine va_get (D := D) (ci := 0) (v := .ref q_o_cells) (C := RX0) (T := TX0) (N := 10) hx hb hts f_inX0 hown hK hP 0 rfl rfl 5 (by decide) f_f27 (fun _ h9 => h9) rfl dX0_setKind_1 ?_
    refine lv_iload_n hx hb dX0_setKind_4 rfl (lv_at hl 1 rfl) ?_
    refine lv_bipush (v := 96) hx hb dX0_setKind_5 (by decide) ?_
    refine lv_imul hx hb dX0_setKind_7 ?_
    refine lv_iload_n hx hb dX0_setKind_8 rfl (lv_at hl 3 rfl) ?_
    refine lv_bipush (v := 12) hx hb dX0_setKind_9 (by decide) ?_
    refine lv_imul hx hb dX0_setKind_11 ?_
    refine lv_iadd hx hb dX0_setKind_12 ?_
    refine lv_iload_n hx hb dX0_setKind_13 rfl (lv_at hl 2 rfl) ?_
    refine lv_iadd hx hb dX0_setKind_14 ?_
    refine lv_iload hx hb dX0_setKind_15 (lv_at hl 4 rfl) ?_
    obtain ⟨h1, hF⟩ := st_o hF
    refine va_iast hx hb hK hP hD hS 1 0 rfl rfl h1 dX0_setKind_17 (fun H locs hP hD hS => ?_)
    obtain ⟨b2, eb2⟩ : ∃ y : Nat → Int32, y = (upd o_cells (((p1 * (96 : Int32)) + (p3 * (12 : Int32))) + p2).toNatClampNeg p4) := ⟨_, rfl⟩
    have hF := hF b2 eb2
    have hP : va_P D vwCl [(q_o, .inr (0, [x_o_width, x_o_height, x_o_planes, x_o_holes, x_o_reach, .ref q_o_cells, x_o_pulls, x_o_holeX, x_o_holeY, x_o_price])), (q_o_cells, .inl (cy 0, 480, .inl b2))] H := by rw [eb2]; exact hP
    have hD : va_D A [(q_o, .inr (0, [x_o_width, x_o_height, x_o_planes, x_o_holes, x_o_reach, .ref q_o_cells, x_o_pulls, x_o_holeX, x_o_holeY, x_o_price])), (q_o_cells, .inl (cy 0, 480, .inl b2))] := by rw [eb2]; exact hD
    obtain rfl := so_o hF
    rw [hQQ]
    exact kr_v hx hb hr hlocks hP hD hS dX0_setKind_18
  exact main s.heap [] ls hP hD hS hl
theorem kd_X2_clear : yX2_clear.cls = RX2 ∧ yX2_clear.cls ≠ "java/lang/invoke/MethodHandle" ∧ yX2_clear.cls ≠ "java/lang/invoke/VarHandle" ∧ (parseMethodDescriptor yX2_clear.desc).map (fun d => d.parameters.length) = some 0 := by decide +kernel
set_option maxHeartbeats 4000000 in
set_option maxRecDepth 100000 in
theorem c_X2_clear {l : Launch} {D : va_G} {cy : Nat → ClassId} (q_o : Nat) (sz : Nat) (x_o_codes x_o_waiting : Value) (o_size : Int32) (res : Int32) (hF : X2_clear o_size = some res) : Met l yX2_clear wsX2_clear ({ frames := 0, cells := 0, slots := 0, locals := 0 } : Room) (kP (EN D cy) D [.ref q_o] [(q_o, .inr (2, [x_o_codes, .int o_size, x_o_waiting]))] sz) (kQv D [(q_o, .inr (2, [x_o_codes, .int res, x_o_waiting]))] (va_A [(q_o, .inr (2, [x_o_codes, .int o_size, x_o_waiting]))] sz)) 0 0 (va_A [(q_o, .inr (2, [x_o_codes, .int o_size, x_o_waiting]))] sz) := by
  refine kMet (y := yX2_clear) (av := [.ref q_o]) (cc := cX2_clear) (maxL := 1) (ret := none) (own := RX2) (Qc := fun A9 => (kQv D [(q_o, .inr (2, [x_o_codes, .int res, x_o_waiting]))] A9)) (by decide) rfl rfl (Nat.le_of_ble_eq_true rfl) ?_
  intro p e s m args below meth c A hx hb hr hts hown hml hlocks hname hE hP hD hA hsz ls hl
  have hK := hE.1
  have hl : lv_has ls 1 [(0, .ref q_o)] := hl
  have hS : va_S A s.heap s.heap [] := va_S.rf
  have f_f15 := hts (.fieldLink RX2 15 "PeepBox$Price" "size" "I") (by decide +kernel)
  have f_inX2 : ∀ w ∈ wsX20, w ∈ wsX2_clear := by decide +kernel
  obtain ⟨QQ, hQQ⟩ : ∃ Q9, Q9 = MQ below (kQv D [(q_o, .inr (2, [x_o_codes, .int res, x_o_waiting]))] A) args s 0 0 A := ⟨_, rfl⟩
  rw [← hQQ]
  have main : ∀ (H : Heap) (locs : List Loc) (ls : Array Slot), va_P D vwCl [(q_o, .inr (2, [x_o_codes, .int o_size, x_o_waiting]))] H → va_D A [(q_o, .inr (2, [x_o_codes, .int o_size, x_o_waiting]))] → va_S A s.heap H locs → lv_has ls 1 [(0, .ref q_o)] → W p l e ({ frames := 0, cells := 0, slots := 0, locals := 0 } : Room) s m args below meth c H locs 0 0 QQ (F0 m 0 ls []) := by
    intro H locs ls hP hD hS hl
    unfold X2_clear at hF
    refine lv_aload_n hx hb dX2_clear_0 rfl (lv_at hl 0 rfl) ?_
    refine lv_iconst (v := 0) hx hb dX2_clear_1 (by decide) ?_
    refine va_put (D := D) (ci := 2) (v := .int (0 : Int32)) (ty := .int) (C := RX2) (T := TX2) (N := 3) hx hb hts f_inX2 tyX2 tyX2_ok nmX2 hown hK hP hD hS 0 rfl rfl 1 (by decide) f_f15 (fun _ h9 => h9) rfl (by decide +kernel) rfl rfl (Nat.le_of_ble_eq_true rfl) dX2_clear_2 (fun H locs hP hD hS => ?_)
    have hP : va_P D vwCl [(q_o, .inr (2, [x_o_codes, .int (0 : Int32), x_o_waiting]))] H := hP
    have hD : va_D A [(q_o, .inr (2, [x_o_codes, .int (0 : Int32), x_o_waiting]))] := hD
    obtain rfl := so_o hF
    rw [hQQ]
    exact kr_v hx hb hr hlocks hP hD hS dX2_clear_5
  exact main s.heap [] ls hP hD hS hl
theorem kd_X2_add : yX2_add.cls = RX2 ∧ yX2_add.cls ≠ "java/lang/invoke/MethodHandle" ∧ yX2_add.cls ≠ "java/lang/invoke/VarHandle" ∧ (parseMethodDescriptor yX2_add.desc).map (fun d => d.parameters.length) = some 1 := by decide +kernel
set_option maxHeartbeats 4000000 in
set_option maxRecDepth 100000 in
theorem c_X2_add {l : Launch} {D : va_G} {cy : Nat → ClassId} (q_o q_o_codes : Nat) (sz : Nat) (x_o_waiting : Value) (o_size : Int32) (o_codes : Nat → Int32) (p1 : Int32) (res : Int32 × (Nat → Int32)) (hF : X2_add o_size o_codes p1 = some res) : Met l yX2_add wsX2_add ({ frames := 0, cells := 0, slots := 0, locals := 0 } : Room) (kP (EN D cy) D [.ref q_o, .int p1] [(q_o, .inr (2, [.ref q_o_codes, .int o_size, x_o_waiting])), (q_o_codes, .inl (cy 0, 800, .inl o_codes))] sz) (kQv D [(q_o, .inr (2, [.ref q_o_codes, .int res.1, x_o_waiting])), (q_o_codes, .inl (cy 0, 800, .inl res.2))] (va_A [(q_o, .inr (2, [.ref q_o_codes, .int o_size, x_o_waiting])), (q_o_codes, .inl (cy 0, 800, .inl o_codes))] sz)) 0 0 (va_A [(q_o, .inr (2, [.ref q_o_codes, .int o_size, x_o_waiting])), (q_o_codes, .inl (cy 0, 800, .inl o_codes))] sz) := by
  refine kMet (y := yX2_add) (av := [.ref q_o, .int p1]) (cc := cX2_add) (maxL := 2) (ret := none) (own := RX2) (Qc := fun A9 => (kQv D [(q_o, .inr (2, [.ref q_o_codes, .int res.1, x_o_waiting])), (q_o_codes, .inl (cy 0, 800, .inl res.2))] A9)) (by decide) rfl rfl (Nat.le_of_ble_eq_true rfl) ?_
  intro p e s m args below meth c A hx hb hr hts hown hml hlocks hname hE hP hD hA hsz ls hl
  have hK := hE.1
  have hl : lv_has ls 2 [(0, .ref q_o), (1, .int p1)] := hl
  have hS : va_S A s.heap s.heap [] := va_S.rf
  have f_f15 := hts (.fieldLink RX2 15 "PeepBox$Price" "size" "I") (by decide +kernel)
  have f_inX2 : ∀ w ∈ wsX20, w ∈ wsX2_add := by decide +kernel
  have f_f9 := hts (.fieldLink RX2 9 "PeepBox$Price" "codes" "[I") (by decide +kernel)
  obtain ⟨QQ, hQQ⟩ : ∃ Q9, Q9 = MQ below (kQv D [(q_o, .inr (2, [.ref q_o_codes, .int res.1, x_o_waiting])), (q_o_codes, .inl (cy 0, 800, .inl res.2))] A) args s 0 0 A := ⟨_, rfl⟩
  rw [← hQQ]
  have main : ∀ (H : Heap) (locs : List Loc) (ls : Array Slot), va_P D vwCl [(q_o, .inr (2, [.ref q_o_codes, .int o_size, x_o_waiting])), (q_o_codes, .inl (cy 0, 800, .inl o_codes))] H → va_D A [(q_o, .inr (2, [.ref q_o_codes, .int o_size, x_o_waiting])), (q_o_codes, .inl (cy 0, 800, .inl o_codes))] → va_S A s.heap H locs → lv_has ls 2 [(0, .ref q_o), (1, .int p1)] → W p l e ({ frames := 0, cells := 0, slots := 0, locals := 0 } : Room) s m args below meth c H locs 0 0 QQ (F0 m 0 ls []) := by
    intro H locs ls hP hD hS hl
    unfold X2_add at hF
    refine lv_aload_n hx hb dX2_add_0 rfl (lv_at hl 0 rfl) ?_
    refine va_get (D := D) (ci := 2) (v := .int o_size) (C := RX2) (T := TX2) (N := 3) hx hb hts f_inX2 hown hK hP 0 rfl rfl 1 (by decide) f_f15 (fun _ h9 => h9) rfl dX2_add_1 ?_
    refine lv_aload_n hx hb dX2_add_4 rfl (lv_at hl 0 rfl) ?_
    refine va_get (D := D) (ci := 2) (v := .ref q_o_codes) (C := RX2) (T := TX2) (N := 3) hx hb hts f_inX2 hown hK hP 0 rfl rfl 0 (by decide) f_f9 (fun _ h9 => h9) rfl dX2_add_5 ?_
    refine va_alen hx hb hK hP 1 0 rfl rfl (v := 800) rfl dX2_add_8 ?_
    refine lv_icmp_ge (tgt := 32) hx hb dX2_add_9 (by decide) (fun c1 => ?_) (fun c1 => ?_)
    · have hF := if_p hF c1
      obtain rfl := so_o hF
      rw [hQQ]
      exact kr_v hx hb hr hlocks hP hD hS dX2_add_32
    · have hF := if_n hF c1
      refine lv_aload_n hx hb dX2_add_12 rfl (lv_at hl 0 rfl) ?_
      refine va_get (D := D) (ci := 2) (v := .ref q_o_codes) (C := RX2) (T := TX2) (N := 3) hx hb hts f_inX2 hown hK hP 0 rfl rfl 0 (by decide) f_f9 (fun _ h9 => h9) rfl dX2_add_13 ?_
      refine lv_aload_n hx hb dX2_add_16 rfl (lv_at hl 0 rfl) ?_
      refine va_get (D := D) (ci := 2) (v := .int o_size) (C := RX2) (T := TX2) (N := 3) hx hb hts f_inX2 hown hK hP 0 rfl rfl 1 (by decide) f_f15 (fun _ h9 => h9) rfl dX2_add_17 ?_
      refine lv_iload_n hx hb dX2_add_20 rfl (lv_at hl 1 rfl) ?_
      obtain ⟨h2, hF⟩ := st_o hF
      refine va_iast hx hb hK hP hD hS 1 0 rfl rfl h2 dX2_add_21 (fun H locs hP hD hS => ?_)
      obtain ⟨b3, eb3⟩ : ∃ y : Nat → Int32, y = (upd o_codes o_size.toNatClampNeg p1) := ⟨_, rfl⟩
      have hF := hF b3 eb3
      have hP : va_P D vwCl [(q_o, .inr (2, [.ref q_o_codes, .int o_size, x_o_waiting])), (q_o_codes, .inl (cy 0, 800, .inl b3))] H := by rw [eb3]; exact hP
      have hD : va_D A [(q_o, .inr (2, [.ref q_o_codes, .int o_size, x_o_waiting])), (q_o_codes, .inl (cy 0, 800, .inl b3))] := by rw [eb3]; exact hD
      refine lv_aload_n hx hb dX2_add_22 rfl (lv_at hl 0 rfl) ?_
      refine lv_dup hx hb dX2_add_23 rfl ?_
      refine va_get (D := D) (ci := 2) (v := .int o_size) (C := RX2) (T := TX2) (N := 3) hx hb hts f_inX2 hown hK hP 0 rfl rfl 1 (by decide) f_f15 (fun _ h9 => h9) rfl dX2_add_24 ?_
      refine lv_iconst (v := 1) hx hb dX2_add_27 (by decide) ?_
      refine lv_iadd hx hb dX2_add_28 ?_
      refine lv_topi (fun v4 ev4 => ?_)
      have hF := nm_o hF v4 ev4
      refine va_put (D := D) (ci := 2) (v := .int v4) (ty := .int) (C := RX2) (T := TX2) (N := 3) hx hb hts f_inX2 tyX2 tyX2_ok nmX2 hown hK hP hD hS 0 rfl rfl 1 (by decide) f_f15 (fun _ h9 => h9) rfl (by decide +kernel) rfl rfl (Nat.le_of_ble_eq_true rfl) dX2_add_29 (fun H locs hP hD hS => ?_)
      have hP : va_P D vwCl [(q_o, .inr (2, [.ref q_o_codes, .int v4, x_o_waiting])), (q_o_codes, .inl (cy 0, 800, .inl b3))] H := hP
      have hD : va_D A [(q_o, .inr (2, [.ref q_o_codes, .int v4, x_o_waiting])), (q_o_codes, .inl (cy 0, 800, .inl b3))] := hD
      obtain rfl := so_o hF
      rw [hQQ]
      exact kr_v hx hb hr hlocks hP hD hS dX2_add_32
  exact main s.heap [] ls hP hD hS hl
theorem kd_X2_addOperation : yX2_addOperation.cls = RX2 ∧ yX2_addOperation.cls ≠ "java/lang/invoke/MethodHandle" ∧ yX2_addOperation.cls ≠ "java/lang/invoke/VarHandle" ∧ (parseMethodDescriptor yX2_addOperation.desc).map (fun d => d.parameters.length) = some 1 := by decide +kernel
set_option maxHeartbeats 4000000 in
set_option maxRecDepth 100000 in
theorem c_X2_addOperation {l : Launch} {D : va_G} {cy : Nat → ClassId} (q_o q_o_codes : Nat) (sz : Nat) (x_o_waiting : Value) (o_size : Int32) (o_codes : Nat → Int32) (p1 : Int32) (res : Int32 × (Nat → Int32)) (hF : X2_addOperation o_size o_codes p1 = some res) : Met l yX2_addOperation wsX2_addOperation ({ frames := 1, cells := 0, slots := 0, locals := 21 } : Room) (kP (EN D cy) D [.ref q_o, .int p1] [(q_o, .inr (2, [.ref q_o_codes, .int o_size, x_o_waiting])), (q_o_codes, .inl (cy 0, 800, .inl o_codes))] sz) (kQv D [(q_o, .inr (2, [.ref q_o_codes, .int res.1, x_o_waiting])), (q_o_codes, .inl (cy 0, 800, .inl res.2))] (va_A [(q_o, .inr (2, [.ref q_o_codes, .int o_size, x_o_waiting])), (q_o_codes, .inl (cy 0, 800, .inl o_codes))] sz)) 0 0 (va_A [(q_o, .inr (2, [.ref q_o_codes, .int o_size, x_o_waiting])), (q_o_codes, .inl (cy 0, 800, .inl o_codes))] sz) := by
  refine kMet (y := yX2_addOperation) (av := [.ref q_o, .int p1]) (cc := cX2_addOperation) (maxL := 2) (ret := none) (own := RX2) (Qc := fun A9 => (kQv D [(q_o, .inr (2, [.ref q_o_codes, .int res.1, x_o_waiting])), (q_o_codes, .inl (cy 0, 800, .inl res.2))] A9)) (by decide) rfl rfl (Nat.le_of_ble_eq_true rfl) ?_
  intro p e s m args below meth c A hx hb hr hts hown hml hlocks hname hE hP hD hA hsz ls hl
  have hK := hE.1
  have hl : lv_has ls 2 [(0, .ref q_o), (1, .int p1)] := hl
  have hS : va_S A s.heap s.heap [] := va_S.rf
  obtain ⟨QQ, hQQ⟩ : ∃ Q9, Q9 = MQ below (kQv D [(q_o, .inr (2, [.ref q_o_codes, .int res.1, x_o_waiting])), (q_o_codes, .inl (cy 0, 800, .inl res.2))] A) args s 0 0 A := ⟨_, rfl⟩
  rw [← hQQ]
  have main : ∀ (H : Heap) (locs : List Loc) (ls : Array Slot), va_P D vwCl [(q_o, .inr (2, [.ref q_o_codes, .int o_size, x_o_waiting])), (q_o_codes, .inl (cy 0, 800, .inl o_codes))] H → va_D A [(q_o, .inr (2, [.ref q_o_codes, .int o_size, x_o_waiting])), (q_o_codes, .inl (cy 0, 800, .inl o_codes))] → va_S A s.heap H locs → lv_has ls 2 [(0, .ref q_o), (1, .int p1)] → W p l e ({ frames := 1, cells := 0, slots := 0, locals := 21 } : Room) s m args below meth c H locs 0 0 QQ (F0 m 0 ls []) := by
    intro H locs ls hP hD hS hl
    unfold X2_addOperation at hF
    refine lv_iload_n hx hb dX2_addOperation_0 rfl (lv_at hl 1 rfl) ?_
    refine lv_if_eq (tgt := 10) hx hb dX2_addOperation_1 (by decide) (fun c1 => ?_) (fun c1 => ?_)
    · have hF := if_p hF c1
      obtain rfl := so_o hF
      rw [hQQ]
      exact kr_v hx hb hr hlocks hP hD hS dX2_addOperation_10
    · have hF := if_n hF c1
      refine lv_aload_n hx hb dX2_addOperation_4 rfl (lv_at hl 0 rfl) ?_
      refine lv_iload_n hx hb dX2_addOperation_5 rfl (lv_at hl 1 rfl) ?_
      refine lv_ineg hx hb dX2_addOperation_6 ?_
      obtain ⟨o2, o3, h4, hF⟩ := bn2_o hF
      refine kd_v [(q_o, .inr (2, [.ref q_o_codes, .int o2, x_o_waiting])), (q_o_codes, .inl (cy 0, 800, .inl o3))] (va_runV (As := [.int (-p1)]) (rest := []) ⟨hx, hb, hml, hown, hts⟩ (c_X2_add q_o q_o_codes H.size x_o_waiting o_size o_codes (-p1) _ h4) (cwV 1 hts gX2_addOperation_X2_add rfl rfl rfl kd_X2_add ⟨Nat.le_of_ble_eq_true rfl, Nat.le_of_ble_eq_true rfl⟩) ⟨kP_blind (EN_ok D cy) D _ _ _, va_recv hK hP (ci := 2) (q0 := 0) rfl rfl, kStart (EN_ok D cy) hE hP hD hS hA [0, 1] rfl rfl _⟩ rfl rfl hl.1 rfl (lv_room (Nat.le_of_ble_eq_true rfl)) dX2_addOperation_7 ⟨Nat.zero_le _, Nat.zero_le _⟩) hP hD hS hA [0, 1] [] rfl rfl rfl 2 rfl (by decide +kernel) (fun H locs hP hD hS => ?_)
      obtain rfl := so_o hF
      rw [hQQ]
      exact kr_v hx hb hr hlocks hP hD hS dX2_addOperation_10
  exact main s.heap [] ls hP hD hS hl
theorem kd_X2_begin : yX2_begin.cls = RX2 ∧ yX2_begin.cls ≠ "java/lang/invoke/MethodHandle" ∧ yX2_begin.cls ≠ "java/lang/invoke/VarHandle" ∧ (parseMethodDescriptor yX2_begin.desc).map (fun d => d.parameters.length) = some 0 := by decide +kernel
set_option maxHeartbeats 4000000 in
set_option maxRecDepth 100000 in
theorem c_X2_begin {l : Launch} {D : va_G} {cy : Nat → ClassId} (q_o q_o_codes : Nat) (sz : Nat) (x_o_waiting : Value) (o_size : Int32) (o_codes : Nat → Int32) (res : Int32 × (Nat → Int32)) (hF : X2_begin o_size o_codes = some res) : Met l yX2_begin wsX2_begin ({ frames := 2, cells := 0, slots := 0, locals := 42 } : Room) (kP (EN D cy) D [.ref q_o] [(q_o, .inr (2, [.ref q_o_codes, .int o_size, x_o_waiting])), (q_o_codes, .inl (cy 0, 800, .inl o_codes))] sz) (kQv D [(q_o, .inr (2, [.ref q_o_codes, .int res.1, x_o_waiting])), (q_o_codes, .inl (cy 0, 800, .inl res.2))] (va_A [(q_o, .inr (2, [.ref q_o_codes, .int o_size, x_o_waiting])), (q_o_codes, .inl (cy 0, 800, .inl o_codes))] sz)) 0 0 (va_A [(q_o, .inr (2, [.ref q_o_codes, .int o_size, x_o_waiting])), (q_o_codes, .inl (cy 0, 800, .inl o_codes))] sz) := by
  refine kMet (y := yX2_begin) (av := [.ref q_o]) (cc := cX2_begin) (maxL := 1) (ret := none) (own := RX2) (Qc := fun A9 => (kQv D [(q_o, .inr (2, [.ref q_o_codes, .int res.1, x_o_waiting])), (q_o_codes, .inl (cy 0, 800, .inl res.2))] A9)) (by decide) rfl rfl (Nat.le_of_ble_eq_true rfl) ?_
  intro p e s m args below meth c A hx hb hr hts hown hml hlocks hname hE hP hD hA hsz ls hl
  have hK := hE.1
  have hl : lv_has ls 1 [(0, .ref q_o)] := hl
  have hS : va_S A s.heap s.heap [] := va_S.rf
  obtain ⟨QQ, hQQ⟩ : ∃ Q9, Q9 = MQ below (kQv D [(q_o, .inr (2, [.ref q_o_codes, .int res.1, x_o_waiting])), (q_o_codes, .inl (cy 0, 800, .inl res.2))] A) args s 0 0 A := ⟨_, rfl⟩
  rw [← hQQ]
  have main : ∀ (H : Heap) (locs : List Loc) (ls : Array Slot), va_P D vwCl [(q_o, .inr (2, [.ref q_o_codes, .int o_size, x_o_waiting])), (q_o_codes, .inl (cy 0, 800, .inl o_codes))] H → va_D A [(q_o, .inr (2, [.ref q_o_codes, .int o_size, x_o_waiting])), (q_o_codes, .inl (cy 0, 800, .inl o_codes))] → va_S A s.heap H locs → lv_has ls 1 [(0, .ref q_o)] → W p l e ({ frames := 2, cells := 0, slots := 0, locals := 42 } : Room) s m args below meth c H locs 0 0 QQ (F0 m 0 ls []) := by
    intro H locs ls hP hD hS hl
    unfold X2_begin at hF
    refine lv_aload_n hx hb dX2_begin_0 rfl (lv_at hl 0 rfl) ?_
    obtain ⟨o1, h2, hF⟩ := bn1_o hF
    refine kd_v [(q_o, .inr (2, [.ref q_o_codes, .int o1, x_o_waiting])), (q_o_codes, .inl (cy 0, 800, .inl o_codes))] (va_runV (As := []) (rest := []) ⟨hx, hb, hml, hown, hts⟩ (c_X2_clear q_o H.size (.ref q_o_codes) x_o_waiting o_size _ h2) (cwV 0 hts gX2_begin_X2_clear rfl rfl rfl kd_X2_clear ⟨Nat.le_of_ble_eq_true rfl, Nat.le_of_ble_eq_true rfl⟩) ⟨kP_blind (EN_ok D cy) D _ _ _, va_recv hK hP (ci := 2) (q0 := 0) rfl rfl, kStart (EN_ok D cy) hE hP hD hS hA [0] rfl rfl _⟩ rfl rfl hl.1 rfl (lv_room (Nat.le_of_ble_eq_true rfl)) dX2_begin_1 ⟨Nat.zero_le _, Nat.zero_le _⟩) hP hD hS hA [0] [1] rfl rfl rfl 2 rfl (by decide +kernel) (fun H locs hP hD hS => ?_)
    refine lv_aload_n hx hb dX2_begin_4 rfl (lv_at hl 0 rfl) ?_
    refine lv_iconst (v := 1) hx hb dX2_begin_5 (by decide) ?_
    obtain ⟨o3, o4, h5, hF⟩ := bn2_o hF
    refine kd_v [(q_o, .inr (2, [.ref q_o_codes, .int o3, x_o_waiting])), (q_o_codes, .inl (cy 0, 800, .inl o4))] (va_runV (As := [.int (1 : Int32)]) (rest := []) ⟨hx, hb, hml, hown, hts⟩ (c_X2_add q_o q_o_codes H.size x_o_waiting o1 o_codes (1 : Int32) _ h5) (cwV 1 hts gX2_begin_X2_add rfl rfl rfl kd_X2_add ⟨Nat.le_of_ble_eq_true rfl, Nat.le_of_ble_eq_true rfl⟩) ⟨kP_blind (EN_ok D cy) D _ _ _, va_recv hK hP (ci := 2) (q0 := 0) rfl rfl, kStart (EN_ok D cy) hE hP hD hS hA [0, 1] rfl rfl _⟩ rfl rfl hl.1 rfl (lv_room (Nat.le_of_ble_eq_true rfl)) dX2_begin_6 ⟨Nat.zero_le _, Nat.zero_le _⟩) hP hD hS hA [0, 1] [] rfl rfl rfl 2 rfl (by decide +kernel) (fun H locs hP hD hS => ?_)
    refine lv_aload_n hx hb dX2_begin_9 rfl (lv_at hl 0 rfl) ?_
    refine lv_iconst (v := -1) hx hb dX2_begin_10 (by decide) ?_
    obtain ⟨o6, o7, h8, hF⟩ := bn2_o hF
    refine kd_v [(q_o, .inr (2, [.ref q_o_codes, .int o6, x_o_waiting])), (q_o_codes, .inl (cy 0, 800, .inl o7))] (va_runV (As := [.int (-1 : Int32)]) (rest := []) ⟨hx, hb, hml, hown, hts⟩ (c_X2_add q_o q_o_codes H.size x_o_waiting o3 o4 (-1 : Int32) _ h8) (cwV 1 hts gX2_begin_X2_add rfl rfl rfl kd_X2_add ⟨Nat.le_of_ble_eq_true rfl, Nat.le_of_ble_eq_true rfl⟩) ⟨kP_blind (EN_ok D cy) D _ _ _, va_recv hK hP (ci := 2) (q0 := 0) rfl rfl, kStart (EN_ok D cy) hE hP hD hS hA [0, 1] rfl rfl _⟩ rfl rfl hl.1 rfl (lv_room (Nat.le_of_ble_eq_true rfl)) dX2_begin_11 ⟨Nat.zero_le _, Nat.zero_le _⟩) hP hD hS hA [0, 1] [] rfl rfl rfl 2 rfl (by decide +kernel) (fun H locs hP hD hS => ?_)
    refine lv_aload_n hx hb dX2_begin_14 rfl (lv_at hl 0 rfl) ?_
    refine lv_bipush (v := 43) hx hb dX2_begin_15 (by decide) ?_
    obtain ⟨o9, o10, h11, hF⟩ := bn2_o hF
    refine kd_v [(q_o, .inr (2, [.ref q_o_codes, .int o9, x_o_waiting])), (q_o_codes, .inl (cy 0, 800, .inl o10))] (va_runV (As := [.int (43 : Int32)]) (rest := []) ⟨hx, hb, hml, hown, hts⟩ (c_X2_addOperation q_o q_o_codes H.size x_o_waiting o6 o7 (43 : Int32) _ h11) (cwV 1 hts gX2_begin_X2_addOperation rfl rfl rfl kd_X2_addOperation ⟨Nat.le_of_ble_eq_true rfl, Nat.le_of_ble_eq_true rfl⟩) ⟨kP_blind (EN_ok D cy) D _ _ _, va_recv hK hP (ci := 2) (q0 := 0) rfl rfl, kStart (EN_ok D cy) hE hP hD hS hA [0, 1] rfl rfl _⟩ rfl rfl hl.1 rfl (lv_room (Nat.le_of_ble_eq_true rfl)) dX2_begin_17 ⟨Nat.zero_le _, Nat.zero_le _⟩) hP hD hS hA [0, 1] [] rfl rfl rfl 2 rfl (by decide +kernel) (fun H locs hP hD hS => ?_)
    obtain rfl := so_o hF
    rw [hQQ]
    exact kr_v hx hb hr hlocks hP hD hS dX2_begin_20
  exact main s.heap [] ls hP hD hS hl
theorem kd_X0_begin : yX0_begin.cls = RX0 ∧ yX0_begin.cls ≠ "java/lang/invoke/MethodHandle" ∧ yX0_begin.cls ≠ "java/lang/invoke/VarHandle" ∧ (parseMethodDescriptor yX0_begin.desc).map (fun d => d.parameters.length) = some 3 := by decide +kernel
set_option maxHeartbeats 4000000 in
set_option maxRecDepth 100000 in
theorem c_X0_begin {l : Launch} {D : va_G} {cy : Nat → ClassId} (q_o q_o_cells q_o_pulls q_o_price q_o_price_codes : Nat) (sz : Nat) (x_o_holeX x_o_holeY x_o_price_waiting : Value) (o_width : Int32) (o_height : Int32) (o_planes : Int32) (o_holes : Int32) (o_reach : Int32) (o_cells : Nat → Int32) (o_pulls : Nat → Int32) (o_price_size : Int32) (o_price_codes : Nat → Int32) (p1 : Int32) (p2 : Int32) (p3 : Int32) (res : Int32 × Int32 × Int32 × Int32 × Int32 × (Nat → Int32) × (Nat → Int32) × Int32 × (Nat → Int32)) (hF : X0_begin o_width o_height o_planes o_holes o_reach o_cells o_pulls o_price_size o_price_codes p1 p2 p3 = some res) : Met l yX0_begin wsX0_begin ({ frames := 3, cells := 0, slots := 0, locals := 62 } : Room) (kP (EN D cy) D [.ref q_o, .int p1, .int p2, .int p3] [(q_o, .inr (0, [.int o_width, .int o_height, .int o_planes, .int o_holes, .int o_reach, .ref q_o_cells, .ref q_o_pulls, x_o_holeX, x_o_holeY, .ref q_o_price])), (q_o_cells, .inl (cy 0, 480, .inl o_cells)), (q_o_pulls, .inl (cy 0, 5, .inl o_pulls)), (q_o_price, .inr (2, [.ref q_o_price_codes, .int o_price_size, x_o_price_waiting])), (q_o_price_codes, .inl (cy 0, 800, .inl o_price_codes))] sz) (kQv D [(q_o, .inr (0, [.int res.1, .int res.2.1, .int res.2.2.1, .int res.2.2.2.1, .int res.2.2.2.2.1, .ref q_o_cells, .ref q_o_pulls, x_o_holeX, x_o_holeY, .ref q_o_price])), (q_o_cells, .inl (cy 0, 480, .inl res.2.2.2.2.2.1)), (q_o_pulls, .inl (cy 0, 5, .inl res.2.2.2.2.2.2.1)), (q_o_price, .inr (2, [.ref q_o_price_codes, .int res.2.2.2.2.2.2.2.1, x_o_price_waiting])), (q_o_price_codes, .inl (cy 0, 800, .inl res.2.2.2.2.2.2.2.2))] (va_A [(q_o, .inr (0, [.int o_width, .int o_height, .int o_planes, .int o_holes, .int o_reach, .ref q_o_cells, .ref q_o_pulls, x_o_holeX, x_o_holeY, .ref q_o_price])), (q_o_cells, .inl (cy 0, 480, .inl o_cells)), (q_o_pulls, .inl (cy 0, 5, .inl o_pulls)), (q_o_price, .inr (2, [.ref q_o_price_codes, .int o_price_size, x_o_price_waiting])), (q_o_price_codes, .inl (cy 0, 800, .inl o_price_codes))] sz)) 0 0 (va_A [(q_o, .inr (0, [.int o_width, .int o_height, .int o_planes, .int o_holes, .int o_reach, .ref q_o_cells, .ref q_o_pulls, x_o_holeX, x_o_holeY, .ref q_o_price])), (q_o_cells, .inl (cy 0, 480, .inl o_cells)), (q_o_pulls, .inl (cy 0, 5, .inl o_pulls)), (q_o_price, .inr (2, [.ref q_o_price_codes, .int o_price_size, x_o_price_waiting])), (q_o_price_codes, .inl (cy 0, 800, .inl o_price_codes))] sz) := by
  refine kMet (y := yX0_begin) (av := [.ref q_o, .int p1, .int p2, .int p3]) (cc := cX0_begin) (maxL := 6) (ret := none) (own := RX0) (Qc := fun A9 => (kQv D [(q_o, .inr (0, [.int res.1, .int res.2.1, .int res.2.2.1, .int res.2.2.2.1, .int res.2.2.2.2.1, .ref q_o_cells, .ref q_o_pulls, x_o_holeX, x_o_holeY, .ref q_o_price])), (q_o_cells, .inl (cy 0, 480, .inl res.2.2.2.2.2.1)), (q_o_pulls, .inl (cy 0, 5, .inl res.2.2.2.2.2.2.1)), (q_o_price, .inr (2, [.ref q_o_price_codes, .int res.2.2.2.2.2.2.2.1, x_o_price_waiting])), (q_o_price_codes, .inl (cy 0, 800, .inl res.2.2.2.2.2.2.2.2))] A9)) (by decide) rfl rfl (Nat.le_of_ble_eq_true rfl) ?_
  intro p e s m args below meth c A hx hb hr hts hown hml hlocks hname hE hP hD hA hsz ls hl
  have hK := hE.1
  have hl : lv_has ls 6 [(0, .ref q_o), (1, .int p1), (2, .int p2), (3, .int p3)] := hl
  have hS : va_S A s.heap s.heap [] := va_S.rf
  have f_f9 := hts (.fieldLink RX0 9 "PeepBox$Box" "width" "I") (by decide +kernel)
  have f_inX0 : ∀ w ∈ wsX00, w ∈ wsX0_begin := by decide +kernel
  have f_f18 := hts (.fieldLink RX0 18 "PeepBox$Box" "planes" "I") (by decide +kernel)
  have f_f15 := hts (.fieldLink RX0 15 "PeepBox$Box" "height" "I") (by decide +kernel)
  have f_f43 := hts (.fieldLink RX0 43 "PeepBox$Box" "price" "LPeepBox$Price;") (by decide +kernel)
  have f_f21 := hts (.fieldLink RX0 21 "PeepBox$Box" "holes" "I") (by decide +kernel)
  have f_f24 := hts (.fieldLink RX0 24 "PeepBox$Box" "reach" "I") (by decide +kernel)
  have f_f27 := hts (.fieldLink RX0 27 "PeepBox$Box" "cells" "[I") (by decide +kernel)
  have f_f31 := hts (.fieldLink RX0 31 "PeepBox$Box" "pulls" "[I") (by decide +kernel)
  obtain ⟨QQ, hQQ⟩ : ∃ Q9, Q9 = MQ below (kQv D [(q_o, .inr (0, [.int res.1, .int res.2.1, .int res.2.2.1, .int res.2.2.2.1, .int res.2.2.2.2.1, .ref q_o_cells, .ref q_o_pulls, x_o_holeX, x_o_holeY, .ref q_o_price])), (q_o_cells, .inl (cy 0, 480, .inl res.2.2.2.2.2.1)), (q_o_pulls, .inl (cy 0, 5, .inl res.2.2.2.2.2.2.1)), (q_o_price, .inr (2, [.ref q_o_price_codes, .int res.2.2.2.2.2.2.2.1, x_o_price_waiting])), (q_o_price_codes, .inl (cy 0, 800, .inl res.2.2.2.2.2.2.2.2))] A) args s 0 0 A := ⟨_, rfl⟩
  rw [← hQQ]
  have J45 : ∀ (n45 : Nat) (l4 : Int32) (o_width : Int32) (o_height : Int32) (o_planes : Int32) (o_holes : Int32) (o_reach : Int32) (o_cells : Nat → Int32) (o_pulls : Nat → Int32) (H : Heap) (locs : List Loc) (ls : Array Slot), va_P D vwCl [(q_o, .inr (0, [.int o_width, .int o_height, .int o_planes, .int o_holes, .int o_reach, .ref q_o_cells, .ref q_o_pulls, x_o_holeX, x_o_holeY, .ref q_o_price])), (q_o_cells, .inl (cy 0, 480, .inl o_cells)), (q_o_pulls, .inl (cy 0, 5, .inl o_pulls)), (q_o_price, .inr (2, [.ref q_o_price_codes, .int o_price_size, x_o_price_waiting])), (q_o_price_codes, .inl (cy 0, 800, .inl o_price_codes))] H → va_D A [(q_o, .inr (0, [.int o_width, .int o_height, .int o_planes, .int o_holes, .int o_reach, .ref q_o_cells, .ref q_o_pulls, x_o_holeX, x_o_holeY, .ref q_o_price])), (q_o_cells, .inl (cy 0, 480, .inl o_cells)), (q_o_pulls, .inl (cy 0, 5, .inl o_pulls)), (q_o_price, .inr (2, [.ref q_o_price_codes, .int o_price_size, x_o_price_waiting])), (q_o_price_codes, .inl (cy 0, 800, .inl o_price_codes))] → va_S A s.heap H locs → lv_has ls 6 [(0, .ref q_o), (4, .int l4)] → X0_begin_L45 o_price_size o_price_codes p1 p2 p3 n45 l4 o_width o_height o_planes o_holes o_reach o_cells o_pulls = some res → W p l e ({ frames := 3, cells := 0, slots := 0, locals := 62 } : Room) s m args below meth c H locs 0 0 QQ (F0 m 45 ls []) := by
    intro n45
    induction n45 with
    | zero =>
      intro l4 o_width o_height o_planes o_holes o_reach o_cells o_pulls H locs ls hP hD hS hl hF
      rw [X0_begin_L45] at hF
      cases hF
    | succ n45 ih45 =>
      have J57 : ∀ (n57 : Nat) (l4 : Int32) (l5 : Int32) (o_width : Int32) (o_height : Int32) (o_planes : Int32) (o_holes : Int32) (o_reach : Int32) (o_cells : Nat → Int32) (o_pulls : Nat → Int32) (H : Heap) (locs : List Loc) (ls : Array Slot), va_P D vwCl [(q_o, .inr (0, [.int o_width, .int o_height, .int o_planes, .int o_holes, .int o_reach, .ref q_o_cells, .ref q_o_pulls, x_o_holeX, x_o_holeY, .ref q_o_price])), (q_o_cells, .inl (cy 0, 480, .inl o_cells)), (q_o_pulls, .inl (cy 0, 5, .inl o_pulls)), (q_o_price, .inr (2, [.ref q_o_price_codes, .int o_price_size, x_o_price_waiting])), (q_o_price_codes, .inl (cy 0, 800, .inl o_price_codes))] H → va_D A [(q_o, .inr (0, [.int o_width, .int o_height, .int o_planes, .int o_holes, .int o_reach, .ref q_o_cells, .ref q_o_pulls, x_o_holeX, x_o_holeY, .ref q_o_price])), (q_o_cells, .inl (cy 0, 480, .inl o_cells)), (q_o_pulls, .inl (cy 0, 5, .inl o_pulls)), (q_o_price, .inr (2, [.ref q_o_price_codes, .int o_price_size, x_o_price_waiting])), (q_o_price_codes, .inl (cy 0, 800, .inl o_price_codes))] → va_S A s.heap H locs → lv_has ls 6 [(0, .ref q_o), (4, .int l4), (5, .int l5)] → X0_begin_L57 o_price_size o_price_codes p1 p2 p3 (fun z0 z1 z2 z3 z4 z5 z6 z7 => X0_begin_L45 o_price_size o_price_codes p1 p2 p3 n45 z0 z1 z2 z3 z4 z5 z6 z7) n57 l4 l5 o_width o_height o_planes o_holes o_reach o_cells o_pulls = some res → W p l e ({ frames := 3, cells := 0, slots := 0, locals := 62 } : Room) s m args below meth c H locs 0 0 QQ (F0 m 57 ls []) := by
        intro n57
        induction n57 with
        | zero =>
          intro l4 l5 o_width o_height o_planes o_holes o_reach o_cells o_pulls H locs ls hP hD hS hl hF
          rw [X0_begin_L57] at hF
          cases hF
        | succ n57 ih57 =>
          intro l4 l5 o_width o_height o_planes o_holes o_reach o_cells o_pulls H locs ls hP hD hS hl hF
          rw [X0_begin_L57] at hF
          refine lv_iload hx hb dX0_begin_57 (lv_at hl 2 rfl) ?_
          refine lv_aload_n hx hb dX0_begin_59 rfl (lv_at hl 0 rfl) ?_
          refine va_get (D := D) (ci := 0) (v := .int o_width) (C := RX0) (T := TX0) (N := 10) hx hb hts f_inX0 hown hK hP 0 rfl rfl 0 (by decide) f_f9 (fun _ h9 => h9) rfl dX0_begin_60 ?_
          refine lv_icmp_ge (tgt := 87) hx hb dX0_begin_63 (by decide) (fun c1 => ?_) (fun c1 => ?_)
          · have hF := if_p hF c1
            obtain ⟨v2, ev2⟩ : ∃ y : Int32, y = l4 + (1 : Int32) := ⟨_, rfl⟩
            have hF := nm_o hF v2 ev2
            refine lv_iinc (v := v2) (lv' := [(4, .int v2), (0, .ref q_o), (5, .int l5)]) hx hb dX0_begin_87 hl (k := 1) rfl (by rw [ev2]; rfl) (by decide) rfl (fun ls hl => ?_)
            refine lv_goto (tgt := 45) hx hb dX0_begin_90 (by decide) ?_
            exact ih45 v2 o_width o_height o_planes o_holes o_reach o_cells o_pulls H locs ls hP hD hS (lv_sub hl [1, 0] rfl) hF
          · have hF := if_n hF c1
            refine lv_aload_n hx hb dX0_begin_66 rfl (lv_at hl 0 rfl) ?_
            refine lv_aload_n hx hb dX0_begin_67 rfl (lv_at hl 0 rfl) ?_
            refine va_get (D := D) (ci := 0) (v := .int o_planes) (C := RX0) (T := TX0) (N := 10) hx hb hts f_inX0 hown hK hP 0 rfl rfl 2 (by decide) f_f18 (fun _ h9 => h9) rfl dX0_begin_68 ?_
            refine lv_iconst (v := 1) hx hb dX0_begin_71 (by decide) ?_
            refine lv_isub hx hb dX0_begin_72 ?_
            refine lv_iload hx hb dX0_begin_73 (lv_at hl 2 rfl) ?_
            refine lv_iload hx hb dX0_begin_75 (lv_at hl 1 rfl) ?_
            refine lv_iconst (v := 0) hx hb dX0_begin_77 (by decide) ?_
            obtain ⟨o3, h4, hF⟩ := bn1_o hF
            refine kd_v [(q_o, .inr (0, [.int o_width, .int o_height, .int o_planes, .int o_holes, .int o_reach, .ref q_o_cells, .ref q_o_pulls, x_o_holeX, x_o_holeY, .ref q_o_price])), (q_o_cells, .inl (cy 0, 480, .inl o3)), (q_o_pulls, .inl (cy 0, 5, .inl o_pulls)), (q_o_price, .inr (2, [.ref q_o_price_codes, .int o_price_size, x_o_price_waiting])), (q_o_price_codes, .inl (cy 0, 800, .inl o_price_codes))] (va_runV (As := [.int (o_planes - (1 : Int32)), .int l5, .int l4, .int (0 : Int32)]) (rest := []) ⟨hx, hb, hml, hown, hts⟩ (c_X0_setKind q_o q_o_cells H.size (.int o_width) (.int o_height) (.int o_planes) (.int o_holes) (.int o_reach) (.ref q_o_pulls) x_o_holeX x_o_holeY (.ref q_o_price) o_cells (o_planes - (1 : Int32)) l5 l4 (0 : Int32) _ h4) (cwV 4 hts gX0_begin_X0_setKind rfl rfl rfl kd_X0_setKind ⟨Nat.le_of_ble_eq_true rfl, Nat.le_of_ble_eq_true rfl⟩) ⟨kP_blind (EN_ok D cy) D _ _ _, va_recv hK hP (ci := 0) (q0 := 0) rfl rfl, kStart (EN_ok D cy) hE hP hD hS hA [0, 1] rfl rfl _⟩ rfl rfl hl.1 rfl (lv_room (Nat.le_of_ble_eq_true rfl)) dX0_begin_78 ⟨Nat.zero_le _, Nat.zero_le _⟩) hP hD hS hA [0, 1] [2, 3, 4] rfl rfl rfl 5 rfl (by decide +kernel) (fun H locs hP hD hS => ?_)
            obtain ⟨v5, ev5⟩ : ∃ y : Int32, y = l5 + (1 : Int32) := ⟨_, rfl⟩
            have hF := nm_o hF v5 ev5
            refine lv_iinc (v := v5) (lv' := [(5, .int v5), (0, .ref q_o), (4, .int l4)]) hx hb dX0_begin_81 hl (k := 2) rfl (by rw [ev5]; rfl) (by decide) rfl (fun ls hl => ?_)
            refine lv_goto (tgt := 57) hx hb dX0_begin_84 (by decide) ?_
            exact ih57 l4 v5 o_width o_height o_planes o_holes o_reach o3 o_pulls H locs ls hP hD hS (lv_sub hl [1, 2, 0] rfl) hF
      intro l4 o_width o_height o_planes o_holes o_reach o_cells o_pulls H locs ls hP hD hS hl hF
      rw [X0_begin_L45] at hF
      refine lv_iload hx hb dX0_begin_45 (lv_at hl 1 rfl) ?_
      refine lv_aload_n hx hb dX0_begin_47 rfl (lv_at hl 0 rfl) ?_
      refine va_get (D := D) (ci := 0) (v := .int o_height) (C := RX0) (T := TX0) (N := 10) hx hb hts f_inX0 hown hK hP 0 rfl rfl 1 (by decide) f_f15 (fun _ h9 => h9) rfl dX0_begin_48 ?_
      refine lv_icmp_ge (tgt := 93) hx hb dX0_begin_51 (by decide) (fun c6 => ?_) (fun c6 => ?_)
      · have hF := if_p hF c6
        refine lv_aload_n hx hb dX0_begin_93 rfl (lv_at hl 0 rfl) ?_
        refine va_get (D := D) (ci := 0) (v := .ref q_o_price) (C := RX0) (T := TX0) (N := 10) hx hb hts f_inX0 hown hK hP 0 rfl rfl 9 (by decide) f_f43 (fun _ h9 => h9) rfl dX0_begin_94 ?_
        obtain ⟨o7, o8, h9, hF⟩ := bn2_o hF
        refine kd_v [(q_o, .inr (0, [.int o_width, .int o_height, .int o_planes, .int o_holes, .int o_reach, .ref q_o_cells, .ref q_o_pulls, x_o_holeX, x_o_holeY, .ref q_o_price])), (q_o_cells, .inl (cy 0, 480, .inl o_cells)), (q_o_pulls, .inl (cy 0, 5, .inl o_pulls)), (q_o_price, .inr (2, [.ref q_o_price_codes, .int o7, x_o_price_waiting])), (q_o_price_codes, .inl (cy 0, 800, .inl o8))] (va_runV (As := []) (rest := []) ⟨hx, hb, hml, hown, hts⟩ (c_X2_begin q_o_price q_o_price_codes H.size x_o_price_waiting o_price_size o_price_codes _ h9) (cwV 0 hts gX0_begin_X2_begin rfl rfl rfl kd_X2_begin ⟨Nat.le_of_ble_eq_true rfl, Nat.le_of_ble_eq_true rfl⟩) ⟨kP_blind (EN_ok D cy) D _ _ _, va_recv hK hP (ci := 2) (q0 := 3) rfl rfl, kStart (EN_ok D cy) hE hP hD hS hA [3, 4] rfl rfl _⟩ rfl rfl hl.1 rfl (lv_room (Nat.le_of_ble_eq_true rfl)) dX0_begin_97 ⟨Nat.zero_le _, Nat.zero_le _⟩) hP hD hS hA [3, 4] [0, 1, 2] rfl rfl rfl 5 rfl (by decide +kernel) (fun H locs hP hD hS => ?_)
        obtain rfl := so_o hF
        rw [hQQ]
        exact kr_v hx hb hr hlocks hP hD hS dX0_begin_100
      · have hF := if_n hF c6
        refine lv_iconst (v := 0) hx hb dX0_begin_54 (by decide) ?_
        refine lv_istore (lv' := [(5, .int (0 : Int32)), (0, .ref q_o), (4, .int l4)]) hx hb dX0_begin_55 hl (by decide) rfl (fun ls hl => ?_)
        exact J57 FU l4 (0 : Int32) o_width o_height o_planes o_holes o_reach o_cells o_pulls H locs ls hP hD hS (lv_sub hl [1, 2, 0] rfl) hF
  have main : ∀ (H : Heap) (locs : List Loc) (ls : Array Slot), va_P D vwCl [(q_o, .inr (0, [.int o_width, .int o_height, .int o_planes, .int o_holes, .int o_reach, .ref q_o_cells, .ref q_o_pulls, x_o_holeX, x_o_holeY, .ref q_o_price])), (q_o_cells, .inl (cy 0, 480, .inl o_cells)), (q_o_pulls, .inl (cy 0, 5, .inl o_pulls)), (q_o_price, .inr (2, [.ref q_o_price_codes, .int o_price_size, x_o_price_waiting])), (q_o_price_codes, .inl (cy 0, 800, .inl o_price_codes))] H → va_D A [(q_o, .inr (0, [.int o_width, .int o_height, .int o_planes, .int o_holes, .int o_reach, .ref q_o_cells, .ref q_o_pulls, x_o_holeX, x_o_holeY, .ref q_o_price])), (q_o_cells, .inl (cy 0, 480, .inl o_cells)), (q_o_pulls, .inl (cy 0, 5, .inl o_pulls)), (q_o_price, .inr (2, [.ref q_o_price_codes, .int o_price_size, x_o_price_waiting])), (q_o_price_codes, .inl (cy 0, 800, .inl o_price_codes))] → va_S A s.heap H locs → lv_has ls 6 [(0, .ref q_o), (1, .int p1), (2, .int p2), (3, .int p3)] → W p l e ({ frames := 3, cells := 0, slots := 0, locals := 62 } : Room) s m args below meth c H locs 0 0 QQ (F0 m 0 ls []) := by
    intro H locs ls hP hD hS hl
    unfold X0_begin at hF
    refine lv_aload_n hx hb dX0_begin_0 rfl (lv_at hl 0 rfl) ?_
    refine lv_iload_n hx hb dX0_begin_1 rfl (lv_at hl 1 rfl) ?_
    refine va_put (D := D) (ci := 0) (v := .int p1) (ty := .int) (C := RX0) (T := TX0) (N := 10) hx hb hts f_inX0 tyX0 tyX0_ok nmX0 hown hK hP hD hS 0 rfl rfl 0 (by decide) f_f9 (fun _ h9 => h9) rfl (by decide +kernel) rfl rfl (Nat.le_of_ble_eq_true rfl) dX0_begin_2 (fun H locs hP hD hS => ?_)
    have hP : va_P D vwCl [(q_o, .inr (0, [.int p1, .int o_height, .int o_planes, .int o_holes, .int o_reach, .ref q_o_cells, .ref q_o_pulls, x_o_holeX, x_o_holeY, .ref q_o_price])), (q_o_cells, .inl (cy 0, 480, .inl o_cells)), (q_o_pulls, .inl (cy 0, 5, .inl o_pulls)), (q_o_price, .inr (2, [.ref q_o_price_codes, .int o_price_size, x_o_price_waiting])), (q_o_price_codes, .inl (cy 0, 800, .inl o_price_codes))] H := hP
    have hD : va_D A [(q_o, .inr (0, [.int p1, .int o_height, .int o_planes, .int o_holes, .int o_reach, .ref q_o_cells, .ref q_o_pulls, x_o_holeX, x_o_holeY, .ref q_o_price])), (q_o_cells, .inl (cy 0, 480, .inl o_cells)), (q_o_pulls, .inl (cy 0, 5, .inl o_pulls)), (q_o_price, .inr (2, [.ref q_o_price_codes, .int o_price_size, x_o_price_waiting])), (q_o_price_codes, .inl (cy 0, 800, .inl o_price_codes))] := hD
    refine lv_aload_n hx hb dX0_begin_5 rfl (lv_at hl 0 rfl) ?_
    refine lv_iload_n hx hb dX0_begin_6 rfl (lv_at hl 2 rfl) ?_
    refine va_put (D := D) (ci := 0) (v := .int p2) (ty := .int) (C := RX0) (T := TX0) (N := 10) hx hb hts f_inX0 tyX0 tyX0_ok nmX0 hown hK hP hD hS 0 rfl rfl 1 (by decide) f_f15 (fun _ h9 => h9) rfl (by decide +kernel) rfl rfl (Nat.le_of_ble_eq_true rfl) dX0_begin_7 (fun H locs hP hD hS => ?_)
    have hP : va_P D vwCl [(q_o, .inr (0, [.int p1, .int p2, .int o_planes, .int o_holes, .int o_reach, .ref q_o_cells, .ref q_o_pulls, x_o_holeX, x_o_holeY, .ref q_o_price])), (q_o_cells, .inl (cy 0, 480, .inl o_cells)), (q_o_pulls, .inl (cy 0, 5, .inl o_pulls)), (q_o_price, .inr (2, [.ref q_o_price_codes, .int o_price_size, x_o_price_waiting])), (q_o_price_codes, .inl (cy 0, 800, .inl o_price_codes))] H := hP
    have hD : va_D A [(q_o, .inr (0, [.int p1, .int p2, .int o_planes, .int o_holes, .int o_reach, .ref q_o_cells, .ref q_o_pulls, x_o_holeX, x_o_holeY, .ref q_o_price])), (q_o_cells, .inl (cy 0, 480, .inl o_cells)), (q_o_pulls, .inl (cy 0, 5, .inl o_pulls)), (q_o_price, .inr (2, [.ref q_o_price_codes, .int o_price_size, x_o_price_waiting])), (q_o_price_codes, .inl (cy 0, 800, .inl o_price_codes))] := hD
    refine lv_aload_n hx hb dX0_begin_10 rfl (lv_at hl 0 rfl) ?_
    refine lv_iload_n hx hb dX0_begin_11 rfl (lv_at hl 3 rfl) ?_
    refine va_put (D := D) (ci := 0) (v := .int p3) (ty := .int) (C := RX0) (T := TX0) (N := 10) hx hb hts f_inX0 tyX0 tyX0_ok nmX0 hown hK hP hD hS 0 rfl rfl 2 (by decide) f_f18 (fun _ h9 => h9) rfl (by decide +kernel) rfl rfl (Nat.le_of_ble_eq_true rfl) dX0_begin_12 (fun H locs hP hD hS => ?_)
    have hP : va_P D vwCl [(q_o, .inr (0, [.int p1, .int p2, .int p3, .int o_holes, .int o_reach, .ref q_o_cells, .ref q_o_pulls, x_o_holeX, x_o_holeY, .ref q_o_price])), (q_o_cells, .inl (cy 0, 480, .inl o_cells)), (q_o_pulls, .inl (cy 0, 5, .inl o_pulls)), (q_o_price, .inr (2, [.ref q_o_price_codes, .int o_price_size, x_o_price_waiting])), (q_o_price_codes, .inl (cy 0, 800, .inl o_price_codes))] H := hP
    have hD : va_D A [(q_o, .inr (0, [.int p1, .int p2, .int p3, .int o_holes, .int o_reach, .ref q_o_cells, .ref q_o_pulls, x_o_holeX, x_o_holeY, .ref q_o_price])), (q_o_cells, .inl (cy 0, 480, .inl o_cells)), (q_o_pulls, .inl (cy 0, 5, .inl o_pulls)), (q_o_price, .inr (2, [.ref q_o_price_codes, .int o_price_size, x_o_price_waiting])), (q_o_price_codes, .inl (cy 0, 800, .inl o_price_codes))] := hD
    refine lv_aload_n hx hb dX0_begin_15 rfl (lv_at hl 0 rfl) ?_
    refine lv_iconst (v := 0) hx hb dX0_begin_16 (by decide) ?_
    refine va_put (D := D) (ci := 0) (v := .int (0 : Int32)) (ty := .int) (C := RX0) (T := TX0) (N := 10) hx hb hts f_inX0 tyX0 tyX0_ok nmX0 hown hK hP hD hS 0 rfl rfl 3 (by decide) f_f21 (fun _ h9 => h9) rfl (by decide +kernel) rfl rfl (Nat.le_of_ble_eq_true rfl) dX0_begin_17 (fun H locs hP hD hS => ?_)
    have hP : va_P D vwCl [(q_o, .inr (0, [.int p1, .int p2, .int p3, .int (0 : Int32), .int o_reach, .ref q_o_cells, .ref q_o_pulls, x_o_holeX, x_o_holeY, .ref q_o_price])), (q_o_cells, .inl (cy 0, 480, .inl o_cells)), (q_o_pulls, .inl (cy 0, 5, .inl o_pulls)), (q_o_price, .inr (2, [.ref q_o_price_codes, .int o_price_size, x_o_price_waiting])), (q_o_price_codes, .inl (cy 0, 800, .inl o_price_codes))] H := hP
    have hD : va_D A [(q_o, .inr (0, [.int p1, .int p2, .int p3, .int (0 : Int32), .int o_reach, .ref q_o_cells, .ref q_o_pulls, x_o_holeX, x_o_holeY, .ref q_o_price])), (q_o_cells, .inl (cy 0, 480, .inl o_cells)), (q_o_pulls, .inl (cy 0, 5, .inl o_pulls)), (q_o_price, .inr (2, [.ref q_o_price_codes, .int o_price_size, x_o_price_waiting])), (q_o_price_codes, .inl (cy 0, 800, .inl o_price_codes))] := hD
    refine lv_aload_n hx hb dX0_begin_20 rfl (lv_at hl 0 rfl) ?_
    refine lv_bipush (v := 9) hx hb dX0_begin_21 (by decide) ?_
    refine va_put (D := D) (ci := 0) (v := .int (9 : Int32)) (ty := .int) (C := RX0) (T := TX0) (N := 10) hx hb hts f_inX0 tyX0 tyX0_ok nmX0 hown hK hP hD hS 0 rfl rfl 4 (by decide) f_f24 (fun _ h9 => h9) rfl (by decide +kernel) rfl rfl (Nat.le_of_ble_eq_true rfl) dX0_begin_23 (fun H locs hP hD hS => ?_)
    have hP : va_P D vwCl [(q_o, .inr (0, [.int p1, .int p2, .int p3, .int (0 : Int32), .int (9 : Int32), .ref q_o_cells, .ref q_o_pulls, x_o_holeX, x_o_holeY, .ref q_o_price])), (q_o_cells, .inl (cy 0, 480, .inl o_cells)), (q_o_pulls, .inl (cy 0, 5, .inl o_pulls)), (q_o_price, .inr (2, [.ref q_o_price_codes, .int o_price_size, x_o_price_waiting])), (q_o_price_codes, .inl (cy 0, 800, .inl o_price_codes))] H := hP
    have hD : va_D A [(q_o, .inr (0, [.int p1, .int p2, .int p3, .int (0 : Int32), .int (9 : Int32), .ref q_o_cells, .ref q_o_pulls, x_o_holeX, x_o_holeY, .ref q_o_price])), (q_o_cells, .inl (cy 0, 480, .inl o_cells)), (q_o_pulls, .inl (cy 0, 5, .inl o_pulls)), (q_o_price, .inr (2, [.ref q_o_price_codes, .int o_price_size, x_o_price_waiting])), (q_o_price_codes, .inl (cy 0, 800, .inl o_price_codes))] := hD
    refine lv_aload_n hx hb dX0_begin_26 rfl (lv_at hl 0 rfl) ?_
    refine va_get (D := D) (ci := 0) (v := .ref q_o_cells) (C := RX0) (T := TX0) (N := 10) hx hb hts f_inX0 hown hK hP 0 rfl rfl 5 (by decide) f_f27 (fun _ h9 => h9) rfl dX0_begin_27 ?_
    refine lv_iconst (v := -1) hx hb dX0_begin_30 (by decide) ?_
    obtain ⟨o10, h11, hF⟩ := bn1_o hF
    refine kd_v [(q_o, .inr (0, [.int p1, .int p2, .int p3, .int (0 : Int32), .int (9 : Int32), .ref q_o_cells, .ref q_o_pulls, x_o_holeX, x_o_holeY, .ref q_o_price])), (q_o_cells, .inl (cy 0, 480, .inl o10)), (q_o_pulls, .inl (cy 0, 5, .inl o_pulls)), (q_o_price, .inr (2, [.ref q_o_price_codes, .int o_price_size, x_o_price_waiting])), (q_o_price_codes, .inl (cy 0, 800, .inl o_price_codes))] (va_runS (As := [.ref q_o_cells, .int (-1 : Int32)]) (rest := []) ⟨hx, hb, hml, hown, hts⟩ (c_J7_fill_53178 480 q_o_cells H.size o_cells (-1 : Int32) _ h11) (va_cwS 2 hts gX0_begin_J7_fill_53178 rfl rfl rfl kd_J7_fill_53178 ⟨Nat.le_of_ble_eq_true rfl, Nat.le_of_ble_eq_true rfl⟩) ⟨kP_blind (EN_ok D cy) D _ _ _, kStart (EN_ok D cy) hE hP hD hS hA [1] rfl rfl _⟩ rfl rfl hl.1 rfl (lv_room (Nat.le_of_ble_eq_true rfl)) dX0_begin_31 ⟨Nat.zero_le _, Nat.zero_le _⟩) hP hD hS hA [1] [0, 2, 3, 4] rfl rfl rfl 5 rfl (by decide +kernel) (fun H locs hP hD hS => ?_)
    refine lv_aload_n hx hb dX0_begin_34 rfl (lv_at hl 0 rfl) ?_
    refine va_get (D := D) (ci := 0) (v := .ref q_o_pulls) (C := RX0) (T := TX0) (N := 10) hx hb hts f_inX0 hown hK hP 0 rfl rfl 6 (by decide) f_f31 (fun _ h9 => h9) rfl dX0_begin_35 ?_
    refine lv_iconst (v := 0) hx hb dX0_begin_38 (by decide) ?_
    obtain ⟨o12, h13, hF⟩ := bn1_o hF
    refine kd_v [(q_o, .inr (0, [.int p1, .int p2, .int p3, .int (0 : Int32), .int (9 : Int32), .ref q_o_cells, .ref q_o_pulls, x_o_holeX, x_o_holeY, .ref q_o_price])), (q_o_cells, .inl (cy 0, 480, .inl o10)), (q_o_pulls, .inl (cy 0, 5, .inl o12)), (q_o_price, .inr (2, [.ref q_o_price_codes, .int o_price_size, x_o_price_waiting])), (q_o_price_codes, .inl (cy 0, 800, .inl o_price_codes))] (va_runS (As := [.ref q_o_pulls, .int (0 : Int32)]) (rest := []) ⟨hx, hb, hml, hown, hts⟩ (c_J7_fill_53178 5 q_o_pulls H.size o_pulls (0 : Int32) _ h13) (va_cwS 2 hts gX0_begin_J7_fill_53178 rfl rfl rfl kd_J7_fill_53178 ⟨Nat.le_of_ble_eq_true rfl, Nat.le_of_ble_eq_true rfl⟩) ⟨kP_blind (EN_ok D cy) D _ _ _, kStart (EN_ok D cy) hE hP hD hS hA [2] rfl rfl _⟩ rfl rfl hl.1 rfl (lv_room (Nat.le_of_ble_eq_true rfl)) dX0_begin_39 ⟨Nat.zero_le _, Nat.zero_le _⟩) hP hD hS hA [2] [0, 1, 3, 4] rfl rfl rfl 5 rfl (by decide +kernel) (fun H locs hP hD hS => ?_)
    refine lv_iconst (v := 0) hx hb dX0_begin_42 (by decide) ?_
    refine lv_istore (lv' := [(4, .int (0 : Int32)), (0, .ref q_o), (1, .int p1), (2, .int p2), (3, .int p3)]) hx hb dX0_begin_43 hl (by decide) rfl (fun ls hl => ?_)
    exact J45 FU (0 : Int32) p1 p2 p3 (0 : Int32) (9 : Int32) o10 o12 H locs ls hP hD hS (lv_sub hl [1, 0] rfl) hF
  exact main s.heap [] ls hP hD hS hl
theorem kd_X2_copyFrom : yX2_copyFrom.cls = RX2 ∧ yX2_copyFrom.cls ≠ "java/lang/invoke/MethodHandle" ∧ yX2_copyFrom.cls ≠ "java/lang/invoke/VarHandle" ∧ (parseMethodDescriptor yX2_copyFrom.desc).map (fun d => d.parameters.length) = some 1 := by decide +kernel
set_option maxHeartbeats 4000000 in
set_option maxRecDepth 100000 in
theorem c_X2_copyFrom {l : Launch} {D : va_G} {cy : Nat → ClassId} (q_o q_o_codes q_p1 q_p1_codes : Nat) (sz : Nat) (x_o_waiting x_p1_waiting : Value) (o_size : Int32) (o_codes : Nat → Int32) (p1_size : Int32) (p1_codes : Nat → Int32) (res : Int32 × (Nat → Int32)) (hF : X2_copyFrom o_size o_codes p1_size p1_codes = some res) : Met l yX2_copyFrom wsX2_copyFrom ({ frames := 1, cells := 0, slots := 0, locals := 60 } : Room) (kP (EN D cy) D [.ref q_o, .ref q_p1] [(q_o, .inr (2, [.ref q_o_codes, .int o_size, x_o_waiting])), (q_o_codes, .inl (cy 0, 800, .inl o_codes)), (q_p1, .inr (2, [.ref q_p1_codes, .int p1_size, x_p1_waiting])), (q_p1_codes, .inl (cy 0, 800, .inl p1_codes))] sz) (kQv D [(q_o, .inr (2, [.ref q_o_codes, .int res.1, x_o_waiting])), (q_o_codes, .inl (cy 0, 800, .inl res.2)), (q_p1, .inr (2, [.ref q_p1_codes, .int p1_size, x_p1_waiting])), (q_p1_codes, .inl (cy 0, 800, .inl p1_codes))] (va_A [(q_o, .inr (2, [.ref q_o_codes, .int o_size, x_o_waiting])), (q_o_codes, .inl (cy 0, 800, .inl o_codes)), (q_p1, .inr (2, [.ref q_p1_codes, .int p1_size, x_p1_waiting])), (q_p1_codes, .inl (cy 0, 800, .inl p1_codes))] sz)) 0 0 (va_A [(q_o, .inr (2, [.ref q_o_codes, .int o_size, x_o_waiting])), (q_o_codes, .inl (cy 0, 800, .inl o_codes)), (q_p1, .inr (2, [.ref q_p1_codes, .int p1_size, x_p1_waiting])), (q_p1_codes, .inl (cy 0, 800, .inl p1_codes))] sz) := by
  refine kMet (y := yX2_copyFrom) (av := [.ref q_o, .ref q_p1]) (cc := cX2_copyFrom) (maxL := 2) (ret := none) (own := RX2) (Qc := fun A9 => (kQv D [(q_o, .inr (2, [.ref q_o_codes, .int res.1, x_o_waiting])), (q_o_codes, .inl (cy 0, 800, .inl res.2)), (q_p1, .inr (2, [.ref q_p1_codes, .int p1_size, x_p1_waiting])), (q_p1_codes, .inl (cy 0, 800, .inl p1_codes))] A9)) (by decide) rfl rfl (Nat.le_of_ble_eq_true rfl) ?_
  intro p e s m args below meth c A hx hb hr hts hown hml hlocks hname hE hP hD hA hsz ls hl
  have hK := hE.1
  have hl : lv_has ls 2 [(0, .ref q_o), (1, .ref q_p1)] := hl
  have hS : va_S A s.heap s.heap [] := va_S.rf
  have f_f15 := hts (.fieldLink RX2 15 "PeepBox$Price" "size" "I") (by decide +kernel)
  have f_inX2 : ∀ w ∈ wsX20, w ∈ wsX2_copyFrom := by decide +kernel
  have f_f9 := hts (.fieldLink RX2 9 "PeepBox$Price" "codes" "[I") (by decide +kernel)
  have f_m32 := hts (.methodLink RX2 32 arraycopyName) (by decide +kernel)
  have f_nat := hts (.native arraycopyName) (by decide +kernel)
  have f_snat := hts (.static arraycopyName) (by decide +kernel)
  have f_iSys := hts (.initialized "java/lang/System") (by decide +kernel)
  obtain ⟨QQ, hQQ⟩ : ∃ Q9, Q9 = MQ below (kQv D [(q_o, .inr (2, [.ref q_o_codes, .int res.1, x_o_waiting])), (q_o_codes, .inl (cy 0, 800, .inl res.2)), (q_p1, .inr (2, [.ref q_p1_codes, .int p1_size, x_p1_waiting])), (q_p1_codes, .inl (cy 0, 800, .inl p1_codes))] A) args s 0 0 A := ⟨_, rfl⟩
  rw [← hQQ]
  have main : ∀ (H : Heap) (locs : List Loc) (ls : Array Slot), va_P D vwCl [(q_o, .inr (2, [.ref q_o_codes, .int o_size, x_o_waiting])), (q_o_codes, .inl (cy 0, 800, .inl o_codes)), (q_p1, .inr (2, [.ref q_p1_codes, .int p1_size, x_p1_waiting])), (q_p1_codes, .inl (cy 0, 800, .inl p1_codes))] H → va_D A [(q_o, .inr (2, [.ref q_o_codes, .int o_size, x_o_waiting])), (q_o_codes, .inl (cy 0, 800, .inl o_codes)), (q_p1, .inr (2, [.ref q_p1_codes, .int p1_size, x_p1_waiting])), (q_p1_codes, .inl (cy 0, 800, .inl p1_codes))] → va_S A s.heap H locs → lv_has ls 2 [(0, .ref q_o), (1, .ref q_p1)] → W p l e ({ frames := 1, cells := 0, slots := 0, locals := 60 } : Room) s m args below meth c H locs 0 0 QQ (F0 m 0 ls []) := by
    intro H locs ls hP hD hS hl
    unfold X2_copyFrom at hF
    refine lv_aload_n hx hb dX2_copyFrom_0 rfl (lv_at hl 0 rfl) ?_
    refine lv_aload_n hx hb dX2_copyFrom_1 rfl (lv_at hl 1 rfl) ?_
    refine va_get (D := D) (ci := 2) (v := .int p1_size) (C := RX2) (T := TX2) (N := 3) hx hb hts f_inX2 hown hK hP 2 rfl rfl 1 (by decide) f_f15 (fun _ h9 => h9) rfl dX2_copyFrom_2 ?_
    refine va_put (D := D) (ci := 2) (v := .int p1_size) (ty := .int) (C := RX2) (T := TX2) (N := 3) hx hb hts f_inX2 tyX2 tyX2_ok nmX2 hown hK hP hD hS 0 rfl rfl 1 (by decide) f_f15 (fun _ h9 => h9) rfl (by decide +kernel) rfl rfl (Nat.le_of_ble_eq_true rfl) dX2_copyFrom_5 (fun H locs hP hD hS => ?_)
    have hP : va_P D vwCl [(q_o, .inr (2, [.ref q_o_codes, .int p1_size, x_o_waiting])), (q_o_codes, .inl (cy 0, 800, .inl o_codes)), (q_p1, .inr (2, [.ref q_p1_codes, .int p1_size, x_p1_waiting])), (q_p1_codes, .inl (cy 0, 800, .inl p1_codes))] H := hP
    have hD : va_D A [(q_o, .inr (2, [.ref q_o_codes, .int p1_size, x_o_waiting])), (q_o_codes, .inl (cy 0, 800, .inl o_codes)), (q_p1, .inr (2, [.ref q_p1_codes, .int p1_size, x_p1_waiting])), (q_p1_codes, .inl (cy 0, 800, .inl p1_codes))] := hD
    refine lv_aload_n hx hb dX2_copyFrom_8 rfl (lv_at hl 1 rfl) ?_
    refine va_get (D := D) (ci := 2) (v := .ref q_p1_codes) (C := RX2) (T := TX2) (N := 3) hx hb hts f_inX2 hown hK hP 2 rfl rfl 0 (by decide) f_f9 (fun _ h9 => h9) rfl dX2_copyFrom_9 ?_
    refine lv_iconst (v := 0) hx hb dX2_copyFrom_12 (by decide) ?_
    refine lv_aload_n hx hb dX2_copyFrom_13 rfl (lv_at hl 0 rfl) ?_
    refine va_get (D := D) (ci := 2) (v := .ref q_o_codes) (C := RX2) (T := TX2) (N := 3) hx hb hts f_inX2 hown hK hP 0 rfl rfl 0 (by decide) f_f9 (fun _ h9 => h9) rfl dX2_copyFrom_14 ?_
    refine lv_iconst (v := 0) hx hb dX2_copyFrom_17 (by decide) ?_
    refine lv_aload_n hx hb dX2_copyFrom_18 rfl (lv_at hl 0 rfl) ?_
    refine va_get (D := D) (ci := 2) (v := .int p1_size) (C := RX2) (T := TX2) (N := 3) hx hb hts f_inX2 hown hK hP 0 rfl rfl 1 (by decide) f_f15 (fun _ h9 => h9) rfl dX2_copyFrom_19 ?_
    obtain ⟨⟨h11, h12, h13⟩, hF⟩ := ck_o hF
    obtain ⟨b2, eb2⟩ : ∃ y : Nat → Int32, y = (va_cpy p1_codes o_codes (0 : Int32).toNatClampNeg (0 : Int32).toNatClampNeg p1_size.toNatClampNeg) := ⟨_, rfl⟩
    have hF := nm_o hF b2 eb2
    refine va_copyi hx hb (by rw [hml]; exact hl.1.symm) hown f_m32 f_nat f_snat f_iSys hK hP hD hS 3 1 0 0 rfl rfl rfl rfl rfl (by decide) (by decide) h11 h12 h13 (fun _ _ => rfl) (Nat.le_of_ble_eq_true rfl) (Nat.le_of_ble_eq_true rfl) dX2_copyFrom_22 (fun H locs hP hD hS => ?_)
    have hP : va_P D vwCl [(q_o, .inr (2, [.ref q_o_codes, .int p1_size, x_o_waiting])), (q_o_codes, .inl (cy 0, 800, .inl b2)), (q_p1, .inr (2, [.ref q_p1_codes, .int p1_size, x_p1_waiting])), (q_p1_codes, .inl (cy 0, 800, .inl p1_codes))] H := by rw [eb2]; exact hP
    have hD : va_D A [(q_o, .inr (2, [.ref q_o_codes, .int p1_size, x_o_waiting])), (q_o_codes, .inl (cy 0, 800, .inl b2)), (q_p1, .inr (2, [.ref q_p1_codes, .int p1_size, x_p1_waiting])), (q_p1_codes, .inl (cy 0, 800, .inl p1_codes))] := by rw [eb2]; exact hD
    obtain rfl := so_o hF
    rw [hQQ]
    exact kr_v hx hb hr hlocks hP hD hS dX2_copyFrom_25
  exact main s.heap [] ls hP hD hS hl
theorem kd_X0_copyFrom : yX0_copyFrom.cls = RX0 ∧ yX0_copyFrom.cls ≠ "java/lang/invoke/MethodHandle" ∧ yX0_copyFrom.cls ≠ "java/lang/invoke/VarHandle" ∧ (parseMethodDescriptor yX0_copyFrom.desc).map (fun d => d.parameters.length) = some 1 := by decide +kernel
set_option maxHeartbeats 4000000 in
set_option maxRecDepth 100000 in
theorem c_X0_copyFrom {l : Launch} {D : va_G} {cy : Nat → ClassId} (q_o q_o_cells q_o_pulls q_o_holeX q_o_holeY q_o_price q_o_price_codes q_p1 q_p1_cells q_p1_pulls q_p1_holeX q_p1_holeY q_p1_price q_p1_price_codes : Nat) (sz : Nat) (x_o_price_waiting x_p1_price_waiting : Value) (o_width : Int32) (o_height : Int32) (o_planes : Int32) (o_holes : Int32) (o_reach : Int32) (o_cells : Nat → Int32) (o_pulls : Nat → Int32) (o_holeX : Nat → Int32) (o_holeY : Nat → Int32) (o_price_size : Int32) (o_price_codes : Nat → Int32) (p1_width : Int32) (p1_height : Int32) (p1_planes : Int32) (p1_holes : Int32) (p1_reach : Int32) (p1_cells : Nat → Int32) (p1_pulls : Nat → Int32) (p1_holeX : Nat → Int32) (p1_holeY : Nat → Int32) (p1_price_size : Int32) (p1_price_codes : Nat → Int32) (res : Int32 × Int32 × Int32 × Int32 × Int32 × (Nat → Int32) × (Nat → Int32) × (Nat → Int32) × (Nat → Int32) × Int32 × (Nat → Int32)) (hF : X0_copyFrom o_width o_height o_planes o_holes o_reach o_cells o_pulls o_holeX o_holeY o_price_size o_price_codes p1_width p1_height p1_planes p1_holes p1_reach p1_cells p1_pulls p1_holeX p1_holeY p1_price_size p1_price_codes = some res) : Met l yX0_copyFrom wsX0_copyFrom ({ frames := 2, cells := 0, slots := 0, locals := 81 } : Room) (kP (EN D cy) D [.ref q_o, .ref q_p1] [(q_o, .inr (0, [.int o_width, .int o_height, .int o_planes, .int o_holes, .int o_reach, .ref q_o_cells, .ref q_o_pulls, .ref q_o_holeX, .ref q_o_holeY, .ref q_o_price])), (q_o_cells, .inl (cy 0, 480, .inl o_cells)), (q_o_pulls, .inl (cy 0, 5, .inl o_pulls)), (q_o_holeX, .inl (cy 0, 4, .inl o_holeX)), (q_o_holeY, .inl (cy 0, 4, .inl o_holeY)), (q_o_price, .inr (2, [.ref q_o_price_codes, .int o_price_size, x_o_price_waiting])), (q_o_price_codes, .inl (cy 0, 800, .inl o_price_codes)), (q_p1, .inr (0, [.int p1_width, .int p1_height, .int p1_planes, .int p1_holes, .int p1_reach, .ref q_p1_cells, .ref q_p1_pulls, .ref q_p1_holeX, .ref q_p1_holeY, .ref q_p1_price])), (q_p1_cells, .inl (cy 0, 480, .inl p1_cells)), (q_p1_pulls, .inl (cy 0, 5, .inl p1_pulls)), (q_p1_holeX, .inl (cy 0, 4, .inl p1_holeX)), (q_p1_holeY, .inl (cy 0, 4, .inl p1_holeY)), (q_p1_price, .inr (2, [.ref q_p1_price_codes, .int p1_price_size, x_p1_price_waiting])), (q_p1_price_codes, .inl (cy 0, 800, .inl p1_price_codes))] sz) (kQv D [(q_o, .inr (0, [.int res.1, .int res.2.1, .int res.2.2.1, .int res.2.2.2.1, .int res.2.2.2.2.1, .ref q_o_cells, .ref q_o_pulls, .ref q_o_holeX, .ref q_o_holeY, .ref q_o_price])), (q_o_cells, .inl (cy 0, 480, .inl res.2.2.2.2.2.1)), (q_o_pulls, .inl (cy 0, 5, .inl res.2.2.2.2.2.2.1)), (q_o_holeX, .inl (cy 0, 4, .inl res.2.2.2.2.2.2.2.1)), (q_o_holeY, .inl (cy 0, 4, .inl res.2.2.2.2.2.2.2.2.1)), (q_o_price, .inr (2, [.ref q_o_price_codes, .int res.2.2.2.2.2.2.2.2.2.1, x_o_price_waiting])), (q_o_price_codes, .inl (cy 0, 800, .inl res.2.2.2.2.2.2.2.2.2.2)), (q_p1, .inr (0, [.int p1_width, .int p1_height, .int p1_planes, .int p1_holes, .int p1_reach, .ref q_p1_cells, .ref q_p1_pulls, .ref q_p1_holeX, .ref q_p1_holeY, .ref q_p1_price])), (q_p1_cells, .inl (cy 0, 480, .inl p1_cells)), (q_p1_pulls, .inl (cy 0, 5, .inl p1_pulls)), (q_p1_holeX, .inl (cy 0, 4, .inl p1_holeX)), (q_p1_holeY, .inl (cy 0, 4, .inl p1_holeY)), (q_p1_price, .inr (2, [.ref q_p1_price_codes, .int p1_price_size, x_p1_price_waiting])), (q_p1_price_codes, .inl (cy 0, 800, .inl p1_price_codes))] (va_A [(q_o, .inr (0, [.int o_width, .int o_height, .int o_planes, .int o_holes, .int o_reach, .ref q_o_cells, .ref q_o_pulls, .ref q_o_holeX, .ref q_o_holeY, .ref q_o_price])), (q_o_cells, .inl (cy 0, 480, .inl o_cells)), (q_o_pulls, .inl (cy 0, 5, .inl o_pulls)), (q_o_holeX, .inl (cy 0, 4, .inl o_holeX)), (q_o_holeY, .inl (cy 0, 4, .inl o_holeY)), (q_o_price, .inr (2, [.ref q_o_price_codes, .int o_price_size, x_o_price_waiting])), (q_o_price_codes, .inl (cy 0, 800, .inl o_price_codes)), (q_p1, .inr (0, [.int p1_width, .int p1_height, .int p1_planes, .int p1_holes, .int p1_reach, .ref q_p1_cells, .ref q_p1_pulls, .ref q_p1_holeX, .ref q_p1_holeY, .ref q_p1_price])), (q_p1_cells, .inl (cy 0, 480, .inl p1_cells)), (q_p1_pulls, .inl (cy 0, 5, .inl p1_pulls)), (q_p1_holeX, .inl (cy 0, 4, .inl p1_holeX)), (q_p1_holeY, .inl (cy 0, 4, .inl p1_holeY)), (q_p1_price, .inr (2, [.ref q_p1_price_codes, .int p1_price_size, x_p1_price_waiting])), (q_p1_price_codes, .inl (cy 0, 800, .inl p1_price_codes))] sz)) 0 0 (va_A [(q_o, .inr (0, [.int o_width, .int o_height, .int o_planes, .int o_holes, .int o_reach, .ref q_o_cells, .ref q_o_pulls, .ref q_o_holeX, .ref q_o_holeY, .ref q_o_price])), (q_o_cells, .inl (cy 0, 480, .inl o_cells)), (q_o_pulls, .inl (cy 0, 5, .inl o_pulls)), (q_o_holeX, .inl (cy 0, 4, .inl o_holeX)), (q_o_holeY, .inl (cy 0, 4, .inl o_holeY)), (q_o_price, .inr (2, [.ref q_o_price_codes, .int o_price_size, x_o_price_waiting])), (q_o_price_codes, .inl (cy 0, 800, .inl o_price_codes)), (q_p1, .inr (0, [.int p1_width, .int p1_height, .int p1_planes, .int p1_holes, .int p1_reach, .ref q_p1_cells, .ref q_p1_pulls, .ref q_p1_holeX, .ref q_p1_holeY, .ref q_p1_price])), (q_p1_cells, .inl (cy 0, 480, .inl p1_cells)), (q_p1_pulls, .inl (cy 0, 5, .inl p1_pulls)), (q_p1_holeX, .inl (cy 0, 4, .inl p1_holeX)), (q_p1_holeY, .inl (cy 0, 4, .inl p1_holeY)), (q_p1_price, .inr (2, [.ref q_p1_price_codes, .int p1_price_size, x_p1_price_waiting])), (q_p1_price_codes, .inl (cy 0, 800, .inl p1_price_codes))] sz) := by
  refine kMet (y := yX0_copyFrom) (av := [.ref q_o, .ref q_p1]) (cc := cX0_copyFrom) (maxL := 2) (ret := none) (own := RX0) (Qc := fun A9 => (kQv D [(q_o, .inr (0, [.int res.1, .int res.2.1, .int res.2.2.1, .int res.2.2.2.1, .int res.2.2.2.2.1, .ref q_o_cells, .ref q_o_pulls, .ref q_o_holeX, .ref q_o_holeY, .ref q_o_price])), (q_o_cells, .inl (cy 0, 480, .inl res.2.2.2.2.2.1)), (q_o_pulls, .inl (cy 0, 5, .inl res.2.2.2.2.2.2.1)), (q_o_holeX, .inl (cy 0, 4, .inl res.2.2.2.2.2.2.2.1)), (q_o_holeY, .inl (cy 0, 4, .inl res.2.2.2.2.2.2.2.2.1)), (q_o_price, .inr (2, [.ref q_o_price_codes, .int res.2.2.2.2.2.2.2.2.2.1, x_o_price_waiting])), (q_o_price_codes, .inl (cy 0, 800, .inl res.2.2.2.2.2.2.2.2.2.2)), (q_p1, .inr (0, [.int p1_width, .int p1_height, .int p1_planes, .int p1_holes, .int p1_reach, .ref q_p1_cells, .ref q_p1_pulls, .ref q_p1_holeX, .ref q_p1_holeY, .ref q_p1_price])), (q_p1_cells, .inl (cy 0, 480, .inl p1_cells)), (q_p1_pulls, .inl (cy 0, 5, .inl p1_pulls)), (q_p1_holeX, .inl (cy 0, 4, .inl p1_holeX)), (q_p1_holeY, .inl (cy 0, 4, .inl p1_holeY)), (q_p1_price, .inr (2, [.ref q_p1_price_codes, .int p1_price_size, x_p1_price_waiting])), (q_p1_price_codes, .inl (cy 0, 800, .inl p1_price_codes))] A9)) (by decide) rfl rfl (Nat.le_of_ble_eq_true rfl) ?_
  intro p e s m args below meth c A hx hb hr hts hown hml hlocks hname hE hP hD hA hsz ls hl
  have hK := hE.1
  have hl : lv_has ls 2 [(0, .ref q_o), (1, .ref q_p1)] := hl
  have hS : va_S A s.heap s.heap [] := va_S.rf
  have f_f9 := hts (.fieldLink RX0 9 "PeepBox$Box" "width" "I") (by decide +kernel)
  have f_inX0 : ∀ w ∈ wsX00, w ∈ wsX0_copyFrom := by decide +kernel
  have f_f15 := hts (.fieldLink RX0 15 "PeepBox$Box" "height" "I") (by decide +kernel)
  have f_f18 := hts (.fieldLink RX0 18 "PeepBox$Box" "planes" "I") (by decide +kernel)
  have f_f21 := hts (.fieldLink RX0 21 "PeepBox$Box" "holes" "I") (by decide +kernel)
  have f_f24 := hts (.fieldLink RX0 24 "PeepBox$Box" "reach" "I") (by decide +kernel)
  have f_f27 := hts (.fieldLink RX0 27 "PeepBox$Box" "cells" "[I") (by decide +kernel)
  have f_m60 := hts (.methodLink RX0 60 arraycopyName) (by decide +kernel)
  have f_nat := hts (.native arraycopyName) (by decide +kernel)
  have f_snat := hts (.static arraycopyName) (by decide +kernel)
  have f_iSys := hts (.initialized "java/lang/System") (by decide +kernel)
  have f_f31 := hts (.fieldLink RX0 31 "PeepBox$Box" "pulls" "[I") (by decide +kernel)
  have f_f34 := hts (.fieldLink RX0 34 "PeepBox$Box" "holeX" "[I") (by decide +kernel)
  have f_f37 := hts (.fieldLink RX0 37 "PeepBox$Box" "holeY" "[I") (by decide +kernel)
  have f_f43 := hts (.fieldLink RX0 43 "PeepBox$Box" "price" "LPeepBox$Price;") (by decide +kernel)
  obtain ⟨QQ, hQQ⟩ : ∃ Q9, Q9 = MQ below (kQv D [(q_o, .inr (0, [.int res.1, .int res.2.1, .int res.2.2.1, .int res.2.2.2.1, .int res.2.2.2.2.1, .ref q_o_cells, .ref q_o_pulls, .ref q_o_holeX, .ref q_o_holeY, .ref q_o_price])), (q_o_cells, .inl (cy 0, 480, .inl res.2.2.2.2.2.1)), (q_o_pulls, .inl (cy 0, 5, .inl res.2.2.2.2.2.2.1)), (q_o_holeX, .inl (cy 0, 4, .inl res.2.2.2.2.2.2.2.1)), (q_o_holeY, .inl (cy 0, 4, .inl res.2.2.2.2.2.2.2.2.1)), (q_o_price, .inr (2, [.ref q_o_price_codes, .int res.2.2.2.2.2.2.2.2.2.1, x_o_price_waiting])), (q_o_price_codes, .inl (cy 0, 800, .inl res.2.2.2.2.2.2.2.2.2.2)), (q_p1, .inr (0, [.int p1_width, .int p1_height, .int p1_planes, .int p1_holes, .int p1_reach, .ref q_p1_cells, .ref q_p1_pulls, .ref q_p1_holeX, .ref q_p1_holeY, .ref q_p1_price])), (q_p1_cells, .inl (cy 0, 480, .inl p1_cells)), (q_p1_pulls, .inl (cy 0, 5, .inl p1_pulls)), (q_p1_holeX, .inl (cy 0, 4, .inl p1_holeX)), (q_p1_holeY, .inl (cy 0, 4, .inl p1_holeY)), (q_p1_price, .inr (2, [.ref q_p1_price_codes, .int p1_price_size, x_p1_price_waiting])), (q_p1_price_codes, .inl (cy 0, 800, .inl p1_price_codes))] A) args s 0 0 A := ⟨_, rfl⟩
  rw [← hQQ]
  have main : ∀ (H : Heap) (locs : List Loc) (ls : Array Slot), va_P D vwCl [(q_o, .inr (0, [.int o_width, .int o_height, .int o_planes, .int o_holes, .int o_reach, .ref q_o_cells, .ref q_o_pulls, .ref q_o_holeX, .ref q_o_holeY, .ref q_o_price])), (q_o_cells, .inl (cy 0, 480, .inl o_cells)), (q_o_pulls, .inl (cy 0, 5, .inl o_pulls)), (q_o_holeX, .inl (cy 0, 4, .inl o_holeX)), (q_o_holeY, .inl (cy 0, 4, .inl o_holeY)), (q_o_price, .inr (2, [.ref q_o_price_codes, .int o_price_size, x_o_price_waiting])), (q_o_price_codes, .inl (cy 0, 800, .inl o_price_codes)), (q_p1, .inr (0, [.int p1_width, .int p1_height, .int p1_planes, .int p1_holes, .int p1_reach, .ref q_p1_cells, .ref q_p1_pulls, .ref q_p1_holeX, .ref q_p1_holeY, .ref q_p1_price])), (q_p1_cells, .inl (cy 0, 480, .inl p1_cells)), (q_p1_pulls, .inl (cy 0, 5, .inl p1_pulls)), (q_p1_holeX, .inl (cy 0, 4, .inl p1_holeX)), (q_p1_holeY, .inl (cy 0, 4, .inl p1_holeY)), (q_p1_price, .inr (2, [.ref q_p1_price_codes, .int p1_price_size, x_p1_price_waiting])), (q_p1_price_codes, .inl (cy 0, 800, .inl p1_price_codes))] H → va_D A [(q_o, .inr (0, [.int o_width, .int o_height, .int o_planes, .int o_holes, .int o_reach, .ref q_o_cells, .ref q_o_pulls, .ref q_o_holeX, .ref q_o_holeY, .ref q_o_price])), (q_o_cells, .inl (cy 0, 480, .inl o_cells)), (q_o_pulls, .inl (cy 0, 5, .inl o_pulls)), (q_o_holeX, .inl (cy 0, 4, .inl o_holeX)), (q_o_holeY, .inl (cy 0, 4, .inl o_holeY)), (q_o_price, .inr (2, [.ref q_o_price_codes, .int o_price_size, x_o_price_waiting])), (q_o_price_codes, .inl (cy 0, 800, .inl o_price_codes)), (q_p1, .inr (0, [.int p1_width, .int p1_height, .int p1_planes, .int p1_holes, .int p1_reach, .ref q_p1_cells, .ref q_p1_pulls, .ref q_p1_holeX, .ref q_p1_holeY, .ref q_p1_price])), (q_p1_cells, .inl (cy 0, 480, .inl p1_cells)), (q_p1_pulls, .inl (cy 0, 5, .inl p1_pulls)), (q_p1_holeX, .inl (cy 0, 4, .inl p1_holeX)), (q_p1_holeY, .inl (cy 0, 4, .inl p1_holeY)), (q_p1_price, .inr (2, [.ref q_p1_price_codes, .int p1_price_size, x_p1_price_waiting])), (q_p1_price_codes, .inl (cy 0, 800, .inl p1_price_codes))] → va_S A s.heap H locs → lv_has ls 2 [(0, .ref q_o), (1, .ref q_p1)] → W p l e ({ frames := 2, cells := 0, slots := 0, locals := 81 } : Room) s m args below meth c H locs 0 0 QQ (F0 m 0 ls []) := by
    intro H locs ls hP hD hS hl
    unfold X0_copyFrom at hF
    refine lv_aload_n hx hb dX0_copyFrom_0 rfl (lv_at hl 0 rfl) ?_
    refine lv_aload_n hx hb dX0_copyFrom_1 rfl (lv_at hl 1 rfl) ?_
    refine va_get (D := D) (ci := 0) (v := .int p1_width) (C := RX0) (T := TX0) (N := 10) hx hb hts f_inX0 hown hK hP 7 rfl rfl 0 (by decide) f_f9 (fun _ h9 => h9) rfl dX0_copyFrom_2 ?_
    refine va_put (D := D) (ci := 0) (v := .int p1_width) (ty := .int) (C := RX0) (T := TX0) (N := 10) hx hb hts f_inX0 tyX0 tyX0_ok nmX0 hown hK hP hD hS 0 rfl rfl 0 (by decide) f_f9 (fun _ h9 => h9) rfl (by decide +kernel) rfl rfl (Nat.le_of_ble_eq_true rfl) dX0_copyFrom_5 (fun H locs hP hD hS => ?_)
    have hP : va_P D vwCl [(q_o, .inr (0, [.int p1_width, .int o_height, .int o_planes, .int o_holes, .int o_reach, .ref q_o_cells, .ref q_o_pulls, .ref q_o_holeX, .ref q_o_holeY, .ref q_o_price])), (q_o_cells, .inl (cy 0, 480, .inl o_cells)), (q_o_pulls, .inl (cy 0, 5, .inl o_pulls)), (q_o_holeX, .inl (cy 0, 4, .inl o_holeX)), (q_o_holeY, .inl (cy 0, 4, .inl o_holeY)), (q_o_price, .inr (2, [.ref q_o_price_codes, .int o_price_size, x_o_price_waiting])), (q_o_price_codes, .inl (cy 0, 800, .inl o_price_codes)), (q_p1, .inr (0, [.int p1_width, .int p1_height, .int p1_planes, .int p1_holes, .int p1_reach, .ref q_p1_cells, .ref q_p1_pulls, .ref q_p1_holeX, .ref q_p1_holeY, .ref q_p1_price])), (q_p1_cells, .inl (cy 0, 480, .inl p1_cells)), (q_p1_pulls, .inl (cy 0, 5, .inl p1_pulls)), (q_p1_holeX, .inl (cy 0, 4, .inl p1_holeX)), (q_p1_holeY, .inl (cy 0, 4, .inl p1_holeY)), (q_p1_price, .inr (2, [.ref q_p1_price_codes, .int p1_price_size, x_p1_price_waiting])), (q_p1_price_codes, .inl (cy 0, 800, .inl p1_price_codes))] H := hP
    have hD : va_D A [(q_o, .inr (0, [.int p1_width, .int o_height, .int o_planes, .int o_holes, .int o_reach, .ref q_o_cells, .ref q_o_pulls, .ref q_o_holeX, .ref q_o_holeY, .ref q_o_price])), (q_o_cells, .inl (cy 0, 480, .inl o_cells)), (q_o_pulls, .inl (cy 0, 5, .inl o_pulls)), (q_o_holeX, .inl (cy 0, 4, .inl o_holeX)), (q_o_holeY, .inl (cy 0, 4, .inl o_holeY)), (q_o_price, .inr (2, [.ref q_o_price_codes, .int o_price_size, x_o_price_waiting])), (q_o_price_codes, .inl (cy 0, 800, .inl o_price_codes)), (q_p1, .inr (0, [.int p1_width, .int p1_height, .int p1_planes, .int p1_holes, .int p1_reach, .ref q_p1_cells, .ref q_p1_pulls, .ref q_p1_holeX, .ref q_p1_holeY, .ref q_p1_price])), (q_p1_cells, .inl (cy 0, 480, .inl p1_cells)), (q_p1_pulls, .inl (cy 0, 5, .inl p1_pulls)), (q_p1_holeX, .inl (cy 0, 4, .inl p1_holeX)), (q_p1_holeY, .inl (cy 0, 4, .inl p1_holeY)), (q_p1_price, .inr (2, [.ref q_p1_price_codes, .int p1_price_size, x_p1_price_waiting])), (q_p1_price_codes, .inl (cy 0, 800, .inl p1_price_codes))] := hD
    refine lv_aload_n hx hb dX0_copyFrom_8 rfl (lv_at hl 0 rfl) ?_
    refine lv_aload_n hx hb dX0_copyFrom_9 rfl (lv_at hl 1 rfl) ?_
    refine va_get (D := D) (ci := 0) (v := .int p1_height) (C := RX0) (T := TX0) (N := 10) hx hb hts f_inX0 hown hK hP 7 rfl rfl 1 (by decide) f_f15 (fun _ h9 => h9) rfl dX0_copyFrom_10 ?_
    refine va_put (D := D) (ci := 0) (v := .int p1_height) (ty := .int) (C := RX0) (T := TX0) (N := 10) hx hb hts f_inX0 tyX0 tyX0_ok nmX0 hown hK hP hD hS 0 rfl rfl 1 (by decide) f_f15 (fun _ h9 => h9) rfl (by decide +kernel) rfl rfl (Nat.le_of_ble_eq_true rfl) dX0_copyFrom_13 (fun H locs hP hD hS => ?_)
    have hP : va_P D vwCl [(q_o, .inr (0, [.int p1_width, .int p1_height, .int o_planes, .int o_holes, .int o_reach, .ref q_o_cells, .ref q_o_pulls, .ref q_o_holeX, .ref q_o_holeY, .ref q_o_price])), (q_o_cells, .inl (cy 0, 480, .inl o_cells)), (q_o_pulls, .inl (cy 0, 5, .inl o_pulls)), (q_o_holeX, .inl (cy 0, 4, .inl o_holeX)), (q_o_holeY, .inl (cy 0, 4, .inl o_holeY)), (q_o_price, .inr (2, [.ref q_o_price_codes, .int o_price_size, x_o_price_waiting])), (q_o_price_codes, .inl (cy 0, 800, .inl o_price_codes)), (q_p1, .inr (0, [.int p1_width, .int p1_height, .int p1_planes, .int p1_holes, .int p1_reach, .ref q_p1_cells, .ref q_p1_pulls, .ref q_p1_holeX, .ref q_p1_holeY, .ref q_p1_price])), (q_p1_cells, .inl (cy 0, 480, .inl p1_cells)), (q_p1_pulls, .inl (cy 0, 5, .inl p1_pulls)), (q_p1_holeX, .inl (cy 0, 4, .inl p1_holeX)), (q_p1_holeY, .inl (cy 0, 4, .inl p1_holeY)), (q_p1_price, .inr (2, [.ref q_p1_price_codes, .int p1_price_size, x_p1_price_waiting])), (q_p1_price_codes, .inl (cy 0, 800, .inl p1_price_codes))] H := hP
    have hD : va_D A [(q_o, .inr (0, [.int p1_width, .int p1_height, .int o_planes, .int o_holes, .int o_reach, .ref q_o_cells, .ref q_o_pulls, .ref q_o_holeX, .ref q_o_holeY, .ref q_o_price])), (q_o_cells, .inl (cy 0, 480, .inl o_cells)), (q_o_pulls, .inl (cy 0, 5, .inl o_pulls)), (q_o_holeX, .inl (cy 0, 4, .inl o_holeX)), (q_o_holeY, .inl (cy 0, 4, .inl o_holeY)), (q_o_price, .inr (2, [.ref q_o_price_codes, .int o_price_size, x_o_price_waiting])), (q_o_price_codes, .inl (cy 0, 800, .inl o_price_codes)), (q_p1, .inr (0, [.int p1_width, .int p1_height, .int p1_planes, .int p1_holes, .int p1_reach, .ref q_p1_cells, .ref q_p1_pulls, .ref q_p1_holeX, .ref q_p1_holeY, .ref q_p1_price])), (q_p1_cells, .inl (cy 0, 480, .inl p1_cells)), (q_p1_pulls, .inl (cy 0, 5, .inl p1_pulls)), (q_p1_holeX, .inl (cy 0, 4, .inl p1_holeX)), (q_p1_holeY, .inl (cy 0, 4, .inl p1_holeY)), (q_p1_price, .inr (2, [.ref q_p1_price_codes, .int p1_price_size, x_p1_price_waiting])), (q_p1_price_codes, .inl (cy 0, 800, .inl p1_price_codes))] := hD
    refine lv_aload_n hx hb dX0_copyFrom_16 rfl (lv_at hl 0 rfl) ?_
    refine lv_aload_n hx hb dX0_copyFrom_17 rfl (lv_at hl 1 rfl) ?_
    refine va_get (D := D) (ci := 0) (v := .int p1_planes) (C := RX0) (T := TX0) (N := 10) hx hb hts f_inX0 hown hK hP 7 rfl rfl 2 (by decide) f_f18 (fun _ h9 => h9) rfl dX0_copyFrom_18 ?_
    refine va_put (D := D) (ci := 0) (v := .int p1_planes) (ty := .int) (C := RX0) (T := TX0) (N := 10) hx hb hts f_inX0 tyX0 tyX0_ok nmX0 hown hK hP hD hS 0 rfl rfl 2 (by decide) f_f18 (fun _ h9 => h9) rfl (by decide +kernel) rfl rfl (Nat.le_of_ble_eq_true rfl) dX0_copyFrom_21 (fun H locs hP hD hS => ?_)
    have hP : va_P D vwCl [(q_o, .inr (0, [.int p1_width, .int p1_height, .int p1_planes, .int o_holes, .int o_reach, .ref q_o_cells, .ref q_o_pulls, .ref q_o_holeX, .ref q_o_holeY, .ref q_o_price])), (q_o_cells, .inl (cy 0, 480, .inl o_cells)), (q_o_pulls, .inl (cy 0, 5, .inl o_pulls)), (q_o_holeX, .inl (cy 0, 4, .inl o_holeX)), (q_o_holeY, .inl (cy 0, 4, .inl o_holeY)), (q_o_price, .inr (2, [.ref q_o_price_codes, .int o_price_size, x_o_price_waiting])), (q_o_price_codes, .inl (cy 0, 800, .inl o_price_codes)), (q_p1, .inr (0, [.int p1_width, .int p1_height, .int p1_planes, .int p1_holes, .int p1_reach, .ref q_p1_cells, .ref q_p1_pulls, .ref q_p1_holeX, .ref q_p1_holeY, .ref q_p1_price])), (q_p1_cells, .inl (cy 0, 480, .inl p1_cells)), (q_p1_pulls, .inl (cy 0, 5, .inl p1_pulls)), (q_p1_holeX, .inl (cy 0, 4, .inl p1_holeX)), (q_p1_holeY, .inl (cy 0, 4, .inl p1_holeY)), (q_p1_price, .inr (2, [.ref q_p1_price_codes, .int p1_price_size, x_p1_price_waiting])), (q_p1_price_codes, .inl (cy 0, 800, .inl p1_price_codes))] H := hP
    have hD : va_D A [(q_o, .inr (0, [.int p1_width, .int p1_height, .int p1_planes, .int o_holes, .int o_reach, .ref q_o_cells, .ref q_o_pulls, .ref q_o_holeX, .ref q_o_holeY, .ref q_o_price])), (q_o_cells, .inl (cy 0, 480, .inl o_cells)), (q_o_pulls, .inl (cy 0, 5, .inl o_pulls)), (q_o_holeX, .inl (cy 0, 4, .inl o_holeX)), (q_o_holeY, .inl (cy 0, 4, .inl o_holeY)), (q_o_price, .inr (2, [.ref q_o_price_codes, .int o_price_size, x_o_price_waiting])), (q_o_price_codes, .inl (cy 0, 800, .inl o_price_codes)), (q_p1, .inr (0, [.int p1_width, .int p1_height, .int p1_planes, .int p1_holes, .int p1_reach, .ref q_p1_cells, .ref q_p1_pulls, .ref q_p1_holeX, .ref q_p1_holeY, .ref q_p1_price])), (q_p1_cells, .inl (cy 0, 480, .inl p1_cells)), (q_p1_pulls, .inl (cy 0, 5, .inl p1_pulls)), (q_p1_holeX, .inl (cy 0, 4, .inl p1_holeX)), (q_p1_holeY, .inl (cy 0, 4, .inl p1_holeY)), (q_p1_price, .inr (2, [.ref q_p1_price_codes, .int p1_price_size, x_p1_price_waiting])), (q_p1_price_codes, .inl (cy 0, 800, .inl p1_price_codes))] := hD
    refine lv_aload_n hx hb dX0_copyFrom_24 rfl (lv_at hl 0 rfl) ?_
    refine lv_aload_n hx hb dX0_copyFrom_25 rfl (lv_at hl 1 rfl) ?_
    refine va_get (D := D) (ci := 0) (v := .int p1_holes) (C := RX0) (T := TX0) (N := 10) hx hb hts f_inX0 hown hK hP 7 rfl rfl 3 (by decide) f_f21 (fun _ h9 => h9) rfl dX0_copyFrom_26 ?_
    refine va_put (D := D) (ci := 0) (v := .int p1_holes) (ty := .int) (C := RX0) (T := TX0) (N := 10) hx hb hts f_inX0 tyX0 tyX0_ok nmX0 hown hK hP hD hS 0 rfl rfl 3 (by decide) f_f21 (fun _ h9 => h9) rfl (by decide +kernel) rfl rfl (Nat.le_of_ble_eq_true rfl) dX0_copyFrom_29 (fun H locs hP hD hS => ?_)
    have hP : va_P D vwCl [(q_o, .inr (0, [.int p1_width, .int p1_height, .int p1_planes, .int p1_holes, .int o_reach, .ref q_o_cells, .ref q_o_pulls, .ref q_o_holeX, .ref q_o_holeY, .ref q_o_price])), (q_o_cells, .inl (cy 0, 480, .inl o_cells)), (q_o_pulls, .inl (cy 0, 5, .inl o_pulls)), (q_o_holeX, .inl (cy 0, 4, .inl o_holeX)), (q_o_holeY, .inl (cy 0, 4, .inl o_holeY)), (q_o_price, .inr (2, [.ref q_o_price_codes, .int o_price_size, x_o_price_waiting])), (q_o_price_codes, .inl (cy 0, 800, .inl o_price_codes)), (q_p1, .inr (0, [.int p1_width, .int p1_height, .int p1_planes, .int p1_holes, .int p1_reach, .ref q_p1_cells, .ref q_p1_pulls, .ref q_p1_holeX, .ref q_p1_holeY, .ref q_p1_price])), (q_p1_cells, .inl (cy 0, 480, .inl p1_cells)), (q_p1_pulls, .inl (cy 0, 5, .inl p1_pulls)), (q_p1_holeX, .inl (cy 0, 4, .inl p1_holeX)), (q_p1_holeY, .inl (cy 0, 4, .inl p1_holeY)), (q_p1_price, .inr (2, [.ref q_p1_price_codes, .int p1_price_size, x_p1_price_waiting])), (q_p1_price_codes, .inl (cy 0, 800, .inl p1_price_codes))] H := hP
    have hD : va_D A [(q_o, .inr (0, [.int p1_width, .int p1_height, .int p1_planes, .int p1_holes, .int o_reach, .ref q_o_cells, .ref q_o_pulls, .ref q_o_holeX, .ref q_o_holeY, .ref q_o_price])), (q_o_cells, .inl (cy 0, 480, .inl o_cells)), (q_o_pulls, .inl (cy 0, 5, .inl o_pulls)), (q_o_holeX, .inl (cy 0, 4, .inl o_holeX)), (q_o_holeY, .inl (cy 0, 4, .inl o_holeY)), (q_o_price, .inr (2, [.ref q_o_price_codes, .int o_price_size, x_o_price_waiting])), (q_o_price_codes, .inl (cy 0, 800, .inl o_price_codes)), (q_p1, .inr (0, [.int p1_width, .int p1_height, .int p1_planes, .int p1_holes, .int p1_reach, .ref q_p1_cells, .ref q_p1_pulls, .ref q_p1_holeX, .ref q_p1_holeY, .ref q_p1_price])), (q_p1_cells, .inl (cy 0, 480, .inl p1_cells)), (q_p1_pulls, .inl (cy 0, 5, .inl p1_pulls)), (q_p1_holeX, .inl (cy 0, 4, .inl p1_holeX)), (q_p1_holeY, .inl (cy 0, 4, .inl p1_holeY)), (q_p1_price, .inr (2, [.ref q_p1_price_codes, .int p1_price_size, x_p1_price_waiting])), (q_p1_price_codes, .inl (cy 0, 800, .inl p1_price_codes))] := hD
    refine lv_aload_n hx hb dX0_copyFrom_32 rfl (lv_at hl 0 rfl) ?_
    refine lv_aload_n hx hb dX0_copyFrom_33 rfl (lv_at hl 1 rfl) ?_
    refine va_get (D := D) (ci := 0) (v := .int p1_reach) (C := RX0) (T := TX0) (N := 10) hx hb hts f_inX0 hown hK hP 7 rfl rfl 4 (by decide) f_f24 (fun _ h9 => h9) rfl dX0_copyFrom_34 ?_
    refine va_put (D := D) (ci := 0) (v := .int p1_reach) (ty := .int) (C := RX0) (T := TX0) (N := 10) hx hb hts f_inX0 tyX0 tyX0_ok nmX0 hown hK hP hD hS 0 rfl rfl 4 (by decide) f_f24 (fun _ h9 => h9) rfl (by decide +kernel) rfl rfl (Nat.le_of_ble_eq_true rfl) dX0_copyFrom_37 (fun H locs hP hD hS => ?_)
    have hP : va_P D vwCl [(q_o, .inr (0, [.int p1_width, .int p1_height, .int p1_planes, .int p1_holes, .int p1_reach, .ref q_o_cells, .ref q_o_pulls, .ref q_o_holeX, .ref q_o_holeY, .ref q_o_price])), (q_o_cells, .inl (cy 0, 480, .inl o_cells)), (q_o_pulls, .inl (cy 0, 5, .inl o_pulls)), (q_o_holeX, .inl (cy 0, 4, .inl o_holeX)), (q_o_holeY, .inl (cy 0, 4, .inl o_holeY)), (q_o_price, .inr (2, [.ref q_o_price_codes, .int o_price_size, x_o_price_waiting])), (q_o_price_codes, .inl (cy 0, 800, .inl o_price_codes)), (q_p1, .inr (0, [.int p1_width, .int p1_height, .int p1_planes, .int p1_holes, .int p1_reach, .ref q_p1_cells, .ref q_p1_pulls, .ref q_p1_holeX, .ref q_p1_holeY, .ref q_p1_price])), (q_p1_cells, .inl (cy 0, 480, .inl p1_cells)), (q_p1_pulls, .inl (cy 0, 5, .inl p1_pulls)), (q_p1_holeX, .inl (cy 0, 4, .inl p1_holeX)), (q_p1_holeY, .inl (cy 0, 4, .inl p1_holeY)), (q_p1_price, .inr (2, [.ref q_p1_price_codes, .int p1_price_size, x_p1_price_waiting])), (q_p1_price_codes, .inl (cy 0, 800, .inl p1_price_codes))] H := hP
    have hD : va_D A [(q_o, .inr (0, [.int p1_width, .int p1_height, .int p1_planes, .int p1_holes, .int p1_reach, .ref q_o_cells, .ref q_o_pulls, .ref q_o_holeX, .ref q_o_holeY, .ref q_o_price])), (q_o_cells, .inl (cy 0, 480, .inl o_cells)), (q_o_pulls, .inl (cy 0, 5, .inl o_pulls)), (q_o_holeX, .inl (cy 0, 4, .inl o_holeX)), (q_o_holeY, .inl (cy 0, 4, .inl o_holeY)), (q_o_price, .inr (2, [.ref q_o_price_codes, .int o_price_size, x_o_price_waiting])), (q_o_price_codes, .inl (cy 0, 800, .inl o_price_codes)), (q_p1, .inr (0, [.int p1_width, .int p1_height, .int p1_planes, .int p1_holes, .int p1_reach, .ref q_p1_cells, .ref q_p1_pulls, .ref q_p1_holeX, .ref q_p1_holeY, .ref q_p1_price])), (q_p1_cells, .inl (cy 0, 480, .inl p1_cells)), (q_p1_pulls, .inl (cy 0, 5, .inl p1_pulls)), (q_p1_holeX, .inl (cy 0, 4, .inl p1_holeX)), (q_p1_holeY, .inl (cy 0, 4, .inl p1_holeY)), (q_p1_price, .inr (2, [.ref q_p1_price_codes, .int p1_price_size, x_p1_price_waiting])), (q_p1_price_codes, .inl (cy 0, 800, .inl p1_price_codes))] := hD
    refine lv_aload_n hx hb dX0_copyFrom_40 rfl (lv_at hl 1 rfl) ?_
    refine va_get (D := D) (ci := 0) (v := .ref q_p1_cells) (C := RX0) (T := TX0) (N := 10) hx hb hts f_inX0 hown hK hP 7 rfl rfl 5 (by decide) f_f27 (fun _ h9 => h9) rfl dX0_copyFrom_41 ?_
    refine lv_iconst (v := 0) hx hb dX0_copyFrom_44 (by decide) ?_
    refine lv_aload_n hx hb dX0_copyFrom_45 rfl (lv_at hl 0 rfl) ?_
    refine va_get (D := D) (ci := 0) (v := .ref q_o_cells) (C := RX0) (T := TX0) (N := 10) hx hb hts f_inX0 hown hK hP 0 rfl rfl 5 (by decide) f_f27 (fun _ h9 => h9) rfl dX0_copyFrom_46 ?_
    refine lv_iconst (v := 0) hx hb dX0_copyFrom_49 (by decide) ?_
    refine lv_aload_n hx hb dX0_copyFrom_50 rfl (lv_at hl 0 rfl) ?_
    refine va_get (D := D) (ci := 0) (v := .ref q_o_cells) (C := RX0) (T := TX0) (N := 10) hx hb hts f_inX0 hown hK hP 0 rfl rfl 5 (by decide) f_f27 (fun _ h9 => h9) rfl dX0_copyFrom_51 ?_
    refine va_alen hx hb hK hP 1 0 rfl rfl (v := 480) rfl dX0_copyFrom_54 ?_
    obtain ⟨⟨h11, h12, h13⟩, hF⟩ := ck_o hF
    obtain ⟨b2, eb2⟩ : ∃ y : Nat → Int32, y = (va_cpy p1_cells o_cells (0 : Int32).toNatClampNeg (0 : Int32).toNatClampNeg (480 : Int32).toNatClampNeg) := ⟨_, rfl⟩
    have hF := nm_o hF b2 eb2
    refine va_copyi hx hb (by rw [hml]; exact hl.1.symm) hown f_m60 f_nat f_snat f_iSys hK hP hD hS 8 1 0 0 rfl rfl rfl rfl rfl (by decide) (by decide) h11 h12 h13 (fun _ _ => rfl) (Nat.le_of_ble_eq_true rfl) (Nat.le_of_ble_eq_true rfl) dX0_copyFrom_55 (fun H locs hP hD hS => ?_)
    have hP : va_P D vwCl [(q_o, .inr (0, [.int p1_width, .int p1_height, .int p1_planes, .int p1_holes, .int p1_reach, .ref q_o_cells, .ref q_o_pulls, .ref q_o_holeX, .ref q_o_holeY, .ref q_o_price])), (q_o_cells, .inl (cy 0, 480, .inl b2)), (q_o_pulls, .inl (cy 0, 5, .inl o_pulls)), (q_o_holeX, .inl (cy 0, 4, .inl o_holeX)), (q_o_holeY, .inl (cy 0, 4, .inl o_holeY)), (q_o_price, .inr (2, [.ref q_o_price_codes, .int o_price_size, x_o_price_waiting])), (q_o_price_codes, .inl (cy 0, 800, .inl o_price_codes)), (q_p1, .inr (0, [.int p1_width, .int p1_height, .int p1_planes, .int p1_holes, .int p1_reach, .ref q_p1_cells, .ref q_p1_pulls, .ref q_p1_holeX, .ref q_p1_holeY, .ref q_p1_price])), (q_p1_cells, .inl (cy 0, 480, .inl p1_cells)), (q_p1_pulls, .inl (cy 0, 5, .inl p1_pulls)), (q_p1_holeX, .inl (cy 0, 4, .inl p1_holeX)), (q_p1_holeY, .inl (cy 0, 4, .inl p1_holeY)), (q_p1_price, .inr (2, [.ref q_p1_price_codes, .int p1_price_size, x_p1_price_waiting])), (q_p1_price_codes, .inl (cy 0, 800, .inl p1_price_codes))] H := by rw [eb2]; exact hP
    have hD : va_D A [(q_o, .inr (0, [.int p1_width, .int p1_height, .int p1_planes, .int p1_holes, .int p1_reach, .ref q_o_cells, .ref q_o_pulls, .ref q_o_holeX, .ref q_o_holeY, .ref q_o_price])), (q_o_cells, .inl (cy 0, 480, .inl b2)), (q_o_pulls, .inl (cy 0, 5, .inl o_pulls)), (q_o_holeX, .inl (cy 0, 4, .inl o_holeX)), (q_o_holeY, .inl (cy 0, 4, .inl o_holeY)), (q_o_price, .inr (2, [.ref q_o_price_codes, .int o_price_size, x_o_price_waiting])), (q_o_price_codes, .inl (cy 0, 800, .inl o_price_codes)), (q_p1, .inr (0, [.int p1_width, .int p1_height, .int p1_planes, .int p1_holes, .int p1_reach, .ref q_p1_cells, .ref q_p1_pulls, .ref q_p1_holeX, .ref q_p1_holeY, .ref q_p1_price])), (q_p1_cells, .inl (cy 0, 480, .inl p1_cells)), (q_p1_pulls, .inl (cy 0, 5, .inl p1_pulls)), (q_p1_holeX, .inl (cy 0, 4, .inl p1_holeX)), (q_p1_holeY, .inl (cy 0, 4, .inl p1_holeY)), (q_p1_price, .inr (2, [.ref q_p1_price_codes, .int p1_price_size, x_p1_price_waiting])), (q_p1_price_codes, .inl (cy 0, 800, .inl p1_price_codes))] := by rw [eb2]; exact hD
    refine lv_aload_n hx hb dX0_copyFrom_58 rfl (lv_at hl 1 rfl) ?_
    refine va_get (D := D) (ci := 0) (v := .ref q_p1_pulls) (C := RX0) (T := TX0) (N := 10) hx hb hts f_inX0 hown hK hP 7 rfl rfl 6 (by decide) f_f31 (fun _ h9 => h9) rfl dX0_copyFrom_59 ?_
    refine lv_iconst (v := 0) hx hb dX0_copyFrom_62 (by decide) ?_
    refine lv_aload_n hx hb dX0_copyFrom_63 rfl (lv_at hl 0 rfl) ?_
    refine va_get (D := D) (ci := 0) (v := .ref q_o_pulls) (C := RX0) (T := TX0) (N := 10) hx hb hts f_inX0 hown hK hP 0 rfl rfl 6 (by decide) f_f31 (fun _ h9 => h9) rfl dX0_copyFrom_64 ?_
    refine lv_iconst (v := 0) hx hb dX0_copyFrom_67 (by decide) ?_
    refine lv_aload_n hx hb dX0_copyFrom_68 rfl (lv_at hl 0 rfl) ?_
    refine va_get (D := D) (ci := 0) (v := .ref q_o_pulls) (C := RX0) (T := TX0) (N := 10) hx hb hts f_inX0 hown hK hP 0 rfl rfl 6 (by decide) f_f31 (fun _ h9 => h9) rfl dX0_copyFrom_69 ?_
    refine va_alen hx hb hK hP 2 0 rfl rfl (v := 5) rfl dX0_copyFrom_72 ?_
    obtain ⟨⟨h31, h32, h33⟩, hF⟩ := ck_o hF
    obtain ⟨b4, eb4⟩ : ∃ y : Nat → Int32, y = (va_cpy p1_pulls o_pulls (0 : Int32).toNatClampNeg (0 : Int32).toNatClampNeg (5 : Int32).toNatClampNeg) := ⟨_, rfl⟩
    have hF := nm_o hF b4 eb4
    refine va_copyi hx hb (by rw [hml]; exact hl.1.symm) hown f_m60 f_nat f_snat f_iSys hK hP hD hS 9 2 0 0 rfl rfl rfl rfl rfl (by decide) (by decide) h31 h32 h33 (fun _ _ => rfl) (Nat.le_of_ble_eq_true rfl) (Nat.le_of_ble_eq_true rfl) dX0_copyFrom_73 (fun H locs hP hD hS => ?_)
    have hP : va_P D vwCl [(q_o, .inr (0, [.int p1_width, .int p1_height, .int p1_planes, .int p1_holes, .int p1_reach, .ref q_o_cells, .ref q_o_pulls, .ref q_o_holeX, .ref q_o_holeY, .ref q_o_price])), (q_o_cells, .inl (cy 0, 480, .inl b2)), (q_o_pulls, .inl (cy 0, 5, .inl b4)), (q_o_holeX, .inl (cy 0, 4, .inl o_holeX)), (q_o_holeY, .inl (cy 0, 4, .inl o_holeY)), (q_o_price, .inr (2, [.ref q_o_price_codes, .int o_price_size, x_o_price_waiting])), (q_o_price_codes, .inl (cy 0, 800, .inl o_price_codes)), (q_p1, .inr (0, [.int p1_width, .int p1_height, .int p1_planes, .int p1_holes, .int p1_reach, .ref q_p1_cells, .ref q_p1_pulls, .ref q_p1_holeX, .ref q_p1_holeY, .ref q_p1_price])), (q_p1_cells, .inl (cy 0, 480, .inl p1_cells)), (q_p1_pulls, .inl (cy 0, 5, .inl p1_pulls)), (q_p1_holeX, .inl (cy 0, 4, .inl p1_holeX)), (q_p1_holeY, .inl (cy 0, 4, .inl p1_holeY)), (q_p1_price, .inr (2, [.ref q_p1_price_codes, .int p1_price_size, x_p1_price_waiting])), (q_p1_price_codes, .inl (cy 0, 800, .inl p1_price_codes))] H := by rw [eb4]; exact hP
    have hD : va_D A [(q_o, .inr (0, [.int p1_width, .int p1_height, .int p1_planes, .int p1_holes, .int p1_reach, .ref q_o_cells, .ref q_o_pulls, .ref q_o_holeX, .ref q_o_holeY, .ref q_o_price])), (q_o_cells, .inl (cy 0, 480, .inl b2)), (q_o_pulls, .inl (cy 0, 5, .inl b4)), (q_o_holeX, .inl (cy 0, 4, .inl o_holeX)), (q_o_holeY, .inl (cy 0, 4, .inl o_holeY)), (q_o_price, .inr (2, [.ref q_o_price_codes, .int o_price_size, x_o_price_waiting])), (q_o_price_codes, .inl (cy 0, 800, .inl o_price_codes)), (q_p1, .inr (0, [.int p1_width, .int p1_height, .int p1_planes, .int p1_holes, .int p1_reach, .ref q_p1_cells, .ref q_p1_pulls, .ref q_p1_holeX, .ref q_p1_holeY, .ref q_p1_price])), (q_p1_cells, .inl (cy 0, 480, .inl p1_cells)), (q_p1_pulls, .inl (cy 0, 5, .inl p1_pulls)), (q_p1_holeX, .inl (cy 0, 4, .inl p1_holeX)), (q_p1_holeY, .inl (cy 0, 4, .inl p1_holeY)), (q_p1_price, .inr (2, [.ref q_p1_price_codes, .int p1_price_size, x_p1_price_waiting])), (q_p1_price_codes, .inl (cy 0, 800, .inl p1_price_codes))] := by rw [eb4]; exact hD
    refine lv_aload_n hx hb dX0_copyFrom_76 rfl (lv_at hl 1 rfl) ?_
    refine va_get (D := D) (ci := 0) (v := .ref q_p1_holeX) (C := RX0) (T := TX0) (N := 10) hx hb hts f_inX0 hown hK hP 7 rfl rfl 7 (by decide) f_f34 (fun _ h9 => h9) rfl dX0_copyFrom_77 ?_
    refine lv_iconst (v := 0) hx hb dX0_copyFrom_80 (by decide) ?_
    refine lv_aload_n hx hb dX0_copyFrom_81 rfl (lv_at hl 0 rfl) ?_
    refine va_get (D := D) (ci := 0) (v := .ref q_o_holeX) (C := RX0) (T := TX0) (N := 10) hx hb hts f_inX0 hown hK hP 0 rfl rfl 7 (by decide) f_f34 (fun _ h9 => h9) rfl dX0_copyFrom_82 ?_
    refine lv_iconst (v := 0) hx hb dX0_copyFrom_85 (by decide) ?_
    refine lv_aload_n hx hb dX0_copyFrom_86 rfl (lv_at hl 0 rfl) ?_
    refine va_get (D := D) (ci := 0) (v := .ref q_o_holeX) (C := RX0) (T := TX0) (N := 10) hx hb hts f_inX0 hown hK hP 0 rfl rfl 7 (by decide) f_f34 (fun _ h9 => h9) rfl dX0_copyFrom_87 ?_
    refine va_alen hx hb hK hP 3 0 rfl rfl (v := 4) rfl dX0_copyFrom_90 ?_
    obtain ⟨⟨h51, h52, h53⟩, hF⟩ := ck_o hF
    obtain ⟨b6, eb6⟩ : ∃ y : Nat → Int32, y = (va_cpy p1_holeX o_holeX (0 : Int32).toNatClampNeg (0 : Int32).toNatClampNeg (4 : Int32).toNatClampNeg) := ⟨_, rfl⟩
    have hF := nm_o hF b6 eb6
    refine va_copyi hx hb (by rw [hml]; exact hl.1.symm) hown f_m60 f_nat f_snat f_iSys hK hP hD hS 10 3 0 0 rfl rfl rfl rfl rfl (by decide) (by decide) h51 h52 h53 (fun _ _ => rfl) (Nat.le_of_ble_eq_true rfl) (Nat.le_of_ble_eq_true rfl) dX0_copyFrom_91 (fun H locs hP hD hS => ?_)
    have hP : va_P D vwCl [(q_o, .inr (0, [.int p1_width, .int p1_height, .int p1_planes, .int p1_holes, .int p1_reach, .ref q_o_cells, .ref q_o_pulls, .ref q_o_holeX, .ref q_o_holeY, .ref q_o_price])), (q_o_cells, .inl (cy 0, 480, .inl b2)), (q_o_pulls, .inl (cy 0, 5, .inl b4)), (q_o_holeX, .inl (cy 0, 4, .inl b6)), (q_o_holeY, .inl (cy 0, 4, .inl o_holeY)), (q_o_price, .inr (2, [.ref q_o_price_codes, .int o_price_size, x_o_price_waiting])), (q_o_price_codes, .inl (cy 0, 800, .inl o_price_codes)), (q_p1, .inr (0, [.int p1_width, .int p1_height, .int p1_planes, .int p1_holes, .int p1_reach, .ref q_p1_cells, .ref q_p1_pulls, .ref q_p1_holeX, .ref q_p1_holeY, .ref q_p1_price])), (q_p1_cells, .inl (cy 0, 480, .inl p1_cells)), (q_p1_pulls, .inl (cy 0, 5, .inl p1_pulls)), (q_p1_holeX, .inl (cy 0, 4, .inl p1_holeX)), (q_p1_holeY, .inl (cy 0, 4, .inl p1_holeY)), (q_p1_price, .inr (2, [.ref q_p1_price_codes, .int p1_price_size, x_p1_price_waiting])), (q_p1_price_codes, .inl (cy 0, 800, .inl p1_price_codes))] H := by rw [eb6]; exact hP
    have hD : va_D A [(q_o, .inr (0, [.int p1_width, .int p1_height, .int p1_planes, .int p1_holes, .int p1_reach, .ref q_o_cells, .ref q_o_pulls, .ref q_o_holeX, .ref q_o_holeY, .ref q_o_price])), (q_o_cells, .inl (cy 0, 480, .inl b2)), (q_o_pulls, .inl (cy 0, 5, .inl b4)), (q_o_holeX, .inl (cy 0, 4, .inl b6)), (q_o_holeY, .inl (cy 0, 4, .inl o_holeY)), (q_o_price, .inr (2, [.ref q_o_price_codes, .int o_price_size, x_o_price_waiting])), (q_o_price_codes, .inl (cy 0, 800, .inl o_price_codes)), (q_p1, .inr (0, [.int p1_width, .int p1_height, .int p1_planes, .int p1_holes, .int p1_reach, .ref q_p1_cells, .ref q_p1_pulls, .ref q_p1_holeX, .ref q_p1_holeY, .ref q_p1_price])), (q_p1_cells, .inl (cy 0, 480, .inl p1_cells)), (q_p1_pulls, .inl (cy 0, 5, .inl p1_pulls)), (q_p1_holeX, .inl (cy 0, 4, .inl p1_holeX)), (q_p1_holeY, .inl (cy 0, 4, .inl p1_holeY)), (q_p1_price, .inr (2, [.ref q_p1_price_codes, .int p1_price_size, x_p1_price_waiting])), (q_p1_price_codes, .inl (cy 0, 800, .inl p1_price_codes))] := by rw [eb6]; exact hD
    refine lv_aload_n hx hb dX0_copyFrom_94 rfl (lv_at hl 1 rfl) ?_
    refine va_get (D := D) (ci := 0) (v := .ref q_p1_holeY) (C := RX0) (T := TX0) (N := 10) hx hb hts f_inX0 hown hK hP 7 rfl rfl 8 (by decide) f_f37 (fun _ h9 => h9) rfl dX0_copyFrom_95 ?_
    refine lv_iconst (v := 0) hx hb dX0_copyFrom_98 (by decide) ?_
    refine lv_aload_n hx hb dX0_copyFrom_99 rfl (lv_at hl 0 rfl) ?_
    refine va_get (D := D) (ci := 0) (v := .ref q_o_holeY) (C := RX0) (T := TX0) (N := 10) hx hb hts f_inX0 hown hK hP 0 rfl rfl 8 (by decide) f_f37 (fun _ h9 => h9) rfl dX0_copyFrom_100 ?_
    refine lv_iconst (v := 0) hx hb dX0_copyFrom_103 (by decide) ?_
    refine lv_aload_n hx hb dX0_copyFrom_104 rfl (lv_at hl 0 rfl) ?_
    refine va_get (D := D) (ci := 0) (v := .ref q_o_holeY) (C := RX0) (T := TX0) (N := 10) hx hb hts f_inX0 hown hK hP 0 rfl rfl 8 (by decide) f_f37 (fun _ h9 => h9) rfl dX0_copyFrom_105 ?_
    refine va_alen hx hb hK hP 4 0 rfl rfl (v := 4) rfl dX0_copyFrom_108 ?_
    obtain ⟨⟨h71, h72, h73⟩, hF⟩ := ck_o hF
    obtain ⟨b8, eb8⟩ : ∃ y : Nat → Int32, y = (va_cpy p1_holeY o_holeY (0 : Int32).toNatClampNeg (0 : Int32).toNatClampNeg (4 : Int32).toNatClampNeg) := ⟨_, rfl⟩
    have hF := nm_o hF b8 eb8
    refine va_copyi hx hb (by rw [hml]; exact hl.1.symm) hown f_m60 f_nat f_snat f_iSys hK hP hD hS 11 4 0 0 rfl rfl rfl rfl rfl (by decide) (by decide) h71 h72 h73 (fun _ _ => rfl) (Nat.le_of_ble_eq_true rfl) (Nat.le_of_ble_eq_true rfl) dX0_copyFrom_109 (fun H locs hP hD hS => ?_)
    have hP : va_P D vwCl [(q_o, .inr (0, [.int p1_width, .int p1_height, .int p1_planes, .int p1_holes, .int p1_reach, .ref q_o_cells, .ref q_o_pulls, .ref q_o_holeX, .ref q_o_holeY, .ref q_o_price])), (q_o_cells, .inl (cy 0, 480, .inl b2)), (q_o_pulls, .inl (cy 0, 5, .inl b4)), (q_o_holeX, .inl (cy 0, 4, .inl b6)), (q_o_holeY, .inl (cy 0, 4, .inl b8)), (q_o_price, .inr (2, [.ref q_o_price_codes, .int o_price_size, x_o_price_waiting])), (q_o_price_codes, .inl (cy 0, 800, .inl o_price_codes)), (q_p1, .inr (0, [.int p1_width, .int p1_height, .int p1_planes, .int p1_holes, .int p1_reach, .ref q_p1_cells, .ref q_p1_pulls, .ref q_p1_holeX, .ref q_p1_holeY, .ref q_p1_price])), (q_p1_cells, .inl (cy 0, 480, .inl p1_cells)), (q_p1_pulls, .inl (cy 0, 5, .inl p1_pulls)), (q_p1_holeX, .inl (cy 0, 4, .inl p1_holeX)), (q_p1_holeY, .inl (cy 0, 4, .inl p1_holeY)), (q_p1_price, .inr (2, [.ref q_p1_price_codes, .int p1_price_size, x_p1_price_waiting])), (q_p1_price_codes, .inl (cy 0, 800, .inl p1_price_codes))] H := by rw [eb8]; exact hP
    have hD : va_D A [(q_o, .inr (0, [.int p1_width, .int p1_height, .int p1_planes, .int p1_holes, .int p1_reach, .ref q_o_cells, .ref q_o_pulls, .ref q_o_holeX, .ref q_o_holeY, .ref q_o_price])), (q_o_cells, .inl (cy 0, 480, .inl b2)), (q_o_pulls, .inl (cy 0, 5, .inl b4)), (q_o_holeX, .inl (cy 0, 4, .inl b6)), (q_o_holeY, .inl (cy 0, 4, .inl b8)), (q_o_price, .inr (2, [.ref q_o_price_codes, .int o_price_size, x_o_price_waiting])), (q_o_price_codes, .inl (cy 0, 800, .inl o_price_codes)), (q_p1, .inr (0, [.int p1_width, .int p1_height, .int p1_planes, .int p1_holes, .int p1_reach, .ref q_p1_cells, .ref q_p1_pulls, .ref q_p1_holeX, .ref q_p1_holeY, .ref q_p1_price])), (q_p1_cells, .inl (cy 0, 480, .inl p1_cells)), (q_p1_pulls, .inl (cy 0, 5, .inl p1_pulls)), (q_p1_holeX, .inl (cy 0, 4, .inl p1_holeX)), (q_p1_holeY, .inl (cy 0, 4, .inl p1_holeY)), (q_p1_price, .inr (2, [.ref q_p1_price_codes, .int p1_price_size, x_p1_price_waiting])), (q_p1_price_codes, .inl (cy 0, 800, .inl p1_price_codes))] := by rw [eb8]; exact hD
    refine lv_aload_n hx hb dX0_copyFrom_112 rfl (lv_at hl 0 rfl) ?_
    refine va_get (D := D) (ci := 0) (v := .ref q_o_price) (C := RX0) (T := TX0) (N := 10) hx hb hts f_inX0 hown hK hP 0 rfl rfl 9 (by decide) f_f43 (fun _ h9 => h9) rfl dX0_copyFrom_113 ?_
    refine lv_aload_n hx hb dX0_copyFrom_116 rfl (lv_at hl 1 rfl) ?_
    refine va_get (D := D) (ci := 0) (v := .ref q_p1_price) (C := RX0) (T := TX0) (N := 10) hx hb hts f_inX0 hown hK hP 7 rfl rfl 9 (by decide) f_f43 (fun _ h9 => h9) rfl dX0_copyFrom_117 ?_
    obtain ⟨o9, o10, h11, hF⟩ := bn2_o hF
    refine kd_v [(q_o, .inr (0, [.int p1_width, .int p1_height, .int p1_planes, .int p1_holes, .int p1_reach, .ref q_o_cells, .ref q_o_pulls, .ref q_o_holeX, .ref q_o_holeY, .ref q_o_price])), (q_o_cells, .inl (cy 0, 480, .inl b2)), (q_o_pulls, .inl (cy 0, 5, .inl b4)), (q_o_holeX, .inl (cy 0, 4, .inl b6)), (q_o_holeY, .inl (cy 0, 4, .inl b8)), (q_o_price, .inr (2, [.ref q_o_price_codes, .int o9, x_o_price_waiting])), (q_o_price_codes, .inl (cy 0, 800, .inl o10)), (q_p1, .inr (0, [.int p1_width, .int p1_height, .int p1_planes, .int p1_holes, .int p1_reach, .ref q_p1_cells, .ref q_p1_pulls, .ref q_p1_holeX, .ref q_p1_holeY, .ref q_p1_price])), (q_p1_cells, .inl (cy 0, 480, .inl p1_cells)), (q_p1_pulls, .inl (cy 0, 5, .inl p1_pulls)), (q_p1_holeX, .inl (cy 0, 4, .inl p1_holeX)), (q_p1_holeY, .inl (cy 0, 4, .inl p1_holeY)), (q_p1_price, .inr (2, [.ref q_p1_price_codes, .int p1_price_size, x_p1_price_waiting])), (q_p1_price_codes, .inl (cy 0, 800, .inl p1_price_codes))] (va_runV (As := [.ref q_p1_price]) (rest := []) ⟨hx, hb, hml, hown, hts⟩ (c_X2_copyFrom q_o_price q_o_price_codes q_p1_price q_p1_price_codes H.size x_o_price_waiting x_p1_price_waiting o_price_size o_price_codes p1_price_size p1_price_codes _ h11) (cwV 1 hts gX0_copyFrom_X2_copyFrom rfl rfl rfl kd_X2_copyFrom ⟨Nat.le_of_ble_eq_true rfl, Nat.le_of_ble_eq_true rfl⟩) ⟨kP_blind (EN_ok D cy) D _ _ _, va_recv hK hP (ci := 2) (q0 := 5) rfl rfl, kStart (EN_ok D cy) hE hP hD hS hA [5, 6, 12, 13] rfl rfl _⟩ rfl rfl hl.1 rfl (lv_room (Nat.le_of_ble_eq_true rfl)) dX0_copyFrom_120 ⟨Nat.zero_le _, Nat.zero_le _⟩) hP hD hS hA [5, 6, 12, 13] [0, 1, 2, 3, 4, 7, 8, 9, 10, 11] rfl rfl rfl 14 rfl (by decide +kernel) (fun H locs hP hD hS => ?_)
    obtain rfl := so_o hF
    rw [hQQ]
    exact kr_v hx hb hr hlocks hP hD hS dX0_copyFrom_123
  exact main s.heap [] ls hP hD hS hl
theorem kd_X0_addHole : yX0_addHole.cls = RX0 ∧ yX0_addHole.cls ≠ "java/lang/invoke/MethodHandle" ∧ yX0_addHole.cls ≠ "java/lang/invoke/VarHandle" ∧ (parseMethodDescriptor yX0_addHole.desc).map (fun d => d.parameters.length) = some 2 := by decide +kernel
set_option maxHeartbeats 4000000 in
set_option maxRecDepth 100000 in
theorem c_X0_addHole {l : Launch} {D : va_G} {cy : Nat → ClassId} (q_o q_o_holeX q_o_holeY : Nat) (sz : Nat) (x_o_width x_o_height x_o_planes x_o_reach x_o_cells x_o_pulls x_o_price : Value) (o_holes : Int32) (o_holeX : Nat → Int32) (o_holeY : Nat → Int32) (p1 : Int32) (p2 : Int32) (res : Int32 × (Nat → Int32) × (Nat → Int32)) (hF : X0_addHole o_holes o_holeX o_holeY p1 p2 = some res) : Met l yX0_addHole wsX0_addHole ({ frames := 0, cells := 0, slots := 0, locals := 0 } : Room) (kP (EN D cy) D [.ref q_o, .int p1, .int p2] [(q_o, .inr (0, [x_o_width, x_o_height, x_o_planes, .int o_holes, x_o_reach, x_o_cells, x_o_pulls, .ref q_o_holeX, .ref q_o_holeY, x_o_price])), (q_o_holeX, .inl (cy 0, 4, .inl o_holeX)), (q_o_holeY, .inl (cy 0, 4, .inl o_holeY))] sz) (kQv D [(q_o, .inr (0, [x_o_width, x_o_height, x_o_planes, .int res.1, x_o_reach, x_o_cells, x_o_pulls, .ref q_o_holeX, .ref q_o_holeY, x_o_price])), (q_o_holeX, .inl (cy 0, 4, .inl res.2.1)), (q_o_holeY, .inl (cy 0, 4, .inl res.2.2))] (va_A [(q_o, .inr (0, [x_o_width, x_o_height, x_o_planes, .int o_holes, x_o_reach, x_o_cells, x_o_pulls, .ref q_o_holeX, .ref q_o_holeY, x_o_price])), (q_o_holeX, .inl (cy 0, 4, .inl o_holeX)), (q_o_holeY, .inl (cy 0, 4, .inl o_holeY))] sz)) 0 0 (va_A [(q_o, .inr (0, [x_o_width, x_o_height, x_o_planes, .int o_holes, x_o_reach, x_o_cells, x_o_pulls, .ref q_o_holeX, .ref q_o_holeY, x_o_price])), (q_o_holeX, .inl (cy 0, 4, .inl o_holeX)), (q_o_holeY, .inl (cy 0, 4, .inl o_holeY))] sz) := by
  refine kMet (y := yX0_addHole) (av := [.ref q_o, .int p1, .int p2]) (cc := cX0_addHole) (maxL := 3) (ret := none) (own := RX0) (Qc := fun A9 => (kQv D [(q_o, .inr (0, [x_o_width, x_o_height, x_o_planes, .int res.1, x_o_reach, x_o_cells, x_o_pulls, .ref q_o_holeX, .ref q_o_holeY, x_o_price])), (q_o_holeX, .inl (cy 0, 4, .inl res.2.1)), (q_o_holeY, .inl (cy 0, 4, .inl res.2.2))] A9)) (by decide) rfl rfl (Nat.le_of_ble_eq_true rfl) ?_
  intro p e s m args below meth c A hx hb hr hts hown hml hlocks hname hE hP hD hA hsz ls hl
  have hK := hE.1
  have hl : lv_has ls 3 [(0, .ref q_o), (1, .int p1), (2, .int p2)] := hl
  have hS : va_S A s.heap s.heap [] := va_S.rf
  have f_f21 := hts (.fieldLink RX0 21 "PeepBox$Box" "holes" "I") (by decide +kernel)
  have f_inX0 : ∀ w ∈ wsX00, w ∈ wsX0_addHole := by decide +kernel
  have f_f34 := hts (.fieldLink RX0 34 "PeepBox$Box" "holeX" "[I") (by decide +kernel)
  have f_f37 := hts (.fieldLink RX0 37 "PeepBox$Box" "holeY" "[I") (by decide +kernel)
  obtain ⟨QQ, hQQ⟩ : ∃ Q9, Q9 = MQ below (kQv D [(q_o, .inr (0, [x_o_width, x_o_height, x_o_planes, .int res.1, x_o_reach, x_o_cells, x_o_pulls, .ref q_o_holeX, .ref q_o_holeY, x_o_price])), (q_o_holeX, .inl (cy 0, 4, .inl res.2.1)), (q_o_holeY, .inl (cy 0, 4, .inl res.2.2))] A) args s 0 0 A := ⟨_, rfl⟩
  rw [← hQQ]
  have main : ∀ (H : Heap) (locs : List Loc) (ls : Array Slot), va_P D vwCl [(q_o, .inr (0, [x_o_width, x_o_height, x_o_planes, .int o_holes, x_o_reach, x_o_cells, x_o_pulls, .ref q_o_holeX, .ref q_o_holeY, x_o_price])), (q_o_holeX, .inl (cy 0, 4, .inl o_holeX)), (q_o_holeY, .inl (cy 0, 4, .inl o_holeY))] H → va_D A [(q_o, .inr (0, [x_o_width, x_o_height, x_o_planes, .int o_holes, x_o_reach, x_o_cells, x_o_pulls, .ref q_o_holeX, .ref q_o_holeY, x_o_price])), (q_o_holeX, .inl (cy 0, 4, .inl o_holeX)), (q_o_holeY, .inl (cy 0, 4, .inl o_holeY))] → va_S A s.heap H locs → lv_has ls 3 [(0, .ref q_o), (1, .int p1), (2, .int p2)] → W p l e ({ frames := 0, cells := 0, slots := 0, locals := 0 } : Room) s m args below meth c H locs 0 0 QQ (F0 m 0 ls []) := by
    intro H locs ls hP hD hS hl
    unfold X0_addHole at hF
    refine lv_aload_n hx hb dX0_addHole_0 rfl (lv_at hl 0 rfl) ?_
    refine va_get (D := D) (ci := 0) (v := .int o_holes) (C := RX0) (T := TX0) (N := 10) hx hb hts f_inX0 hown hK hP 0 rfl rfl 3 (by decide) f_f21 (fun _ h9 => h9) rfl dX0_addHole_1 ?_
    refine lv_iconst (v := 4) hx hb dX0_addHole_4 (by decide) ?_
    refine lv_icmp_ge (tgt := 38) hx hb dX0_addHole_5 (by decide) (fun c1 => ?_) (fun c1 => ?_)
    · have hF := if_p hF c1
      obtain rfl := so_o hF
      rw [hQQ]
      exact kr_v hx hb hr hlocks hP hD hS dX0_addHole_38
    · have hF := if_n hF c1
      refine lv_aload_n hx hb dX0_addHole_8 rfl (lv_at hl 0 rfl) ?_
      refine va_get (D := D) (ci := 0) (v := .ref q_o_holeX) (C := RX0) (T := TX0) (N := 10) hx hb hts f_inX0 hown hK hP 0 rfl rfl 7 (by decide) f_f34 (fun _ h9 => h9) rfl dX0_addHole_9 ?_
      refine lv_aload_n hx hb dX0_addHole_12 rfl (lv_at hl 0 rfl) ?_
      refine va_get (D := D) (ci := 0) (v := .int o_holes) (C := RX0) (T := TX0) (N := 10) hx hb hts f_inX0 hown hK hP 0 rfl rfl 3 (by decide) f_f21 (fun _ h9 => h9) rfl dX0_addHole_13 ?_
      refine lv_iload_n hx hb dX0_addHole_16 rfl (lv_at hl 1 rfl) ?_
      obtain ⟨h2, hF⟩ := st_o hF
      refine va_iast hx hb hK hP hD hS 1 0 rfl rfl h2 dX0_addHole_17 (fun H locs hP hD hS => ?_)
      obtain ⟨b3, eb3⟩ : ∃ y : Nat → Int32, y = (upd o_holeX o_holes.toNatClampNeg p1) := ⟨_, rfl⟩
      have hF := hF b3 eb3
      have hP : va_P D vwCl [(q_o, .inr (0, [x_o_width, x_o_height, x_o_planes, .int o_holes, x_o_reach, x_o_cells, x_o_pulls, .ref q_o_holeX, .ref q_o_holeY, x_o_price])), (q_o_holeX, .inl (cy 0, 4, .inl b3)), (q_o_holeY, .inl (cy 0, 4, .inl o_holeY))] H := by rw [eb3]; exact hP
      have hD : va_D A [(q_o, .inr (0, [x_o_width, x_o_height, x_o_planes, .int o_holes, x_o_reach, x_o_cells, x_o_pulls, .ref q_o_holeX, .ref q_o_holeY, x_o_price])), (q_o_holeX, .inl (cy 0, 4, .inl b3)), (q_o_holeY, .inl (cy 0, 4, .inl o_holeY))] := by rw [eb3]; exact hD
      refine lv_aload_n hx hb dX0_addHole_18 rfl (lv_at hl 0 rfl) ?_
      refine va_get (D := D) (ci := 0) (v := .ref q_o_holeY) (C := RX0) (T := TX0) (N := 10) hx hb hts f_inX0 hown hK hP 0 rfl rfl 8 (by decide) f_f37 (fun _ h9 => h9) rfl dX0_addHole_19 ?_
      refine lv_aload_n hx hb dX0_addHole_22 rfl (lv_at hl 0 rfl) ?_
      refine va_get (D := D) (ci := 0) (v := .int o_holes) (C := RX0) (T := TX0) (N := 10) hx hb hts f_inX0 hown hK hP 0 rfl rfl 3 (by decide) f_f21 (fun _ h9 => h9) rfl dX0_addHole_23 ?_
      refine lv_iload_n hx hb dX0_addHole_26 rfl (lv_at hl 2 rfl) ?_
      obtain ⟨h4, hF⟩ := st_o hF
      refine va_iast hx hb hK hP hD hS 2 0 rfl rfl h4 dX0_addHole_27 (fun H locs hP hD hS => ?_)
      obtain ⟨b5, eb5⟩ : ∃ y : Nat → Int32, y = (upd o_holeY o_holes.toNatClampNeg p2) := ⟨_, rfl⟩
      have hF := hF b5 eb5
      have hP : va_P D vwCl [(q_o, .inr (0, [x_o_width, x_o_height, x_o_planes, .int o_holes, x_o_reach, x_o_cells, x_o_pulls, .ref q_o_holeX, .ref q_o_holeY, x_o_price])), (q_o_holeX, .inl (cy 0, 4, .inl b3)), (q_o_holeY, .inl (cy 0, 4, .inl b5))] H := by rw [eb5]; exact hP
      have hD : va_D A [(q_o, .inr (0, [x_o_width, x_o_height, x_o_planes, .int o_holes, x_o_reach, x_o_cells, x_o_pulls, .ref q_o_holeX, .ref q_o_holeY, x_o_price])), (q_o_holeX, .inl (cy 0, 4, .inl b3)), (q_o_holeY, .inl (cy 0, 4, .inl b5))] := by rw [eb5]; exact hD
      refine lv_aload_n hx hb dX0_addHole_28 rfl (lv_at hl 0 rfl) ?_
      refine lv_dup hx hb dX0_addHole_29 rfl ?_
      refine va_get (D := D) (ci := 0) (v := .int o_holes) (C := RX0) (T := TX0) (N := 10) hx hb hts f_inX0 hown hK hP 0 rfl rfl 3 (by decide) f_f21 (fun _ h9 => h9) rfl dX0_addHole_30 ?_
      refine lv_iconst (v := 1) hx hb dX0_addHole_33 (by decide) ?_
      refine lv_iadd hx hb dX0_addHole_34 ?_
      refine lv_topi (fun v6 ev6 => ?_)
      have hF := nm_o hF v6 ev6
      refine va_put (D := D) (ci := 0) (v := .int v6) (ty := .int) (C := RX0) (T := TX0) (N := 10) hx hb hts f_inX0 tyX0 tyX0_ok nmX0 hown hK hP hD hS 0 rfl rfl 3 (by decide) f_f21 (fun _ h9 => h9) rfl (by decide +kernel) rfl rfl (Nat.le_of_ble_eq_true rfl) dX0_addHole_35 (fun H locs hP hD hS => ?_)
      have hP : va_P D vwCl [(q_o, .inr (0, [x_o_width, x_o_height, x_o_planes, .int v6, x_o_reach, x_o_cells, x_o_pulls, .ref q_o_holeX, .ref q_o_holeY, x_o_price])), (q_o_holeX, .inl (cy 0, 4, .inl b3)), (q_o_holeY, .inl (cy 0, 4, .inl b5))] H := hP
      have hD : va_D A [(q_o, .inr (0, [x_o_width, x_o_height, x_o_planes, .int v6, x_o_reach, x_o_cells, x_o_pulls, .ref q_o_holeX, .ref q_o_holeY, x_o_price])), (q_o_holeX, .inl (cy 0, 4, .inl b3)), (q_o_holeY, .inl (cy 0, 4, .inl b5))] := hD
      obtain rfl := so_o hF
      rw [hQQ]
      exact kr_v hx hb hr hlocks hP hD hS dX0_addHole_38
  exact main s.heap [] ls hP hD hS hl
theorem kd_X0_isBack : yX0_isBack.cls = RX0 ∧ yX0_isBack.cls ≠ "java/lang/invoke/MethodHandle" ∧ yX0_isBack.cls ≠ "java/lang/invoke/VarHandle" ∧ (parseMethodDescriptor yX0_isBack.desc).map (fun d => d.parameters.length) = some 1 := by decide +kernel
set_option maxHeartbeats 4000000 in
set_option maxRecDepth 100000 in
theorem c_X0_isBack {l : Launch} {D : va_G} {cy : Nat → ClassId} (q_o : Nat) (sz : Nat) (x_o_width x_o_height x_o_holes x_o_reach x_o_cells x_o_pulls x_o_holeX x_o_holeY x_o_price : Value) (o_planes : Int32) (p1 : Int32) (res : Int32) (hF : X0_isBack o_planes p1 = some res) : Met l yX0_isBack wsX0_isBack ({ frames := 0, cells := 0, slots := 0, locals := 0 } : Room) (kP (EN D cy) D [.ref q_o, .int p1] [(q_o, .inr (0, [x_o_width, x_o_height, .int o_planes, x_o_holes, x_o_reach, x_o_cells, x_o_pulls, x_o_holeX, x_o_holeY, x_o_price]))] sz) (kQi D res [(q_o, .inr (0, [x_o_width, x_o_height, .int o_planes, x_o_holes, x_o_reach, x_o_cells, x_o_pulls, x_o_holeX, x_o_holeY, x_o_price]))] (va_A [(q_o, .inr (0, [x_o_width, x_o_height, .int o_planes, x_o_holes, x_o_reach, x_o_cells, x_o_pulls, x_o_holeX, x_o_holeY, x_o_price]))] sz)) 0 0 (va_A [(q_o, .inr (0, [x_o_width, x_o_height, .int o_planes, x_o_holes, x_o_reach, x_o_cells, x_o_pulls, x_o_holeX, x_o_holeY, x_o_price]))] sz) := by
  refine kMet (y := yX0_isBack) (av := [.ref q_o, .int p1]) (cc := cX0_isBack) (maxL := 2) (ret := some .boolean) (own := RX0) (Qc := fun A9 => (kQi D res [(q_o, .inr (0, [x_o_width, x_o_height, .int o_planes, x_o_holes, x_o_reach, x_o_cells, x_o_pulls, x_o_holeX, x_o_holeY, x_o_price]))] A9)) (by decide) rfl rfl (Nat.le_of_ble_eq_true rfl) ?_
  intro p e s m args below meth c A hx hb hr hts hown hml hlocks hname hE hP hD hA hsz ls hl
  have hK := hE.1
  have hl : lv_has ls 2 [(0, .ref q_o), (1, .int p1)] := hl
  have hS : va_S A s.heap s.heap [] := va_S.rf
  have f_f18 := hts (.fieldLink RX0 18 "PeepBox$Box" "planes" "I") (by decide +kernel)
  have f_inX0 : ∀ w ∈ wsX00, w ∈ wsX0_isBack := by decide +kernel
  obtain ⟨QQ, hQQ⟩ : ∃ Q9, Q9 = MQ below (kQi D res [(q_o, .inr (0, [x_o_width, x_o_height, .int o_planes, x_o_holes, x_o_reach, x_o_cells, x_o_pulls, x_o_holeX, x_o_holeY, x_o_price]))] A) args s 0 0 A := ⟨_, rfl⟩
  rw [← hQQ]
  have main : ∀ (H : Heap) (locs : List Loc) (ls : Array Slot), va_P D vwCl [(q_o, .inr (0, [x_o_width, x_o_height, .int o_planes, x_o_holes, x_o_reach, x_o_cells, x_o_pulls, x_o_holeX, x_o_holeY, x_o_price]))] H → va_D A [(q_o, .inr (0, [x_o_width, x_o_height, .int o_planes, x_o_holes, x_o_reach, x_o_cells, x_o_pulls, x_o_holeX, x_o_holeY, x_o_price]))] → va_S A s.heap H locs → lv_has ls 2 [(0, .ref q_o), (1, .int p1)] → W p l e ({ frames := 0, cells := 0, slots := 0, locals := 0 } : Room) s m args below meth c H locs 0 0 QQ (F0 m 0 ls []) := by
    intro H locs ls hP hD hS hl
    unfold X0_isBack at hF
    refine lv_iload_n hx hb dX0_isBack_0 rfl (lv_at hl 1 rfl) ?_
    refine lv_aload_n hx hb dX0_isBack_1 rfl (lv_at hl 0 rfl) ?_
    refine va_get (D := D) (ci := 0) (v := .int o_planes) (C := RX0) (T := TX0) (N := 10) hx hb hts f_inX0 hown hK hP 0 rfl rfl 2 (by decide) f_f18 (fun _ h9 => h9) rfl dX0_isBack_2 ?_
    refine lv_iconst (v := 1) hx hb dX0_isBack_5 (by decide) ?_
    refine lv_isub hx hb dX0_isBack_6 ?_
    refine lv_icmp_ne (tgt := 14) hx hb dX0_isBack_7 (by decide) (fun c1 => ?_) (fun c1 => ?_)
    · have hF := if_n hF c1
      refine lv_iconst (v := 0) hx hb dX0_isBack_14 (by decide) ?_
      obtain rfl := so_o hF
      rw [hQQ]
      exact kr_z (v := (0 : Int32)) hx hb hr hlocks rfl hP hD hS dX0_isBack_15
    · have hF := if_p hF c1
      refine lv_iconst (v := 1) hx hb dX0_isBack_10 (by decide) ?_
      refine lv_goto (tgt := 15) hx hb dX0_isBack_11 (by decide) ?_
      obtain rfl := so_o hF
      rw [hQQ]
      exact kr_z (v := (1 : Int32)) hx hb hr hlocks rfl hP hD hS dX0_isBack_15
  exact main s.heap [] ls hP hD hS hl
theorem kd_X0_canUse : yX0_canUse.cls = RX0 ∧ yX0_canUse.cls ≠ "java/lang/invoke/MethodHandle" ∧ yX0_canUse.cls ≠ "java/lang/invoke/VarHandle" ∧ (parseMethodDescriptor yX0_canUse.desc).map (fun d => d.parameters.length) = some 2 := by decide +kernel
set_option maxHeartbeats 4000000 in
set_option maxRecDepth 100000 in
theorem c_X0_canUse {l : Launch} {D : va_G} {cy : Nat → ClassId} (q_o q_o_holeY : Nat) (sz : Nat) (x_o_width x_o_planes x_o_holes x_o_cells x_o_pulls x_o_holeX x_o_price : Value) (o_height : Int32) (o_reach : Int32) (o_holeY : Nat → Int32) (p1 : Int32) (p2 : Int32) (res : Int32) (hF : X0_canUse o_height o_reach o_holeY p1 p2 = some res) : Met l yX0_canUse wsX0_canUse ({ frames := 1, cells := 0, slots := 0, locals := 30 } : Room) (kP (EN D cy) D [.ref q_o, .int p1, .int p2] [(q_o, .inr (0, [x_o_width, .int o_height, x_o_planes, x_o_holes, .int o_reach, x_o_cells, x_o_pulls, x_o_holeX, .ref q_o_holeY, x_o_price])), (q_o_holeY, .inl (cy 0, 4, .inl o_holeY))] sz) (kQi D res [(q_o, .inr (0, [x_o_width, .int o_height, x_o_planes, x_o_holes, .int o_reach, x_o_cells, x_o_pulls, x_o_holeX, .ref q_o_holeY, x_o_price])), (q_o_holeY, .inl (cy 0, 4, .inl o_holeY))] (va_A [(q_o, .inr (0, [x_o_width, .int o_height, x_o_planes, x_o_holes, .int o_reach, x_o_cells, x_o_pulls, x_o_holeX, .ref q_o_holeY, x_o_price])), (q_o_holeY, .inl (cy 0, 4, .inl o_holeY))] sz)) 0 0 (va_A [(q_o, .inr (0, [x_o_width, .int o_height, x_o_planes, x_o_holes, .int o_reach, x_o_cells, x_o_pulls, x_o_holeX, .ref q_o_holeY, x_o_price])), (q_o_holeY, .inl (cy 0, 4, .inl o_holeY))] sz) := by
  refine kMet (y := yX0_canUse) (av := [.ref q_o, .int p1, .int p2]) (cc := cX0_canUse) (maxL := 3) (ret := some .boolean) (own := RX0) (Qc := fun A9 => (kQi D res [(q_o, .inr (0, [x_o_width, .int o_height, x_o_planes, x_o_holes, .int o_reach, x_o_cells, x_o_pulls, x_o_holeX, .ref q_o_holeY, x_o_price])), (q_o_holeY, .inl (cy 0, 4, .inl o_holeY))] A9)) (by decide) rfl rfl (Nat.le_of_ble_eq_true rfl) ?_
  intro p e s m args below meth c A hx hb hr hts hown hml hlocks hname hE hP hD hA hsz ls hl
  have hK := hE.1
  have hl : lv_has ls 3 [(0, .ref q_o), (1, .int p1), (2, .int p2)] := hl
  have hS : va_S A s.heap s.heap [] := va_S.rf
  have f_f15 := hts (.fieldLink RX0 15 "PeepBox$Box" "height" "I") (by decide +kernel)
  have f_inX0 : ∀ w ∈ wsX00, w ∈ wsX0_canUse := by decide +kernel
  have f_f37 := hts (.fieldLink RX0 37 "PeepBox$Box" "holeY" "[I") (by decide +kernel)
  have f_m70 := hts (.methodLink RX0 70 Lib.Math.abs.name) (by decide +kernel)
  have f_s_va_mabs := hts (.static Lib.Math.abs.name) (by decide +kernel)
  have f_iMath := hts (.initialized "java/lang/Math") (by decide +kernel)
  have f_k_va_mabs := hts (.code Lib.Math.abs.name Lib.Math.abs.code 1 (some .int)) (by decide +kernel)
  have f_f24 := hts (.fieldLink RX0 24 "PeepBox$Box" "reach" "I") (by decide +kernel)
  obtain ⟨QQ, hQQ⟩ : ∃ Q9, Q9 = MQ below (kQi D res [(q_o, .inr (0, [x_o_width, .int o_height, x_o_planes, x_o_holes, .int o_reach, x_o_cells, x_o_pulls, x_o_holeX, .ref q_o_holeY, x_o_price])), (q_o_holeY, .inl (cy 0, 4, .inl o_holeY))] A) args s 0 0 A := ⟨_, rfl⟩
  rw [← hQQ]
  have main : ∀ (H : Heap) (locs : List Loc) (ls : Array Slot), va_P D vwCl [(q_o, .inr (0, [x_o_width, .int o_height, x_o_planes, x_o_holes, .int o_reach, x_o_cells, x_o_pulls, x_o_holeX, .ref q_o_holeY, x_o_price])), (q_o_holeY, .inl (cy 0, 4, .inl o_holeY))] H → va_D A [(q_o, .inr (0, [x_o_width, .int o_height, x_o_planes, x_o_holes, .int o_reach, x_o_cells, x_o_pulls, x_o_holeX, .ref q_o_holeY, x_o_price])), (q_o_holeY, .inl (cy 0, 4, .inl o_holeY))] → va_S A s.heap H locs → lv_has ls 3 [(0, .ref q_o), (1, .int p1), (2, .int p2)] → W p l e ({ frames := 1, cells := 0, slots := 0, locals := 30 } : Room) s m args below meth c H locs 0 0 QQ (F0 m 0 ls []) := by
    intro H locs ls hP hD hS hl
    unfold X0_canUse at hF
    refine lv_iload_n hx hb dX0_canUse_0 rfl (lv_at hl 1 rfl) ?_
    refine lv_aload_n hx hb dX0_canUse_1 rfl (lv_at hl 0 rfl) ?_
    refine va_get (D := D) (ci := 0) (v := .int o_height) (C := RX0) (T := TX0) (N := 10) hx hb hts f_inX0 hown hK hP 0 rfl rfl 1 (by decide) f_f15 (fun _ h9 => h9) rfl dX0_canUse_2 ?_
    refine lv_iconst (v := 1) hx hb dX0_canUse_5 (by decide) ?_
    refine lv_isub hx hb dX0_canUse_6 ?_
    refine lv_aload_n hx hb dX0_canUse_7 rfl (lv_at hl 0 rfl) ?_
    refine va_get (D := D) (ci := 0) (v := .ref q_o_holeY) (C := RX0) (T := TX0) (N := 10) hx hb hts f_inX0 hown hK hP 0 rfl rfl 8 (by decide) f_f37 (fun _ h9 => h9) rfl dX0_canUse_8 ?_
    refine lv_iload_n hx hb dX0_canUse_11 rfl (lv_at hl 2 rfl) ?_
    obtain ⟨h1, hF⟩ := ld_o hF
    refine va_iald hx hb hK hP 1 0 rfl rfl h1 dX0_canUse_12 ?_
    refine lv_topi (fun v2 ev2 => ?_)
    have hF := hF v2 ev2
    refine lv_isub hx hb dX0_canUse_13 ?_
    refine lv_isub hx hb dX0_canUse_14 ?_
    refine va_mabs hx hb (by rw [hml]; exact hl.1.symm) hown f_m70 f_s_va_mabs f_iMath f_k_va_mabs (Nat.le_of_ble_eq_true rfl) (Nat.le_of_ble_eq_true rfl) (Nat.zero_le _) (Nat.zero_le _) dX0_canUse_15 ?_
    refine lv_topi (fun v3 ev3 => ?_)
    have hF := nm_o hF v3 ev3
    refine lv_aload_n hx hb dX0_canUse_18 rfl (lv_at hl 0 rfl) ?_
    refine va_get (D := D) (ci := 0) (v := .int o_reach) (C := RX0) (T := TX0) (N := 10) hx hb hts f_inX0 hown hK hP 0 rfl rfl 4 (by decide) f_f24 (fun _ h9 => h9) rfl dX0_canUse_19 ?_
    refine lv_icmp_gt (tgt := 29) hx hb dX0_canUse_22 (by decide) (fun c4 => ?_) (fun c4 => ?_)
    · have hF := if_p hF c4
      refine lv_iconst (v := 0) hx hb dX0_canUse_29 (by decide) ?_
      obtain rfl := so_o hF
      rw [hQQ]
      exact kr_z (v := (0 : Int32)) hx hb hr hlocks rfl hP hD hS dX0_canUse_30
    · have hF := if_n hF c4
      refine lv_iconst (v := 1) hx hb dX0_canUse_25 (by decide) ?_
      refine lv_goto (tgt := 30) hx hb dX0_canUse_26 (by decide) ?_
      obtain rfl := so_o hF
      rw [hQQ]
      exact kr_z (v := (1 : Int32)) hx hb hr hlocks rfl hP hD hS dX0_canUse_30
  exact main s.heap [] ls hP hD hS hl
theorem kd_X0_kindAt : yX0_kindAt.cls = RX0 ∧ yX0_kindAt.cls ≠ "java/lang/invoke/MethodHandle" ∧ yX0_kindAt.cls ≠ "java/lang/invoke/VarHandle" ∧ (parseMethodDescriptor yX0_kindAt.desc).map (fun d => d.parameters.length) = some 3 := by decide +kernel
set_option maxHeartbeats 4000000 in
set_option maxRecDepth 100000 in
theorem c_X0_kindAt {l : Launch} {D : va_G} {cy : Nat → ClassId} (q_o q_o_cells q_o_pulls : Nat) (sz : Nat) (x_o_width x_o_planes x_o_holes x_o_reach x_o_holeX x_o_holeY x_o_price : Value) (o_height : Int32) (o_cells : Nat → Int32) (o_pulls : Nat → Int32) (p1 : Int32) (p2 : Int32) (p3 : Int32) (res : Int32) (hF : X0_kindAt o_height o_cells o_pulls p1 p2 p3 = some res) : Met l yX0_kindAt wsX0_kindAt ({ frames := 0, cells := 0, slots := 0, locals := 0 } : Room) (kP (EN D cy) D [.ref q_o, .int p1, .int p2, .int p3] [(q_o, .inr (0, [x_o_width, .int o_height, x_o_planes, x_o_holes, x_o_reach, .ref q_o_cells, .ref q_o_pulls, x_o_holeX, x_o_holeY, x_o_price])), (q_o_cells, .inl (cy 0, 480, .inl o_cells)), (q_o_pulls, .inl (cy 0, 5, .inl o_pulls))] sz) (kQi D res [(q_o, .inr (0, [x_o_width, .int o_height, x_o_planes, x_o_holes, x_o_reach, .ref q_o_cells, .ref q_o_pulls, x_o_holeX, x_o_holeY, x_o_price])), (q_o_cells, .inl (cy 0, 480, .inl o_cells)), (q_o_pulls, .inl (cy 0, 5, .inl o_pulls))] (va_A [(q_o, .inr (0, [x_o_width, .int o_height, x_o_planes, x_o_holes, x_o_reach, .ref q_o_cells, .ref q_o_pulls, x_o_holeX, x_o_holeY, x_o_price])), (q_o_cells, .inl (cy 0, 480, .inl o_cells)), (q_o_pulls, .inl (cy 0, 5, .inl o_pulls))] sz)) 0 0 (va_A [(q_o, .inr (0, [x_o_width, .int o_height, x_o_planes, x_o_holes, x_o_reach, .ref q_o_cells, .ref q_o_pulls, x_o_holeX, x_o_holeY, x_o_price])), (q_o_cells, .inl (cy 0, 480, .inl o_cells)), (q_o_pulls, .inl (cy 0, 5, .inl o_pulls))] sz) := by
  refine kMet (y := yX0_kindAt) (av := [.ref q_o, .int p1, .int p2, .int p3]) (cc := cX0_kindAt) (maxL := 5) (ret := some .int) (own := RX0) (Qc := fun A9 => (kQi D res [(q_o, .inr (0, [x_o_width, .int o_height, x_o_planes, x_o_holes, x_o_reach, .ref q_o_cells, .ref q_o_pulls, x_o_holeX, x_o_holeY, x_o_price])), (q_o_cells, .inl (cy 0, 480, .inl o_cells)), (q_o_pulls, .inl (cy 0, 5, .inl o_pulls))] A9)) (by decide) rfl rfl (Nat.le_of_ble_eq_true rfl) ?_
  intro p e s m args below meth c A hx hb hr hts hown hml hlocks hname hE hP hD hA hsz ls hl
  have hK := hE.1
  have hl : lv_has ls 5 [(0, .ref q_o), (1, .int p1), (2, .int p2), (3, .int p3)] := hl
  have hS : va_S A s.heap s.heap [] := va_S.rf
  have f_f31 := hts (.fieldLink RX0 31 "PeepBox$Box" "pulls" "[I") (by decide +kernel)
  have f_inX0 : ∀ w ∈ wsX00, w ∈ wsX0_kindAt := by decide +kernel
  have f_f15 := hts (.fieldLink RX0 15 "PeepBox$Box" "height" "I") (by decide +kernel)
  have f_f27 := hts (.fieldLink RX0 27 "PeepBox$Box" "cells" "[I") (by decide +kernel)
  obtain ⟨QQ, hQQ⟩ : ∃ Q9, Q9 = MQ below (kQi D res [(q_o, .inr (0, [x_o_width, .int o_height, x_o_planes, x_o_holes, x_o_reach, .ref q_o_cells, .ref q_o_pulls, x_o_holeX, x_o_holeY, x_o_price])), (q_o_cells, .inl (cy 0, 480, .inl o_cells)), (q_o_pulls, .inl (cy 0, 5, .inl o_pulls))] A) args s 0 0 A := ⟨_, rfl⟩
  rw [← hQQ]
  have main : ∀ (H : Heap) (locs : List Loc) (ls : Array Slot), va_P D vwCl [(q_o, .inr (0, [x_o_width, .int o_height, x_o_planes, x_o_holes, x_o_reach, .ref q_o_cells, .ref q_o_pulls, x_o_holeX, x_o_holeY, x_o_price])), (q_o_cells, .inl (cy 0, 480, .inl o_cells)), (q_o_pulls, .inl (cy 0, 5, .inl o_pulls))] H → va_D A [(q_o, .inr (0, [x_o_width, .int o_height, x_o_planes, x_o_holes, x_o_reach, .ref q_o_cells, .ref q_o_pulls, x_o_holeX, x_o_holeY, x_o_price])), (q_o_cells, .inl (cy 0, 480, .inl o_cells)), (q_o_pulls, .inl (cy 0, 5, .inl o_pulls))] → va_S A s.heap H locs → lv_has ls 5 [(0, .ref q_o), (1, .int p1), (2, .int p2), (3, .int p3)] → W p l e ({ frames := 0, cells := 0, slots := 0, locals := 0 } : Room) s m args below meth c H locs 0 0 QQ (F0 m 0 ls []) := by
    intro H locs ls hP hD hS hl
    unfold X0_kindAt at hF
    refine lv_iload_n hx hb dX0_kindAt_0 rfl (lv_at hl 3 rfl) ?_
    refine lv_aload_n hx hb dX0_kindAt_1 rfl (lv_at hl 0 rfl) ?_
    refine va_get (D := D) (ci := 0) (v := .ref q_o_pulls) (C := RX0) (T := TX0) (N := 10) hx hb hts f_inX0 hown hK hP 0 rfl rfl 6 (by decide) f_f31 (fun _ h9 => h9) rfl dX0_kindAt_2 ?_
    refine lv_iload_n hx hb dX0_kindAt_5 rfl (lv_at hl 1 rfl) ?_
    obtain ⟨h1, hF⟩ := ld_o hF
    refine va_iald hx hb hK hP 2 0 rfl rfl h1 dX0_kindAt_6 ?_
    refine lv_topi (fun v2 ev2 => ?_)
    have hF := hF v2 ev2
    refine lv_iadd hx hb dX0_kindAt_7 ?_
    refine lv_topi (fun v3 ev3 => ?_)
    have hF := nm_o hF v3 ev3
    refine lv_istore (lv' := [(4, .int v3), (0, .ref q_o), (1, .int p1), (2, .int p2), (3, .int p3)]) hx hb dX0_kindAt_8 hl (by decide) rfl (fun ls hl => ?_)
    refine lv_iload hx hb dX0_kindAt_10 (lv_at hl 0 rfl) ?_
    refine lv_aload_n hx hb dX0_kindAt_12 rfl (lv_at hl 1 rfl) ?_
    refine va_get (D := D) (ci := 0) (v := .int o_height) (C := RX0) (T := TX0) (N := 10) hx hb hts f_inX0 hown hK hP 0 rfl rfl 1 (by decide) f_f15 (fun _ h9 => h9) rfl dX0_kindAt_13 ?_
    refine lv_icmp_ge (tgt := 39) hx hb dX0_kindAt_16 (by decide) (fun c4 => ?_) (fun c4 => ?_)
    · have hF := if_p hF c4
      refine lv_iconst (v := -1) hx hb dX0_kindAt_39 (by decide) ?_
      obtain rfl := so_o hF
      rw [hQQ]
      exact kr_i hx hb hr hlocks hP hD hS dX0_kindAt_40
    · have hF := if_n hF c4
      refine lv_aload_n hx hb dX0_kindAt_19 rfl (lv_at hl 1 rfl) ?_
      refine va_get (D := D) (ci := 0) (v := .ref q_o_cells) (C := RX0) (T := TX0) (N := 10) hx hb hts f_inX0 hown hK hP 0 rfl rfl 5 (by decide) f_f27 (fun _ h9 => h9) rfl dX0_kindAt_20 ?_
      refine lv_iload_n hx hb dX0_kindAt_23 rfl (lv_at hl 2 rfl) ?_
      refine lv_bipush (v := 96) hx hb dX0_kindAt_24 (by decide) ?_
      refine lv_imul hx hb dX0_kindAt_26 ?_
      refine lv_iload hx hb dX0_kindAt_27 (lv_at hl 0 rfl) ?_
      refine lv_bipush (v := 12) hx hb dX0_kindAt_29 (by decide) ?_
      refine lv_imul hx hb dX0_kindAt_31 ?_
      refine lv_iadd hx hb dX0_kindAt_32 ?_
      refine lv_iload_n hx hb dX0_kindAt_33 rfl (lv_at hl 3 rfl) ?_
      refine lv_iadd hx hb dX0_kindAt_34 ?_
      obtain ⟨h5, hF⟩ := ld_o hF
      refine va_iald hx hb hK hP 1 0 rfl rfl h5 dX0_kindAt_35 ?_
      refine lv_topi (fun v6 ev6 => ?_)
      have hF := hF v6 ev6
      refine lv_goto (tgt := 40) hx hb dX0_kindAt_36 (by decide) ?_
      obtain rfl := so_o hF
      rw [hQQ]
      exact kr_i hx hb hr hlocks hP hD hS dX0_kindAt_40
  exact main s.heap [] ls hP hD hS hl
theorem kd_X0_standing : yX0_standing.cls = RX0 ∧ yX0_standing.cls ≠ "java/lang/invoke/MethodHandle" ∧ yX0_standing.cls ≠ "java/lang/invoke/VarHandle" ∧ (parseMethodDescriptor yX0_standing.desc).map (fun d => d.parameters.length) = some 1 := by decide +kernel
set_option maxHeartbeats 4000000 in
set_option maxRecDepth 100000 in
theorem c_X0_standing {l : Launch} {D : va_G} {cy : Nat → ClassId} (q_o q_o_cells q_o_pulls : Nat) (sz : Nat) (x_o_planes x_o_holes x_o_reach x_o_holeX x_o_holeY x_o_price : Value) (o_width : Int32) (o_height : Int32) (o_cells : Nat → Int32) (o_pulls : Nat → Int32) (p1 : Int32) (res : Int32) (hF : X0_standing o_width o_height o_cells o_pulls p1 = some res) : Met l yX0_standing wsX0_standing ({ frames := 1, cells := 0, slots := 0, locals := 24 } : Room) (kP (EN D cy) D [.ref q_o, .int p1] [(q_o, .inr (0, [.int o_width, .int o_height, x_o_planes, x_o_holes, x_o_reach, .ref q_o_cells, .ref q_o_pulls, x_o_holeX, x_o_holeY, x_o_price])), (q_o_cells, .inl (cy 0, 480, .inl o_cells)), (q_o_pulls, .inl (cy 0, 5, .inl o_pulls))] sz) (kQi D res [(q_o, .inr (0, [.int o_width, .int o_height, x_o_planes, x_o_holes, x_o_reach, .ref q_o_cells, .ref q_o_pulls, x_o_holeX, x_o_holeY, x_o_price])), (q_o_cells, .inl (cy 0, 480, .inl o_cells)), (q_o_pulls, .inl (cy 0, 5, .inl o_pulls))] (va_A [(q_o, .inr (0, [.int o_width, .int o_height, x_o_planes, x_o_holes, x_o_reach, .ref q_o_cells, .ref q_o_pulls, x_o_holeX, x_o_holeY, x_o_price])), (q_o_cells, .inl (cy 0, 480, .inl o_cells)), (q_o_pulls, .inl (cy 0, 5, .inl o_pulls))] sz)) 0 0 (va_A [(q_o, .inr (0, [.int o_width, .int o_height, x_o_planes, x_o_holes, x_o_reach, .ref q_o_cells, .ref q_o_pulls, x_o_holeX, x_o_holeY, x_o_price])), (q_o_cells, .inl (cy 0, 480, .inl o_cells)), (q_o_pulls, .inl (cy 0, 5, .inl o_pulls))] sz) := by
  refine kMet (y := yX0_standing) (av := [.ref q_o, .int p1]) (cc := cX0_standing) (maxL := 5) (ret := some .int) (own := RX0) (Qc := fun A9 => (kQi D res [(q_o, .inr (0, [.int o_width, .int o_height, x_o_planes, x_o_holes, x_o_reach, .ref q_o_cells, .ref q_o_pulls, x_o_holeX, x_o_holeY, x_o_price])), (q_o_cells, .inl (cy 0, 480, .inl o_cells)), (q_o_pulls, .inl (cy 0, 5, .inl o_pulls))] A9)) (by decide) rfl rfl (Nat.le_of_ble_eq_true rfl) ?_
  intro p e s m args below meth c A hx hb hr hts hown hml hlocks hname hE hP hD hA hsz ls hl
  have hK := hE.1
  have hl : lv_has ls 5 [(0, .ref q_o), (1, .int p1)] := hl
  have hS : va_S A s.heap s.heap [] := va_S.rf
  have f_f9 := hts (.fieldLink RX0 9 "PeepBox$Box" "width" "I") (by decide +kernel)
  have f_inX0 : ∀ w ∈ wsX00, w ∈ wsX0_standing := by decide +kernel
  have f_f15 := hts (.fieldLink RX0 15 "PeepBox$Box" "height" "I") (by decide +kernel)
  obtain ⟨QQ, hQQ⟩ : ∃ Q9, Q9 = MQ below (kQi D res [(q_o, .inr (0, [.int o_width, .int o_height, x_o_planes, x_o_holes, x_o_reach, .ref q_o_cells, .ref q_o_pulls, x_o_holeX, x_o_holeY, x_o_price])), (q_o_cells, .inl (cy 0, 480, .inl o_cells)), (q_o_pulls, .inl (cy 0, 5, .inl o_pulls))] A) args s 0 0 A := ⟨_, rfl⟩
  rw [← hQQ]
  have J4 : ∀ (n4 : Nat) (l2 : Int32) (l3 : Int32) (H : Heap) (locs : List Loc) (ls : Array Slot), va_P D vwCl [(q_o, .inr (0, [.int o_width, .int o_height, x_o_planes, x_o_holes, x_o_reach, .ref q_o_cells, .ref q_o_pulls, x_o_holeX, x_o_holeY, x_o_price])), (q_o_cells, .inl (cy 0, 480, .inl o_cells)), (q_o_pulls, .inl (cy 0, 5, .inl o_pulls))] H → va_D A [(q_o, .inr (0, [.int o_width, .int o_height, x_o_planes, x_o_holes, x_o_reach, .ref q_o_cells, .ref q_o_pulls, x_o_holeX, x_o_holeY, x_o_price])), (q_o_cells, .inl (cy 0, 480, .inl o_cells)), (q_o_pulls, .inl (cy 0, 5, .inl o_pulls))] → va_S A s.heap H locs → lv_has ls 5 [(0, .ref q_o), (1, .int p1), (2, .int l2), (3, .int l3)] → X0_standing_L4 o_width o_height o_cells o_pulls p1 n4 l2 l3 = some res → W p l e ({ frames := 1, cells := 0, slots := 0, locals := 24 } : Room) s m args below meth c H locs 0 0 QQ (F0 m 4 ls []) := by
    intro n4
    induction n4 with
    | zero =>
      intro l2 l3 H locs ls hP hD hS hl hF
      rw [X0_standing_L4] at hF
      cases hF
    | succ n4 ih4 =>
      have J15 : ∀ (n15 : Nat) (l2 : Int32) (l3 : Int32) (l4 : Int32) (H : Heap) (locs : List Loc) (ls : Array Slot), va_P D vwCl [(q_o, .inr (0, [.int o_width, .int o_height, x_o_planes, x_o_holes, x_o_reach, .ref q_o_cells, .ref q_o_pulls, x_o_holeX, x_o_holeY, x_o_price])), (q_o_cells, .inl (cy 0, 480, .inl o_cells)), (q_o_pulls, .inl (cy 0, 5, .inl o_pulls))] H → va_D A [(q_o, .inr (0, [.int o_width, .int o_height, x_o_planes, x_o_holes, x_o_reach, .ref q_o_cells, .ref q_o_pulls, x_o_holeX, x_o_holeY, x_o_price])), (q_o_cells, .inl (cy 0, 480, .inl o_cells)), (q_o_pulls, .inl (cy 0, 5, .inl o_pulls))] → va_S A s.heap H locs → lv_has ls 5 [(0, .ref q_o), (1, .int p1), (2, .int l2), (3, .int l3), (4, .int l4)] → X0_standing_L15 o_width o_height o_cells o_pulls p1 (fun z0 z1 => X0_standing_L4 o_width o_height o_cells o_pulls p1 n4 z0 z1) n15 l2 l3 l4 = some res → W p l e ({ frames := 1, cells := 0, slots := 0, locals := 24 } : Room) s m args below meth c H locs 0 0 QQ (F0 m 15 ls []) := by
        intro n15
        induction n15 with
        | zero =>
          intro l2 l3 l4 H locs ls hP hD hS hl hF
          rw [X0_standing_L15] at hF
          cases hF
        | succ n15 ih15 =>
          have J39 : ∀ (l2 : Int32) (l3 : Int32) (l4 : Int32) (H : Heap) (locs : List Loc) (ls : Array Slot), va_P D vwCl [(q_o, .inr (0, [.int o_width, .int o_height, x_o_planes, x_o_holes, x_o_reach, .ref q_o_cells, .ref q_o_pulls, x_o_holeX, x_o_holeY, x_o_price])), (q_o_cells, .inl (cy 0, 480, .inl o_cells)), (q_o_pulls, .inl (cy 0, 5, .inl o_pulls))] H → va_D A [(q_o, .inr (0, [.int o_width, .int o_height, x_o_planes, x_o_holes, x_o_reach, .ref q_o_cells, .ref q_o_pulls, x_o_holeX, x_o_holeY, x_o_price])), (q_o_cells, .inl (cy 0, 480, .inl o_cells)), (q_o_pulls, .inl (cy 0, 5, .inl o_pulls))] → va_S A s.heap H locs → lv_has ls 5 [(0, .ref q_o), (1, .int p1), (2, .int l2), (3, .int l3), (4, .int l4)] → X0_standing_J39 o_width o_height o_cells o_pulls p1 (fun z0 z1 => X0_standing_L4 o_width o_height o_cells o_pulls p1 n4 z0 z1) (fun z0 z1 z2 => X0_standing_L15 o_width o_height o_cells o_pulls p1 (fun z0 z1 => X0_standing_L4 o_width o_height o_cells o_pulls p1 n4 z0 z1) n15 z0 z1 z2) l2 l3 l4 = some res → W p l e ({ frames := 1, cells := 0, slots := 0, locals := 24 } : Room) s m args below meth c H locs 0 0 QQ (F0 m 39 ls []) := by
            intro l2 l3 l4 H locs ls hP hD hS hl hF
            unfold X0_standing_J39 at hF
            obtain ⟨v1, ev1⟩ : ∃ y : Int32, y = l4 + (1 : Int32) := ⟨_, rfl⟩
            have hF := nm_o hF v1 ev1
            refine lv_iinc (v := v1) (lv' := [(4, .int v1), (0, .ref q_o), (1, .int p1), (2, .int l2), (3, .int l3)]) hx hb dX0_standing_39 hl (k := 4) rfl (by rw [ev1]; rfl) (by decide) rfl (fun ls hl => ?_)
            refine lv_goto (tgt := 15) hx hb dX0_standing_42 (by decide) ?_
            exact ih15 l2 l3 v1 H locs ls hP hD hS (lv_sub hl [1, 2, 3, 4, 0] rfl) hF
          intro l2 l3 l4 H locs ls hP hD hS hl hF
          rw [X0_standing_L15] at hF
          refine lv_iload hx hb dX0_standing_15 (lv_at hl 4 rfl) ?_
          refine lv_aload_n hx hb dX0_standing_17 rfl (lv_at hl 0 rfl) ?_
          refine va_get (D := D) (ci := 0) (v := .int o_width) (C := RX0) (T := TX0) (N := 10) hx hb hts f_inX0 hown hK hP 0 rfl rfl 0 (by decide) f_f9 (fun _ h9 => h9) rfl dX0_standing_18 ?_
          refine lv_icmp_ge (tgt := 45) hx hb dX0_standing_21 (by decide) (fun c2 => ?_) (fun c2 => ?_)
          · have hF := if_p hF c2
            obtain ⟨v3, ev3⟩ : ∃ y : Int32, y = l3 + (1 : Int32) := ⟨_, rfl⟩
            have hF := nm_o hF v3 ev3
            refine lv_iinc (v := v3) (lv' := [(3, .int v3), (0, .ref q_o), (1, .int p1), (2, .int l2), (4, .int l4)]) hx hb dX0_standing_45 hl (k := 3) rfl (by rw [ev3]; rfl) (by decide) rfl (fun ls hl => ?_)
            refine lv_goto (tgt := 4) hx hb dX0_standing_48 (by decide) ?_
            exact ih4 l2 v3 H locs ls hP hD hS (lv_sub hl [1, 2, 3, 0] rfl) hF
          · have hF := if_n hF c2
            refine lv_aload_n hx hb dX0_standing_24 rfl (lv_at hl 0 rfl) ?_
            refine lv_iload_n hx hb dX0_standing_25 rfl (lv_at hl 1 rfl) ?_
            refine lv_iload hx hb dX0_standing_26 (lv_at hl 4 rfl) ?_
            refine lv_iload_n hx hb dX0_standing_28 rfl (lv_at hl 3 rfl) ?_
            obtain ⟨r4, h5, hF⟩ := bn1_o hF
            refine kd_i [(q_o, .inr (0, [.int o_width, .int o_height, x_o_planes, x_o_holes, x_o_reach, .ref q_o_cells, .ref q_o_pulls, x_o_holeX, x_o_holeY, x_o_price])), (q_o_cells, .inl (cy 0, 480, .inl o_cells)), (q_o_pulls, .inl (cy 0, 5, .inl o_pulls))] (va_runV (As := [.int p1, .int l4, .int l3]) (rest := []) ⟨hx, hb, hml, hown, hts⟩ (c_X0_kindAt q_o q_o_cells q_o_pulls H.size (.int o_width) x_o_planes x_o_holes x_o_reach x_o_holeX x_o_holeY x_o_price o_height o_cells o_pulls p1 l4 l3 _ h5) (cwV 3 hts gX0_standing_X0_kindAt rfl rfl rfl kd_X0_kindAt ⟨Nat.le_of_ble_eq_true rfl, Nat.le_of_ble_eq_true rfl⟩) ⟨kP_blind (EN_ok D cy) D _ _ _, va_recv hK hP (ci := 0) (q0 := 0) rfl rfl, kStart (EN_ok D cy) hE hP hD hS hA [0, 1, 2] rfl rfl _⟩ rfl rfl hl.1 rfl (lv_room (Nat.le_of_ble_eq_true rfl)) dX0_standing_29 ⟨Nat.zero_le _, Nat.zero_le _⟩) hP hD hS hA [0, 1, 2] [] rfl rfl rfl 3 rfl (by decide +kernel) (fun H locs hP hD hS => ?_)
            refine lv_iconst (v := -1) hx hb dX0_standing_32 (by decide) ?_
            refine lv_icmp_eq (tgt := 39) hx hb dX0_standing_33 (by decide) (fun c6 => ?_) (fun c6 => ?_)
            · have hF := if_p hF c6
              exact J39 l2 l3 l4 H locs ls hP hD hS (lv_sub hl [0, 1, 2, 3, 4] rfl) hF
            · have hF := if_n hF c6
              obtain ⟨v7, ev7⟩ : ∃ y : Int32, y = l2 + (1 : Int32) := ⟨_, rfl⟩
              have hF := nm_o hF v7 ev7
              refine lv_iinc (v := v7) (lv' := [(2, .int v7), (0, .ref q_o), (1, .int p1), (3, .int l3), (4, .int l4)]) hx hb dX0_standing_36 hl (k := 2) rfl (by rw [ev7]; rfl) (by decide) rfl (fun ls hl => ?_)
              exact J39 v7 l3 l4 H locs ls hP hD hS (lv_sub hl [1, 2, 0, 3, 4] rfl) hF
      intro l2 l3 H locs ls hP hD hS hl hF
      rw [X0_standing_L4] at hF
      refine lv_iload_n hx hb dX0_standing_4 rfl (lv_at hl 3 rfl) ?_
      refine lv_aload_n hx hb dX0_standing_5 rfl (lv_at hl 0 rfl) ?_
      refine va_get (D := D) (ci := 0) (v := .int o_height) (C := RX0) (T := TX0) (N := 10) hx hb hts f_inX0 hown hK hP 0 rfl rfl 1 (by decide) f_f15 (fun _ h9 => h9) rfl dX0_standing_6 ?_
      refine lv_icmp_ge (tgt := 51) hx hb dX0_standing_9 (by decide) (fun c8 => ?_) (fun c8 => ?_)
      · have hF := if_p hF c8
        refine lv_iload_n hx hb dX0_standing_51 rfl (lv_at hl 2 rfl) ?_
        obtain rfl := so_o hF
        rw [hQQ]
        exact kr_i hx hb hr hlocks hP hD hS dX0_standing_52
      · have hF := if_n hF c8
        refine lv_iconst (v := 0) hx hb dX0_standing_12 (by decide) ?_
        refine lv_istore (lv' := [(4, .int (0 : Int32)), (0, .ref q_o), (1, .int p1), (2, .int l2), (3, .int l3)]) hx hb dX0_standing_13 hl (by decide) rfl (fun ls hl => ?_)
        exact J15 FU l2 l3 (0 : Int32) H locs ls hP hD hS (lv_sub hl [1, 2, 3, 4, 0] rfl) hF
  have main : ∀ (H : Heap) (locs : List Loc) (ls : Array Slot), va_P D vwCl [(q_o, .inr (0, [.int o_width, .int o_height, x_o_planes, x_o_holes, x_o_reach, .ref q_o_cells, .ref q_o_pulls, x_o_holeX, x_o_holeY, x_o_price])), (q_o_cells, .inl (cy 0, 480, .inl o_cells)), (q_o_pulls, .inl (cy 0, 5, .inl o_pulls))] H → va_D A [(q_o, .inr (0, [.int o_width, .int o_height, x_o_planes, x_o_holes, x_o_reach, .ref q_o_cells, .ref q_o_pulls, x_o_holeX, x_o_holeY, x_o_price])), (q_o_cells, .inl (cy 0, 480, .inl o_cells)), (q_o_pulls, .inl (cy 0, 5, .inl o_pulls))] → va_S A s.heap H locs → lv_has ls 5 [(0, .ref q_o), (1, .int p1)] → W p l e ({ frames := 1, cells := 0, slots := 0, locals := 24 } : Room) s m args below meth c H locs 0 0 QQ (F0 m 0 ls []) := by
    intro H locs ls hP hD hS hl
    unfold X0_standing at hF
    refine lv_iconst (v := 0) hx hb dX0_standing_0 (by decide) ?_
    refine lv_istore_n (lv' := [(2, .int (0 : Int32)), (0, .ref q_o), (1, .int p1)]) hx hb dX0_standing_1 rfl hl (by decide) rfl (fun ls hl => ?_)
    refine lv_iconst (v := 0) hx hb dX0_standing_2 (by decide) ?_
    refine lv_istore_n (lv' := [(3, .int (0 : Int32)), (2, .int (0 : Int32)), (0, .ref q_o), (1, .int p1)]) hx hb dX0_standing_3 rfl hl (by decide) rfl (fun ls hl => ?_)
    exact J4 FU (0 : Int32) (0 : Int32) H locs ls hP hD hS (lv_sub hl [2, 3, 1, 0] rfl) hF
  exact main s.heap [] ls hP hD hS hl
theorem kd_X6_quotient : yX6_quotient.cls ≠ "java/lang/invoke/MethodHandle" ∧ yX6_quotient.cls ≠ "java/lang/invoke/VarHandle" ∧ (parseMethodDescriptor yX6_quotient.desc).map (fun d => d.parameters.length) = some 2 := by decide +kernel
set_option maxHeartbeats 4000000 in
set_option maxRecDepth 100000 in
theorem c_X6_quotient {l : Launch} {D : va_G} {cy : Nat → ClassId} (sz : Nat) (p0 : Int64) (p2 : Int64) (res : Int64) (hF : X6_quotient p0 p2 = some res) : Met l yX6_quotient wsX6_quotient ({ frames := 0, cells := 0, slots := 0, locals := 0 } : Room) (kP (EN D cy) D [.long p0, .long p2] [] sz) (kQl D res [] (va_A [] sz)) 0 0 (va_A [] sz) := by
  refine kMet (y := yX6_quotient) (av := [.long p0, .long p2]) (cc := cX6_quotient) (maxL := 4) (ret := some .long) (own := RX6) (Qc := fun A9 => (kQl D res [] A9)) (by decide) rfl rfl (Nat.le_of_ble_eq_true rfl) ?_
  intro p e s m args below meth c A hx hb hr hts hown hml hlocks hname hE hP hD hA hsz ls hl
  have hK := hE.1
  have hl : lv_has ls 4 [(0, .long p0), (2, .long p2)] := hl
  have hS : va_S A s.heap s.heap [] := va_S.rf
  obtain ⟨QQ, hQQ⟩ : ∃ Q9, Q9 = MQ below (kQl D res [] A) args s 0 0 A := ⟨_, rfl⟩
  rw [← hQQ]
  have main : ∀ (H : Heap) (locs : List Loc) (ls : Array Slot), va_P D vwCl [] H → va_D A [] → va_S A s.heap H locs → lv_has ls 4 [(0, .long p0), (2, .long p2)] → W p l e ({ frames := 0, cells := 0, slots := 0, locals := 0 } : Room) s m args below meth c H locs 0 0 QQ (F0 m 0 ls []) := by
    intro H locs ls hP hD hS hl
    unfold X6_quotient at hF
    refine lv_lload_n hx hb dX6_quotient_0 rfl (lv_at hl 1 rfl) ?_
    refine lv_lconst (v := 0) hx hb dX6_quotient_1 (by decide) ?_
    refine W.lcmp hx hb dX6_quotient_2 ?_
    refine lv_if_ne (tgt := 10) hx hb dX6_quotient_3 (by decide) (fun c1 => ?_) (fun c1 => ?_)
    · have hF := if_n hF c1
      refine lv_lload_n hx hb dX6_quotient_10 rfl (lv_at hl 0 rfl) ?_
      refine lv_lload_n hx hb dX6_quotient_11 rfl (lv_at hl 1 rfl) ?_
      obtain ⟨h2, hF⟩ := ck_o hF
      refine lv_ldiv hx hb dX6_quotient_12 h2 ?_
      obtain rfl := so_o hF
      rw [hQQ]
      exact kr_l hx hb hr hlocks hP hD hS dX6_quotient_13
    · have hF := if_p hF c1
      refine lv_lconst (v := 0) hx hb dX6_quotient_6 (by decide) ?_
      refine lv_goto (tgt := 13) hx hb dX6_quotient_7 (by decide) ?_
      obtain rfl := so_o hF
      rw [hQQ]
      exact kr_l hx hb hr hlocks hP hD hS dX6_quotient_13
  exact main s.heap [] ls hP hD hS hl
theorem kd_X0_crossing : yX0_crossing.cls = RX0 ∧ yX0_crossing.cls ≠ "java/lang/invoke/MethodHandle" ∧ yX0_crossing.cls ≠ "java/lang/invoke/VarHandle" ∧ (parseMethodDescriptor yX0_crossing.desc).map (fun d => d.parameters.length) = some 3 := by decide +kernel
set_option maxHeartbeats 4000000 in
set_option maxRecDepth 100000 in
theorem c_X0_crossing {l : Launch} {D : va_G} {cy : Nat → ClassId} (q_o : Nat) (sz : Nat) (x_o_width x_o_height x_o_holes x_o_reach x_o_cells x_o_pulls x_o_holeX x_o_holeY x_o_price : Value) (o_planes : Int32) (p1 : Int32) (p2 : Int32) (p3 : Int32) (res : Int32) (hF : X0_crossing o_planes p1 p2 p3 = some res) : Met l yX0_crossing wsX0_crossing ({ frames := 1, cells := 0, slots := 0, locals := 23 } : Room) (kP (EN D cy) D [.ref q_o, .int p1, .int p2, .int p3] [(q_o, .inr (0, [x_o_width, x_o_height, .int o_planes, x_o_holes, x_o_reach, x_o_cells, x_o_pulls, x_o_holeX, x_o_holeY, x_o_price]))] sz) (kQi D res [(q_o, .inr (0, [x_o_width, x_o_height, .int o_planes, x_o_holes, x_o_reach, x_o_cells, x_o_pulls, x_o_holeX, x_o_holeY, x_o_price]))] (va_A [(q_o, .inr (0, [x_o_width, x_o_height, .int o_planes, x_o_holes, x_o_reach, x_o_cells, x_o_pulls, x_o_holeX, x_o_holeY, x_o_price]))] sz)) 0 0 (va_A [(q_o, .inr (0, [x_o_width, x_o_height, .int o_planes, x_o_holes, x_o_reach, x_o_cells, x_o_pulls, x_o_holeX, x_o_holeY, x_o_price]))] sz) := by
  refine kMet (y := yX0_crossing) (av := [.ref q_o, .int p1, .int p2, .int p3]) (cc := cX0_crossing) (maxL := 4) (ret := some .int) (own := RX0) (Qc := fun A9 => (kQi D res [(q_o, .inr (0, [x_o_width, x_o_height, .int o_planes, x_o_holes, x_o_reach, x_o_cells, x_o_pulls, x_o_holeX, x_o_holeY, x_o_price]))] A9)) (by decide) rfl rfl (Nat.le_of_ble_eq_true rfl) ?_
  intro p e s m args below meth c A hx hb hr hts hown hml hlocks hname hE hP hD hA hsz ls hl
  have hK := hE.1
  have hl : lv_has ls 4 [(0, .ref q_o), (1, .int p1), (2, .int p2), (3, .int p3)] := hl
  have hS : va_S A s.heap s.heap [] := va_S.rf
  have f_f18 := hts (.fieldLink RX0 18 "PeepBox$Box" "planes" "I") (by decide +kernel)
  have f_inX0 : ∀ w ∈ wsX00, w ∈ wsX0_crossing := by decide +kernel
  have f_iRX6 := hts (.initialized RX6) (by decide +kernel)
  have f_stX6_quotient := hts (.static yX6_quotient) (by decide +kernel)
  obtain ⟨QQ, hQQ⟩ : ∃ Q9, Q9 = MQ below (kQi D res [(q_o, .inr (0, [x_o_width, x_o_height, .int o_planes, x_o_holes, x_o_reach, x_o_cells, x_o_pulls, x_o_holeX, x_o_holeY, x_o_price]))] A) args s 0 0 A := ⟨_, rfl⟩
  rw [← hQQ]
  have main : ∀ (H : Heap) (locs : List Loc) (ls : Array Slot), va_P D vwCl [(q_o, .inr (0, [x_o_width, x_o_height, .int o_planes, x_o_holes, x_o_reach, x_o_cells, x_o_pulls, x_o_holeX, x_o_holeY, x_o_price]))] H → va_D A [(q_o, .inr (0, [x_o_width, x_o_height, .int o_planes, x_o_holes, x_o_reach, x_o_cells, x_o_pulls, x_o_holeX, x_o_holeY, x_o_price]))] → va_S A s.heap H locs → lv_has ls 4 [(0, .ref q_o), (1, .int p1), (2, .int p2), (3, .int p3)] → W p l e ({ frames := 1, cells := 0, slots := 0, locals := 23 } : Room) s m args below meth c H locs 0 0 QQ (F0 m 0 ls []) := by
    intro H locs ls hP hD hS hl
    unfold X0_crossing at hF
    refine lv_iload_n hx hb dX0_crossing_0 rfl (lv_at hl 1 rfl) ?_
    refine lv_iload_n hx hb dX0_crossing_1 rfl (lv_at hl 2 rfl) ?_
    refine lv_iload_n hx hb dX0_crossing_2 rfl (lv_at hl 1 rfl) ?_
    refine lv_isub hx hb dX0_crossing_3 ?_
    refine lv_iload_n hx hb dX0_crossing_4 rfl (lv_at hl 3 rfl) ?_
    refine lv_iconst (v := 1) hx hb dX0_crossing_5 (by decide) ?_
    refine lv_iadd hx hb dX0_crossing_6 ?_
    refine lv_imul hx hb dX0_crossing_7 ?_
    refine lv_i2l hx hb dX0_crossing_8 rfl ?_
    refine lv_aload_n hx hb dX0_crossing_9 rfl (lv_at hl 0 rfl) ?_
    refine va_get (D := D) (ci := 0) (v := .int o_planes) (C := RX0) (T := TX0) (N := 10) hx hb hts f_inX0 hown hK hP 0 rfl rfl 2 (by decide) f_f18 (fun _ h9 => h9) rfl dX0_crossing_10 ?_
    refine lv_i2l hx hb dX0_crossing_13 rfl ?_
    obtain ⟨r1, h2, hF⟩ := bn1_o hF
    refine kd_l [(q_o, .inr (0, [x_o_width, x_o_height, .int o_planes, x_o_holes, x_o_reach, x_o_cells, x_o_pulls, x_o_holeX, x_o_holeY, x_o_price]))] (va_runSN (As := [.long ((p2 - p1) * (p3 + (1 : Int32))).toInt64, .long o_planes.toInt64]) (rest := [.int p1]) ⟨hx, hb, hml, hown, hts⟩ (c_X6_quotient H.size ((p2 - p1) * (p3 + (1 : Int32))).toInt64 o_planes.toInt64 _ h2) ⟨va_cnB 2 hts gX0_crossing_X6_quotient_n80 rfl rfl rfl (hE.2.1 (RX0, 80, yX6_quotient, "PeepBox") (List.mem_of_getElem? (i := 4) rfl)) f_iRX6 kd_X6_quotient ⟨Nat.le_of_ble_eq_true rfl, Nat.le_of_ble_eq_true rfl⟩, f_stX6_quotient, trivial⟩ ⟨kP_blind (EN_ok D cy) D _ _ _, kStart (EN_ok D cy) hE hP hD hS hA [] rfl rfl _⟩ rfl rfl hl.1 rfl (lv_room (Nat.le_of_ble_eq_true rfl)) dX0_crossing_14 ⟨Nat.zero_le _, Nat.zero_le _⟩) hP hD hS hA [] [0] rfl rfl rfl 1 rfl (by decide +kernel) (fun H locs hP hD hS => ?_)
    refine lv_l2i hx hb dX0_crossing_17 rfl ?_
    refine lv_iadd hx hb dX0_crossing_18 ?_
    obtain rfl := so_o hF
    rw [hQQ]
    exact kr_i hx hb hr hlocks hP hD hS dX0_crossing_19
  exact main s.heap [] ls hP hD hS hl
theorem kd_X0_crossedKind : yX0_crossedKind.cls = RX0 ∧ yX0_crossedKind.cls ≠ "java/lang/invoke/MethodHandle" ∧ yX0_crossedKind.cls ≠ "java/lang/invoke/VarHandle" ∧ (parseMethodDescriptor yX0_crossedKind.desc).map (fun d => d.parameters.length) = some 4 := by decide +kernel
set_option maxHeartbeats 4000000 in
set_option maxRecDepth 100000 in
theorem c_X0_crossedKind {l : Launch} {D : va_G} {cy : Nat → ClassId} (q_o q_o_cells q_o_pulls q_o_holeX q_o_holeY : Nat) (sz : Nat) (x_o_width x_o_holes x_o_reach x_o_price : Value) (o_height : Int32) (o_planes : Int32) (o_cells : Nat → Int32) (o_pulls : Nat → Int32) (o_holeX : Nat → Int32) (o_holeY : Nat → Int32) (p1 : Int32) (p2 : Int32) (p3 : Int32) (p4 : Int32) (res : Int32) (hF : X0_crossedKind o_height o_planes o_cells o_pulls o_holeX o_holeY p1 p2 p3 p4 = some res) : Met l yX0_crossedKind wsX0_crossedKind ({ frames := 2, cells := 0, slots := 0, locals := 46 } : Room) (kP (EN D cy) D [.ref q_o, .int p1, .int p2, .int p3, .int p4] [(q_o, .inr (0, [x_o_width, .int o_height, .int o_planes, x_o_holes, x_o_reach, .ref q_o_cells, .ref q_o_pulls, .ref q_o_holeX, .ref q_o_holeY, x_o_price])), (q_o_cells, .inl (cy 0, 480, .inl o_cells)), (q_o_pulls, .inl (cy 0, 5, .inl o_pulls)), (q_o_holeX, .inl (cy 0, 4, .inl o_holeX)), (q_o_holeY, .inl (cy 0, 4, .inl o_holeY))] sz) (kQi D res [(q_o, .inr (0, [x_o_width, .int o_height, .int o_planes, x_o_holes, x_o_reach, .ref q_o_cells, .ref q_o_pulls, .ref q_o_holeX, .ref q_o_holeY, x_o_price])), (q_o_cells, .inl (cy 0, 480, .inl o_cells)), (q_o_pulls, .inl (cy 0, 5, .inl o_pulls)), (q_o_holeX, .inl (cy 0, 4, .inl o_holeX)), (q_o_holeY, .inl (cy 0, 4, .inl o_holeY))] (va_A [(q_o, .inr (0, [x_o_width, .int o_height, .int o_planes, x_o_holes, x_o_reach, .ref q_o_cells, .ref q_o_pulls, .ref q_o_holeX, .ref q_o_holeY, x_o_price])), (q_o_cells, .inl (cy 0, 480, .inl o_cells)), (q_o_pulls, .inl (cy 0, 5, .inl o_pulls)), (q_o_holeX, .inl (cy 0, 4, .inl o_holeX)), (q_o_holeY, .inl (cy 0, 4, .inl o_holeY))] sz)) 0 0 (va_A [(q_o, .inr (0, [x_o_width, .int o_height, .int o_planes, x_o_holes, x_o_reach, .ref q_o_cells, .ref q_o_pulls, .ref q_o_holeX, .ref q_o_holeY, x_o_price])), (q_o_cells, .inl (cy 0, 480, .inl o_cells)), (q_o_pulls, .inl (cy 0, 5, .inl o_pulls)), (q_o_holeX, .inl (cy 0, 4, .inl o_holeX)), (q_o_holeY, .inl (cy 0, 4, .inl o_holeY))] sz) := by
  refine kMet (y := yX0_crossedKind) (av := [.ref q_o, .int p1, .int p2, .int p3, .int p4]) (cc := cX0_crossedKind) (maxL := 5) (ret := some .int) (own := RX0) (Qc := fun A9 => (kQi D res [(q_o, .inr (0, [x_o_width, .int o_height, .int o_planes, x_o_holes, x_o_reach, .ref q_o_cells, .ref q_o_pulls, .ref q_o_holeX, .ref q_o_holeY, x_o_price])), (q_o_cells, .inl (cy 0, 480, .inl o_cells)), (q_o_pulls, .inl (cy 0, 5, .inl o_pulls)), (q_o_holeX, .inl (cy 0, 4, .inl o_holeX)), (q_o_holeY, .inl (cy 0, 4, .inl o_holeY))] A9)) (by decide) rfl rfl (Nat.le_of_ble_eq_true rfl) ?_
  intro p e s m args below meth c A hx hb hr hts hown hml hlocks hname hE hP hD hA hsz ls hl
  have hK := hE.1
  have hl : lv_has ls 5 [(0, .ref q_o), (1, .int p1), (2, .int p2), (3, .int p3), (4, .int p4)] := hl
  have hS : va_S A s.heap s.heap [] := va_S.rf
  have f_f34 := hts (.fieldLink RX0 34 "PeepBox$Box" "holeX" "[I") (by decide +kernel)
  have f_inX0 : ∀ w ∈ wsX00, w ∈ wsX0_crossedKind := by decide +kernel
  have f_f37 := hts (.fieldLink RX0 37 "PeepBox$Box" "holeY" "[I") (by decide +kernel)
  obtain ⟨QQ, hQQ⟩ : ∃ Q9, Q9 = MQ below (kQi D res [(q_o, .inr (0, [x_o_width, .int o_height, .int o_planes, x_o_holes, x_o_reach, .ref q_o_cells, .ref q_o_pulls, .ref q_o_holeX, .ref q_o_holeY, x_o_price])), (q_o_cells, .inl (cy 0, 480, .inl o_cells)), (q_o_pulls, .inl (cy 0, 5, .inl o_pulls)), (q_o_holeX, .inl (cy 0, 4, .inl o_holeX)), (q_o_holeY, .inl (cy 0, 4, .inl o_holeY))] A) args s 0 0 A := ⟨_, rfl⟩
  rw [← hQQ]
  have main : ∀ (H : Heap) (locs : List Loc) (ls : Array Slot), va_P D vwCl [(q_o, .inr (0, [x_o_width, .int o_height, .int o_planes, x_o_holes, x_o_reach, .ref q_o_cells, .ref q_o_pulls, .ref q_o_holeX, .ref q_o_holeY, x_o_price])), (q_o_cells, .inl (cy 0, 480, .inl o_cells)), (q_o_pulls, .inl (cy 0, 5, .inl o_pulls)), (q_o_holeX, .inl (cy 0, 4, .inl o_holeX)), (q_o_holeY, .inl (cy 0, 4, .inl o_holeY))] H → va_D A [(q_o, .inr (0, [x_o_width, .int o_height, .int o_planes, x_o_holes, x_o_reach, .ref q_o_cells, .ref q_o_pulls, .ref q_o_holeX, .ref q_o_holeY, x_o_price])), (q_o_cells, .inl (cy 0, 480, .inl o_cells)), (q_o_pulls, .inl (cy 0, 5, .inl o_pulls)), (q_o_holeX, .inl (cy 0, 4, .inl o_holeX)), (q_o_holeY, .inl (cy 0, 4, .inl o_holeY))] → va_S A s.heap H locs → lv_has ls 5 [(0, .ref q_o), (1, .int p1), (2, .int p2), (3, .int p3), (4, .int p4)] → W p l e ({ frames := 2, cells := 0, slots := 0, locals := 46 } : Room) s m args below meth c H locs 0 0 QQ (F0 m 0 ls []) := by
    intro H locs ls hP hD hS hl
    unfold X0_crossedKind at hF
    refine lv_aload_n hx hb dX0_crossedKind_0 rfl (lv_at hl 0 rfl) ?_
    refine lv_iload_n hx hb dX0_crossedKind_1 rfl (lv_at hl 2 rfl) ?_
    refine lv_aload_n hx hb dX0_crossedKind_2 rfl (lv_at hl 0 rfl) ?_
    refine lv_aload_n hx hb dX0_crossedKind_3 rfl (lv_at hl 0 rfl) ?_
    refine va_get (D := D) (ci := 0) (v := .ref q_o_holeX) (C := RX0) (T := TX0) (N := 10) hx hb hts f_inX0 hown hK hP 0 rfl rfl 7 (by decide) f_f34 (fun _ h9 => h9) rfl dX0_crossedKind_4 ?_
    refine lv_iload_n hx hb dX0_crossedKind_7 rfl (lv_at hl 1 rfl) ?_
    obtain ⟨h1, hF⟩ := ld_o hF
    refine va_iald hx hb hK hP 3 0 rfl rfl h1 dX0_crossedKind_8 ?_
    refine lv_topi (fun v2 ev2 => ?_)
    have hF := hF v2 ev2
    refine lv_iload_n hx hb dX0_crossedKind_9 rfl (lv_at hl 3 rfl) ?_
    refine lv_iload_n hx hb dX0_crossedKind_10 rfl (lv_at hl 2 rfl) ?_
    obtain ⟨r3, h4, hF⟩ := bn1_o hF
    refine kd_i [(q_o, .inr (0, [x_o_width, .int o_height, .int o_planes, x_o_holes, x_o_reach, .ref q_o_cells, .ref q_o_pulls, .ref q_o_holeX, .ref q_o_holeY, x_o_price])), (q_o_cells, .inl (cy 0, 480, .inl o_cells)), (q_o_pulls, .inl (cy 0, 5, .inl o_pulls)), (q_o_holeX, .inl (cy 0, 4, .inl o_holeX)), (q_o_holeY, .inl (cy 0, 4, .inl o_holeY))] (va_runV (As := [.int v2, .int p3, .int p2]) (rest := [.int p2, .ref q_o]) ⟨hx, hb, hml, hown, hts⟩ (c_X0_crossing q_o H.size x_o_width (.int o_height) x_o_holes x_o_reach (.ref q_o_cells) (.ref q_o_pulls) (.ref q_o_holeX) (.ref q_o_holeY) x_o_price o_planes v2 p3 p2 _ h4) (cwV 3 hts gX0_crossedKind_X0_crossing rfl rfl rfl kd_X0_crossing ⟨Nat.le_of_ble_eq_true rfl, Nat.le_of_ble_eq_true rfl⟩) ⟨kP_blind (EN_ok D cy) D _ _ _, va_recv hK hP (ci := 0) (q0 := 0) rfl rfl, kStart (EN_ok D cy) hE hP hD hS hA [0] rfl rfl _⟩ rfl rfl hl.1 rfl (lv_room (Nat.le_of_ble_eq_true rfl)) dX0_crossedKind_11 ⟨Nat.zero_le _, Nat.zero_le _⟩) hP hD hS hA [0] [1, 2, 3, 4] rfl rfl rfl 5 rfl (by decide +kernel) (fun H locs hP hD hS => ?_)
    refine lv_aload_n hx hb dX0_crossedKind_14 rfl (lv_at hl 0 rfl) ?_
    refine lv_aload_n hx hb dX0_crossedKind_15 rfl (lv_at hl 0 rfl) ?_
    refine va_get (D := D) (ci := 0) (v := .ref q_o_holeY) (C := RX0) (T := TX0) (N := 10) hx hb hts f_inX0 hown hK hP 0 rfl rfl 8 (by decide) f_f37 (fun _ h9 => h9) rfl dX0_crossedKind_16 ?_
    refine lv_iload_n hx hb dX0_crossedKind_19 rfl (lv_at hl 1 rfl) ?_
    obtain ⟨h5, hF⟩ := ld_o hF
    refine va_iald hx hb hK hP 4 0 rfl rfl h5 dX0_crossedKind_20 ?_
    refine lv_topi (fun v6 ev6 => ?_)
    have hF := hF v6 ev6
    refine lv_iload hx hb dX0_crossedKind_21 (lv_at hl 4 rfl) ?_
    refine lv_iload_n hx hb dX0_crossedKind_23 rfl (lv_at hl 2 rfl) ?_
    obtain ⟨r7, h8, hF⟩ := bn1_o hF
    refine kd_i [(q_o, .inr (0, [x_o_width, .int o_height, .int o_planes, x_o_holes, x_o_reach, .ref q_o_cells, .ref q_o_pulls, .ref q_o_holeX, .ref q_o_holeY, x_o_price])), (q_o_cells, .inl (cy 0, 480, .inl o_cells)), (q_o_pulls, .inl (cy 0, 5, .inl o_pulls)), (q_o_holeX, .inl (cy 0, 4, .inl o_holeX)), (q_o_holeY, .inl (cy 0, 4, .inl o_holeY))] (va_runV (As := [.int v6, .int p4, .int p2]) (rest := [.int r3, .int p2, .ref q_o]) ⟨hx, hb, hml, hown, hts⟩ (c_X0_crossing q_o H.size x_o_width (.int o_height) x_o_holes x_o_reach (.ref q_o_cells) (.ref q_o_pulls) (.ref q_o_holeX) (.ref q_o_holeY) x_o_price o_planes v6 p4 p2 _ h8) (cwV 3 hts gX0_crossedKind_X0_crossing rfl rfl rfl kd_X0_crossing ⟨Nat.le_of_ble_eq_true rfl, Nat.le_of_ble_eq_true rfl⟩) ⟨kP_blind (EN_ok D cy) D _ _ _, va_recv hK hP (ci := 0) (q0 := 0) rfl rfl, kStart (EN_ok D cy) hE hP hD hS hA [0] rfl rfl _⟩ rfl rfl hl.1 rfl (lv_room (Nat.le_of_ble_eq_true rfl)) dX0_crossedKind_24 ⟨Nat.zero_le _, Nat.zero_le _⟩) hP hD hS hA [0] [1, 2, 3, 4] rfl rfl rfl 5 rfl (by decide +kernel) (fun H locs hP hD hS => ?_)
    obtain ⟨r9, h10, hF⟩ := bn1_o hF
    refine kd_i [(q_o, .inr (0, [x_o_width, .int o_height, .int o_planes, x_o_holes, x_o_reach, .ref q_o_cells, .ref q_o_pulls, .ref q_o_holeX, .ref q_o_holeY, x_o_price])), (q_o_cells, .inl (cy 0, 480, .inl o_cells)), (q_o_pulls, .inl (cy 0, 5, .inl o_pulls)), (q_o_holeX, .inl (cy 0, 4, .inl o_holeX)), (q_o_holeY, .inl (cy 0, 4, .inl o_holeY))] (va_runV (As := [.int p2, .int r3, .int r7]) (rest := []) ⟨hx, hb, hml, hown, hts⟩ (c_X0_kindAt q_o q_o_cells q_o_pulls H.size x_o_width (.int o_planes) x_o_holes x_o_reach (.ref q_o_holeX) (.ref q_o_holeY) x_o_price o_height o_cells o_pulls p2 r3 r7 _ h10) (cwV 3 hts gX0_crossedKind_X0_kindAt rfl rfl rfl kd_X0_kindAt ⟨Nat.le_of_ble_eq_true rfl, Nat.le_of_ble_eq_true rfl⟩) ⟨kP_blind (EN_ok D cy) D _ _ _, va_recv hK hP (ci := 0) (q0 := 0) rfl rfl, kStart (EN_ok D cy) hE hP hD hS hA [0, 1, 2] rfl rfl _⟩ rfl rfl hl.1 rfl (lv_room (Nat.le_of_ble_eq_true rfl)) dX0_crossedKind_27 ⟨Nat.zero_le _, Nat.zero_le _⟩) hP hD hS hA [0, 1, 2] [3, 4] rfl rfl rfl 5 rfl (by decide +kernel) (fun H locs hP hD hS => ?_)
    obtain rfl := so_o hF
    rw [hQQ]
    exact kr_i hx hb hr hlocks hP hD hS dX0_crossedKind_30
  exact main s.heap [] ls hP hD hS hl
theorem kd_X0_seenFrom : yX0_seenFrom.cls = RX0 ∧ yX0_seenFrom.cls ≠ "java/lang/invoke/MethodHandle" ∧ yX0_seenFrom.cls ≠ "java/lang/invoke/VarHandle" ∧ (parseMethodDescriptor yX0_seenFrom.desc).map (fun d => d.parameters.length) = some 3 := by decide +kernel
set_option maxHeartbeats 4000000 in
set_option maxRecDepth 100000 in
theorem c_X0_seenFrom {l : Launch} {D : va_G} {cy : Nat → ClassId} (q_o q_o_cells q_o_pulls q_o_holeX q_o_holeY : Nat) (sz : Nat) (x_o_width x_o_holes x_o_reach x_o_price : Value) (o_height : Int32) (o_planes : Int32) (o_cells : Nat → Int32) (o_pulls : Nat → Int32) (o_holeX : Nat → Int32) (o_holeY : Nat → Int32) (p1 : Int32) (p2 : Int32) (p3 : Int32) (res : Int32) (hF : X0_seenFrom o_height o_planes o_cells o_pulls o_holeX o_holeY p1 p2 p3 = some res) : Met l yX0_seenFrom wsX0_seenFrom ({ frames := 3, cells := 0, slots := 0, locals := 70 } : Room) (kP (EN D cy) D [.ref q_o, .int p1, .int p2, .int p3] [(q_o, .inr (0, [x_o_width, .int o_height, .int o_planes, x_o_holes, x_o_reach, .ref q_o_cells, .ref q_o_pulls, .ref q_o_holeX, .ref q_o_holeY, x_o_price])), (q_o_cells, .inl (cy 0, 480, .inl o_cells)), (q_o_pulls, .inl (cy 0, 5, .inl o_pulls)), (q_o_holeX, .inl (cy 0, 4, .inl o_holeX)), (q_o_holeY, .inl (cy 0, 4, .inl o_holeY))] sz) (kQi D res [(q_o, .inr (0, [x_o_width, .int o_height, .int o_planes, x_o_holes, x_o_reach, .ref q_o_cells, .ref q_o_pulls, .ref q_o_holeX, .ref q_o_holeY, x_o_price])), (q_o_cells, .inl (cy 0, 480, .inl o_cells)), (q_o_pulls, .inl (cy 0, 5, .inl o_pulls)), (q_o_holeX, .inl (cy 0, 4, .inl o_holeX)), (q_o_holeY, .inl (cy 0, 4, .inl o_holeY))] (va_A [(q_o, .inr (0, [x_o_width, .int o_height, .int o_planes, x_o_holes, x_o_reach, .ref q_o_cells, .ref q_o_pulls, .ref q_o_holeX, .ref q_o_holeY, x_o_price])), (q_o_cells, .inl (cy 0, 480, .inl o_cells)), (q_o_pulls, .inl (cy 0, 5, .inl o_pulls)), (q_o_holeX, .inl (cy 0, 4, .inl o_holeX)), (q_o_holeY, .inl (cy 0, 4, .inl o_holeY))] sz)) 0 0 (va_A [(q_o, .inr (0, [x_o_width, .int o_height, .int o_planes, x_o_holes, x_o_reach, .ref q_o_cells, .ref q_o_pulls, .ref q_o_holeX, .ref q_o_holeY, x_o_price])), (q_o_cells, .inl (cy 0, 480, .inl o_cells)), (q_o_pulls, .inl (cy 0, 5, .inl o_pulls)), (q_o_holeX, .inl (cy 0, 4, .inl o_holeX)), (q_o_holeY, .inl (cy 0, 4, .inl o_holeY))] sz) := by
  refine kMet (y := yX0_seenFrom) (av := [.ref q_o, .int p1, .int p2, .int p3]) (cc := cX0_seenFrom) (maxL := 6) (ret := some .int) (own := RX0) (Qc := fun A9 => (kQi D res [(q_o, .inr (0, [x_o_width, .int o_height, .int o_planes, x_o_holes, x_o_reach, .ref q_o_cells, .ref q_o_pulls, .ref q_o_holeX, .ref q_o_holeY, x_o_price])), (q_o_cells, .inl (cy 0, 480, .inl o_cells)), (q_o_pulls, .inl (cy 0, 5, .inl o_pulls)), (q_o_holeX, .inl (cy 0, 4, .inl o_holeX)), (q_o_holeY, .inl (cy 0, 4, .inl o_holeY))] A9)) (by decide) rfl rfl (Nat.le_of_ble_eq_true rfl) ?_
  intro p e s m args below meth c A hx hb hr hts hown hml hlocks hname hE hP hD hA hsz ls hl
  have hK := hE.1
  have hl : lv_has ls 6 [(0, .ref q_o), (1, .int p1), (2, .int p2), (3, .int p3)] := hl
  have hS : va_S A s.heap s.heap [] := va_S.rf
  have f_m91 := hts (.methodLink RX0 91 Lib.Math.max.name) (by decide +kernel)
  have f_s_va_mmax := hts (.static Lib.Math.max.name) (by decide +kernel)
  have f_iMath := hts (.initialized "java/lang/Math") (by decide +kernel)
  have f_k_va_mmax := hts (.code Lib.Math.max.name Lib.Math.max.code 2 (some .int)) (by decide +kernel)
  have f_f18 := hts (.fieldLink RX0 18 "PeepBox$Box" "planes" "I") (by decide +kernel)
  have f_inX0 : ∀ w ∈ wsX00, w ∈ wsX0_seenFrom := by decide +kernel
  obtain ⟨QQ, hQQ⟩ : ∃ Q9, Q9 = MQ below (kQi D res [(q_o, .inr (0, [x_o_width, .int o_height, .int o_planes, x_o_holes, x_o_reach, .ref q_o_cells, .ref q_o_pulls, .ref q_o_holeX, .ref q_o_holeY, x_o_price])), (q_o_cells, .inl (cy 0, 480, .inl o_cells)), (q_o_pulls, .inl (cy 0, 5, .inl o_pulls)), (q_o_holeX, .inl (cy 0, 4, .inl o_holeX)), (q_o_holeY, .inl (cy 0, 4, .inl o_holeY))] A) args s 0 0 A := ⟨_, rfl⟩
  rw [← hQQ]
  have J48 : ∀ (l4 : Int32) (l5 : Int32) (H : Heap) (locs : List Loc) (ls : Array Slot), va_P D vwCl [(q_o, .inr (0, [x_o_width, .int o_height, .int o_planes, x_o_holes, x_o_reach, .ref q_o_cells, .ref q_o_pulls, .ref q_o_holeX, .ref q_o_holeY, x_o_price])), (q_o_cells, .inl (cy 0, 480, .inl o_cells)), (q_o_pulls, .inl (cy 0, 5, .inl o_pulls)), (q_o_holeX, .inl (cy 0, 4, .inl o_holeX)), (q_o_holeY, .inl (cy 0, 4, .inl o_holeY))] H → va_D A [(q_o, .inr (0, [x_o_width, .int o_height, .int o_planes, x_o_holes, x_o_reach, .ref q_o_cells, .ref q_o_pulls, .ref q_o_holeX, .ref q_o_holeY, x_o_price])), (q_o_cells, .inl (cy 0, 480, .inl o_cells)), (q_o_pulls, .inl (cy 0, 5, .inl o_pulls)), (q_o_holeX, .inl (cy 0, 4, .inl o_holeX)), (q_o_holeY, .inl (cy 0, 4, .inl o_holeY))] → va_S A s.heap H locs → lv_has ls 6 [(4, .int l4), (5, .int l5)] → X0_seenFrom_J48 o_height o_planes o_cells o_pulls o_holeX o_holeY p1 p2 p3 l4 l5 = some res → W p l e ({ frames := 3, cells := 0, slots := 0, locals := 70 } : Room) s m args below meth c H locs 0 0 QQ (F0 m 48 ls []) := by
    intro l4 l5 H locs ls hP hD hS hl hF
    unfold X0_seenFrom_J48 at hF
    refine lv_bipush (v := 100) hx hb dX0_seenFrom_48 (by decide) ?_
    refine lv_iload hx hb dX0_seenFrom_50 (lv_at hl 0 rfl) ?_
    refine lv_imul hx hb dX0_seenFrom_52 ?_
    refine lv_iload hx hb dX0_seenFrom_53 (lv_at hl 1 rfl) ?_
    refine lv_iconst (v := 0) hx hb dX0_seenFrom_55 (by decide) ?_
    refine va_mmax hx hb (by rw [hml]; exact hl.1.symm) hown f_m91 f_s_va_mmax f_iMath f_k_va_mmax (Nat.le_of_ble_eq_true rfl) (Nat.le_of_ble_eq_true rfl) (Nat.zero_le _) (Nat.zero_le _) dX0_seenFrom_56 ?_
    refine lv_topi (fun v1 ev1 => ?_)
    have hF := nm_o hF v1 ev1
    refine lv_iadd hx hb dX0_seenFrom_59 ?_
    obtain rfl := so_o hF
    rw [hQQ]
    exact kr_i hx hb hr hlocks hP hD hS dX0_seenFrom_60
  have J14 : ∀ (n14 : Nat) (l4 : Int32) (l5 : Int32) (H : Heap) (locs : List Loc) (ls : Array Slot), va_P D vwCl [(q_o, .inr (0, [x_o_width, .int o_height, .int o_planes, x_o_holes, x_o_reach, .ref q_o_cells, .ref q_o_pulls, .ref q_o_holeX, .ref q_o_holeY, x_o_price])), (q_o_cells, .inl (cy 0, 480, .inl o_cells)), (q_o_pulls, .inl (cy 0, 5, .inl o_pulls)), (q_o_holeX, .inl (cy 0, 4, .inl o_holeX)), (q_o_holeY, .inl (cy 0, 4, .inl o_holeY))] H → va_D A [(q_o, .inr (0, [x_o_width, .int o_height, .int o_planes, x_o_holes, x_o_reach, .ref q_o_cells, .ref q_o_pulls, .ref q_o_holeX, .ref q_o_holeY, x_o_price])), (q_o_cells, .inl (cy 0, 480, .inl o_cells)), (q_o_pulls, .inl (cy 0, 5, .inl o_pulls)), (q_o_holeX, .inl (cy 0, 4, .inl o_holeX)), (q_o_holeY, .inl (cy 0, 4, .inl o_holeY))] → va_S A s.heap H locs → lv_has ls 6 [(0, .ref q_o), (1, .int p1), (2, .int p2), (3, .int p3), (4, .int l4), (5, .int l5)] → X0_seenFrom_L14 o_height o_planes o_cells o_pulls o_holeX o_holeY p1 p2 p3 n14 l4 l5 = some res → W p l e ({ frames := 3, cells := 0, slots := 0, locals := 70 } : Room) s m args below meth c H locs 0 0 QQ (F0 m 14 ls []) := by
    intro n14
    induction n14 with
    | zero =>
      intro l4 l5 H locs ls hP hD hS hl hF
      rw [X0_seenFrom_L14] at hF
      cases hF
    | succ n14 ih14 =>
      intro l4 l5 H locs ls hP hD hS hl hF
      rw [X0_seenFrom_L14] at hF
      refine lv_iload hx hb dX0_seenFrom_14 (lv_at hl 5 rfl) ?_
      refine lv_iconst (v := -1) hx hb dX0_seenFrom_16 (by decide) ?_
      refine lv_icmp_ne (tgt := 48) hx hb dX0_seenFrom_17 (by decide) (fun c2 => ?_) (fun c2 => ?_)
      · have hF := if_n hF c2
        exact J48 l4 l5 H locs ls hP hD hS (lv_sub hl [4, 5] rfl) hF
      · have hF := if_p hF c2
        refine lv_iload hx hb dX0_seenFrom_20 (lv_at hl 4 rfl) ?_
        refine lv_aload_n hx hb dX0_seenFrom_22 rfl (lv_at hl 0 rfl) ?_
        refine va_get (D := D) (ci := 0) (v := .int o_planes) (C := RX0) (T := TX0) (N := 10) hx hb hts f_inX0 hown hK hP 0 rfl rfl 2 (by decide) f_f18 (fun _ h9 => h9) rfl dX0_seenFrom_23 ?_
        refine lv_iconst (v := 1) hx hb dX0_seenFrom_26 (by decide) ?_
        refine lv_isub hx hb dX0_seenFrom_27 ?_
        refine lv_icmp_ge (tgt := 48) hx hb dX0_seenFrom_28 (by decide) (fun c3 => ?_) (fun c3 => ?_)
        · have hF := if_p hF c3
          exact J48 l4 l5 H locs ls hP hD hS (lv_sub hl [4, 5] rfl) hF
        · have hF := if_n hF c3
          obtain ⟨v4, ev4⟩ : ∃ y : Int32, y = l4 + (1 : Int32) := ⟨_, rfl⟩
          have hF := nm_o hF v4 ev4
          refine lv_iinc (v := v4) (lv' := [(4, .int v4), (0, .ref q_o), (1, .int p1), (2, .int p2), (3, .int p3), (5, .int l5)]) hx hb dX0_seenFrom_31 hl (k := 4) rfl (by rw [ev4]; rfl) (by decide) rfl (fun ls hl => ?_)
          refine lv_aload_n hx hb dX0_seenFrom_34 rfl (lv_at hl 1 rfl) ?_
          refine lv_iload_n hx hb dX0_seenFrom_35 rfl (lv_at hl 2 rfl) ?_
          refine lv_iload hx hb dX0_seenFrom_36 (lv_at hl 0 rfl) ?_
          refine lv_iload_n hx hb dX0_seenFrom_38 rfl (lv_at hl 3 rfl) ?_
          refine lv_iload_n hx hb dX0_seenFrom_39 rfl (lv_at hl 4 rfl) ?_
          obtain ⟨r5, h6, hF⟩ := bn1_o hF
          refine kd_i [(q_o, .inr (0, [x_o_width, .int o_height, .int o_planes, x_o_holes, x_o_reach, .ref q_o_cells, .ref q_o_pulls, .ref q_o_holeX, .ref q_o_holeY, x_o_price])), (q_o_cells, .inl (cy 0, 480, .inl o_cells)), (q_o_pulls, .inl (cy 0, 5, .inl o_pulls)), (q_o_holeX, .inl (cy 0, 4, .inl o_holeX)), (q_o_holeY, .inl (cy 0, 4, .inl o_holeY))] (va_runV (As := [.int p1, .int v4, .int p2, .int p3]) (rest := []) ⟨hx, hb, hml, hown, hts⟩ (c_X0_crossedKind q_o q_o_cells q_o_pulls q_o_holeX q_o_holeY H.size x_o_width x_o_holes x_o_reach x_o_price o_height o_planes o_cells o_pulls o_holeX o_holeY p1 v4 p2 p3 _ h6) (cwV 4 hts gX0_seenFrom_X0_crossedKind rfl rfl rfl kd_X0_crossedKind ⟨Nat.le_of_ble_eq_true rfl, Nat.le_of_ble_eq_true rfl⟩) ⟨kP_blind (EN_ok D cy) D _ _ _, va_recv hK hP (ci := 0) (q0 := 0) rfl rfl, kStart (EN_ok D cy) hE hP hD hS hA [0, 1, 2, 3, 4] rfl rfl _⟩ rfl rfl hl.1 rfl (lv_room (Nat.le_of_ble_eq_true rfl)) dX0_seenFrom_40 ⟨Nat.zero_le _, Nat.zero_le _⟩) hP hD hS hA [0, 1, 2, 3, 4] [] rfl rfl rfl 5 rfl (by decide +kernel) (fun H locs hP hD hS => ?_)
          refine lv_istore (lv' := [(5, .int r5), (4, .int v4), (0, .ref q_o), (1, .int p1), (2, .int p2), (3, .int p3)]) hx hb dX0_seenFrom_43 hl (by decide) rfl (fun ls hl => ?_)
          refine lv_goto (tgt := 14) hx hb dX0_seenFrom_45 (by decide) ?_
          exact ih14 v4 r5 H locs ls hP hD hS (lv_sub hl [2, 3, 4, 5, 1, 0] rfl) hF
  have main : ∀ (H : Heap) (locs : List Loc) (ls : Array Slot), va_P D vwCl [(q_o, .inr (0, [x_o_width, .int o_height, .int o_planes, x_o_holes, x_o_reach, .ref q_o_cells, .ref q_o_pulls, .ref q_o_holeX, .ref q_o_holeY, x_o_price])), (q_o_cells, .inl (cy 0, 480, .inl o_cells)), (q_o_pulls, .inl (cy 0, 5, .inl o_pulls)), (q_o_holeX, .inl (cy 0, 4, .inl o_holeX)), (q_o_holeY, .inl (cy 0, 4, .inl o_holeY))] H → va_D A [(q_o, .inr (0, [x_o_width, .int o_height, .int o_planes, x_o_holes, x_o_reach, .ref q_o_cells, .ref q_o_pulls, .ref q_o_holeX, .ref q_o_holeY, x_o_price])), (q_o_cells, .inl (cy 0, 480, .inl o_cells)), (q_o_pulls, .inl (cy 0, 5, .inl o_pulls)), (q_o_holeX, .inl (cy 0, 4, .inl o_holeX)), (q_o_holeY, .inl (cy 0, 4, .inl o_holeY))] → va_S A s.heap H locs → lv_has ls 6 [(0, .ref q_o), (1, .int p1), (2, .int p2), (3, .int p3)] → W p l e ({ frames := 3, cells := 0, slots := 0, locals := 70 } : Room) s m args below meth c H locs 0 0 QQ (F0 m 0 ls []) := by
    intro H locs ls hP hD hS hl
    unfold X0_seenFrom at hF
    refine lv_iconst (v := 0) hx hb dX0_seenFrom_0 (by decide) ?_
    refine lv_istore (lv' := [(4, .int (0 : Int32)), (0, .ref q_o), (1, .int p1), (2, .int p2), (3, .int p3)]) hx hb dX0_seenFrom_1 hl (by decide) rfl (fun ls hl => ?_)
    refine lv_aload_n hx hb dX0_seenFrom_3 rfl (lv_at hl 1 rfl) ?_
    refine lv_iload_n hx hb dX0_seenFrom_4 rfl (lv_at hl 2 rfl) ?_
    refine lv_iload hx hb dX0_seenFrom_5 (lv_at hl 0 rfl) ?_
    refine lv_iload_n hx hb dX0_seenFrom_7 rfl (lv_at hl 3 rfl) ?_
    refine lv_iload_n hx hb dX0_seenFrom_8 rfl (lv_at hl 4 rfl) ?_
    obtain ⟨r7, h8, hF⟩ := bn1_o hF
    refine kd_i [(q_o, .inr (0, [x_o_width, .int o_height, .int o_planes, x_o_holes, x_o_reach, .ref q_o_cells, .ref q_o_pulls, .ref q_o_holeX, .ref q_o_holeY, x_o_price])), (q_o_cells, .inl (cy 0, 480, .inl o_cells)), (q_o_pulls, .inl (cy 0, 5, .inl o_pulls)), (q_o_holeX, .inl (cy 0, 4, .inl o_holeX)), (q_o_holeY, .inl (cy 0, 4, .inl o_holeY))] (va_runV (As := [.int p1, .int (0 : Int32), .int p2, .int p3]) (rest := []) ⟨hx, hb, hml, hown, hts⟩ (c_X0_crossedKind q_o q_o_cells q_o_pulls q_o_holeX q_o_holeY H.size x_o_width x_o_holes x_o_reach x_o_price o_height o_planes o_cells o_pulls o_holeX o_holeY p1 (0 : Int32) p2 p3 _ h8) (cwV 4 hts gX0_seenFrom_X0_crossedKind rfl rfl rfl kd_X0_crossedKind ⟨Nat.le_of_ble_eq_true rfl, Nat.le_of_ble_eq_true rfl⟩) ⟨kP_blind (EN_ok D cy) D _ _ _, va_recv hK hP (ci := 0) (q0 := 0) rfl rfl, kStart (EN_ok D cy) hE hP hD hS hA [0, 1, 2, 3, 4] rfl rfl _⟩ rfl rfl hl.1 rfl (lv_room (Nat.le_of_ble_eq_true rfl)) dX0_seenFrom_9 ⟨Nat.zero_le _, Nat.zero_le _⟩) hP hD hS hA [0, 1, 2, 3, 4] [] rfl rfl rfl 5 rfl (by decide +kernel) (fun H locs hP hD hS => ?_)
    refine lv_istore (lv' := [(5, .int r7), (4, .int (0 : Int32)), (0, .ref q_o), (1, .int p1), (2, .int p2), (3, .int p3)]) hx hb dX0_seenFrom_12 hl (by decide) rfl (fun ls hl => ?_)
    exact J14 FU (0 : Int32) r7 H locs ls hP hD hS (lv_sub hl [2, 3, 4, 5, 1, 0] rfl) hF
  exact main s.heap [] ls hP hD hS hl
theorem kd_X1_begin : yX1_begin.cls = RX1 ∧ yX1_begin.cls ≠ "java/lang/invoke/MethodHandle" ∧ yX1_begin.cls ≠ "java/lang/invoke/VarHandle" ∧ (parseMethodDescriptor yX1_begin.desc).map (fun d => d.parameters.length) = some 0 := by decide +kernel
set_option maxHeartbeats 4000000 in
set_option maxRecDepth 100000 in
theorem c_X1_begin {l : Launch} {D : va_G} {cy : Nat → ClassId} (q_o q_o_lookers : Nat) (sz : Nat) (x_o_facts : Value) (o_viewers : Int32) (o_lookLength : Int32) (o_time : Int32) (o_lookers : Nat → Int32) (res : Int32 × Int32 × Int32 × (Nat → Int32)) (hF : X1_begin o_viewers o_lookLength o_time o_lookers = some res) : Met l yX1_begin wsX1_begin ({ frames := 1, cells := 0, slots := 0, locals := 23 } : Room) (kP (EN D cy) D [.ref q_o] [(q_o, .inr (1, [.int o_viewers, .int o_lookLength, .int o_time, .ref q_o_lookers, x_o_facts])), (q_o_lookers, .inl (cy 0, 4, .inl o_lookers))] sz) (kQv D [(q_o, .inr (1, [.int res.1, .int res.2.1, .int res.2.2.1, .ref q_o_lookers, x_o_facts])), (q_o_lookers, .inl (cy 0, 4, .inl res.2.2.2))] (va_A [(q_o, .inr (1, [.int o_viewers, .int o_lookLength, .int o_time, .ref q_o_lookers, x_o_facts])), (q_o_lookers, .inl (cy 0, 4, .inl o_lookers))] sz)) 0 0 (va_A [(q_o, .inr (1, [.int o_viewers, .int o_lookLength, .int o_time, .ref q_o_lookers, x_o_facts])), (q_o_lookers, .inl (cy 0, 4, .inl o_lookers))] sz) := by
  refine kMet (y := yX1_begin) (av := [.ref q_o]) (cc := cX1_begin) (maxL := 1) (ret := none) (own := RX1) (Qc := fun A9 => (kQv D [(q_o, .inr (1, [.int res.1, .int res.2.1, .int res.2.2.1, .ref q_o_lookers, x_o_facts])), (q_o_lookers, .inl (cy 0, 4, .inl res.2.2.2))] A9)) (by decide) rfl rfl (Nat.le_of_ble_eq_true rfl) ?_
  intro p e s m args below meth c A hx hb hr hts hown hml hlocks hname hE hP hD hA hsz ls hl
  have hK := hE.1
  have hl : lv_has ls 1 [(0, .ref q_o)] := hl
  have hS : va_S A s.heap s.heap [] := va_S.rf
  have f_f9 := hts (.fieldLink RX1 9 "PeepBox$Crowd" "viewers" "I") (by decide +kernel)
  have f_inX1 : ∀ w ∈ wsX10, w ∈ wsX1_begin := by decide +kernel
  have f_f15 := hts (.fieldLink RX1 15 "PeepBox$Crowd" "lookLength" "I") (by decide +kernel)
  have f_f18 := hts (.fieldLink RX1 18 "PeepBox$Crowd" "time" "I") (by decide +kernel)
  have f_f21 := hts (.fieldLink RX1 21 "PeepBox$Crowd" "lookers" "[I") (by decide +kernel)
  obtain ⟨QQ, hQQ⟩ : ∃ Q9, Q9 = MQ below (kQv D [(q_o, .inr (1, [.int res.1, .int res.2.1, .int res.2.2.1, .ref q_o_lookers, x_o_facts])), (q_o_lookers, .inl (cy 0, 4, .inl res.2.2.2))] A) args s 0 0 A := ⟨_, rfl⟩
  rw [← hQQ]
  have main : ∀ (H : Heap) (locs : List Loc) (ls : Array Slot), va_P D vwCl [(q_o, .inr (1, [.int o_viewers, .int o_lookLength, .int o_time, .ref q_o_lookers, x_o_facts])), (q_o_lookers, .inl (cy 0, 4, .inl o_lookers))] H → va_D A [(q_o, .inr (1, [.int o_viewers, .int o_lookLength, .int o_time, .ref q_o_lookers, x_o_facts])), (q_o_lookers, .inl (cy 0, 4, .inl o_lookers))] → va_S A s.heap H locs → lv_has ls 1 [(0, .ref q_o)] → W p l e ({ frames := 1, cells := 0, slots := 0, locals := 23 } : Room) s m args below meth c H locs 0 0 QQ (F0 m 0 ls []) := by
    intro H locs ls hP hD hS hl
    unfold X1_begin at hF
    refine lv_aload_n hx hb dX1_begin_0 rfl (lv_at hl 0 rfl) ?_
    refine lv_iconst (v := 0) hx hb dX1_begin_1 (by decide) ?_
    refine va_put (D := D) (ci := 1) (v := .int (0 : Int32)) (ty := .int) (C := RX1) (T := TX1) (N := 5) hx hb hts f_inX1 tyX1 tyX1_ok nmX1 hown hK hP hD hS 0 rfl rfl 0 (by decide) f_f9 (fun _ h9 => h9) rfl (by decide +kernel) rfl rfl (Nat.le_of_ble_eq_true rfl) dX1_begin_2 (fun H locs hP hD hS => ?_)
    have hP : va_P D vwCl [(q_o, .inr (1, [.int (0 : Int32), .int o_lookLength, .int o_time, .ref q_o_lookers, x_o_facts])), (q_o_lookers, .inl (cy 0, 4, .inl o_lookers))] H := hP
    have hD : va_D A [(q_o, .inr (1, [.int (0 : Int32), .int o_lookLength, .int o_time, .ref q_o_lookers, x_o_facts])), (q_o_lookers, .inl (cy 0, 4, .inl o_lookers))] := hD
    refine lv_aload_n hx hb dX1_begin_5 rfl (lv_at hl 0 rfl) ?_
    refine lv_iconst (v := 3) hx hb dX1_begin_6 (by decide) ?_
    refine va_put (D := D) (ci := 1) (v := .int (3 : Int32)) (ty := .int) (C := RX1) (T := TX1) (N := 5) hx hb hts f_inX1 tyX1 tyX1_ok nmX1 hown hK hP hD hS 0 rfl rfl 1 (by decide) f_f15 (fun _ h9 => h9) rfl (by decide +kernel) rfl rfl (Nat.le_of_ble_eq_true rfl) dX1_begin_7 (fun H locs hP hD hS => ?_)
    have hP : va_P D vwCl [(q_o, .inr (1, [.int (0 : Int32), .int (3 : Int32), .int o_time, .ref q_o_lookers, x_o_facts])), (q_o_lookers, .inl (cy 0, 4, .inl o_lookers))] H := hP
    have hD : va_D A [(q_o, .inr (1, [.int (0 : Int32), .int (3 : Int32), .int o_time, .ref q_o_lookers, x_o_facts])), (q_o_lookers, .inl (cy 0, 4, .inl o_lookers))] := hD
    refine lv_aload_n hx hb dX1_begin_10 rfl (lv_at hl 0 rfl) ?_
    refine lv_iconst (v := 0) hx hb dX1_begin_11 (by decide) ?_
    refine va_put (D := D) (ci := 1) (v := .int (0 : Int32)) (ty := .int) (C := RX1) (T := TX1) (N := 5) hx hb hts f_inX1 tyX1 tyX1_ok nmX1 hown hK hP hD hS 0 rfl rfl 2 (by decide) f_f18 (fun _ h9 => h9) rfl (by decide +kernel) rfl rfl (Nat.le_of_ble_eq_true rfl) dX1_begin_12 (fun H locs hP hD hS => ?_)
    have hP : va_P D vwCl [(q_o, .inr (1, [.int (0 : Int32), .int (3 : Int32), .int (0 : Int32), .ref q_o_lookers, x_o_facts])), (q_o_lookers, .inl (cy 0, 4, .inl o_lookers))] H := hP
    have hD : va_D A [(q_o, .inr (1, [.int (0 : Int32), .int (3 : Int32), .int (0 : Int32), .ref q_o_lookers, x_o_facts])), (q_o_lookers, .inl (cy 0, 4, .inl o_lookers))] := hD
    refine lv_aload_n hx hb dX1_begin_15 rfl (lv_at hl 0 rfl) ?_
    refine va_get (D := D) (ci := 1) (v := .ref q_o_lookers) (C := RX1) (T := TX1) (N := 5) hx hb hts f_inX1 hown hK hP 0 rfl rfl 3 (by decide) f_f21 (fun _ h9 => h9) rfl dX1_begin_16 ?_
    refine lv_iconst (v := -1) hx hb dX1_begin_19 (by decide) ?_
    obtain ⟨o1, h2, hF⟩ := bn1_o hF
    refine kd_v [(q_o, .inr (1, [.int (0 : Int32), .int (3 : Int32), .int (0 : Int32), .ref q_o_lookers, x_o_facts])), (q_o_lookers, .inl (cy 0, 4, .inl o1))] (va_runS (As := [.ref q_o_lookers, .int (-1 : Int32)]) (rest := []) ⟨hx, hb, hml, hown, hts⟩ (c_J7_fill_53178 4 q_o_lookers H.size o_lookers (-1 : Int32) _ h2) (va_cwS 2 hts gX1_begin_J7_fill_53178 rfl rfl rfl kd_J7_fill_53178 ⟨Nat.le_of_ble_eq_true rfl, Nat.le_of_ble_eq_true rfl⟩) ⟨kP_blind (EN_ok D cy) D _ _ _, kStart (EN_ok D cy) hE hP hD hS hA [1] rfl rfl _⟩ rfl rfl hl.1 rfl (lv_room (Nat.le_of_ble_eq_true rfl)) dX1_begin_20 ⟨Nat.zero_le _, Nat.zero_le _⟩) hP hD hS hA [1] [0] rfl rfl rfl 2 rfl (by decide +kernel) (fun H locs hP hD hS => ?_)
    obtain rfl := so_o hF
    rw [hQQ]
    exact kr_v hx hb hr hlocks hP hD hS dX1_begin_23
  exact main s.heap [] ls hP hD hS hl
theorem kd_X1_copyFrom : yX1_copyFrom.cls = RX1 ∧ yX1_copyFrom.cls ≠ "java/lang/invoke/MethodHandle" ∧ yX1_copyFrom.cls ≠ "java/lang/invoke/VarHandle" ∧ (parseMethodDescriptor yX1_copyFrom.desc).map (fun d => d.parameters.length) = some 1 := by decide +kernel
set_option maxHeartbeats 4000000 in
set_option maxRecDepth 100000 in
theorem c_X1_copyFrom {l : Launch} {D : va_G} {cy : Nat → ClassId} (q_o q_o_lookers q_o_facts q_p1 q_p1_lookers q_p1_facts : Nat) (sz : Nat) (o_viewers : Int32) (o_lookLength : Int32) (o_time : Int32) (o_lookers : Nat → Int32) (o_facts : Nat → Int32) (p1_viewers : Int32) (p1_lookLength : Int32) (p1_time : Int32) (p1_lookers : Nat → Int32) (p1_facts : Nat → Int32) (res : Int32 × Int32 × Int32 × (Nat → Int32) × (Nat → Int32)) (hF : X1_copyFrom o_viewers o_lookLength o_time o_lookers o_facts p1_viewers p1_lookLength p1_time p1_lookers p1_facts = some res) : Met l yX1_copyFrom wsX1_copyFrom ({ frames := 1, cells := 0, slots := 0, locals := 60 } : Room) (kP (EN D cy) D [.ref q_o, .ref q_p1] [(q_o, .inr (1, [.int o_viewers, .int o_lookLength, .int o_time, .ref q_o_lookers, .ref q_o_facts])), (q_o_lookers, .inl (cy 0, 4, .inl o_lookers)), (q_o_facts, .inl (cy 0, 140, .inl o_facts)), (q_p1, .inr (1, [.int p1_viewers, .int p1_lookLength, .int p1_time, .ref q_p1_lookers, .ref q_p1_facts])), (q_p1_lookers, .inl (cy 0, 4, .inl p1_lookers)), (q_p1_facts, .inl (cy 0, 140, .inl p1_facts))] sz) (kQv D [(q_o, .inr (1, [.int res.1, .int res.2.1, .int res.2.2.1, .ref q_o_lookers, .ref q_o_facts])), (q_o_lookers, .inl (cy 0, 4, .inl res.2.2.2.1)), (q_o_facts, .inl (cy 0, 140, .inl res.2.2.2.2)), (q_p1, .inr (1, [.int p1_viewers, .int p1_lookLength, .int p1_time, .ref q_p1_lookers, .ref q_p1_facts])), (q_p1_lookers, .inl (cy 0, 4, .inl p1_lookers)), (q_p1_facts, .inl (cy 0, 140, .inl p1_facts))] (va_A [(q_o, .inr (1, [.int o_viewers, .int o_lookLength, .int o_time, .ref q_o_lookers, .ref q_o_facts])), (q_o_lookers, .inl (cy 0, 4, .inl o_lookers)), (q_o_facts, .inl (cy 0, 140, .inl o_facts)), (q_p1, .inr (1, [.int p1_viewers, .int p1_lookLength, .int p1_time, .ref q_p1_lookers, .ref q_p1_facts])), (q_p1_lookers, .inl (cy 0, 4, .inl p1_lookers)), (q_p1_facts, .inl (cy 0, 140, .inl p1_facts))] sz)) 0 0 (va_A [(q_o, .inr (1, [.int o_viewers, .int o_lookLength, .int o_time, .ref q_o_lookers, .ref q_o_facts])), (q_o_lookers, .inl (cy 0, 4, .inl o_lookers)), (q_o_facts, .inl (cy 0, 140, .inl o_facts)), (q_p1, .inr (1, [.int p1_viewers, .int p1_lookLength, .int p1_time, .ref q_p1_lookers, .ref q_p1_facts])), (q_p1_lookers, .inl (cy 0, 4, .inl p1_lookers)), (q_p1_facts, .inl (cy 0, 140, .inl p1_facts))] sz) := by
  refine kMet (y := yX1_copyFrom) (av := [.ref q_o, .ref q_p1]) (cc := cX1_copyFrom) (maxL := 2) (ret := none) (own := RX1) (Qc := fun A9 => (kQv D [(q_o, .inr (1, [.int res.1, .int res.2.1, .int res.2.2.1, .ref q_o_lookers, .ref q_o_facts])), (q_o_lookers, .inl (cy 0, 4, .inl res.2.2.2.1)), (q_o_facts, .inl (cy 0, 140, .inl res.2.2.2.2)), (q_p1, .inr (1, [.int p1_viewers, .int p1_lookLength, .int p1_time, .ref q_p1_lookers, .ref q_p1_facts])), (q_p1_lookers, .inl (cy 0, 4, .inl p1_lookers)), (q_p1_facts, .inl (cy 0, 140, .inl p1_facts))] A9)) (by decide) rfl rfl (Nat.le_of_ble_eq_true rfl) ?_
  intro p e s m args below meth c A hx hb hr hts hown hml hlocks hname hE hP hD hA hsz ls hl
  have hK := hE.1
  have hl : lv_has ls 2 [(0, .ref q_o), (1, .ref q_p1)] := hl
  have hS : va_S A s.heap s.heap [] := va_S.rf
  have f_f9 := hts (.fieldLink RX1 9 "PeepBox$Crowd" "viewers" "I") (by decide +kernel)
  have f_inX1 : ∀ w ∈ wsX10, w ∈ wsX1_copyFrom := by decide +kernel
  have f_f15 := hts (.fieldLink RX1 15 "PeepBox$Crowd" "lookLength" "I") (by decide +kernel)
  have f_f18 := hts (.fieldLink RX1 18 "PeepBox$Crowd" "time" "I") (by decide +kernel)
  have f_f21 := hts (.fieldLink RX1 21 "PeepBox$Crowd" "lookers" "[I") (by decide +kernel)
  have f_m34 := hts (.methodLink RX1 34 arraycopyName) (by decide +kernel)
  have f_nat := hts (.native arraycopyName) (by decide +kernel)
  have f_snat := hts (.static arraycopyName) (by decide +kernel)
  have f_iSys := hts (.initialized "java/lang/System") (by decide +kernel)
  have f_f25 := hts (.fieldLink RX1 25 "PeepBox$Crowd" "facts" "[I") (by decide +kernel)
  obtain ⟨QQ, hQQ⟩ : ∃ Q9, Q9 = MQ below (kQv D [(q_o, .inr (1, [.int res.1, .int res.2.1, .int res.2.2.1, .ref q_o_lookers, .ref q_o_facts])), (q_o_lookers, .inl (cy 0, 4, .inl res.2.2.2.1)), (q_o_facts, .inl (cy 0, 140, .inl res.2.2.2.2)), (q_p1, .inr (1, [.int p1_viewers, .int p1_lookLength, .int p1_time, .ref q_p1_lookers, .ref q_p1_facts])), (q_p1_lookers, .inl (cy 0, 4, .inl p1_lookers)), (q_p1_facts, .inl (cy 0, 140, .inl p1_facts))] A) args s 0 0 A := ⟨_, rfl⟩
  rw [← hQQ]
  have main : ∀ (H : Heap) (locs : List Loc) (ls : Array Slot), va_P D vwCl [(q_o, .inr (1, [.int o_viewers, .int o_lookLength, .int o_time, .ref q_o_lookers, .ref q_o_facts])), (q_o_lookers, .inl (cy 0, 4, .inl o_lookers)), (q_o_facts, .inl (cy 0, 140, .inl o_facts)), (q_p1, .inr (1, [.int p1_viewers, .int p1_lookLength, .int p1_time, .ref q_p1_lookers, .ref q_p1_facts])), (q_p1_lookers, .inl (cy 0, 4, .inl p1_lookers)), (q_p1_facts, .inl (cy 0, 140, .inl p1_facts))] H → va_D A [(q_o, .inr (1, [.int o_viewers, .int o_lookLength, .int o_time, .ref q_o_lookers, .ref q_o_facts])), (q_o_lookers, .inl (cy 0, 4, .inl o_lookers)), (q_o_facts, .inl (cy 0, 140, .inl o_facts)), (q_p1, .inr (1, [.int p1_viewers, .int p1_lookLength, .int p1_time, .ref q_p1_lookers, .ref q_p1_facts])), (q_p1_lookers, .inl (cy 0, 4, .inl p1_lookers)), (q_p1_facts, .inl (cy 0, 140, .inl p1_facts))] → va_S A s.heap H locs → lv_has ls 2 [(0, .ref q_o), (1, .ref q_p1)] → W p l e ({ frames := 1, cells := 0, slots := 0, locals := 60 } : Room) s m args below meth c H locs 0 0 QQ (F0 m 0 ls []) := by
    intro H locs ls hP hD hS hl
    unfold X1_copyFrom at hF
    refine lv_aload_n hx hb dX1_copyFrom_0 rfl (lv_at hl 0 rfl) ?_
    refine lv_aload_n hx hb dX1_copyFrom_1 rfl (lv_at hl 1 rfl) ?_
    refine va_get (D := D) (ci := 1) (v := .int p1_viewers) (C := RX1) (T := TX1) (N := 5) hx hb hts f_inX1 hown hK hP 3 rfl rfl 0 (by decide) f_f9 (fun _ h9 => h9) rfl dX1_copyFrom_2 ?_
    refine va_put (D := D) (ci := 1) (v := .int p1_viewers) (ty := .int) (C := RX1) (T := TX1) (N := 5) hx hb hts f_inX1 tyX1 tyX1_ok nmX1 hown hK hP hD hS 0 rfl rfl 0 (by decide) f_f9 (fun _ h9 => h9) rfl (by decide +kernel) rfl rfl (Nat.le_of_ble_eq_true rfl) dX1_copyFrom_5 (fun H locs hP hD hS => ?_)
    have hP : va_P D vwCl [(q_o, .inr (1, [.int p1_viewers, .int o_lookLength, .int o_time, .ref q_o_lookers, .ref q_o_facts])), (q_o_lookers, .inl (cy 0, 4, .inl o_lookers)), (q_o_facts, .inl (cy 0, 140, .inl o_facts)), (q_p1, .inr (1, [.int p1_viewers, .int p1_lookLength, .int p1_time, .ref q_p1_lookers, .ref q_p1_facts])), (q_p1_lookers, .inl (cy 0, 4, .inl p1_lookers)), (q_p1_facts, .inl (cy 0, 140, .inl p1_facts))] H := hP
    have hD : va_D A [(q_o, .inr (1, [.int p1_viewers, .int o_lookLength, .int o_time, .ref q_o_lookers, .ref q_o_facts])), (q_o_lookers, .inl (cy 0, 4, .inl o_lookers)), (q_o_facts, .inl (cy 0, 140, .inl o_facts)), (q_p1, .inr (1, [.int p1_viewers, .int p1_lookLength, .int p1_time, .ref q_p1_lookers, .ref q_p1_facts])), (q_p1_lookers, .inl (cy 0, 4, .inl p1_lookers)), (q_p1_facts, .inl (cy 0, 140, .inl p1_facts))] := hD
    refine lv_aload_n hx hb dX1_copyFrom_8 rfl (lv_at hl 0 rfl) ?_
    refine lv_aload_n hx hb dX1_copyFrom_9 rfl (lv_at hl 1 rfl) ?_
    refine va_get (D := D) (ci := 1) (v := .int p1_lookLength) (C := RX1) (T := TX1) (N := 5) hx hb hts f_inX1 hown hK hP 3 rfl rfl 1 (by decide) f_f15 (fun _ h9 => h9) rfl dX1_copyFrom_10 ?_
    refine va_put (D := D) (ci := 1) (v := .int p1_lookLength) (ty := .int) (C := RX1) (T := TX1) (N := 5) hx hb hts f_inX1 tyX1 tyX1_ok nmX1 hown hK hP hD hS 0 rfl rfl 1 (by decide) f_f15 (fun _ h9 => h9) rfl (by decide +kernel) rfl rfl (Nat.le_of_ble_eq_true rfl) dX1_copyFrom_13 (fun H locs hP hD hS => ?_)
    have hP : va_P D vwCl [(q_o, .inr (1, [.int p1_viewers, .int p1_lookLength, .int o_time, .ref q_o_lookers, .ref q_o_facts])), (q_o_lookers, .inl (cy 0, 4, .inl o_lookers)), (q_o_facts, .inl (cy 0, 140, .inl o_facts)), (q_p1, .inr (1, [.int p1_viewers, .int p1_lookLength, .int p1_time, .ref q_p1_lookers, .ref q_p1_facts])), (q_p1_lookers, .inl (cy 0, 4, .inl p1_lookers)), (q_p1_facts, .inl (cy 0, 140, .inl p1_facts))] H := hP
    have hD : va_D A [(q_o, .inr (1, [.int p1_viewers, .int p1_lookLength, .int o_time, .ref q_o_lookers, .ref q_o_facts])), (q_o_lookers, .inl (cy 0, 4, .inl o_lookers)), (q_o_facts, .inl (cy 0, 140, .inl o_facts)), (q_p1, .inr (1, [.int p1_viewers, .int p1_lookLength, .int p1_time, .ref q_p1_lookers, .ref q_p1_facts])), (q_p1_lookers, .inl (cy 0, 4, .inl p1_lookers)), (q_p1_facts, .inl (cy 0, 140, .inl p1_facts))] := hD
    refine lv_aload_n hx hb dX1_copyFrom_16 rfl (lv_at hl 0 rfl) ?_
    refine lv_aload_n hx hb dX1_copyFrom_17 rfl (lv_at hl 1 rfl) ?_
    refine va_get (D := D) (ci := 1) (v := .int p1_time) (C := RX1) (T := TX1) (N := 5) hx hb hts f_inX1 hown hK hP 3 rfl rfl 2 (by decide) f_f18 (fun _ h9 => h9) rfl dX1_copyFrom_18 ?_
    refine va_put (D := D) (ci := 1) (v := .int p1_time) (ty := .int) (C := RX1) (T := TX1) (N := 5) hx hb hts f_inX1 tyX1 tyX1_ok nmX1 hown hK hP hD hS 0 rfl rfl 2 (by decide) f_f18 (fun _ h9 => h9) rfl (by decide +kernel) rfl rfl (Nat.le_of_ble_eq_true rfl) dX1_copyFrom_21 (fun H locs hP hD hS => ?_)
    have hP : va_P D vwCl [(q_o, .inr (1, [.int p1_viewers, .int p1_lookLength, .int p1_time, .ref q_o_lookers, .ref q_o_facts])), (q_o_lookers, .inl (cy 0, 4, .inl o_lookers)), (q_o_facts, .inl (cy 0, 140, .inl o_facts)), (q_p1, .inr (1, [.int p1_viewers, .int p1_lookLength, .int p1_time, .ref q_p1_lookers, .ref q_p1_facts])), (q_p1_lookers, .inl (cy 0, 4, .inl p1_lookers)), (q_p1_facts, .inl (cy 0, 140, .inl p1_facts))] H := hP
    have hD : va_D A [(q_o, .inr (1, [.int p1_viewers, .int p1_lookLength, .int p1_time, .ref q_o_lookers, .ref q_o_facts])), (q_o_lookers, .inl (cy 0, 4, .inl o_lookers)), (q_o_facts, .inl (cy 0, 140, .inl o_facts)), (q_p1, .inr (1, [.int p1_viewers, .int p1_lookLength, .int p1_time, .ref q_p1_lookers, .ref q_p1_facts])), (q_p1_lookers, .inl (cy 0, 4, .inl p1_lookers)), (q_p1_facts, .inl (cy 0, 140, .inl p1_facts))] := hD
    refine lv_aload_n hx hb dX1_copyFrom_24 rfl (lv_at hl 1 rfl) ?_
    refine va_get (D := D) (ci := 1) (v := .ref q_p1_lookers) (C := RX1) (T := TX1) (N := 5) hx hb hts f_inX1 hown hK hP 3 rfl rfl 3 (by decide) f_f21 (fun _ h9 => h9) rfl dX1_copyFrom_25 ?_
    refine lv_iconst (v := 0) hx hb dX1_copyFrom_28 (by decide) ?_
    refine lv_aload_n hx hb dX1_copyFrom_29 rfl (lv_at hl 0 rfl) ?_
    refine va_get (D := D) (ci := 1) (v := .ref q_o_lookers) (C := RX1) (T := TX1) (N := 5) hx hb hts f_inX1 hown hK hP 0 rfl rfl 3 (by decide) f_f21 (fun _ h9 => h9) rfl dX1_copyFrom_30 ?_
    refine lv_iconst (v := 0) hx hb dX1_copyFrom_33 (by decide) ?_
    refine lv_aload_n hx hb dX1_copyFrom_34 rfl (lv_at hl 0 rfl) ?_
    refine va_get (D := D) (ci := 1) (v := .ref q_o_lookers) (C := RX1) (T := TX1) (N := 5) hx hb hts f_inX1 hown hK hP 0 rfl rfl 3 (by decide) f_f21 (fun _ h9 => h9) rfl dX1_copyFrom_35 ?_
    refine va_alen hx hb hK hP 1 0 rfl rfl (v := 4) rfl dX1_copyFrom_38 ?_
    obtain ⟨⟨h11, h12, h13⟩, hF⟩ := ck_o hF
    obtain ⟨b2, eb2⟩ : ∃ y : Nat → Int32, y = (va_cpy p1_lookers o_lookers (0 : Int32).toNatClampNeg (0 : Int32).toNatClampNeg (4 : Int32).toNatClampNeg) := ⟨_, rfl⟩
    have hF := nm_o hF b2 eb2
    refine va_copyi hx hb (by rw [hml]; exact hl.1.symm) hown f_m34 f_nat f_snat f_iSys hK hP hD hS 4 1 0 0 rfl rfl rfl rfl rfl (by decide) (by decide) h11 h12 h13 (fun _ _ => rfl) (Nat.le_of_ble_eq_true rfl) (Nat.le_of_ble_eq_true rfl) dX1_copyFrom_39 (fun H locs hP hD hS => ?_)
    have hP : va_P D vwCl [(q_o, .inr (1, [.int p1_viewers, .int p1_lookLength, .int p1_time, .ref q_o_lookers, .ref q_o_facts])), (q_o_lookers, .inl (cy 0, 4, .inl b2)), (q_o_facts, .inl (cy 0, 140, .inl o_facts)), (q_p1, .inr (1, [.int p1_viewers, .int p1_lookLength, .int p1_time, .ref q_p1_lookers, .ref q_p1_facts])), (q_p1_lookers, .inl (cy 0, 4, .inl p1_lookers)), (q_p1_facts, .inl (cy 0, 140, .inl p1_facts))] H := by rw [eb2]; exact hP
    have hD : va_D A [(q_o, .inr (1, [.int p1_viewers, .int p1_lookLength, .int p1_time, .ref q_o_lookers, .ref q_o_facts])), (q_o_lookers, .inl (cy 0, 4, .inl b2)), (q_o_facts, .inl (cy 0, 140, .inl o_facts)), (q_p1, .inr (1, [.int p1_viewers, .int p1_lookLength, .int p1_time, .ref q_p1_lookers, .ref q_p1_facts])), (q_p1_lookers, .inl (cy 0, 4, .inl p1_lookers)), (q_p1_facts, .inl (cy 0, 140, .inl p1_facts))] := by rw [eb2]; exact hD
    refine lv_aload_n hx hb dX1_copyFrom_42 rfl (lv_at hl 1 rfl) ?_
    refine va_get (D := D) (ci := 1) (v := .ref q_p1_facts) (C := RX1) (T := TX1) (N := 5) hx hb hts f_inX1 hown hK hP 3 rfl rfl 4 (by decide) f_f25 (fun _ h9 => h9) rfl dX1_copyFrom_43 ?_
    refine lv_iconst (v := 0) hx hb dX1_copyFrom_46 (by decide) ?_
    refine lv_aload_n hx hb dX1_copyFrom_47 rfl (lv_at hl 0 rfl) ?_
    refine va_get (D := D) (ci := 1) (v := .ref q_o_facts) (C := RX1) (T := TX1) (N := 5) hx hb hts f_inX1 hown hK hP 0 rfl rfl 4 (by decide) f_f25 (fun _ h9 => h9) rfl dX1_copyFrom_48 ?_
    refine lv_iconst (v := 0) hx hb dX1_copyFrom_51 (by decide) ?_
    refine lv_aload_n hx hb dX1_copyFrom_52 rfl (lv_at hl 0 rfl) ?_
    refine va_get (D := D) (ci := 1) (v := .ref q_o_facts) (C := RX1) (T := TX1) (N := 5) hx hb hts f_inX1 hown hK hP 0 rfl rfl 4 (by decide) f_f25 (fun _ h9 => h9) rfl dX1_copyFrom_53 ?_
    refine va_alen hx hb hK hP 2 0 rfl rfl (v := 140) rfl dX1_copyFrom_56 ?_
    obtain ⟨⟨h31, h32, h33⟩, hF⟩ := ck_o hF
    obtain ⟨b4, eb4⟩ : ∃ y : Nat → Int32, y = (va_cpy p1_facts o_facts (0 : Int32).toNatClampNeg (0 : Int32).toNatClampNeg (140 : Int32).toNatClampNeg) := ⟨_, rfl⟩
    have hF := nm_o hF b4 eb4
    refine va_copyi hx hb (by rw [hml]; exact hl.1.symm) hown f_m34 f_nat f_snat f_iSys hK hP hD hS 5 2 0 0 rfl rfl rfl rfl rfl (by decide) (by decide) h31 h32 h33 (fun _ _ => rfl) (Nat.le_of_ble_eq_true rfl) (Nat.le_of_ble_eq_true rfl) dX1_copyFrom_57 (fun H locs hP hD hS => ?_)
    have hP : va_P D vwCl [(q_o, .inr (1, [.int p1_viewers, .int p1_lookLength, .int p1_time, .ref q_o_lookers, .ref q_o_facts])), (q_o_lookers, .inl (cy 0, 4, .inl b2)), (q_o_facts, .inl (cy 0, 140, .inl b4)), (q_p1, .inr (1, [.int p1_viewers, .int p1_lookLength, .int p1_time, .ref q_p1_lookers, .ref q_p1_facts])), (q_p1_lookers, .inl (cy 0, 4, .inl p1_lookers)), (q_p1_facts, .inl (cy 0, 140, .inl p1_facts))] H := by rw [eb4]; exact hP
    have hD : va_D A [(q_o, .inr (1, [.int p1_viewers, .int p1_lookLength, .int p1_time, .ref q_o_lookers, .ref q_o_facts])), (q_o_lookers, .inl (cy 0, 4, .inl b2)), (q_o_facts, .inl (cy 0, 140, .inl b4)), (q_p1, .inr (1, [.int p1_viewers, .int p1_lookLength, .int p1_time, .ref q_p1_lookers, .ref q_p1_facts])), (q_p1_lookers, .inl (cy 0, 4, .inl p1_lookers)), (q_p1_facts, .inl (cy 0, 140, .inl p1_facts))] := by rw [eb4]; exact hD
    obtain rfl := so_o hF
    rw [hQQ]
    exact kr_v hx hb hr hlocks hP hD hS dX1_copyFrom_60
  exact main s.heap [] ls hP hD hS hl
theorem kd_X1_isFull : yX1_isFull.cls = RX1 ∧ yX1_isFull.cls ≠ "java/lang/invoke/MethodHandle" ∧ yX1_isFull.cls ≠ "java/lang/invoke/VarHandle" ∧ (parseMethodDescriptor yX1_isFull.desc).map (fun d => d.parameters.length) = some 0 := by decide +kernel
set_option maxHeartbeats 4000000 in
set_option maxRecDepth 100000 in
theorem c_X1_isFull {l : Launch} {D : va_G} {cy : Nat → ClassId} (q_o : Nat) (sz : Nat) (x_o_lookLength x_o_time x_o_lookers x_o_facts : Value) (o_viewers : Int32) (res : Int32) (hF : X1_isFull o_viewers = some res) : Met l yX1_isFull wsX1_isFull ({ frames := 0, cells := 0, slots := 0, locals := 0 } : Room) (kP (EN D cy) D [.ref q_o] [(q_o, .inr (1, [.int o_viewers, x_o_lookLength, x_o_time, x_o_lookers, x_o_facts]))] sz) (kQi D res [(q_o, .inr (1, [.int o_viewers, x_o_lookLength, x_o_time, x_o_lookers, x_o_facts]))] (va_A [(q_o, .inr (1, [.int o_viewers, x_o_lookLength, x_o_time, x_o_lookers, x_o_facts]))] sz)) 0 0 (va_A [(q_o, .inr (1, [.int o_viewers, x_o_lookLength, x_o_time, x_o_lookers, x_o_facts]))] sz) := by
  refine kMet (y := yX1_isFull) (av := [.ref q_o]) (cc := cX1_isFull) (maxL := 1) (ret := some .boolean) (own := RX1) (Qc := fun A9 => (kQi D res [(q_o, .inr (1, [.int o_viewers, x_o_lookLength, x_o_time, x_o_lookers, x_o_facts]))] A9)) (by decide) rfl rfl (Nat.le_of_ble_eq_true rfl) ?_
  intro p e s m args below meth c A hx hb hr hts hown hml hlocks hname hE hP hD hA hsz ls hl
  have hK := hE.1
  have hl : lv_has ls 1 [(0, .ref q_o)] := hl
  have hS : va_S A s.heap s.heap [] := va_S.rf
  have f_f9 := hts (.fieldLink RX1 9 "PeepBox$Crowd" "viewers" "I") (by decide +kernel)
  have f_inX1 : ∀ w ∈ wsX10, w ∈ wsX1_isFull := by decide +kernel
  obtain ⟨QQ, hQQ⟩ : ∃ Q9, Q9 = MQ below (kQi D res [(q_o, .inr (1, [.int o_viewers, x_o_lookLength, x_o_time, x_o_lookers, x_o_facts]))] A) args s 0 0 A := ⟨_, rfl⟩
  rw [← hQQ]
  have main : ∀ (H : Heap) (locs : List Loc) (ls : Array Slot), va_P D vwCl [(q_o, .inr (1, [.int o_viewers, x_o_lookLength, x_o_time, x_o_lookers, x_o_facts]))] H → va_D A [(q_o, .inr (1, [.int o_viewers, x_o_lookLength, x_o_time, x_o_lookers, x_o_facts]))] → va_S A s.heap H locs → lv_has ls 1 [(0, .ref q_o)] → W p l e ({ frames := 0, cells := 0, slots := 0, locals := 0 } : Room) s m args below meth c H locs 0 0 QQ (F0 m 0 ls []) := by
    intro H locs ls hP hD hS hl
    unfold X1_isFull at hF
    refine lv_aload_n hx hb dX1_isFull_0 rfl (lv_at hl 0 rfl) ?_
    refine va_get (D := D) (ci := 1) (v := .int o_viewers) (C := RX1) (T := TX1) (N := 5) hx hb hts f_inX1 hown hK hP 0 rfl rfl 0 (by decide) f_f9 (fun _ h9 => h9) rfl dX1_isFull_1 ?_
    refine lv_bipush (v := 20) hx hb dX1_isFull_4 (by decide) ?_
    refine lv_icmp_lt (tgt := 13) hx hb dX1_isFull_6 (by decide) (fun c1 => ?_) (fun c1 => ?_)
    · have hF := if_p hF c1
      refine lv_iconst (v := 0) hx hb dX1_isFull_13 (by decide) ?_
      obtain rfl := so_o hF
      rw [hQQ]
      exact kr_z (v := (0 : Int32)) hx hb hr hlocks rfl hP hD hS dX1_isFull_14
    · have hF := if_n hF c1
      refine lv_iconst (v := 1) hx hb dX1_isFull_9 (by decide) ?_
      refine lv_goto (tgt := 14) hx hb dX1_isFull_10 (by decide) ?_
      obtain rfl := so_o hF
      rw [hQQ]
      exact kr_z (v := (1 : Int32)) hx hb hr hlocks rfl hP hD hS dX1_isFull_14
  exact main s.heap [] ls hP hD hS hl
theorem kd_X1_set : yX1_set.cls = RX1 ∧ yX1_set.cls ≠ "java/lang/invoke/MethodHandle" ∧ yX1_set.cls ≠ "java/lang/invoke/VarHandle" ∧ (parseMethodDescriptor yX1_set.desc).map (fun d => d.parameters.length) = some 3 := by decide +kernel
set_option maxHeartbeats 4000000 in
set_option maxRecDepth 100000 in
theorem c_X1_set {l : Launch} {D : va_G} {cy : Nat → ClassId} (q_o q_o_facts : Nat) (sz : Nat) (x_o_viewers x_o_lookLength x_o_time x_o_lookers : Value) (o_facts : Nat → Int32) (p1 : Int32) (p2 : Int32) (p3 : Int32) (res : (Nat → Int32)) (hF : X1_set o_facts p1 p2 p3 = some res) : Met l yX1_set wsX1_set ({ frames := 0, cells := 0, slots := 0, locals := 0 } : Room) (kP (EN D cy) D [.ref q_o, .int p1, .int p2, .int p3] [(q_o, .inr (1, [x_o_viewers, x_o_lookLength, x_o_time, x_o_lookers, .ref q_o_facts])), (q_o_facts, .inl (cy 0, 140, .inl o_facts))] sz) (kQv D [(q_o, .inr (1, [x_o_viewers, x_o_lookLength, x_o_time, x_o_lookers, .ref q_o_facts])), (q_o_facts, .inl (cy 0, 140, .inl res))] (va_A [(q_o, .inr (1, [x_o_viewers, x_o_lookLength, x_o_time, x_o_lookers, .ref q_o_facts])), (q_o_facts, .inl (cy 0, 140, .inl o_facts))] sz)) 0 0 (va_A [(q_o, .inr (1, [x_o_viewers, x_o_lookLength, x_o_time, x_o_lookers, .ref q_o_facts])), (q_o_facts, .inl (cy 0, 140, .inl o_facts))] sz) := by
  refine kMet (y := yX1_set) (av := [.ref q_o, .int p1, .int p2, .int p3]) (cc := cX1_set) (maxL := 4) (ret := none) (own := RX1) (Qc := fun A9 => (kQv D [(q_o, .inr (1, [x_o_viewers, x_o_lookLength, x_o_time, x_o_lookers, .ref q_o_facts])), (q_o_facts, .inl (cy 0, 140, .inl res))] A9)) (by decide) rfl rfl (Nat.le_of_ble_eq_true rfl) ?_
  intro p e s m args below meth c A hx hb hr hts hown hml hlocks hname hE hP hD hA hsz ls hl
  have hK := hE.1
  have hl : lv_has ls 4 [(0, .ref q_o), (1, .int p1), (2, .int p2), (3, .int p3)] := hl
  have hS : va_S A s.heap s.heap [] := va_S.rf
  have f_f25 := hts (.fieldLink RX1 25 "PeepBox$Crowd" "facts" "[I") (by decide +kernel)
  have f_inX1 : ∀ w ∈ wsX10, w ∈ wsX1_set := by decide +kernel
  obtain ⟨QQ, hQQ⟩ : ∃ Q9, Q9 = MQ below (kQv D [(q_o, .inr (1, [x_o_viewers, x_o_lookLength, x_o_time, x_o_lookers, .ref q_o_facts])), (q_o_facts, .inl (cy 0, 140, .inl res))] A) args s 0 0 A := ⟨_, rfl⟩
  rw [← hQQ]
  have main : ∀ (H : Heap) (locs : List Loc) (ls : Array Slot), va_P D vwCl [(q_o, .inr (1, [x_o_viewers, x_o_lookLength, x_o_time, x_o_lookers, .ref q_o_facts])), (q_o_facts, .inl (cy 0, 140, .inl o_facts))] H → va_D A [(q_o, .inr (1, [x_o_viewers, x_o_lookLength, x_o_time, x_o_lookers, .ref q_o_facts])), (q_o_facts, .inl (cy 0, 140, .inl o_facts))] → va_S A s.heap H locs → lv_has ls 4 [(0, .ref q_o), (1, .int p1), (2, .int p2), (3, .int p3)] → W p l e ({ frames := 0, cells := 0, slots := 0, locals := 0 } : Room) s m args below meth c H locs 0 0 QQ (F0 m 0 ls []) := by
    intro H locs ls hP hD hS hl
    unfold X1_set at hF
    refine lv_aload_n hx hb dX1_set_0 rfl (lv_at hl 0 rfl) ?_
    refine va_get (D := D) (ci := 1) (v := .ref q_o_facts) (C := RX1) (T := TX1) (N := 5) hx hb hts f_inX1 hown hK hP 0 rfl rfl 4 (by decide) f_f25 (fun _ h9 => h9) rfl dX1_set_1 ?_
    refine lv_iload_n hx hb dX1_set_4 rfl (lv_at hl 1 rfl) ?_
    refine lv_bipush (v := 7) hx hb dX1_set_5 (by decide) ?_
    refine lv_imul hx hb dX1_set_7 ?_
    refine lv_iload_n hx hb dX1_set_8 rfl (lv_at hl 2 rfl) ?_
    refine lv_iadd hx hb dX1_set_9 ?_
    refine lv_iload_n hx hb dX1_set_10 rfl (lv_at hl 3 rfl) ?_
    obtain ⟨h1, hF⟩ := st_o hF
    refine va_iast hx hb hK hP hD hS 1 0 rfl rfl h1 dX1_set_11 (fun H locs hP hD hS => ?_)
    obtain ⟨b2, eb2⟩ : ∃ y : Nat → Int32, y = (upd o_facts ((p1 * (7 : Int32)) + p2).toNatClampNeg p3) := ⟨_, rfl⟩
    have hF := hF b2 eb2
    have hP : va_P D vwCl [(q_o, .inr (1, [x_o_viewers, x_o_lookLength, x_o_time, x_o_lookers, .ref q_o_facts])), (q_o_facts, .inl (cy 0, 140, .inl b2))] H := by rw [eb2]; exact hP
    have hD : va_D A [(q_o, .inr (1, [x_o_viewers, x_o_lookLength, x_o_time, x_o_lookers, .ref q_o_facts])), (q_o_facts, .inl (cy 0, 140, .inl b2))] := by rw [eb2]; exact hD
    obtain rfl := so_o hF
    rw [hQQ]
    exact kr_v hx hb hr hlocks hP hD hS dX1_set_12
  exact main s.heap [] ls hP hD hS hl
theorem kd_X1_endLook : yX1_endLook.cls = RX1 ∧ yX1_endLook.cls ≠ "java/lang/invoke/MethodHandle" ∧ yX1_endLook.cls ≠ "java/lang/invoke/VarHandle" ∧ (parseMethodDescriptor yX1_endLook.desc).map (fun d => d.parameters.length) = some 2 := by decide +kernel
set_option maxHeartbeats 4000000 in
set_option maxRecDepth 100000 in
theorem c_X1_endLook {l : Launch} {D : va_G} {cy : Nat → ClassId} (q_o q_o_facts : Nat) (sz : Nat) (x_o_viewers x_o_lookLength x_o_time x_o_lookers : Value) (o_facts : Nat → Int32) (p1 : Int32) (p2 : Int32) (res : (Nat → Int32)) (hF : X1_endLook o_facts p1 p2 = some res) : Met l yX1_endLook wsX1_endLook ({ frames := 1, cells := 0, slots := 0, locals := 23 } : Room) (kP (EN D cy) D [.ref q_o, .int p1, .int p2] [(q_o, .inr (1, [x_o_viewers, x_o_lookLength, x_o_time, x_o_lookers, .ref q_o_facts])), (q_o_facts, .inl (cy 0, 140, .inl o_facts))] sz) (kQv D [(q_o, .inr (1, [x_o_viewers, x_o_lookLength, x_o_time, x_o_lookers, .ref q_o_facts])), (q_o_facts, .inl (cy 0, 140, .inl res))] (va_A [(q_o, .inr (1, [x_o_viewers, x_o_lookLength, x_o_time, x_o_lookers, .ref q_o_facts])), (q_o_facts, .inl (cy 0, 140, .inl o_facts))] sz)) 0 0 (va_A [(q_o, .inr (1, [x_o_viewers, x_o_lookLength, x_o_time, x_o_lookers, .ref q_o_facts])), (q_o_facts, .inl (cy 0, 140, .inl o_facts))] sz) := by
  refine kMet (y := yX1_endLook) (av := [.ref q_o, .int p1, .int p2]) (cc := cX1_endLook) (maxL := 3) (ret := none) (own := RX1) (Qc := fun A9 => (kQv D [(q_o, .inr (1, [x_o_viewers, x_o_lookLength, x_o_time, x_o_lookers, .ref q_o_facts])), (q_o_facts, .inl (cy 0, 140, .inl res))] A9)) (by decide) rfl rfl (Nat.le_of_ble_eq_true rfl) ?_
  intro p e s m args below meth c A hx hb hr hts hown hml hlocks hname hE hP hD hA hsz ls hl
  have hK := hE.1
  have hl : lv_has ls 3 [(0, .ref q_o), (1, .int p1), (2, .int p2)] := hl
  have hS : va_S A s.heap s.heap [] := va_S.rf
  obtain ⟨QQ, hQQ⟩ : ∃ Q9, Q9 = MQ below (kQv D [(q_o, .inr (1, [x_o_viewers, x_o_lookLength, x_o_time, x_o_lookers, .ref q_o_facts])), (q_o_facts, .inl (cy 0, 140, .inl res))] A) args s 0 0 A := ⟨_, rfl⟩
  rw [← hQQ]
  have main : ∀ (H : Heap) (locs : List Loc) (ls : Array Slot), va_P D vwCl [(q_o, .inr (1, [x_o_viewers, x_o_lookLength, x_o_time, x_o_lookers, .ref q_o_facts])), (q_o_facts, .inl (cy 0, 140, .inl o_facts))] H → va_D A [(q_o, .inr (1, [x_o_viewers, x_o_lookLength, x_o_time, x_o_lookers, .ref q_o_facts])), (q_o_facts, .inl (cy 0, 140, .inl o_facts))] → va_S A s.heap H locs → lv_has ls 3 [(0, .ref q_o), (1, .int p1), (2, .int p2)] → W p l e ({ frames := 1, cells := 0, slots := 0, locals := 23 } : Room) s m args below meth c H locs 0 0 QQ (F0 m 0 ls []) := by
    intro H locs ls hP hD hS hl
    unfold X1_endLook at hF
    refine lv_aload_n hx hb dX1_endLook_0 rfl (lv_at hl 0 rfl) ?_
    refine lv_iload_n hx hb dX1_endLook_1 rfl (lv_at hl 1 rfl) ?_
    refine lv_iconst (v := 3) hx hb dX1_endLook_2 (by decide) ?_
    refine lv_iload_n hx hb dX1_endLook_3 rfl (lv_at hl 2 rfl) ?_
    obtain ⟨o1, h2, hF⟩ := bn1_o hF
    refine kd_v [(q_o, .inr (1, [x_o_viewers, x_o_lookLength, x_o_time, x_o_lookers, .ref q_o_facts])), (q_o_facts, .inl (cy 0, 140, .inl o1))] (va_runV (As := [.int p1, .int (3 : Int32), .int p2]) (rest := []) ⟨hx, hb, hml, hown, hts⟩ (c_X1_set q_o q_o_facts H.size x_o_viewers x_o_lookLength x_o_time x_o_lookers o_facts p1 (3 : Int32) p2 _ h2) (cwV 3 hts gX1_endLook_X1_set rfl rfl rfl kd_X1_set ⟨Nat.le_of_ble_eq_true rfl, Nat.le_of_ble_eq_true rfl⟩) ⟨kP_blind (EN_ok D cy) D _ _ _, va_recv hK hP (ci := 1) (q0 := 0) rfl rfl, kStart (EN_ok D cy) hE hP hD hS hA [0, 1] rfl rfl _⟩ rfl rfl hl.1 rfl (lv_room (Nat.le_of_ble_eq_true rfl)) dX1_endLook_4 ⟨Nat.zero_le _, Nat.zero_le _⟩) hP hD hS hA [0, 1] [] rfl rfl rfl 2 rfl (by decide +kernel) (fun H locs hP hD hS => ?_)
    refine lv_aload_n hx hb dX1_endLook_7 rfl (lv_at hl 0 rfl) ?_
    refine lv_iload_n hx hb dX1_endLook_8 rfl (lv_at hl 1 rfl) ?_
    refine lv_iconst (v := 4) hx hb dX1_endLook_9 (by decide) ?_
    refine lv_iconst (v := -1) hx hb dX1_endLook_10 (by decide) ?_
    obtain ⟨o3, h4, hF⟩ := bn1_o hF
    refine kd_v [(q_o, .inr (1, [x_o_viewers, x_o_lookLength, x_o_time, x_o_lookers, .ref q_o_facts])), (q_o_facts, .inl (cy 0, 140, .inl o3))] (va_runV (As := [.int p1, .int (4 : Int32), .int (-1 : Int32)]) (rest := []) ⟨hx, hb, hml, hown, hts⟩ (c_X1_set q_o q_o_facts H.size x_o_viewers x_o_lookLength x_o_time x_o_lookers o1 p1 (4 : Int32) (-1 : Int32) _ h4) (cwV 3 hts gX1_endLook_X1_set rfl rfl rfl kd_X1_set ⟨Nat.le_of_ble_eq_true rfl, Nat.le_of_ble_eq_true rfl⟩) ⟨kP_blind (EN_ok D cy) D _ _ _, va_recv hK hP (ci := 1) (q0 := 0) rfl rfl, kStart (EN_ok D cy) hE hP hD hS hA [0, 1] rfl rfl _⟩ rfl rfl hl.1 rfl (lv_room (Nat.le_of_ble_eq_true rfl)) dX1_endLook_11 ⟨Nat.zero_le _, Nat.zero_le _⟩) hP hD hS hA [0, 1] [] rfl rfl rfl 2 rfl (by decide +kernel) (fun H locs hP hD hS => ?_)
    refine lv_aload_n hx hb dX1_endLook_14 rfl (lv_at hl 0 rfl) ?_
    refine lv_iload_n hx hb dX1_endLook_15 rfl (lv_at hl 1 rfl) ?_
    refine lv_iconst (v := 5) hx hb dX1_endLook_16 (by decide) ?_
    refine lv_iconst (v := 0) hx hb dX1_endLook_17 (by decide) ?_
    obtain ⟨o5, h6, hF⟩ := bn1_o hF
    refine kd_v [(q_o, .inr (1, [x_o_viewers, x_o_lookLength, x_o_time, x_o_lookers, .ref q_o_facts])), (q_o_facts, .inl (cy 0, 140, .inl o5))] (va_runV (As := [.int p1, .int (5 : Int32), .int (0 : Int32)]) (rest := []) ⟨hx, hb, hml, hown, hts⟩ (c_X1_set q_o q_o_facts H.size x_o_viewers x_o_lookLength x_o_time x_o_lookers o3 p1 (5 : Int32) (0 : Int32) _ h6) (cwV 3 hts gX1_endLook_X1_set rfl rfl rfl kd_X1_set ⟨Nat.le_of_ble_eq_true rfl, Nat.le_of_ble_eq_true rfl⟩) ⟨kP_blind (EN_ok D cy) D _ _ _, va_recv hK hP (ci := 1) (q0 := 0) rfl rfl, kStart (EN_ok D cy) hE hP hD hS hA [0, 1] rfl rfl _⟩ rfl rfl hl.1 rfl (lv_room (Nat.le_of_ble_eq_true rfl)) dX1_endLook_18 ⟨Nat.zero_le _, Nat.zero_le _⟩) hP hD hS hA [0, 1] [] rfl rfl rfl 2 rfl (by decide +kernel) (fun H locs hP hD hS => ?_)
    obtain rfl := so_o hF
    rw [hQQ]
    exact kr_v hx hb hr hlocks hP hD hS dX1_endLook_21
  exact main s.heap [] ls hP hD hS hl
theorem kd_X1_add : yX1_add.cls = RX1 ∧ yX1_add.cls ≠ "java/lang/invoke/MethodHandle" ∧ yX1_add.cls ≠ "java/lang/invoke/VarHandle" ∧ (parseMethodDescriptor yX1_add.desc).map (fun d => d.parameters.length) = some 3 := by decide +kernel
set_option maxHeartbeats 4000000 in
set_option maxRecDepth 100000 in
theorem c_X1_add {l : Launch} {D : va_G} {cy : Nat → ClassId} (q_o q_o_facts : Nat) (sz : Nat) (x_o_lookLength x_o_time x_o_lookers : Value) (o_viewers : Int32) (o_facts : Nat → Int32) (p1 : Int32) (p2 : Int32) (p3 : Int32) (res : Int32 × (Nat → Int32)) (hF : X1_add o_viewers o_facts p1 p2 p3 = some res) : Met l yX1_add wsX1_add ({ frames := 2, cells := 0, slots := 0, locals := 45 } : Room) (kP (EN D cy) D [.ref q_o, .int p1, .int p2, .int p3] [(q_o, .inr (1, [.int o_viewers, x_o_lookLength, x_o_time, x_o_lookers, .ref q_o_facts])), (q_o_facts, .inl (cy 0, 140, .inl o_facts))] sz) (kQv D [(q_o, .inr (1, [.int res.1, x_o_lookLength, x_o_time, x_o_lookers, .ref q_o_facts])), (q_o_facts, .inl (cy 0, 140, .inl res.2))] (va_A [(q_o, .inr (1, [.int o_viewers, x_o_lookLength, x_o_time, x_o_lookers, .ref q_o_facts])), (q_o_facts, .inl (cy 0, 140, .inl o_facts))] sz)) 0 0 (va_A [(q_o, .inr (1, [.int o_viewers, x_o_lookLength, x_o_time, x_o_lookers, .ref q_o_facts])), (q_o_facts, .inl (cy 0, 140, .inl o_facts))] sz) := by
  refine kMet (y := yX1_add) (av := [.ref q_o, .int p1, .int p2, .int p3]) (cc := cX1_add) (maxL := 5) (ret := none) (own := RX1) (Qc := fun A9 => (kQv D [(q_o, .inr (1, [.int res.1, x_o_lookLength, x_o_time, x_o_lookers, .ref q_o_facts])), (q_o_facts, .inl (cy 0, 140, .inl res.2))] A9)) (by decide) rfl rfl (Nat.le_of_ble_eq_true rfl) ?_
  intro p e s m args below meth c A hx hb hr hts hown hml hlocks hname hE hP hD hA hsz ls hl
  have hK := hE.1
  have hl : lv_has ls 5 [(0, .ref q_o), (1, .int p1), (2, .int p2), (3, .int p3)] := hl
  have hS : va_S A s.heap s.heap [] := va_S.rf
  have f_f9 := hts (.fieldLink RX1 9 "PeepBox$Crowd" "viewers" "I") (by decide +kernel)
  have f_inX1 : ∀ w ∈ wsX10, w ∈ wsX1_add := by decide +kernel
  obtain ⟨QQ, hQQ⟩ : ∃ Q9, Q9 = MQ below (kQv D [(q_o, .inr (1, [.int res.1, x_o_lookLength, x_o_time, x_o_lookers, .ref q_o_facts])), (q_o_facts, .inl (cy 0, 140, .inl res.2))] A) args s 0 0 A := ⟨_, rfl⟩
  rw [← hQQ]
  have main : ∀ (H : Heap) (locs : List Loc) (ls : Array Slot), va_P D vwCl [(q_o, .inr (1, [.int o_viewers, x_o_lookLength, x_o_time, x_o_lookers, .ref q_o_facts])), (q_o_facts, .inl (cy 0, 140, .inl o_facts))] H → va_D A [(q_o, .inr (1, [.int o_viewers, x_o_lookLength, x_o_time, x_o_lookers, .ref q_o_facts])), (q_o_facts, .inl (cy 0, 140, .inl o_facts))] → va_S A s.heap H locs → lv_has ls 5 [(0, .ref q_o), (1, .int p1), (2, .int p2), (3, .int p3)] → W p l e ({ frames := 2, cells := 0, slots := 0, locals := 45 } : Room) s m args below meth c H locs 0 0 QQ (F0 m 0 ls []) := by
    intro H locs ls hP hD hS hl
    unfold X1_add at hF
    refine lv_aload_n hx hb dX1_add_0 rfl (lv_at hl 0 rfl) ?_
    obtain ⟨r1, h2, hF⟩ := bn1_o hF
    refine kd_i [(q_o, .inr (1, [.int o_viewers, x_o_lookLength, x_o_time, x_o_lookers, .ref q_o_facts])), (q_o_facts, .inl (cy 0, 140, .inl o_facts))] (va_runV (As := []) (rest := []) ⟨hx, hb, hml, hown, hts⟩ (c_X1_isFull q_o H.size x_o_lookLength x_o_time x_o_lookers (.ref q_o_facts) o_viewers _ h2) (cwV 0 hts gX1_add_X1_isFull rfl rfl rfl kd_X1_isFull ⟨Nat.le_of_ble_eq_true rfl, Nat.le_of_ble_eq_true rfl⟩) ⟨kP_blind (EN_ok D cy) D _ _ _, va_recv hK hP (ci := 1) (q0 := 0) rfl rfl, kStart (EN_ok D cy) hE hP hD hS hA [0] rfl rfl _⟩ rfl rfl hl.1 rfl (lv_room (Nat.le_of_ble_eq_true rfl)) dX1_add_1 ⟨Nat.zero_le _, Nat.zero_le _⟩) hP hD hS hA [0] [1] rfl rfl rfl 2 rfl (by decide +kernel) (fun H locs hP hD hS => ?_)
    refine lv_if_eq (tgt := 8) hx hb dX1_add_4 (by decide) (fun c3 => ?_) (fun c3 => ?_)
    · have hF := if_p hF c3
      refine lv_aload_n hx hb dX1_add_8 rfl (lv_at hl 0 rfl) ?_
      refine va_get (D := D) (ci := 1) (v := .int o_viewers) (C := RX1) (T := TX1) (N := 5) hx hb hts f_inX1 hown hK hP 0 rfl rfl 0 (by decide) f_f9 (fun _ h9 => h9) rfl dX1_add_9 ?_
      refine lv_istore (lv' := [(4, .int o_viewers), (0, .ref q_o), (1, .int p1), (2, .int p2), (3, .int p3)]) hx hb dX1_add_12 hl (by decide) rfl (fun ls hl => ?_)
      refine lv_aload_n hx hb dX1_add_14 rfl (lv_at hl 1 rfl) ?_
      refine lv_dup hx hb dX1_add_15 rfl ?_
      refine va_get (D := D) (ci := 1) (v := .int o_viewers) (C := RX1) (T := TX1) (N := 5) hx hb hts f_inX1 hown hK hP 0 rfl rfl 0 (by decide) f_f9 (fun _ h9 => h9) rfl dX1_add_16 ?_
      refine lv_iconst (v := 1) hx hb dX1_add_19 (by decide) ?_
      refine lv_iadd hx hb dX1_add_20 ?_
      refine lv_topi (fun v4 ev4 => ?_)
      have hF := nm_o hF v4 ev4
      refine va_put (D := D) (ci := 1) (v := .int v4) (ty := .int) (C := RX1) (T := TX1) (N := 5) hx hb hts f_inX1 tyX1 tyX1_ok nmX1 hown hK hP hD hS 0 rfl rfl 0 (by decide) f_f9 (fun _ h9 => h9) rfl (by decide +kernel) rfl rfl (Nat.le_of_ble_eq_true rfl) dX1_add_21 (fun H locs hP hD hS => ?_)
      have hP : va_P D vwCl [(q_o, .inr (1, [.int v4, x_o_lookLength, x_o_time, x_o_lookers, .ref q_o_facts])), (q_o_facts, .inl (cy 0, 140, .inl o_facts))] H := hP
      have hD : va_D A [(q_o, .inr (1, [.int v4, x_o_lookLength, x_o_time, x_o_lookers, .ref q_o_facts])), (q_o_facts, .inl (cy 0, 140, .inl o_facts))] := hD
      refine lv_aload_n hx hb dX1_add_24 rfl (lv_at hl 1 rfl) ?_
      refine lv_iload hx hb dX1_add_25 (lv_at hl 0 rfl) ?_
      refine lv_iconst (v := 0) hx hb dX1_add_27 (by decide) ?_
      refine lv_iload_n hx hb dX1_add_28 rfl (lv_at hl 2 rfl) ?_
      obtain ⟨o5, h6, hF⟩ := bn1_o hF
      refine kd_v [(q_o, .inr (1, [.int v4, x_o_lookLength, x_o_time, x_o_lookers, .ref q_o_facts])), (q_o_facts, .inl (cy 0, 140, .inl o5))] (va_runV (As := [.int o_viewers, .int (0 : Int32), .int p1]) (rest := []) ⟨hx, hb, hml, hown, hts⟩ (c_X1_set q_o q_o_facts H.size (.int v4) x_o_lookLength x_o_time x_o_lookers o_facts o_viewers (0 : Int32) p1 _ h6) (cwV 3 hts gX1_add_X1_set rfl rfl rfl kd_X1_set ⟨Nat.le_of_ble_eq_true rfl, Nat.le_of_ble_eq_true rfl⟩) ⟨kP_blind (EN_ok D cy) D _ _ _, va_recv hK hP (ci := 1) (q0 := 0) rfl rfl, kStart (EN_ok D cy) hE hP hD hS hA [0, 1] rfl rfl _⟩ rfl rfl hl.1 rfl (lv_room (Nat.le_of_ble_eq_true rfl)) dX1_add_29 ⟨Nat.zero_le _, Nat.zero_le _⟩) hP hD hS hA [0, 1] [] rfl rfl rfl 2 rfl (by decide +kernel) (fun H locs hP hD hS => ?_)
      refine lv_aload_n hx hb dX1_add_32 rfl (lv_at hl 1 rfl) ?_
      refine lv_iload hx hb dX1_add_33 (lv_at hl 0 rfl) ?_
      refine lv_iconst (v := 1) hx hb dX1_add_35 (by decide) ?_
      refine lv_iload_n hx hb dX1_add_36 rfl (lv_at hl 3 rfl) ?_
      obtain ⟨o7, h8, hF⟩ := bn1_o hF
      refine kd_v [(q_o, .inr (1, [.int v4, x_o_lookLength, x_o_time, x_o_lookers, .ref q_o_facts])), (q_o_facts, .inl (cy 0, 140, .inl o7))] (va_runV (As := [.int o_viewers, .int (1 : Int32), .int p2]) (rest := []) ⟨hx, hb, hml, hown, hts⟩ (c_X1_set q_o q_o_facts H.size (.int v4) x_o_lookLength x_o_time x_o_lookers o5 o_viewers (1 : Int32) p2 _ h8) (cwV 3 hts gX1_add_X1_set rfl rfl rfl kd_X1_set ⟨Nat.le_of_ble_eq_true rfl, Nat.le_of_ble_eq_true rfl⟩) ⟨kP_blind (EN_ok D cy) D _ _ _, va_recv hK hP (ci := 1) (q0 := 0) rfl rfl, kStart (EN_ok D cy) hE hP hD hS hA [0, 1] rfl rfl _⟩ rfl rfl hl.1 rfl (lv_room (Nat.le_of_ble_eq_true rfl)) dX1_add_37 ⟨Nat.zero_le _, Nat.zero_le _⟩) hP hD hS hA [0, 1] [] rfl rfl rfl 2 rfl (by decide +kernel) (fun H locs hP hD hS => ?_)
      refine lv_aload_n hx hb dX1_add_40 rfl (lv_at hl 1 rfl) ?_
      refine lv_iload hx hb dX1_add_41 (lv_at hl 0 rfl) ?_
      refine lv_iconst (v := 2) hx hb dX1_add_43 (by decide) ?_
      refine lv_iload_n hx hb dX1_add_44 rfl (lv_at hl 4 rfl) ?_
      obtain ⟨o9, h10, hF⟩ := bn1_o hF
      refine kd_v [(q_o, .inr (1, [.int v4, x_o_lookLength, x_o_time, x_o_lookers, .ref q_o_facts])), (q_o_facts, .inl (cy 0, 140, .inl o9))] (va_runV (As := [.int o_viewers, .int (2 : Int32), .int p3]) (rest := []) ⟨hx, hb, hml, hown, hts⟩ (c_X1_set q_o q_o_facts H.size (.int v4) x_o_lookLength x_o_time x_o_lookers o7 o_viewers (2 : Int32) p3 _ h10) (cwV 3 hts gX1_add_X1_set rfl rfl rfl kd_X1_set ⟨Nat.le_of_ble_eq_true rfl, Nat.le_of_ble_eq_true rfl⟩) ⟨kP_blind (EN_ok D cy) D _ _ _, va_recv hK hP (ci := 1) (q0 := 0) rfl rfl, kStart (EN_ok D cy) hE hP hD hS hA [0, 1] rfl rfl _⟩ rfl rfl hl.1 rfl (lv_room (Nat.le_of_ble_eq_true rfl)) dX1_add_45 ⟨Nat.zero_le _, Nat.zero_le _⟩) hP hD hS hA [0, 1] [] rfl rfl rfl 2 rfl (by decide +kernel) (fun H locs hP hD hS => ?_)
      refine lv_aload_n hx hb dX1_add_48 rfl (lv_at hl 1 rfl) ?_
      refine lv_iload hx hb dX1_add_49 (lv_at hl 0 rfl) ?_
      refine lv_bipush (v := 6) hx hb dX1_add_51 (by decide) ?_
      refine lv_iconst (v := 0) hx hb dX1_add_53 (by decide) ?_
      obtain ⟨o11, h12, hF⟩ := bn1_o hF
      refine kd_v [(q_o, .inr (1, [.int v4, x_o_lookLength, x_o_time, x_o_lookers, .ref q_o_facts])), (q_o_facts, .inl (cy 0, 140, .inl o11))] (va_runV (As := [.int o_viewers, .int (6 : Int32), .int (0 : Int32)]) (rest := []) ⟨hx, hb, hml, hown, hts⟩ (c_X1_set q_o q_o_facts H.size (.int v4) x_o_lookLength x_o_time x_o_lookers o9 o_viewers (6 : Int32) (0 : Int32) _ h12) (cwV 3 hts gX1_add_X1_set rfl rfl rfl kd_X1_set ⟨Nat.le_of_ble_eq_true rfl, Nat.le_of_ble_eq_true rfl⟩) ⟨kP_blind (EN_ok D cy) D _ _ _, va_recv hK hP (ci := 1) (q0 := 0) rfl rfl, kStart (EN_ok D cy) hE hP hD hS hA [0, 1] rfl rfl _⟩ rfl rfl hl.1 rfl (lv_room (Nat.le_of_ble_eq_true rfl)) dX1_add_54 ⟨Nat.zero_le _, Nat.zero_le _⟩) hP hD hS hA [0, 1] [] rfl rfl rfl 2 rfl (by decide +kernel) (fun H locs hP hD hS => ?_)
      refine lv_aload_n hx hb dX1_add_57 rfl (lv_at hl 1 rfl) ?_
      refine lv_iload hx hb dX1_add_58 (lv_at hl 0 rfl) ?_
      refine lv_iconst (v := 0) hx hb dX1_add_60 (by decide) ?_
      obtain ⟨o13, h14, hF⟩ := bn1_o hF
      refine kd_v [(q_o, .inr (1, [.int v4, x_o_lookLength, x_o_time, x_o_lookers, .ref q_o_facts])), (q_o_facts, .inl (cy 0, 140, .inl o13))] (va_runV (As := [.int o_viewers, .int (0 : Int32)]) (rest := []) ⟨hx, hb, hml, hown, hts⟩ (c_X1_endLook q_o q_o_facts H.size (.int v4) x_o_lookLength x_o_time x_o_lookers o11 o_viewers (0 : Int32) _ h14) (cwV 2 hts gX1_add_X1_endLook rfl rfl rfl kd_X1_endLook ⟨Nat.le_of_ble_eq_true rfl, Nat.le_of_ble_eq_true rfl⟩) ⟨kP_blind (EN_ok D cy) D _ _ _, va_recv hK hP (ci := 1) (q0 := 0) rfl rfl, kStart (EN_ok D cy) hE hP hD hS hA [0, 1] rfl rfl _⟩ rfl rfl hl.1 rfl (lv_room (Nat.le_of_ble_eq_true rfl)) dX1_add_61 ⟨Nat.zero_le _, Nat.zero_le _⟩) hP hD hS hA [0, 1] [] rfl rfl rfl 2 rfl (by decide +kernel) (fun H locs hP hD hS => ?_)
      obtain rfl := so_o hF
      rw [hQQ]
      exact kr_v hx hb hr hlocks hP hD hS dX1_add_64
    · have hF := if_n hF c3
      obtain rfl := so_o hF
      rw [hQQ]
      exact kr_v hx hb hr hlocks hP hD hS dX1_add_7
  exact main s.heap [] ls hP hD hS hl
theorem kd_X1_fact : yX1_fact.cls = RX1 ∧ yX1_fact.cls ≠ "java/lang/invoke/MethodHandle" ∧ yX1_fact.cls ≠ "java/lang/invoke/VarHandle" ∧ (parseMethodDescriptor yX1_fact.desc).map (fun d => d.parameters.length) = some 2 := by decide +kernel
set_option maxHeartbeats 4000000 in
set_option maxRecDepth 100000 in
theorem c_X1_fact {l : Launch} {D : va_G} {cy : Nat → ClassId} (q_o q_o_facts : Nat) (sz : Nat) (x_o_viewers x_o_lookLength x_o_time x_o_lookers : Value) (o_facts : Nat → Int32) (p1 : Int32) (p2 : Int32) (res : Int32) (hF : X1_fact o_facts p1 p2 = some res) : Met l yX1_fact wsX1_fact ({ frames := 0, cells := 0, slots := 0, locals := 0 } : Room) (kP (EN D cy) D [.ref q_o, .int p1, .int p2] [(q_o, .inr (1, [x_o_viewers, x_o_lookLength, x_o_time, x_o_lookers, .ref q_o_facts])), (q_o_facts, .inl (cy 0, 140, .inl o_facts))] sz) (kQi D res [(q_o, .inr (1, [x_o_viewers, x_o_lookLength, x_o_time, x_o_lookers, .ref q_o_facts])), (q_o_facts, .inl (cy 0, 140, .inl o_facts))] (va_A [(q_o, .inr (1, [x_o_viewers, x_o_lookLength, x_o_time, x_o_lookers, .ref q_o_facts])), (q_o_facts, .inl (cy 0, 140, .inl o_facts))] sz)) 0 0 (va_A [(q_o, .inr (1, [x_o_viewers, x_o_lookLength, x_o_time, x_o_lookers, .ref q_o_facts])), (q_o_facts, .inl (cy 0, 140, .inl o_facts))] sz) := by
  refine kMet (y := yX1_fact) (av := [.ref q_o, .int p1, .int p2]) (cc := cX1_fact) (maxL := 3) (ret := some .int) (own := RX1) (Qc := fun A9 => (kQi D res [(q_o, .inr (1, [x_o_viewers, x_o_lookLength, x_o_time, x_o_lookers, .ref q_o_facts])), (q_o_facts, .inl (cy 0, 140, .inl o_facts))] A9)) (by decide) rfl rfl (Nat.le_of_ble_eq_true rfl) ?_
  intro p e s m args below meth c A hx hb hr hts hown hml hlocks hname hE hP hD hA hsz ls hl
  have hK := hE.1
  have hl : lv_has ls 3 [(0, .ref q_o), (1, .int p1), (2, .int p2)] := hl
  have hS : va_S A s.heap s.heap [] := va_S.rf
  have f_f25 := hts (.fieldLink RX1 25 "PeepBox$Crowd" "facts" "[I") (by decide +kernel)
  have f_inX1 : ∀ w ∈ wsX10, w ∈ wsX1_fact := by decide +kernel
  obtain ⟨QQ, hQQ⟩ : ∃ Q9, Q9 = MQ below (kQi D res [(q_o, .inr (1, [x_o_viewers, x_o_lookLength, x_o_time, x_o_lookers, .ref q_o_facts])), (q_o_facts, .inl (cy 0, 140, .inl o_facts))] A) args s 0 0 A := ⟨_, rfl⟩
  rw [← hQQ]
  have main : ∀ (H : Heap) (locs : List Loc) (ls : Array Slot), va_P D vwCl [(q_o, .inr (1, [x_o_viewers, x_o_lookLength, x_o_time, x_o_lookers, .ref q_o_facts])), (q_o_facts, .inl (cy 0, 140, .inl o_facts))] H → va_D A [(q_o, .inr (1, [x_o_viewers, x_o_lookLength, x_o_time, x_o_lookers, .ref q_o_facts])), (q_o_facts, .inl (cy 0, 140, .inl o_facts))] → va_S A s.heap H locs → lv_has ls 3 [(0, .ref q_o), (1, .int p1), (2, .int p2)] → W p l e ({ frames := 0, cells := 0, slots := 0, locals := 0 } : Room) s m args below meth c H locs 0 0 QQ (F0 m 0 ls []) := by
    intro H locs ls hP hD hS hl
    unfold X1_fact at hF
    refine lv_aload_n hx hb dX1_fact_0 rfl (lv_at hl 0 rfl) ?_
    refine va_get (D := D) (ci := 1) (v := .ref q_o_facts) (C := RX1) (T := TX1) (N := 5) hx hb hts f_inX1 hown hK hP 0 rfl rfl 4 (by decide) f_f25 (fun _ h9 => h9) rfl dX1_fact_1 ?_
    refine lv_iload_n hx hb dX1_fact_4 rfl (lv_at hl 1 rfl) ?_
    refine lv_bipush (v := 7) hx hb dX1_fact_5 (by decide) ?_
    refine lv_imul hx hb dX1_fact_7 ?_
    refine lv_iload_n hx hb dX1_fact_8 rfl (lv_at hl 2 rfl) ?_
    refine lv_iadd hx hb dX1_fact_9 ?_
    obtain ⟨h1, hF⟩ := ld_o hF
    refine va_iald hx hb hK hP 1 0 rfl rfl h1 dX1_fact_10 ?_
    refine lv_topi (fun v2 ev2 => ?_)
    have hF := hF v2 ev2
    obtain rfl := so_o hF
    rw [hQQ]
    exact kr_i hx hb hr hlocks hP hD hS dX1_fact_11
  exact main s.heap [] ls hP hD hS hl
theorem kd_X1_count : yX1_count.cls = RX1 ∧ yX1_count.cls ≠ "java/lang/invoke/MethodHandle" ∧ yX1_count.cls ≠ "java/lang/invoke/VarHandle" ∧ (parseMethodDescriptor yX1_count.desc).map (fun d => d.parameters.length) = some 1 := by decide +kernel
set_option maxHeartbeats 4000000 in
set_option maxRecDepth 100000 in
theorem c_X1_count {l : Launch} {D : va_G} {cy : Nat → ClassId} (q_o q_o_facts : Nat) (sz : Nat) (x_o_lookLength x_o_time x_o_lookers : Value) (o_viewers : Int32) (o_facts : Nat → Int32) (p1 : Int32) (res : Int32) (hF : X1_count o_viewers o_facts p1 = some res) : Met l yX1_count wsX1_count ({ frames := 1, cells := 0, slots := 0, locals := 22 } : Room) (kP (EN D cy) D [.ref q_o, .int p1] [(q_o, .inr (1, [.int o_viewers, x_o_lookLength, x_o_time, x_o_lookers, .ref q_o_facts])), (q_o_facts, .inl (cy 0, 140, .inl o_facts))] sz) (kQi D res [(q_o, .inr (1, [.int o_viewers, x_o_lookLength, x_o_time, x_o_lookers, .ref q_o_facts])), (q_o_facts, .inl (cy 0, 140, .inl o_facts))] (va_A [(q_o, .inr (1, [.int o_viewers, x_o_lookLength, x_o_time, x_o_lookers, .ref q_o_facts])), (q_o_facts, .inl (cy 0, 140, .inl o_facts))] sz)) 0 0 (va_A [(q_o, .inr (1, [.int o_viewers, x_o_lookLength, x_o_time, x_o_lookers, .ref q_o_facts])), (q_o_facts, .inl (cy 0, 140, .inl o_facts))] sz) := by
  refine kMet (y := yX1_count) (av := [.ref q_o, .int p1]) (cc := cX1_count) (maxL := 4) (ret := some .int) (own := RX1) (Qc := fun A9 => (kQi D res [(q_o, .inr (1, [.int o_viewers, x_o_lookLength, x_o_time, x_o_lookers, .ref q_o_facts])), (q_o_facts, .inl (cy 0, 140, .inl o_facts))] A9)) (by decide) rfl rfl (Nat.le_of_ble_eq_true rfl) ?_
  intro p e s m args below meth c A hx hb hr hts hown hml hlocks hname hE hP hD hA hsz ls hl
  have hK := hE.1
  have hl : lv_has ls 4 [(0, .ref q_o), (1, .int p1)] := hl
  have hS : va_S A s.heap s.heap [] := va_S.rf
  have f_f9 := hts (.fieldLink RX1 9 "PeepBox$Crowd" "viewers" "I") (by decide +kernel)
  have f_inX1 : ∀ w ∈ wsX10, w ∈ wsX1_count := by decide +kernel
  obtain ⟨QQ, hQQ⟩ : ∃ Q9, Q9 = MQ below (kQi D res [(q_o, .inr (1, [.int o_viewers, x_o_lookLength, x_o_time, x_o_lookers, .ref q_o_facts])), (q_o_facts, .inl (cy 0, 140, .inl o_facts))] A) args s 0 0 A := ⟨_, rfl⟩
  rw [← hQQ]
  have J4 : ∀ (n4 : Nat) (l2 : Int32) (l3 : Int32) (H : Heap) (locs : List Loc) (ls : Array Slot), va_P D vwCl [(q_o, .inr (1, [.int o_viewers, x_o_lookLength, x_o_time, x_o_lookers, .ref q_o_facts])), (q_o_facts, .inl (cy 0, 140, .inl o_facts))] H → va_D A [(q_o, .inr (1, [.int o_viewers, x_o_lookLength, x_o_time, x_o_lookers, .ref q_o_facts])), (q_o_facts, .inl (cy 0, 140, .inl o_facts))] → va_S A s.heap H locs → lv_has ls 4 [(0, .ref q_o), (1, .int p1), (2, .int l2), (3, .int l3)] → X1_count_L4 o_viewers o_facts p1 n4 l2 l3 = some res → W p l e ({ frames := 1, cells := 0, slots := 0, locals := 22 } : Room) s m args below meth c H locs 0 0 QQ (F0 m 4 ls []) := by
    intro n4
    induction n4 with
    | zero =>
      intro l2 l3 H locs ls hP hD hS hl hF
      rw [X1_count_L4] at hF
      cases hF
    | succ n4 ih4 =>
      have J25 : ∀ (l2 : Int32) (l3 : Int32) (H : Heap) (locs : List Loc) (ls : Array Slot), va_P D vwCl [(q_o, .inr (1, [.int o_viewers, x_o_lookLength, x_o_time, x_o_lookers, .ref q_o_facts])), (q_o_facts, .inl (cy 0, 140, .inl o_facts))] H → va_D A [(q_o, .inr (1, [.int o_viewers, x_o_lookLength, x_o_time, x_o_lookers, .ref q_o_facts])), (q_o_facts, .inl (cy 0, 140, .inl o_facts))] → va_S A s.heap H locs → lv_has ls 4 [(0, .ref q_o), (1, .int p1), (2, .int l2), (3, .int l3)] → X1_count_J25 o_viewers o_facts p1 (fun z0 z1 => X1_count_L4 o_viewers o_facts p1 n4 z0 z1) l2 l3 = some res → W p l e ({ frames := 1, cells := 0, slots := 0, locals := 22 } : Room) s m args below meth c H locs 0 0 QQ (F0 m 25 ls []) := by
        intro l2 l3 H locs ls hP hD hS hl hF
        unfold X1_count_J25 at hF
        obtain ⟨v1, ev1⟩ : ∃ y : Int32, y = l3 + (1 : Int32) := ⟨_, rfl⟩
        have hF := nm_o hF v1 ev1
        refine lv_iinc (v := v1) (lv' := [(3, .int v1), (0, .ref q_o), (1, .int p1), (2, .int l2)]) hx hb dX1_count_25 hl (k := 3) rfl (by rw [ev1]; rfl) (by decide) rfl (fun ls hl => ?_)
        refine lv_goto (tgt := 4) hx hb dX1_count_28 (by decide) ?_
        exact ih4 l2 v1 H locs ls hP hD hS (lv_sub hl [1, 2, 3, 0] rfl) hF
      intro l2 l3 H locs ls hP hD hS hl hF
      rw [X1_count_L4] at hF
      refine lv_iload_n hx hb dX1_count_4 rfl (lv_at hl 3 rfl) ?_
      refine lv_aload_n hx hb dX1_count_5 rfl (lv_at hl 0 rfl) ?_
      refine va_get (D := D) (ci := 1) (v := .int o_viewers) (C := RX1) (T := TX1) (N := 5) hx hb hts f_inX1 hown hK hP 0 rfl rfl 0 (by decide) f_f9 (fun _ h9 => h9) rfl dX1_count_6 ?_
      refine lv_icmp_ge (tgt := 31) hx hb dX1_count_9 (by decide) (fun c2 => ?_) (fun c2 => ?_)
      · have hF := if_p hF c2
        refine lv_iload_n hx hb dX1_count_31 rfl (lv_at hl 2 rfl) ?_
        obtain rfl := so_o hF
        rw [hQQ]
        exact kr_i hx hb hr hlocks hP hD hS dX1_count_32
      · have hF := if_n hF c2
        refine lv_aload_n hx hb dX1_count_12 rfl (lv_at hl 0 rfl) ?_
        refine lv_iload_n hx hb dX1_count_13 rfl (lv_at hl 3 rfl) ?_
        refine lv_iconst (v := 3) hx hb dX1_count_14 (by decide) ?_
        obtain ⟨r3, h4, hF⟩ := bn1_o hF
        refine kd_i [(q_o, .inr (1, [.int o_viewers, x_o_lookLength, x_o_time, x_o_lookers, .ref q_o_facts])), (q_o_facts, .inl (cy 0, 140, .inl o_facts))] (va_runV (As := [.int l3, .int (3 : Int32)]) (rest := []) ⟨hx, hb, hml, hown, hts⟩ (c_X1_fact q_o q_o_facts H.size (.int o_viewers) x_o_lookLength x_o_time x_o_lookers o_facts l3 (3 : Int32) _ h4) (cwV 2 hts gX1_count_X1_fact rfl rfl rfl kd_X1_fact ⟨Nat.le_of_ble_eq_true rfl, Nat.le_of_ble_eq_true rfl⟩) ⟨kP_blind (EN_ok D cy) D _ _ _, va_recv hK hP (ci := 1) (q0 := 0) rfl rfl, kStart (EN_ok D cy) hE hP hD hS hA [0, 1] rfl rfl _⟩ rfl rfl hl.1 rfl (lv_room (Nat.le_of_ble_eq_true rfl)) dX1_count_15 ⟨Nat.zero_le _, Nat.zero_le _⟩) hP hD hS hA [0, 1] [] rfl rfl rfl 2 rfl (by decide +kernel) (fun H locs hP hD hS => ?_)
        refine lv_iload_n hx hb dX1_count_18 rfl (lv_at hl 1 rfl) ?_
        refine lv_icmp_ne (tgt := 25) hx hb dX1_count_19 (by decide) (fun c5 => ?_) (fun c5 => ?_)
        · have hF := if_n hF c5
          exact J25 l2 l3 H locs ls hP hD hS (lv_sub hl [0, 1, 2, 3] rfl) hF
        · have hF := if_p hF c5
          obtain ⟨v6, ev6⟩ : ∃ y : Int32, y = l2 + (1 : Int32) := ⟨_, rfl⟩
          have hF := nm_o hF v6 ev6
          refine lv_iinc (v := v6) (lv' := [(2, .int v6), (0, .ref q_o), (1, .int p1), (3, .int l3)]) hx hb dX1_count_22 hl (k := 2) rfl (by rw [ev6]; rfl) (by decide) rfl (fun ls hl => ?_)
          exact J25 v6 l3 H locs ls hP hD hS (lv_sub hl [1, 2, 0, 3] rfl) hF
  have main : ∀ (H : Heap) (locs : List Loc) (ls : Array Slot), va_P D vwCl [(q_o, .inr (1, [.int o_viewers, x_o_lookLength, x_o_time, x_o_lookers, .ref q_o_facts])), (q_o_facts, .inl (cy 0, 140, .inl o_facts))] H → va_D A [(q_o, .inr (1, [.int o_viewers, x_o_lookLength, x_o_time, x_o_lookers, .ref q_o_facts])), (q_o_facts, .inl (cy 0, 140, .inl o_facts))] → va_S A s.heap H locs → lv_has ls 4 [(0, .ref q_o), (1, .int p1)] → W p l e ({ frames := 1, cells := 0, slots := 0, locals := 22 } : Room) s m args below meth c H locs 0 0 QQ (F0 m 0 ls []) := by
    intro H locs ls hP hD hS hl
    unfold X1_count at hF
    refine lv_iconst (v := 0) hx hb dX1_count_0 (by decide) ?_
    refine lv_istore_n (lv' := [(2, .int (0 : Int32)), (0, .ref q_o), (1, .int p1)]) hx hb dX1_count_1 rfl hl (by decide) rfl (fun ls hl => ?_)
    refine lv_iconst (v := 0) hx hb dX1_count_2 (by decide) ?_
    refine lv_istore_n (lv' := [(3, .int (0 : Int32)), (2, .int (0 : Int32)), (0, .ref q_o), (1, .int p1)]) hx hb dX1_count_3 rfl hl (by decide) rfl (fun ls hl => ?_)
    exact J4 FU (0 : Int32) (0 : Int32) H locs ls hP hD hS (lv_sub hl [2, 3, 1, 0] rfl) hF
  exact main s.heap [] ls hP hD hS hl
