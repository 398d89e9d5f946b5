/-! contracts, written by program (gen.py): X6_state X6_requirePlane X6_requireCell X6_stands X6_plane X6_requireHole X6_hole -/
theorem kd_X6_state : yX6_state.cls = RX6 ∧ yX6_state.cls ≠ "java/lang/invoke/MethodHandle" ∧ yX6_state.cls ≠ "java/lang/invoke/VarHandle" ∧ (parseMethodDescriptor yX6_state.desc).map (fun d => d.parameters.length) = some 1 := by decide +kernel
set_option maxHeartbeats 4000000 in
set_option maxRecDepth 100000 in
theorem c_X6_state {l : Launch} {D : va_G} {cy : Nat → ClassId} (q_o q_o_now q_o_now_box q_o_now_crowd q_o_now_crowd_facts : Nat) (sz : Nat) (x_o_setup x_o_trial x_o_view x_o_trialView x_o_past x_o_nextPast x_o_undoable x_o_now_box_cells x_o_now_box_pulls x_o_now_box_holeX x_o_now_box_holeY x_o_now_box_price x_o_now_crowd_lookers : Value) (o_now_box_width : Int32) (o_now_box_height : Int32) (o_now_box_planes : Int32) (o_now_box_holes : Int32) (o_now_box_reach : Int32) (o_now_crowd_viewers : Int32) (o_now_crowd_lookLength : Int32) (o_now_crowd_time : Int32) (o_now_crowd_facts : Nat → Int32) (p1 : Int32) (res : Int32) (hF : X6_state o_now_box_width o_now_box_height o_now_box_planes o_now_box_holes o_now_box_reach o_now_crowd_viewers o_now_crowd_lookLength o_now_crowd_time o_now_crowd_facts p1 = some (.inr res)) : Met l yX6_state wsX6_state ({ frames := 2, cells := 0, slots := 0, locals := 45 } : Room) (kP (EN D cy) D [.ref q_o, .int p1] [(q_o, .inr (6, [x_o_setup, .ref q_o_now, x_o_trial, x_o_view, x_o_trialView, x_o_past, x_o_nextPast, x_o_undoable])), (q_o_now, .inr (4, [.ref q_o_now_box, .ref q_o_now_crowd])), (q_o_now_box, .inr (0, [.int o_now_box_width, .int o_now_box_height, .int o_now_box_planes, .int o_now_box_holes, .int o_now_box_reach, x_o_now_box_cells, x_o_now_box_pulls, x_o_now_box_holeX, x_o_now_box_holeY, x_o_now_box_price])), (q_o_now_crowd, .inr (1, [.int o_now_crowd_viewers, .int o_now_crowd_lookLength, .int o_now_crowd_time, x_o_now_crowd_lookers, .ref q_o_now_crowd_facts])), (q_o_now_crowd_facts, .inl (cy 0, 140, .inl o_now_crowd_facts))] sz) (kQi D res [(q_o, .inr (6, [x_o_setup, .ref q_o_now, x_o_trial, x_o_view, x_o_trialView, x_o_past, x_o_nextPast, x_o_undoable])), (q_o_now, .inr (4, [.ref q_o_now_box, .ref q_o_now_crowd])), (q_o_now_box, .inr (0, [.int o_now_box_width, .int o_now_box_height, .int o_now_box_planes, .int o_now_box_holes, .int o_now_box_reach, x_o_now_box_cells, x_o_now_box_pulls, x_o_now_box_holeX, x_o_now_box_holeY, x_o_now_box_price])), (q_o_now_crowd, .inr (1, [.int o_now_crowd_viewers, .int o_now_crowd_lookLength, .int o_now_crowd_time, x_o_now_crowd_lookers, .ref q_o_now_crowd_facts])), (q_o_now_crowd_facts, .inl (cy 0, 140, .inl o_now_crowd_facts))] (va_A [(q_o, .inr (6, [x_o_setup, .ref q_o_now, x_o_trial, x_o_view, x_o_trialView, x_o_past, x_o_nextPast, x_o_undoable])), (q_o_now, .inr (4, [.ref q_o_now_box, .ref q_o_now_crowd])), (q_o_now_box, .inr (0, [.int o_now_box_width, .int o_now_box_height, .int o_now_box_planes, .int o_now_box_holes, .int o_now_box_reach, x_o_now_box_cells, x_o_now_box_pulls, x_o_now_box_holeX, x_o_now_box_holeY, x_o_now_box_price])), (q_o_now_crowd, .inr (1, [.int o_now_crowd_viewers, .int o_now_crowd_lookLength, .int o_now_crowd_time, x_o_now_crowd_lookers, .ref q_o_now_crowd_facts])), (q_o_now_crowd_facts, .inl (cy 0, 140, .inl o_now_crowd_facts))] sz)) 0 0 (va_A [(q_o, .inr (6, [x_o_setup, .ref q_o_now, x_o_trial, x_o_view, x_o_trialView, x_o_past, x_o_nextPast, x_o_undoable])), (q_o_now, .inr (4, [.ref q_o_now_box, .ref q_o_now_crowd])), (q_o_now_box, .inr (0, [.int o_now_box_width, .int o_now_box_height, .int o_now_box_planes, .int o_now_box_holes, .int o_now_box_reach, x_o_now_box_cells, x_o_now_box_pulls, x_o_now_box_holeX, x_o_now_box_holeY, x_o_now_box_price])), (q_o_now_crowd, .inr (1, [.int o_now_crowd_viewers, .int o_now_crowd_lookLength, .int o_now_crowd_time, x_o_now_crowd_lookers, .ref q_o_now_crowd_facts])), (q_o_now_crowd_facts, .inl (cy 0, 140, .inl o_now_crowd_facts))] sz) := by
  refine kMet (y := yX6_state) (av := [.ref q_o, .int p1]) (cc := cX6_state) (maxL := 4) (ret := some .int) (own := RX6) (Qc := fun A9 => (kQi D res [(q_o, .inr (6, [x_o_setup, .ref q_o_now, x_o_trial, x_o_view, x_o_trialView, x_o_past, x_o_nextPast, x_o_undoable])), (q_o_now, .inr (4, [.ref q_o_now_box, .ref q_o_now_crowd])), (q_o_now_box, .inr (0, [.int o_now_box_width, .int o_now_box_height, .int o_now_box_planes, .int o_now_box_holes, .int o_now_box_reach, x_o_now_box_cells, x_o_now_box_pulls, x_o_now_box_holeX, x_o_now_box_holeY, x_o_now_box_price])), (q_o_now_crowd, .inr (1, [.int o_now_crowd_viewers, .int o_now_crowd_lookLength, .int o_now_crowd_time, x_o_now_crowd_lookers, .ref q_o_now_crowd_facts])), (q_o_now_crowd_facts, .inl (cy 0, 140, .inl o_now_crowd_facts))] A9)) (by decide) rfl rfl (Nat.le_of_ble_eq_true rfl) ?_
  intro p e s m args below meth c A hx hb hr hts hown hml hlocks hname hE hP hD hA hsz ls hl
  have hK := hE.1
  have hl : lv_has ls 4 [(0, .ref q_o), (1, .int p1)] := hl
  have hS : va_S A s.heap s.heap [] := va_S.rf
  have f_f19 := hts (.fieldLink RX6 19 "PeepBox" "now" "LPeepBox$Show;") (by decide +kernel)
  have f_inX6 : ∀ w ∈ wsX60, w ∈ wsX6_state := by decide +kernel
  have f_f51 := hts (.fieldLink RX6 51 "PeepBox$Show" "box" "LPeepBox$Box;") (by decide +kernel)
  have f_inX4 : ∀ w ∈ wsX40, w ∈ wsX6_state := by decide +kernel
  have f_f99 := hts (.fieldLink RX6 99 "PeepBox$Show" "crowd" "LPeepBox$Crowd;") (by decide +kernel)
  have f_f111 := hts (.fieldLink RX6 111 "PeepBox$Box" "width" "I") (by decide +kernel)
  have f_inX0 : ∀ w ∈ wsX00, w ∈ wsX6_state := by decide +kernel
  have f_f114 := hts (.fieldLink RX6 114 "PeepBox$Box" "height" "I") (by decide +kernel)
  have f_f117 := hts (.fieldLink RX6 117 "PeepBox$Box" "planes" "I") (by decide +kernel)
  have f_f120 := hts (.fieldLink RX6 120 "PeepBox$Box" "holes" "I") (by decide +kernel)
  have f_f123 := hts (.fieldLink RX6 123 "PeepBox$Box" "reach" "I") (by decide +kernel)
  have f_f126 := hts (.fieldLink RX6 126 "PeepBox$Crowd" "lookLength" "I") (by decide +kernel)
  have f_inX1 : ∀ w ∈ wsX10, w ∈ wsX6_state := by decide +kernel
  have f_f129 := hts (.fieldLink RX6 129 "PeepBox$Crowd" "time" "I") (by decide +kernel)
  have f_f103 := hts (.fieldLink RX6 103 "PeepBox$Crowd" "viewers" "I") (by decide +kernel)
  obtain ⟨QQ, hQQ⟩ : ∃ Q9, Q9 = MQ below (kQi D res [(q_o, .inr (6, [x_o_setup, .ref q_o_now, x_o_trial, x_o_view, x_o_trialView, x_o_past, x_o_nextPast, x_o_undoable])), (q_o_now, .inr (4, [.ref q_o_now_box, .ref q_o_now_crowd])), (q_o_now_box, .inr (0, [.int o_now_box_width, .int o_now_box_height, .int o_now_box_planes, .int o_now_box_holes, .int o_now_box_reach, x_o_now_box_cells, x_o_now_box_pulls, x_o_now_box_holeX, x_o_now_box_holeY, x_o_now_box_price])), (q_o_now_crowd, .inr (1, [.int o_now_crowd_viewers, .int o_now_crowd_lookLength, .int o_now_crowd_time, x_o_now_crowd_lookers, .ref q_o_now_crowd_facts])), (q_o_now_crowd_facts, .inl (cy 0, 140, .inl o_now_crowd_facts))] A) args s 0 0 A := ⟨_, rfl⟩
  rw [← hQQ]
  have main : ∀ (H : Heap) (locs : List Loc) (ls : Array Slot), va_P D vwCl [(q_o, .inr (6, [x_o_setup, .ref q_o_now, x_o_trial, x_o_view, x_o_trialView, x_o_past, x_o_nextPast, x_o_undoable])), (q_o_now, .inr (4, [.ref q_o_now_box, .ref q_o_now_crowd])), (q_o_now_box, .inr (0, [.int o_now_box_width, .int o_now_box_height, .int o_now_box_planes, .int o_now_box_holes, .int o_now_box_reach, x_o_now_box_cells, x_o_now_box_pulls, x_o_now_box_holeX, x_o_now_box_holeY, x_o_now_box_price])), (q_o_now_crowd, .inr (1, [.int o_now_crowd_viewers, .int o_now_crowd_lookLength, .int o_now_crowd_time, x_o_now_crowd_lookers, .ref q_o_now_crowd_facts])), (q_o_now_crowd_facts, .inl (cy 0, 140, .inl o_now_crowd_facts))] H → va_D A [(q_o, .inr (6, [x_o_setup, .ref q_o_now, x_o_trial, x_o_view, x_o_trialView, x_o_past, x_o_nextPast, x_o_undoable])), (q_o_now, .inr (4, [.ref q_o_now_box, .ref q_o_now_crowd])), (q_o_now_box, .inr (0, [.int o_now_box_width, .int o_now_box_height, .int o_now_box_planes, .int o_now_box_holes, .int o_now_box_reach, x_o_now_box_cells, x_o_now_box_pulls, x_o_now_box_holeX, x_o_now_box_holeY, x_o_now_box_price])), (q_o_now_crowd, .inr (1, [.int o_now_crowd_viewers, .int o_now_crowd_lookLength, .int o_now_crowd_time, x_o_now_crowd_lookers, .ref q_o_now_crowd_facts])), (q_o_now_crowd_facts, .inl (cy 0, 140, .inl o_now_crowd_facts))] → va_S A s.heap H locs → lv_has ls 4 [(0, .ref q_o), (1, .int p1)] → W p l e ({ frames := 2, cells := 0, slots := 0, locals := 45 } : Room) s m args below meth c H locs 0 0 QQ (F0 m 0 ls []) := by
    intro H locs ls hP hD hS hl
    unfold X6_state at hF
    refine lv_aload_n hx hb dX6_state_0 rfl (lv_at hl 0 rfl) ?_
    refine va_get (D := D) (ci := 6) (v := .ref q_o_now) (C := RX6) (T := TX6) (N := 8) hx hb hts f_inX6 hown hK hP 0 rfl rfl 1 (by decide) f_f19 (fun _ h9 => h9) rfl dX6_state_1 ?_
    refine va_get (D := D) (ci := 4) (v := .ref q_o_now_box) (C := RX4) (T := TX4) (N := 2) hx hb hts f_inX4 hown hK hP 1 rfl rfl 0 (by decide) f_f51 (fun _ h9 => h9) rfl dX6_state_4 ?_
    refine lv_astore_n (lv' := [(2, .ref q_o_now_box), (0, .ref q_o), (1, .int p1)]) hx hb dX6_state_7 rfl hl (by decide) rfl (fun ls hl => ?_)
    refine lv_aload_n hx hb dX6_state_8 rfl (lv_at hl 1 rfl) ?_
    refine va_get (D := D) (ci := 6) (v := .ref q_o_now) (C := RX6) (T := TX6) (N := 8) hx hb hts f_inX6 hown hK hP 0 rfl rfl 1 (by decide) f_f19 (fun _ h9 => h9) rfl dX6_state_9 ?_
    refine va_get (D := D) (ci := 4) (v := .ref q_o_now_crowd) (C := RX4) (T := TX4) (N := 2) hx hb hts f_inX4 hown hK hP 1 rfl rfl 1 (by decide) f_f99 (fun _ h9 => h9) rfl dX6_state_12 ?_
    refine lv_astore_n (lv' := [(3, .ref q_o_now_crowd), (2, .ref q_o_now_box), (0, .ref q_o), (1, .int p1)]) hx hb dX6_state_15 rfl hl (by decide) rfl (fun ls hl => ?_)
    refine lv_iload_n hx hb dX6_state_16 rfl (lv_at hl 3 rfl) ?_
    by_cases c1 : p1 = 0
    · have hF := if_p hF c1
      refine lv_tableIn (off := 71) (tgt := 88) hx hb dX6_state_17 (by rw [c1]; decide) (by rw [c1]; decide) (by rw [c1]; rfl) (by decide) ?_
      refine lv_aload_n hx hb dX6_state_88 rfl (lv_at hl 1 rfl) ?_
      refine va_get (D := D) (ci := 0) (v := .int o_now_box_width) (C := RX0) (T := TX0) (N := 10) hx hb hts f_inX0 hown hK hP 2 rfl rfl 0 (by decide) f_f111 (fun _ h9 => h9) rfl dX6_state_89 ?_
      obtain rfl := si_o hF
      rw [hQQ]
      exact kr_i hx hb hr hlocks hP hD hS dX6_state_92
    have hF := if_n hF c1
    by_cases c2 : p1 = 1
    · have hF := if_p hF c2
      refine lv_tableIn (off := 76) (tgt := 93) hx hb dX6_state_17 (by rw [c2]; decide) (by rw [c2]; decide) (by rw [c2]; rfl) (by decide) ?_
      refine lv_aload_n hx hb dX6_state_93 rfl (lv_at hl 1 rfl) ?_
      refine va_get (D := D) (ci := 0) (v := .int o_now_box_height) (C := RX0) (T := TX0) (N := 10) hx hb hts f_inX0 hown hK hP 2 rfl rfl 1 (by decide) f_f114 (fun _ h9 => h9) rfl dX6_state_94 ?_
      obtain rfl := si_o hF
      rw [hQQ]
      exact kr_i hx hb hr hlocks hP hD hS dX6_state_97
    have hF := if_n hF c2
    by_cases c3 : p1 = 2
    · have hF := if_p hF c3
      refine lv_tableIn (off := 81) (tgt := 98) hx hb dX6_state_17 (by rw [c3]; decide) (by rw [c3]; decide) (by rw [c3]; rfl) (by decide) ?_
      refine lv_aload_n hx hb dX6_state_98 rfl (lv_at hl 1 rfl) ?_
      refine va_get (D := D) (ci := 0) (v := .int o_now_box_planes) (C := RX0) (T := TX0) (N := 10) hx hb hts f_inX0 hown hK hP 2 rfl rfl 2 (by decide) f_f117 (fun _ h9 => h9) rfl dX6_state_99 ?_
      obtain rfl := si_o hF
      rw [hQQ]
      exact kr_i hx hb hr hlocks hP hD hS dX6_state_102
    have hF := if_n hF c3
    by_cases c4 : p1 = 3
    · have hF := if_p hF c4
      refine lv_tableIn (off := 86) (tgt := 103) hx hb dX6_state_17 (by rw [c4]; decide) (by rw [c4]; decide) (by rw [c4]; rfl) (by decide) ?_
      refine lv_aload_n hx hb dX6_state_103 rfl (lv_at hl 1 rfl) ?_
      refine va_get (D := D) (ci := 0) (v := .int o_now_box_holes) (C := RX0) (T := TX0) (N := 10) hx hb hts f_inX0 hown hK hP 2 rfl rfl 3 (by decide) f_f120 (fun _ h9 => h9) rfl dX6_state_104 ?_
      obtain rfl := si_o hF
      rw [hQQ]
      exact kr_i hx hb hr hlocks hP hD hS dX6_state_107
    have hF := if_n hF c4
    by_cases c5 : p1 = 4
    · have hF := if_p hF c5
      refine lv_tableIn (off := 91) (tgt := 108) hx hb dX6_state_17 (by rw [c5]; decide) (by rw [c5]; decide) (by rw [c5]; rfl) (by decide) ?_
      refine lv_aload_n hx hb dX6_state_108 rfl (lv_at hl 1 rfl) ?_
      refine va_get (D := D) (ci := 0) (v := .int o_now_box_reach) (C := RX0) (T := TX0) (N := 10) hx hb hts f_inX0 hown hK hP 2 rfl rfl 4 (by decide) f_f123 (fun _ h9 => h9) rfl dX6_state_109 ?_
      obtain rfl := si_o hF
      rw [hQQ]
      exact kr_i hx hb hr hlocks hP hD hS dX6_state_112
    have hF := if_n hF c5
    by_cases c6 : p1 = 5
    · have hF := if_p hF c6
      refine lv_tableIn (off := 96) (tgt := 113) hx hb dX6_state_17 (by rw [c6]; decide) (by rw [c6]; decide) (by rw [c6]; rfl) (by decide) ?_
      refine lv_aload_n hx hb dX6_state_113 rfl (lv_at hl 0 rfl) ?_
      refine va_get (D := D) (ci := 1) (v := .int o_now_crowd_lookLength) (C := RX1) (T := TX1) (N := 5) hx hb hts f_inX1 hown hK hP 3 rfl rfl 1 (by decide) f_f126 (fun _ h9 => h9) rfl dX6_state_114 ?_
      obtain rfl := si_o hF
      rw [hQQ]
      exact kr_i hx hb hr hlocks hP hD hS dX6_state_117
    have hF := if_n hF c6
    by_cases c7 : p1 = 6
    · have hF := if_p hF c7
      refine lv_tableIn (off := 101) (tgt := 118) hx hb dX6_state_17 (by rw [c7]; decide) (by rw [c7]; decide) (by rw [c7]; rfl) (by decide) ?_
      refine lv_aload_n hx hb dX6_state_118 rfl (lv_at hl 0 rfl) ?_
      refine va_get (D := D) (ci := 1) (v := .int o_now_crowd_time) (C := RX1) (T := TX1) (N := 5) hx hb hts f_inX1 hown hK hP 3 rfl rfl 2 (by decide) f_f129 (fun _ h9 => h9) rfl dX6_state_119 ?_
      obtain rfl := si_o hF
      rw [hQQ]
      exact kr_i hx hb hr hlocks hP hD hS dX6_state_122
    have hF := if_n hF c7
    by_cases c8 : p1 = 7
    · have hF := if_p hF c8
      refine lv_tableIn (off := 106) (tgt := 123) hx hb dX6_state_17 (by rw [c8]; decide) (by rw [c8]; decide) (by rw [c8]; rfl) (by decide) ?_
      refine lv_aload_n hx hb dX6_state_123 rfl (lv_at hl 0 rfl) ?_
      refine va_get (D := D) (ci := 1) (v := .int o_now_crowd_viewers) (C := RX1) (T := TX1) (N := 5) hx hb hts f_inX1 hown hK hP 3 rfl rfl 0 (by decide) f_f103 (fun _ h9 => h9) rfl dX6_state_124 ?_
      obtain rfl := si_o hF
      rw [hQQ]
      exact kr_i hx hb hr hlocks hP hD hS dX6_state_127
    have hF := if_n hF c8
    by_cases c9 : p1 = 8
    · have hF := if_p hF c9
      refine lv_tableIn (off := 111) (tgt := 128) hx hb dX6_state_17 (by rw [c9]; decide) (by rw [c9]; decide) (by rw [c9]; rfl) (by decide) ?_
      refine lv_aload_n hx hb dX6_state_128 rfl (lv_at hl 0 rfl) ?_
      refine lv_iconst (v := 0) hx hb dX6_state_129 (by decide) ?_
      obtain ⟨r10, h11, hF⟩ := bn1_o hF
      refine kd_i [(q_o, .inr (6, [x_o_setup, .ref q_o_now, x_o_trial, x_o_view, x_o_trialView, x_o_past, x_o_nextPast, x_o_undoable])), (q_o_now, .inr (4, [.ref q_o_now_box, .ref q_o_now_crowd])), (q_o_now_box, .inr (0, [.int o_now_box_width, .int o_now_box_height, .int o_now_box_planes, .int o_now_box_holes, .int o_now_box_reach, x_o_now_box_cells, x_o_now_box_pulls, x_o_now_box_holeX, x_o_now_box_holeY, x_o_now_box_price])), (q_o_now_crowd, .inr (1, [.int o_now_crowd_viewers, .int o_now_crowd_lookLength, .int o_now_crowd_time, x_o_now_crowd_lookers, .ref q_o_now_crowd_facts])), (q_o_now_crowd_facts, .inl (cy 0, 140, .inl o_now_crowd_facts))] (va_runV (As := [.int (0 : Int32)]) (rest := []) ⟨hx, hb, hml, hown, hts⟩ (c_X1_count q_o_now_crowd q_o_now_crowd_facts H.size (.int o_now_crowd_lookLength) (.int o_now_crowd_time) x_o_now_crowd_lookers o_now_crowd_viewers o_now_crowd_facts (0 : Int32) _ h11) (cwV 1 hts gX6_state_X1_count rfl rfl rfl kd_X1_count ⟨Nat.le_of_ble_eq_true rfl, Nat.le_of_ble_eq_true rfl⟩) ⟨kP_blind (EN_ok D cy) D _ _ _, va_recv hK hP (ci := 1) (q0 := 3) rfl rfl, kStart (EN_ok D cy) hE hP hD hS hA [3, 4] rfl rfl _⟩ rfl rfl hl.1 rfl (lv_room (Nat.le_of_ble_eq_true rfl)) dX6_state_130 ⟨Nat.zero_le _, Nat.zero_le _⟩) hP hD hS hA [3, 4] [0, 1, 2] rfl rfl rfl 5 rfl (by decide +kernel) (fun H locs hP hD hS => ?_)
      obtain rfl := si_o hF
      rw [hQQ]
      exact kr_i hx hb hr hlocks hP hD hS dX6_state_133
    have hF := if_n hF c9
    by_cases c12 : p1 = 9
    · have hF := if_p hF c12
      refine lv_tableIn (off := 117) (tgt := 134) hx hb dX6_state_17 (by rw [c12]; decide) (by rw [c12]; decide) (by rw [c12]; rfl) (by decide) ?_
      refine lv_aload_n hx hb dX6_state_134 rfl (lv_at hl 0 rfl) ?_
      refine lv_iconst (v := 1) hx hb dX6_state_135 (by decide) ?_
      obtain ⟨r13, h14, hF⟩ := bn1_o hF
      refine kd_i [(q_o, .inr (6, [x_o_setup, .ref q_o_now, x_o_trial, x_o_view, x_o_trialView, x_o_past, x_o_nextPast, x_o_undoable])), (q_o_now, .inr (4, [.ref q_o_now_box, .ref q_o_now_crowd])), (q_o_now_box, .inr (0, [.int o_now_box_width, .int o_now_box_height, .int o_now_box_planes, .int o_now_box_holes, .int o_now_box_reach, x_o_now_box_cells, x_o_now_box_pulls, x_o_now_box_holeX, x_o_now_box_holeY, x_o_now_box_price])), (q_o_now_crowd, .inr (1, [.int o_now_crowd_viewers, .int o_now_crowd_lookLength, .int o_now_crowd_time, x_o_now_crowd_lookers, .ref q_o_now_crowd_facts])), (q_o_now_crowd_facts, .inl (cy 0, 140, .inl o_now_crowd_facts))] (va_runV (As := [.int (1 : Int32)]) (rest := []) ⟨hx, hb, hml, hown, hts⟩ (c_X1_count q_o_now_crowd q_o_now_crowd_facts H.size (.int o_now_crowd_lookLength) (.int o_now_crowd_time) x_o_now_crowd_lookers o_now_crowd_viewers o_now_crowd_facts (1 : Int32) _ h14) (cwV 1 hts gX6_state_X1_count rfl rfl rfl kd_X1_count ⟨Nat.le_of_ble_eq_true rfl, Nat.le_of_ble_eq_true rfl⟩) ⟨kP_blind (EN_ok D cy) D _ _ _, va_recv hK hP (ci := 1) (q0 := 3) rfl rfl, kStart (EN_ok D cy) hE hP hD hS hA [3, 4] rfl rfl _⟩ rfl rfl hl.1 rfl (lv_room (Nat.le_of_ble_eq_true rfl)) dX6_state_136 ⟨Nat.zero_le _, Nat.zero_le _⟩) hP hD hS hA [3, 4] [0, 1, 2] rfl rfl rfl 5 rfl (by decide +kernel) (fun H locs hP hD hS => ?_)
      obtain rfl := si_o hF
      rw [hQQ]
      exact kr_i hx hb hr hlocks hP hD hS dX6_state_139
    have hF := if_n hF c12
    by_cases c15 : p1 = 10
    · have hF := if_p hF c15
      refine lv_tableIn (off := 123) (tgt := 140) hx hb dX6_state_17 (by rw [c15]; decide) (by rw [c15]; decide) (by rw [c15]; rfl) (by decide) ?_
      refine lv_aload_n hx hb dX6_state_140 rfl (lv_at hl 0 rfl) ?_
      refine lv_iconst (v := 2) hx hb dX6_state_141 (by decide) ?_
      obtain ⟨r16, h17, hF⟩ := bn1_o hF
      refine kd_i [(q_o, .inr (6, [x_o_setup, .ref q_o_now, x_o_trial, x_o_view, x_o_trialView, x_o_past, x_o_nextPast, x_o_undoable])), (q_o_now, .inr (4, [.ref q_o_now_box, .ref q_o_now_crowd])), (q_o_now_box, .inr (0, [.int o_now_box_width, .int o_now_box_height, .int o_now_box_planes, .int o_now_box_holes, .int o_now_box_reach, x_o_now_box_cells, x_o_now_box_pulls, x_o_now_box_holeX, x_o_now_box_holeY, x_o_now_box_price])), (q_o_now_crowd, .inr (1, [.int o_now_crowd_viewers, .int o_now_crowd_lookLength, .int o_now_crowd_time, x_o_now_crowd_lookers, .ref q_o_now_crowd_facts])), (q_o_now_crowd_facts, .inl (cy 0, 140, .inl o_now_crowd_facts))] (va_runV (As := [.int (2 : Int32)]) (rest := []) ⟨hx, hb, hml, hown, hts⟩ (c_X1_count q_o_now_crowd q_o_now_crowd_facts H.size (.int o_now_crowd_lookLength) (.int o_now_crowd_time) x_o_now_crowd_lookers o_now_crowd_viewers o_now_crowd_facts (2 : Int32) _ h17) (cwV 1 hts gX6_state_X1_count rfl rfl rfl kd_X1_count ⟨Nat.le_of_ble_eq_true rfl, Nat.le_of_ble_eq_true rfl⟩) ⟨kP_blind (EN_ok D cy) D _ _ _, va_recv hK hP (ci := 1) (q0 := 3) rfl rfl, kStart (EN_ok D cy) hE hP hD hS hA [3, 4] rfl rfl _⟩ rfl rfl hl.1 rfl (lv_room (Nat.le_of_ble_eq_true rfl)) dX6_state_142 ⟨Nat.zero_le _, Nat.zero_le _⟩) hP hD hS hA [3, 4] [0, 1, 2] rfl rfl rfl 5 rfl (by decide +kernel) (fun H locs hP hD hS => ?_)
      obtain rfl := si_o hF
      rw [hQQ]
      exact kr_i hx hb hr hlocks hP hD hS dX6_state_145
    have hF := if_n hF c15
    by_cases c18 : p1 = 11
    · have hF := if_p hF c18
      refine lv_tableIn (off := 129) (tgt := 146) hx hb dX6_state_17 (by rw [c18]; decide) (by rw [c18]; decide) (by rw [c18]; rfl) (by decide) ?_
      refine lv_aload_n hx hb dX6_state_146 rfl (lv_at hl 0 rfl) ?_
      refine lv_iconst (v := 3) hx hb dX6_state_147 (by decide) ?_
      obtain ⟨r19, h20, hF⟩ := bn1_o hF
      refine kd_i [(q_o, .inr (6, [x_o_setup, .ref q_o_now, x_o_trial, x_o_view, x_o_trialView, x_o_past, x_o_nextPast, x_o_undoable])), (q_o_now, .inr (4, [.ref q_o_now_box, .ref q_o_now_crowd])), (q_o_now_box, .inr (0, [.int o_now_box_width, .int o_now_box_height, .int o_now_box_planes, .int o_now_box_holes, .int o_now_box_reach, x_o_now_box_cells, x_o_now_box_pulls, x_o_now_box_holeX, x_o_now_box_holeY, x_o_now_box_price])), (q_o_now_crowd, .inr (1, [.int o_now_crowd_viewers, .int o_now_crowd_lookLength, .int o_now_crowd_time, x_o_now_crowd_lookers, .ref q_o_now_crowd_facts])), (q_o_now_crowd_facts, .inl (cy 0, 140, .inl o_now_crowd_facts))] (va_runV (As := [.int (3 : Int32)]) (rest := []) ⟨hx, hb, hml, hown, hts⟩ (c_X1_count q_o_now_crowd q_o_now_crowd_facts H.size (.int o_now_crowd_lookLength) (.int o_now_crowd_time) x_o_now_crowd_lookers o_now_crowd_viewers o_now_crowd_facts (3 : Int32) _ h20) (cwV 1 hts gX6_state_X1_count rfl rfl rfl kd_X1_count ⟨Nat.le_of_ble_eq_true rfl, Nat.le_of_ble_eq_true rfl⟩) ⟨kP_blind (EN_ok D cy) D _ _ _, va_recv hK hP (ci := 1) (q0 := 3) rfl rfl, kStart (EN_ok D cy) hE hP hD hS hA [3, 4] rfl rfl _⟩ rfl rfl hl.1 rfl (lv_room (Nat.le_of_ble_eq_true rfl)) dX6_state_148 ⟨Nat.zero_le _, Nat.zero_le _⟩) hP hD hS hA [3, 4] [0, 1, 2] rfl rfl rfl 5 rfl (by decide +kernel) (fun H locs hP hD hS => ?_)
      obtain rfl := si_o hF
      rw [hQQ]
      exact kr_i hx hb hr hlocks hP hD hS dX6_state_151
    have hF := if_n hF c18
    by_cases c21 : p1 = 12
    · have hF := if_p hF c21
      refine lv_tableIn (off := 135) (tgt := 152) hx hb dX6_state_17 (by rw [c21]; decide) (by rw [c21]; decide) (by rw [c21]; rfl) (by decide) ?_
      refine lv_aload_n hx hb dX6_state_152 rfl (lv_at hl 0 rfl) ?_
      obtain ⟨r22, h23, hF⟩ := bn1_o hF
      refine kd_i [(q_o, .inr (6, [x_o_setup, .ref q_o_now, x_o_trial, x_o_view, x_o_trialView, x_o_past, x_o_nextPast, x_o_undoable])), (q_o_now, .inr (4, [.ref q_o_now_box, .ref q_o_now_crowd])), (q_o_now_box, .inr (0, [.int o_now_box_width, .int o_now_box_height, .int o_now_box_planes, .int o_now_box_holes, .int o_now_box_reach, x_o_now_box_cells, x_o_now_box_pulls, x_o_now_box_holeX, x_o_now_box_holeY, x_o_now_box_price])), (q_o_now_crowd, .inr (1, [.int o_now_crowd_viewers, .int o_now_crowd_lookLength, .int o_now_crowd_time, x_o_now_crowd_lookers, .ref q_o_now_crowd_facts])), (q_o_now_crowd_facts, .inl (cy 0, 140, .inl o_now_crowd_facts))] (va_runV (As := []) (rest := []) ⟨hx, hb, hml, hown, hts⟩ (c_X1_allPaid q_o_now_crowd q_o_now_crowd_facts H.size (.int o_now_crowd_lookLength) (.int o_now_crowd_time) x_o_now_crowd_lookers o_now_crowd_viewers o_now_crowd_facts _ h23) (cwV 0 hts gX6_state_X1_allPaid rfl rfl rfl kd_X1_allPaid ⟨Nat.le_of_ble_eq_true rfl, Nat.le_of_ble_eq_true rfl⟩) ⟨kP_blind (EN_ok D cy) D _ _ _, va_recv hK hP (ci := 1) (q0 := 3) rfl rfl, kStart (EN_ok D cy) hE hP hD hS hA [3, 4] rfl rfl _⟩ rfl rfl hl.1 rfl (lv_room (Nat.le_of_ble_eq_true rfl)) dX6_state_153 ⟨Nat.zero_le _, Nat.zero_le _⟩) hP hD hS hA [3, 4] [0, 1, 2] rfl rfl rfl 5 rfl (by decide +kernel) (fun H locs hP hD hS => ?_)
      obtain rfl := si_o hF
      rw [hQQ]
      exact kr_i hx hb hr hlocks hP hD hS dX6_state_156
    have hF := if_n hF c21
    by_cases c24 : p1 = 13
    · have hF := if_p hF c24
      refine lv_tableIn (off := 140) (tgt := 157) hx hb dX6_state_17 (by rw [c24]; decide) (by rw [c24]; decide) (by rw [c24]; rfl) (by decide) ?_
      refine lv_aload_n hx hb dX6_state_157 rfl (lv_at hl 1 rfl) ?_
      refine va_get (D := D) (ci := 0) (v := .int o_now_box_holes) (C := RX0) (T := TX0) (N := 10) hx hb hts f_inX0 hown hK hP 2 rfl rfl 3 (by decide) f_f120 (fun _ h9 => h9) rfl dX6_state_158 ?_
      refine lv_aload_n hx hb dX6_state_161 rfl (lv_at hl 0 rfl) ?_
      refine lv_iconst (v := 1) hx hb dX6_state_162 (by decide) ?_
      obtain ⟨r25, h26, hF⟩ := bn1_o hF
      refine kd_i [(q_o, .inr (6, [x_o_setup, .ref q_o_now, x_o_trial, x_o_view, x_o_trialView, x_o_past, x_o_nextPast, x_o_undoable])), (q_o_now, .inr (4, [.ref q_o_now_box, .ref q_o_now_crowd])), (q_o_now_box, .inr (0, [.int o_now_box_width, .int o_now_box_height, .int o_now_box_planes, .int o_now_box_holes, .int o_now_box_reach, x_o_now_box_cells, x_o_now_box_pulls, x_o_now_box_holeX, x_o_now_box_holeY, x_o_now_box_price])), (q_o_now_crowd, .inr (1, [.int o_now_crowd_viewers, .int o_now_crowd_lookLength, .int o_now_crowd_time, x_o_now_crowd_lookers, .ref q_o_now_crowd_facts])), (q_o_now_crowd_facts, .inl (cy 0, 140, .inl o_now_crowd_facts))] (va_runV (As := [.int (1 : Int32)]) (rest := [.int o_now_box_holes]) ⟨hx, hb, hml, hown, hts⟩ (c_X1_count q_o_now_crowd q_o_now_crowd_facts H.size (.int o_now_crowd_lookLength) (.int o_now_crowd_time) x_o_now_crowd_lookers o_now_crowd_viewers o_now_crowd_facts (1 : Int32) _ h26) (cwV 1 hts gX6_state_X1_count rfl rfl rfl kd_X1_count ⟨Nat.le_of_ble_eq_true rfl, Nat.le_of_ble_eq_true rfl⟩) ⟨kP_blind (EN_ok D cy) D _ _ _, va_recv hK hP (ci := 1) (q0 := 3) rfl rfl, kStart (EN_ok D cy) hE hP hD hS hA [3, 4] rfl rfl _⟩ rfl rfl hl.1 rfl (lv_room (Nat.le_of_ble_eq_true rfl)) dX6_state_163 ⟨Nat.zero_le _, Nat.zero_le _⟩) hP hD hS hA [3, 4] [0, 1, 2] rfl rfl rfl 5 rfl (by decide +kernel) (fun H locs hP hD hS => ?_)
      refine lv_isub hx hb dX6_state_166 ?_
      obtain rfl := si_o hF
      rw [hQQ]
      exact kr_i hx hb hr hlocks hP hD hS dX6_state_167
    have hF := if_n hF c24
    have tc1 : p1.toInt ≠ 0 := fun h9 => c1 (Int32.toInt_inj.mp (h9.trans (by decide)))
    have tc2 : p1.toInt ≠ 1 := fun h9 => c2 (Int32.toInt_inj.mp (h9.trans (by decide)))
    have tc3 : p1.toInt ≠ 2 := fun h9 => c3 (Int32.toInt_inj.mp (h9.trans (by decide)))
    have tc4 : p1.toInt ≠ 3 := fun h9 => c4 (Int32.toInt_inj.mp (h9.trans (by decide)))
    have tc5 : p1.toInt ≠ 4 := fun h9 => c5 (Int32.toInt_inj.mp (h9.trans (by decide)))
    have tc6 : p1.toInt ≠ 5 := fun h9 => c6 (Int32.toInt_inj.mp (h9.trans (by decide)))
    have tc7 : p1.toInt ≠ 6 := fun h9 => c7 (Int32.toInt_inj.mp (h9.trans (by decide)))
    have tc8 : p1.toInt ≠ 7 := fun h9 => c8 (Int32.toInt_inj.mp (h9.trans (by decide)))
    have tc9 : p1.toInt ≠ 8 := fun h9 => c9 (Int32.toInt_inj.mp (h9.trans (by decide)))
    have tc12 : p1.toInt ≠ 9 := fun h9 => c12 (Int32.toInt_inj.mp (h9.trans (by decide)))
    have tc15 : p1.toInt ≠ 10 := fun h9 => c15 (Int32.toInt_inj.mp (h9.trans (by decide)))
    have tc18 : p1.toInt ≠ 11 := fun h9 => c18 (Int32.toInt_inj.mp (h9.trans (by decide)))
    have tc21 : p1.toInt ≠ 12 := fun h9 => c21 (Int32.toInt_inj.mp (h9.trans (by decide)))
    have tc24 : p1.toInt ≠ 13 := fun h9 => c24 (Int32.toInt_inj.mp (h9.trans (by decide)))
    refine lv_tableOut (tgt := 168) hx hb dX6_state_17 (by omega) (by decide) ?_
    cases hF
  exact main s.heap [] ls hP hD hS hl
set_option maxHeartbeats 4000000 in
set_option maxRecDepth 100000 in
theorem t_X6_state {l : Launch} {D : va_G} {cy : Nat → ClassId} (hst : l.stackTraces = false) (q_o q_o_now q_o_now_box q_o_now_crowd q_o_now_crowd_facts : Nat) (sz : Nat) (x_o_setup x_o_trial x_o_view x_o_trialView x_o_past x_o_nextPast x_o_undoable x_o_now_box_cells x_o_now_box_pulls x_o_now_box_holeX x_o_now_box_holeY x_o_now_box_price x_o_now_crowd_lookers : Value) (o_now_box_width : Int32) (o_now_box_height : Int32) (o_now_box_planes : Int32) (o_now_box_holes : Int32) (o_now_box_reach : Int32) (o_now_crowd_viewers : Int32) (o_now_crowd_lookLength : Int32) (o_now_crowd_time : Int32) (o_now_crowd_facts : Nat → Int32) (p1 : Int32) (k9 : Nat) (hF : X6_state o_now_box_width o_now_box_height o_now_box_planes o_now_box_holes o_now_box_reach o_now_crowd_viewers o_now_crowd_lookLength o_now_crowd_time o_now_crowd_facts p1 = some (.inl k9)) : vx_Met l yX6_state wsX6_state ({ frames := 6, cells := 1, slots := 6, locals := 90 } : Room) (kP (EN D cy) D [.ref q_o, .int p1] [(q_o, .inr (6, [x_o_setup, .ref q_o_now, x_o_trial, x_o_view, x_o_trialView, x_o_past, x_o_nextPast, x_o_undoable])), (q_o_now, .inr (4, [.ref q_o_now_box, .ref q_o_now_crowd])), (q_o_now_box, .inr (0, [.int o_now_box_width, .int o_now_box_height, .int o_now_box_planes, .int o_now_box_holes, .int o_now_box_reach, x_o_now_box_cells, x_o_now_box_pulls, x_o_now_box_holeX, x_o_now_box_holeY, x_o_now_box_price])), (q_o_now_crowd, .inr (1, [.int o_now_crowd_viewers, .int o_now_crowd_lookLength, .int o_now_crowd_time, x_o_now_crowd_lookers, .ref q_o_now_crowd_facts])), (q_o_now_crowd_facts, .inl (cy 0, 140, .inl o_now_crowd_facts))] sz) (kTi (va_A [(q_o, .inr (6, [x_o_setup, .ref q_o_now, x_o_trial, x_o_view, x_o_trialView, x_o_past, x_o_nextPast, x_o_undoable])), (q_o_now, .inr (4, [.ref q_o_now_box, .ref q_o_now_crowd])), (q_o_now_box, .inr (0, [.int o_now_box_width, .int o_now_box_height, .int o_now_box_planes, .int o_now_box_holes, .int o_now_box_reach, x_o_now_box_cells, x_o_now_box_pulls, x_o_now_box_holeX, x_o_now_box_holeY, x_o_now_box_price])), (q_o_now_crowd, .inr (1, [.int o_now_crowd_viewers, .int o_now_crowd_lookLength, .int o_now_crowd_time, x_o_now_crowd_lookers, .ref q_o_now_crowd_facts])), (q_o_now_crowd_facts, .inl (cy 0, 140, .inl o_now_crowd_facts))] sz)) (kXC D k9 [(q_o, .inr (6, [x_o_setup, .ref q_o_now, x_o_trial, x_o_view, x_o_trialView, x_o_past, x_o_nextPast, x_o_undoable])), (q_o_now, .inr (4, [.ref q_o_now_box, .ref q_o_now_crowd])), (q_o_now_box, .inr (0, [.int o_now_box_width, .int o_now_box_height, .int o_now_box_planes, .int o_now_box_holes, .int o_now_box_reach, x_o_now_box_cells, x_o_now_box_pulls, x_o_now_box_holeX, x_o_now_box_holeY, x_o_now_box_price])), (q_o_now_crowd, .inr (1, [.int o_now_crowd_viewers, .int o_now_crowd_lookLength, .int o_now_crowd_time, x_o_now_crowd_lookers, .ref q_o_now_crowd_facts])), (q_o_now_crowd_facts, .inl (cy 0, 140, .inl o_now_crowd_facts))] (va_A [(q_o, .inr (6, [x_o_setup, .ref q_o_now, x_o_trial, x_o_view, x_o_trialView, x_o_past, x_o_nextPast, x_o_undoable])), (q_o_now, .inr (4, [.ref q_o_now_box, .ref q_o_now_crowd])), (q_o_now_box, .inr (0, [.int o_now_box_width, .int o_now_box_height, .int o_now_box_planes, .int o_now_box_holes, .int o_now_box_reach, x_o_now_box_cells, x_o_now_box_pulls, x_o_now_box_holeX, x_o_now_box_holeY, x_o_now_box_price])), (q_o_now_crowd, .inr (1, [.int o_now_crowd_viewers, .int o_now_crowd_lookLength, .int o_now_crowd_time, x_o_now_crowd_lookers, .ref q_o_now_crowd_facts])), (q_o_now_crowd_facts, .inl (cy 0, 140, .inl o_now_crowd_facts))] sz)) 1 6 (va_A [(q_o, .inr (6, [x_o_setup, .ref q_o_now, x_o_trial, x_o_view, x_o_trialView, x_o_past, x_o_nextPast, x_o_undoable])), (q_o_now, .inr (4, [.ref q_o_now_box, .ref q_o_now_crowd])), (q_o_now_box, .inr (0, [.int o_now_box_width, .int o_now_box_height, .int o_now_box_planes, .int o_now_box_holes, .int o_now_box_reach, x_o_now_box_cells, x_o_now_box_pulls, x_o_now_box_holeX, x_o_now_box_holeY, x_o_now_box_price])), (q_o_now_crowd, .inr (1, [.int o_now_crowd_viewers, .int o_now_crowd_lookLength, .int o_now_crowd_time, x_o_now_crowd_lookers, .ref q_o_now_crowd_facts])), (q_o_now_crowd_facts, .inl (cy 0, 140, .inl o_now_crowd_facts))] sz) := by
  refine kMetT (y := yX6_state) (av := [.ref q_o, .int p1]) (cc := cX6_state) (maxL := 4) (ret := some .int) (own := RX6) (Qc := fun A9 => (kTi A9)) (X := fun A9 => (kXC D k9 [(q_o, .inr (6, [x_o_setup, .ref q_o_now, x_o_trial, x_o_view, x_o_trialView, x_o_past, x_o_nextPast, x_o_undoable])), (q_o_now, .inr (4, [.ref q_o_now_box, .ref q_o_now_crowd])), (q_o_now_box, .inr (0, [.int o_now_box_width, .int o_now_box_height, .int o_now_box_planes, .int o_now_box_holes, .int o_now_box_reach, x_o_now_box_cells, x_o_now_box_pulls, x_o_now_box_holeX, x_o_now_box_holeY, x_o_now_box_price])), (q_o_now_crowd, .inr (1, [.int o_now_crowd_viewers, .int o_now_crowd_lookLength, .int o_now_crowd_time, x_o_now_crowd_lookers, .ref q_o_now_crowd_facts])), (q_o_now_crowd_facts, .inl (cy 0, 140, .inl o_now_crowd_facts))] A9)) (by decide) rfl rfl (Nat.le_of_ble_eq_true rfl) ?_
  intro p e s m args below meth c A hx hb hr hts hown hml hlocks hxt hE hP hD hA hsz ls hl
  have hK := hE.1
  have hl : lv_has ls 4 [(0, .ref q_o), (1, .int p1)] := hl
  have hS : va_S A s.heap s.heap [] := va_S.rf
  have f_f19 := hts (.fieldLink RX6 19 "PeepBox" "now" "LPeepBox$Show;") (by decide +kernel)
  have f_inX6 : ∀ w ∈ wsX60, w ∈ wsX6_state := by decide +kernel
  have f_f51 := hts (.fieldLink RX6 51 "PeepBox$Show" "box" "LPeepBox$Box;") (by decide +kernel)
  have f_inX4 : ∀ w ∈ wsX40, w ∈ wsX6_state := by decide +kernel
  have f_f99 := hts (.fieldLink RX6 99 "PeepBox$Show" "crowd" "LPeepBox$Crowd;") (by decide +kernel)
  have f_f111 := hts (.fieldLink RX6 111 "PeepBox$Box" "width" "I") (by decide +kernel)
  have f_inX0 : ∀ w ∈ wsX00, w ∈ wsX6_state := by decide +kernel
  have f_f114 := hts (.fieldLink RX6 114 "PeepBox$Box" "height" "I") (by decide +kernel)
  have f_f117 := hts (.fieldLink RX6 117 "PeepBox$Box" "planes" "I") (by decide +kernel)
  have f_f120 := hts (.fieldLink RX6 120 "PeepBox$Box" "holes" "I") (by decide +kernel)
  have f_f123 := hts (.fieldLink RX6 123 "PeepBox$Box" "reach" "I") (by decide +kernel)
  have f_f126 := hts (.fieldLink RX6 126 "PeepBox$Crowd" "lookLength" "I") (by decide +kernel)
  have f_inX1 : ∀ w ∈ wsX10, w ∈ wsX6_state := by decide +kernel
  have f_f129 := hts (.fieldLink RX6 129 "PeepBox$Crowd" "time" "I") (by decide +kernel)
  have f_f103 := hts (.fieldLink RX6 103 "PeepBox$Crowd" "viewers" "I") (by decide +kernel)
  have f_k76 := hts (.classLink RX6 76 "java/lang/IllegalArgumentException") (by decide +kernel)
  have f_i2 := hts (.initialized "java/lang/IllegalArgumentException") (by decide +kernel)
  have fat_80 := vx_hat (L := vx_atS RX6 80 "java/lang/IllegalArgumentException" ["java/lang/RuntimeException", "java/lang/Exception"]) (B := [.castable "java/lang/IllegalArgumentException" "java/lang/IllegalArgumentException", .declares (Bundle.initS "java/lang/RuntimeException"), .declares (Bundle.initS "java/lang/Exception"), .declares (Bundle.initS "java/lang/Throwable")]) (fun w hw => hts w (List.mem_cons_of_mem _ (List.mem_append_right _ hw))) (by decide +kernel) (vx_c (va_Nw.use rfl (hE.2.2.2.2.2.2.2.1 _ (List.mem_of_getElem? (i := 1) rfl))) (vx_c (va_Nw.use rfl (hE.2.2.2.2.2.2.2.2.2 _ (List.mem_of_getElem? (i := 0) rfl))) (vx_c (va_Nw.use rfl (hE.2.2.2.2.2.2.2.2.2 _ (List.mem_of_getElem? (i := 1) rfl))) (vx_c (va_Nw.use rfl (hE.2.2.2.2.2.2.2.2.2 _ (List.mem_of_getElem? (i := 2) rfl))) vx_n))))
  obtain ⟨QQ, hQQ⟩ : ∃ Q9, Q9 = vx_MQ below (kTi A) (kXC D k9 [(q_o, .inr (6, [x_o_setup, .ref q_o_now, x_o_trial, x_o_view, x_o_trialView, x_o_past, x_o_nextPast, x_o_undoable])), (q_o_now, .inr (4, [.ref q_o_now_box, .ref q_o_now_crowd])), (q_o_now_box, .inr (0, [.int o_now_box_width, .int o_now_box_height, .int o_now_box_planes, .int o_now_box_holes, .int o_now_box_reach, x_o_now_box_cells, x_o_now_box_pulls, x_o_now_box_holeX, x_o_now_box_holeY, x_o_now_box_price])), (q_o_now_crowd, .inr (1, [.int o_now_crowd_viewers, .int o_now_crowd_lookLength, .int o_now_crowd_time, x_o_now_crowd_lookers, .ref q_o_now_crowd_facts])), (q_o_now_crowd_facts, .inl (cy 0, 140, .inl o_now_crowd_facts))] A) args s 1 6 A := ⟨_, rfl⟩
  rw [← hQQ]
  have main : ∀ (H : Heap) (locs : List Loc) (ls : Array Slot), va_P D vwCl [(q_o, .inr (6, [x_o_setup, .ref q_o_now, x_o_trial, x_o_view, x_o_trialView, x_o_past, x_o_nextPast, x_o_undoable])), (q_o_now, .inr (4, [.ref q_o_now_box, .ref q_o_now_crowd])), (q_o_now_box, .inr (0, [.int o_now_box_width, .int o_now_box_height, .int o_now_box_planes, .int o_now_box_holes, .int o_now_box_reach, x_o_now_box_cells, x_o_now_box_pulls, x_o_now_box_holeX, x_o_now_box_holeY, x_o_now_box_price])), (q_o_now_crowd, .inr (1, [.int o_now_crowd_viewers, .int o_now_crowd_lookLength, .int o_now_crowd_time, x_o_now_crowd_lookers, .ref q_o_now_crowd_facts])), (q_o_now_crowd_facts, .inl (cy 0, 140, .inl o_now_crowd_facts))] H → va_D A [(q_o, .inr (6, [x_o_setup, .ref q_o_now, x_o_trial, x_o_view, x_o_trialView, x_o_past, x_o_nextPast, x_o_undoable])), (q_o_now, .inr (4, [.ref q_o_now_box, .ref q_o_now_crowd])), (q_o_now_box, .inr (0, [.int o_now_box_width, .int o_now_box_height, .int o_now_box_planes, .int o_now_box_holes, .int o_now_box_reach, x_o_now_box_cells, x_o_now_box_pulls, x_o_now_box_holeX, x_o_now_box_holeY, x_o_now_box_price])), (q_o_now_crowd, .inr (1, [.int o_now_crowd_viewers, .int o_now_crowd_lookLength, .int o_now_crowd_time, x_o_now_crowd_lookers, .ref q_o_now_crowd_facts])), (q_o_now_crowd_facts, .inl (cy 0, 140, .inl o_now_crowd_facts))] → va_S A s.heap H locs → lv_has ls 4 [(0, .ref q_o), (1, .int p1)] → W p l e ({ frames := 6, cells := 1, slots := 6, locals := 90 } : Room) s m args below meth c H locs 0 0 QQ (F0 m 0 ls []) := by
    intro H locs ls hP hD hS hl
    unfold X6_state at hF
    refine lv_aload_n hx hb dX6_state_0 rfl (lv_at hl 0 rfl) ?_
    refine va_get (D := D) (ci := 6) (v := .ref q_o_now) (C := RX6) (T := TX6) (N := 8) hx hb hts f_inX6 hown hK hP 0 rfl rfl 1 (by decide) f_f19 (fun _ h9 => h9) rfl dX6_state_1 ?_
    refine va_get (D := D) (ci := 4) (v := .ref q_o_now_box) (C := RX4) (T := TX4) (N := 2) hx hb hts f_inX4 hown hK hP 1 rfl rfl 0 (by decide) f_f51 (fun _ h9 => h9) rfl dX6_state_4 ?_
    refine lv_astore_n (lv' := [(2, .ref q_o_now_box), (0, .ref q_o), (1, .int p1)]) hx hb dX6_state_7 rfl hl (by decide) rfl (fun ls hl => ?_)
    refine lv_aload_n hx hb dX6_state_8 rfl (lv_at hl 1 rfl) ?_
    refine va_get (D := D) (ci := 6) (v := .ref q_o_now) (C := RX6) (T := TX6) (N := 8) hx hb hts f_inX6 hown hK hP 0 rfl rfl 1 (by decide) f_f19 (fun _ h9 => h9) rfl dX6_state_9 ?_
    refine va_get (D := D) (ci := 4) (v := .ref q_o_now_crowd) (C := RX4) (T := TX4) (N := 2) hx hb hts f_inX4 hown hK hP 1 rfl rfl 1 (by decide) f_f99 (fun _ h9 => h9) rfl dX6_state_12 ?_
    refine lv_astore_n (lv' := [(3, .ref q_o_now_crowd), (2, .ref q_o_now_box), (0, .ref q_o), (1, .int p1)]) hx hb dX6_state_15 rfl hl (by decide) rfl (fun ls hl => ?_)
    refine lv_iload_n hx hb dX6_state_16 rfl (lv_at hl 3 rfl) ?_
    by_cases c1 : p1 = 0
    · have hF := if_p hF c1
      refine lv_tableIn (off := 71) (tgt := 88) hx hb dX6_state_17 (by rw [c1]; decide) (by rw [c1]; decide) (by rw [c1]; rfl) (by decide) ?_
      refine lv_aload_n hx hb dX6_state_88 rfl (lv_at hl 1 rfl) ?_
      refine va_get (D := D) (ci := 0) (v := .int o_now_box_width) (C := RX0) (T := TX0) (N := 10) hx hb hts f_inX0 hown hK hP 2 rfl rfl 0 (by decide) f_f111 (fun _ h9 => h9) rfl dX6_state_89 ?_
      cases hF
    have hF := if_n hF c1
    by_cases c2 : p1 = 1
    · have hF := if_p hF c2
      refine lv_tableIn (off := 76) (tgt := 93) hx hb dX6_state_17 (by rw [c2]; decide) (by rw [c2]; decide) (by rw [c2]; rfl) (by decide) ?_
      refine lv_aload_n hx hb dX6_state_93 rfl (lv_at hl 1 rfl) ?_
      refine va_get (D := D) (ci := 0) (v := .int o_now_box_height) (C := RX0) (T := TX0) (N := 10) hx hb hts f_inX0 hown hK hP 2 rfl rfl 1 (by decide) f_f114 (fun _ h9 => h9) rfl dX6_state_94 ?_
      cases hF
    have hF := if_n hF c2
    by_cases c3 : p1 = 2
    · have hF := if_p hF c3
      refine lv_tableIn (off := 81) (tgt := 98) hx hb dX6_state_17 (by rw [c3]; decide) (by rw [c3]; decide) (by rw [c3]; rfl) (by decide) ?_
      refine lv_aload_n hx hb dX6_state_98 rfl (lv_at hl 1 rfl) ?_
      refine va_get (D := D) (ci := 0) (v := .int o_now_box_planes) (C := RX0) (T := TX0) (N := 10) hx hb hts f_inX0 hown hK hP 2 rfl rfl 2 (by decide) f_f117 (fun _ h9 => h9) rfl dX6_state_99 ?_
      cases hF
    have hF := if_n hF c3
    by_cases c4 : p1 = 3
    · have hF := if_p hF c4
      refine lv_tableIn (off := 86) (tgt := 103) hx hb dX6_state_17 (by rw [c4]; decide) (by rw [c4]; decide) (by rw [c4]; rfl) (by decide) ?_
      refine lv_aload_n hx hb dX6_state_103 rfl (lv_at hl 1 rfl) ?_
      refine va_get (D := D) (ci := 0) (v := .int o_now_box_holes) (C := RX0) (T := TX0) (N := 10) hx hb hts f_inX0 hown hK hP 2 rfl rfl 3 (by decide) f_f120 (fun _ h9 => h9) rfl dX6_state_104 ?_
      cases hF
    have hF := if_n hF c4
    by_cases c5 : p1 = 4
    · have hF := if_p hF c5
      refine lv_tableIn (off := 91) (tgt := 108) hx hb dX6_state_17 (by rw [c5]; decide) (by rw [c5]; decide) (by rw [c5]; rfl) (by decide) ?_
      refine lv_aload_n hx hb dX6_state_108 rfl (lv_at hl 1 rfl) ?_
      refine va_get (D := D) (ci := 0) (v := .int o_now_box_reach) (C := RX0) (T := TX0) (N := 10) hx hb hts f_inX0 hown hK hP 2 rfl rfl 4 (by decide) f_f123 (fun _ h9 => h9) rfl dX6_state_109 ?_
      cases hF
    have hF := if_n hF c5
    by_cases c6 : p1 = 5
    · have hF := if_p hF c6
      refine lv_tableIn (off := 96) (tgt := 113) hx hb dX6_state_17 (by rw [c6]; decide) (by rw [c6]; decide) (by rw [c6]; rfl) (by decide) ?_
      refine lv_aload_n hx hb dX6_state_113 rfl (lv_at hl 0 rfl) ?_
      refine va_get (D := D) (ci := 1) (v := .int o_now_crowd_lookLength) (C := RX1) (T := TX1) (N := 5) hx hb hts f_inX1 hown hK hP 3 rfl rfl 1 (by decide) f_f126 (fun _ h9 => h9) rfl dX6_state_114 ?_
      cases hF
    have hF := if_n hF c6
    by_cases c7 : p1 = 6
    · have hF := if_p hF c7
      refine lv_tableIn (off := 101) (tgt := 118) hx hb dX6_state_17 (by rw [c7]; decide) (by rw [c7]; decide) (by rw [c7]; rfl) (by decide) ?_
      refine lv_aload_n hx hb dX6_state_118 rfl (lv_at hl 0 rfl) ?_
      refine va_get (D := D) (ci := 1) (v := .int o_now_crowd_time) (C := RX1) (T := TX1) (N := 5) hx hb hts f_inX1 hown hK hP 3 rfl rfl 2 (by decide) f_f129 (fun _ h9 => h9) rfl dX6_state_119 ?_
      cases hF
    have hF := if_n hF c7
    by_cases c8 : p1 = 7
    · have hF := if_p hF c8
      refine lv_tableIn (off := 106) (tgt := 123) hx hb dX6_state_17 (by rw [c8]; decide) (by rw [c8]; decide) (by rw [c8]; rfl) (by decide) ?_
      refine lv_aload_n hx hb dX6_state_123 rfl (lv_at hl 0 rfl) ?_
      refine va_get (D := D) (ci := 1) (v := .int o_now_crowd_viewers) (C := RX1) (T := TX1) (N := 5) hx hb hts f_inX1 hown hK hP 3 rfl rfl 0 (by decide) f_f103 (fun _ h9 => h9) rfl dX6_state_124 ?_
      cases hF
    have hF := if_n hF c8
    by_cases c9 : p1 = 8
    · have hF := if_p hF c9
      refine lv_tableIn (off := 111) (tgt := 128) hx hb dX6_state_17 (by rw [c9]; decide) (by rw [c9]; decide) (by rw [c9]; rfl) (by decide) ?_
      refine lv_aload_n hx hb dX6_state_128 rfl (lv_at hl 0 rfl) ?_
      refine lv_iconst (v := 0) hx hb dX6_state_129 (by decide) ?_
      obtain ⟨r10, h11, hF⟩ := bn1_o hF
      refine kd_i [(q_o, .inr (6, [x_o_setup, .ref q_o_now, x_o_trial, x_o_view, x_o_trialView, x_o_past, x_o_nextPast, x_o_undoable])), (q_o_now, .inr (4, [.ref q_o_now_box, .ref q_o_now_crowd])), (q_o_now_box, .inr (0, [.int o_now_box_width, .int o_now_box_height, .int o_now_box_planes, .int o_now_box_holes, .int o_now_box_reach, x_o_now_box_cells, x_o_now_box_pulls, x_o_now_box_holeX, x_o_now_box_holeY, x_o_now_box_price])), (q_o_now_crowd, .inr (1, [.int o_now_crowd_viewers, .int o_now_crowd_lookLength, .int o_now_crowd_time, x_o_now_crowd_lookers, .ref q_o_now_crowd_facts])), (q_o_now_crowd_facts, .inl (cy 0, 140, .inl o_now_crowd_facts))] (va_runV (As := [.int (0 : Int32)]) (rest := []) ⟨hx, hb, hml, hown, hts⟩ (c_X1_count q_o_now_crowd q_o_now_crowd_facts H.size (.int o_now_crowd_lookLength) (.int o_now_crowd_time) x_o_now_crowd_lookers o_now_crowd_viewers o_now_crowd_facts (0 : Int32) _ h11) (cwV 1 hts gX6_state_X1_count rfl rfl rfl kd_X1_count ⟨Nat.le_of_ble_eq_true rfl, Nat.le_of_ble_eq_true rfl⟩) ⟨kP_blind (EN_ok D cy) D _ _ _, va_recv hK hP (ci := 1) (q0 := 3) rfl rfl, kStart (EN_ok D cy) hE hP hD hS hA [3, 4] rfl rfl _⟩ rfl rfl hl.1 rfl (lv_room (Nat.le_of_ble_eq_true rfl)) dX6_state_130 ⟨Nat.zero_le _, Nat.zero_le _⟩) hP hD hS hA [3, 4] [0, 1, 2] rfl rfl rfl 5 rfl (by decide +kernel) (fun H locs hP hD hS => ?_)
      cases hF
    have hF := if_n hF c9
    by_cases c12 : p1 = 9
    · have hF := if_p hF c12
      refine lv_tableIn (off := 117) (tgt := 134) hx hb dX6_state_17 (by rw [c12]; decide) (by rw [c12]; decide) (by rw [c12]; rfl) (by decide) ?_
      refine lv_aload_n hx hb dX6_state_134 rfl (lv_at hl 0 rfl) ?_
      refine lv_iconst (v := 1) hx hb dX6_state_135 (by decide) ?_
      obtain ⟨r13, h14, hF⟩ := bn1_o hF
      refine kd_i [(q_o, .inr (6, [x_o_setup, .ref q_o_now, x_o_trial, x_o_view, x_o_trialView, x_o_past, x_o_nextPast, x_o_undoable])), (q_o_now, .inr (4, [.ref q_o_now_box, .ref q_o_now_crowd])), (q_o_now_box, .inr (0, [.int o_now_box_width, .int o_now_box_height, .int o_now_box_planes, .int o_now_box_holes, .int o_now_box_reach, x_o_now_box_cells, x_o_now_box_pulls, x_o_now_box_holeX, x_o_now_box_holeY, x_o_now_box_price])), (q_o_now_crowd, .inr (1, [.int o_now_crowd_viewers, .int o_now_crowd_lookLength, .int o_now_crowd_time, x_o_now_crowd_lookers, .ref q_o_now_crowd_facts])), (q_o_now_crowd_facts, .inl (cy 0, 140, .inl o_now_crowd_facts))] (va_runV (As := [.int (1 : Int32)]) (rest := []) ⟨hx, hb, hml, hown, hts⟩ (c_X1_count q_o_now_crowd q_o_now_crowd_facts H.size (.int o_now_crowd_lookLength) (.int o_now_crowd_time) x_o_now_crowd_lookers o_now_crowd_viewers o_now_crowd_facts (1 : Int32) _ h14) (cwV 1 hts gX6_state_X1_count rfl rfl rfl kd_X1_count ⟨Nat.le_of_ble_eq_true rfl, Nat.le_of_ble_eq_true rfl⟩) ⟨kP_blind (EN_ok D cy) D _ _ _, va_recv hK hP (ci := 1) (q0 := 3) rfl rfl, kStart (EN_ok D cy) hE hP hD hS hA [3, 4] rfl rfl _⟩ rfl rfl hl.1 rfl (lv_room (Nat.le_of_ble_eq_true rfl)) dX6_state_136 ⟨Nat.zero_le _, Nat.zero_le _⟩) hP hD hS hA [3, 4] [0, 1, 2] rfl rfl rfl 5 rfl (by decide +kernel) (fun H locs hP hD hS => ?_)
      cases hF
    have hF := if_n hF c12
    by_cases c15 : p1 = 10
    · have hF := if_p hF c15
      refine lv_tableIn (off := 123) (tgt := 140) hx hb dX6_state_17 (by rw [c15]; decide) (by rw [c15]; decide) (by rw [c15]; rfl) (by decide) ?_
      refine lv_aload_n hx hb dX6_state_140 rfl (lv_at hl 0 rfl) ?_
      refine lv_iconst (v := 2) hx hb dX6_state_141 (by decide) ?_
      obtain ⟨r16, h17, hF⟩ := bn1_o hF
      refine kd_i [(q_o, .inr (6, [x_o_setup, .ref q_o_now, x_o_trial, x_o_view, x_o_trialView, x_o_past, x_o_nextPast, x_o_undoable])), (q_o_now, .inr (4, [.ref q_o_now_box, .ref q_o_now_crowd])), (q_o_now_box, .inr (0, [.int o_now_box_width, .int o_now_box_height, .int o_now_box_planes, .int o_now_box_holes, .int o_now_box_reach, x_o_now_box_cells, x_o_now_box_pulls, x_o_now_box_holeX, x_o_now_box_holeY, x_o_now_box_price])), (q_o_now_crowd, .inr (1, [.int o_now_crowd_viewers, .int o_now_crowd_lookLength, .int o_now_crowd_time, x_o_now_crowd_lookers, .ref q_o_now_crowd_facts])), (q_o_now_crowd_facts, .inl (cy 0, 140, .inl o_now_crowd_facts))] (va_runV (As := [.int (2 : Int32)]) (rest := []) ⟨hx, hb, hml, hown, hts⟩ (c_X1_count q_o_now_crowd q_o_now_crowd_facts H.size (.int o_now_crowd_lookLength) (.int o_now_crowd_time) x_o_now_crowd_lookers o_now_crowd_viewers o_now_crowd_facts (2 : Int32) _ h17) (cwV 1 hts gX6_state_X1_count rfl rfl rfl kd_X1_count ⟨Nat.le_of_ble_eq_true rfl, Nat.le_of_ble_eq_true rfl⟩) ⟨kP_blind (EN_ok D cy) D _ _ _, va_recv hK hP (ci := 1) (q0 := 3) rfl rfl, kStart (EN_ok D cy) hE hP hD hS hA [3, 4] rfl rfl _⟩ rfl rfl hl.1 rfl (lv_room (Nat.le_of_ble_eq_true rfl)) dX6_state_142 ⟨Nat.zero_le _, Nat.zero_le _⟩) hP hD hS hA [3, 4] [0, 1, 2] rfl rfl rfl 5 rfl (by decide +kernel) (fun H locs hP hD hS => ?_)
      cases hF
    have hF := if_n hF c15
    by_cases c18 : p1 = 11
    · have hF := if_p hF c18
      refine lv_tableIn (off := 129) (tgt := 146) hx hb dX6_state_17 (by rw [c18]; decide) (by rw [c18]; decide) (by rw [c18]; rfl) (by decide) ?_
      refine lv_aload_n hx hb dX6_state_146 rfl (lv_at hl 0 rfl) ?_
      refine lv_iconst (v := 3) hx hb dX6_state_147 (by decide) ?_
      obtain ⟨r19, h20, hF⟩ := bn1_o hF
      refine kd_i [(q_o, .inr (6, [x_o_setup, .ref q_o_now, x_o_trial, x_o_view, x_o_trialView, x_o_past, x_o_nextPast, x_o_undoable])), (q_o_now, .inr (4, [.ref q_o_now_box, .ref q_o_now_crowd])), (q_o_now_box, .inr (0, [.int o_now_box_width, .int o_now_box_height, .int o_now_box_planes, .int o_now_box_holes, .int o_now_box_reach, x_o_now_box_cells, x_o_now_box_pulls, x_o_now_box_holeX, x_o_now_box_holeY, x_o_now_box_price])), (q_o_now_crowd, .inr (1, [.int o_now_crowd_viewers, .int o_now_crowd_lookLength, .int o_now_crowd_time, x_o_now_crowd_lookers, .ref q_o_now_crowd_facts])), (q_o_now_crowd_facts, .inl (cy 0, 140, .inl o_now_crowd_facts))] (va_runV (As := [.int (3 : Int32)]) (rest := []) ⟨hx, hb, hml, hown, hts⟩ (c_X1_count q_o_now_crowd q_o_now_crowd_facts H.size (.int o_now_crowd_lookLength) (.int o_now_crowd_time) x_o_now_crowd_lookers o_now_crowd_viewers o_now_crowd_facts (3 : Int32) _ h20) (cwV 1 hts gX6_state_X1_count rfl rfl rfl kd_X1_count ⟨Nat.le_of_ble_eq_true rfl, Nat.le_of_ble_eq_true rfl⟩) ⟨kP_blind (EN_ok D cy) D _ _ _, va_recv hK hP (ci := 1) (q0 := 3) rfl rfl, kStart (EN_ok D cy) hE hP hD hS hA [3, 4] rfl rfl _⟩ rfl rfl hl.1 rfl (lv_room (Nat.le_of_ble_eq_true rfl)) dX6_state_148 ⟨Nat.zero_le _, Nat.zero_le _⟩) hP hD hS hA [3, 4] [0, 1, 2] rfl rfl rfl 5 rfl (by decide +kernel) (fun H locs hP hD hS => ?_)
      cases hF
    have hF := if_n hF c18
    by_cases c21 : p1 = 12
    · have hF := if_p hF c21
      refine lv_tableIn (off := 135) (tgt := 152) hx hb dX6_state_17 (by rw [c21]; decide) (by rw [c21]; decide) (by rw [c21]; rfl) (by decide) ?_
      refine lv_aload_n hx hb dX6_state_152 rfl (lv_at hl 0 rfl) ?_
      obtain ⟨r22, h23, hF⟩ := bn1_o hF
      refine kd_i [(q_o, .inr (6, [x_o_setup, .ref q_o_now, x_o_trial, x_o_view, x_o_trialView, x_o_past, x_o_nextPast, x_o_undoable])), (q_o_now, .inr (4, [.ref q_o_now_box, .ref q_o_now_crowd])), (q_o_now_box, .inr (0, [.int o_now_box_width, .int o_now_box_height, .int o_now_box_planes, .int o_now_box_holes, .int o_now_box_reach, x_o_now_box_cells, x_o_now_box_pulls, x_o_now_box_holeX, x_o_now_box_holeY, x_o_now_box_price])), (q_o_now_crowd, .inr (1, [.int o_now_crowd_viewers, .int o_now_crowd_lookLength, .int o_now_crowd_time, x_o_now_crowd_lookers, .ref q_o_now_crowd_facts])), (q_o_now_crowd_facts, .inl (cy 0, 140, .inl o_now_crowd_facts))] (va_runV (As := []) (rest := []) ⟨hx, hb, hml, hown, hts⟩ (c_X1_allPaid q_o_now_crowd q_o_now_crowd_facts H.size (.int o_now_crowd_lookLength) (.int o_now_crowd_time) x_o_now_crowd_lookers o_now_crowd_viewers o_now_crowd_facts _ h23) (cwV 0 hts gX6_state_X1_allPaid rfl rfl rfl kd_X1_allPaid ⟨Nat.le_of_ble_eq_true rfl, Nat.le_of_ble_eq_true rfl⟩) ⟨kP_blind (EN_ok D cy) D _ _ _, va_recv hK hP (ci := 1) (q0 := 3) rfl rfl, kStart (EN_ok D cy) hE hP hD hS hA [3, 4] rfl rfl _⟩ rfl rfl hl.1 rfl (lv_room (Nat.le_of_ble_eq_true rfl)) dX6_state_153 ⟨Nat.zero_le _, Nat.zero_le _⟩) hP hD hS hA [3, 4] [0, 1, 2] rfl rfl rfl 5 rfl (by decide +kernel) (fun H locs hP hD hS => ?_)
      cases hF
    have hF := if_n hF c21
    by_cases c24 : p1 = 13
    · have hF := if_p hF c24
      refine lv_tableIn (off := 140) (tgt := 157) hx hb dX6_state_17 (by rw [c24]; decide) (by rw [c24]; decide) (by rw [c24]; rfl) (by decide) ?_
      refine lv_aload_n hx hb dX6_state_157 rfl (lv_at hl 1 rfl) ?_
      refine va_get (D := D) (ci := 0) (v := .int o_now_box_holes) (C := RX0) (T := TX0) (N := 10) hx hb hts f_inX0 hown hK hP 2 rfl rfl 3 (by decide) f_f120 (fun _ h9 => h9) rfl dX6_state_158 ?_
      refine lv_aload_n hx hb dX6_state_161 rfl (lv_at hl 0 rfl) ?_
      refine lv_iconst (v := 1) hx hb dX6_state_162 (by decide) ?_
      obtain ⟨r25, h26, hF⟩ := bn1_o hF
      refine kd_i [(q_o, .inr (6, [x_o_setup, .ref q_o_now, x_o_trial, x_o_view, x_o_trialView, x_o_past, x_o_nextPast, x_o_undoable])), (q_o_now, .inr (4, [.ref q_o_now_box, .ref q_o_now_crowd])), (q_o_now_box, .inr (0, [.int o_now_box_width, .int o_now_box_height, .int o_now_box_planes, .int o_now_box_holes, .int o_now_box_reach, x_o_now_box_cells, x_o_now_box_pulls, x_o_now_box_holeX, x_o_now_box_holeY, x_o_now_box_price])), (q_o_now_crowd, .inr (1, [.int o_now_crowd_viewers, .int o_now_crowd_lookLength, .int o_now_crowd_time, x_o_now_crowd_lookers, .ref q_o_now_crowd_facts])), (q_o_now_crowd_facts, .inl (cy 0, 140, .inl o_now_crowd_facts))] (va_runV (As := [.int (1 : Int32)]) (rest := [.int o_now_box_holes]) ⟨hx, hb, hml, hown, hts⟩ (c_X1_count q_o_now_crowd q_o_now_crowd_facts H.size (.int o_now_crowd_lookLength) (.int o_now_crowd_time) x_o_now_crowd_lookers o_now_crowd_viewers o_now_crowd_facts (1 : Int32) _ h26) (cwV 1 hts gX6_state_X1_count rfl rfl rfl kd_X1_count ⟨Nat.le_of_ble_eq_true rfl, Nat.le_of_ble_eq_true rfl⟩) ⟨kP_blind (EN_ok D cy) D _ _ _, va_recv hK hP (ci := 1) (q0 := 3) rfl rfl, kStart (EN_ok D cy) hE hP hD hS hA [3, 4] rfl rfl _⟩ rfl rfl hl.1 rfl (lv_room (Nat.le_of_ble_eq_true rfl)) dX6_state_163 ⟨Nat.zero_le _, Nat.zero_le _⟩) hP hD hS hA [3, 4] [0, 1, 2] rfl rfl rfl 5 rfl (by decide +kernel) (fun H locs hP hD hS => ?_)
      refine lv_isub hx hb dX6_state_166 ?_
      cases hF
    have hF := if_n hF c24
    have tc1 : p1.toInt ≠ 0 := fun h9 => c1 (Int32.toInt_inj.mp (h9.trans (by decide)))
    have tc2 : p1.toInt ≠ 1 := fun h9 => c2 (Int32.toInt_inj.mp (h9.trans (by decide)))
    have tc3 : p1.toInt ≠ 2 := fun h9 => c3 (Int32.toInt_inj.mp (h9.trans (by decide)))
    have tc4 : p1.toInt ≠ 3 := fun h9 => c4 (Int32.toInt_inj.mp (h9.trans (by decide)))
    have tc5 : p1.toInt ≠ 4 := fun h9 => c5 (Int32.toInt_inj.mp (h9.trans (by decide)))
    have tc6 : p1.toInt ≠ 5 := fun h9 => c6 (Int32.toInt_inj.mp (h9.trans (by decide)))
    have tc7 : p1.toInt ≠ 6 := fun h9 => c7 (Int32.toInt_inj.mp (h9.trans (by decide)))
    have tc8 : p1.toInt ≠ 7 := fun h9 => c8 (Int32.toInt_inj.mp (h9.trans (by decide)))
    have tc9 : p1.toInt ≠ 8 := fun h9 => c9 (Int32.toInt_inj.mp (h9.trans (by decide)))
    have tc12 : p1.toInt ≠ 9 := fun h9 => c12 (Int32.toInt_inj.mp (h9.trans (by decide)))
    have tc15 : p1.toInt ≠ 10 := fun h9 => c15 (Int32.toInt_inj.mp (h9.trans (by decide)))
    have tc18 : p1.toInt ≠ 11 := fun h9 => c18 (Int32.toInt_inj.mp (h9.trans (by decide)))
    have tc21 : p1.toInt ≠ 12 := fun h9 => c21 (Int32.toInt_inj.mp (h9.trans (by decide)))
    have tc24 : p1.toInt ≠ 13 := fun h9 => c24 (Int32.toInt_inj.mp (h9.trans (by decide)))
    refine lv_tableOut (tgt := 168) hx hb dX6_state_17 (by omega) (by decide) ?_
    obtain rfl := sl_o hF
    obtain ⟨a27, hRa27, hTa27⟩ := hE.2.2.1 ("PeepBox", 140, "no such number of the state", [110, 111, 32, 115, 117, 99, 104, 32, 110, 117, 109, 98, 101, 114, 32, 111, 102, 32, 116, 104, 101, 32, 115, 116, 97, 116, 101]) (by decide +kernel)
    rw [hQQ]
    exact vx_throwS (A := A) hx hb hst hown (by decide +kernel) (by decide +kernel) f_k76 f_i2 hRa27 fat_80 (by decide +kernel) hE.2.2.2.2.1 hE.2.2.2.2.2.1 hS (by rw [hml]; exact hl.1) dX6_state_168 dX6_state_171 dX6_state_172 dX6_state_174 dX6_state_177 (fun z hz => absurd hz (hxt z)) (Nat.le_of_ble_eq_true rfl) (Nat.le_of_ble_eq_true rfl) (Nat.le_of_ble_eq_true rfl) (Nat.le_of_ble_eq_true rfl) hlocks (kx_end hP hD hS rfl) hS.2.2 (Nat.le_of_ble_eq_true rfl) (Nat.le_of_ble_eq_true rfl)
  exact main s.heap [] ls hP hD hS hl
theorem kd_X6_requirePlane : yX6_requirePlane.cls = RX6 ∧ yX6_requirePlane.cls ≠ "java/lang/invoke/MethodHandle" ∧ yX6_requirePlane.cls ≠ "java/lang/invoke/VarHandle" ∧ (parseMethodDescriptor yX6_requirePlane.desc).map (fun d => d.parameters.length) = some 1 := by decide +kernel
set_option maxHeartbeats 4000000 in
set_option maxRecDepth 100000 in
theorem c_X6_requirePlane {l : Launch} {D : va_G} {cy : Nat → ClassId} (q_o q_o_now q_o_now_box : Nat) (sz : Nat) (x_o_setup x_o_trial x_o_view x_o_trialView x_o_past x_o_nextPast x_o_undoable x_o_now_crowd x_o_now_box_width x_o_now_box_height x_o_now_box_holes x_o_now_box_reach x_o_now_box_cells x_o_now_box_pulls x_o_now_box_holeX x_o_now_box_holeY x_o_now_box_price : Value) (o_now_box_planes : Int32) (p1 : Int32) (res : Unit) (hF : X6_requirePlane o_now_box_planes p1 = some (.inr res)) : Met l yX6_requirePlane wsX6_requirePlane ({ frames := 0, cells := 0, slots := 0, locals := 0 } : Room) (kP (EN D cy) D [.ref q_o, .int p1] [(q_o, .inr (6, [x_o_setup, .ref q_o_now, x_o_trial, x_o_view, x_o_trialView, x_o_past, x_o_nextPast, x_o_undoable])), (q_o_now, .inr (4, [.ref q_o_now_box, x_o_now_crowd])), (q_o_now_box, .inr (0, [x_o_now_box_width, x_o_now_box_height, .int o_now_box_planes, x_o_now_box_holes, x_o_now_box_reach, x_o_now_box_cells, x_o_now_box_pulls, x_o_now_box_holeX, x_o_now_box_holeY, x_o_now_box_price]))] sz) (kQv D [(q_o, .inr (6, [x_o_setup, .ref q_o_now, x_o_trial, x_o_view, x_o_trialView, x_o_past, x_o_nextPast, x_o_undoable])), (q_o_now, .inr (4, [.ref q_o_now_box, x_o_now_crowd])), (q_o_now_box, .inr (0, [x_o_now_box_width, x_o_now_box_height, .int o_now_box_planes, x_o_now_box_holes, x_o_now_box_reach, x_o_now_box_cells, x_o_now_box_pulls, x_o_now_box_holeX, x_o_now_box_holeY, x_o_now_box_price]))] (va_A [(q_o, .inr (6, [x_o_setup, .ref q_o_now, x_o_trial, x_o_view, x_o_trialView, x_o_past, x_o_nextPast, x_o_undoable])), (q_o_now, .inr (4, [.ref q_o_now_box, x_o_now_crowd])), (q_o_now_box, .inr (0, [x_o_now_box_width, x_o_now_box_height, .int o_now_box_planes, x_o_now_box_holes, x_o_now_box_reach, x_o_now_box_cells, x_o_now_box_pulls, x_o_now_box_holeX, x_o_now_box_holeY, x_o_now_box_price]))] sz)) 0 0 (va_A [(q_o, .inr (6, [x_o_setup, .ref q_o_now, x_o_trial, x_o_view, x_o_trialView, x_o_past, x_o_nextPast, x_o_undoable])), (q_o_now, .inr (4, [.ref q_o_now_box, x_o_now_crowd])), (q_o_now_box, .inr (0, [x_o_now_box_width, x_o_now_box_height, .int o_now_box_planes, x_o_now_box_holes, x_o_now_box_reach, x_o_now_box_cells, x_o_now_box_pulls, x_o_now_box_holeX, x_o_now_box_holeY, x_o_now_box_price]))] sz) := by
  refine kMet (y := yX6_requirePlane) (av := [.ref q_o, .int p1]) (cc := cX6_requirePlane) (maxL := 2) (ret := none) (own := RX6) (Qc := fun A9 => (kQv D [(q_o, .inr (6, [x_o_setup, .ref q_o_now, x_o_trial, x_o_view, x_o_trialView, x_o_past, x_o_nextPast, x_o_undoable])), (q_o_now, .inr (4, [.ref q_o_now_box, x_o_now_crowd])), (q_o_now_box, .inr (0, [x_o_now_box_width, x_o_now_box_height, .int o_now_box_planes, x_o_now_box_holes, x_o_now_box_reach, x_o_now_box_cells, x_o_now_box_pulls, x_o_now_box_holeX, x_o_now_box_holeY, x_o_now_box_price]))] A9)) (by decide) rfl rfl (Nat.le_of_ble_eq_true rfl) ?_
  intro p e s m args below meth c A hx hb hr hts hown hml hlocks hname hE hP hD hA hsz ls hl
  have hK := hE.1
  have hl : lv_has ls 2 [(0, .ref q_o), (1, .int p1)] := hl
  have hS : va_S A s.heap s.heap [] := va_S.rf
  have f_f19 := hts (.fieldLink RX6 19 "PeepBox" "now" "LPeepBox$Show;") (by decide +kernel)
  have f_inX6 : ∀ w ∈ wsX60, w ∈ wsX6_requirePlane := by decide +kernel
  have f_f51 := hts (.fieldLink RX6 51 "PeepBox$Show" "box" "LPeepBox$Box;") (by decide +kernel)
  have f_inX4 : ∀ w ∈ wsX40, w ∈ wsX6_requirePlane := by decide +kernel
  have f_f117 := hts (.fieldLink RX6 117 "PeepBox$Box" "planes" "I") (by decide +kernel)
  have f_inX0 : ∀ w ∈ wsX00, w ∈ wsX6_requirePlane := by decide +kernel
  obtain ⟨QQ, hQQ⟩ : ∃ Q9, Q9 = MQ below (kQv D [(q_o, .inr (6, [x_o_setup, .ref q_o_now, x_o_trial, x_o_view, x_o_trialView, x_o_past, x_o_nextPast, x_o_undoable])), (q_o_now, .inr (4, [.ref q_o_now_box, x_o_now_crowd])), (q_o_now_box, .inr (0, [x_o_now_box_width, x_o_now_box_height, .int o_now_box_planes, x_o_now_box_holes, x_o_now_box_reach, x_o_now_box_cells, x_o_now_box_pulls, x_o_now_box_holeX, x_o_now_box_holeY, x_o_now_box_price]))] A) args s 0 0 A := ⟨_, rfl⟩
  rw [← hQQ]
  have J18 : ∀ (H : Heap) (locs : List Loc) (ls : Array Slot), va_P D vwCl [(q_o, .inr (6, [x_o_setup, .ref q_o_now, x_o_trial, x_o_view, x_o_trialView, x_o_past, x_o_nextPast, x_o_undoable])), (q_o_now, .inr (4, [.ref q_o_now_box, x_o_now_crowd])), (q_o_now_box, .inr (0, [x_o_now_box_width, x_o_now_box_height, .int o_now_box_planes, x_o_now_box_holes, x_o_now_box_reach, x_o_now_box_cells, x_o_now_box_pulls, x_o_now_box_holeX, x_o_now_box_holeY, x_o_now_box_price]))] H → va_D A [(q_o, .inr (6, [x_o_setup, .ref q_o_now, x_o_trial, x_o_view, x_o_trialView, x_o_past, x_o_nextPast, x_o_undoable])), (q_o_now, .inr (4, [.ref q_o_now_box, x_o_now_crowd])), (q_o_now_box, .inr (0, [x_o_now_box_width, x_o_now_box_height, .int o_now_box_planes, x_o_now_box_holes, x_o_now_box_reach, x_o_now_box_cells, x_o_now_box_pulls, x_o_now_box_holeX, x_o_now_box_holeY, x_o_now_box_price]))] → va_S A s.heap H locs → lv_has ls 2 [] → X6_requirePlane_J18 o_now_box_planes p1 = some (.inr res) → W p l e ({ frames := 0, cells := 0, slots := 0, locals := 0 } : Room) s m args below meth c H locs 0 0 QQ (F0 m 18 ls []) := by
    intro  H locs ls hP hD hS hl hF
    unfold X6_requirePlane_J18 at hF
    cases hF
  have main : ∀ (H : Heap) (locs : List Loc) (ls : Array Slot), va_P D vwCl [(q_o, .inr (6, [x_o_setup, .ref q_o_now, x_o_trial, x_o_view, x_o_trialView, x_o_past, x_o_nextPast, x_o_undoable])), (q_o_now, .inr (4, [.ref q_o_now_box, x_o_now_crowd])), (q_o_now_box, .inr (0, [x_o_now_box_width, x_o_now_box_height, .int o_now_box_planes, x_o_now_box_holes, x_o_now_box_reach, x_o_now_box_cells, x_o_now_box_pulls, x_o_now_box_holeX, x_o_now_box_holeY, x_o_now_box_price]))] H → va_D A [(q_o, .inr (6, [x_o_setup, .ref q_o_now, x_o_trial, x_o_view, x_o_trialView, x_o_past, x_o_nextPast, x_o_undoable])), (q_o_now, .inr (4, [.ref q_o_now_box, x_o_now_crowd])), (q_o_now_box, .inr (0, [x_o_now_box_width, x_o_now_box_height, .int o_now_box_planes, x_o_now_box_holes, x_o_now_box_reach, x_o_now_box_cells, x_o_now_box_pulls, x_o_now_box_holeX, x_o_now_box_holeY, x_o_now_box_price]))] → va_S A s.heap H locs → lv_has ls 2 [(0, .ref q_o), (1, .int p1)] → W p l e ({ frames := 0, cells := 0, slots := 0, locals := 0 } : Room) s m args below meth c H locs 0 0 QQ (F0 m 0 ls []) := by
    intro H locs ls hP hD hS hl
    unfold X6_requirePlane at hF
    refine lv_iload_n hx hb dX6_requirePlane_0 rfl (lv_at hl 1 rfl) ?_
    refine lv_if_lt (tgt := 18) hx hb dX6_requirePlane_1 (by decide) (fun c1 => ?_) (fun c1 => ?_)
    · have hF := if_p hF c1
      exact J18  H locs ls hP hD hS (lv_sub hl [] rfl) hF
    · have hF := if_n hF c1
      refine lv_iload_n hx hb dX6_requirePlane_4 rfl (lv_at hl 1 rfl) ?_
      refine lv_aload_n hx hb dX6_requirePlane_5 rfl (lv_at hl 0 rfl) ?_
      refine va_get (D := D) (ci := 6) (v := .ref q_o_now) (C := RX6) (T := TX6) (N := 8) hx hb hts f_inX6 hown hK hP 0 rfl rfl 1 (by decide) f_f19 (fun _ h9 => h9) rfl dX6_requirePlane_6 ?_
      refine va_get (D := D) (ci := 4) (v := .ref q_o_now_box) (C := RX4) (T := TX4) (N := 2) hx hb hts f_inX4 hown hK hP 1 rfl rfl 0 (by decide) f_f51 (fun _ h9 => h9) rfl dX6_requirePlane_9 ?_
      refine va_get (D := D) (ci := 0) (v := .int o_now_box_planes) (C := RX0) (T := TX0) (N := 10) hx hb hts f_inX0 hown hK hP 2 rfl rfl 2 (by decide) f_f117 (fun _ h9 => h9) rfl dX6_requirePlane_12 ?_
      refine lv_icmp_lt (tgt := 29) hx hb dX6_requirePlane_15 (by decide) (fun c2 => ?_) (fun c2 => ?_)
      · have hF := if_p hF c2
        obtain rfl := si_o hF
        rw [hQQ]
        exact kr_v hx hb hr hlocks hP hD hS dX6_requirePlane_29
      · have hF := if_n hF c2
        exact J18  H locs ls hP hD hS (lv_sub hl [] rfl) hF
  exact main s.heap [] ls hP hD hS hl
set_option maxHeartbeats 4000000 in
set_option maxRecDepth 100000 in
theorem t_X6_requirePlane {l : Launch} {D : va_G} {cy : Nat → ClassId} (hst : l.stackTraces = false) (q_o q_o_now q_o_now_box : Nat) (sz : Nat) (x_o_setup x_o_trial x_o_view x_o_trialView x_o_past x_o_nextPast x_o_undoable x_o_now_crowd x_o_now_box_width x_o_now_box_height x_o_now_box_holes x_o_now_box_reach x_o_now_box_cells x_o_now_box_pulls x_o_now_box_holeX x_o_now_box_holeY x_o_now_box_price : Value) (o_now_box_planes : Int32) (p1 : Int32) (k9 : Nat) (hF : X6_requirePlane o_now_box_planes p1 = some (.inl k9)) : vx_Met l yX6_requirePlane wsX6_requirePlane ({ frames := 6, cells := 1, slots := 6, locals := 90 } : Room) (kP (EN D cy) D [.ref q_o, .int p1] [(q_o, .inr (6, [x_o_setup, .ref q_o_now, x_o_trial, x_o_view, x_o_trialView, x_o_past, x_o_nextPast, x_o_undoable])), (q_o_now, .inr (4, [.ref q_o_now_box, x_o_now_crowd])), (q_o_now_box, .inr (0, [x_o_now_box_width, x_o_now_box_height, .int o_now_box_planes, x_o_now_box_holes, x_o_now_box_reach, x_o_now_box_cells, x_o_now_box_pulls, x_o_now_box_holeX, x_o_now_box_holeY, x_o_now_box_price]))] sz) (kTv (va_A [(q_o, .inr (6, [x_o_setup, .ref q_o_now, x_o_trial, x_o_view, x_o_trialView, x_o_past, x_o_nextPast, x_o_undoable])), (q_o_now, .inr (4, [.ref q_o_now_box, x_o_now_crowd])), (q_o_now_box, .inr (0, [x_o_now_box_width, x_o_now_box_height, .int o_now_box_planes, x_o_now_box_holes, x_o_now_box_reach, x_o_now_box_cells, x_o_now_box_pulls, x_o_now_box_holeX, x_o_now_box_holeY, x_o_now_box_price]))] sz)) (kXC D k9 [(q_o, .inr (6, [x_o_setup, .ref q_o_now, x_o_trial, x_o_view, x_o_trialView, x_o_past, x_o_nextPast, x_o_undoable])), (q_o_now, .inr (4, [.ref q_o_now_box, x_o_now_crowd])), (q_o_now_box, .inr (0, [x_o_now_box_width, x_o_now_box_height, .int o_now_box_planes, x_o_now_box_holes, x_o_now_box_reach, x_o_now_box_cells, x_o_now_box_pulls, x_o_now_box_holeX, x_o_now_box_holeY, x_o_now_box_price]))] (va_A [(q_o, .inr (6, [x_o_setup, .ref q_o_now, x_o_trial, x_o_view, x_o_trialView, x_o_past, x_o_nextPast, x_o_undoable])), (q_o_now, .inr (4, [.ref q_o_now_box, x_o_now_crowd])), (q_o_now_box, .inr (0, [x_o_now_box_width, x_o_now_box_height, .int o_now_box_planes, x_o_now_box_holes, x_o_now_box_reach, x_o_now_box_cells, x_o_now_box_pulls, x_o_now_box_holeX, x_o_now_box_holeY, x_o_now_box_price]))] sz)) 1 6 (va_A [(q_o, .inr (6, [x_o_setup, .ref q_o_now, x_o_trial, x_o_view, x_o_trialView, x_o_past, x_o_nextPast, x_o_undoable])), (q_o_now, .inr (4, [.ref q_o_now_box, x_o_now_crowd])), (q_o_now_box, .inr (0, [x_o_now_box_width, x_o_now_box_height, .int o_now_box_planes, x_o_now_box_holes, x_o_now_box_reach, x_o_now_box_cells, x_o_now_box_pulls, x_o_now_box_holeX, x_o_now_box_holeY, x_o_now_box_price]))] sz) := by
  refine kMetT (y := yX6_requirePlane) (av := [.ref q_o, .int p1]) (cc := cX6_requirePlane) (maxL := 2) (ret := none) (own := RX6) (Qc := fun A9 => (kTv A9)) (X := fun A9 => (kXC D k9 [(q_o, .inr (6, [x_o_setup, .ref q_o_now, x_o_trial, x_o_view, x_o_trialView, x_o_past, x_o_nextPast, x_o_undoable])), (q_o_now, .inr (4, [.ref q_o_now_box, x_o_now_crowd])), (q_o_now_box, .inr (0, [x_o_now_box_width, x_o_now_box_height, .int o_now_box_planes, x_o_now_box_holes, x_o_now_box_reach, x_o_now_box_cells, x_o_now_box_pulls, x_o_now_box_holeX, x_o_now_box_holeY, x_o_now_box_price]))] A9)) (by decide) rfl rfl (Nat.le_of_ble_eq_true rfl) ?_
  intro p e s m args below meth c A hx hb hr hts hown hml hlocks hxt hE hP hD hA hsz ls hl
  have hK := hE.1
  have hl : lv_has ls 2 [(0, .ref q_o), (1, .int p1)] := hl
  have hS : va_S A s.heap s.heap [] := va_S.rf
  have f_k268 := hts (.classLink RX6 268 "java/lang/IndexOutOfBoundsException") (by decide +kernel)
  have f_i1 := hts (.initialized "java/lang/IndexOutOfBoundsException") (by decide +kernel)
  have f_f19 := hts (.fieldLink RX6 19 "PeepBox" "now" "LPeepBox$Show;") (by decide +kernel)
  have f_inX6 : ∀ w ∈ wsX60, w ∈ wsX6_requirePlane := by decide +kernel
  have f_f51 := hts (.fieldLink RX6 51 "PeepBox$Show" "box" "LPeepBox$Box;") (by decide +kernel)
  have f_inX4 : ∀ w ∈ wsX40, w ∈ wsX6_requirePlane := by decide +kernel
  have f_f117 := hts (.fieldLink RX6 117 "PeepBox$Box" "planes" "I") (by decide +kernel)
  have f_inX0 : ∀ w ∈ wsX00, w ∈ wsX6_requirePlane := by decide +kernel
  have fat_272 := vx_hat (L := vx_atS RX6 272 "java/lang/IndexOutOfBoundsException" ["java/lang/RuntimeException", "java/lang/Exception"]) (B := [.castable "java/lang/IndexOutOfBoundsException" "java/lang/IndexOutOfBoundsException", .declares (Bundle.initS "java/lang/RuntimeException"), .declares (Bundle.initS "java/lang/Exception"), .declares (Bundle.initS "java/lang/Throwable")]) (fun w hw => hts w (List.mem_cons_of_mem _ (List.mem_append_right _ hw))) (by decide +kernel) (vx_c (va_Nw.use rfl (hE.2.2.2.2.2.2.2.1 _ (List.mem_of_getElem? (i := 0) rfl))) (vx_c (va_Nw.use rfl (hE.2.2.2.2.2.2.2.2.2 _ (List.mem_of_getElem? (i := 0) rfl))) (vx_c (va_Nw.use rfl (hE.2.2.2.2.2.2.2.2.2 _ (List.mem_of_getElem? (i := 1) rfl))) (vx_c (va_Nw.use rfl (hE.2.2.2.2.2.2.2.2.2 _ (List.mem_of_getElem? (i := 2) rfl))) vx_n))))
  obtain ⟨QQ, hQQ⟩ : ∃ Q9, Q9 = vx_MQ below (kTv A) (kXC D k9 [(q_o, .inr (6, [x_o_setup, .ref q_o_now, x_o_trial, x_o_view, x_o_trialView, x_o_past, x_o_nextPast, x_o_undoable])), (q_o_now, .inr (4, [.ref q_o_now_box, x_o_now_crowd])), (q_o_now_box, .inr (0, [x_o_now_box_width, x_o_now_box_height, .int o_now_box_planes, x_o_now_box_holes, x_o_now_box_reach, x_o_now_box_cells, x_o_now_box_pulls, x_o_now_box_holeX, x_o_now_box_holeY, x_o_now_box_price]))] A) args s 1 6 A := ⟨_, rfl⟩
  rw [← hQQ]
  have J18 : ∀ (H : Heap) (locs : List Loc) (ls : Array Slot), va_P D vwCl [(q_o, .inr (6, [x_o_setup, .ref q_o_now, x_o_trial, x_o_view, x_o_trialView, x_o_past, x_o_nextPast, x_o_undoable])), (q_o_now, .inr (4, [.ref q_o_now_box, x_o_now_crowd])), (q_o_now_box, .inr (0, [x_o_now_box_width, x_o_now_box_height, .int o_now_box_planes, x_o_now_box_holes, x_o_now_box_reach, x_o_now_box_cells, x_o_now_box_pulls, x_o_now_box_holeX, x_o_now_box_holeY, x_o_now_box_price]))] H → va_D A [(q_o, .inr (6, [x_o_setup, .ref q_o_now, x_o_trial, x_o_view, x_o_trialView, x_o_past, x_o_nextPast, x_o_undoable])), (q_o_now, .inr (4, [.ref q_o_now_box, x_o_now_crowd])), (q_o_now_box, .inr (0, [x_o_now_box_width, x_o_now_box_height, .int o_now_box_planes, x_o_now_box_holes, x_o_now_box_reach, x_o_now_box_cells, x_o_now_box_pulls, x_o_now_box_holeX, x_o_now_box_holeY, x_o_now_box_price]))] → va_S A s.heap H locs → lv_has ls 2 [] → X6_requirePlane_J18 o_now_box_planes p1 = some (.inl k9) → W p l e ({ frames := 6, cells := 1, slots := 6, locals := 90 } : Room) s m args below meth c H locs 0 0 QQ (F0 m 18 ls []) := by
    intro  H locs ls hP hD hS hl hF
    unfold X6_requirePlane_J18 at hF
    obtain rfl := sl_o hF
    obtain ⟨a1, hRa1, hTa1⟩ := hE.2.2.1 ("PeepBox", 270, "no such plane", [110, 111, 32, 115, 117, 99, 104, 32, 112, 108, 97, 110, 101]) (by decide +kernel)
    rw [hQQ]
    exact vx_throwSW (A := A) hx hb hst hown (by decide +kernel) (by decide +kernel) f_k268 f_i1 hRa1 fat_272 (by decide +kernel) hE.2.2.2.2.1 hE.2.2.2.2.2.1 hS (by rw [hml]; exact hl.1) dX6_requirePlane_18 dX6_requirePlane_21 dX6_requirePlane_22 dX6_requirePlane_25 dX6_requirePlane_28 (fun z hz => absurd hz (hxt z)) (Nat.le_of_ble_eq_true rfl) (Nat.le_of_ble_eq_true rfl) (Nat.le_of_ble_eq_true rfl) (Nat.le_of_ble_eq_true rfl) hlocks (kx_end hP hD hS rfl) hS.2.2 (Nat.le_of_ble_eq_true rfl) (Nat.le_of_ble_eq_true rfl)
  have main : ∀ (H : Heap) (locs : List Loc) (ls : Array Slot), va_P D vwCl [(q_o, .inr (6, [x_o_setup, .ref q_o_now, x_o_trial, x_o_view, x_o_trialView, x_o_past, x_o_nextPast, x_o_undoable])), (q_o_now, .inr (4, [.ref q_o_now_box, x_o_now_crowd])), (q_o_now_box, .inr (0, [x_o_now_box_width, x_o_now_box_height, .int o_now_box_planes, x_o_now_box_holes, x_o_now_box_reach, x_o_now_box_cells, x_o_now_box_pulls, x_o_now_box_holeX, x_o_now_box_holeY, x_o_now_box_price]))] H → va_D A [(q_o, .inr (6, [x_o_setup, .ref q_o_now, x_o_trial, x_o_view, x_o_trialView, x_o_past, x_o_nextPast, x_o_undoable])), (q_o_now, .inr (4, [.ref q_o_now_box, x_o_now_crowd])), (q_o_now_box, .inr (0, [x_o_now_box_width, x_o_now_box_height, .int o_now_box_planes, x_o_now_box_holes, x_o_now_box_reach, x_o_now_box_cells, x_o_now_box_pulls, x_o_now_box_holeX, x_o_now_box_holeY, x_o_now_box_price]))] → va_S A s.heap H locs → lv_has ls 2 [(0, .ref q_o), (1, .int p1)] → W p l e ({ frames := 6, cells := 1, slots := 6, locals := 90 } : Room) s m args below meth c H locs 0 0 QQ (F0 m 0 ls []) := by
    intro H locs ls hP hD hS hl
    unfold X6_requirePlane at hF
    refine lv_iload_n hx hb dX6_requirePlane_0 rfl (lv_at hl 1 rfl) ?_
    refine lv_if_lt (tgt := 18) hx hb dX6_requirePlane_1 (by decide) (fun c2 => ?_) (fun c2 => ?_)
    · have hF := if_p hF c2
      exact J18  H locs ls hP hD hS (lv_sub hl [] rfl) hF
    · have hF := if_n hF c2
      refine lv_iload_n hx hb dX6_requirePlane_4 rfl (lv_at hl 1 rfl) ?_
      refine lv_aload_n hx hb dX6_requirePlane_5 rfl (lv_at hl 0 rfl) ?_
      refine va_get (D := D) (ci := 6) (v := .ref q_o_now) (C := RX6) (T := TX6) (N := 8) hx hb hts f_inX6 hown hK hP 0 rfl rfl 1 (by decide) f_f19 (fun _ h9 => h9) rfl dX6_requirePlane_6 ?_
      refine va_get (D := D) (ci := 4) (v := .ref q_o_now_box) (C := RX4) (T := TX4) (N := 2) hx hb hts f_inX4 hown hK hP 1 rfl rfl 0 (by decide) f_f51 (fun _ h9 => h9) rfl dX6_requirePlane_9 ?_
      refine va_get (D := D) (ci := 0) (v := .int o_now_box_planes) (C := RX0) (T := TX0) (N := 10) hx hb hts f_inX0 hown hK hP 2 rfl rfl 2 (by decide) f_f117 (fun _ h9 => h9) rfl dX6_requirePlane_12 ?_
      refine lv_icmp_lt (tgt := 29) hx hb dX6_requirePlane_15 (by decide) (fun c3 => ?_) (fun c3 => ?_)
      · have hF := if_p hF c3
        cases hF
      · have hF := if_n hF c3
        exact J18  H locs ls hP hD hS (lv_sub hl [] rfl) hF
  exact main s.heap [] ls hP hD hS hl
theorem kd_X6_requireCell : yX6_requireCell.cls = RX6 ∧ yX6_requireCell.cls ≠ "java/lang/invoke/MethodHandle" ∧ yX6_requireCell.cls ≠ "java/lang/invoke/VarHandle" ∧ (parseMethodDescriptor yX6_requireCell.desc).map (fun d => d.parameters.length) = some 2 := by decide +kernel
set_option maxHeartbeats 4000000 in
set_option maxRecDepth 100000 in
theorem c_X6_requireCell {l : Launch} {D : va_G} {cy : Nat → ClassId} (q_o q_o_now q_o_now_box : Nat) (sz : Nat) (x_o_setup x_o_trial x_o_view x_o_trialView x_o_past x_o_nextPast x_o_undoable x_o_now_crowd x_o_now_box_planes x_o_now_box_holes x_o_now_box_reach x_o_now_box_cells x_o_now_box_pulls x_o_now_box_holeX x_o_now_box_holeY x_o_now_box_price : Value) (o_now_box_width : Int32) (o_now_box_height : Int32) (p1 : Int32) (p2 : Int32) (res : Unit) (hF : X6_requireCell o_now_box_width o_now_box_height p1 p2 = some (.inr res)) : Met l yX6_requireCell wsX6_requireCell ({ frames := 0, cells := 0, slots := 0, locals := 0 } : Room) (kP (EN D cy) D [.ref q_o, .int p1, .int p2] [(q_o, .inr (6, [x_o_setup, .ref q_o_now, x_o_trial, x_o_view, x_o_trialView, x_o_past, x_o_nextPast, x_o_undoable])), (q_o_now, .inr (4, [.ref q_o_now_box, x_o_now_crowd])), (q_o_now_box, .inr (0, [.int o_now_box_width, .int o_now_box_height, x_o_now_box_planes, x_o_now_box_holes, x_o_now_box_reach, x_o_now_box_cells, x_o_now_box_pulls, x_o_now_box_holeX, x_o_now_box_holeY, x_o_now_box_price]))] sz) (kQv D [(q_o, .inr (6, [x_o_setup, .ref q_o_now, x_o_trial, x_o_view, x_o_trialView, x_o_past, x_o_nextPast, x_o_undoable])), (q_o_now, .inr (4, [.ref q_o_now_box, x_o_now_crowd])), (q_o_now_box, .inr (0, [.int o_now_box_width, .int o_now_box_height, x_o_now_box_planes, x_o_now_box_holes, x_o_now_box_reach, x_o_now_box_cells, x_o_now_box_pulls, x_o_now_box_holeX, x_o_now_box_holeY, x_o_now_box_price]))] (va_A [(q_o, .inr (6, [x_o_setup, .ref q_o_now, x_o_trial, x_o_view, x_o_trialView, x_o_past, x_o_nextPast, x_o_undoable])), (q_o_now, .inr (4, [.ref q_o_now_box, x_o_now_crowd])), (q_o_now_box, .inr (0, [.int o_now_box_width, .int o_now_box_height, x_o_now_box_planes, x_o_now_box_holes, x_o_now_box_reach, x_o_now_box_cells, x_o_now_box_pulls, x_o_now_box_holeX, x_o_now_box_holeY, x_o_now_box_price]))] sz)) 0 0 (va_A [(q_o, .inr (6, [x_o_setup, .ref q_o_now, x_o_trial, x_o_view, x_o_trialView, x_o_past, x_o_nextPast, x_o_undoable])), (q_o_now, .inr (4, [.ref q_o_now_box, x_o_now_crowd])), (q_o_now_box, .inr (0, [.int o_now_box_width, .int o_now_box_height, x_o_now_box_planes, x_o_now_box_holes, x_o_now_box_reach, x_o_now_box_cells, x_o_now_box_pulls, x_o_now_box_holeX, x_o_now_box_holeY, x_o_now_box_price]))] sz) := by
  refine kMet (y := yX6_requireCell) (av := [.ref q_o, .int p1, .int p2]) (cc := cX6_requireCell) (maxL := 3) (ret := none) (own := RX6) (Qc := fun A9 => (kQv D [(q_o, .inr (6, [x_o_setup, .ref q_o_now, x_o_trial, x_o_view, x_o_trialView, x_o_past, x_o_nextPast, x_o_undoable])), (q_o_now, .inr (4, [.ref q_o_now_box, x_o_now_crowd])), (q_o_now_box, .inr (0, [.int o_now_box_width, .int o_now_box_height, x_o_now_box_planes, x_o_now_box_holes, x_o_now_box_reach, x_o_now_box_cells, x_o_now_box_pulls, x_o_now_box_holeX, x_o_now_box_holeY, x_o_now_box_price]))] A9)) (by decide) rfl rfl (Nat.le_of_ble_eq_true rfl) ?_
  intro p e s m args below meth c A hx hb hr hts hown hml hlocks hname hE hP hD hA hsz ls hl
  have hK := hE.1
  have hl : lv_has ls 3 [(0, .ref q_o), (1, .int p1), (2, .int p2)] := hl
  have hS : va_S A s.heap s.heap [] := va_S.rf
  have f_f19 := hts (.fieldLink RX6 19 "PeepBox" "now" "LPeepBox$Show;") (by decide +kernel)
  have f_inX6 : ∀ w ∈ wsX60, w ∈ wsX6_requireCell := by decide +kernel
  have f_f51 := hts (.fieldLink RX6 51 "PeepBox$Show" "box" "LPeepBox$Box;") (by decide +kernel)
  have f_inX4 : ∀ w ∈ wsX40, w ∈ wsX6_requireCell := by decide +kernel
  have f_f111 := hts (.fieldLink RX6 111 "PeepBox$Box" "width" "I") (by decide +kernel)
  have f_inX0 : ∀ w ∈ wsX00, w ∈ wsX6_requireCell := by decide +kernel
  have f_f114 := hts (.fieldLink RX6 114 "PeepBox$Box" "height" "I") (by decide +kernel)
  obtain ⟨QQ, hQQ⟩ : ∃ Q9, Q9 = MQ below (kQv D [(q_o, .inr (6, [x_o_setup, .ref q_o_now, x_o_trial, x_o_view, x_o_trialView, x_o_past, x_o_nextPast, x_o_undoable])), (q_o_now, .inr (4, [.ref q_o_now_box, x_o_now_crowd])), (q_o_now_box, .inr (0, [.int o_now_box_width, .int o_now_box_height, x_o_now_box_planes, x_o_now_box_holes, x_o_now_box_reach, x_o_now_box_cells, x_o_now_box_pulls, x_o_now_box_holeX, x_o_now_box_holeY, x_o_now_box_price]))] A) args s 0 0 A := ⟨_, rfl⟩
  rw [← hQQ]
  have J36 : ∀ (H : Heap) (locs : List Loc) (ls : Array Slot), va_P D vwCl [(q_o, .inr (6, [x_o_setup, .ref q_o_now, x_o_trial, x_o_view, x_o_trialView, x_o_past, x_o_nextPast, x_o_undoable])), (q_o_now, .inr (4, [.ref q_o_now_box, x_o_now_crowd])), (q_o_now_box, .inr (0, [.int o_now_box_width, .int o_now_box_height, x_o_now_box_planes, x_o_now_box_holes, x_o_now_box_reach, x_o_now_box_cells, x_o_now_box_pulls, x_o_now_box_holeX, x_o_now_box_holeY, x_o_now_box_price]))] H → va_D A [(q_o, .inr (6, [x_o_setup, .ref q_o_now, x_o_trial, x_o_view, x_o_trialView, x_o_past, x_o_nextPast, x_o_undoable])), (q_o_now, .inr (4, [.ref q_o_now_box, x_o_now_crowd])), (q_o_now_box, .inr (0, [.int o_now_box_width, .int o_now_box_height, x_o_now_box_planes, x_o_now_box_holes, x_o_now_box_reach, x_o_now_box_cells, x_o_now_box_pulls, x_o_now_box_holeX, x_o_now_box_holeY, x_o_now_box_price]))] → va_S A s.heap H locs → lv_has ls 3 [] → X6_requireCell_J36 o_now_box_width o_now_box_height p1 p2 = some (.inr res) → W p l e ({ frames := 0, cells := 0, slots := 0, locals := 0 } : Room) s m args below meth c H locs 0 0 QQ (F0 m 36 ls []) := by
    intro  H locs ls hP hD hS hl hF
    unfold X6_requireCell_J36 at hF
    cases hF
  have main : ∀ (H : Heap) (locs : List Loc) (ls : Array Slot), va_P D vwCl [(q_o, .inr (6, [x_o_setup, .ref q_o_now, x_o_trial, x_o_view, x_o_trialView, x_o_past, x_o_nextPast, x_o_undoable])), (q_o_now, .inr (4, [.ref q_o_now_box, x_o_now_crowd])), (q_o_now_box, .inr (0, [.int o_now_box_width, .int o_now_box_height, x_o_now_box_planes, x_o_now_box_holes, x_o_now_box_reach, x_o_now_box_cells, x_o_now_box_pulls, x_o_now_box_holeX, x_o_now_box_holeY, x_o_now_box_price]))] H → va_D A [(q_o, .inr (6, [x_o_setup, .ref q_o_now, x_o_trial, x_o_view, x_o_trialView, x_o_past, x_o_nextPast, x_o_undoable])), (q_o_now, .inr (4, [.ref q_o_now_box, x_o_now_crowd])), (q_o_now_box, .inr (0, [.int o_now_box_width, .int o_now_box_height, x_o_now_box_planes, x_o_now_box_holes, x_o_now_box_reach, x_o_now_box_cells, x_o_now_box_pulls, x_o_now_box_holeX, x_o_now_box_holeY, x_o_now_box_price]))] → va_S A s.heap H locs → lv_has ls 3 [(0, .ref q_o), (1, .int p1), (2, .int p2)] → W p l e ({ frames := 0, cells := 0, slots := 0, locals := 0 } : Room) s m args below meth c H locs 0 0 QQ (F0 m 0 ls []) := by
    intro H locs ls hP hD hS hl
    unfold X6_requireCell at hF
    refine lv_iload_n hx hb dX6_requireCell_0 rfl (lv_at hl 1 rfl) ?_
    refine lv_if_lt (tgt := 36) hx hb dX6_requireCell_1 (by decide) (fun c1 => ?_) (fun c1 => ?_)
    · have hF := if_p hF c1
      exact J36  H locs ls hP hD hS (lv_sub hl [] rfl) hF
    · have hF := if_n hF c1
      refine lv_iload_n hx hb dX6_requireCell_4 rfl (lv_at hl 1 rfl) ?_
      refine lv_aload_n hx hb dX6_requireCell_5 rfl (lv_at hl 0 rfl) ?_
      refine va_get (D := D) (ci := 6) (v := .ref q_o_now) (C := RX6) (T := TX6) (N := 8) hx hb hts f_inX6 hown hK hP 0 rfl rfl 1 (by decide) f_f19 (fun _ h9 => h9) rfl dX6_requireCell_6 ?_
      refine va_get (D := D) (ci := 4) (v := .ref q_o_now_box) (C := RX4) (T := TX4) (N := 2) hx hb hts f_inX4 hown hK hP 1 rfl rfl 0 (by decide) f_f51 (fun _ h9 => h9) rfl dX6_requireCell_9 ?_
      refine va_get (D := D) (ci := 0) (v := .int o_now_box_width) (C := RX0) (T := TX0) (N := 10) hx hb hts f_inX0 hown hK hP 2 rfl rfl 0 (by decide) f_f111 (fun _ h9 => h9) rfl dX6_requireCell_12 ?_
      refine lv_icmp_ge (tgt := 36) hx hb dX6_requireCell_15 (by decide) (fun c2 => ?_) (fun c2 => ?_)
      · have hF := if_p hF c2
        exact J36  H locs ls hP hD hS (lv_sub hl [] rfl) hF
      · have hF := if_n hF c2
        refine lv_iload_n hx hb dX6_requireCell_18 rfl (lv_at hl 2 rfl) ?_
        refine lv_if_lt (tgt := 36) hx hb dX6_requireCell_19 (by decide) (fun c3 => ?_) (fun c3 => ?_)
        · have hF := if_p hF c3
          exact J36  H locs ls hP hD hS (lv_sub hl [] rfl) hF
        · have hF := if_n hF c3
          refine lv_iload_n hx hb dX6_requireCell_22 rfl (lv_at hl 2 rfl) ?_
          refine lv_aload_n hx hb dX6_requireCell_23 rfl (lv_at hl 0 rfl) ?_
          refine va_get (D := D) (ci := 6) (v := .ref q_o_now) (C := RX6) (T := TX6) (N := 8) hx hb hts f_inX6 hown hK hP 0 rfl rfl 1 (by decide) f_f19 (fun _ h9 => h9) rfl dX6_requireCell_24 ?_
          refine va_get (D := D) (ci := 4) (v := .ref q_o_now_box) (C := RX4) (T := TX4) (N := 2) hx hb hts f_inX4 hown hK hP 1 rfl rfl 0 (by decide) f_f51 (fun _ h9 => h9) rfl dX6_requireCell_27 ?_
          refine va_get (D := D) (ci := 0) (v := .int o_now_box_height) (C := RX0) (T := TX0) (N := 10) hx hb hts f_inX0 hown hK hP 2 rfl rfl 1 (by decide) f_f114 (fun _ h9 => h9) rfl dX6_requireCell_30 ?_
          refine lv_icmp_lt (tgt := 47) hx hb dX6_requireCell_33 (by decide) (fun c4 => ?_) (fun c4 => ?_)
          · have hF := if_p hF c4
            obtain rfl := si_o hF
            rw [hQQ]
            exact kr_v hx hb hr hlocks hP hD hS dX6_requireCell_47
          · have hF := if_n hF c4
            exact J36  H locs ls hP hD hS (lv_sub hl [] rfl) hF
  exact main s.heap [] ls hP hD hS hl
set_option maxHeartbeats 4000000 in
set_option maxRecDepth 100000 in
theorem t_X6_requireCell {l : Launch} {D : va_G} {cy : Nat → ClassId} (hst : l.stackTraces = false) (q_o q_o_now q_o_now_box : Nat) (sz : Nat) (x_o_setup x_o_trial x_o_view x_o_trialView x_o_past x_o_nextPast x_o_undoable x_o_now_crowd x_o_now_box_planes x_o_now_box_holes x_o_now_box_reach x_o_now_box_cells x_o_now_box_pulls x_o_now_box_holeX x_o_now_box_holeY x_o_now_box_price : Value) (o_now_box_width : Int32) (o_now_box_height : Int32) (p1 : Int32) (p2 : Int32) (k9 : Nat) (hF : X6_requireCell o_now_box_width o_now_box_height p1 p2 = some (.inl k9)) : vx_Met l yX6_requireCell wsX6_requireCell ({ frames := 6, cells := 1, slots := 6, locals := 90 } : Room) (kP (EN D cy) D [.ref q_o, .int p1, .int p2] [(q_o, .inr (6, [x_o_setup, .ref q_o_now, x_o_trial, x_o_view, x_o_trialView, x_o_past, x_o_nextPast, x_o_undoable])), (q_o_now, .inr (4, [.ref q_o_now_box, x_o_now_crowd])), (q_o_now_box, .inr (0, [.int o_now_box_width, .int o_now_box_height, x_o_now_box_planes, x_o_now_box_holes, x_o_now_box_reach, x_o_now_box_cells, x_o_now_box_pulls, x_o_now_box_holeX, x_o_now_box_holeY, x_o_now_box_price]))] sz) (kTv (va_A [(q_o, .inr (6, [x_o_setup, .ref q_o_now, x_o_trial, x_o_view, x_o_trialView, x_o_past, x_o_nextPast, x_o_undoable])), (q_o_now, .inr (4, [.ref q_o_now_box, x_o_now_crowd])), (q_o_now_box, .inr (0, [.int o_now_box_width, .int o_now_box_height, x_o_now_box_planes, x_o_now_box_holes, x_o_now_box_reach, x_o_now_box_cells, x_o_now_box_pulls, x_o_now_box_holeX, x_o_now_box_holeY, x_o_now_box_price]))] sz)) (kXC D k9 [(q_o, .inr (6, [x_o_setup, .ref q_o_now, x_o_trial, x_o_view, x_o_trialView, x_o_past, x_o_nextPast, x_o_undoable])), (q_o_now, .inr (4, [.ref q_o_now_box, x_o_now_crowd])), (q_o_now_box, .inr (0, [.int o_now_box_width, .int o_now_box_height, x_o_now_box_planes, x_o_now_box_holes, x_o_now_box_reach, x_o_now_box_cells, x_o_now_box_pulls, x_o_now_box_holeX, x_o_now_box_holeY, x_o_now_box_price]))] (va_A [(q_o, .inr (6, [x_o_setup, .ref q_o_now, x_o_trial, x_o_view, x_o_trialView, x_o_past, x_o_nextPast, x_o_undoable])), (q_o_now, .inr (4, [.ref q_o_now_box, x_o_now_crowd])), (q_o_now_box, .inr (0, [.int o_now_box_width, .int o_now_box_height, x_o_now_box_planes, x_o_now_box_holes, x_o_now_box_reach, x_o_now_box_cells, x_o_now_box_pulls, x_o_now_box_holeX, x_o_now_box_holeY, x_o_now_box_price]))] sz)) 1 6 (va_A [(q_o, .inr (6, [x_o_setup, .ref q_o_now, x_o_trial, x_o_view, x_o_trialView, x_o_past, x_o_nextPast, x_o_undoable])), (q_o_now, .inr (4, [.ref q_o_now_box, x_o_now_crowd])), (q_o_now_box, .inr (0, [.int o_now_box_width, .int o_now_box_height, x_o_now_box_planes, x_o_now_box_holes, x_o_now_box_reach, x_o_now_box_cells, x_o_now_box_pulls, x_o_now_box_holeX, x_o_now_box_holeY, x_o_now_box_price]))] sz) := by
  refine kMetT (y := yX6_requireCell) (av := [.ref q_o, .int p1, .int p2]) (cc := cX6_requireCell) (maxL := 3) (ret := none) (own := RX6) (Qc := fun A9 => (kTv A9)) (X := fun A9 => (kXC D k9 [(q_o, .inr (6, [x_o_setup, .ref q_o_now, x_o_trial, x_o_view, x_o_trialView, x_o_past, x_o_nextPast, x_o_undoable])), (q_o_now, .inr (4, [.ref q_o_now_box, x_o_now_crowd])), (q_o_now_box, .inr (0, [.int o_now_box_width, .int o_now_box_height, x_o_now_box_planes, x_o_now_box_holes, x_o_now_box_reach, x_o_now_box_cells, x_o_now_box_pulls, x_o_now_box_holeX, x_o_now_box_holeY, x_o_now_box_price]))] A9)) (by decide) rfl rfl (Nat.le_of_ble_eq_true rfl) ?_
  intro p e s m args below meth c A hx hb hr hts hown hml hlocks hxt hE hP hD hA hsz ls hl
  have hK := hE.1
  have hl : lv_has ls 3 [(0, .ref q_o), (1, .int p1), (2, .int p2)] := hl
  have hS : va_S A s.heap s.heap [] := va_S.rf
  have f_k268 := hts (.classLink RX6 268 "java/lang/IndexOutOfBoundsException") (by decide +kernel)
  have f_i1 := hts (.initialized "java/lang/IndexOutOfBoundsException") (by decide +kernel)
  have f_f19 := hts (.fieldLink RX6 19 "PeepBox" "now" "LPeepBox$Show;") (by decide +kernel)
  have f_inX6 : ∀ w ∈ wsX60, w ∈ wsX6_requireCell := by decide +kernel
  have f_f51 := hts (.fieldLink RX6 51 "PeepBox$Show" "box" "LPeepBox$Box;") (by decide +kernel)
  have f_inX4 : ∀ w ∈ wsX40, w ∈ wsX6_requireCell := by decide +kernel
  have f_f111 := hts (.fieldLink RX6 111 "PeepBox$Box" "width" "I") (by decide +kernel)
  have f_inX0 : ∀ w ∈ wsX00, w ∈ wsX6_requireCell := by decide +kernel
  have f_f114 := hts (.fieldLink RX6 114 "PeepBox$Box" "height" "I") (by decide +kernel)
  have fat_272 := vx_hat (L := vx_atS RX6 272 "java/lang/IndexOutOfBoundsException" ["java/lang/RuntimeException", "java/lang/Exception"]) (B := [.castable "java/lang/IndexOutOfBoundsException" "java/lang/IndexOutOfBoundsException", .declares (Bundle.initS "java/lang/RuntimeException"), .declares (Bundle.initS "java/lang/Exception"), .declares (Bundle.initS "java/lang/Throwable")]) (fun w hw => hts w (List.mem_cons_of_mem _ (List.mem_append_right _ hw))) (by decide +kernel) (vx_c (va_Nw.use rfl (hE.2.2.2.2.2.2.2.1 _ (List.mem_of_getElem? (i := 0) rfl))) (vx_c (va_Nw.use rfl (hE.2.2.2.2.2.2.2.2.2 _ (List.mem_of_getElem? (i := 0) rfl))) (vx_c (va_Nw.use rfl (hE.2.2.2.2.2.2.2.2.2 _ (List.mem_of_getElem? (i := 1) rfl))) (vx_c (va_Nw.use rfl (hE.2.2.2.2.2.2.2.2.2 _ (List.mem_of_getElem? (i := 2) rfl))) vx_n))))
  obtain ⟨QQ, hQQ⟩ : ∃ Q9, Q9 = vx_MQ below (kTv A) (kXC D k9 [(q_o, .inr (6, [x_o_setup, .ref q_o_now, x_o_trial, x_o_view, x_o_trialView, x_o_past, x_o_nextPast, x_o_undoable])), (q_o_now, .inr (4, [.ref q_o_now_box, x_o_now_crowd])), (q_o_now_box, .inr (0, [.int o_now_box_width, .int o_now_box_height, x_o_now_box_planes, x_o_now_box_holes, x_o_now_box_reach, x_o_now_box_cells, x_o_now_box_pulls, x_o_now_box_holeX, x_o_now_box_holeY, x_o_now_box_price]))] A) args s 1 6 A := ⟨_, rfl⟩
  rw [← hQQ]
  have J36 : ∀ (H : Heap) (locs : List Loc) (ls : Array Slot), va_P D vwCl [(q_o, .inr (6, [x_o_setup, .ref q_o_now, x_o_trial, x_o_view, x_o_trialView, x_o_past, x_o_nextPast, x_o_undoable])), (q_o_now, .inr (4, [.ref q_o_now_box, x_o_now_crowd])), (q_o_now_box, .inr (0, [.int o_now_box_width, .int o_now_box_height, x_o_now_box_planes, x_o_now_box_holes, x_o_now_box_reach, x_o_now_box_cells, x_o_now_box_pulls, x_o_now_box_holeX, x_o_now_box_holeY, x_o_now_box_price]))] H → va_D A [(q_o, .inr (6, [x_o_setup, .ref q_o_now, x_o_trial, x_o_view, x_o_trialView, x_o_past, x_o_nextPast, x_o_undoable])), (q_o_now, .inr (4, [.ref q_o_now_box, x_o_now_crowd])), (q_o_now_box, .inr (0, [.int o_now_box_width, .int o_now_box_height, x_o_now_box_planes, x_o_now_box_holes, x_o_now_box_reach, x_o_now_box_cells, x_o_now_box_pulls, x_o_now_box_holeX, x_o_now_box_holeY, x_o_now_box_price]))] → va_S A s.heap H locs → lv_has ls 3 [] → X6_requireCell_J36 o_now_box_width o_now_box_height p1 p2 = some (.inl k9) → W p l e ({ frames := 6, cells := 1, slots := 6, locals := 90 } : Room) s m args below meth c H locs 0 0 QQ (F0 m 36 ls []) := by
    intro  H locs ls hP hD hS hl hF
    unfold X6_requireCell_J36 at hF
    obtain rfl := sl_o hF
    obtain ⟨a1, hRa1, hTa1⟩ := hE.2.2.1 ("PeepBox", 277, "no such cell", [110, 111, 32, 115, 117, 99, 104, 32, 99, 101, 108, 108]) (by decide +kernel)
    rw [hQQ]
    exact vx_throwSW (A := A) hx hb hst hown (by decide +kernel) (by decide +kernel) f_k268 f_i1 hRa1 fat_272 (by decide +kernel) hE.2.2.2.2.1 hE.2.2.2.2.2.1 hS (by rw [hml]; exact hl.1) dX6_requireCell_36 dX6_requireCell_39 dX6_requireCell_40 dX6_requireCell_43 dX6_requireCell_46 (fun z hz => absurd hz (hxt z)) (Nat.le_of_ble_eq_true rfl) (Nat.le_of_ble_eq_true rfl) (Nat.le_of_ble_eq_true rfl) (Nat.le_of_ble_eq_true rfl) hlocks (kx_end hP hD hS rfl) hS.2.2 (Nat.le_of_ble_eq_true rfl) (Nat.le_of_ble_eq_true rfl)
  have main : ∀ (H : Heap) (locs : List Loc) (ls : Array Slot), va_P D vwCl [(q_o, .inr (6, [x_o_setup, .ref q_o_now, x_o_trial, x_o_view, x_o_trialView, x_o_past, x_o_nextPast, x_o_undoable])), (q_o_now, .inr (4, [.ref q_o_now_box, x_o_now_crowd])), (q_o_now_box, .inr (0, [.int o_now_box_width, .int o_now_box_height, x_o_now_box_planes, x_o_now_box_holes, x_o_now_box_reach, x_o_now_box_cells, x_o_now_box_pulls, x_o_now_box_holeX, x_o_now_box_holeY, x_o_now_box_price]))] H → va_D A [(q_o, .inr (6, [x_o_setup, .ref q_o_now, x_o_trial, x_o_view, x_o_trialView, x_o_past, x_o_nextPast, x_o_undoable])), (q_o_now, .inr (4, [.ref q_o_now_box, x_o_now_crowd])), (q_o_now_box, .inr (0, [.int o_now_box_width, .int o_now_box_height, x_o_now_box_planes, x_o_now_box_holes, x_o_now_box_reach, x_o_now_box_cells, x_o_now_box_pulls, x_o_now_box_holeX, x_o_now_box_holeY, x_o_now_box_price]))] → va_S A s.heap H locs → lv_has ls 3 [(0, .ref q_o), (1, .int p1), (2, .int p2)] → W p l e ({ frames := 6, cells := 1, slots := 6, locals := 90 } : Room) s m args below meth c H locs 0 0 QQ (F0 m 0 ls []) := by
    intro H locs ls hP hD hS hl
    unfold X6_requireCell at hF
    refine lv_iload_n hx hb dX6_requireCell_0 rfl (lv_at hl 1 rfl) ?_
    refine lv_if_lt (tgt := 36) hx hb dX6_requireCell_1 (by decide) (fun c2 => ?_) (fun c2 => ?_)
    · have hF := if_p hF c2
      exact J36  H locs ls hP hD hS (lv_sub hl [] rfl) hF
    · have hF := if_n hF c2
      refine lv_iload_n hx hb dX6_requireCell_4 rfl (lv_at hl 1 rfl) ?_
      refine lv_aload_n hx hb dX6_requireCell_5 rfl (lv_at hl 0 rfl) ?_
      refine va_get (D := D) (ci := 6) (v := .ref q_o_now) (C := RX6) (T := TX6) (N := 8) hx hb hts f_inX6 hown hK hP 0 rfl rfl 1 (by decide) f_f19 (fun _ h9 => h9) rfl dX6_requireCell_6 ?_
      refine va_get (D := D) (ci := 4) (v := .ref q_o_now_box) (C := RX4) (T := TX4) (N := 2) hx hb hts f_inX4 hown hK hP 1 rfl rfl 0 (by decide) f_f51 (fun _ h9 => h9) rfl dX6_requireCell_9 ?_
      refine va_get (D := D) (ci := 0) (v := .int o_now_box_width) (C := RX0) (T := TX0) (N := 10) hx hb hts f_inX0 hown hK hP 2 rfl rfl 0 (by decide) f_f111 (fun _ h9 => h9) rfl dX6_requireCell_12 ?_
      refine lv_icmp_ge (tgt := 36) hx hb dX6_requireCell_15 (by decide) (fun c3 => ?_) (fun c3 => ?_)
      · have hF := if_p hF c3
        exact J36  H locs ls hP hD hS (lv_sub hl [] rfl) hF
      · have hF := if_n hF c3
        refine lv_iload_n hx hb dX6_requireCell_18 rfl (lv_at hl 2 rfl) ?_
        refine lv_if_lt (tgt := 36) hx hb dX6_requireCell_19 (by decide) (fun c4 => ?_) (fun c4 => ?_)
        · have hF := if_p hF c4
          exact J36  H locs ls hP hD hS (lv_sub hl [] rfl) hF
        · have hF := if_n hF c4
          refine lv_iload_n hx hb dX6_requireCell_22 rfl (lv_at hl 2 rfl) ?_
          refine lv_aload_n hx hb dX6_requireCell_23 rfl (lv_at hl 0 rfl) ?_
          refine va_get (D := D) (ci := 6) (v := .ref q_o_now) (C := RX6) (T := TX6) (N := 8) hx hb hts f_inX6 hown hK hP 0 rfl rfl 1 (by decide) f_f19 (fun _ h9 => h9) rfl dX6_requireCell_24 ?_
          refine va_get (D := D) (ci := 4) (v := .ref q_o_now_box) (C := RX4) (T := TX4) (N := 2) hx hb hts f_inX4 hown hK hP 1 rfl rfl 0 (by decide) f_f51 (fun _ h9 => h9) rfl dX6_requireCell_27 ?_
          refine va_get (D := D) (ci := 0) (v := .int o_now_box_height) (C := RX0) (T := TX0) (N := 10) hx hb hts f_inX0 hown hK hP 2 rfl rfl 1 (by decide) f_f114 (fun _ h9 => h9) rfl dX6_requireCell_30 ?_
          refine lv_icmp_lt (tgt := 47) hx hb dX6_requireCell_33 (by decide) (fun c5 => ?_) (fun c5 => ?_)
          · have hF := if_p hF c5
            cases hF
          · have hF := if_n hF c5
            exact J36  H locs ls hP hD hS (lv_sub hl [] rfl) hF
  exact main s.heap [] ls hP hD hS hl
theorem kd_X6_stands : yX6_stands.cls = RX6 ∧ yX6_stands.cls ≠ "java/lang/invoke/MethodHandle" ∧ yX6_stands.cls ≠ "java/lang/invoke/VarHandle" ∧ (parseMethodDescriptor yX6_stands.desc).map (fun d => d.parameters.length) = some 3 := by decide +kernel
set_option maxHeartbeats 4000000 in
set_option maxRecDepth 100000 in
theorem c_X6_stands {l : Launch} {D : va_G} {cy : Nat → ClassId} (q_o q_o_now q_o_now_box q_o_now_box_cells q_o_now_box_pulls : Nat) (sz : Nat) (x_o_setup x_o_trial x_o_view x_o_trialView x_o_past x_o_nextPast x_o_undoable x_o_now_crowd x_o_now_box_holes x_o_now_box_reach x_o_now_box_holeX x_o_now_box_holeY x_o_now_box_price : Value) (o_now_box_width : Int32) (o_now_box_height : Int32) (o_now_box_planes : Int32) (o_now_box_cells : Nat → Int32) (o_now_box_pulls : Nat → Int32) (p1 : Int32) (p2 : Int32) (p3 : Int32) (res : Int32) (hF : X6_stands o_now_box_width o_now_box_height o_now_box_planes o_now_box_cells o_now_box_pulls p1 p2 p3 = some (.inr res)) : Met l yX6_stands wsX6_stands ({ frames := 1, cells := 0, slots := 0, locals := 24 } : Room) (kP (EN D cy) D [.ref q_o, .int p1, .int p2, .int p3] [(q_o, .inr (6, [x_o_setup, .ref q_o_now, x_o_trial, x_o_view, x_o_trialView, x_o_past, x_o_nextPast, x_o_undoable])), (q_o_now, .inr (4, [.ref q_o_now_box, x_o_now_crowd])), (q_o_now_box, .inr (0, [.int o_now_box_width, .int o_now_box_height, .int o_now_box_planes, x_o_now_box_holes, x_o_now_box_reach, .ref q_o_now_box_cells, .ref q_o_now_box_pulls, x_o_now_box_holeX, x_o_now_box_holeY, x_o_now_box_price])), (q_o_now_box_cells, .inl (cy 0, 480, .inl o_now_box_cells)), (q_o_now_box_pulls, .inl (cy 0, 5, .inl o_now_box_pulls))] sz) (kQi D res [(q_o, .inr (6, [x_o_setup, .ref q_o_now, x_o_trial, x_o_view, x_o_trialView, x_o_past, x_o_nextPast, x_o_undoable])), (q_o_now, .inr (4, [.ref q_o_now_box, x_o_now_crowd])), (q_o_now_box, .inr (0, [.int o_now_box_width, .int o_now_box_height, .int o_now_box_planes, x_o_now_box_holes, x_o_now_box_reach, .ref q_o_now_box_cells, .ref q_o_now_box_pulls, x_o_now_box_holeX, x_o_now_box_holeY, x_o_now_box_price])), (q_o_now_box_cells, .inl (cy 0, 480, .inl o_now_box_cells)), (q_o_now_box_pulls, .inl (cy 0, 5, .inl o_now_box_pulls))] (va_A [(q_o, .inr (6, [x_o_setup, .ref q_o_now, x_o_trial, x_o_view, x_o_trialView, x_o_past, x_o_nextPast, x_o_undoable])), (q_o_now, .inr (4, [.ref q_o_now_box, x_o_now_crowd])), (q_o_now_box, .inr (0, [.int o_now_box_width, .int o_now_box_height, .int o_now_box_planes, x_o_now_box_holes, x_o_now_box_reach, .ref q_o_now_box_cells, .ref q_o_now_box_pulls, x_o_now_box_holeX, x_o_now_box_holeY, x_o_now_box_price])), (q_o_now_box_cells, .inl (cy 0, 480, .inl o_now_box_cells)), (q_o_now_box_pulls, .inl (cy 0, 5, .inl o_now_box_pulls))] sz)) 0 0 (va_A [(q_o, .inr (6, [x_o_setup, .ref q_o_now, x_o_trial, x_o_view, x_o_trialView, x_o_past, x_o_nextPast, x_o_undoable])), (q_o_now, .inr (4, [.ref q_o_now_box, x_o_now_crowd])), (q_o_now_box, .inr (0, [.int o_now_box_width, .int o_now_box_height, .int o_now_box_planes, x_o_now_box_holes, x_o_now_box_reach, .ref q_o_now_box_cells, .ref q_o_now_box_pulls, x_o_now_box_holeX, x_o_now_box_holeY, x_o_now_box_price])), (q_o_now_box_cells, .inl (cy 0, 480, .inl o_now_box_cells)), (q_o_now_box_pulls, .inl (cy 0, 5, .inl o_now_box_pulls))] sz) := by
  refine kMet (y := yX6_stands) (av := [.ref q_o, .int p1, .int p2, .int p3]) (cc := cX6_stands) (maxL := 4) (ret := some .int) (own := RX6) (Qc := fun A9 => (kQi D res [(q_o, .inr (6, [x_o_setup, .ref q_o_now, x_o_trial, x_o_view, x_o_trialView, x_o_past, x_o_nextPast, x_o_undoable])), (q_o_now, .inr (4, [.ref q_o_now_box, x_o_now_crowd])), (q_o_now_box, .inr (0, [.int o_now_box_width, .int o_now_box_height, .int o_now_box_planes, x_o_now_box_holes, x_o_now_box_reach, .ref q_o_now_box_cells, .ref q_o_now_box_pulls, x_o_now_box_holeX, x_o_now_box_holeY, x_o_now_box_price])), (q_o_now_box_cells, .inl (cy 0, 480, .inl o_now_box_cells)), (q_o_now_box_pulls, .inl (cy 0, 5, .inl o_now_box_pulls))] A9)) (by decide) rfl rfl (Nat.le_of_ble_eq_true rfl) ?_
  intro p e s m args below meth c A hx hb hr hts hown hml hlocks hname hE hP hD hA hsz ls hl
  have hK := hE.1
  have hl : lv_has ls 4 [(0, .ref q_o), (1, .int p1), (2, .int p2), (3, .int p3)] := hl
  have hS : va_S A s.heap s.heap [] := va_S.rf
  have f_f19 := hts (.fieldLink RX6 19 "PeepBox" "now" "LPeepBox$Show;") (by decide +kernel)
  have f_inX6 : ∀ w ∈ wsX60, w ∈ wsX6_stands := by decide +kernel
  have f_f51 := hts (.fieldLink RX6 51 "PeepBox$Show" "box" "LPeepBox$Box;") (by decide +kernel)
  have f_inX4 : ∀ w ∈ wsX40, w ∈ wsX6_stands := by decide +kernel
  obtain ⟨QQ, hQQ⟩ : ∃ Q9, Q9 = MQ below (kQi D res [(q_o, .inr (6, [x_o_setup, .ref q_o_now, x_o_trial, x_o_view, x_o_trialView, x_o_past, x_o_nextPast, x_o_undoable])), (q_o_now, .inr (4, [.ref q_o_now_box, x_o_now_crowd])), (q_o_now_box, .inr (0, [.int o_now_box_width, .int o_now_box_height, .int o_now_box_planes, x_o_now_box_holes, x_o_now_box_reach, .ref q_o_now_box_cells, .ref q_o_now_box_pulls, x_o_now_box_holeX, x_o_now_box_holeY, x_o_now_box_price])), (q_o_now_box_cells, .inl (cy 0, 480, .inl o_now_box_cells)), (q_o_now_box_pulls, .inl (cy 0, 5, .inl o_now_box_pulls))] A) args s 0 0 A := ⟨_, rfl⟩
  rw [← hQQ]
  have main : ∀ (H : Heap) (locs : List Loc) (ls : Array Slot), va_P D vwCl [(q_o, .inr (6, [x_o_setup, .ref q_o_now, x_o_trial, x_o_view, x_o_trialView, x_o_past, x_o_nextPast, x_o_undoable])), (q_o_now, .inr (4, [.ref q_o_now_box, x_o_now_crowd])), (q_o_now_box, .inr (0, [.int o_now_box_width, .int o_now_box_height, .int o_now_box_planes, x_o_now_box_holes, x_o_now_box_reach, .ref q_o_now_box_cells, .ref q_o_now_box_pulls, x_o_now_box_holeX, x_o_now_box_holeY, x_o_now_box_price])), (q_o_now_box_cells, .inl (cy 0, 480, .inl o_now_box_cells)), (q_o_now_box_pulls, .inl (cy 0, 5, .inl o_now_box_pulls))] H → va_D A [(q_o, .inr (6, [x_o_setup, .ref q_o_now, x_o_trial, x_o_view, x_o_trialView, x_o_past, x_o_nextPast, x_o_undoable])), (q_o_now, .inr (4, [.ref q_o_now_box, x_o_now_crowd])), (q_o_now_box, .inr (0, [.int o_now_box_width, .int o_now_box_height, .int o_now_box_planes, x_o_now_box_holes, x_o_now_box_reach, .ref q_o_now_box_cells, .ref q_o_now_box_pulls, x_o_now_box_holeX, x_o_now_box_holeY, x_o_now_box_price])), (q_o_now_box_cells, .inl (cy 0, 480, .inl o_now_box_cells)), (q_o_now_box_pulls, .inl (cy 0, 5, .inl o_now_box_pulls))] → va_S A s.heap H locs → lv_has ls 4 [(0, .ref q_o), (1, .int p1), (2, .int p2), (3, .int p3)] → W p l e ({ frames := 1, cells := 0, slots := 0, locals := 24 } : Room) s m args below meth c H locs 0 0 QQ (F0 m 0 ls []) := by
    intro H locs ls hP hD hS hl
    unfold X6_stands at hF
    refine lv_aload_n hx hb dX6_stands_0 rfl (lv_at hl 0 rfl) ?_
    refine lv_iload_n hx hb dX6_stands_1 rfl (lv_at hl 1 rfl) ?_
    obtain ⟨h1, hF⟩ := bx0_n hF
    refine kd_v [(q_o, .inr (6, [x_o_setup, .ref q_o_now, x_o_trial, x_o_view, x_o_trialView, x_o_past, x_o_nextPast, x_o_undoable])), (q_o_now, .inr (4, [.ref q_o_now_box, x_o_now_crowd])), (q_o_now_box, .inr (0, [.int o_now_box_width, .int o_now_box_height, .int o_now_box_planes, x_o_now_box_holes, x_o_now_box_reach, .ref q_o_now_box_cells, .ref q_o_now_box_pulls, x_o_now_box_holeX, x_o_now_box_holeY, x_o_now_box_price])), (q_o_now_box_cells, .inl (cy 0, 480, .inl o_now_box_cells)), (q_o_now_box_pulls, .inl (cy 0, 5, .inl o_now_box_pulls))] (va_runV (As := [.int p1]) (rest := []) ⟨hx, hb, hml, hown, hts⟩ (c_X6_requirePlane q_o q_o_now q_o_now_box H.size x_o_setup x_o_trial x_o_view x_o_trialView x_o_past x_o_nextPast x_o_undoable x_o_now_crowd (.int o_now_box_width) (.int o_now_box_height) x_o_now_box_holes x_o_now_box_reach (.ref q_o_now_box_cells) (.ref q_o_now_box_pulls) x_o_now_box_holeX x_o_now_box_holeY x_o_now_box_price o_now_box_planes p1 _ h1) (cwV 1 hts gX6_stands_X6_requirePlane rfl rfl rfl kd_X6_requirePlane ⟨Nat.le_of_ble_eq_true rfl, Nat.le_of_ble_eq_true rfl⟩) ⟨kP_blind (EN_ok D cy) D _ _ _, va_recv hK hP (ci := 6) (q0 := 0) rfl rfl, kStart (EN_ok D cy) hE hP hD hS hA [0, 1, 2] rfl rfl _⟩ rfl rfl hl.1 rfl (lv_room (Nat.le_of_ble_eq_true rfl)) dX6_stands_2 ⟨Nat.zero_le _, Nat.zero_le _⟩) hP hD hS hA [0, 1, 2] [3, 4] rfl rfl rfl 5 rfl (by decide +kernel) (fun H locs hP hD hS => ?_)
    refine lv_aload_n hx hb dX6_stands_5 rfl (lv_at hl 0 rfl) ?_
    refine lv_iload_n hx hb dX6_stands_6 rfl (lv_at hl 2 rfl) ?_
    refine lv_iload_n hx hb dX6_stands_7 rfl (lv_at hl 3 rfl) ?_
    obtain ⟨h2, hF⟩ := bx0_n hF
    refine kd_v [(q_o, .inr (6, [x_o_setup, .ref q_o_now, x_o_trial, x_o_view, x_o_trialView, x_o_past, x_o_nextPast, x_o_undoable])), (q_o_now, .inr (4, [.ref q_o_now_box, x_o_now_crowd])), (q_o_now_box, .inr (0, [.int o_now_box_width, .int o_now_box_height, .int o_now_box_planes, x_o_now_box_holes, x_o_now_box_reach, .ref q_o_now_box_cells, .ref q_o_now_box_pulls, x_o_now_box_holeX, x_o_now_box_holeY, x_o_now_box_price])), (q_o_now_box_cells, .inl (cy 0, 480, .inl o_now_box_cells)), (q_o_now_box_pulls, .inl (cy 0, 5, .inl o_now_box_pulls))] (va_runV (As := [.int p2, .int p3]) (rest := []) ⟨hx, hb, hml, hown, hts⟩ (c_X6_requireCell q_o q_o_now q_o_now_box H.size x_o_setup x_o_trial x_o_view x_o_trialView x_o_past x_o_nextPast x_o_undoable x_o_now_crowd (.int o_now_box_planes) x_o_now_box_holes x_o_now_box_reach (.ref q_o_now_box_cells) (.ref q_o_now_box_pulls) x_o_now_box_holeX x_o_now_box_holeY x_o_now_box_price o_now_box_width o_now_box_height p2 p3 _ h2) (cwV 2 hts gX6_stands_X6_requireCell rfl rfl rfl kd_X6_requireCell ⟨Nat.le_of_ble_eq_true rfl, Nat.le_of_ble_eq_true rfl⟩) ⟨kP_blind (EN_ok D cy) D _ _ _, va_recv hK hP (ci := 6) (q0 := 0) rfl rfl, kStart (EN_ok D cy) hE hP hD hS hA [0, 1, 2] rfl rfl _⟩ rfl rfl hl.1 rfl (lv_room (Nat.le_of_ble_eq_true rfl)) dX6_stands_8 ⟨Nat.zero_le _, Nat.zero_le _⟩) hP hD hS hA [0, 1, 2] [3, 4] rfl rfl rfl 5 rfl (by decide +kernel) (fun H locs hP hD hS => ?_)
    refine lv_aload_n hx hb dX6_stands_11 rfl (lv_at hl 0 rfl) ?_
    refine va_get (D := D) (ci := 6) (v := .ref q_o_now) (C := RX6) (T := TX6) (N := 8) hx hb hts f_inX6 hown hK hP 0 rfl rfl 1 (by decide) f_f19 (fun _ h9 => h9) rfl dX6_stands_12 ?_
    refine va_get (D := D) (ci := 4) (v := .ref q_o_now_box) (C := RX4) (T := TX4) (N := 2) hx hb hts f_inX4 hown hK hP 1 rfl rfl 0 (by decide) f_f51 (fun _ h9 => h9) rfl dX6_stands_15 ?_
    refine lv_iload_n hx hb dX6_stands_18 rfl (lv_at hl 1 rfl) ?_
    refine lv_iload_n hx hb dX6_stands_19 rfl (lv_at hl 2 rfl) ?_
    refine lv_iload_n hx hb dX6_stands_20 rfl (lv_at hl 3 rfl) ?_
    obtain ⟨r3, h4, hF⟩ := bn1_o hF
    refine kd_i [(q_o, .inr (6, [x_o_setup, .ref q_o_now, x_o_trial, x_o_view, x_o_trialView, x_o_past, x_o_nextPast, x_o_undoable])), (q_o_now, .inr (4, [.ref q_o_now_box, x_o_now_crowd])), (q_o_now_box, .inr (0, [.int o_now_box_width, .int o_now_box_height, .int o_now_box_planes, x_o_now_box_holes, x_o_now_box_reach, .ref q_o_now_box_cells, .ref q_o_now_box_pulls, x_o_now_box_holeX, x_o_now_box_holeY, x_o_now_box_price])), (q_o_now_box_cells, .inl (cy 0, 480, .inl o_now_box_cells)), (q_o_now_box_pulls, .inl (cy 0, 5, .inl o_now_box_pulls))] (va_runV (As := [.int p1, .int p2, .int p3]) (rest := []) ⟨hx, hb, hml, hown, hts⟩ (c_X0_kindAt q_o_now_box q_o_now_box_cells q_o_now_box_pulls H.size (.int o_now_box_width) (.int o_now_box_planes) x_o_now_box_holes x_o_now_box_reach x_o_now_box_holeX x_o_now_box_holeY x_o_now_box_price o_now_box_height o_now_box_cells o_now_box_pulls p1 p2 p3 _ h4) (cwV 3 hts gX6_stands_X0_kindAt rfl rfl rfl kd_X0_kindAt ⟨Nat.le_of_ble_eq_true rfl, Nat.le_of_ble_eq_true rfl⟩) ⟨kP_blind (EN_ok D cy) D _ _ _, va_recv hK hP (ci := 0) (q0 := 2) rfl rfl, kStart (EN_ok D cy) hE hP hD hS hA [2, 3, 4] rfl rfl _⟩ rfl rfl hl.1 rfl (lv_room (Nat.le_of_ble_eq_true rfl)) dX6_stands_21 ⟨Nat.zero_le _, Nat.zero_le _⟩) hP hD hS hA [2, 3, 4] [0, 1] rfl rfl rfl 5 rfl (by decide +kernel) (fun H locs hP hD hS => ?_)
    obtain rfl := si_o hF
    rw [hQQ]
    exact kr_i hx hb hr hlocks hP hD hS dX6_stands_24
  exact main s.heap [] ls hP hD hS hl
set_option maxHeartbeats 4000000 in
set_option maxRecDepth 100000 in
theorem t_X6_stands {l : Launch} {D : va_G} {cy : Nat → ClassId} (hst : l.stackTraces = false) (q_o q_o_now q_o_now_box q_o_now_box_cells q_o_now_box_pulls : Nat) (sz : Nat) (x_o_setup x_o_trial x_o_view x_o_trialView x_o_past x_o_nextPast x_o_undoable x_o_now_crowd x_o_now_box_holes x_o_now_box_reach x_o_now_box_holeX x_o_now_box_holeY x_o_now_box_price : Value) (o_now_box_width : Int32) (o_now_box_height : Int32) (o_now_box_planes : Int32) (o_now_box_cells : Nat → Int32) (o_now_box_pulls : Nat → Int32) (p1 : Int32) (p2 : Int32) (p3 : Int32) (k9 : Nat) (hF : X6_stands o_now_box_width o_now_box_height o_now_box_planes o_now_box_cells o_now_box_pulls p1 p2 p3 = some (.inl k9)) : vx_Met l yX6_stands wsX6_stands ({ frames := 7, cells := 1, slots := 6, locals := 112 } : Room) (kP (EN D cy) D [.ref q_o, .int p1, .int p2, .int p3] [(q_o, .inr (6, [x_o_setup, .ref q_o_now, x_o_trial, x_o_view, x_o_trialView, x_o_past, x_o_nextPast, x_o_undoable])), (q_o_now, .inr (4, [.ref q_o_now_box, x_o_now_crowd])), (q_o_now_box, .inr (0, [.int o_now_box_width, .int o_now_box_height, .int o_now_box_planes, x_o_now_box_holes, x_o_now_box_reach, .ref q_o_now_box_cells, .ref q_o_now_box_pulls, x_o_now_box_holeX, x_o_now_box_holeY, x_o_now_box_price])), (q_o_now_box_cells, .inl (cy 0, 480, .inl o_now_box_cells)), (q_o_now_box_pulls, .inl (cy 0, 5, .inl o_now_box_pulls))] sz) (kTi (va_A [(q_o, .inr (6, [x_o_setup, .ref q_o_now, x_o_trial, x_o_view, x_o_trialView, x_o_past, x_o_nextPast, x_o_undoable])), (q_o_now, .inr (4, [.ref q_o_now_box, x_o_now_crowd])), (q_o_now_box, .inr (0, [.int o_now_box_width, .int o_now_box_height, .int o_now_box_planes, x_o_now_box_holes, x_o_now_box_reach, .ref q_o_now_box_cells, .ref q_o_now_box_pulls, x_o_now_box_holeX, x_o_now_box_holeY, x_o_now_box_price])), (q_o_now_box_cells, .inl (cy 0, 480, .inl o_now_box_cells)), (q_o_now_box_pulls, .inl (cy 0, 5, .inl o_now_box_pulls))] sz)) (kXC D k9 [(q_o, .inr (6, [x_o_setup, .ref q_o_now, x_o_trial, x_o_view, x_o_trialView, x_o_past, x_o_nextPast, x_o_undoable])), (q_o_now, .inr (4, [.ref q_o_now_box, x_o_now_crowd])), (q_o_now_box, .inr (0, [.int o_now_box_width, .int o_now_box_height, .int o_now_box_planes, x_o_now_box_holes, x_o_now_box_reach, .ref q_o_now_box_cells, .ref q_o_now_box_pulls, x_o_now_box_holeX, x_o_now_box_holeY, x_o_now_box_price])), (q_o_now_box_cells, .inl (cy 0, 480, .inl o_now_box_cells)), (q_o_now_box_pulls, .inl (cy 0, 5, .inl o_now_box_pulls))] (va_A [(q_o, .inr (6, [x_o_setup, .ref q_o_now, x_o_trial, x_o_view, x_o_trialView, x_o_past, x_o_nextPast, x_o_undoable])), (q_o_now, .inr (4, [.ref q_o_now_box, x_o_now_crowd])), (q_o_now_box, .inr (0, [.int o_now_box_width, .int o_now_box_height, .int o_now_box_planes, x_o_now_box_holes, x_o_now_box_reach, .ref q_o_now_box_cells, .ref q_o_now_box_pulls, x_o_now_box_holeX, x_o_now_box_holeY, x_o_now_box_price])), (q_o_now_box_cells, .inl (cy 0, 480, .inl o_now_box_cells)), (q_o_now_box_pulls, .inl (cy 0, 5, .inl o_now_box_pulls))] sz)) 1 6 (va_A [(q_o, .inr (6, [x_o_setup, .ref q_o_now, x_o_trial, x_o_view, x_o_trialView, x_o_past, x_o_nextPast, x_o_undoable])), (q_o_now, .inr (4, [.ref q_o_now_box, x_o_now_crowd])), (q_o_now_box, .inr (0, [.int o_now_box_width, .int o_now_box_height, .int o_now_box_planes, x_o_now_box_holes, x_o_now_box_reach, .ref q_o_now_box_cells, .ref q_o_now_box_pulls, x_o_now_box_holeX, x_o_now_box_holeY, x_o_now_box_price])), (q_o_now_box_cells, .inl (cy 0, 480, .inl o_now_box_cells)), (q_o_now_box_pulls, .inl (cy 0, 5, .inl o_now_box_pulls))] sz) := by
  refine kMetT (y := yX6_stands) (av := [.ref q_o, .int p1, .int p2, .int p3]) (cc := cX6_stands) (maxL := 4) (ret := some .int) (own := RX6) (Qc := fun A9 => (kTi A9)) (X := fun A9 => (kXC D k9 [(q_o, .inr (6, [x_o_setup, .ref q_o_now, x_o_trial, x_o_view, x_o_trialView, x_o_past, x_o_nextPast, x_o_undoable])), (q_o_now, .inr (4, [.ref q_o_now_box, x_o_now_crowd])), (q_o_now_box, .inr (0, [.int o_now_box_width, .int o_now_box_height, .int o_now_box_planes, x_o_now_box_holes, x_o_now_box_reach, .ref q_o_now_box_cells, .ref q_o_now_box_pulls, x_o_now_box_holeX, x_o_now_box_holeY, x_o_now_box_price])), (q_o_now_box_cells, .inl (cy 0, 480, .inl o_now_box_cells)), (q_o_now_box_pulls, .inl (cy 0, 5, .inl o_now_box_pulls))] A9)) (by decide) rfl rfl (Nat.le_of_ble_eq_true rfl) ?_
  intro p e s m args below meth c A hx hb hr hts hown hml hlocks hxt hE hP hD hA hsz ls hl
  have hK := hE.1
  have hl : lv_has ls 4 [(0, .ref q_o), (1, .int p1), (2, .int p2), (3, .int p3)] := hl
  have hS : va_S A s.heap s.heap [] := va_S.rf
  have f_f19 := hts (.fieldLink RX6 19 "PeepBox" "now" "LPeepBox$Show;") (by decide +kernel)
  have f_inX6 : ∀ w ∈ wsX60, w ∈ wsX6_stands := by decide +kernel
  have f_f51 := hts (.fieldLink RX6 51 "PeepBox$Show" "box" "LPeepBox$Box;") (by decide +kernel)
  have f_inX4 : ∀ w ∈ wsX40, w ∈ wsX6_stands := by decide +kernel
  obtain ⟨QQ, hQQ⟩ : ∃ Q9, Q9 = vx_MQ below (kTi A) (kXC D k9 [(q_o, .inr (6, [x_o_setup, .ref q_o_now, x_o_trial, x_o_view, x_o_trialView, x_o_past, x_o_nextPast, x_o_undoable])), (q_o_now, .inr (4, [.ref q_o_now_box, x_o_now_crowd])), (q_o_now_box, .inr (0, [.int o_now_box_width, .int o_now_box_height, .int o_now_box_planes, x_o_now_box_holes, x_o_now_box_reach, .ref q_o_now_box_cells, .ref q_o_now_box_pulls, x_o_now_box_holeX, x_o_now_box_holeY, x_o_now_box_price])), (q_o_now_box_cells, .inl (cy 0, 480, .inl o_now_box_cells)), (q_o_now_box_pulls, .inl (cy 0, 5, .inl o_now_box_pulls))] A) args s 1 6 A := ⟨_, rfl⟩
  rw [← hQQ]
  have main : ∀ (H : Heap) (locs : List Loc) (ls : Array Slot), va_P D vwCl [(q_o, .inr (6, [x_o_setup, .ref q_o_now, x_o_trial, x_o_view, x_o_trialView, x_o_past, x_o_nextPast, x_o_undoable])), (q_o_now, .inr (4, [.ref q_o_now_box, x_o_now_crowd])), (q_o_now_box, .inr (0, [.int o_now_box_width, .int o_now_box_height, .int o_now_box_planes, x_o_now_box_holes, x_o_now_box_reach, .ref q_o_now_box_cells, .ref q_o_now_box_pulls, x_o_now_box_holeX, x_o_now_box_holeY, x_o_now_box_price])), (q_o_now_box_cells, .inl (cy 0, 480, .inl o_now_box_cells)), (q_o_now_box_pulls, .inl (cy 0, 5, .inl o_now_box_pulls))] H → va_D A [(q_o, .inr (6, [x_o_setup, .ref q_o_now, x_o_trial, x_o_view, x_o_trialView, x_o_past, x_o_nextPast, x_o_undoable])), (q_o_now, .inr (4, [.ref q_o_now_box, x_o_now_crowd])), (q_o_now_box, .inr (0, [.int o_now_box_width, .int o_now_box_height, .int o_now_box_planes, x_o_now_box_holes, x_o_now_box_reach, .ref q_o_now_box_cells, .ref q_o_now_box_pulls, x_o_now_box_holeX, x_o_now_box_holeY, x_o_now_box_price])), (q_o_now_box_cells, .inl (cy 0, 480, .inl o_now_box_cells)), (q_o_now_box_pulls, .inl (cy 0, 5, .inl o_now_box_pulls))] → va_S A s.heap H locs → lv_has ls 4 [(0, .ref q_o), (1, .int p1), (2, .int p2), (3, .int p3)] → W p l e ({ frames := 7, cells := 1, slots := 6, locals := 112 } : Room) s m args below meth c H locs 0 0 QQ (F0 m 0 ls []) := by
    intro H locs ls hP hD hS hl
    unfold X6_stands at hF
    refine lv_aload_n hx hb dX6_stands_0 rfl (lv_at hl 0 rfl) ?_
    refine lv_iload_n hx hb dX6_stands_1 rfl (lv_at hl 1 rfl) ?_
    rcases bx0_t hF with h1 | ⟨h1, hF⟩
    · rw [hQQ]
      exact kt_v (vx_runV (As := [.int p1]) (rest := []) ⟨hx, hb, hml, hown, hts⟩ (t_X6_requirePlane hst q_o q_o_now q_o_now_box H.size x_o_setup x_o_trial x_o_view x_o_trialView x_o_past x_o_nextPast x_o_undoable x_o_now_crowd (.int o_now_box_width) (.int o_now_box_height) x_o_now_box_holes x_o_now_box_reach (.ref q_o_now_box_cells) (.ref q_o_now_box_pulls) x_o_now_box_holeX x_o_now_box_holeY x_o_now_box_price o_now_box_planes p1 _ h1) (cwV 1 hts gX6_stands_X6_requirePlane rfl rfl rfl kd_X6_requirePlane ⟨Nat.le_of_ble_eq_true rfl, Nat.le_of_ble_eq_true rfl⟩) ⟨kP_blind (EN_ok D cy) D _ _ _, va_recv hK hP (ci := 6) (q0 := 0) rfl rfl, kStart (EN_ok D cy) hE hP hD hS hA [0, 1, 2] rfl rfl _⟩ rfl rfl hl.1 rfl (lv_room (Nat.le_of_ble_eq_true rfl)) dX6_stands_2 ⟨Nat.le_of_ble_eq_true rfl, Nat.le_of_ble_eq_true rfl⟩) hP hD hS hA [0, 1, 2] rfl (Nat.le_of_ble_eq_true rfl) hlocks hxt
    refine kd_v [(q_o, .inr (6, [x_o_setup, .ref q_o_now, x_o_trial, x_o_view, x_o_trialView, x_o_past, x_o_nextPast, x_o_undoable])), (q_o_now, .inr (4, [.ref q_o_now_box, x_o_now_crowd])), (q_o_now_box, .inr (0, [.int o_now_box_width, .int o_now_box_height, .int o_now_box_planes, x_o_now_box_holes, x_o_now_box_reach, .ref q_o_now_box_cells, .ref q_o_now_box_pulls, x_o_now_box_holeX, x_o_now_box_holeY, x_o_now_box_price])), (q_o_now_box_cells, .inl (cy 0, 480, .inl o_now_box_cells)), (q_o_now_box_pulls, .inl (cy 0, 5, .inl o_now_box_pulls))] (va_runV (As := [.int p1]) (rest := []) ⟨hx, hb, hml, hown, hts⟩ (c_X6_requirePlane q_o q_o_now q_o_now_box H.size x_o_setup x_o_trial x_o_view x_o_trialView x_o_past x_o_nextPast x_o_undoable x_o_now_crowd (.int o_now_box_width) (.int o_now_box_height) x_o_now_box_holes x_o_now_box_reach (.ref q_o_now_box_cells) (.ref q_o_now_box_pulls) x_o_now_box_holeX x_o_now_box_holeY x_o_now_box_price o_now_box_planes p1 _ h1) (cwV 1 hts gX6_stands_X6_requirePlane rfl rfl rfl kd_X6_requirePlane ⟨Nat.le_of_ble_eq_true rfl, Nat.le_of_ble_eq_true rfl⟩) ⟨kP_blind (EN_ok D cy) D _ _ _, va_recv hK hP (ci := 6) (q0 := 0) rfl rfl, kStart (EN_ok D cy) hE hP hD hS hA [0, 1, 2] rfl rfl _⟩ rfl rfl hl.1 rfl (lv_room (Nat.le_of_ble_eq_true rfl)) dX6_stands_2 ⟨Nat.zero_le _, Nat.zero_le _⟩) hP hD hS hA [0, 1, 2] [3, 4] rfl rfl rfl 5 rfl (by decide +kernel) (fun H locs hP hD hS => ?_)
    refine lv_aload_n hx hb dX6_stands_5 rfl (lv_at hl 0 rfl) ?_
    refine lv_iload_n hx hb dX6_stands_6 rfl (lv_at hl 2 rfl) ?_
    refine lv_iload_n hx hb dX6_stands_7 rfl (lv_at hl 3 rfl) ?_
    rcases bx0_t hF with h2 | ⟨h2, hF⟩
    · rw [hQQ]
      exact kt_v (vx_runV (As := [.int p2, .int p3]) (rest := []) ⟨hx, hb, hml, hown, hts⟩ (t_X6_requireCell hst q_o q_o_now q_o_now_box H.size x_o_setup x_o_trial x_o_view x_o_trialView x_o_past x_o_nextPast x_o_undoable x_o_now_crowd (.int o_now_box_planes) x_o_now_box_holes x_o_now_box_reach (.ref q_o_now_box_cells) (.ref q_o_now_box_pulls) x_o_now_box_holeX x_o_now_box_holeY x_o_now_box_price o_now_box_width o_now_box_height p2 p3 _ h2) (cwV 2 hts gX6_stands_X6_requireCell rfl rfl rfl kd_X6_requireCell ⟨Nat.le_of_ble_eq_true rfl, Nat.le_of_ble_eq_true rfl⟩) ⟨kP_blind (EN_ok D cy) D _ _ _, va_recv hK hP (ci := 6) (q0 := 0) rfl rfl, kStart (EN_ok D cy) hE hP hD hS hA [0, 1, 2] rfl rfl _⟩ rfl rfl hl.1 rfl (lv_room (Nat.le_of_ble_eq_true rfl)) dX6_stands_8 ⟨Nat.le_of_ble_eq_true rfl, Nat.le_of_ble_eq_true rfl⟩) hP hD hS hA [0, 1, 2] rfl (Nat.le_of_ble_eq_true rfl) hlocks hxt
    refine kd_v [(q_o, .inr (6, [x_o_setup, .ref q_o_now, x_o_trial, x_o_view, x_o_trialView, x_o_past, x_o_nextPast, x_o_undoable])), (q_o_now, .inr (4, [.ref q_o_now_box, x_o_now_crowd])), (q_o_now_box, .inr (0, [.int o_now_box_width, .int o_now_box_height, .int o_now_box_planes, x_o_now_box_holes, x_o_now_box_reach, .ref q_o_now_box_cells, .ref q_o_now_box_pulls, x_o_now_box_holeX, x_o_now_box_holeY, x_o_now_box_price])), (q_o_now_box_cells, .inl (cy 0, 480, .inl o_now_box_cells)), (q_o_now_box_pulls, .inl (cy 0, 5, .inl o_now_box_pulls))] (va_runV (As := [.int p2, .int p3]) (rest := []) ⟨hx, hb, hml, hown, hts⟩ (c_X6_requireCell q_o q_o_now q_o_now_box H.size x_o_setup x_o_trial x_o_view x_o_trialView x_o_past x_o_nextPast x_o_undoable x_o_now_crowd (.int o_now_box_planes) x_o_now_box_holes x_o_now_box_reach (.ref q_o_now_box_cells) (.ref q_o_now_box_pulls) x_o_now_box_holeX x_o_now_box_holeY x_o_now_box_price o_now_box_width o_now_box_height p2 p3 _ h2) (cwV 2 hts gX6_stands_X6_requireCell rfl rfl rfl kd_X6_requireCell ⟨Nat.le_of_ble_eq_true rfl, Nat.le_of_ble_eq_true rfl⟩) ⟨kP_blind (EN_ok D cy) D _ _ _, va_recv hK hP (ci := 6) (q0 := 0) rfl rfl, kStart (EN_ok D cy) hE hP hD hS hA [0, 1, 2] rfl rfl _⟩ rfl rfl hl.1 rfl (lv_room (Nat.le_of_ble_eq_true rfl)) dX6_stands_8 ⟨Nat.zero_le _, Nat.zero_le _⟩) hP hD hS hA [0, 1, 2] [3, 4] rfl rfl rfl 5 rfl (by decide +kernel) (fun H locs hP hD hS => ?_)
    refine lv_aload_n hx hb dX6_stands_11 rfl (lv_at hl 0 rfl) ?_
    refine va_get (D := D) (ci := 6) (v := .ref q_o_now) (C := RX6) (T := TX6) (N := 8) hx hb hts f_inX6 hown hK hP 0 rfl rfl 1 (by decide) f_f19 (fun _ h9 => h9) rfl dX6_stands_12 ?_
    refine va_get (D := D) (ci := 4) (v := .ref q_o_now_box) (C := RX4) (T := TX4) (N := 2) hx hb hts f_inX4 hown hK hP 1 rfl rfl 0 (by decide) f_f51 (fun _ h9 => h9) rfl dX6_stands_15 ?_
    refine lv_iload_n hx hb dX6_stands_18 rfl (lv_at hl 1 rfl) ?_
    refine lv_iload_n hx hb dX6_stands_19 rfl (lv_at hl 2 rfl) ?_
    refine lv_iload_n hx hb dX6_stands_20 rfl (lv_at hl 3 rfl) ?_
    obtain ⟨r3, h4, hF⟩ := bn1_o hF
    refine kd_i [(q_o, .inr (6, [x_o_setup, .ref q_o_now, x_o_trial, x_o_view, x_o_trialView, x_o_past, x_o_nextPast, x_o_undoable])), (q_o_now, .inr (4, [.ref q_o_now_box, x_o_now_crowd])), (q_o_now_box, .inr (0, [.int o_now_box_width, .int o_now_box_height, .int o_now_box_planes, x_o_now_box_holes, x_o_now_box_reach, .ref q_o_now_box_cells, .ref q_o_now_box_pulls, x_o_now_box_holeX, x_o_now_box_holeY, x_o_now_box_price])), (q_o_now_box_cells, .inl (cy 0, 480, .inl o_now_box_cells)), (q_o_now_box_pulls, .inl (cy 0, 5, .inl o_now_box_pulls))] (va_runV (As := [.int p1, .int p2, .int p3]) (rest := []) ⟨hx, hb, hml, hown, hts⟩ (c_X0_kindAt q_o_now_box q_o_now_box_cells q_o_now_box_pulls H.size (.int o_now_box_width) (.int o_now_box_planes) x_o_now_box_holes x_o_now_box_reach x_o_now_box_holeX x_o_now_box_holeY x_o_now_box_price o_now_box_height o_now_box_cells o_now_box_pulls p1 p2 p3 _ h4) (cwV 3 hts gX6_stands_X0_kindAt rfl rfl rfl kd_X0_kindAt ⟨Nat.le_of_ble_eq_true rfl, Nat.le_of_ble_eq_true rfl⟩) ⟨kP_blind (EN_ok D cy) D _ _ _, va_recv hK hP (ci := 0) (q0 := 2) rfl rfl, kStart (EN_ok D cy) hE hP hD hS hA [2, 3, 4] rfl rfl _⟩ rfl rfl hl.1 rfl (lv_room (Nat.le_of_ble_eq_true rfl)) dX6_stands_21 ⟨Nat.zero_le _, Nat.zero_le _⟩) hP hD hS hA [2, 3, 4] [0, 1] rfl rfl rfl 5 rfl (by decide +kernel) (fun H locs hP hD hS => ?_)
    cases hF
  exact main s.heap [] ls hP hD hS hl
theorem kd_X6_plane : yX6_plane.cls = RX6 ∧ yX6_plane.cls ≠ "java/lang/invoke/MethodHandle" ∧ yX6_plane.cls ≠ "java/lang/invoke/VarHandle" ∧ (parseMethodDescriptor yX6_plane.desc).map (fun d => d.parameters.length) = some 2 := by decide +kernel
set_option maxHeartbeats 4000000 in
set_option maxRecDepth 100000 in
theorem c_X6_plane {l : Launch} {D : va_G} {cy : Nat → ClassId} (q_o q_o_now q_o_now_box q_o_now_box_cells q_o_now_box_pulls q_o_view q_o_view_seen : Nat) (sz : Nat) (x_o_setup x_o_trial x_o_trialView x_o_past x_o_nextPast x_o_undoable x_o_now_crowd x_o_now_box_reach x_o_now_box_holeX x_o_now_box_holeY x_o_now_box_price x_o_view_counts x_o_view_kinds x_o_view_depths x_o_view_prices : Value) (o_now_box_width : Int32) (o_now_box_height : Int32) (o_now_box_planes : Int32) (o_now_box_holes : Int32) (o_now_box_cells : Nat → Int32) (o_now_box_pulls : Nat → Int32) (o_view_seen : Nat → Int32) (p1 : Int32) (p2 : Int32) (res : Int32) (hF : X6_plane o_now_box_width o_now_box_height o_now_box_planes o_now_box_holes o_now_box_cells o_now_box_pulls o_view_seen p1 p2 = some (.inr res)) : Met l yX6_plane wsX6_plane ({ frames := 2, cells := 0, slots := 0, locals := 48 } : Room) (kP (EN D cy) D [.ref q_o, .int p1, .int p2] [(q_o, .inr (6, [x_o_setup, .ref q_o_now, x_o_trial, .ref q_o_view, x_o_trialView, x_o_past, x_o_nextPast, x_o_undoable])), (q_o_now, .inr (4, [.ref q_o_now_box, x_o_now_crowd])), (q_o_now_box, .inr (0, [.int o_now_box_width, .int o_now_box_height, .int o_now_box_planes, .int o_now_box_holes, x_o_now_box_reach, .ref q_o_now_box_cells, .ref q_o_now_box_pulls, x_o_now_box_holeX, x_o_now_box_holeY, x_o_now_box_price])), (q_o_now_box_cells, .inl (cy 0, 480, .inl o_now_box_cells)), (q_o_now_box_pulls, .inl (cy 0, 5, .inl o_now_box_pulls)), (q_o_view, .inr (5, [.ref q_o_view_seen, x_o_view_counts, x_o_view_kinds, x_o_view_depths, x_o_view_prices])), (q_o_view_seen, .inl (cy 0, 384, .inl o_view_seen))] sz) (kQi D res [(q_o, .inr (6, [x_o_setup, .ref q_o_now, x_o_trial, .ref q_o_view, x_o_trialView, x_o_past, x_o_nextPast, x_o_undoable])), (q_o_now, .inr (4, [.ref q_o_now_box, x_o_now_crowd])), (q_o_now_box, .inr (0, [.int o_now_box_width, .int o_now_box_height, .int o_now_box_planes, .int o_now_box_holes, x_o_now_box_reach, .ref q_o_now_box_cells, .ref q_o_now_box_pulls, x_o_now_box_holeX, x_o_now_box_holeY, x_o_now_box_price])), (q_o_now_box_cells, .inl (cy 0, 480, .inl o_now_box_cells)), (q_o_now_box_pulls, .inl (cy 0, 5, .inl o_now_box_pulls)), (q_o_view, .inr (5, [.ref q_o_view_seen, x_o_view_counts, x_o_view_kinds, x_o_view_depths, x_o_view_prices])), (q_o_view_seen, .inl (cy 0, 384, .inl o_view_seen))] (va_A [(q_o, .inr (6, [x_o_setup, .ref q_o_now, x_o_trial, .ref q_o_view, x_o_trialView, x_o_past, x_o_nextPast, x_o_undoable])), (q_o_now, .inr (4, [.ref q_o_now_box, x_o_now_crowd])), (q_o_now_box, .inr (0, [.int o_now_box_width, .int o_now_box_height, .int o_now_box_planes, .int o_now_box_holes, x_o_now_box_reach, .ref q_o_now_box_cells, .ref q_o_now_box_pulls, x_o_now_box_holeX, x_o_now_box_holeY, x_o_now_box_price])), (q_o_now_box_cells, .inl (cy 0, 480, .inl o_now_box_cells)), (q_o_now_box_pulls, .inl (cy 0, 5, .inl o_now_box_pulls)), (q_o_view, .inr (5, [.ref q_o_view_seen, x_o_view_counts, x_o_view_kinds, x_o_view_depths, x_o_view_prices])), (q_o_view_seen, .inl (cy 0, 384, .inl o_view_seen))] sz)) 0 0 (va_A [(q_o, .inr (6, [x_o_setup, .ref q_o_now, x_o_trial, .ref q_o_view, x_o_trialView, x_o_past, x_o_nextPast, x_o_undoable])), (q_o_now, .inr (4, [.ref q_o_now_box, x_o_now_crowd])), (q_o_now_box, .inr (0, [.int o_now_box_width, .int o_now_box_height, .int o_now_box_planes, .int o_now_box_holes, x_o_now_box_reach, .ref q_o_now_box_cells, .ref q_o_now_box_pulls, x_o_now_box_holeX, x_o_now_box_holeY, x_o_now_box_price])), (q_o_now_box_cells, .inl (cy 0, 480, .inl o_now_box_cells)), (q_o_now_box_pulls, .inl (cy 0, 5, .inl o_now_box_pulls)), (q_o_view, .inr (5, [.ref q_o_view_seen, x_o_view_counts, x_o_view_kinds, x_o_view_depths, x_o_view_prices])), (q_o_view_seen, .inl (cy 0, 384, .inl o_view_seen))] sz) := by
  refine kMet (y := yX6_plane) (av := [.ref q_o, .int p1, .int p2]) (cc := cX6_plane) (maxL := 3) (ret := some .int) (own := RX6) (Qc := fun A9 => (kQi D res [(q_o, .inr (6, [x_o_setup, .ref q_o_now, x_o_trial, .ref q_o_view, x_o_trialView, x_o_past, x_o_nextPast, x_o_undoable])), (q_o_now, .inr (4, [.ref q_o_now_box, x_o_now_crowd])), (q_o_now_box, .inr (0, [.int o_now_box_width, .int o_now_box_height, .int o_now_box_planes, .int o_now_box_holes, x_o_now_box_reach, .ref q_o_now_box_cells, .ref q_o_now_box_pulls, x_o_now_box_holeX, x_o_now_box_holeY, x_o_now_box_price])), (q_o_now_box_cells, .inl (cy 0, 480, .inl o_now_box_cells)), (q_o_now_box_pulls, .inl (cy 0, 5, .inl o_now_box_pulls)), (q_o_view, .inr (5, [.ref q_o_view_seen, x_o_view_counts, x_o_view_kinds, x_o_view_depths, x_o_view_prices])), (q_o_view_seen, .inl (cy 0, 384, .inl o_view_seen))] A9)) (by decide) rfl rfl (Nat.le_of_ble_eq_true rfl) ?_
  intro p e s m args below meth c A hx hb hr hts hown hml hlocks hname hE hP hD hA hsz ls hl
  have hK := hE.1
  have hl : lv_has ls 3 [(0, .ref q_o), (1, .int p1), (2, .int p2)] := hl
  have hS : va_S A s.heap s.heap [] := va_S.rf
  have f_f19 := hts (.fieldLink RX6 19 "PeepBox" "now" "LPeepBox$Show;") (by decide +kernel)
  have f_inX6 : ∀ w ∈ wsX60, w ∈ wsX6_plane := by decide +kernel
  have f_f51 := hts (.fieldLink RX6 51 "PeepBox$Show" "box" "LPeepBox$Box;") (by decide +kernel)
  have f_inX4 : ∀ w ∈ wsX40, w ∈ wsX6_plane := by decide +kernel
  have f_f152 := hts (.fieldLink RX6 152 "PeepBox$Box" "pulls" "[I") (by decide +kernel)
  have f_inX0 : ∀ w ∈ wsX00, w ∈ wsX6_plane := by decide +kernel
  have f_f29 := hts (.fieldLink RX6 29 "PeepBox" "view" "LPeepBox$View;") (by decide +kernel)
  obtain ⟨QQ, hQQ⟩ : ∃ Q9, Q9 = MQ below (kQi D res [(q_o, .inr (6, [x_o_setup, .ref q_o_now, x_o_trial, .ref q_o_view, x_o_trialView, x_o_past, x_o_nextPast, x_o_undoable])), (q_o_now, .inr (4, [.ref q_o_now_box, x_o_now_crowd])), (q_o_now_box, .inr (0, [.int o_now_box_width, .int o_now_box_height, .int o_now_box_planes, .int o_now_box_holes, x_o_now_box_reach, .ref q_o_now_box_cells, .ref q_o_now_box_pulls, x_o_now_box_holeX, x_o_now_box_holeY, x_o_now_box_price])), (q_o_now_box_cells, .inl (cy 0, 480, .inl o_now_box_cells)), (q_o_now_box_pulls, .inl (cy 0, 5, .inl o_now_box_pulls)), (q_o_view, .inr (5, [.ref q_o_view_seen, x_o_view_counts, x_o_view_kinds, x_o_view_depths, x_o_view_prices])), (q_o_view_seen, .inl (cy 0, 384, .inl o_view_seen))] A) args s 0 0 A := ⟨_, rfl⟩
  rw [← hQQ]
  have main : ∀ (H : Heap) (locs : List Loc) (ls : Array Slot), va_P D vwCl [(q_o, .inr (6, [x_o_setup, .ref q_o_now, x_o_trial, .ref q_o_view, x_o_trialView, x_o_past, x_o_nextPast, x_o_undoable])), (q_o_now, .inr (4, [.ref q_o_now_box, x_o_now_crowd])), (q_o_now_box, .inr (0, [.int o_now_box_width, .int o_now_box_height, .int o_now_box_planes, .int o_now_box_holes, x_o_now_box_reach, .ref q_o_now_box_cells, .ref q_o_now_box_pulls, x_o_now_box_holeX, x_o_now_box_holeY, x_o_now_box_price])), (q_o_now_box_cells, .inl (cy 0, 480, .inl o_now_box_cells)), (q_o_now_box_pulls, .inl (cy 0, 5, .inl o_now_box_pulls)), (q_o_view, .inr (5, [.ref q_o_view_seen, x_o_view_counts, x_o_view_kinds, x_o_view_depths, x_o_view_prices])), (q_o_view_seen, .inl (cy 0, 384, .inl o_view_seen))] H → va_D A [(q_o, .inr (6, [x_o_setup, .ref q_o_now, x_o_trial, .ref q_o_view, x_o_trialView, x_o_past, x_o_nextPast, x_o_undoable])), (q_o_now, .inr (4, [.ref q_o_now_box, x_o_now_crowd])), (q_o_now_box, .inr (0, [.int o_now_box_width, .int o_now_box_height, .int o_now_box_planes, .int o_now_box_holes, x_o_now_box_reach, .ref q_o_now_box_cells, .ref q_o_now_box_pulls, x_o_now_box_holeX, x_o_now_box_holeY, x_o_now_box_price])), (q_o_now_box_cells, .inl (cy 0, 480, .inl o_now_box_cells)), (q_o_now_box_pulls, .inl (cy 0, 5, .inl o_now_box_pulls)), (q_o_view, .inr (5, [.ref q_o_view_seen, x_o_view_counts, x_o_view_kinds, x_o_view_depths, x_o_view_prices])), (q_o_view_seen, .inl (cy 0, 384, .inl o_view_seen))] → va_S A s.heap H locs → lv_has ls 3 [(0, .ref q_o), (1, .int p1), (2, .int p2)] → W p l e ({ frames := 2, cells := 0, slots := 0, locals := 48 } : Room) s m args below meth c H locs 0 0 QQ (F0 m 0 ls []) := by
    intro H locs ls hP hD hS hl
    unfold X6_plane at hF
    refine lv_aload_n hx hb dX6_plane_0 rfl (lv_at hl 0 rfl) ?_
    refine lv_iload_n hx hb dX6_plane_1 rfl (lv_at hl 1 rfl) ?_
    obtain ⟨h1, hF⟩ := bx0_n hF
    refine kd_v [(q_o, .inr (6, [x_o_setup, .ref q_o_now, x_o_trial, .ref q_o_view, x_o_trialView, x_o_past, x_o_nextPast, x_o_undoable])), (q_o_now, .inr (4, [.ref q_o_now_box, x_o_now_crowd])), (q_o_now_box, .inr (0, [.int o_now_box_width, .int o_now_box_height, .int o_now_box_planes, .int o_now_box_holes, x_o_now_box_reach, .ref q_o_now_box_cells, .ref q_o_now_box_pulls, x_o_now_box_holeX, x_o_now_box_holeY, x_o_now_box_price])), (q_o_now_box_cells, .inl (cy 0, 480, .inl o_now_box_cells)), (q_o_now_box_pulls, .inl (cy 0, 5, .inl o_now_box_pulls)), (q_o_view, .inr (5, [.ref q_o_view_seen, x_o_view_counts, x_o_view_kinds, x_o_view_depths, x_o_view_prices])), (q_o_view_seen, .inl (cy 0, 384, .inl o_view_seen))] (va_runV (As := [.int p1]) (rest := []) ⟨hx, hb, hml, hown, hts⟩ (c_X6_requirePlane q_o q_o_now q_o_now_box H.size x_o_setup x_o_trial (.ref q_o_view) x_o_trialView x_o_past x_o_nextPast x_o_undoable x_o_now_crowd (.int o_now_box_width) (.int o_now_box_height) (.int o_now_box_holes) x_o_now_box_reach (.ref q_o_now_box_cells) (.ref q_o_now_box_pulls) x_o_now_box_holeX x_o_now_box_holeY x_o_now_box_price o_now_box_planes p1 _ h1) (cwV 1 hts gX6_plane_X6_requirePlane rfl rfl rfl kd_X6_requirePlane ⟨Nat.le_of_ble_eq_true rfl, Nat.le_of_ble_eq_true rfl⟩) ⟨kP_blind (EN_ok D cy) D _ _ _, va_recv hK hP (ci := 6) (q0 := 0) rfl rfl, kStart (EN_ok D cy) hE hP hD hS hA [0, 1, 2] rfl rfl _⟩ rfl rfl hl.1 rfl (lv_room (Nat.le_of_ble_eq_true rfl)) dX6_plane_2 ⟨Nat.zero_le _, Nat.zero_le _⟩) hP hD hS hA [0, 1, 2] [3, 4, 5, 6] rfl rfl rfl 7 rfl (by decide +kernel) (fun H locs hP hD hS => ?_)
    refine lv_iload_n hx hb dX6_plane_5 rfl (lv_at hl 2 rfl) ?_
    by_cases c2 : p2 = 0
    · have hF := if_p hF c2
      refine lv_tableIn (off := 26) (tgt := 32) hx hb dX6_plane_6 (by rw [c2]; decide) (by rw [c2]; decide) (by rw [c2]; rfl) (by decide) ?_
      refine lv_aload_n hx hb dX6_plane_32 rfl (lv_at hl 0 rfl) ?_
      refine va_get (D := D) (ci := 6) (v := .ref q_o_now) (C := RX6) (T := TX6) (N := 8) hx hb hts f_inX6 hown hK hP 0 rfl rfl 1 (by decide) f_f19 (fun _ h9 => h9) rfl dX6_plane_33 ?_
      refine va_get (D := D) (ci := 4) (v := .ref q_o_now_box) (C := RX4) (T := TX4) (N := 2) hx hb hts f_inX4 hown hK hP 1 rfl rfl 0 (by decide) f_f51 (fun _ h9 => h9) rfl dX6_plane_36 ?_
      refine va_get (D := D) (ci := 0) (v := .ref q_o_now_box_pulls) (C := RX0) (T := TX0) (N := 10) hx hb hts f_inX0 hown hK hP 2 rfl rfl 6 (by decide) f_f152 (fun _ h9 => h9) rfl dX6_plane_39 ?_
      refine lv_iload_n hx hb dX6_plane_42 rfl (lv_at hl 1 rfl) ?_
      obtain ⟨h3, hF⟩ := ld_o hF
      refine va_iald hx hb hK hP 4 0 rfl rfl h3 dX6_plane_43 ?_
      refine lv_topi (fun v4 ev4 => ?_)
      have hF := hF v4 ev4
      obtain rfl := si_o hF
      rw [hQQ]
      exact kr_i hx hb hr hlocks hP hD hS dX6_plane_44
    have hF := if_n hF c2
    by_cases c5 : p2 = 1
    · have hF := if_p hF c5
      refine lv_tableIn (off := 39) (tgt := 45) hx hb dX6_plane_6 (by rw [c5]; decide) (by rw [c5]; decide) (by rw [c5]; rfl) (by decide) ?_
      refine lv_aload_n hx hb dX6_plane_45 rfl (lv_at hl 0 rfl) ?_
      refine va_get (D := D) (ci := 6) (v := .ref q_o_now) (C := RX6) (T := TX6) (N := 8) hx hb hts f_inX6 hown hK hP 0 rfl rfl 1 (by decide) f_f19 (fun _ h9 => h9) rfl dX6_plane_46 ?_
      refine va_get (D := D) (ci := 4) (v := .ref q_o_now_box) (C := RX4) (T := TX4) (N := 2) hx hb hts f_inX4 hown hK hP 1 rfl rfl 0 (by decide) f_f51 (fun _ h9 => h9) rfl dX6_plane_49 ?_
      refine lv_iload_n hx hb dX6_plane_52 rfl (lv_at hl 1 rfl) ?_
      obtain ⟨r6, h7, hF⟩ := bn1_o hF
      refine kd_i [(q_o, .inr (6, [x_o_setup, .ref q_o_now, x_o_trial, .ref q_o_view, x_o_trialView, x_o_past, x_o_nextPast, x_o_undoable])), (q_o_now, .inr (4, [.ref q_o_now_box, x_o_now_crowd])), (q_o_now_box, .inr (0, [.int o_now_box_width, .int o_now_box_height, .int o_now_box_planes, .int o_now_box_holes, x_o_now_box_reach, .ref q_o_now_box_cells, .ref q_o_now_box_pulls, x_o_now_box_holeX, x_o_now_box_holeY, x_o_now_box_price])), (q_o_now_box_cells, .inl (cy 0, 480, .inl o_now_box_cells)), (q_o_now_box_pulls, .inl (cy 0, 5, .inl o_now_box_pulls)), (q_o_view, .inr (5, [.ref q_o_view_seen, x_o_view_counts, x_o_view_kinds, x_o_view_depths, x_o_view_prices])), (q_o_view_seen, .inl (cy 0, 384, .inl o_view_seen))] (va_runV (As := [.int p1]) (rest := []) ⟨hx, hb, hml, hown, hts⟩ (c_X0_standing q_o_now_box q_o_now_box_cells q_o_now_box_pulls H.size (.int o_now_box_planes) (.int o_now_box_holes) x_o_now_box_reach x_o_now_box_holeX x_o_now_box_holeY x_o_now_box_price o_now_box_width o_now_box_height o_now_box_cells o_now_box_pulls p1 _ h7) (cwV 1 hts gX6_plane_X0_standing rfl rfl rfl kd_X0_standing ⟨Nat.le_of_ble_eq_true rfl, Nat.le_of_ble_eq_true rfl⟩) ⟨kP_blind (EN_ok D cy) D _ _ _, va_recv hK hP (ci := 0) (q0 := 2) rfl rfl, kStart (EN_ok D cy) hE hP hD hS hA [2, 3, 4] rfl rfl _⟩ rfl rfl hl.1 rfl (lv_room (Nat.le_of_ble_eq_true rfl)) dX6_plane_53 ⟨Nat.zero_le _, Nat.zero_le _⟩) hP hD hS hA [2, 3, 4] [0, 1, 5, 6] rfl rfl rfl 7 rfl (by decide +kernel) (fun H locs hP hD hS => ?_)
      obtain rfl := si_o hF
      rw [hQQ]
      exact kr_i hx hb hr hlocks hP hD hS dX6_plane_56
    have hF := if_n hF c5
    by_cases c8 : p2 = 2
    · have hF := if_p hF c8
      refine lv_tableIn (off := 51) (tgt := 57) hx hb dX6_plane_6 (by rw [c8]; decide) (by rw [c8]; decide) (by rw [c8]; rfl) (by decide) ?_
      refine lv_aload_n hx hb dX6_plane_57 rfl (lv_at hl 0 rfl) ?_
      refine va_get (D := D) (ci := 6) (v := .ref q_o_view) (C := RX6) (T := TX6) (N := 8) hx hb hts f_inX6 hown hK hP 0 rfl rfl 3 (by decide) f_f29 (fun _ h9 => h9) rfl dX6_plane_58 ?_
      refine lv_aload_n hx hb dX6_plane_61 rfl (lv_at hl 0 rfl) ?_
      refine va_get (D := D) (ci := 6) (v := .ref q_o_now) (C := RX6) (T := TX6) (N := 8) hx hb hts f_inX6 hown hK hP 0 rfl rfl 1 (by decide) f_f19 (fun _ h9 => h9) rfl dX6_plane_62 ?_
      refine va_get (D := D) (ci := 4) (v := .ref q_o_now_box) (C := RX4) (T := TX4) (N := 2) hx hb hts f_inX4 hown hK hP 1 rfl rfl 0 (by decide) f_f51 (fun _ h9 => h9) rfl dX6_plane_65 ?_
      refine lv_iload_n hx hb dX6_plane_68 rfl (lv_at hl 1 rfl) ?_
      obtain ⟨r9, h10, hF⟩ := bn1_o hF
      refine kd_i [(q_o, .inr (6, [x_o_setup, .ref q_o_now, x_o_trial, .ref q_o_view, x_o_trialView, x_o_past, x_o_nextPast, x_o_undoable])), (q_o_now, .inr (4, [.ref q_o_now_box, x_o_now_crowd])), (q_o_now_box, .inr (0, [.int o_now_box_width, .int o_now_box_height, .int o_now_box_planes, .int o_now_box_holes, x_o_now_box_reach, .ref q_o_now_box_cells, .ref q_o_now_box_pulls, x_o_now_box_holeX, x_o_now_box_holeY, x_o_now_box_price])), (q_o_now_box_cells, .inl (cy 0, 480, .inl o_now_box_cells)), (q_o_now_box_pulls, .inl (cy 0, 5, .inl o_now_box_pulls)), (q_o_view, .inr (5, [.ref q_o_view_seen, x_o_view_counts, x_o_view_kinds, x_o_view_depths, x_o_view_prices])), (q_o_view_seen, .inl (cy 0, 384, .inl o_view_seen))] (va_runV (As := [.ref q_o_now_box, .int p1]) (rest := []) ⟨hx, hb, hml, hown, hts⟩ (c_X5_targetsOf q_o_view q_o_view_seen q_o_now_box H.size x_o_view_counts x_o_view_kinds x_o_view_depths x_o_view_prices (.int o_now_box_planes) x_o_now_box_reach (.ref q_o_now_box_cells) (.ref q_o_now_box_pulls) x_o_now_box_holeX x_o_now_box_holeY x_o_now_box_price o_view_seen o_now_box_width o_now_box_height o_now_box_holes p1 _ h10) (cwV 2 hts gX6_plane_X5_targetsOf rfl rfl rfl kd_X5_targetsOf ⟨Nat.le_of_ble_eq_true rfl, Nat.le_of_ble_eq_true rfl⟩) ⟨kP_blind (EN_ok D cy) D _ _ _, va_recv hK hP (ci := 5) (q0 := 5) rfl rfl, kStart (EN_ok D cy) hE hP hD hS hA [5, 6, 2] rfl rfl _⟩ rfl rfl hl.1 rfl (lv_room (Nat.le_of_ble_eq_true rfl)) dX6_plane_69 ⟨Nat.zero_le _, Nat.zero_le _⟩) hP hD hS hA [5, 6, 2] [0, 1, 3, 4] rfl rfl rfl 7 rfl (by decide +kernel) (fun H locs hP hD hS => ?_)
      obtain rfl := si_o hF
      rw [hQQ]
      exact kr_i hx hb hr hlocks hP hD hS dX6_plane_72
    have hF := if_n hF c8
    have tc2 : p2.toInt ≠ 0 := fun h9 => c2 (Int32.toInt_inj.mp (h9.trans (by decide)))
    have tc5 : p2.toInt ≠ 1 := fun h9 => c5 (Int32.toInt_inj.mp (h9.trans (by decide)))
    have tc8 : p2.toInt ≠ 2 := fun h9 => c8 (Int32.toInt_inj.mp (h9.trans (by decide)))
    refine lv_tableOut (tgt := 73) hx hb dX6_plane_6 (by omega) (by decide) ?_
    cases hF
  exact main s.heap [] ls hP hD hS hl
set_option maxHeartbeats 4000000 in
set_option maxRecDepth 100000 in
theorem t_X6_plane {l : Launch} {D : va_G} {cy : Nat → ClassId} (hst : l.stackTraces = false) (q_o q_o_now q_o_now_box q_o_now_box_cells q_o_now_box_pulls q_o_view q_o_view_seen : Nat) (sz : Nat) (x_o_setup x_o_trial x_o_trialView x_o_past x_o_nextPast x_o_undoable x_o_now_crowd x_o_now_box_reach x_o_now_box_holeX x_o_now_box_holeY x_o_now_box_price x_o_view_counts x_o_view_kinds x_o_view_depths x_o_view_prices : Value) (o_now_box_width : Int32) (o_now_box_height : Int32) (o_now_box_planes : Int32) (o_now_box_holes : Int32) (o_now_box_cells : Nat → Int32) (o_now_box_pulls : Nat → Int32) (o_view_seen : Nat → Int32) (p1 : Int32) (p2 : Int32) (k9 : Nat) (hF : X6_plane o_now_box_width o_now_box_height o_now_box_planes o_now_box_holes o_now_box_cells o_now_box_pulls o_view_seen p1 p2 = some (.inl k9)) : vx_Met l yX6_plane wsX6_plane ({ frames := 7, cells := 1, slots := 6, locals := 111 } : Room) (kP (EN D cy) D [.ref q_o, .int p1, .int p2] [(q_o, .inr (6, [x_o_setup, .ref q_o_now, x_o_trial, .ref q_o_view, x_o_trialView, x_o_past, x_o_nextPast, x_o_undoable])), (q_o_now, .inr (4, [.ref q_o_now_box, x_o_now_crowd])), (q_o_now_box, .inr (0, [.int o_now_box_width, .int o_now_box_height, .int o_now_box_planes, .int o_now_box_holes, x_o_now_box_reach, .ref q_o_now_box_cells, .ref q_o_now_box_pulls, x_o_now_box_holeX, x_o_now_box_holeY, x_o_now_box_price])), (q_o_now_box_cells, .inl (cy 0, 480, .inl o_now_box_cells)), (q_o_now_box_pulls, .inl (cy 0, 5, .inl o_now_box_pulls)), (q_o_view, .inr (5, [.ref q_o_view_seen, x_o_view_counts, x_o_view_kinds, x_o_view_depths, x_o_view_prices])), (q_o_view_seen, .inl (cy 0, 384, .inl o_view_seen))] sz) (kTi (va_A [(q_o, .inr (6, [x_o_setup, .ref q_o_now, x_o_trial, .ref q_o_view, x_o_trialView, x_o_past, x_o_nextPast, x_o_undoable])), (q_o_now, .inr (4, [.ref q_o_now_box, x_o_now_crowd])), (q_o_now_box, .inr (0, [.int o_now_box_width, .int o_now_box_height, .int o_now_box_planes, .int o_now_box_holes, x_o_now_box_reach, .ref q_o_now_box_cells, .ref q_o_now_box_pulls, x_o_now_box_holeX, x_o_now_box_holeY, x_o_now_box_price])), (q_o_now_box_cells, .inl (cy 0, 480, .inl o_now_box_cells)), (q_o_now_box_pulls, .inl (cy 0, 5, .inl o_now_box_pulls)), (q_o_view, .inr (5, [.ref q_o_view_seen, x_o_view_counts, x_o_view_kinds, x_o_view_depths, x_o_view_prices])), (q_o_view_seen, .inl (cy 0, 384, .inl o_view_seen))] sz)) (kXC D k9 [(q_o, .inr (6, [x_o_setup, .ref q_o_now, x_o_trial, .ref q_o_view, x_o_trialView, x_o_past, x_o_nextPast, x_o_undoable])), (q_o_now, .inr (4, [.ref q_o_now_box, x_o_now_crowd])), (q_o_now_box, .inr (0, [.int o_now_box_width, .int o_now_box_height, .int o_now_box_planes, .int o_now_box_holes, x_o_now_box_reach, .ref q_o_now_box_cells, .ref q_o_now_box_pulls, x_o_now_box_holeX, x_o_now_box_holeY, x_o_now_box_price])), (q_o_now_box_cells, .inl (cy 0, 480, .inl o_now_box_cells)), (q_o_now_box_pulls, .inl (cy 0, 5, .inl o_now_box_pulls)), (q_o_view, .inr (5, [.ref q_o_view_seen, x_o_view_counts, x_o_view_kinds, x_o_view_depths, x_o_view_prices])), (q_o_view_seen, .inl (cy 0, 384, .inl o_view_seen))] (va_A [(q_o, .inr (6, [x_o_setup, .ref q_o_now, x_o_trial, .ref q_o_view, x_o_trialView, x_o_past, x_o_nextPast, x_o_undoable])), (q_o_now, .inr (4, [.ref q_o_now_box, x_o_now_crowd])), (q_o_now_box, .inr (0, [.int o_now_box_width, .int o_now_box_height, .int o_now_box_planes, .int o_now_box_holes, x_o_now_box_reach, .ref q_o_now_box_cells, .ref q_o_now_box_pulls, x_o_now_box_holeX, x_o_now_box_holeY, x_o_now_box_price])), (q_o_now_box_cells, .inl (cy 0, 480, .inl o_now_box_cells)), (q_o_now_box_pulls, .inl (cy 0, 5, .inl o_now_box_pulls)), (q_o_view, .inr (5, [.ref q_o_view_seen, x_o_view_counts, x_o_view_kinds, x_o_view_depths, x_o_view_prices])), (q_o_view_seen, .inl (cy 0, 384, .inl o_view_seen))] sz)) 1 6 (va_A [(q_o, .inr (6, [x_o_setup, .ref q_o_now, x_o_trial, .ref q_o_view, x_o_trialView, x_o_past, x_o_nextPast, x_o_undoable])), (q_o_now, .inr (4, [.ref q_o_now_box, x_o_now_crowd])), (q_o_now_box, .inr (0, [.int o_now_box_width, .int o_now_box_height, .int o_now_box_planes, .int o_now_box_holes, x_o_now_box_reach, .ref q_o_now_box_cells, .ref q_o_now_box_pulls, x_o_now_box_holeX, x_o_now_box_holeY, x_o_now_box_price])), (q_o_now_box_cells, .inl (cy 0, 480, .inl o_now_box_cells)), (q_o_now_box_pulls, .inl (cy 0, 5, .inl o_now_box_pulls)), (q_o_view, .inr (5, [.ref q_o_view_seen, x_o_view_counts, x_o_view_kinds, x_o_view_depths, x_o_view_prices])), (q_o_view_seen, .inl (cy 0, 384, .inl o_view_seen))] sz) := by
  refine kMetT (y := yX6_plane) (av := [.ref q_o, .int p1, .int p2]) (cc := cX6_plane) (maxL := 3) (ret := some .int) (own := RX6) (Qc := fun A9 => (kTi A9)) (X := fun A9 => (kXC D k9 [(q_o, .inr (6, [x_o_setup, .ref q_o_now, x_o_trial, .ref q_o_view, x_o_trialView, x_o_past, x_o_nextPast, x_o_undoable])), (q_o_now, .inr (4, [.ref q_o_now_box, x_o_now_crowd])), (q_o_now_box, .inr (0, [.int o_now_box_width, .int o_now_box_height, .int o_now_box_planes, .int o_now_box_holes, x_o_now_box_reach, .ref q_o_now_box_cells, .ref q_o_now_box_pulls, x_o_now_box_holeX, x_o_now_box_holeY, x_o_now_box_price])), (q_o_now_box_cells, .inl (cy 0, 480, .inl o_now_box_cells)), (q_o_now_box_pulls, .inl (cy 0, 5, .inl o_now_box_pulls)), (q_o_view, .inr (5, [.ref q_o_view_seen, x_o_view_counts, x_o_view_kinds, x_o_view_depths, x_o_view_prices])), (q_o_view_seen, .inl (cy 0, 384, .inl o_view_seen))] A9)) (by decide) rfl rfl (Nat.le_of_ble_eq_true rfl) ?_
  intro p e s m args below meth c A hx hb hr hts hown hml hlocks hxt hE hP hD hA hsz ls hl
  have hK := hE.1
  have hl : lv_has ls 3 [(0, .ref q_o), (1, .int p1), (2, .int p2)] := hl
  have hS : va_S A s.heap s.heap [] := va_S.rf
  have f_f19 := hts (.fieldLink RX6 19 "PeepBox" "now" "LPeepBox$Show;") (by decide +kernel)
  have f_inX6 : ∀ w ∈ wsX60, w ∈ wsX6_plane := by decide +kernel
  have f_f51 := hts (.fieldLink RX6 51 "PeepBox$Show" "box" "LPeepBox$Box;") (by decide +kernel)
  have f_inX4 : ∀ w ∈ wsX40, w ∈ wsX6_plane := by decide +kernel
  have f_f152 := hts (.fieldLink RX6 152 "PeepBox$Box" "pulls" "[I") (by decide +kernel)
  have f_inX0 : ∀ w ∈ wsX00, w ∈ wsX6_plane := by decide +kernel
  have f_f29 := hts (.fieldLink RX6 29 "PeepBox" "view" "LPeepBox$View;") (by decide +kernel)
  have f_k76 := hts (.classLink RX6 76 "java/lang/IllegalArgumentException") (by decide +kernel)
  have f_i2 := hts (.initialized "java/lang/IllegalArgumentException") (by decide +kernel)
  have fat_80 := vx_hat (L := vx_atS RX6 80 "java/lang/IllegalArgumentException" ["java/lang/RuntimeException", "java/lang/Exception"]) (B := [.castable "java/lang/IllegalArgumentException" "java/lang/IllegalArgumentException", .declares (Bundle.initS "java/lang/RuntimeException"), .declares (Bundle.initS "java/lang/Exception"), .declares (Bundle.initS "java/lang/Throwable")]) (fun w hw => hts w (List.mem_cons_of_mem _ (List.mem_append_left _ (List.mem_append_right _ hw)))) (by decide +kernel) (vx_c (va_Nw.use rfl (hE.2.2.2.2.2.2.2.1 _ (List.mem_of_getElem? (i := 1) rfl))) (vx_c (va_Nw.use rfl (hE.2.2.2.2.2.2.2.2.2 _ (List.mem_of_getElem? (i := 0) rfl))) (vx_c (va_Nw.use rfl (hE.2.2.2.2.2.2.2.2.2 _ (List.mem_of_getElem? (i := 1) rfl))) (vx_c (va_Nw.use rfl (hE.2.2.2.2.2.2.2.2.2 _ (List.mem_of_getElem? (i := 2) rfl))) vx_n))))
  obtain ⟨QQ, hQQ⟩ : ∃ Q9, Q9 = vx_MQ below (kTi A) (kXC D k9 [(q_o, .inr (6, [x_o_setup, .ref q_o_now, x_o_trial, .ref q_o_view, x_o_trialView, x_o_past, x_o_nextPast, x_o_undoable])), (q_o_now, .inr (4, [.ref q_o_now_box, x_o_now_crowd])), (q_o_now_box, .inr (0, [.int o_now_box_width, .int o_now_box_height, .int o_now_box_planes, .int o_now_box_holes, x_o_now_box_reach, .ref q_o_now_box_cells, .ref q_o_now_box_pulls, x_o_now_box_holeX, x_o_now_box_holeY, x_o_now_box_price])), (q_o_now_box_cells, .inl (cy 0, 480, .inl o_now_box_cells)), (q_o_now_box_pulls, .inl (cy 0, 5, .inl o_now_box_pulls)), (q_o_view, .inr (5, [.ref q_o_view_seen, x_o_view_counts, x_o_view_kinds, x_o_view_depths, x_o_view_prices])), (q_o_view_seen, .inl (cy 0, 384, .inl o_view_seen))] A) args s 1 6 A := ⟨_, rfl⟩
  rw [← hQQ]
  have main : ∀ (H : Heap) (locs : List Loc) (ls : Array Slot), va_P D vwCl [(q_o, .inr (6, [x_o_setup, .ref q_o_now, x_o_trial, .ref q_o_view, x_o_trialView, x_o_past, x_o_nextPast, x_o_undoable])), (q_o_now, .inr (4, [.ref q_o_now_box, x_o_now_crowd])), (q_o_now_box, .inr (0, [.int o_now_box_width, .int o_now_box_height, .int o_now_box_planes, .int o_now_box_holes, x_o_now_box_reach, .ref q_o_now_box_cells, .ref q_o_now_box_pulls, x_o_now_box_holeX, x_o_now_box_holeY, x_o_now_box_price])), (q_o_now_box_cells, .inl (cy 0, 480, .inl o_now_box_cells)), (q_o_now_box_pulls, .inl (cy 0, 5, .inl o_now_box_pulls)), (q_o_view, .inr (5, [.ref q_o_view_seen, x_o_view_counts, x_o_view_kinds, x_o_view_depths, x_o_view_prices])), (q_o_view_seen, .inl (cy 0, 384, .inl o_view_seen))] H → va_D A [(q_o, .inr (6, [x_o_setup, .ref q_o_now, x_o_trial, .ref q_o_view, x_o_trialView, x_o_past, x_o_nextPast, x_o_undoable])), (q_o_now, .inr (4, [.ref q_o_now_box, x_o_now_crowd])), (q_o_now_box, .inr (0, [.int o_now_box_width, .int o_now_box_height, .int o_now_box_planes, .int o_now_box_holes, x_o_now_box_reach, .ref q_o_now_box_cells, .ref q_o_now_box_pulls, x_o_now_box_holeX, x_o_now_box_holeY, x_o_now_box_price])), (q_o_now_box_cells, .inl (cy 0, 480, .inl o_now_box_cells)), (q_o_now_box_pulls, .inl (cy 0, 5, .inl o_now_box_pulls)), (q_o_view, .inr (5, [.ref q_o_view_seen, x_o_view_counts, x_o_view_kinds, x_o_view_depths, x_o_view_prices])), (q_o_view_seen, .inl (cy 0, 384, .inl o_view_seen))] → va_S A s.heap H locs → lv_has ls 3 [(0, .ref q_o), (1, .int p1), (2, .int p2)] → W p l e ({ frames := 7, cells := 1, slots := 6, locals := 111 } : Room) s m args below meth c H locs 0 0 QQ (F0 m 0 ls []) := by
    intro H locs ls hP hD hS hl
    unfold X6_plane at hF
    refine lv_aload_n hx hb dX6_plane_0 rfl (lv_at hl 0 rfl) ?_
    refine lv_iload_n hx hb dX6_plane_1 rfl (lv_at hl 1 rfl) ?_
    rcases bx0_t hF with h1 | ⟨h1, hF⟩
    · rw [hQQ]
      exact kt_v (vx_runV (As := [.int p1]) (rest := []) ⟨hx, hb, hml, hown, hts⟩ (t_X6_requirePlane hst q_o q_o_now q_o_now_box H.size x_o_setup x_o_trial (.ref q_o_view) x_o_trialView x_o_past x_o_nextPast x_o_undoable x_o_now_crowd (.int o_now_box_width) (.int o_now_box_height) (.int o_now_box_holes) x_o_now_box_reach (.ref q_o_now_box_cells) (.ref q_o_now_box_pulls) x_o_now_box_holeX x_o_now_box_holeY x_o_now_box_price o_now_box_planes p1 _ h1) (cwV 1 hts gX6_plane_X6_requirePlane rfl rfl rfl kd_X6_requirePlane ⟨Nat.le_of_ble_eq_true rfl, Nat.le_of_ble_eq_true rfl⟩) ⟨kP_blind (EN_ok D cy) D _ _ _, va_recv hK hP (ci := 6) (q0 := 0) rfl rfl, kStart (EN_ok D cy) hE hP hD hS hA [0, 1, 2] rfl rfl _⟩ rfl rfl hl.1 rfl (lv_room (Nat.le_of_ble_eq_true rfl)) dX6_plane_2 ⟨Nat.le_of_ble_eq_true rfl, Nat.le_of_ble_eq_true rfl⟩) hP hD hS hA [0, 1, 2] rfl (Nat.le_of_ble_eq_true rfl) hlocks hxt
    refine kd_v [(q_o, .inr (6, [x_o_setup, .ref q_o_now, x_o_trial, .ref q_o_view, x_o_trialView, x_o_past, x_o_nextPast, x_o_undoable])), (q_o_now, .inr (4, [.ref q_o_now_box, x_o_now_crowd])), (q_o_now_box, .inr (0, [.int o_now_box_width, .int o_now_box_height, .int o_now_box_planes, .int o_now_box_holes, x_o_now_box_reach, .ref q_o_now_box_cells, .ref q_o_now_box_pulls, x_o_now_box_holeX, x_o_now_box_holeY, x_o_now_box_price])), (q_o_now_box_cells, .inl (cy 0, 480, .inl o_now_box_cells)), (q_o_now_box_pulls, .inl (cy 0, 5, .inl o_now_box_pulls)), (q_o_view, .inr (5, [.ref q_o_view_seen, x_o_view_counts, x_o_view_kinds, x_o_view_depths, x_o_view_prices])), (q_o_view_seen, .inl (cy 0, 384, .inl o_view_seen))] (va_runV (As := [.int p1]) (rest := []) ⟨hx, hb, hml, hown, hts⟩ (c_X6_requirePlane q_o q_o_now q_o_now_box H.size x_o_setup x_o_trial (.ref q_o_view) x_o_trialView x_o_past x_o_nextPast x_o_undoable x_o_now_crowd (.int o_now_box_width) (.int o_now_box_height) (.int o_now_box_holes) x_o_now_box_reach (.ref q_o_now_box_cells) (.ref q_o_now_box_pulls) x_o_now_box_holeX x_o_now_box_holeY x_o_now_box_price o_now_box_planes p1 _ h1) (cwV 1 hts gX6_plane_X6_requirePlane rfl rfl rfl kd_X6_requirePlane ⟨Nat.le_of_ble_eq_true rfl, Nat.le_of_ble_eq_true rfl⟩) ⟨kP_blind (EN_ok D cy) D _ _ _, va_recv hK hP (ci := 6) (q0 := 0) rfl rfl, kStart (EN_ok D cy) hE hP hD hS hA [0, 1, 2] rfl rfl _⟩ rfl rfl hl.1 rfl (lv_room (Nat.le_of_ble_eq_true rfl)) dX6_plane_2 ⟨Nat.zero_le _, Nat.zero_le _⟩) hP hD hS hA [0, 1, 2] [3, 4, 5, 6] rfl rfl rfl 7 rfl (by decide +kernel) (fun H locs hP hD hS => ?_)
    refine lv_iload_n hx hb dX6_plane_5 rfl (lv_at hl 2 rfl) ?_
    by_cases c2 : p2 = 0
    · have hF := if_p hF c2
      refine lv_tableIn (off := 26) (tgt := 32) hx hb dX6_plane_6 (by rw [c2]; decide) (by rw [c2]; decide) (by rw [c2]; rfl) (by decide) ?_
      refine lv_aload_n hx hb dX6_plane_32 rfl (lv_at hl 0 rfl) ?_
      refine va_get (D := D) (ci := 6) (v := .ref q_o_now) (C := RX6) (T := TX6) (N := 8) hx hb hts f_inX6 hown hK hP 0 rfl rfl 1 (by decide) f_f19 (fun _ h9 => h9) rfl dX6_plane_33 ?_
      refine va_get (D := D) (ci := 4) (v := .ref q_o_now_box) (C := RX4) (T := TX4) (N := 2) hx hb hts f_inX4 hown hK hP 1 rfl rfl 0 (by decide) f_f51 (fun _ h9 => h9) rfl dX6_plane_36 ?_
      refine va_get (D := D) (ci := 0) (v := .ref q_o_now_box_pulls) (C := RX0) (T := TX0) (N := 10) hx hb hts f_inX0 hown hK hP 2 rfl rfl 6 (by decide) f_f152 (fun _ h9 => h9) rfl dX6_plane_39 ?_
      refine lv_iload_n hx hb dX6_plane_42 rfl (lv_at hl 1 rfl) ?_
      obtain ⟨h3, hF⟩ := ld_o hF
      refine va_iald hx hb hK hP 4 0 rfl rfl h3 dX6_plane_43 ?_
      refine lv_topi (fun v4 ev4 => ?_)
      have hF := hF v4 ev4
      cases hF
    have hF := if_n hF c2
    by_cases c5 : p2 = 1
    · have hF := if_p hF c5
      refine lv_tableIn (off := 39) (tgt := 45) hx hb dX6_plane_6 (by rw [c5]; decide) (by rw [c5]; decide) (by rw [c5]; rfl) (by decide) ?_
      refine lv_aload_n hx hb dX6_plane_45 rfl (lv_at hl 0 rfl) ?_
      refine va_get (D := D) (ci := 6) (v := .ref q_o_now) (C := RX6) (T := TX6) (N := 8) hx hb hts f_inX6 hown hK hP 0 rfl rfl 1 (by decide) f_f19 (fun _ h9 => h9) rfl dX6_plane_46 ?_
      refine va_get (D := D) (ci := 4) (v := .ref q_o_now_box) (C := RX4) (T := TX4) (N := 2) hx hb hts f_inX4 hown hK hP 1 rfl rfl 0 (by decide) f_f51 (fun _ h9 => h9) rfl dX6_plane_49 ?_
      refine lv_iload_n hx hb dX6_plane_52 rfl (lv_at hl 1 rfl) ?_
      obtain ⟨r6, h7, hF⟩ := bn1_o hF
      refine kd_i [(q_o, .inr (6, [x_o_setup, .ref q_o_now, x_o_trial, .ref q_o_view, x_o_trialView, x_o_past, x_o_nextPast, x_o_undoable])), (q_o_now, .inr (4, [.ref q_o_now_box, x_o_now_crowd])), (q_o_now_box, .inr (0, [.int o_now_box_width, .int o_now_box_height, .int o_now_box_planes, .int o_now_box_holes, x_o_now_box_reach, .ref q_o_now_box_cells, .ref q_o_now_box_pulls, x_o_now_box_holeX, x_o_now_box_holeY, x_o_now_box_price])), (q_o_now_box_cells, .inl (cy 0, 480, .inl o_now_box_cells)), (q_o_now_box_pulls, .inl (cy 0, 5, .inl o_now_box_pulls)), (q_o_view, .inr (5, [.ref q_o_view_seen, x_o_view_counts, x_o_view_kinds, x_o_view_depths, x_o_view_prices])), (q_o_view_seen, .inl (cy 0, 384, .inl o_view_seen))] (va_runV (As := [.int p1]) (rest := []) ⟨hx, hb, hml, hown, hts⟩ (c_X0_standing q_o_now_box q_o_now_box_cells q_o_now_box_pulls H.size (.int o_now_box_planes) (.int o_now_box_holes) x_o_now_box_reach x_o_now_box_holeX x_o_now_box_holeY x_o_now_box_price o_now_box_width o_now_box_height o_now_box_cells o_now_box_pulls p1 _ h7) (cwV 1 hts gX6_plane_X0_standing rfl rfl rfl kd_X0_standing ⟨Nat.le_of_ble_eq_true rfl, Nat.le_of_ble_eq_true rfl⟩) ⟨kP_blind (EN_ok D cy) D _ _ _, va_recv hK hP (ci := 0) (q0 := 2) rfl rfl, kStart (EN_ok D cy) hE hP hD hS hA [2, 3, 4] rfl rfl _⟩ rfl rfl hl.1 rfl (lv_room (Nat.le_of_ble_eq_true rfl)) dX6_plane_53 ⟨Nat.zero_le _, Nat.zero_le _⟩) hP hD hS hA [2, 3, 4] [0, 1, 5, 6] rfl rfl rfl 7 rfl (by decide +kernel) (fun H locs hP hD hS => ?_)
      cases hF
    have hF := if_n hF c5
    by_cases c8 : p2 = 2
    · have hF := if_p hF c8
      refine lv_tableIn (off := 51) (tgt := 57) hx hb dX6_plane_6 (by rw [c8]; decide) (by rw [c8]; decide) (by rw [c8]; rfl) (by decide) ?_
      refine lv_aload_n hx hb dX6_plane_57 rfl (lv_at hl 0 rfl) ?_
      refine va_get (D := D) (ci := 6) (v := .ref q_o_view) (C := RX6) (T := TX6) (N := 8) hx hb hts f_inX6 hown hK hP 0 rfl rfl 3 (by decide) f_f29 (fun _ h9 => h9) rfl dX6_plane_58 ?_
      refine lv_aload_n hx hb dX6_plane_61 rfl (lv_at hl 0 rfl) ?_
      refine va_get (D := D) (ci := 6) (v := .ref q_o_now) (C := RX6) (T := TX6) (N := 8) hx hb hts f_inX6 hown hK hP 0 rfl rfl 1 (by decide) f_f19 (fun _ h9 => h9) rfl dX6_plane_62 ?_
      refine va_get (D := D) (ci := 4) (v := .ref q_o_now_box) (C := RX4) (T := TX4) (N := 2) hx hb hts f_inX4 hown hK hP 1 rfl rfl 0 (by decide) f_f51 (fun _ h9 => h9) rfl dX6_plane_65 ?_
      refine lv_iload_n hx hb dX6_plane_68 rfl (lv_at hl 1 rfl) ?_
      obtain ⟨r9, h10, hF⟩ := bn1_o hF
      refine kd_i [(q_o, .inr (6, [x_o_setup, .ref q_o_now, x_o_trial, .ref q_o_view, x_o_trialView, x_o_past, x_o_nextPast, x_o_undoable])), (q_o_now, .inr (4, [.ref q_o_now_box, x_o_now_crowd])), (q_o_now_box, .inr (0, [.int o_now_box_width, .int o_now_box_height, .int o_now_box_planes, .int o_now_box_holes, x_o_now_box_reach, .ref q_o_now_box_cells, .ref q_o_now_box_pulls, x_o_now_box_holeX, x_o_now_box_holeY, x_o_now_box_price])), (q_o_now_box_cells, .inl (cy 0, 480, .inl o_now_box_cells)), (q_o_now_box_pulls, .inl (cy 0, 5, .inl o_now_box_pulls)), (q_o_view, .inr (5, [.ref q_o_view_seen, x_o_view_counts, x_o_view_kinds, x_o_view_depths, x_o_view_prices])), (q_o_view_seen, .inl (cy 0, 384, .inl o_view_seen))] (va_runV (As := [.ref q_o_now_box, .int p1]) (rest := []) ⟨hx, hb, hml, hown, hts⟩ (c_X5_targetsOf q_o_view q_o_view_seen q_o_now_box H.size x_o_view_counts x_o_view_kinds x_o_view_depths x_o_view_prices (.int o_now_box_planes) x_o_now_box_reach (.ref q_o_now_box_cells) (.ref q_o_now_box_pulls) x_o_now_box_holeX x_o_now_box_holeY x_o_now_box_price o_view_seen o_now_box_width o_now_box_height o_now_box_holes p1 _ h10) (cwV 2 hts gX6_plane_X5_targetsOf rfl rfl rfl kd_X5_targetsOf ⟨Nat.le_of_ble_eq_true rfl, Nat.le_of_ble_eq_true rfl⟩) ⟨kP_blind (EN_ok D cy) D _ _ _, va_recv hK hP (ci := 5) (q0 := 5) rfl rfl, kStart (EN_ok D cy) hE hP hD hS hA [5, 6, 2] rfl rfl _⟩ rfl rfl hl.1 rfl (lv_room (Nat.le_of_ble_eq_true rfl)) dX6_plane_69 ⟨Nat.zero_le _, Nat.zero_le _⟩) hP hD hS hA [5, 6, 2] [0, 1, 3, 4] rfl rfl rfl 7 rfl (by decide +kernel) (fun H locs hP hD hS => ?_)
      cases hF
    have hF := if_n hF c8
    have tc2 : p2.toInt ≠ 0 := fun h9 => c2 (Int32.toInt_inj.mp (h9.trans (by decide)))
    have tc5 : p2.toInt ≠ 1 := fun h9 => c5 (Int32.toInt_inj.mp (h9.trans (by decide)))
    have tc8 : p2.toInt ≠ 2 := fun h9 => c8 (Int32.toInt_inj.mp (h9.trans (by decide)))
    refine lv_tableOut (tgt := 73) hx hb dX6_plane_6 (by omega) (by decide) ?_
    obtain rfl := sl_o hF
    obtain ⟨a11, hRa11, hTa11⟩ := hE.2.2.1 ("PeepBox", 163, "no such number of a plane", [110, 111, 32, 115, 117, 99, 104, 32, 110, 117, 109, 98, 101, 114, 32, 111, 102, 32, 97, 32, 112, 108, 97, 110, 101]) (by decide +kernel)
    rw [hQQ]
    exact vx_throwS (A := A) hx hb hst hown (by decide +kernel) (by decide +kernel) f_k76 f_i2 hRa11 fat_80 (by decide +kernel) hE.2.2.2.2.1 hE.2.2.2.2.2.1 hS (by rw [hml]; exact hl.1) dX6_plane_73 dX6_plane_76 dX6_plane_77 dX6_plane_79 dX6_plane_82 (fun z hz => absurd hz (hxt z)) (Nat.le_of_ble_eq_true rfl) (Nat.le_of_ble_eq_true rfl) (Nat.le_of_ble_eq_true rfl) (Nat.le_of_ble_eq_true rfl) hlocks (kx_end hP hD hS rfl) hS.2.2 (Nat.le_of_ble_eq_true rfl) (Nat.le_of_ble_eq_true rfl)
  exact main s.heap [] ls hP hD hS hl
theorem kd_X6_requireHole : yX6_requireHole.cls = RX6 ∧ yX6_requireHole.cls ≠ "java/lang/invoke/MethodHandle" ∧ yX6_requireHole.cls ≠ "java/lang/invoke/VarHandle" ∧ (parseMethodDescriptor yX6_requireHole.desc).map (fun d => d.parameters.length) = some 1 := by decide +kernel
set_option maxHeartbeats 4000000 in
set_option maxRecDepth 100000 in
theorem c_X6_requireHole {l : Launch} {D : va_G} {cy : Nat → ClassId} (q_o q_o_now q_o_now_box : Nat) (sz : Nat) (x_o_setup x_o_trial x_o_view x_o_trialView x_o_past x_o_nextPast x_o_undoable x_o_now_crowd x_o_now_box_width x_o_now_box_height x_o_now_box_planes x_o_now_box_reach x_o_now_box_cells x_o_now_box_pulls x_o_now_box_holeX x_o_now_box_holeY x_o_now_box_price : Value) (o_now_box_holes : Int32) (p1 : Int32) (res : Unit) (hF : X6_requireHole o_now_box_holes p1 = some (.inr res)) : Met l yX6_requireHole wsX6_requireHole ({ frames := 0, cells := 0, slots := 0, locals := 0 } : Room) (kP (EN D cy) D [.ref q_o, .int p1] [(q_o, .inr (6, [x_o_setup, .ref q_o_now, x_o_trial, x_o_view, x_o_trialView, x_o_past, x_o_nextPast, x_o_undoable])), (q_o_now, .inr (4, [.ref q_o_now_box, x_o_now_crowd])), (q_o_now_box, .inr (0, [x_o_now_box_width, x_o_now_box_height, x_o_now_box_planes, .int o_now_box_holes, x_o_now_box_reach, x_o_now_box_cells, x_o_now_box_pulls, x_o_now_box_holeX, x_o_now_box_holeY, x_o_now_box_price]))] sz) (kQv D [(q_o, .inr (6, [x_o_setup, .ref q_o_now, x_o_trial, x_o_view, x_o_trialView, x_o_past, x_o_nextPast, x_o_undoable])), (q_o_now, .inr (4, [.ref q_o_now_box, x_o_now_crowd])), (q_o_now_box, .inr (0, [x_o_now_box_width, x_o_now_box_height, x_o_now_box_planes, .int o_now_box_holes, x_o_now_box_reach, x_o_now_box_cells, x_o_now_box_pulls, x_o_now_box_holeX, x_o_now_box_holeY, x_o_now_box_price]))] (va_A [(q_o, .inr (6, [x_o_setup, .ref q_o_now, x_o_trial, x_o_view, x_o_trialView, x_o_past, x_o_nextPast, x_o_undoable])), (q_o_now, .inr (4, [.ref q_o_now_box, x_o_now_crowd])), (q_o_now_box, .inr (0, [x_o_now_box_width, x_o_now_box_height, x_o_now_box_planes, .int o_now_box_holes, x_o_now_box_reach, x_o_now_box_cells, x_o_now_box_pulls, x_o_now_box_holeX, x_o_now_box_holeY, x_o_now_box_price]))] sz)) 0 0 (va_A [(q_o, .inr (6, [x_o_setup, .ref q_o_now, x_o_trial, x_o_view, x_o_trialView, x_o_past, x_o_nextPast, x_o_undoable])), (q_o_now, .inr (4, [.ref q_o_now_box, x_o_now_crowd])), (q_o_now_box, .inr (0, [x_o_now_box_width, x_o_now_box_height, x_o_now_box_planes, .int o_now_box_holes, x_o_now_box_reach, x_o_now_box_cells, x_o_now_box_pulls, x_o_now_box_holeX, x_o_now_box_holeY, x_o_now_box_price]))] sz) := by
  refine kMet (y := yX6_requireHole) (av := [.ref q_o, .int p1]) (cc := cX6_requireHole) (maxL := 2) (ret := none) (own := RX6) (Qc := fun A9 => (kQv D [(q_o, .inr (6, [x_o_setup, .ref q_o_now, x_o_trial, x_o_view, x_o_trialView, x_o_past, x_o_nextPast, x_o_undoable])), (q_o_now, .inr (4, [.ref q_o_now_box, x_o_now_crowd])), (q_o_now_box, .inr (0, [x_o_now_box_width, x_o_now_box_height, x_o_now_box_planes, .int o_now_box_holes, x_o_now_box_reach, x_o_now_box_cells, x_o_now_box_pulls, x_o_now_box_holeX, x_o_now_box_holeY, x_o_now_box_price]))] A9)) (by decide) rfl rfl (Nat.le_of_ble_eq_true rfl) ?_
  intro p e s m args below meth c A hx hb hr hts hown hml hlocks hname hE hP hD hA hsz ls hl
  have hK := hE.1
  have hl : lv_has ls 2 [(0, .ref q_o), (1, .int p1)] := hl
  have hS : va_S A s.heap s.heap [] := va_S.rf
  have f_f19 := hts (.fieldLink RX6 19 "PeepBox" "now" "LPeepBox$Show;") (by decide +kernel)
  have f_inX6 : ∀ w ∈ wsX60, w ∈ wsX6_requireHole := by decide +kernel
  have f_f51 := hts (.fieldLink RX6 51 "PeepBox$Show" "box" "LPeepBox$Box;") (by decide +kernel)
  have f_inX4 : ∀ w ∈ wsX40, w ∈ wsX6_requireHole := by decide +kernel
  have f_f120 := hts (.fieldLink RX6 120 "PeepBox$Box" "holes" "I") (by decide +kernel)
  have f_inX0 : ∀ w ∈ wsX00, w ∈ wsX6_requireHole := by decide +kernel
  obtain ⟨QQ, hQQ⟩ : ∃ Q9, Q9 = MQ below (kQv D [(q_o, .inr (6, [x_o_setup, .ref q_o_now, x_o_trial, x_o_view, x_o_trialView, x_o_past, x_o_nextPast, x_o_undoable])), (q_o_now, .inr (4, [.ref q_o_now_box, x_o_now_crowd])), (q_o_now_box, .inr (0, [x_o_now_box_width, x_o_now_box_height, x_o_now_box_planes, .int o_now_box_holes, x_o_now_box_reach, x_o_now_box_cells, x_o_now_box_pulls, x_o_now_box_holeX, x_o_now_box_holeY, x_o_now_box_price]))] A) args s 0 0 A := ⟨_, rfl⟩
  rw [← hQQ]
  have J18 : ∀ (H : Heap) (locs : List Loc) (ls : Array Slot), va_P D vwCl [(q_o, .inr (6, [x_o_setup, .ref q_o_now, x_o_trial, x_o_view, x_o_trialView, x_o_past, x_o_nextPast, x_o_undoable])), (q_o_now, .inr (4, [.ref q_o_now_box, x_o_now_crowd])), (q_o_now_box, .inr (0, [x_o_now_box_width, x_o_now_box_height, x_o_now_box_planes, .int o_now_box_holes, x_o_now_box_reach, x_o_now_box_cells, x_o_now_box_pulls, x_o_now_box_holeX, x_o_now_box_holeY, x_o_now_box_price]))] H → va_D A [(q_o, .inr (6, [x_o_setup, .ref q_o_now, x_o_trial, x_o_view, x_o_trialView, x_o_past, x_o_nextPast, x_o_undoable])), (q_o_now, .inr (4, [.ref q_o_now_box, x_o_now_crowd])), (q_o_now_box, .inr (0, [x_o_now_box_width, x_o_now_box_height, x_o_now_box_planes, .int o_now_box_holes, x_o_now_box_reach, x_o_now_box_cells, x_o_now_box_pulls, x_o_now_box_holeX, x_o_now_box_holeY, x_o_now_box_price]))] → va_S A s.heap H locs → lv_has ls 2 [] → X6_requireHole_J18 o_now_box_holes p1 = some (.inr res) → W p l e ({ frames := 0, cells := 0, slots := 0, locals := 0 } : Room) s m args below meth c H locs 0 0 QQ (F0 m 18 ls []) := by
    intro  H locs ls hP hD hS hl hF
    unfold X6_requireHole_J18 at hF
    cases hF
  have main : ∀ (H : Heap) (locs : List Loc) (ls : Array Slot), va_P D vwCl [(q_o, .inr (6, [x_o_setup, .ref q_o_now, x_o_trial, x_o_view, x_o_trialView, x_o_past, x_o_nextPast, x_o_undoable])), (q_o_now, .inr (4, [.ref q_o_now_box, x_o_now_crowd])), (q_o_now_box, .inr (0, [x_o_now_box_width, x_o_now_box_height, x_o_now_box_planes, .int o_now_box_holes, x_o_now_box_reach, x_o_now_box_cells, x_o_now_box_pulls, x_o_now_box_holeX, x_o_now_box_holeY, x_o_now_box_price]))] H → va_D A [(q_o, .inr (6, [x_o_setup, .ref q_o_now, x_o_trial, x_o_view, x_o_trialView, x_o_past, x_o_nextPast, x_o_undoable])), (q_o_now, .inr (4, [.ref q_o_now_box, x_o_now_crowd])), (q_o_now_box, .inr (0, [x_o_now_box_width, x_o_now_box_height, x_o_now_box_planes, .int o_now_box_holes, x_o_now_box_reach, x_o_now_box_cells, x_o_now_box_pulls, x_o_now_box_holeX, x_o_now_box_holeY, x_o_now_box_price]))] → va_S A s.heap H locs → lv_has ls 2 [(0, .ref q_o), (1, .int p1)] → W p l e ({ frames := 0, cells := 0, slots := 0, locals := 0 } : Room) s m args below meth c H locs 0 0 QQ (F0 m 0 ls []) := by
    intro H locs ls hP hD hS hl
    unfold X6_requireHole at hF
    refine lv_iload_n hx hb dX6_requireHole_0 rfl (lv_at hl 1 rfl) ?_
    refine lv_if_lt (tgt := 18) hx hb dX6_requireHole_1 (by decide) (fun c1 => ?_) (fun c1 => ?_)
    · have hF := if_p hF c1
      exact J18  H locs ls hP hD hS (lv_sub hl [] rfl) hF
    · have hF := if_n hF c1
      refine lv_iload_n hx hb dX6_requireHole_4 rfl (lv_at hl 1 rfl) ?_
      refine lv_aload_n hx hb dX6_requireHole_5 rfl (lv_at hl 0 rfl) ?_
      refine va_get (D := D) (ci := 6) (v := .ref q_o_now) (C := RX6) (T := TX6) (N := 8) hx hb hts f_inX6 hown hK hP 0 rfl rfl 1 (by decide) f_f19 (fun _ h9 => h9) rfl dX6_requireHole_6 ?_
      refine va_get (D := D) (ci := 4) (v := .ref q_o_now_box) (C := RX4) (T := TX4) (N := 2) hx hb hts f_inX4 hown hK hP 1 rfl rfl 0 (by decide) f_f51 (fun _ h9 => h9) rfl dX6_requireHole_9 ?_
      refine va_get (D := D) (ci := 0) (v := .int o_now_box_holes) (C := RX0) (T := TX0) (N := 10) hx hb hts f_inX0 hown hK hP 2 rfl rfl 3 (by decide) f_f120 (fun _ h9 => h9) rfl dX6_requireHole_12 ?_
      refine lv_icmp_lt (tgt := 29) hx hb dX6_requireHole_15 (by decide) (fun c2 => ?_) (fun c2 => ?_)
      · have hF := if_p hF c2
        obtain rfl := si_o hF
        rw [hQQ]
        exact kr_v hx hb hr hlocks hP hD hS dX6_requireHole_29
      · have hF := if_n hF c2
        exact J18  H locs ls hP hD hS (lv_sub hl [] rfl) hF
  exact main s.heap [] ls hP hD hS hl
set_option maxHeartbeats 4000000 in
set_option maxRecDepth 100000 in
theorem t_X6_requireHole {l : Launch} {D : va_G} {cy : Nat → ClassId} (hst : l.stackTraces = false) (q_o q_o_now q_o_now_box : Nat) (sz : Nat) (x_o_setup x_o_trial x_o_view x_o_trialView x_o_past x_o_nextPast x_o_undoable x_o_now_crowd x_o_now_box_width x_o_now_box_height x_o_now_box_planes x_o_now_box_reach x_o_now_box_cells x_o_now_box_pulls x_o_now_box_holeX x_o_now_box_holeY x_o_now_box_price : Value) (o_now_box_holes : Int32) (p1 : Int32) (k9 : Nat) (hF : X6_requireHole o_now_box_holes p1 = some (.inl k9)) : vx_Met l yX6_requireHole wsX6_requireHole ({ frames := 6, cells := 1, slots := 6, locals := 90 } : Room) (kP (EN D cy) D [.ref q_o, .int p1] [(q_o, .inr (6, [x_o_setup, .ref q_o_now, x_o_trial, x_o_view, x_o_trialView, x_o_past, x_o_nextPast, x_o_undoable])), (q_o_now, .inr (4, [.ref q_o_now_box, x_o_now_crowd])), (q_o_now_box, .inr (0, [x_o_now_box_width, x_o_now_box_height, x_o_now_box_planes, .int o_now_box_holes, x_o_now_box_reach, x_o_now_box_cells, x_o_now_box_pulls, x_o_now_box_holeX, x_o_now_box_holeY, x_o_now_box_price]))] sz) (kTv (va_A [(q_o, .inr (6, [x_o_setup, .ref q_o_now, x_o_trial, x_o_view, x_o_trialView, x_o_past, x_o_nextPast, x_o_undoable])), (q_o_now, .inr (4, [.ref q_o_now_box, x_o_now_crowd])), (q_o_now_box, .inr (0, [x_o_now_box_width, x_o_now_box_height, x_o_now_box_planes, .int o_now_box_holes, x_o_now_box_reach, x_o_now_box_cells, x_o_now_box_pulls, x_o_now_box_holeX, x_o_now_box_holeY, x_o_now_box_price]))] sz)) (kXC D k9 [(q_o, .inr (6, [x_o_setup, .ref q_o_now, x_o_trial, x_o_view, x_o_trialView, x_o_past, x_o_nextPast, x_o_undoable])), (q_o_now, .inr (4, [.ref q_o_now_box, x_o_now_crowd])), (q_o_now_box, .inr (0, [x_o_now_box_width, x_o_now_box_height, x_o_now_box_planes, .int o_now_box_holes, x_o_now_box_reach, x_o_now_box_cells, x_o_now_box_pulls, x_o_now_box_holeX, x_o_now_box_holeY, x_o_now_box_price]))] (va_A [(q_o, .inr (6, [x_o_setup, .ref q_o_now, x_o_trial, x_o_view, x_o_trialView, x_o_past, x_o_nextPast, x_o_undoable])), (q_o_now, .inr (4, [.ref q_o_now_box, x_o_now_crowd])), (q_o_now_box, .inr (0, [x_o_now_box_width, x_o_now_box_height, x_o_now_box_planes, .int o_now_box_holes, x_o_now_box_reach, x_o_now_box_cells, x_o_now_box_pulls, x_o_now_box_holeX, x_o_now_box_holeY, x_o_now_box_price]))] sz)) 1 6 (va_A [(q_o, .inr (6, [x_o_setup, .ref q_o_now, x_o_trial, x_o_view, x_o_trialView, x_o_past, x_o_nextPast, x_o_undoable])), (q_o_now, .inr (4, [.ref q_o_now_box, x_o_now_crowd])), (q_o_now_box, .inr (0, [x_o_now_box_width, x_o_now_box_height, x_o_now_box_planes, .int o_now_box_holes, x_o_now_box_reach, x_o_now_box_cells, x_o_now_box_pulls, x_o_now_box_holeX, x_o_now_box_holeY, x_o_now_box_price]))] sz) := by
  refine kMetT (y := yX6_requireHole) (av := [.ref q_o, .int p1]) (cc := cX6_requireHole) (maxL := 2) (ret := none) (own := RX6) (Qc := fun A9 => (kTv A9)) (X := fun A9 => (kXC D k9 [(q_o, .inr (6, [x_o_setup, .ref q_o_now, x_o_trial, x_o_view, x_o_trialView, x_o_past, x_o_nextPast, x_o_undoable])), (q_o_now, .inr (4, [.ref q_o_now_box, x_o_now_crowd])), (q_o_now_box, .inr (0, [x_o_now_box_width, x_o_now_box_height, x_o_now_box_planes, .int o_now_box_holes, x_o_now_box_reach, x_o_now_box_cells, x_o_now_box_pulls, x_o_now_box_holeX, x_o_now_box_holeY, x_o_now_box_price]))] A9)) (by decide) rfl rfl (Nat.le_of_ble_eq_true rfl) ?_
  intro p e s m args below meth c A hx hb hr hts hown hml hlocks hxt hE hP hD hA hsz ls hl
  have hK := hE.1
  have hl : lv_has ls 2 [(0, .ref q_o), (1, .int p1)] := hl
  have hS : va_S A s.heap s.heap [] := va_S.rf
  have f_k268 := hts (.classLink RX6 268 "java/lang/IndexOutOfBoundsException") (by decide +kernel)
  have f_i1 := hts (.initialized "java/lang/IndexOutOfBoundsException") (by decide +kernel)
  have f_f19 := hts (.fieldLink RX6 19 "PeepBox" "now" "LPeepBox$Show;") (by decide +kernel)
  have f_inX6 : ∀ w ∈ wsX60, w ∈ wsX6_requireHole := by decide +kernel
  have f_f51 := hts (.fieldLink RX6 51 "PeepBox$Show" "box" "LPeepBox$Box;") (by decide +kernel)
  have f_inX4 : ∀ w ∈ wsX40, w ∈ wsX6_requireHole := by decide +kernel
  have f_f120 := hts (.fieldLink RX6 120 "PeepBox$Box" "holes" "I") (by decide +kernel)
  have f_inX0 : ∀ w ∈ wsX00, w ∈ wsX6_requireHole := by decide +kernel
  have fat_272 := vx_hat (L := vx_atS RX6 272 "java/lang/IndexOutOfBoundsException" ["java/lang/RuntimeException", "java/lang/Exception"]) (B := [.castable "java/lang/IndexOutOfBoundsException" "java/lang/IndexOutOfBoundsException", .declares (Bundle.initS "java/lang/RuntimeException"), .declares (Bundle.initS "java/lang/Exception"), .declares (Bundle.initS "java/lang/Throwable")]) (fun w hw => hts w (List.mem_cons_of_mem _ (List.mem_append_right _ hw))) (by decide +kernel) (vx_c (va_Nw.use rfl (hE.2.2.2.2.2.2.2.1 _ (List.mem_of_getElem? (i := 0) rfl))) (vx_c (va_Nw.use rfl (hE.2.2.2.2.2.2.2.2.2 _ (List.mem_of_getElem? (i := 0) rfl))) (vx_c (va_Nw.use rfl (hE.2.2.2.2.2.2.2.2.2 _ (List.mem_of_getElem? (i := 1) rfl))) (vx_c (va_Nw.use rfl (hE.2.2.2.2.2.2.2.2.2 _ (List.mem_of_getElem? (i := 2) rfl))) vx_n))))
  obtain ⟨QQ, hQQ⟩ : ∃ Q9, Q9 = vx_MQ below (kTv A) (kXC D k9 [(q_o, .inr (6, [x_o_setup, .ref q_o_now, x_o_trial, x_o_view, x_o_trialView, x_o_past, x_o_nextPast, x_o_undoable])), (q_o_now, .inr (4, [.ref q_o_now_box, x_o_now_crowd])), (q_o_now_box, .inr (0, [x_o_now_box_width, x_o_now_box_height, x_o_now_box_planes, .int o_now_box_holes, x_o_now_box_reach, x_o_now_box_cells, x_o_now_box_pulls, x_o_now_box_holeX, x_o_now_box_holeY, x_o_now_box_price]))] A) args s 1 6 A := ⟨_, rfl⟩
  rw [← hQQ]
  have J18 : ∀ (H : Heap) (locs : List Loc) (ls : Array Slot), va_P D vwCl [(q_o, .inr (6, [x_o_setup, .ref q_o_now, x_o_trial, x_o_view, x_o_trialView, x_o_past, x_o_nextPast, x_o_undoable])), (q_o_now, .inr (4, [.ref q_o_now_box, x_o_now_crowd])), (q_o_now_box, .inr (0, [x_o_now_box_width, x_o_now_box_height, x_o_now_box_planes, .int o_now_box_holes, x_o_now_box_reach, x_o_now_box_cells, x_o_now_box_pulls, x_o_now_box_holeX, x_o_now_box_holeY, x_o_now_box_price]))] H → va_D A [(q_o, .inr (6, [x_o_setup, .ref q_o_now, x_o_trial, x_o_view, x_o_trialView, x_o_past, x_o_nextPast, x_o_undoable])), (q_o_now, .inr (4, [.ref q_o_now_box, x_o_now_crowd])), (q_o_now_box, .inr (0, [x_o_now_box_width, x_o_now_box_height, x_o_now_box_planes, .int o_now_box_holes, x_o_now_box_reach, x_o_now_box_cells, x_o_now_box_pulls, x_o_now_box_holeX, x_o_now_box_holeY, x_o_now_box_price]))] → va_S A s.heap H locs → lv_has ls 2 [] → X6_requireHole_J18 o_now_box_holes p1 = some (.inl k9) → W p l e ({ frames := 6, cells := 1, slots := 6, locals := 90 } : Room) s m args below meth c H locs 0 0 QQ (F0 m 18 ls []) := by
    intro  H locs ls hP hD hS hl hF
    unfold X6_requireHole_J18 at hF
    obtain rfl := sl_o hF
    obtain ⟨a1, hRa1, hTa1⟩ := hE.2.2.1 ("PeepBox", 273, "no such hole", [110, 111, 32, 115, 117, 99, 104, 32, 104, 111, 108, 101]) (by decide +kernel)
    rw [hQQ]
    exact vx_throwSW (A := A) hx hb hst hown (by decide +kernel) (by decide +kernel) f_k268 f_i1 hRa1 fat_272 (by decide +kernel) hE.2.2.2.2.1 hE.2.2.2.2.2.1 hS (by rw [hml]; exact hl.1) dX6_requireHole_18 dX6_requireHole_21 dX6_requireHole_22 dX6_requireHole_25 dX6_requireHole_28 (fun z hz => absurd hz (hxt z)) (Nat.le_of_ble_eq_true rfl) (Nat.le_of_ble_eq_true rfl) (Nat.le_of_ble_eq_true rfl) (Nat.le_of_ble_eq_true rfl) hlocks (kx_end hP hD hS rfl) hS.2.2 (Nat.le_of_ble_eq_true rfl) (Nat.le_of_ble_eq_true rfl)
  have main : ∀ (H : Heap) (locs : List Loc) (ls : Array Slot), va_P D vwCl [(q_o, .inr (6, [x_o_setup, .ref q_o_now, x_o_trial, x_o_view, x_o_trialView, x_o_past, x_o_nextPast, x_o_undoable])), (q_o_now, .inr (4, [.ref q_o_now_box, x_o_now_crowd])), (q_o_now_box, .inr (0, [x_o_now_box_width, x_o_now_box_height, x_o_now_box_planes, .int o_now_box_holes, x_o_now_box_reach, x_o_now_box_cells, x_o_now_box_pulls, x_o_now_box_holeX, x_o_now_box_holeY, x_o_now_box_price]))] H → va_D A [(q_o, .inr (6, [x_o_setup, .ref q_o_now, x_o_trial, x_o_view, x_o_trialView, x_o_past, x_o_nextPast, x_o_undoable])), (q_o_now, .inr (4, [.ref q_o_now_box, x_o_now_crowd])), (q_o_now_box, .inr (0, [x_o_now_box_width, x_o_now_box_height, x_o_now_box_planes, .int o_now_box_holes, x_o_now_box_reach, x_o_now_box_cells, x_o_now_box_pulls, x_o_now_box_holeX, x_o_now_box_holeY, x_o_now_box_price]))] → va_S A s.heap H locs → lv_has ls 2 [(0, .ref q_o), (1, .int p1)] → W p l e ({ frames := 6, cells := 1, slots := 6, locals := 90 } : Room) s m args below meth c H locs 0 0 QQ (F0 m 0 ls []) := by
    intro H locs ls hP hD hS hl
    unfold X6_requireHole at hF
    refine lv_iload_n hx hb dX6_requireHole_0 rfl (lv_at hl 1 rfl) ?_
    refine lv_if_lt (tgt := 18) hx hb dX6_requireHole_1 (by decide) (fun c2 => ?_) (fun c2 => ?_)
    · have hF := if_p hF c2
      exact J18  H locs ls hP hD hS (lv_sub hl [] rfl) hF
    · have hF := if_n hF c2
      refine lv_iload_n hx hb dX6_requireHole_4 rfl (lv_at hl 1 rfl) ?_
      refine lv_aload_n hx hb dX6_requireHole_5 rfl (lv_at hl 0 rfl) ?_
      refine va_get (D := D) (ci := 6) (v := .ref q_o_now) (C := RX6) (T := TX6) (N := 8) hx hb hts f_inX6 hown hK hP 0 rfl rfl 1 (by decide) f_f19 (fun _ h9 => h9) rfl dX6_requireHole_6 ?_
      refine va_get (D := D) (ci := 4) (v := .ref q_o_now_box) (C := RX4) (T := TX4) (N := 2) hx hb hts f_inX4 hown hK hP 1 rfl rfl 0 (by decide) f_f51 (fun _ h9 => h9) rfl dX6_requireHole_9 ?_
      refine va_get (D := D) (ci := 0) (v := .int o_now_box_holes) (C := RX0) (T := TX0) (N := 10) hx hb hts f_inX0 hown hK hP 2 rfl rfl 3 (by decide) f_f120 (fun _ h9 => h9) rfl dX6_requireHole_12 ?_
      refine lv_icmp_lt (tgt := 29) hx hb dX6_requireHole_15 (by decide) (fun c3 => ?_) (fun c3 => ?_)
      · have hF := if_p hF c3
        cases hF
      · have hF := if_n hF c3
        exact J18  H locs ls hP hD hS (lv_sub hl [] rfl) hF
  exact main s.heap [] ls hP hD hS hl
theorem kd_X6_hole : yX6_hole.cls = RX6 ∧ yX6_hole.cls ≠ "java/lang/invoke/MethodHandle" ∧ yX6_hole.cls ≠ "java/lang/invoke/VarHandle" ∧ (parseMethodDescriptor yX6_hole.desc).map (fun d => d.parameters.length) = some 2 := by decide +kernel
set_option maxHeartbeats 4000000 in
set_option maxRecDepth 100000 in
theorem c_X6_hole {l : Launch} {D : va_G} {cy : Nat → ClassId} (q_o q_o_now q_o_now_box q_o_now_box_holeX q_o_now_box_holeY q_o_now_crowd q_o_now_crowd_lookers q_o_view q_o_view_kinds q_o_view_depths : Nat) (sz : Nat) (x_o_setup x_o_trial x_o_trialView x_o_past x_o_nextPast x_o_undoable x_o_now_box_width x_o_now_box_height x_o_now_box_planes x_o_now_box_reach x_o_now_box_cells x_o_now_box_pulls x_o_now_box_price x_o_now_crowd_viewers x_o_now_crowd_lookLength x_o_now_crowd_time x_o_now_crowd_facts x_o_view_seen x_o_view_counts x_o_view_prices : Value) (o_now_box_holes : Int32) (o_now_box_holeX : Nat → Int32) (o_now_box_holeY : Nat → Int32) (o_now_crowd_lookers : Nat → Int32) (o_view_kinds : Nat → Int32) (o_view_depths : Nat → Int32) (p1 : Int32) (p2 : Int32) (res : Int32) (hF : X6_hole o_now_box_holes o_now_box_holeX o_now_box_holeY o_now_crowd_lookers o_view_kinds o_view_depths p1 p2 = some (.inr res)) : Met l yX6_hole wsX6_hole ({ frames := 1, cells := 0, slots := 0, locals := 21 } : Room) (kP (EN D cy) D [.ref q_o, .int p1, .int p2] [(q_o, .inr (6, [x_o_setup, .ref q_o_now, x_o_trial, .ref q_o_view, x_o_trialView, x_o_past, x_o_nextPast, x_o_undoable])), (q_o_now, .inr (4, [.ref q_o_now_box, .ref q_o_now_crowd])), (q_o_now_box, .inr (0, [x_o_now_box_width, x_o_now_box_height, x_o_now_box_planes, .int o_now_box_holes, x_o_now_box_reach, x_o_now_box_cells, x_o_now_box_pulls, .ref q_o_now_box_holeX, .ref q_o_now_box_holeY, x_o_now_box_price])), (q_o_now_box_holeX, .inl (cy 0, 4, .inl o_now_box_holeX)), (q_o_now_box_holeY, .inl (cy 0, 4, .inl o_now_box_holeY)), (q_o_now_crowd, .inr (1, [x_o_now_crowd_viewers, x_o_now_crowd_lookLength, x_o_now_crowd_time, .ref q_o_now_crowd_lookers, x_o_now_crowd_facts])), (q_o_now_crowd_lookers, .inl (cy 0, 4, .inl o_now_crowd_lookers)), (q_o_view, .inr (5, [x_o_view_seen, x_o_view_counts, .ref q_o_view_kinds, .ref q_o_view_depths, x_o_view_prices])), (q_o_view_kinds, .inl (cy 0, 4, .inl o_view_kinds)), (q_o_view_depths, .inl (cy 0, 4, .inl o_view_depths))] sz) (kQi D res [(q_o, .inr (6, [x_o_setup, .ref q_o_now, x_o_trial, .ref q_o_view, x_o_trialView, x_o_past, x_o_nextPast, x_o_undoable])), (q_o_now, .inr (4, [.ref q_o_now_box, .ref q_o_now_crowd])), (q_o_now_box, .inr (0, [x_o_now_box_width, x_o_now_box_height, x_o_now_box_planes, .int o_now_box_holes, x_o_now_box_reach, x_o_now_box_cells, x_o_now_box_pulls, .ref q_o_now_box_holeX, .ref q_o_now_box_holeY, x_o_now_box_price])), (q_o_now_box_holeX, .inl (cy 0, 4, .inl o_now_box_holeX)), (q_o_now_box_holeY, .inl (cy 0, 4, .inl o_now_box_holeY)), (q_o_now_crowd, .inr (1, [x_o_now_crowd_viewers, x_o_now_crowd_lookLength, x_o_now_crowd_time, .ref q_o_now_crowd_lookers, x_o_now_crowd_facts])), (q_o_now_crowd_lookers, .inl (cy 0, 4, .inl o_now_crowd_lookers)), (q_o_view, .inr (5, [x_o_view_seen, x_o_view_counts, .ref q_o_view_kinds, .ref q_o_view_depths, x_o_view_prices])), (q_o_view_kinds, .inl (cy 0, 4, .inl o_view_kinds)), (q_o_view_depths, .inl (cy 0, 4, .inl o_view_depths))] (va_A [(q_o, .inr (6, [x_o_setup, .ref q_o_now, x_o_trial, .ref q_o_view, x_o_trialView, x_o_past, x_o_nextPast, x_o_undoable])), (q_o_now, .inr (4, [.ref q_o_now_box, .ref q_o_now_crowd])), (q_o_now_box, .inr (0, [x_o_now_box_width, x_o_now_box_height, x_o_now_box_planes, .int o_now_box_holes, x_o_now_box_reach, x_o_now_box_cells, x_o_now_box_pulls, .ref q_o_now_box_holeX, .ref q_o_now_box_holeY, x_o_now_box_price])), (q_o_now_box_holeX, .inl (cy 0, 4, .inl o_now_box_holeX)), (q_o_now_box_holeY, .inl (cy 0, 4, .inl o_now_box_holeY)), (q_o_now_crowd, .inr (1, [x_o_now_crowd_viewers, x_o_now_crowd_lookLength, x_o_now_crowd_time, .ref q_o_now_crowd_lookers, x_o_now_crowd_facts])), (q_o_now_crowd_lookers, .inl (cy 0, 4, .inl o_now_crowd_lookers)), (q_o_view, .inr (5, [x_o_view_seen, x_o_view_counts, .ref q_o_view_kinds, .ref q_o_view_depths, x_o_view_prices])), (q_o_view_kinds, .inl (cy 0, 4, .inl o_view_kinds)), (q_o_view_depths, .inl (cy 0, 4, .inl o_view_depths))] sz)) 0 0 (va_A [(q_o, .inr (6, [x_o_setup, .ref q_o_now, x_o_trial, .ref q_o_view, x_o_trialView, x_o_past, x_o_nextPast, x_o_undoable])), (q_o_now, .inr (4, [.ref q_o_now_box, .ref q_o_now_crowd])), (q_o_now_box, .inr (0, [x_o_now_box_width, x_o_now_box_height, x_o_now_box_planes, .int o_now_box_holes, x_o_now_box_reach, x_o_now_box_cells, x_o_now_box_pulls, .ref q_o_now_box_holeX, .ref q_o_now_box_holeY, x_o_now_box_price])), (q_o_now_box_holeX, .inl (cy 0, 4, .inl o_now_box_holeX)), (q_o_now_box_holeY, .inl (cy 0, 4, .inl o_now_box_holeY)), (q_o_now_crowd, .inr (1, [x_o_now_crowd_viewers, x_o_now_crowd_lookLength, x_o_now_crowd_time, .ref q_o_now_crowd_lookers, x_o_now_crowd_facts])), (q_o_now_crowd_lookers, .inl (cy 0, 4, .inl o_now_crowd_lookers)), (q_o_view, .inr (5, [x_o_view_seen, x_o_view_counts, .ref q_o_view_kinds, .ref q_o_view_depths, x_o_view_prices])), (q_o_view_kinds, .inl (cy 0, 4, .inl o_view_kinds)), (q_o_view_depths, .inl (cy 0, 4, .inl o_view_depths))] sz) := by
  refine kMet (y := yX6_hole) (av := [.ref q_o, .int p1, .int p2]) (cc := cX6_hole) (maxL := 3) (ret := some .int) (own := RX6) (Qc := fun A9 => (kQi D res [(q_o, .inr (6, [x_o_setup, .ref q_o_now, x_o_trial, .ref q_o_view, x_o_trialView, x_o_past, x_o_nextPast, x_o_undoable])), (q_o_now, .inr (4, [.ref q_o_now_box, .ref q_o_now_crowd])), (q_o_now_box, .inr (0, [x_o_now_box_width, x_o_now_box_height, x_o_now_box_planes, .int o_now_box_holes, x_o_now_box_reach, x_o_now_box_cells, x_o_now_box_pulls, .ref q_o_now_box_holeX, .ref q_o_now_box_holeY, x_o_now_box_price])), (q_o_now_box_holeX, .inl (cy 0, 4, .inl o_now_box_holeX)), (q_o_now_box_holeY, .inl (cy 0, 4, .inl o_now_box_holeY)), (q_o_now_crowd, .inr (1, [x_o_now_crowd_viewers, x_o_now_crowd_lookLength, x_o_now_crowd_time, .ref q_o_now_crowd_lookers, x_o_now_crowd_facts])), (q_o_now_crowd_lookers, .inl (cy 0, 4, .inl o_now_crowd_lookers)), (q_o_view, .inr (5, [x_o_view_seen, x_o_view_counts, .ref q_o_view_kinds, .ref q_o_view_depths, x_o_view_prices])), (q_o_view_kinds, .inl (cy 0, 4, .inl o_view_kinds)), (q_o_view_depths, .inl (cy 0, 4, .inl o_view_depths))] A9)) (by decide) rfl rfl (Nat.le_of_ble_eq_true rfl) ?_
  intro p e s m args below meth c A hx hb hr hts hown hml hlocks hname hE hP hD hA hsz ls hl
  have hK := hE.1
  have hl : lv_has ls 3 [(0, .ref q_o), (1, .int p1), (2, .int p2)] := hl
  have hS : va_S A s.heap s.heap [] := va_S.rf
  have f_f19 := hts (.fieldLink RX6 19 "PeepBox" "now" "LPeepBox$Show;") (by decide +kernel)
  have f_inX6 : ∀ w ∈ wsX60, w ∈ wsX6_hole := by decide +kernel
  have f_f51 := hts (.fieldLink RX6 51 "PeepBox$Show" "box" "LPeepBox$Box;") (by decide +kernel)
  have f_inX4 : ∀ w ∈ wsX40, w ∈ wsX6_hole := by decide +kernel
  have f_f168 := hts (.fieldLink RX6 168 "PeepBox$Box" "holeX" "[I") (by decide +kernel)
  have f_inX0 : ∀ w ∈ wsX00, w ∈ wsX6_hole := by decide +kernel
  have f_f171 := hts (.fieldLink RX6 171 "PeepBox$Box" "holeY" "[I") (by decide +kernel)
  have f_f99 := hts (.fieldLink RX6 99 "PeepBox$Show" "crowd" "LPeepBox$Crowd;") (by decide +kernel)
  have f_f174 := hts (.fieldLink RX6 174 "PeepBox$Crowd" "lookers" "[I") (by decide +kernel)
  have f_inX1 : ∀ w ∈ wsX10, w ∈ wsX6_hole := by decide +kernel
  have f_f29 := hts (.fieldLink RX6 29 "PeepBox" "view" "LPeepBox$View;") (by decide +kernel)
  have f_f177 := hts (.fieldLink RX6 177 "PeepBox$View" "kinds" "[I") (by decide +kernel)
  have f_inX5 : ∀ w ∈ wsX50, w ∈ wsX6_hole := by decide +kernel
  have f_f180 := hts (.fieldLink RX6 180 "PeepBox$View" "depths" "[I") (by decide +kernel)
  obtain ⟨QQ, hQQ⟩ : ∃ Q9, Q9 = MQ below (kQi D res [(q_o, .inr (6, [x_o_setup, .ref q_o_now, x_o_trial, .ref q_o_view, x_o_trialView, x_o_past, x_o_nextPast, x_o_undoable])), (q_o_now, .inr (4, [.ref q_o_now_box, .ref q_o_now_crowd])), (q_o_now_box, .inr (0, [x_o_now_box_width, x_o_now_box_height, x_o_now_box_planes, .int o_now_box_holes, x_o_now_box_reach, x_o_now_box_cells, x_o_now_box_pulls, .ref q_o_now_box_holeX, .ref q_o_now_box_holeY, x_o_now_box_price])), (q_o_now_box_holeX, .inl (cy 0, 4, .inl o_now_box_holeX)), (q_o_now_box_holeY, .inl (cy 0, 4, .inl o_now_box_holeY)), (q_o_now_crowd, .inr (1, [x_o_now_crowd_viewers, x_o_now_crowd_lookLength, x_o_now_crowd_time, .ref q_o_now_crowd_lookers, x_o_now_crowd_facts])), (q_o_now_crowd_lookers, .inl (cy 0, 4, .inl o_now_crowd_lookers)), (q_o_view, .inr (5, [x_o_view_seen, x_o_view_counts, .ref q_o_view_kinds, .ref q_o_view_depths, x_o_view_prices])), (q_o_view_kinds, .inl (cy 0, 4, .inl o_view_kinds)), (q_o_view_depths, .inl (cy 0, 4, .inl o_view_depths))] A) args s 0 0 A := ⟨_, rfl⟩
  rw [← hQQ]
  have main : ∀ (H : Heap) (locs : List Loc) (ls : Array Slot), va_P D vwCl [(q_o, .inr (6, [x_o_setup, .ref q_o_now, x_o_trial, .ref q_o_view, x_o_trialView, x_o_past, x_o_nextPast, x_o_undoable])), (q_o_now, .inr (4, [.ref q_o_now_box, .ref q_o_now_crowd])), (q_o_now_box, .inr (0, [x_o_now_box_width, x_o_now_box_height, x_o_now_box_planes, .int o_now_box_holes, x_o_now_box_reach, x_o_now_box_cells, x_o_now_box_pulls, .ref q_o_now_box_holeX, .ref q_o_now_box_holeY, x_o_now_box_price])), (q_o_now_box_holeX, .inl (cy 0, 4, .inl o_now_box_holeX)), (q_o_now_box_holeY, .inl (cy 0, 4, .inl o_now_box_holeY)), (q_o_now_crowd, .inr (1, [x_o_now_crowd_viewers, x_o_now_crowd_lookLength, x_o_now_crowd_time, .ref q_o_now_crowd_lookers, x_o_now_crowd_facts])), (q_o_now_crowd_lookers, .inl (cy 0, 4, .inl o_now_crowd_lookers)), (q_o_view, .inr (5, [x_o_view_seen, x_o_view_counts, .ref q_o_view_kinds, .ref q_o_view_depths, x_o_view_prices])), (q_o_view_kinds, .inl (cy 0, 4, .inl o_view_kinds)), (q_o_view_depths, .inl (cy 0, 4, .inl o_view_depths))] H → va_D A [(q_o, .inr (6, [x_o_setup, .ref q_o_now, x_o_trial, .ref q_o_view, x_o_trialView, x_o_past, x_o_nextPast, x_o_undoable])), (q_o_now, .inr (4, [.ref q_o_now_box, .ref q_o_now_crowd])), (q_o_now_box, .inr (0, [x_o_now_box_width, x_o_now_box_height, x_o_now_box_planes, .int o_now_box_holes, x_o_now_box_reach, x_o_now_box_cells, x_o_now_box_pulls, .ref q_o_now_box_holeX, .ref q_o_now_box_holeY, x_o_now_box_price])), (q_o_now_box_holeX, .inl (cy 0, 4, .inl o_now_box_holeX)), (q_o_now_box_holeY, .inl (cy 0, 4, .inl o_now_box_holeY)), (q_o_now_crowd, .inr (1, [x_o_now_crowd_viewers, x_o_now_crowd_lookLength, x_o_now_crowd_time, .ref q_o_now_crowd_lookers, x_o_now_crowd_facts])), (q_o_now_crowd_lookers, .inl (cy 0, 4, .inl o_now_crowd_lookers)), (q_o_view, .inr (5, [x_o_view_seen, x_o_view_counts, .ref q_o_view_kinds, .ref q_o_view_depths, x_o_view_prices])), (q_o_view_kinds, .inl (cy 0, 4, .inl o_view_kinds)), (q_o_view_depths, .inl (cy 0, 4, .inl o_view_depths))] → va_S A s.heap H locs → lv_has ls 3 [(0, .ref q_o), (1, .int p1), (2, .int p2)] → W p l e ({ frames := 1, cells := 0, slots := 0, locals := 21 } : Room) s m args below meth c H locs 0 0 QQ (F0 m 0 ls []) := by
    intro H locs ls hP hD hS hl
    unfold X6_hole at hF
    refine lv_aload_n hx hb dX6_hole_0 rfl (lv_at hl 0 rfl) ?_
    refine lv_iload_n hx hb dX6_hole_1 rfl (lv_at hl 1 rfl) ?_
    obtain ⟨h1, hF⟩ := bx0_n hF
    refine kd_v [(q_o, .inr (6, [x_o_setup, .ref q_o_now, x_o_trial, .ref q_o_view, x_o_trialView, x_o_past, x_o_nextPast, x_o_undoable])), (q_o_now, .inr (4, [.ref q_o_now_box, .ref q_o_now_crowd])), (q_o_now_box, .inr (0, [x_o_now_box_width, x_o_now_box_height, x_o_now_box_planes, .int o_now_box_holes, x_o_now_box_reach, x_o_now_box_cells, x_o_now_box_pulls, .ref q_o_now_box_holeX, .ref q_o_now_box_holeY, x_o_now_box_price])), (q_o_now_box_holeX, .inl (cy 0, 4, .inl o_now_box_holeX)), (q_o_now_box_holeY, .inl (cy 0, 4, .inl o_now_box_holeY)), (q_o_now_crowd, .inr (1, [x_o_now_crowd_viewers, x_o_now_crowd_lookLength, x_o_now_crowd_time, .ref q_o_now_crowd_lookers, x_o_now_crowd_facts])), (q_o_now_crowd_lookers, .inl (cy 0, 4, .inl o_now_crowd_lookers)), (q_o_view, .inr (5, [x_o_view_seen, x_o_view_counts, .ref q_o_view_kinds, .ref q_o_view_depths, x_o_view_prices])), (q_o_view_kinds, .inl (cy 0, 4, .inl o_view_kinds)), (q_o_view_depths, .inl (cy 0, 4, .inl o_view_depths))] (va_runV (As := [.int p1]) (rest := []) ⟨hx, hb, hml, hown, hts⟩ (c_X6_requireHole q_o q_o_now q_o_now_box H.size x_o_setup x_o_trial (.ref q_o_view) x_o_trialView x_o_past x_o_nextPast x_o_undoable (.ref q_o_now_crowd) x_o_now_box_width x_o_now_box_height x_o_now_box_planes x_o_now_box_reach x_o_now_box_cells x_o_now_box_pulls (.ref q_o_now_box_holeX) (.ref q_o_now_box_holeY) x_o_now_box_price o_now_box_holes p1 _ h1) (cwV 1 hts gX6_hole_X6_requireHole rfl rfl rfl kd_X6_requireHole ⟨Nat.le_of_ble_eq_true rfl, Nat.le_of_ble_eq_true rfl⟩) ⟨kP_blind (EN_ok D cy) D _ _ _, va_recv hK hP (ci := 6) (q0 := 0) rfl rfl, kStart (EN_ok D cy) hE hP hD hS hA [0, 1, 2] rfl rfl _⟩ rfl rfl hl.1 rfl (lv_room (Nat.le_of_ble_eq_true rfl)) dX6_hole_2 ⟨Nat.zero_le _, Nat.zero_le _⟩) hP hD hS hA [0, 1, 2] [3, 4, 5, 6, 7, 8, 9] rfl rfl rfl 10 rfl (by decide +kernel) (fun H locs hP hD hS => ?_)
    refine lv_iload_n hx hb dX6_hole_5 rfl (lv_at hl 2 rfl) ?_
    by_cases c2 : p2 = 0
    · have hF := if_p hF c2
      refine lv_tableIn (off := 34) (tgt := 40) hx hb dX6_hole_6 (by rw [c2]; decide) (by rw [c2]; decide) (by rw [c2]; rfl) (by decide) ?_
      refine lv_aload_n hx hb dX6_hole_40 rfl (lv_at hl 0 rfl) ?_
      refine va_get (D := D) (ci := 6) (v := .ref q_o_now) (C := RX6) (T := TX6) (N := 8) hx hb hts f_inX6 hown hK hP 0 rfl rfl 1 (by decide) f_f19 (fun _ h9 => h9) rfl dX6_hole_41 ?_
      refine va_get (D := D) (ci := 4) (v := .ref q_o_now_box) (C := RX4) (T := TX4) (N := 2) hx hb hts f_inX4 hown hK hP 1 rfl rfl 0 (by decide) f_f51 (fun _ h9 => h9) rfl dX6_hole_44 ?_
      refine va_get (D := D) (ci := 0) (v := .ref q_o_now_box_holeX) (C := RX0) (T := TX0) (N := 10) hx hb hts f_inX0 hown hK hP 2 rfl rfl 7 (by decide) f_f168 (fun _ h9 => h9) rfl dX6_hole_47 ?_
      refine lv_iload_n hx hb dX6_hole_50 rfl (lv_at hl 1 rfl) ?_
      obtain ⟨h3, hF⟩ := ld_o hF
      refine va_iald hx hb hK hP 3 0 rfl rfl h3 dX6_hole_51 ?_
      refine lv_topi (fun v4 ev4 => ?_)
      have hF := hF v4 ev4
      obtain rfl := si_o hF
      rw [hQQ]
      exact kr_i hx hb hr hlocks hP hD hS dX6_hole_52
    have hF := if_n hF c2
    by_cases c5 : p2 = 1
    · have hF := if_p hF c5
      refine lv_tableIn (off := 47) (tgt := 53) hx hb dX6_hole_6 (by rw [c5]; decide) (by rw [c5]; decide) (by rw [c5]; rfl) (by decide) ?_
      refine lv_aload_n hx hb dX6_hole_53 rfl (lv_at hl 0 rfl) ?_
      refine va_get (D := D) (ci := 6) (v := .ref q_o_now) (C := RX6) (T := TX6) (N := 8) hx hb hts f_inX6 hown hK hP 0 rfl rfl 1 (by decide) f_f19 (fun _ h9 => h9) rfl dX6_hole_54 ?_
      refine va_get (D := D) (ci := 4) (v := .ref q_o_now_box) (C := RX4) (T := TX4) (N := 2) hx hb hts f_inX4 hown hK hP 1 rfl rfl 0 (by decide) f_f51 (fun _ h9 => h9) rfl dX6_hole_57 ?_
      refine va_get (D := D) (ci := 0) (v := .ref q_o_now_box_holeY) (C := RX0) (T := TX0) (N := 10) hx hb hts f_inX0 hown hK hP 2 rfl rfl 8 (by decide) f_f171 (fun _ h9 => h9) rfl dX6_hole_60 ?_
      refine lv_iload_n hx hb dX6_hole_63 rfl (lv_at hl 1 rfl) ?_
      obtain ⟨h6, hF⟩ := ld_o hF
      refine va_iald hx hb hK hP 4 0 rfl rfl h6 dX6_hole_64 ?_
      refine lv_topi (fun v7 ev7 => ?_)
      have hF := hF v7 ev7
      obtain rfl := si_o hF
      rw [hQQ]
      exact kr_i hx hb hr hlocks hP hD hS dX6_hole_65
    have hF := if_n hF c5
    by_cases c8 : p2 = 2
    · have hF := if_p hF c8
      refine lv_tableIn (off := 60) (tgt := 66) hx hb dX6_hole_6 (by rw [c8]; decide) (by rw [c8]; decide) (by rw [c8]; rfl) (by decide) ?_
      refine lv_aload_n hx hb dX6_hole_66 rfl (lv_at hl 0 rfl) ?_
      refine va_get (D := D) (ci := 6) (v := .ref q_o_now) (C := RX6) (T := TX6) (N := 8) hx hb hts f_inX6 hown hK hP 0 rfl rfl 1 (by decide) f_f19 (fun _ h9 => h9) rfl dX6_hole_67 ?_
      refine va_get (D := D) (ci := 4) (v := .ref q_o_now_crowd) (C := RX4) (T := TX4) (N := 2) hx hb hts f_inX4 hown hK hP 1 rfl rfl 1 (by decide) f_f99 (fun _ h9 => h9) rfl dX6_hole_70 ?_
      refine va_get (D := D) (ci := 1) (v := .ref q_o_now_crowd_lookers) (C := RX1) (T := TX1) (N := 5) hx hb hts f_inX1 hown hK hP 5 rfl rfl 3 (by decide) f_f174 (fun _ h9 => h9) rfl dX6_hole_73 ?_
      refine lv_iload_n hx hb dX6_hole_76 rfl (lv_at hl 1 rfl) ?_
      obtain ⟨h9, hF⟩ := ld_o hF
      refine va_iald hx hb hK hP 6 0 rfl rfl h9 dX6_hole_77 ?_
      refine lv_topi (fun v10 ev10 => ?_)
      have hF := hF v10 ev10
      obtain rfl := si_o hF
      rw [hQQ]
      exact kr_i hx hb hr hlocks hP hD hS dX6_hole_78
    have hF := if_n hF c8
    by_cases c11 : p2 = 3
    · have hF := if_p hF c11
      refine lv_tableIn (off := 73) (tgt := 79) hx hb dX6_hole_6 (by rw [c11]; decide) (by rw [c11]; decide) (by rw [c11]; rfl) (by decide) ?_
      refine lv_aload_n hx hb dX6_hole_79 rfl (lv_at hl 0 rfl) ?_
      refine va_get (D := D) (ci := 6) (v := .ref q_o_view) (C := RX6) (T := TX6) (N := 8) hx hb hts f_inX6 hown hK hP 0 rfl rfl 3 (by decide) f_f29 (fun _ h9 => h9) rfl dX6_hole_80 ?_
      refine va_get (D := D) (ci := 5) (v := .ref q_o_view_kinds) (C := RX5) (T := TX5) (N := 5) hx hb hts f_inX5 hown hK hP 7 rfl rfl 2 (by decide) f_f177 (fun _ h9 => h9) rfl dX6_hole_83 ?_
      refine lv_iload_n hx hb dX6_hole_86 rfl (lv_at hl 1 rfl) ?_
      obtain ⟨h12, hF⟩ := ld_o hF
      refine va_iald hx hb hK hP 8 0 rfl rfl h12 dX6_hole_87 ?_
      refine lv_topi (fun v13 ev13 => ?_)
      have hF := hF v13 ev13
      obtain rfl := si_o hF
      rw [hQQ]
      exact kr_i hx hb hr hlocks hP hD hS dX6_hole_88
    have hF := if_n hF c11
    by_cases c14 : p2 = 4
    · have hF := if_p hF c14
      refine lv_tableIn (off := 83) (tgt := 89) hx hb dX6_hole_6 (by rw [c14]; decide) (by rw [c14]; decide) (by rw [c14]; rfl) (by decide) ?_
      refine lv_aload_n hx hb dX6_hole_89 rfl (lv_at hl 0 rfl) ?_
      refine va_get (D := D) (ci := 6) (v := .ref q_o_view) (C := RX6) (T := TX6) (N := 8) hx hb hts f_inX6 hown hK hP 0 rfl rfl 3 (by decide) f_f29 (fun _ h9 => h9) rfl dX6_hole_90 ?_
      refine va_get (D := D) (ci := 5) (v := .ref q_o_view_depths) (C := RX5) (T := TX5) (N := 5) hx hb hts f_inX5 hown hK hP 7 rfl rfl 3 (by decide) f_f180 (fun _ h9 => h9) rfl dX6_hole_93 ?_
      refine lv_iload_n hx hb dX6_hole_96 rfl (lv_at hl 1 rfl) ?_
      obtain ⟨h15, hF⟩ := ld_o hF
      refine va_iald hx hb hK hP 9 0 rfl rfl h15 dX6_hole_97 ?_
      refine lv_topi (fun v16 ev16 => ?_)
      have hF := hF v16 ev16
      obtain rfl := si_o hF
      rw [hQQ]
      exact kr_i hx hb hr hlocks hP hD hS dX6_hole_98
    have hF := if_n hF c14
    have tc2 : p2.toInt ≠ 0 := fun h9 => c2 (Int32.toInt_inj.mp (h9.trans (by decide)))
    have tc5 : p2.toInt ≠ 1 := fun h9 => c5 (Int32.toInt_inj.mp (h9.trans (by decide)))
    have tc8 : p2.toInt ≠ 2 := fun h9 => c8 (Int32.toInt_inj.mp (h9.trans (by decide)))
    have tc11 : p2.toInt ≠ 3 := fun h9 => c11 (Int32.toInt_inj.mp (h9.trans (by decide)))
    have tc14 : p2.toInt ≠ 4 := fun h9 => c14 (Int32.toInt_inj.mp (h9.trans (by decide)))
    refine lv_tableOut (tgt := 99) hx hb dX6_hole_6 (by omega) (by decide) ?_
    cases hF
  exact main s.heap [] ls hP hD hS hl
set_option maxHeartbeats 4000000 in
set_option maxRecDepth 100000 in
theorem t_X6_hole {l : Launch} {D : va_G} {cy : Nat → ClassId} (hst : l.stackTraces = false) (q_o q_o_now q_o_now_box q_o_now_box_holeX q_o_now_box_holeY q_o_now_crowd q_o_now_crowd_lookers q_o_view q_o_view_kinds q_o_view_depths : Nat) (sz : Nat) (x_o_setup x_o_trial x_o_trialView x_o_past x_o_nextPast x_o_undoable x_o_now_box_width x_o_now_box_height x_o_now_box_planes x_o_now_box_reach x_o_now_box_cells x_o_now_box_pulls x_o_now_box_price x_o_now_crowd_viewers x_o_now_crowd_lookLength x_o_now_crowd_time x_o_now_crowd_facts x_o_view_seen x_o_view_counts x_o_view_prices : Value) (o_now_box_holes : Int32) (o_now_box_holeX : Nat → Int32) (o_now_box_holeY : Nat → Int32) (o_now_crowd_lookers : Nat → Int32) (o_view_kinds : Nat → Int32) (o_view_depths : Nat → Int32) (p1 : Int32) (p2 : Int32) (k9 : Nat) (hF : X6_hole o_now_box_holes o_now_box_holeX o_now_box_holeY o_now_crowd_lookers o_view_kinds o_view_depths p1 p2 = some (.inl k9)) : vx_Met l yX6_hole wsX6_hole ({ frames := 7, cells := 1, slots := 6, locals := 111 } : Room) (kP (EN D cy) D [.ref q_o, .int p1, .int p2] [(q_o, .inr (6, [x_o_setup, .ref q_o_now, x_o_trial, .ref q_o_view, x_o_trialView, x_o_past, x_o_nextPast, x_o_undoable])), (q_o_now, .inr (4, [.ref q_o_now_box, .ref q_o_now_crowd])), (q_o_now_box, .inr (0, [x_o_now_box_width, x_o_now_box_height, x_o_now_box_planes, .int o_now_box_holes, x_o_now_box_reach, x_o_now_box_cells, x_o_now_box_pulls, .ref q_o_now_box_holeX, .ref q_o_now_box_holeY, x_o_now_box_price])), (q_o_now_box_holeX, .inl (cy 0, 4, .inl o_now_box_holeX)), (q_o_now_box_holeY, .inl (cy 0, 4, .inl o_now_box_holeY)), (q_o_now_crowd, .inr (1, [x_o_now_crowd_viewers, x_o_now_crowd_lookLength, x_o_now_crowd_time, .ref q_o_now_crowd_lookers, x_o_now_crowd_facts])), (q_o_now_crowd_lookers, .inl (cy 0, 4, .inl o_now_crowd_lookers)), (q_o_view, .inr (5, [x_o_view_seen, x_o_view_counts, .ref q_o_view_kinds, .ref q_o_view_depths, x_o_view_prices])), (q_o_view_kinds, .inl (cy 0, 4, .inl o_view_kinds)), (q_o_view_depths, .inl (cy 0, 4, .inl o_view_depths))] sz) (kTi (va_A [(q_o, .inr (6, [x_o_setup, .ref q_o_now, x_o_trial, .ref q_o_view, x_o_trialView, x_o_past, x_o_nextPast, x_o_undoable])), (q_o_now, .inr (4, [.ref q_o_now_box, .ref q_o_now_crowd])), (q_o_now_box, .inr (0, [x_o_now_box_width, x_o_now_box_height, x_o_now_box_planes, .int o_now_box_holes, x_o_now_box_reach, x_o_now_box_cells, x_o_now_box_pulls, .ref q_o_now_box_holeX, .ref q_o_now_box_holeY, x_o_now_box_price])), (q_o_now_box_holeX, .inl (cy 0, 4, .inl o_now_box_holeX)), (q_o_now_box_holeY, .inl (cy 0, 4, .inl o_now_box_holeY)), (q_o_now_crowd, .inr (1, [x_o_now_crowd_viewers, x_o_now_crowd_lookLength, x_o_now_crowd_time, .ref q_o_now_crowd_lookers, x_o_now_crowd_facts])), (q_o_now_crowd_lookers, .inl (cy 0, 4, .inl o_now_crowd_lookers)), (q_o_view, .inr (5, [x_o_view_seen, x_o_view_counts, .ref q_o_view_kinds, .ref q_o_view_depths, x_o_view_prices])), (q_o_view_kinds, .inl (cy 0, 4, .inl o_view_kinds)), (q_o_view_depths, .inl (cy 0, 4, .inl o_view_depths))] sz)) (kXC D k9 [(q_o, .inr (6, [x_o_setup, .ref q_o_now, x_o_trial, .ref q_o_view, x_o_trialView, x_o_past, x_o_nextPast, x_o_undoable])), (q_o_now, .inr (4, [.ref q_o_now_box, .ref q_o_now_crowd])), (q_o_now_box, .inr (0, [x_o_now_box_width, x_o_now_box_height, x_o_now_box_planes, .int o_now_box_holes, x_o_now_box_reach, x_o_now_box_cells, x_o_now_box_pulls, .ref q_o_now_box_holeX, .ref q_o_now_box_holeY, x_o_now_box_price])), (q_o_now_box_holeX, .inl (cy 0, 4, .inl o_now_box_holeX)), (q_o_now_box_holeY, .inl (cy 0, 4, .inl o_now_box_holeY)), (q_o_now_crowd, .inr (1, [x_o_now_crowd_viewers, x_o_now_crowd_lookLength, x_o_now_crowd_time, .ref q_o_now_crowd_lookers, x_o_now_crowd_facts])), (q_o_now_crowd_lookers, .inl (cy 0, 4, .inl o_now_crowd_lookers)), (q_o_view, .inr (5, [x_o_view_seen, x_o_view_counts, .ref q_o_view_kinds, .ref q_o_view_depths, x_o_view_prices])), (q_o_view_kinds, .inl (cy 0, 4, .inl o_view_kinds)), (q_o_view_depths, .inl (cy 0, 4, .inl o_view_depths))] (va_A [(q_o, .inr (6, [x_o_setup, .ref q_o_now, x_o_trial, .ref q_o_view, x_o_trialView, x_o_past, x_o_nextPast, x_o_undoable])), (q_o_now, .inr (4, [.ref q_o_now_box, .ref q_o_now_crowd])), (q_o_now_box, .inr (0, [x_o_now_box_width, x_o_now_box_height, x_o_now_box_planes, .int o_now_box_holes, x_o_now_box_reach, x_o_now_box_cells, x_o_now_box_pulls, .ref q_o_now_box_holeX, .ref q_o_now_box_holeY, x_o_now_box_price])), (q_o_now_box_holeX, .inl (cy 0, 4, .inl o_now_box_holeX)), (q_o_now_box_holeY, .inl (cy 0, 4, .inl o_now_box_holeY)), (q_o_now_crowd, .inr (1, [x_o_now_crowd_viewers, x_o_now_crowd_lookLength, x_o_now_crowd_time, .ref q_o_now_crowd_lookers, x_o_now_crowd_facts])), (q_o_now_crowd_lookers, .inl (cy 0, 4, .inl o_now_crowd_lookers)), (q_o_view, .inr (5, [x_o_view_seen, x_o_view_counts, .ref q_o_view_kinds, .ref q_o_view_depths, x_o_view_prices])), (q_o_view_kinds, .inl (cy 0, 4, .inl o_view_kinds)), (q_o_view_depths, .inl (cy 0, 4, .inl o_view_depths))] sz)) 1 6 (va_A [(q_o, .inr (6, [x_o_setup, .ref q_o_now, x_o_trial, .ref q_o_view, x_o_trialView, x_o_past, x_o_nextPast, x_o_undoable])), (q_o_now, .inr (4, [.ref q_o_now_box, .ref q_o_now_crowd])), (q_o_now_box, .inr (0, [x_o_now_box_width, x_o_now_box_height, x_o_now_box_planes, .int o_now_box_holes, x_o_now_box_reach, x_o_now_box_cells, x_o_now_box_pulls, .ref q_o_now_box_holeX, .ref q_o_now_box_holeY, x_o_now_box_price])), (q_o_now_box_holeX, .inl (cy 0, 4, .inl o_now_box_holeX)), (q_o_now_box_holeY, .inl (cy 0, 4, .inl o_now_box_holeY)), (q_o_now_crowd, .inr (1, [x_o_now_crowd_viewers, x_o_now_crowd_lookLength, x_o_now_crowd_time, .ref q_o_now_crowd_lookers, x_o_now_crowd_facts])), (q_o_now_crowd_lookers, .inl (cy 0, 4, .inl o_now_crowd_lookers)), (q_o_view, .inr (5, [x_o_view_seen, x_o_view_counts, .ref q_o_view_kinds, .ref q_o_view_depths, x_o_view_prices])), (q_o_view_kinds, .inl (cy 0, 4, .inl o_view_kinds)), (q_o_view_depths, .inl (cy 0, 4, .inl o_view_depths))] sz) := by
  refine kMetT (y := yX6_hole) (av := [.ref q_o, .int p1, .int p2]) (cc := cX6_hole) (maxL := 3) (ret := some .int) (own := RX6) (Qc := fun A9 => (kTi A9)) (X := fun A9 => (kXC D k9 [(q_o, .inr (6, [x_o_setup, .ref q_o_now, x_o_trial, .ref q_o_view, x_o_trialView, x_o_past, x_o_nextPast, x_o_undoable])), (q_o_now, .inr (4, [.ref q_o_now_box, .ref q_o_now_crowd])), (q_o_now_box, .inr (0, [x_o_now_box_width, x_o_now_box_height, x_o_now_box_planes, .int o_now_box_holes, x_o_now_box_reach, x_o_now_box_cells, x_o_now_box_pulls, .ref q_o_now_box_holeX, .ref q_o_now_box_holeY, x_o_now_box_price])), (q_o_now_box_holeX, .inl (cy 0, 4, .inl o_now_box_holeX)), (q_o_now_box_holeY, .inl (cy 0, 4, .inl o_now_box_holeY)), (q_o_now_crowd, .inr (1, [x_o_now_crowd_viewers, x_o_now_crowd_lookLength, x_o_now_crowd_time, .ref q_o_now_crowd_lookers, x_o_now_crowd_facts])), (q_o_now_crowd_lookers, .inl (cy 0, 4, .inl o_now_crowd_lookers)), (q_o_view, .inr (5, [x_o_view_seen, x_o_view_counts, .ref q_o_view_kinds, .ref q_o_view_depths, x_o_view_prices])), (q_o_view_kinds, .inl (cy 0, 4, .inl o_view_kinds)), (q_o_view_depths, .inl (cy 0, 4, .inl o_view_depths))] A9)) (by decide) rfl rfl (Nat.le_of_ble_eq_true rfl) ?_
  intro p e s m args below meth c A hx hb hr hts hown hml hlocks hxt hE hP hD hA hsz ls hl
  have hK := hE.1
  have hl : lv_has ls 3 [(0, .ref q_o), (1, .int p1), (2, .int p2)] := hl
  have hS : va_S A s.heap s.heap [] := va_S.rf
  have f_f19 := hts (.fieldLink RX6 19 "PeepBox" "now" "LPeepBox$Show;") (by decide +kernel)
  have f_inX6 : ∀ w ∈ wsX60, w ∈ wsX6_hole := by decide +kernel
  have f_f51 := hts (.fieldLink RX6 51 "PeepBox$Show" "box" "LPeepBox$Box;") (by decide +kernel)
  have f_inX4 : ∀ w ∈ wsX40, w ∈ wsX6_hole := by decide +kernel
  have f_f168 := hts (.fieldLink RX6 168 "PeepBox$Box" "holeX" "[I") (by decide +kernel)
  have f_inX0 : ∀ w ∈ wsX00, w ∈ wsX6_hole := by decide +kernel
  have f_f171 := hts (.fieldLink RX6 171 "PeepBox$Box" "holeY" "[I") (by decide +kernel)
  have f_f99 := hts (.fieldLink RX6 99 "PeepBox$Show" "crowd" "LPeepBox$Crowd;") (by decide +kernel)
  have f_f174 := hts (.fieldLink RX6 174 "PeepBox$Crowd" "lookers" "[I") (by decide +kernel)
  have f_inX1 : ∀ w ∈ wsX10, w ∈ wsX6_hole := by decide +kernel
  have f_f29 := hts (.fieldLink RX6 29 "PeepBox" "view" "LPeepBox$View;") (by decide +kernel)
  have f_f177 := hts (.fieldLink RX6 177 "PeepBox$View" "kinds" "[I") (by decide +kernel)
  have f_inX5 : ∀ w ∈ wsX50, w ∈ wsX6_hole := by decide +kernel
  have f_f180 := hts (.fieldLink RX6 180 "PeepBox$View" "depths" "[I") (by decide +kernel)
  have f_k76 := hts (.classLink RX6 76 "java/lang/IllegalArgumentException") (by decide +kernel)
  have f_i2 := hts (.initialized "java/lang/IllegalArgumentException") (by decide +kernel)
  have fat_80 := vx_hat (L := vx_atS RX6 80 "java/lang/IllegalArgumentException" ["java/lang/RuntimeException", "java/lang/Exception"]) (B := [.castable "java/lang/IllegalArgumentException" "java/lang/IllegalArgumentException", .declares (Bundle.initS "java/lang/RuntimeException"), .declares (Bundle.initS "java/lang/Exception"), .declares (Bundle.initS "java/lang/Throwable")]) (fun w hw => hts w (List.mem_cons_of_mem _ (List.mem_append_left _ (List.mem_append_right _ hw)))) (by decide +kernel) (vx_c (va_Nw.use rfl (hE.2.2.2.2.2.2.2.1 _ (List.mem_of_getElem? (i := 1) rfl))) (vx_c (va_Nw.use rfl (hE.2.2.2.2.2.2.2.2.2 _ (List.mem_of_getElem? (i := 0) rfl))) (vx_c (va_Nw.use rfl (hE.2.2.2.2.2.2.2.2.2 _ (List.mem_of_getElem? (i := 1) rfl))) (vx_c (va_Nw.use rfl (hE.2.2.2.2.2.2.2.2.2 _ (List.mem_of_getElem? (i := 2) rfl))) vx_n))))
  obtain ⟨QQ, hQQ⟩ : ∃ Q9, Q9 = vx_MQ below (kTi A) (kXC D k9 [(q_o, .inr (6, [x_o_setup, .ref q_o_now, x_o_trial, .ref q_o_view, x_o_trialView, x_o_past, x_o_nextPast, x_o_undoable])), (q_o_now, .inr (4, [.ref q_o_now_box, .ref q_o_now_crowd])), (q_o_now_box, .inr (0, [x_o_now_box_width, x_o_now_box_height, x_o_now_box_planes, .int o_now_box_holes, x_o_now_box_reach, x_o_now_box_cells, x_o_now_box_pulls, .ref q_o_now_box_holeX, .ref q_o_now_box_holeY, x_o_now_box_price])), (q_o_now_box_holeX, .inl (cy 0, 4, .inl o_now_box_holeX)), (q_o_now_box_holeY, .inl (cy 0, 4, .inl o_now_box_holeY)), (q_o_now_crowd, .inr (1, [x_o_now_crowd_viewers, x_o_now_crowd_lookLength, x_o_now_crowd_time, .ref q_o_now_crowd_lookers, x_o_now_crowd_facts])), (q_o_now_crowd_lookers, .inl (cy 0, 4, .inl o_now_crowd_lookers)), (q_o_view, .inr (5, [x_o_view_seen, x_o_view_counts, .ref q_o_view_kinds, .ref q_o_view_depths, x_o_view_prices])), (q_o_view_kinds, .inl (cy 0, 4, .inl o_view_kinds)), (q_o_view_depths, .inl (cy 0, 4, .inl o_view_depths))] A) args s 1 6 A := ⟨_, rfl⟩
  rw [← hQQ]
  have main : ∀ (H : Heap) (locs : List Loc) (ls : Array Slot), va_P D vwCl [(q_o, .inr (6, [x_o_setup, .ref q_o_now, x_o_trial, .ref q_o_view, x_o_trialView, x_o_past, x_o_nextPast, x_o_undoable])), (q_o_now, .inr (4, [.ref q_o_now_box, .ref q_o_now_crowd])), (q_o_now_box, .inr (0, [x_o_now_box_width, x_o_now_box_height, x_o_now_box_planes, .int o_now_box_holes, x_o_now_box_reach, x_o_now_box_cells, x_o_now_box_pulls, .ref q_o_now_box_holeX, .ref q_o_now_box_holeY, x_o_now_box_price])), (q_o_now_box_holeX, .inl (cy 0, 4, .inl o_now_box_holeX)), (q_o_now_box_holeY, .inl (cy 0, 4, .inl o_now_box_holeY)), (q_o_now_crowd, .inr (1, [x_o_now_crowd_viewers, x_o_now_crowd_lookLength, x_o_now_crowd_time, .ref q_o_now_crowd_lookers, x_o_now_crowd_facts])), (q_o_now_crowd_lookers, .inl (cy 0, 4, .inl o_now_crowd_lookers)), (q_o_view, .inr (5, [x_o_view_seen, x_o_view_counts, .ref q_o_view_kinds, .ref q_o_view_depths, x_o_view_prices])), (q_o_view_kinds, .inl (cy 0, 4, .inl o_view_kinds)), (q_o_view_depths, .inl (cy 0, 4, .inl o_view_depths))] H → va_D A [(q_o, .inr (6, [x_o_setup, .ref q_o_now, x_o_trial, .ref q_o_view, x_o_trialView, x_o_past, x_o_nextPast, x_o_undoable])), (q_o_now, .inr (4, [.ref q_o_now_box, .ref q_o_now_crowd])), (q_o_now_box, .inr (0, [x_o_now_box_width, x_o_now_box_height, x_o_now_box_planes, .int o_now_box_holes, x_o_now_box_reach, x_o_now_box_cells, x_o_now_box_pulls, .ref q_o_now_box_holeX, .ref q_o_now_box_holeY, x_o_now_box_price])), (q_o_now_box_holeX, .inl (cy 0, 4, .inl o_now_box_holeX)), (q_o_now_box_holeY, .inl (cy 0, 4, .inl o_now_box_holeY)), (q_o_now_crowd, .inr (1, [x_o_now_crowd_viewers, x_o_now_crowd_lookLength, x_o_now_crowd_time, .ref q_o_now_crowd_lookers, x_o_now_crowd_facts])), (q_o_now_crowd_lookers, .inl (cy 0, 4, .inl o_now_crowd_lookers)), (q_o_view, .inr (5, [x_o_view_seen, x_o_view_counts, .ref q_o_view_kinds, .ref q_o_view_depths, x_o_view_prices])), (q_o_view_kinds, .inl (cy 0, 4, .inl o_view_kinds)), (q_o_view_depths, .inl (cy 0, 4, .inl o_view_depths))] → va_S A s.heap H locs → lv_has ls 3 [(0, .ref q_o), (1, .int p1), (2, .int p2)] → W p l e ({ frames := 7, cells := 1, slots := 6, locals := 111 } : Room) s m args below meth c H locs 0 0 QQ (F0 m 0 ls []) := by
    intro H locs ls hP hD hS hl
    unfold X6_hole at hF
    refine lv_aload_n hx hb dX6_hole_0 rfl (lv_at hl 0 rfl) ?_
    refine lv_iload_n hx hb dX6_hole_1 rfl (lv_at hl 1 rfl) ?_
    rcases bx0_t hF with h1 | ⟨h1, hF⟩
    · rw [hQQ]
      exact kt_v (vx_runV (As := [.int p1]) (rest := []) ⟨hx, hb, hml, hown, hts⟩ (t_X6_requireHole hst q_o q_o_now q_o_now_box H.size x_o_setup x_o_trial (.ref q_o_view) x_o_trialView x_o_past x_o_nextPast x_o_undoable (.ref q_o_now_crowd) x_o_now_box_width x_o_now_box_height x_o_now_box_planes x_o_now_box_reach x_o_now_box_cells x_o_now_box_pulls (.ref q_o_now_box_holeX) (.ref q_o_now_box_holeY) x_o_now_box_price o_now_box_holes p1 _ h1) (cwV 1 hts gX6_hole_X6_requireHole rfl rfl rfl kd_X6_requireHole ⟨Nat.le_of_ble_eq_true rfl, Nat.le_of_ble_eq_true rfl⟩) ⟨kP_blind (EN_ok D cy) D _ _ _, va_recv hK hP (ci := 6) (q0 := 0) rfl rfl, kStart (EN_ok D cy) hE hP hD hS hA [0, 1, 2] rfl rfl _⟩ rfl rfl hl.1 rfl (lv_room (Nat.le_of_ble_eq_true rfl)) dX6_hole_2 ⟨Nat.le_of_ble_eq_true rfl, Nat.le_of_ble_eq_true rfl⟩) hP hD hS hA [0, 1, 2] rfl (Nat.le_of_ble_eq_true rfl) hlocks hxt
    refine kd_v [(q_o, .inr (6, [x_o_setup, .ref q_o_now, x_o_trial, .ref q_o_view, x_o_trialView, x_o_past, x_o_nextPast, x_o_undoable])), (q_o_now, .inr (4, [.ref q_o_now_box, .ref q_o_now_crowd])), (q_o_now_box, .inr (0, [x_o_now_box_width, x_o_now_box_height, x_o_now_box_planes, .int o_now_box_holes, x_o_now_box_reach, x_o_now_box_cells, x_o_now_box_pulls, .ref q_o_now_box_holeX, .ref q_o_now_box_holeY, x_o_now_box_price])), (q_o_now_box_holeX, .inl (cy 0, 4, .inl o_now_box_holeX)), (q_o_now_box_holeY, .inl (cy 0, 4, .inl o_now_box_holeY)), (q_o_now_crowd, .inr (1, [x_o_now_crowd_viewers, x_o_now_crowd_lookLength, x_o_now_crowd_time, .ref q_o_now_crowd_lookers, x_o_now_crowd_facts])), (q_o_now_crowd_lookers, .inl (cy 0, 4, .inl o_now_crowd_lookers)), (q_o_view, .inr (5, [x_o_view_seen, x_o_view_counts, .ref q_o_view_kinds, .ref q_o_view_depths, x_o_view_prices])), (q_o_view_kinds, .inl (cy 0, 4, .inl o_view_kinds)), (q_o_view_depths, .inl (cy 0, 4, .inl o_view_depths))] (va_runV (As := [.int p1]) (rest := []) ⟨hx, hb, hml, hown, hts⟩ (c_X6_requireHole q_o q_o_now q_o_now_box H.size x_o_setup x_o_trial (.ref q_o_view) x_o_trialView x_o_past x_o_nextPast x_o_undoable (.ref q_o_now_crowd) x_o_now_box_width x_o_now_box_height x_o_now_box_planes x_o_now_box_reach x_o_now_box_cells x_o_now_box_pulls (.ref q_o_now_box_holeX) (.ref q_o_now_box_holeY) x_o_now_box_price o_now_box_holes p1 _ h1) (cwV 1 hts gX6_hole_X6_requireHole rfl rfl rfl kd_X6_requireHole ⟨Nat.le_of_ble_eq_true rfl, Nat.le_of_ble_eq_true rfl⟩) ⟨kP_blind (EN_ok D cy) D _ _ _, va_recv hK hP (ci := 6) (q0 := 0) rfl rfl, kStart (EN_ok D cy) hE hP hD hS hA [0, 1, 2] rfl rfl _⟩ rfl rfl hl.1 rfl (lv_room (Nat.le_of_ble_eq_true rfl)) dX6_hole_2 ⟨Nat.zero_le _, Nat.zero_le _⟩) hP hD hS hA [0, 1, 2] [3, 4, 5, 6, 7, 8, 9] rfl rfl rfl 10 rfl (by decide +kernel) (fun H locs hP hD hS => ?_)
    refine lv_iload_n hx hb dX6_hole_5 rfl (lv_at hl 2 rfl) ?_
    by_cases c2 : p2 = 0
    · have hF := if_p hF c2
      refine lv_tableIn (off := 34) (tgt := 40) hx hb dX6_hole_6 (by rw [c2]; decide) (by rw [c2]; decide) (by rw [c2]; rfl) (by decide) ?_
      refine lv_aload_n hx hb dX6_hole_40 rfl (lv_at hl 0 rfl) ?_
      refine va_get (D := D) (ci := 6) (v := .ref q_o_now) (C := RX6) (T := TX6) (N := 8) hx hb hts f_inX6 hown hK hP 0 rfl rfl 1 (by decide) f_f19 (fun _ h9 => h9) rfl dX6_hole_41 ?_
      refine va_get (D := D) (ci := 4) (v := .ref q_o_now_box) (C := RX4) (T := TX4) (N := 2) hx hb hts f_inX4 hown hK hP 1 rfl rfl 0 (by decide) f_f51 (fun _ h9 => h9) rfl dX6_hole_44 ?_
      refine va_get (D := D) (ci := 0) (v := .ref q_o_now_box_holeX) (C := RX0) (T := TX0) (N := 10) hx hb hts f_inX0 hown hK hP 2 rfl rfl 7 (by decide) f_f168 (fun _ h9 => h9) rfl dX6_hole_47 ?_
      refine lv_iload_n hx hb dX6_hole_50 rfl (lv_at hl 1 rfl) ?_
      obtain ⟨h3, hF⟩ := ld_o hF
      refine va_iald hx hb hK hP 3 0 rfl rfl h3 dX6_hole_51 ?_
      refine lv_topi (fun v4 ev4 => ?_)
      have hF := hF v4 ev4
      cases hF
    have hF := if_n hF c2
    by_cases c5 : p2 = 1
    · have hF := if_p hF c5
      refine lv_tableIn (off := 47) (tgt := 53) hx hb dX6_hole_6 (by rw [c5]; decide) (by rw [c5]; decide) (by rw [c5]; rfl) (by decide) ?_
      refine lv_aload_n hx hb dX6_hole_53 rfl (lv_at hl 0 rfl) ?_
      refine va_get (D := D) (ci := 6) (v := .ref q_o_now) (C := RX6) (T := TX6) (N := 8) hx hb hts f_inX6 hown hK hP 0 rfl rfl 1 (by decide) f_f19 (fun _ h9 => h9) rfl dX6_hole_54 ?_
      refine va_get (D := D) (ci := 4) (v := .ref q_o_now_box) (C := RX4) (T := TX4) (N := 2) hx hb hts f_inX4 hown hK hP 1 rfl rfl 0 (by decide) f_f51 (fun _ h9 => h9) rfl dX6_hole_57 ?_
      refine va_get (D := D) (ci := 0) (v := .ref q_o_now_box_holeY) (C := RX0) (T := TX0) (N := 10) hx hb hts f_inX0 hown hK hP 2 rfl rfl 8 (by decide) f_f171 (fun _ h9 => h9) rfl dX6_hole_60 ?_
      refine lv_iload_n hx hb dX6_hole_63 rfl (lv_at hl 1 rfl) ?_
      obtain ⟨h6, hF⟩ := ld_o hF
      refine va_iald hx hb hK hP 4 0 rfl rfl h6 dX6_hole_64 ?_
      refine lv_topi (fun v7 ev7 => ?_)
      have hF := hF v7 ev7
      cases hF
    have hF := if_n hF c5
    by_cases c8 : p2 = 2
    · have hF := if_p hF c8
      refine lv_tableIn (off := 60) (tgt := 66) hx hb dX6_hole_6 (by rw [c8]; decide) (by rw [c8]; decide) (by rw [c8]; rfl) (by decide) ?_
      refine lv_aload_n hx hb dX6_hole_66 rfl (lv_at hl 0 rfl) ?_
      refine va_get (D := D) (ci := 6) (v := .ref q_o_now) (C := RX6) (T := TX6) (N := 8) hx hb hts f_inX6 hown hK hP 0 rfl rfl 1 (by decide) f_f19 (fun _ h9 => h9) rfl dX6_hole_67 ?_
      refine va_get (D := D) (ci := 4) (v := .ref q_o_now_crowd) (C := RX4) (T := TX4) (N := 2) hx hb hts f_inX4 hown hK hP 1 rfl rfl 1 (by decide) f_f99 (fun _ h9 => h9) rfl dX6_hole_70 ?_
      refine va_get (D := D) (ci := 1) (v := .ref q_o_now_crowd_lookers) (C := RX1) (T := TX1) (N := 5) hx hb hts f_inX1 hown hK hP 5 rfl rfl 3 (by decide) f_f174 (fun _ h9 => h9) rfl dX6_hole_73 ?_
      refine lv_iload_n hx hb dX6_hole_76 rfl (lv_at hl 1 rfl) ?_
      obtain ⟨h9, hF⟩ := ld_o hF
      refine va_iald hx hb hK hP 6 0 rfl rfl h9 dX6_hole_77 ?_
      refine lv_topi (fun v10 ev10 => ?_)
      have hF := hF v10 ev10
      cases hF
    have hF := if_n hF c8
    by_cases c11 : p2 = 3
    · have hF := if_p hF c11
      refine lv_tableIn (off := 73) (tgt := 79) hx hb dX6_hole_6 (by rw [c11]; decide) (by rw [c11]; decide) (by rw [c11]; rfl) (by decide) ?_
      refine lv_aload_n hx hb dX6_hole_79 rfl (lv_at hl 0 rfl) ?_
      refine va_get (D := D) (ci := 6) (v := .ref q_o_view) (C := RX6) (T := TX6) (N := 8) hx hb hts f_inX6 hown hK hP 0 rfl rfl 3 (by decide) f_f29 (fun _ h9 => h9) rfl dX6_hole_80 ?_
      refine va_get (D := D) (ci := 5) (v := .ref q_o_view_kinds) (C := RX5) (T := TX5) (N := 5) hx hb hts f_inX5 hown hK hP 7 rfl rfl 2 (by decide) f_f177 (fun _ h9 => h9) rfl dX6_hole_83 ?_
      refine lv_iload_n hx hb dX6_hole_86 rfl (lv_at hl 1 rfl) ?_
      obtain ⟨h12, hF⟩ := ld_o hF
      refine va_iald hx hb hK hP 8 0 rfl rfl h12 dX6_hole_87 ?_
      refine lv_topi (fun v13 ev13 => ?_)
      have hF := hF v13 ev13
      cases hF
    have hF := if_n hF c11
    by_cases c14 : p2 = 4
    · have hF := if_p hF c14
      refine lv_tableIn (off := 83) (tgt := 89) hx hb dX6_hole_6 (by rw [c14]; decide) (by rw [c14]; decide) (by rw [c14]; rfl) (by decide) ?_
      refine lv_aload_n hx hb dX6_hole_89 rfl (lv_at hl 0 rfl) ?_
      refine va_get (D := D) (ci := 6) (v := .ref q_o_view) (C := RX6) (T := TX6) (N := 8) hx hb hts f_inX6 hown hK hP 0 rfl rfl 3 (by decide) f_f29 (fun _ h9 => h9) rfl dX6_hole_90 ?_
      refine va_get (D := D) (ci := 5) (v := .ref q_o_view_depths) (C := RX5) (T := TX5) (N := 5) hx hb hts f_inX5 hown hK hP 7 rfl rfl 3 (by decide) f_f180 (fun _ h9 => h9) rfl dX6_hole_93 ?_
      refine lv_iload_n hx hb dX6_hole_96 rfl (lv_at hl 1 rfl) ?_
      obtain ⟨h15, hF⟩ := ld_o hF
      refine va_iald hx hb hK hP 9 0 rfl rfl h15 dX6_hole_97 ?_
      refine lv_topi (fun v16 ev16 => ?_)
      have hF := hF v16 ev16
      cases hF
    have hF := if_n hF c14
    have tc2 : p2.toInt ≠ 0 := fun h9 => c2 (Int32.toInt_inj.mp (h9.trans (by decide)))
    have tc5 : p2.toInt ≠ 1 := fun h9 => c5 (Int32.toInt_inj.mp (h9.trans (by decide)))
    have tc8 : p2.toInt ≠ 2 := fun h9 => c8 (Int32.toInt_inj.mp (h9.trans (by decide)))
    have tc11 : p2.toInt ≠ 3 := fun h9 => c11 (Int32.toInt_inj.mp (h9.trans (by decide)))
    have tc14 : p2.toInt ≠ 4 := fun h9 => c14 (Int32.toInt_inj.mp (h9.trans (by decide)))
    refine lv_tableOut (tgt := 99) hx hb dX6_hole_6 (by omega) (by decide) ?_
    obtain rfl := sl_o hF
    obtain ⟨a17, hRa17, hTa17⟩ := hE.2.2.1 ("PeepBox", 183, "no such number of a hole", [110, 111, 32, 115, 117, 99, 104, 32, 110, 117, 109, 98, 101, 114, 32, 111, 102, 32, 97, 32, 104, 111, 108, 101]) (by decide +kernel)
    rw [hQQ]
    exact vx_throwS (A := A) hx hb hst hown (by decide +kernel) (by decide +kernel) f_k76 f_i2 hRa17 fat_80 (by decide +kernel) hE.2.2.2.2.1 hE.2.2.2.2.2.1 hS (by rw [hml]; exact hl.1) dX6_hole_99 dX6_hole_102 dX6_hole_103 dX6_hole_105 dX6_hole_108 (fun z hz => absurd hz (hxt z)) (Nat.le_of_ble_eq_true rfl) (Nat.le_of_ble_eq_true rfl) (Nat.le_of_ble_eq_true rfl) (Nat.le_of_ble_eq_true rfl) hlocks (kx_end hP hD hS rfl) hS.2.2 (Nat.le_of_ble_eq_true rfl) (Nat.le_of_ble_eq_true rfl)
  exact main s.heap [] ls hP hD hS hl
