/-! contracts, written by program (gen.py): X7_told X7_state X7_noPlane X7_noCell X7_noHole X7_noViewer X7_stands X7_toldPlane X7_plane X7_toldHole X7_hole X7_sees X7_shown X7_why -/
theorem kd_X7_told : yX7_told.cls = RX7 ∧ yX7_told.cls ≠ "java/lang/invoke/MethodHandle" ∧ yX7_told.cls ≠ "java/lang/invoke/VarHandle" ∧ (parseMethodDescriptor yX7_told.desc).map (fun d => d.parameters.length) = some 1 := by decide +kernel
set_option maxHeartbeats 4000000 in
set_option maxRecDepth 100000 in
theorem c_X7_told {l : Launch} {D : va_G} {cy : Nat → ClassId} (q_o q_o_data : Nat) (sz : Nat) (x_o_thrown x_o_buffer x_o_bufferLength x_o_textLength x_o_position x_o_error x_o_errorAt x_o_errorOffset x_o_draft x_o_aside x_o_history x_o_undoDepth x_o_numberStart x_o_nesting x_o_seen x_o_toldPlanes x_o_stack x_o_facts : Value) (o_data : Nat → Int32) (p1 : Int32) (res : Int32) (hF : X7_told o_data p1 = some res) : Met l yX7_told wsX7_told ({ frames := 3, cells := 0, slots := 0, locals := 66 } : Room) (kP (EN D cy) D [.ref q_o, .int p1] [(q_o, .inr (7, [x_o_thrown, x_o_buffer, x_o_bufferLength, x_o_textLength, x_o_position, x_o_error, x_o_errorAt, x_o_errorOffset, .ref q_o_data, x_o_draft, x_o_aside, x_o_history, x_o_undoDepth, x_o_numberStart, x_o_nesting, x_o_seen, x_o_toldPlanes, x_o_stack, x_o_facts])), (q_o_data, .inl (cy 0, 2243, .inl o_data))] sz) (kQi D res [(q_o, .inr (7, [x_o_thrown, x_o_buffer, x_o_bufferLength, x_o_textLength, x_o_position, x_o_error, x_o_errorAt, x_o_errorOffset, .ref q_o_data, x_o_draft, x_o_aside, x_o_history, x_o_undoDepth, x_o_numberStart, x_o_nesting, x_o_seen, x_o_toldPlanes, x_o_stack, x_o_facts])), (q_o_data, .inl (cy 0, 2243, .inl o_data))] (va_A [(q_o, .inr (7, [x_o_thrown, x_o_buffer, x_o_bufferLength, x_o_textLength, x_o_position, x_o_error, x_o_errorAt, x_o_errorOffset, .ref q_o_data, x_o_draft, x_o_aside, x_o_history, x_o_undoDepth, x_o_numberStart, x_o_nesting, x_o_seen, x_o_toldPlanes, x_o_stack, x_o_facts])), (q_o_data, .inl (cy 0, 2243, .inl o_data))] sz)) 0 0 (va_A [(q_o, .inr (7, [x_o_thrown, x_o_buffer, x_o_bufferLength, x_o_textLength, x_o_position, x_o_error, x_o_errorAt, x_o_errorOffset, .ref q_o_data, x_o_draft, x_o_aside, x_o_history, x_o_undoDepth, x_o_numberStart, x_o_nesting, x_o_seen, x_o_toldPlanes, x_o_stack, x_o_facts])), (q_o_data, .inl (cy 0, 2243, .inl o_data))] sz) := by
  refine kMet (y := yX7_told) (av := [.ref q_o, .int p1]) (cc := cX7_told) (maxL := 2) (ret := some .int) (own := RX7) (Qc := fun A9 => (kQi D res [(q_o, .inr (7, [x_o_thrown, x_o_buffer, x_o_bufferLength, x_o_textLength, x_o_position, x_o_error, x_o_errorAt, x_o_errorOffset, .ref q_o_data, x_o_draft, x_o_aside, x_o_history, x_o_undoDepth, x_o_numberStart, x_o_nesting, x_o_seen, x_o_toldPlanes, x_o_stack, x_o_facts])), (q_o_data, .inl (cy 0, 2243, .inl o_data))] A9)) (by decide) rfl rfl (Nat.le_of_ble_eq_true rfl) ?_
  intro p e s m args below meth c A hx hb hr hts hown hml hlocks hname hE hP hD hA hsz ls hl
  have hK := hE.1
  have hl : lv_has ls 2 [(0, .ref q_o), (1, .int p1)] := hl
  have hS : va_S A s.heap s.heap [] := va_S.rf
  have f_f17 := hts (.fieldLink RX7 17 "PeepBoxModel" "data" "[I") (by decide +kernel)
  have f_inX7 : ∀ w ∈ wsX70, w ∈ wsX7_told := by decide +kernel
  obtain ⟨QQ, hQQ⟩ : ∃ Q9, Q9 = MQ below (kQi D res [(q_o, .inr (7, [x_o_thrown, x_o_buffer, x_o_bufferLength, x_o_textLength, x_o_position, x_o_error, x_o_errorAt, x_o_errorOffset, .ref q_o_data, x_o_draft, x_o_aside, x_o_history, x_o_undoDepth, x_o_numberStart, x_o_nesting, x_o_seen, x_o_toldPlanes, x_o_stack, x_o_facts])), (q_o_data, .inl (cy 0, 2243, .inl o_data))] A) args s 0 0 A := ⟨_, rfl⟩
  rw [← hQQ]
  have main : ∀ (H : Heap) (locs : List Loc) (ls : Array Slot), va_P D vwCl [(q_o, .inr (7, [x_o_thrown, x_o_buffer, x_o_bufferLength, x_o_textLength, x_o_position, x_o_error, x_o_errorAt, x_o_errorOffset, .ref q_o_data, x_o_draft, x_o_aside, x_o_history, x_o_undoDepth, x_o_numberStart, x_o_nesting, x_o_seen, x_o_toldPlanes, x_o_stack, x_o_facts])), (q_o_data, .inl (cy 0, 2243, .inl o_data))] H → va_D A [(q_o, .inr (7, [x_o_thrown, x_o_buffer, x_o_bufferLength, x_o_textLength, x_o_position, x_o_error, x_o_errorAt, x_o_errorOffset, .ref q_o_data, x_o_draft, x_o_aside, x_o_history, x_o_undoDepth, x_o_numberStart, x_o_nesting, x_o_seen, x_o_toldPlanes, x_o_stack, x_o_facts])), (q_o_data, .inl (cy 0, 2243, .inl o_data))] → va_S A s.heap H locs → lv_has ls 2 [(0, .ref q_o), (1, .int p1)] → W p l e ({ frames := 3, cells := 0, slots := 0, locals := 66 } : Room) s m args below meth c H locs 0 0 QQ (F0 m 0 ls []) := by
    intro H locs ls hP hD hS hl
    unfold X7_told at hF
    refine lv_iload_n hx hb dX7_told_0 rfl (lv_at hl 1 rfl) ?_
    by_cases c1 : p1 = 8
    · have hF := if_p hF c1
      refine lv_tableIn (off := 39) (tgt := 40) hx hb dX7_told_1 (by rw [c1]; decide) (by rw [c1]; decide) (by rw [c1]; rfl) (by decide) ?_
      refine lv_aload_n hx hb dX7_told_40 rfl (lv_at hl 0 rfl) ?_
      refine lv_iload_n hx hb dX7_told_41 rfl (lv_at hl 1 rfl) ?_
      refine lv_bipush (v := 8) hx hb dX7_told_42 (by decide) ?_
      refine lv_isub hx hb dX7_told_44 ?_
      obtain ⟨r2, h3, hF⟩ := bn1_o hF
      refine kd_i [(q_o, .inr (7, [x_o_thrown, x_o_buffer, x_o_bufferLength, x_o_textLength, x_o_position, x_o_error, x_o_errorAt, x_o_errorOffset, .ref q_o_data, x_o_draft, x_o_aside, x_o_history, x_o_undoDepth, x_o_numberStart, x_o_nesting, x_o_seen, x_o_toldPlanes, x_o_stack, x_o_facts])), (q_o_data, .inl (cy 0, 2243, .inl o_data))] (va_runV (As := [.int (p1 - (8 : Int32))]) (rest := []) ⟨hx, hb, hml, hown, hts⟩ (c_X7_inState q_o q_o_data H.size x_o_thrown x_o_buffer x_o_bufferLength x_o_textLength x_o_position x_o_error x_o_errorAt x_o_errorOffset x_o_draft x_o_aside x_o_history x_o_undoDepth x_o_numberStart x_o_nesting x_o_seen x_o_toldPlanes x_o_stack x_o_facts o_data (p1 - (8 : Int32)) _ h3) (cwV 1 hts gX7_told_X7_inState rfl rfl rfl kd_X7_inState ⟨Nat.le_of_ble_eq_true rfl, Nat.le_of_ble_eq_true rfl⟩) ⟨kP_blind (EN_ok D cy) D _ _ _, va_recv hK hP (ci := 7) (q0 := 0) rfl rfl, kStart (EN_ok D cy) hE hP hD hS hA [0, 1] rfl rfl _⟩ rfl rfl hl.1 rfl (lv_room (Nat.le_of_ble_eq_true rfl)) dX7_told_45 ⟨Nat.zero_le _, Nat.zero_le _⟩) hP hD hS hA [0, 1] [] rfl rfl rfl 2 rfl (by decide +kernel) (fun H locs hP hD hS => ?_)
      obtain rfl := so_o hF
      rw [hQQ]
      exact kr_i hx hb hr hlocks hP hD hS dX7_told_48
    have hF := if_n hF c1
    by_cases c4 : p1 = 9
    · have hF := if_p hF c4
      refine lv_tableIn (off := 39) (tgt := 40) hx hb dX7_told_1 (by rw [c4]; decide) (by rw [c4]; decide) (by rw [c4]; rfl) (by decide) ?_
      refine lv_aload_n hx hb dX7_told_40 rfl (lv_at hl 0 rfl) ?_
      refine lv_iload_n hx hb dX7_told_41 rfl (lv_at hl 1 rfl) ?_
      refine lv_bipush (v := 8) hx hb dX7_told_42 (by decide) ?_
      refine lv_isub hx hb dX7_told_44 ?_
      obtain ⟨r5, h6, hF⟩ := bn1_o hF
      refine kd_i [(q_o, .inr (7, [x_o_thrown, x_o_buffer, x_o_bufferLength, x_o_textLength, x_o_position, x_o_error, x_o_errorAt, x_o_errorOffset, .ref q_o_data, x_o_draft, x_o_aside, x_o_history, x_o_undoDepth, x_o_numberStart, x_o_nesting, x_o_seen, x_o_toldPlanes, x_o_stack, x_o_facts])), (q_o_data, .inl (cy 0, 2243, .inl o_data))] (va_runV (As := [.int (p1 - (8 : Int32))]) (rest := []) ⟨hx, hb, hml, hown, hts⟩ (c_X7_inState q_o q_o_data H.size x_o_thrown x_o_buffer x_o_bufferLength x_o_textLength x_o_position x_o_error x_o_errorAt x_o_errorOffset x_o_draft x_o_aside x_o_history x_o_undoDepth x_o_numberStart x_o_nesting x_o_seen x_o_toldPlanes x_o_stack x_o_facts o_data (p1 - (8 : Int32)) _ h6) (cwV 1 hts gX7_told_X7_inState rfl rfl rfl kd_X7_inState ⟨Nat.le_of_ble_eq_true rfl, Nat.le_of_ble_eq_true rfl⟩) ⟨kP_blind (EN_ok D cy) D _ _ _, va_recv hK hP (ci := 7) (q0 := 0) rfl rfl, kStart (EN_ok D cy) hE hP hD hS hA [0, 1] rfl rfl _⟩ rfl rfl hl.1 rfl (lv_room (Nat.le_of_ble_eq_true rfl)) dX7_told_45 ⟨Nat.zero_le _, Nat.zero_le _⟩) hP hD hS hA [0, 1] [] rfl rfl rfl 2 rfl (by decide +kernel) (fun H locs hP hD hS => ?_)
      obtain rfl := so_o hF
      rw [hQQ]
      exact kr_i hx hb hr hlocks hP hD hS dX7_told_48
    have hF := if_n hF c4
    by_cases c7 : p1 = 10
    · have hF := if_p hF c7
      refine lv_tableIn (off := 39) (tgt := 40) hx hb dX7_told_1 (by rw [c7]; decide) (by rw [c7]; decide) (by rw [c7]; rfl) (by decide) ?_
      refine lv_aload_n hx hb dX7_told_40 rfl (lv_at hl 0 rfl) ?_
      refine lv_iload_n hx hb dX7_told_41 rfl (lv_at hl 1 rfl) ?_
      refine lv_bipush (v := 8) hx hb dX7_told_42 (by decide) ?_
      refine lv_isub hx hb dX7_told_44 ?_
      obtain ⟨r8, h9, hF⟩ := bn1_o hF
      refine kd_i [(q_o, .inr (7, [x_o_thrown, x_o_buffer, x_o_bufferLength, x_o_textLength, x_o_position, x_o_error, x_o_errorAt, x_o_errorOffset, .ref q_o_data, x_o_draft, x_o_aside, x_o_history, x_o_undoDepth, x_o_numberStart, x_o_nesting, x_o_seen, x_o_toldPlanes, x_o_stack, x_o_facts])), (q_o_data, .inl (cy 0, 2243, .inl o_data))] (va_runV (As := [.int (p1 - (8 : Int32))]) (rest := []) ⟨hx, hb, hml, hown, hts⟩ (c_X7_inState q_o q_o_data H.size x_o_thrown x_o_buffer x_o_bufferLength x_o_textLength x_o_position x_o_error x_o_errorAt x_o_errorOffset x_o_draft x_o_aside x_o_history x_o_undoDepth x_o_numberStart x_o_nesting x_o_seen x_o_toldPlanes x_o_stack x_o_facts o_data (p1 - (8 : Int32)) _ h9) (cwV 1 hts gX7_told_X7_inState rfl rfl rfl kd_X7_inState ⟨Nat.le_of_ble_eq_true rfl, Nat.le_of_ble_eq_true rfl⟩) ⟨kP_blind (EN_ok D cy) D _ _ _, va_recv hK hP (ci := 7) (q0 := 0) rfl rfl, kStart (EN_ok D cy) hE hP hD hS hA [0, 1] rfl rfl _⟩ rfl rfl hl.1 rfl (lv_room (Nat.le_of_ble_eq_true rfl)) dX7_told_45 ⟨Nat.zero_le _, Nat.zero_le _⟩) hP hD hS hA [0, 1] [] rfl rfl rfl 2 rfl (by decide +kernel) (fun H locs hP hD hS => ?_)
      obtain rfl := so_o hF
      rw [hQQ]
      exact kr_i hx hb hr hlocks hP hD hS dX7_told_48
    have hF := if_n hF c7
    by_cases c10 : p1 = 11
    · have hF := if_p hF c10
      refine lv_tableIn (off := 39) (tgt := 40) hx hb dX7_told_1 (by rw [c10]; decide) (by rw [c10]; decide) (by rw [c10]; rfl) (by decide) ?_
      refine lv_aload_n hx hb dX7_told_40 rfl (lv_at hl 0 rfl) ?_
      refine lv_iload_n hx hb dX7_told_41 rfl (lv_at hl 1 rfl) ?_
      refine lv_bipush (v := 8) hx hb dX7_told_42 (by decide) ?_
      refine lv_isub hx hb dX7_told_44 ?_
      obtain ⟨r11, h12, hF⟩ := bn1_o hF
      refine kd_i [(q_o, .inr (7, [x_o_thrown, x_o_buffer, x_o_bufferLength, x_o_textLength, x_o_position, x_o_error, x_o_errorAt, x_o_errorOffset, .ref q_o_data, x_o_draft, x_o_aside, x_o_history, x_o_undoDepth, x_o_numberStart, x_o_nesting, x_o_seen, x_o_toldPlanes, x_o_stack, x_o_facts])), (q_o_data, .inl (cy 0, 2243, .inl o_data))] (va_runV (As := [.int (p1 - (8 : Int32))]) (rest := []) ⟨hx, hb, hml, hown, hts⟩ (c_X7_inState q_o q_o_data H.size x_o_thrown x_o_buffer x_o_bufferLength x_o_textLength x_o_position x_o_error x_o_errorAt x_o_errorOffset x_o_draft x_o_aside x_o_history x_o_undoDepth x_o_numberStart x_o_nesting x_o_seen x_o_toldPlanes x_o_stack x_o_facts o_data (p1 - (8 : Int32)) _ h12) (cwV 1 hts gX7_told_X7_inState rfl rfl rfl kd_X7_inState ⟨Nat.le_of_ble_eq_true rfl, Nat.le_of_ble_eq_true rfl⟩) ⟨kP_blind (EN_ok D cy) D _ _ _, va_recv hK hP (ci := 7) (q0 := 0) rfl rfl, kStart (EN_ok D cy) hE hP hD hS hA [0, 1] rfl rfl _⟩ rfl rfl hl.1 rfl (lv_room (Nat.le_of_ble_eq_true rfl)) dX7_told_45 ⟨Nat.zero_le _, Nat.zero_le _⟩) hP hD hS hA [0, 1] [] rfl rfl rfl 2 rfl (by decide +kernel) (fun H locs hP hD hS => ?_)
      obtain rfl := so_o hF
      rw [hQQ]
      exact kr_i hx hb hr hlocks hP hD hS dX7_told_48
    have hF := if_n hF c10
    by_cases c13 : p1 = 12
    · have hF := if_p hF c13
      refine lv_tableIn (off := 48) (tgt := 49) hx hb dX7_told_1 (by rw [c13]; decide) (by rw [c13]; decide) (by rw [c13]; rfl) (by decide) ?_
      refine lv_aload_n hx hb dX7_told_49 rfl (lv_at hl 0 rfl) ?_
      obtain ⟨r14, h15, hF⟩ := bn1_o hF
      refine kd_i [(q_o, .inr (7, [x_o_thrown, x_o_buffer, x_o_bufferLength, x_o_textLength, x_o_position, x_o_error, x_o_errorAt, x_o_errorOffset, .ref q_o_data, x_o_draft, x_o_aside, x_o_history, x_o_undoDepth, x_o_numberStart, x_o_nesting, x_o_seen, x_o_toldPlanes, x_o_stack, x_o_facts])), (q_o_data, .inl (cy 0, 2243, .inl o_data))] (va_runV (As := []) (rest := []) ⟨hx, hb, hml, hown, hts⟩ (c_X7_paidInAll q_o q_o_data H.size x_o_thrown x_o_buffer x_o_bufferLength x_o_textLength x_o_position x_o_error x_o_errorAt x_o_errorOffset x_o_draft x_o_aside x_o_history x_o_undoDepth x_o_numberStart x_o_nesting x_o_seen x_o_toldPlanes x_o_stack x_o_facts o_data _ h15) (cwV 0 hts gX7_told_X7_paidInAll rfl rfl rfl kd_X7_paidInAll ⟨Nat.le_of_ble_eq_true rfl, Nat.le_of_ble_eq_true rfl⟩) ⟨kP_blind (EN_ok D cy) D _ _ _, va_recv hK hP (ci := 7) (q0 := 0) rfl rfl, kStart (EN_ok D cy) hE hP hD hS hA [0, 1] rfl rfl _⟩ rfl rfl hl.1 rfl (lv_room (Nat.le_of_ble_eq_true rfl)) dX7_told_50 ⟨Nat.zero_le _, Nat.zero_le _⟩) hP hD hS hA [0, 1] [] rfl rfl rfl 2 rfl (by decide +kernel) (fun H locs hP hD hS => ?_)
      obtain rfl := so_o hF
      rw [hQQ]
      exact kr_i hx hb hr hlocks hP hD hS dX7_told_53
    have hF := if_n hF c13
    by_cases c16 : p1 = 13
    · have hF := if_p hF c16
      refine lv_tableIn (off := 53) (tgt := 54) hx hb dX7_told_1 (by rw [c16]; decide) (by rw [c16]; decide) (by rw [c16]; rfl) (by decide) ?_
      refine lv_aload_n hx hb dX7_told_54 rfl (lv_at hl 0 rfl) ?_
      obtain ⟨r17, h18, hF⟩ := bn1_o hF
      refine kd_i [(q_o, .inr (7, [x_o_thrown, x_o_buffer, x_o_bufferLength, x_o_textLength, x_o_position, x_o_error, x_o_errorAt, x_o_errorOffset, .ref q_o_data, x_o_draft, x_o_aside, x_o_history, x_o_undoDepth, x_o_numberStart, x_o_nesting, x_o_seen, x_o_toldPlanes, x_o_stack, x_o_facts])), (q_o_data, .inl (cy 0, 2243, .inl o_data))] (va_runV (As := []) (rest := []) ⟨hx, hb, hml, hown, hts⟩ (c_X7_freeHoles q_o q_o_data H.size x_o_thrown x_o_buffer x_o_bufferLength x_o_textLength x_o_position x_o_error x_o_errorAt x_o_errorOffset x_o_draft x_o_aside x_o_history x_o_undoDepth x_o_numberStart x_o_nesting x_o_seen x_o_toldPlanes x_o_stack x_o_facts o_data _ h18) (cwV 0 hts gX7_told_X7_freeHoles rfl rfl rfl kd_X7_freeHoles ⟨Nat.le_of_ble_eq_true rfl, Nat.le_of_ble_eq_true rfl⟩) ⟨kP_blind (EN_ok D cy) D _ _ _, va_recv hK hP (ci := 7) (q0 := 0) rfl rfl, kStart (EN_ok D cy) hE hP hD hS hA [0, 1] rfl rfl _⟩ rfl rfl hl.1 rfl (lv_room (Nat.le_of_ble_eq_true rfl)) dX7_told_55 ⟨Nat.zero_le _, Nat.zero_le _⟩) hP hD hS hA [0, 1] [] rfl rfl rfl 2 rfl (by decide +kernel) (fun H locs hP hD hS => ?_)
      obtain rfl := so_o hF
      rw [hQQ]
      exact kr_i hx hb hr hlocks hP hD hS dX7_told_58
    have hF := if_n hF c16
    have tc1 : p1.toInt ≠ 8 := fun h9 => c1 (Int32.toInt_inj.mp (h9.trans (by decide)))
    have tc4 : p1.toInt ≠ 9 := fun h9 => c4 (Int32.toInt_inj.mp (h9.trans (by decide)))
    have tc7 : p1.toInt ≠ 10 := fun h9 => c7 (Int32.toInt_inj.mp (h9.trans (by decide)))
    have tc10 : p1.toInt ≠ 11 := fun h9 => c10 (Int32.toInt_inj.mp (h9.trans (by decide)))
    have tc13 : p1.toInt ≠ 12 := fun h9 => c13 (Int32.toInt_inj.mp (h9.trans (by decide)))
    have tc16 : p1.toInt ≠ 13 := fun h9 => c16 (Int32.toInt_inj.mp (h9.trans (by decide)))
    refine lv_tableOut (tgt := 59) hx hb dX7_told_1 (by omega) (by decide) ?_
    refine lv_aload_n hx hb dX7_told_59 rfl (lv_at hl 0 rfl) ?_
    refine va_get (D := D) (ci := 7) (v := .ref q_o_data) (C := RX7) (T := TX7) (N := 19) hx hb hts f_inX7 hown hK hP 0 rfl rfl 8 (by decide) f_f17 (fun _ h9 => h9) rfl dX7_told_60 ?_
    refine lv_iload_n hx hb dX7_told_63 rfl (lv_at hl 1 rfl) ?_
    obtain ⟨h19, hF⟩ := ld_o hF
    refine va_iald hx hb hK hP 1 0 rfl rfl h19 dX7_told_64 ?_
    refine lv_topi (fun v20 ev20 => ?_)
    have hF := hF v20 ev20
    obtain rfl := so_o hF
    rw [hQQ]
    exact kr_i hx hb hr hlocks hP hD hS dX7_told_65
  exact main s.heap [] ls hP hD hS hl
theorem kd_X7_state : yX7_state.cls = RX7 ∧ yX7_state.cls ≠ "java/lang/invoke/MethodHandle" ∧ yX7_state.cls ≠ "java/lang/invoke/VarHandle" ∧ (parseMethodDescriptor yX7_state.desc).map (fun d => d.parameters.length) = some 1 := by decide +kernel
set_option maxHeartbeats 4000000 in
set_option maxRecDepth 100000 in
theorem c_X7_state {l : Launch} {D : va_G} {cy : Nat → ClassId} (q_o q_o_data : Nat) (sz : Nat) (x_o_buffer x_o_bufferLength x_o_textLength x_o_position x_o_error x_o_errorAt x_o_errorOffset x_o_draft x_o_aside x_o_history x_o_undoDepth x_o_numberStart x_o_nesting x_o_seen x_o_toldPlanes x_o_stack x_o_facts : Value) (o_thrown : Int32) (o_data : Nat → Int32) (p1 : Int32) (res : Int32 × Int32) (hF : X7_state o_thrown o_data p1 = some res) : Met l yX7_state wsX7_state ({ frames := 4, cells := 0, slots := 0, locals := 87 } : Room) (kP (EN D cy) D [.ref q_o, .int p1] [(q_o, .inr (7, [.int o_thrown, x_o_buffer, x_o_bufferLength, x_o_textLength, x_o_position, x_o_error, x_o_errorAt, x_o_errorOffset, .ref q_o_data, x_o_draft, x_o_aside, x_o_history, x_o_undoDepth, x_o_numberStart, x_o_nesting, x_o_seen, x_o_toldPlanes, x_o_stack, x_o_facts])), (q_o_data, .inl (cy 0, 2243, .inl o_data))] sz) (kQi D res.1 [(q_o, .inr (7, [.int res.2, x_o_buffer, x_o_bufferLength, x_o_textLength, x_o_position, x_o_error, x_o_errorAt, x_o_errorOffset, .ref q_o_data, x_o_draft, x_o_aside, x_o_history, x_o_undoDepth, x_o_numberStart, x_o_nesting, x_o_seen, x_o_toldPlanes, x_o_stack, x_o_facts])), (q_o_data, .inl (cy 0, 2243, .inl o_data))] (va_A [(q_o, .inr (7, [.int o_thrown, x_o_buffer, x_o_bufferLength, x_o_textLength, x_o_position, x_o_error, x_o_errorAt, x_o_errorOffset, .ref q_o_data, x_o_draft, x_o_aside, x_o_history, x_o_undoDepth, x_o_numberStart, x_o_nesting, x_o_seen, x_o_toldPlanes, x_o_stack, x_o_facts])), (q_o_data, .inl (cy 0, 2243, .inl o_data))] sz)) 0 0 (va_A [(q_o, .inr (7, [.int o_thrown, x_o_buffer, x_o_bufferLength, x_o_textLength, x_o_position, x_o_error, x_o_errorAt, x_o_errorOffset, .ref q_o_data, x_o_draft, x_o_aside, x_o_history, x_o_undoDepth, x_o_numberStart, x_o_nesting, x_o_seen, x_o_toldPlanes, x_o_stack, x_o_facts])), (q_o_data, .inl (cy 0, 2243, .inl o_data))] sz) := by
  refine kMet (y := yX7_state) (av := [.ref q_o, .int p1]) (cc := cX7_state) (maxL := 2) (ret := some .int) (own := RX7) (Qc := fun A9 => (kQi D res.1 [(q_o, .inr (7, [.int res.2, x_o_buffer, x_o_bufferLength, x_o_textLength, x_o_position, x_o_error, x_o_errorAt, x_o_errorOffset, .ref q_o_data, x_o_draft, x_o_aside, x_o_history, x_o_undoDepth, x_o_numberStart, x_o_nesting, x_o_seen, x_o_toldPlanes, x_o_stack, x_o_facts])), (q_o_data, .inl (cy 0, 2243, .inl o_data))] A9)) (by decide) rfl rfl (Nat.le_of_ble_eq_true rfl) ?_
  intro p e s m args below meth c A hx hb hr hts hown hml hlocks hname hE hP hD hA hsz ls hl
  have hK := hE.1
  have hl : lv_has ls 2 [(0, .ref q_o), (1, .int p1)] := hl
  have hS : va_S A s.heap s.heap [] := va_S.rf
  have f_f42 := hts (.fieldLink RX7 42 "PeepBoxModel" "thrown" "I") (by decide +kernel)
  have f_inX7 : ∀ w ∈ wsX70, w ∈ wsX7_state := by decide +kernel
  obtain ⟨QQ, hQQ⟩ : ∃ Q9, Q9 = MQ below (kQi D res.1 [(q_o, .inr (7, [.int res.2, x_o_buffer, x_o_bufferLength, x_o_textLength, x_o_position, x_o_error, x_o_errorAt, x_o_errorOffset, .ref q_o_data, x_o_draft, x_o_aside, x_o_history, x_o_undoDepth, x_o_numberStart, x_o_nesting, x_o_seen, x_o_toldPlanes, x_o_stack, x_o_facts])), (q_o_data, .inl (cy 0, 2243, .inl o_data))] A) args s 0 0 A := ⟨_, rfl⟩
  rw [← hQQ]
  have J21 : ∀ (k1 : Int32) (o_thrown : Int32) (H : Heap) (locs : List Loc) (ls : Array Slot), va_P D vwCl [(q_o, .inr (7, [.int o_thrown, x_o_buffer, x_o_bufferLength, x_o_textLength, x_o_position, x_o_error, x_o_errorAt, x_o_errorOffset, .ref q_o_data, x_o_draft, x_o_aside, x_o_history, x_o_undoDepth, x_o_numberStart, x_o_nesting, x_o_seen, x_o_toldPlanes, x_o_stack, x_o_facts])), (q_o_data, .inl (cy 0, 2243, .inl o_data))] H → va_D A [(q_o, .inr (7, [.int o_thrown, x_o_buffer, x_o_bufferLength, x_o_textLength, x_o_position, x_o_error, x_o_errorAt, x_o_errorOffset, .ref q_o_data, x_o_draft, x_o_aside, x_o_history, x_o_undoDepth, x_o_numberStart, x_o_nesting, x_o_seen, x_o_toldPlanes, x_o_stack, x_o_facts])), (q_o_data, .inl (cy 0, 2243, .inl o_data))] → va_S A s.heap H locs → lv_has ls 2 [(0, .ref q_o), (1, .int p1)] → X7_state_J21 o_data p1 k1 o_thrown = some res → W p l e ({ frames := 4, cells := 0, slots := 0, locals := 87 } : Room) s m args below meth c H locs 0 0 QQ (F0 m 21 ls [.int k1, .ref q_o]) := by
    intro k1 o_thrown H locs ls hP hD hS hl hF
    unfold X7_state_J21 at hF
    refine lv_iconst (v := 1) hx hb dX7_state_21 (by decide) ?_
    obtain ⟨r1, o2, h3, hF⟩ := bn2_o hF
    refine kd_i [(q_o, .inr (7, [.int o2, x_o_buffer, x_o_bufferLength, x_o_textLength, x_o_position, x_o_error, x_o_errorAt, x_o_errorOffset, .ref q_o_data, x_o_draft, x_o_aside, x_o_history, x_o_undoDepth, x_o_numberStart, x_o_nesting, x_o_seen, x_o_toldPlanes, x_o_stack, x_o_facts])), (q_o_data, .inl (cy 0, 2243, .inl o_data))] (va_runV (As := [.int k1, .int (1 : Int32)]) (rest := []) ⟨hx, hb, hml, hown, hts⟩ (c_X7_fails q_o H.size x_o_buffer x_o_bufferLength x_o_textLength x_o_position x_o_error x_o_errorAt x_o_errorOffset (.ref q_o_data) x_o_draft x_o_aside x_o_history x_o_undoDepth x_o_numberStart x_o_nesting x_o_seen x_o_toldPlanes x_o_stack x_o_facts o_thrown k1 (1 : Int32) _ h3) (cwV 2 hts gX7_state_X7_fails rfl rfl rfl kd_X7_fails ⟨Nat.le_of_ble_eq_true rfl, Nat.le_of_ble_eq_true rfl⟩) ⟨kP_blind (EN_ok D cy) D _ _ _, va_recv hK hP (ci := 7) (q0 := 0) rfl rfl, kStart (EN_ok D cy) hE hP hD hS hA [0] rfl rfl _⟩ rfl rfl hl.1 rfl (lv_room (Nat.le_of_ble_eq_true rfl)) dX7_state_22 ⟨Nat.zero_le _, Nat.zero_le _⟩) hP hD hS hA [0] [1] rfl rfl rfl 2 rfl (by decide +kernel) (fun H locs hP hD hS => ?_)
    refine lv_if_eq (tgt := 32) hx hb dX7_state_25 (by decide) (fun c4 => ?_) (fun c4 => ?_)
    · have hF := if_p hF c4
      refine lv_aload_n hx hb dX7_state_32 rfl (lv_at hl 0 rfl) ?_
      refine lv_iload_n hx hb dX7_state_33 rfl (lv_at hl 1 rfl) ?_
      obtain ⟨r5, h6, hF⟩ := bn1_o hF
      refine kd_i [(q_o, .inr (7, [.int o2, x_o_buffer, x_o_bufferLength, x_o_textLength, x_o_position, x_o_error, x_o_errorAt, x_o_errorOffset, .ref q_o_data, x_o_draft, x_o_aside, x_o_history, x_o_undoDepth, x_o_numberStart, x_o_nesting, x_o_seen, x_o_toldPlanes, x_o_stack, x_o_facts])), (q_o_data, .inl (cy 0, 2243, .inl o_data))] (va_runV (As := [.int p1]) (rest := []) ⟨hx, hb, hml, hown, hts⟩ (c_X7_told q_o q_o_data H.size (.int o2) x_o_buffer x_o_bufferLength x_o_textLength x_o_position x_o_error x_o_errorAt x_o_errorOffset x_o_draft x_o_aside x_o_history x_o_undoDepth x_o_numberStart x_o_nesting x_o_seen x_o_toldPlanes x_o_stack x_o_facts o_data p1 _ h6) (cwV 1 hts gX7_state_X7_told rfl rfl rfl kd_X7_told ⟨Nat.le_of_ble_eq_true rfl, Nat.le_of_ble_eq_true rfl⟩) ⟨kP_blind (EN_ok D cy) D _ _ _, va_recv hK hP (ci := 7) (q0 := 0) rfl rfl, kStart (EN_ok D cy) hE hP hD hS hA [0, 1] rfl rfl _⟩ rfl rfl hl.1 rfl (lv_room (Nat.le_of_ble_eq_true rfl)) dX7_state_34 ⟨Nat.zero_le _, Nat.zero_le _⟩) hP hD hS hA [0, 1] [] rfl rfl rfl 2 rfl (by decide +kernel) (fun H locs hP hD hS => ?_)
      obtain rfl := so_o hF
      rw [hQQ]
      exact kr_i hx hb hr hlocks hP hD hS dX7_state_37
    · have hF := if_n hF c4
      refine lv_iconst (v := 0) hx hb dX7_state_28 (by decide) ?_
      refine lv_goto (tgt := 37) hx hb dX7_state_29 (by decide) ?_
      obtain rfl := so_o hF
      rw [hQQ]
      exact kr_i hx hb hr hlocks hP hD hS dX7_state_37
  have main : ∀ (H : Heap) (locs : List Loc) (ls : Array Slot), va_P D vwCl [(q_o, .inr (7, [.int o_thrown, x_o_buffer, x_o_bufferLength, x_o_textLength, x_o_position, x_o_error, x_o_errorAt, x_o_errorOffset, .ref q_o_data, x_o_draft, x_o_aside, x_o_history, x_o_undoDepth, x_o_numberStart, x_o_nesting, x_o_seen, x_o_toldPlanes, x_o_stack, x_o_facts])), (q_o_data, .inl (cy 0, 2243, .inl o_data))] H → va_D A [(q_o, .inr (7, [.int o_thrown, x_o_buffer, x_o_bufferLength, x_o_textLength, x_o_position, x_o_error, x_o_errorAt, x_o_errorOffset, .ref q_o_data, x_o_draft, x_o_aside, x_o_history, x_o_undoDepth, x_o_numberStart, x_o_nesting, x_o_seen, x_o_toldPlanes, x_o_stack, x_o_facts])), (q_o_data, .inl (cy 0, 2243, .inl o_data))] → va_S A s.heap H locs → lv_has ls 2 [(0, .ref q_o), (1, .int p1)] → W p l e ({ frames := 4, cells := 0, slots := 0, locals := 87 } : Room) s m args below meth c H locs 0 0 QQ (F0 m 0 ls []) := by
    intro H locs ls hP hD hS hl
    unfold X7_state at hF
    refine lv_aload_n hx hb dX7_state_0 rfl (lv_at hl 0 rfl) ?_
    refine lv_iconst (v := 0) hx hb dX7_state_1 (by decide) ?_
    refine va_put (D := D) (ci := 7) (v := .int (0 : Int32)) (ty := .int) (C := RX7) (T := TX7) (N := 19) hx hb hts f_inX7 tyX7 tyX7_ok nmX7 hown hK hP hD hS 0 rfl rfl 0 (by decide) f_f42 (fun _ h9 => h9) rfl (by decide +kernel) rfl rfl (Nat.le_of_ble_eq_true rfl) dX7_state_2 (fun H locs hP hD hS => ?_)
    have hP : va_P D vwCl [(q_o, .inr (7, [.int (0 : Int32), x_o_buffer, x_o_bufferLength, x_o_textLength, x_o_position, x_o_error, x_o_errorAt, x_o_errorOffset, .ref q_o_data, x_o_draft, x_o_aside, x_o_history, x_o_undoDepth, x_o_numberStart, x_o_nesting, x_o_seen, x_o_toldPlanes, x_o_stack, x_o_facts])), (q_o_data, .inl (cy 0, 2243, .inl o_data))] H := hP
    have hD : va_D A [(q_o, .inr (7, [.int (0 : Int32), x_o_buffer, x_o_bufferLength, x_o_textLength, x_o_position, x_o_error, x_o_errorAt, x_o_errorOffset, .ref q_o_data, x_o_draft, x_o_aside, x_o_history, x_o_undoDepth, x_o_numberStart, x_o_nesting, x_o_seen, x_o_toldPlanes, x_o_stack, x_o_facts])), (q_o_data, .inl (cy 0, 2243, .inl o_data))] := hD
    refine lv_aload_n hx hb dX7_state_5 rfl (lv_at hl 0 rfl) ?_
    refine lv_iload_n hx hb dX7_state_6 rfl (lv_at hl 1 rfl) ?_
    refine lv_iconst (v := 0) hx hb dX7_state_7 (by decide) ?_
    refine lv_bipush (v := 13) hx hb dX7_state_8 (by decide) ?_
    obtain ⟨r7, h8, hF⟩ := bn1_o hF
    refine kd_i [(q_o, .inr (7, [.int (0 : Int32), x_o_buffer, x_o_bufferLength, x_o_textLength, x_o_position, x_o_error, x_o_errorAt, x_o_errorOffset, .ref q_o_data, x_o_draft, x_o_aside, x_o_history, x_o_undoDepth, x_o_numberStart, x_o_nesting, x_o_seen, x_o_toldPlanes, x_o_stack, x_o_facts])), (q_o_data, .inl (cy 0, 2243, .inl o_data))] (va_runS (As := [.int p1, .int (0 : Int32), .int (13 : Int32)]) (rest := [.ref q_o]) ⟨hx, hb, hml, hown, hts⟩ (c_X7_in H.size p1 (0 : Int32) (13 : Int32) _ h8) (va_cwS 3 hts gX7_state_X7_in rfl rfl rfl kd_X7_in ⟨Nat.le_of_ble_eq_true rfl, Nat.le_of_ble_eq_true rfl⟩) ⟨kP_blind (EN_ok D cy) D _ _ _, kStart (EN_ok D cy) hE hP hD hS hA [] rfl rfl _⟩ rfl rfl hl.1 rfl (lv_room (Nat.le_of_ble_eq_true rfl)) dX7_state_10 ⟨Nat.zero_le _, Nat.zero_le _⟩) hP hD hS hA [] [0, 1] rfl rfl rfl 2 rfl (by decide +kernel) (fun H locs hP hD hS => ?_)
    refine lv_if_ne (tgt := 20) hx hb dX7_state_13 (by decide) (fun c9 => ?_) (fun c9 => ?_)
    · have hF := if_n hF c9
      refine lv_iconst (v := 0) hx hb dX7_state_20 (by decide) ?_
      exact J21 (0 : Int32) (0 : Int32) H locs ls hP hD hS (lv_sub hl [0, 1] rfl) hF
    · have hF := if_p hF c9
      refine lv_iconst (v := 1) hx hb dX7_state_16 (by decide) ?_
      refine lv_goto (tgt := 21) hx hb dX7_state_17 (by decide) ?_
      exact J21 (1 : Int32) (0 : Int32) H locs ls hP hD hS (lv_sub hl [0, 1] rfl) hF
  exact main s.heap [] ls hP hD hS hl
theorem kd_X7_noPlane : yX7_noPlane.cls = RX7 ∧ yX7_noPlane.cls ≠ "java/lang/invoke/MethodHandle" ∧ yX7_noPlane.cls ≠ "java/lang/invoke/VarHandle" ∧ (parseMethodDescriptor yX7_noPlane.desc).map (fun d => d.parameters.length) = some 1 := by decide +kernel
set_option maxHeartbeats 4000000 in
set_option maxRecDepth 100000 in
theorem c_X7_noPlane {l : Launch} {D : va_G} {cy : Nat → ClassId} (q_o q_o_data : Nat) (sz : Nat) (x_o_buffer x_o_bufferLength x_o_textLength x_o_position x_o_error x_o_errorAt x_o_errorOffset x_o_draft x_o_aside x_o_history x_o_undoDepth x_o_numberStart x_o_nesting x_o_seen x_o_toldPlanes x_o_stack x_o_facts : Value) (o_thrown : Int32) (o_data : Nat → Int32) (p1 : Int32) (res : Int32 × Int32) (hF : X7_noPlane o_thrown o_data p1 = some res) : Met l yX7_noPlane wsX7_noPlane ({ frames := 1, cells := 0, slots := 0, locals := 22 } : Room) (kP (EN D cy) D [.ref q_o, .int p1] [(q_o, .inr (7, [.int o_thrown, x_o_buffer, x_o_bufferLength, x_o_textLength, x_o_position, x_o_error, x_o_errorAt, x_o_errorOffset, .ref q_o_data, x_o_draft, x_o_aside, x_o_history, x_o_undoDepth, x_o_numberStart, x_o_nesting, x_o_seen, x_o_toldPlanes, x_o_stack, x_o_facts])), (q_o_data, .inl (cy 0, 2243, .inl o_data))] sz) (kQi D res.1 [(q_o, .inr (7, [.int res.2, x_o_buffer, x_o_bufferLength, x_o_textLength, x_o_position, x_o_error, x_o_errorAt, x_o_errorOffset, .ref q_o_data, x_o_draft, x_o_aside, x_o_history, x_o_undoDepth, x_o_numberStart, x_o_nesting, x_o_seen, x_o_toldPlanes, x_o_stack, x_o_facts])), (q_o_data, .inl (cy 0, 2243, .inl o_data))] (va_A [(q_o, .inr (7, [.int o_thrown, x_o_buffer, x_o_bufferLength, x_o_textLength, x_o_position, x_o_error, x_o_errorAt, x_o_errorOffset, .ref q_o_data, x_o_draft, x_o_aside, x_o_history, x_o_undoDepth, x_o_numberStart, x_o_nesting, x_o_seen, x_o_toldPlanes, x_o_stack, x_o_facts])), (q_o_data, .inl (cy 0, 2243, .inl o_data))] sz)) 0 0 (va_A [(q_o, .inr (7, [.int o_thrown, x_o_buffer, x_o_bufferLength, x_o_textLength, x_o_position, x_o_error, x_o_errorAt, x_o_errorOffset, .ref q_o_data, x_o_draft, x_o_aside, x_o_history, x_o_undoDepth, x_o_numberStart, x_o_nesting, x_o_seen, x_o_toldPlanes, x_o_stack, x_o_facts])), (q_o_data, .inl (cy 0, 2243, .inl o_data))] sz) := by
  refine kMet (y := yX7_noPlane) (av := [.ref q_o, .int p1]) (cc := cX7_noPlane) (maxL := 2) (ret := some .boolean) (own := RX7) (Qc := fun A9 => (kQi D res.1 [(q_o, .inr (7, [.int res.2, x_o_buffer, x_o_bufferLength, x_o_textLength, x_o_position, x_o_error, x_o_errorAt, x_o_errorOffset, .ref q_o_data, x_o_draft, x_o_aside, x_o_history, x_o_undoDepth, x_o_numberStart, x_o_nesting, x_o_seen, x_o_toldPlanes, x_o_stack, x_o_facts])), (q_o_data, .inl (cy 0, 2243, .inl o_data))] A9)) (by decide) rfl rfl (Nat.le_of_ble_eq_true rfl) ?_
  intro p e s m args below meth c A hx hb hr hts hown hml hlocks hname hE hP hD hA hsz ls hl
  have hK := hE.1
  have hl : lv_has ls 2 [(0, .ref q_o), (1, .int p1)] := hl
  have hS : va_S A s.heap s.heap [] := va_S.rf
  have f_f17 := hts (.fieldLink RX7 17 "PeepBoxModel" "data" "[I") (by decide +kernel)
  have f_inX7 : ∀ w ∈ wsX70, w ∈ wsX7_noPlane := by decide +kernel
  obtain ⟨QQ, hQQ⟩ : ∃ Q9, Q9 = MQ below (kQi D res.1 [(q_o, .inr (7, [.int res.2, x_o_buffer, x_o_bufferLength, x_o_textLength, x_o_position, x_o_error, x_o_errorAt, x_o_errorOffset, .ref q_o_data, x_o_draft, x_o_aside, x_o_history, x_o_undoDepth, x_o_numberStart, x_o_nesting, x_o_seen, x_o_toldPlanes, x_o_stack, x_o_facts])), (q_o_data, .inl (cy 0, 2243, .inl o_data))] A) args s 0 0 A := ⟨_, rfl⟩
  rw [← hQQ]
  have J22 : ∀ (k1 : Int32) (H : Heap) (locs : List Loc) (ls : Array Slot), va_P D vwCl [(q_o, .inr (7, [.int o_thrown, x_o_buffer, x_o_bufferLength, x_o_textLength, x_o_position, x_o_error, x_o_errorAt, x_o_errorOffset, .ref q_o_data, x_o_draft, x_o_aside, x_o_history, x_o_undoDepth, x_o_numberStart, x_o_nesting, x_o_seen, x_o_toldPlanes, x_o_stack, x_o_facts])), (q_o_data, .inl (cy 0, 2243, .inl o_data))] H → va_D A [(q_o, .inr (7, [.int o_thrown, x_o_buffer, x_o_bufferLength, x_o_textLength, x_o_position, x_o_error, x_o_errorAt, x_o_errorOffset, .ref q_o_data, x_o_draft, x_o_aside, x_o_history, x_o_undoDepth, x_o_numberStart, x_o_nesting, x_o_seen, x_o_toldPlanes, x_o_stack, x_o_facts])), (q_o_data, .inl (cy 0, 2243, .inl o_data))] → va_S A s.heap H locs → lv_has ls 2 [] → X7_noPlane_J22 o_thrown o_data p1 k1 = some res → W p l e ({ frames := 1, cells := 0, slots := 0, locals := 22 } : Room) s m args below meth c H locs 0 0 QQ (F0 m 22 ls [.int k1, .ref q_o]) := by
    intro k1 H locs ls hP hD hS hl hF
    unfold X7_noPlane_J22 at hF
    refine lv_iconst (v := 1) hx hb dX7_noPlane_22 (by decide) ?_
    obtain ⟨r1, o2, h3, hF⟩ := bn2_o hF
    refine kd_i [(q_o, .inr (7, [.int o2, x_o_buffer, x_o_bufferLength, x_o_textLength, x_o_position, x_o_error, x_o_errorAt, x_o_errorOffset, .ref q_o_data, x_o_draft, x_o_aside, x_o_history, x_o_undoDepth, x_o_numberStart, x_o_nesting, x_o_seen, x_o_toldPlanes, x_o_stack, x_o_facts])), (q_o_data, .inl (cy 0, 2243, .inl o_data))] (va_runV (As := [.int k1, .int (1 : Int32)]) (rest := []) ⟨hx, hb, hml, hown, hts⟩ (c_X7_fails q_o H.size x_o_buffer x_o_bufferLength x_o_textLength x_o_position x_o_error x_o_errorAt x_o_errorOffset (.ref q_o_data) x_o_draft x_o_aside x_o_history x_o_undoDepth x_o_numberStart x_o_nesting x_o_seen x_o_toldPlanes x_o_stack x_o_facts o_thrown k1 (1 : Int32) _ h3) (cwV 2 hts gX7_noPlane_X7_fails rfl rfl rfl kd_X7_fails ⟨Nat.le_of_ble_eq_true rfl, Nat.le_of_ble_eq_true rfl⟩) ⟨kP_blind (EN_ok D cy) D _ _ _, va_recv hK hP (ci := 7) (q0 := 0) rfl rfl, kStart (EN_ok D cy) hE hP hD hS hA [0] rfl rfl _⟩ rfl rfl hl.1 rfl (lv_room (Nat.le_of_ble_eq_true rfl)) dX7_noPlane_23 ⟨Nat.zero_le _, Nat.zero_le _⟩) hP hD hS hA [0] [1] rfl rfl rfl 2 rfl (by decide +kernel) (fun H locs hP hD hS => ?_)
    obtain ⟨h4, hF⟩ := ck_o hF
    obtain rfl := so_o hF
    rw [hQQ]
    exact kr_z (v := r1) hx hb hr hlocks (by rcases h4 with h9 | h9 <;> rw [h9] <;> rfl) hP hD hS dX7_noPlane_26
  have main : ∀ (H : Heap) (locs : List Loc) (ls : Array Slot), va_P D vwCl [(q_o, .inr (7, [.int o_thrown, x_o_buffer, x_o_bufferLength, x_o_textLength, x_o_position, x_o_error, x_o_errorAt, x_o_errorOffset, .ref q_o_data, x_o_draft, x_o_aside, x_o_history, x_o_undoDepth, x_o_numberStart, x_o_nesting, x_o_seen, x_o_toldPlanes, x_o_stack, x_o_facts])), (q_o_data, .inl (cy 0, 2243, .inl o_data))] H → va_D A [(q_o, .inr (7, [.int o_thrown, x_o_buffer, x_o_bufferLength, x_o_textLength, x_o_position, x_o_error, x_o_errorAt, x_o_errorOffset, .ref q_o_data, x_o_draft, x_o_aside, x_o_history, x_o_undoDepth, x_o_numberStart, x_o_nesting, x_o_seen, x_o_toldPlanes, x_o_stack, x_o_facts])), (q_o_data, .inl (cy 0, 2243, .inl o_data))] → va_S A s.heap H locs → lv_has ls 2 [(0, .ref q_o), (1, .int p1)] → W p l e ({ frames := 1, cells := 0, slots := 0, locals := 22 } : Room) s m args below meth c H locs 0 0 QQ (F0 m 0 ls []) := by
    intro H locs ls hP hD hS hl
    unfold X7_noPlane at hF
    refine lv_aload_n hx hb dX7_noPlane_0 rfl (lv_at hl 0 rfl) ?_
    refine lv_iload_n hx hb dX7_noPlane_1 rfl (lv_at hl 1 rfl) ?_
    refine lv_iconst (v := 0) hx hb dX7_noPlane_2 (by decide) ?_
    refine lv_aload_n hx hb dX7_noPlane_3 rfl (lv_at hl 0 rfl) ?_
    refine va_get (D := D) (ci := 7) (v := .ref q_o_data) (C := RX7) (T := TX7) (N := 19) hx hb hts f_inX7 hown hK hP 0 rfl rfl 8 (by decide) f_f17 (fun _ h9 => h9) rfl dX7_noPlane_4 ?_
    refine lv_iconst (v := 2) hx hb dX7_noPlane_7 (by decide) ?_
    obtain ⟨h5, hF⟩ := ld_o hF
    refine va_iald hx hb hK hP 1 0 rfl rfl h5 dX7_noPlane_8 ?_
    refine lv_topi (fun v6 ev6 => ?_)
    have hF := hF v6 ev6
    refine lv_iconst (v := 1) hx hb dX7_noPlane_9 (by decide) ?_
    refine lv_isub hx hb dX7_noPlane_10 ?_
    obtain ⟨r7, h8, hF⟩ := bn1_o hF
    refine kd_i [(q_o, .inr (7, [.int o_thrown, x_o_buffer, x_o_bufferLength, x_o_textLength, x_o_position, x_o_error, x_o_errorAt, x_o_errorOffset, .ref q_o_data, x_o_draft, x_o_aside, x_o_history, x_o_undoDepth, x_o_numberStart, x_o_nesting, x_o_seen, x_o_toldPlanes, x_o_stack, x_o_facts])), (q_o_data, .inl (cy 0, 2243, .inl o_data))] (va_runS (As := [.int p1, .int (0 : Int32), .int (v6 - (1 : Int32))]) (rest := [.ref q_o]) ⟨hx, hb, hml, hown, hts⟩ (c_X7_in H.size p1 (0 : Int32) (v6 - (1 : Int32)) _ h8) (va_cwS 3 hts gX7_noPlane_X7_in rfl rfl rfl kd_X7_in ⟨Nat.le_of_ble_eq_true rfl, Nat.le_of_ble_eq_true rfl⟩) ⟨kP_blind (EN_ok D cy) D _ _ _, kStart (EN_ok D cy) hE hP hD hS hA [] rfl rfl _⟩ rfl rfl hl.1 rfl (lv_room (Nat.le_of_ble_eq_true rfl)) dX7_noPlane_11 ⟨Nat.zero_le _, Nat.zero_le _⟩) hP hD hS hA [] [0, 1] rfl rfl rfl 2 rfl (by decide +kernel) (fun H locs hP hD hS => ?_)
    refine lv_if_ne (tgt := 21) hx hb dX7_noPlane_14 (by decide) (fun c9 => ?_) (fun c9 => ?_)
    · have hF := if_n hF c9
      refine lv_iconst (v := 0) hx hb dX7_noPlane_21 (by decide) ?_
      exact J22 (0 : Int32) H locs ls hP hD hS (lv_sub hl [] rfl) hF
    · have hF := if_p hF c9
      refine lv_iconst (v := 1) hx hb dX7_noPlane_17 (by decide) ?_
      refine lv_goto (tgt := 22) hx hb dX7_noPlane_18 (by decide) ?_
      exact J22 (1 : Int32) H locs ls hP hD hS (lv_sub hl [] rfl) hF
  exact main s.heap [] ls hP hD hS hl
theorem kd_X7_noCell : yX7_noCell.cls = RX7 ∧ yX7_noCell.cls ≠ "java/lang/invoke/MethodHandle" ∧ yX7_noCell.cls ≠ "java/lang/invoke/VarHandle" ∧ (parseMethodDescriptor yX7_noCell.desc).map (fun d => d.parameters.length) = some 2 := by decide +kernel
set_option maxHeartbeats 4000000 in
set_option maxRecDepth 100000 in
theorem c_X7_noCell {l : Launch} {D : va_G} {cy : Nat → ClassId} (q_o q_o_data : Nat) (sz : Nat) (x_o_buffer x_o_bufferLength x_o_textLength x_o_position x_o_error x_o_errorAt x_o_errorOffset x_o_draft x_o_aside x_o_history x_o_undoDepth x_o_numberStart x_o_nesting x_o_seen x_o_toldPlanes x_o_stack x_o_facts : Value) (o_thrown : Int32) (o_data : Nat → Int32) (p1 : Int32) (p2 : Int32) (res : Int32 × Int32) (hF : X7_noCell o_thrown o_data p1 p2 = some res) : Met l yX7_noCell wsX7_noCell ({ frames := 1, cells := 0, slots := 0, locals := 22 } : Room) (kP (EN D cy) D [.ref q_o, .int p1, .int p2] [(q_o, .inr (7, [.int o_thrown, x_o_buffer, x_o_bufferLength, x_o_textLength, x_o_position, x_o_error, x_o_errorAt, x_o_errorOffset, .ref q_o_data, x_o_draft, x_o_aside, x_o_history, x_o_undoDepth, x_o_numberStart, x_o_nesting, x_o_seen, x_o_toldPlanes, x_o_stack, x_o_facts])), (q_o_data, .inl (cy 0, 2243, .inl o_data))] sz) (kQi D res.1 [(q_o, .inr (7, [.int res.2, x_o_buffer, x_o_bufferLength, x_o_textLength, x_o_position, x_o_error, x_o_errorAt, x_o_errorOffset, .ref q_o_data, x_o_draft, x_o_aside, x_o_history, x_o_undoDepth, x_o_numberStart, x_o_nesting, x_o_seen, x_o_toldPlanes, x_o_stack, x_o_facts])), (q_o_data, .inl (cy 0, 2243, .inl o_data))] (va_A [(q_o, .inr (7, [.int o_thrown, x_o_buffer, x_o_bufferLength, x_o_textLength, x_o_position, x_o_error, x_o_errorAt, x_o_errorOffset, .ref q_o_data, x_o_draft, x_o_aside, x_o_history, x_o_undoDepth, x_o_numberStart, x_o_nesting, x_o_seen, x_o_toldPlanes, x_o_stack, x_o_facts])), (q_o_data, .inl (cy 0, 2243, .inl o_data))] sz)) 0 0 (va_A [(q_o, .inr (7, [.int o_thrown, x_o_buffer, x_o_bufferLength, x_o_textLength, x_o_position, x_o_error, x_o_errorAt, x_o_errorOffset, .ref q_o_data, x_o_draft, x_o_aside, x_o_history, x_o_undoDepth, x_o_numberStart, x_o_nesting, x_o_seen, x_o_toldPlanes, x_o_stack, x_o_facts])), (q_o_data, .inl (cy 0, 2243, .inl o_data))] sz) := by
  refine kMet (y := yX7_noCell) (av := [.ref q_o, .int p1, .int p2]) (cc := cX7_noCell) (maxL := 3) (ret := some .boolean) (own := RX7) (Qc := fun A9 => (kQi D res.1 [(q_o, .inr (7, [.int res.2, x_o_buffer, x_o_bufferLength, x_o_textLength, x_o_position, x_o_error, x_o_errorAt, x_o_errorOffset, .ref q_o_data, x_o_draft, x_o_aside, x_o_history, x_o_undoDepth, x_o_numberStart, x_o_nesting, x_o_seen, x_o_toldPlanes, x_o_stack, x_o_facts])), (q_o_data, .inl (cy 0, 2243, .inl o_data))] A9)) (by decide) rfl rfl (Nat.le_of_ble_eq_true rfl) ?_
  intro p e s m args below meth c A hx hb hr hts hown hml hlocks hname hE hP hD hA hsz ls hl
  have hK := hE.1
  have hl : lv_has ls 3 [(0, .ref q_o), (1, .int p1), (2, .int p2)] := hl
  have hS : va_S A s.heap s.heap [] := va_S.rf
  have f_f17 := hts (.fieldLink RX7 17 "PeepBoxModel" "data" "[I") (by decide +kernel)
  have f_inX7 : ∀ w ∈ wsX70, w ∈ wsX7_noCell := by decide +kernel
  obtain ⟨QQ, hQQ⟩ : ∃ Q9, Q9 = MQ below (kQi D res.1 [(q_o, .inr (7, [.int res.2, x_o_buffer, x_o_bufferLength, x_o_textLength, x_o_position, x_o_error, x_o_errorAt, x_o_errorOffset, .ref q_o_data, x_o_draft, x_o_aside, x_o_history, x_o_undoDepth, x_o_numberStart, x_o_nesting, x_o_seen, x_o_toldPlanes, x_o_stack, x_o_facts])), (q_o_data, .inl (cy 0, 2243, .inl o_data))] A) args s 0 0 A := ⟨_, rfl⟩
  rw [← hQQ]
  have J38 : ∀ (k1 : Int32) (H : Heap) (locs : List Loc) (ls : Array Slot), va_P D vwCl [(q_o, .inr (7, [.int o_thrown, x_o_buffer, x_o_bufferLength, x_o_textLength, x_o_position, x_o_error, x_o_errorAt, x_o_errorOffset, .ref q_o_data, x_o_draft, x_o_aside, x_o_history, x_o_undoDepth, x_o_numberStart, x_o_nesting, x_o_seen, x_o_toldPlanes, x_o_stack, x_o_facts])), (q_o_data, .inl (cy 0, 2243, .inl o_data))] H → va_D A [(q_o, .inr (7, [.int o_thrown, x_o_buffer, x_o_bufferLength, x_o_textLength, x_o_position, x_o_error, x_o_errorAt, x_o_errorOffset, .ref q_o_data, x_o_draft, x_o_aside, x_o_history, x_o_undoDepth, x_o_numberStart, x_o_nesting, x_o_seen, x_o_toldPlanes, x_o_stack, x_o_facts])), (q_o_data, .inl (cy 0, 2243, .inl o_data))] → va_S A s.heap H locs → lv_has ls 3 [] → X7_noCell_J38 o_thrown o_data p1 p2 k1 = some res → W p l e ({ frames := 1, cells := 0, slots := 0, locals := 22 } : Room) s m args below meth c H locs 0 0 QQ (F0 m 38 ls [.int k1, .ref q_o]) := by
    intro k1 H locs ls hP hD hS hl hF
    unfold X7_noCell_J38 at hF
    refine lv_iconst (v := 1) hx hb dX7_noCell_38 (by decide) ?_
    obtain ⟨r1, o2, h3, hF⟩ := bn2_o hF
    refine kd_i [(q_o, .inr (7, [.int o2, x_o_buffer, x_o_bufferLength, x_o_textLength, x_o_position, x_o_error, x_o_errorAt, x_o_errorOffset, .ref q_o_data, x_o_draft, x_o_aside, x_o_history, x_o_undoDepth, x_o_numberStart, x_o_nesting, x_o_seen, x_o_toldPlanes, x_o_stack, x_o_facts])), (q_o_data, .inl (cy 0, 2243, .inl o_data))] (va_runV (As := [.int k1, .int (1 : Int32)]) (rest := []) ⟨hx, hb, hml, hown, hts⟩ (c_X7_fails q_o H.size x_o_buffer x_o_bufferLength x_o_textLength x_o_position x_o_error x_o_errorAt x_o_errorOffset (.ref q_o_data) x_o_draft x_o_aside x_o_history x_o_undoDepth x_o_numberStart x_o_nesting x_o_seen x_o_toldPlanes x_o_stack x_o_facts o_thrown k1 (1 : Int32) _ h3) (cwV 2 hts gX7_noCell_X7_fails rfl rfl rfl kd_X7_fails ⟨Nat.le_of_ble_eq_true rfl, Nat.le_of_ble_eq_true rfl⟩) ⟨kP_blind (EN_ok D cy) D _ _ _, va_recv hK hP (ci := 7) (q0 := 0) rfl rfl, kStart (EN_ok D cy) hE hP hD hS hA [0] rfl rfl _⟩ rfl rfl hl.1 rfl (lv_room (Nat.le_of_ble_eq_true rfl)) dX7_noCell_39 ⟨Nat.zero_le _, Nat.zero_le _⟩) hP hD hS hA [0] [1] rfl rfl rfl 2 rfl (by decide +kernel) (fun H locs hP hD hS => ?_)
    obtain ⟨h4, hF⟩ := ck_o hF
    obtain rfl := so_o hF
    rw [hQQ]
    exact kr_z (v := r1) hx hb hr hlocks (by rcases h4 with h9 | h9 <;> rw [h9] <;> rfl) hP hD hS dX7_noCell_42
  have J33 : ∀ (H : Heap) (locs : List Loc) (ls : Array Slot), va_P D vwCl [(q_o, .inr (7, [.int o_thrown, x_o_buffer, x_o_bufferLength, x_o_textLength, x_o_position, x_o_error, x_o_errorAt, x_o_errorOffset, .ref q_o_data, x_o_draft, x_o_aside, x_o_history, x_o_undoDepth, x_o_numberStart, x_o_nesting, x_o_seen, x_o_toldPlanes, x_o_stack, x_o_facts])), (q_o_data, .inl (cy 0, 2243, .inl o_data))] H → va_D A [(q_o, .inr (7, [.int o_thrown, x_o_buffer, x_o_bufferLength, x_o_textLength, x_o_position, x_o_error, x_o_errorAt, x_o_errorOffset, .ref q_o_data, x_o_draft, x_o_aside, x_o_history, x_o_undoDepth, x_o_numberStart, x_o_nesting, x_o_seen, x_o_toldPlanes, x_o_stack, x_o_facts])), (q_o_data, .inl (cy 0, 2243, .inl o_data))] → va_S A s.heap H locs → lv_has ls 3 [] → X7_noCell_J33 o_thrown o_data p1 p2 = some res → W p l e ({ frames := 1, cells := 0, slots := 0, locals := 22 } : Room) s m args below meth c H locs 0 0 QQ (F0 m 33 ls [.ref q_o]) := by
    intro  H locs ls hP hD hS hl hF
    unfold X7_noCell_J33 at hF
    refine lv_iconst (v := 1) hx hb dX7_noCell_33 (by decide) ?_
    refine lv_goto (tgt := 38) hx hb dX7_noCell_34 (by decide) ?_
    exact J38 (1 : Int32) H locs ls hP hD hS (lv_sub hl [] rfl) hF
  have main : ∀ (H : Heap) (locs : List Loc) (ls : Array Slot), va_P D vwCl [(q_o, .inr (7, [.int o_thrown, x_o_buffer, x_o_bufferLength, x_o_textLength, x_o_position, x_o_error, x_o_errorAt, x_o_errorOffset, .ref q_o_data, x_o_draft, x_o_aside, x_o_history, x_o_undoDepth, x_o_numberStart, x_o_nesting, x_o_seen, x_o_toldPlanes, x_o_stack, x_o_facts])), (q_o_data, .inl (cy 0, 2243, .inl o_data))] H → va_D A [(q_o, .inr (7, [.int o_thrown, x_o_buffer, x_o_bufferLength, x_o_textLength, x_o_position, x_o_error, x_o_errorAt, x_o_errorOffset, .ref q_o_data, x_o_draft, x_o_aside, x_o_history, x_o_undoDepth, x_o_numberStart, x_o_nesting, x_o_seen, x_o_toldPlanes, x_o_stack, x_o_facts])), (q_o_data, .inl (cy 0, 2243, .inl o_data))] → va_S A s.heap H locs → lv_has ls 3 [(0, .ref q_o), (1, .int p1), (2, .int p2)] → W p l e ({ frames := 1, cells := 0, slots := 0, locals := 22 } : Room) s m args below meth c H locs 0 0 QQ (F0 m 0 ls []) := by
    intro H locs ls hP hD hS hl
    unfold X7_noCell at hF
    refine lv_aload_n hx hb dX7_noCell_0 rfl (lv_at hl 0 rfl) ?_
    refine lv_iload_n hx hb dX7_noCell_1 rfl (lv_at hl 1 rfl) ?_
    refine lv_iconst (v := 0) hx hb dX7_noCell_2 (by decide) ?_
    refine lv_aload_n hx hb dX7_noCell_3 rfl (lv_at hl 0 rfl) ?_
    refine va_get (D := D) (ci := 7) (v := .ref q_o_data) (C := RX7) (T := TX7) (N := 19) hx hb hts f_inX7 hown hK hP 0 rfl rfl 8 (by decide) f_f17 (fun _ h9 => h9) rfl dX7_noCell_4 ?_
    refine lv_iconst (v := 0) hx hb dX7_noCell_7 (by decide) ?_
    obtain ⟨h5, hF⟩ := ld_o hF
    refine va_iald hx hb hK hP 1 0 rfl rfl h5 dX7_noCell_8 ?_
    refine lv_topi (fun v6 ev6 => ?_)
    have hF := hF v6 ev6
    refine lv_iconst (v := 1) hx hb dX7_noCell_9 (by decide) ?_
    refine lv_isub hx hb dX7_noCell_10 ?_
    obtain ⟨r7, h8, hF⟩ := bn1_o hF
    refine kd_i [(q_o, .inr (7, [.int o_thrown, x_o_buffer, x_o_bufferLength, x_o_textLength, x_o_position, x_o_error, x_o_errorAt, x_o_errorOffset, .ref q_o_data, x_o_draft, x_o_aside, x_o_history, x_o_undoDepth, x_o_numberStart, x_o_nesting, x_o_seen, x_o_toldPlanes, x_o_stack, x_o_facts])), (q_o_data, .inl (cy 0, 2243, .inl o_data))] (va_runS (As := [.int p1, .int (0 : Int32), .int (v6 - (1 : Int32))]) (rest := [.ref q_o]) ⟨hx, hb, hml, hown, hts⟩ (c_X7_in H.size p1 (0 : Int32) (v6 - (1 : Int32)) _ h8) (va_cwS 3 hts gX7_noCell_X7_in rfl rfl rfl kd_X7_in ⟨Nat.le_of_ble_eq_true rfl, Nat.le_of_ble_eq_true rfl⟩) ⟨kP_blind (EN_ok D cy) D _ _ _, kStart (EN_ok D cy) hE hP hD hS hA [] rfl rfl _⟩ rfl rfl hl.1 rfl (lv_room (Nat.le_of_ble_eq_true rfl)) dX7_noCell_11 ⟨Nat.zero_le _, Nat.zero_le _⟩) hP hD hS hA [] [0, 1] rfl rfl rfl 2 rfl (by decide +kernel) (fun H locs hP hD hS => ?_)
    refine lv_if_eq (tgt := 33) hx hb dX7_noCell_14 (by decide) (fun c9 => ?_) (fun c9 => ?_)
    · have hF := if_p hF c9
      exact J33  H locs ls hP hD hS (lv_sub hl [] rfl) hF
    · have hF := if_n hF c9
      refine lv_iload_n hx hb dX7_noCell_17 rfl (lv_at hl 2 rfl) ?_
      refine lv_iconst (v := 0) hx hb dX7_noCell_18 (by decide) ?_
      refine lv_aload_n hx hb dX7_noCell_19 rfl (lv_at hl 0 rfl) ?_
      refine va_get (D := D) (ci := 7) (v := .ref q_o_data) (C := RX7) (T := TX7) (N := 19) hx hb hts f_inX7 hown hK hP 0 rfl rfl 8 (by decide) f_f17 (fun _ h9 => h9) rfl dX7_noCell_20 ?_
      refine lv_iconst (v := 1) hx hb dX7_noCell_23 (by decide) ?_
      obtain ⟨h10, hF⟩ := ld_o hF
      refine va_iald hx hb hK hP 1 0 rfl rfl h10 dX7_noCell_24 ?_
      refine lv_topi (fun v11 ev11 => ?_)
      have hF := hF v11 ev11
      refine lv_iconst (v := 1) hx hb dX7_noCell_25 (by decide) ?_
      refine lv_isub hx hb dX7_noCell_26 ?_
      obtain ⟨r12, h13, hF⟩ := bn1_o hF
      refine kd_i [(q_o, .inr (7, [.int o_thrown, x_o_buffer, x_o_bufferLength, x_o_textLength, x_o_position, x_o_error, x_o_errorAt, x_o_errorOffset, .ref q_o_data, x_o_draft, x_o_aside, x_o_history, x_o_undoDepth, x_o_numberStart, x_o_nesting, x_o_seen, x_o_toldPlanes, x_o_stack, x_o_facts])), (q_o_data, .inl (cy 0, 2243, .inl o_data))] (va_runS (As := [.int p2, .int (0 : Int32), .int (v11 - (1 : Int32))]) (rest := [.ref q_o]) ⟨hx, hb, hml, hown, hts⟩ (c_X7_in H.size p2 (0 : Int32) (v11 - (1 : Int32)) _ h13) (va_cwS 3 hts gX7_noCell_X7_in rfl rfl rfl kd_X7_in ⟨Nat.le_of_ble_eq_true rfl, Nat.le_of_ble_eq_true rfl⟩) ⟨kP_blind (EN_ok D cy) D _ _ _, kStart (EN_ok D cy) hE hP hD hS hA [] rfl rfl _⟩ rfl rfl hl.1 rfl (lv_room (Nat.le_of_ble_eq_true rfl)) dX7_noCell_27 ⟨Nat.zero_le _, Nat.zero_le _⟩) hP hD hS hA [] [0, 1] rfl rfl rfl 2 rfl (by decide +kernel) (fun H locs hP hD hS => ?_)
      refine lv_if_ne (tgt := 37) hx hb dX7_noCell_30 (by decide) (fun c14 => ?_) (fun c14 => ?_)
      · have hF := if_n hF c14
        refine lv_iconst (v := 0) hx hb dX7_noCell_37 (by decide) ?_
        exact J38 (0 : Int32) H locs ls hP hD hS (lv_sub hl [] rfl) hF
      · have hF := if_p hF c14
        exact J33  H locs ls hP hD hS (lv_sub hl [] rfl) hF
  exact main s.heap [] ls hP hD hS hl
theorem kd_X7_noHole : yX7_noHole.cls = RX7 ∧ yX7_noHole.cls ≠ "java/lang/invoke/MethodHandle" ∧ yX7_noHole.cls ≠ "java/lang/invoke/VarHandle" ∧ (parseMethodDescriptor yX7_noHole.desc).map (fun d => d.parameters.length) = some 1 := by decide +kernel
set_option maxHeartbeats 4000000 in
set_option maxRecDepth 100000 in
theorem c_X7_noHole {l : Launch} {D : va_G} {cy : Nat → ClassId} (q_o q_o_data : Nat) (sz : Nat) (x_o_buffer x_o_bufferLength x_o_textLength x_o_position x_o_error x_o_errorAt x_o_errorOffset x_o_draft x_o_aside x_o_history x_o_undoDepth x_o_numberStart x_o_nesting x_o_seen x_o_toldPlanes x_o_stack x_o_facts : Value) (o_thrown : Int32) (o_data : Nat → Int32) (p1 : Int32) (res : Int32 × Int32) (hF : X7_noHole o_thrown o_data p1 = some res) : Met l yX7_noHole wsX7_noHole ({ frames := 1, cells := 0, slots := 0, locals := 22 } : Room) (kP (EN D cy) D [.ref q_o, .int p1] [(q_o, .inr (7, [.int o_thrown, x_o_buffer, x_o_bufferLength, x_o_textLength, x_o_position, x_o_error, x_o_errorAt, x_o_errorOffset, .ref q_o_data, x_o_draft, x_o_aside, x_o_history, x_o_undoDepth, x_o_numberStart, x_o_nesting, x_o_seen, x_o_toldPlanes, x_o_stack, x_o_facts])), (q_o_data, .inl (cy 0, 2243, .inl o_data))] sz) (kQi D res.1 [(q_o, .inr (7, [.int res.2, x_o_buffer, x_o_bufferLength, x_o_textLength, x_o_position, x_o_error, x_o_errorAt, x_o_errorOffset, .ref q_o_data, x_o_draft, x_o_aside, x_o_history, x_o_undoDepth, x_o_numberStart, x_o_nesting, x_o_seen, x_o_toldPlanes, x_o_stack, x_o_facts])), (q_o_data, .inl (cy 0, 2243, .inl o_data))] (va_A [(q_o, .inr (7, [.int o_thrown, x_o_buffer, x_o_bufferLength, x_o_textLength, x_o_position, x_o_error, x_o_errorAt, x_o_errorOffset, .ref q_o_data, x_o_draft, x_o_aside, x_o_history, x_o_undoDepth, x_o_numberStart, x_o_nesting, x_o_seen, x_o_toldPlanes, x_o_stack, x_o_facts])), (q_o_data, .inl (cy 0, 2243, .inl o_data))] sz)) 0 0 (va_A [(q_o, .inr (7, [.int o_thrown, x_o_buffer, x_o_bufferLength, x_o_textLength, x_o_position, x_o_error, x_o_errorAt, x_o_errorOffset, .ref q_o_data, x_o_draft, x_o_aside, x_o_history, x_o_undoDepth, x_o_numberStart, x_o_nesting, x_o_seen, x_o_toldPlanes, x_o_stack, x_o_facts])), (q_o_data, .inl (cy 0, 2243, .inl o_data))] sz) := by
  refine kMet (y := yX7_noHole) (av := [.ref q_o, .int p1]) (cc := cX7_noHole) (maxL := 2) (ret := some .boolean) (own := RX7) (Qc := fun A9 => (kQi D res.1 [(q_o, .inr (7, [.int res.2, x_o_buffer, x_o_bufferLength, x_o_textLength, x_o_position, x_o_error, x_o_errorAt, x_o_errorOffset, .ref q_o_data, x_o_draft, x_o_aside, x_o_history, x_o_undoDepth, x_o_numberStart, x_o_nesting, x_o_seen, x_o_toldPlanes, x_o_stack, x_o_facts])), (q_o_data, .inl (cy 0, 2243, .inl o_data))] A9)) (by decide) rfl rfl (Nat.le_of_ble_eq_true rfl) ?_
  intro p e s m args below meth c A hx hb hr hts hown hml hlocks hname hE hP hD hA hsz ls hl
  have hK := hE.1
  have hl : lv_has ls 2 [(0, .ref q_o), (1, .int p1)] := hl
  have hS : va_S A s.heap s.heap [] := va_S.rf
  have f_f17 := hts (.fieldLink RX7 17 "PeepBoxModel" "data" "[I") (by decide +kernel)
  have f_inX7 : ∀ w ∈ wsX70, w ∈ wsX7_noHole := by decide +kernel
  obtain ⟨QQ, hQQ⟩ : ∃ Q9, Q9 = MQ below (kQi D res.1 [(q_o, .inr (7, [.int res.2, x_o_buffer, x_o_bufferLength, x_o_textLength, x_o_position, x_o_error, x_o_errorAt, x_o_errorOffset, .ref q_o_data, x_o_draft, x_o_aside, x_o_history, x_o_undoDepth, x_o_numberStart, x_o_nesting, x_o_seen, x_o_toldPlanes, x_o_stack, x_o_facts])), (q_o_data, .inl (cy 0, 2243, .inl o_data))] A) args s 0 0 A := ⟨_, rfl⟩
  rw [← hQQ]
  have J22 : ∀ (k1 : Int32) (H : Heap) (locs : List Loc) (ls : Array Slot), va_P D vwCl [(q_o, .inr (7, [.int o_thrown, x_o_buffer, x_o_bufferLength, x_o_textLength, x_o_position, x_o_error, x_o_errorAt, x_o_errorOffset, .ref q_o_data, x_o_draft, x_o_aside, x_o_history, x_o_undoDepth, x_o_numberStart, x_o_nesting, x_o_seen, x_o_toldPlanes, x_o_stack, x_o_facts])), (q_o_data, .inl (cy 0, 2243, .inl o_data))] H → va_D A [(q_o, .inr (7, [.int o_thrown, x_o_buffer, x_o_bufferLength, x_o_textLength, x_o_position, x_o_error, x_o_errorAt, x_o_errorOffset, .ref q_o_data, x_o_draft, x_o_aside, x_o_history, x_o_undoDepth, x_o_numberStart, x_o_nesting, x_o_seen, x_o_toldPlanes, x_o_stack, x_o_facts])), (q_o_data, .inl (cy 0, 2243, .inl o_data))] → va_S A s.heap H locs → lv_has ls 2 [] → X7_noHole_J22 o_thrown o_data p1 k1 = some res → W p l e ({ frames := 1, cells := 0, slots := 0, locals := 22 } : Room) s m args below meth c H locs 0 0 QQ (F0 m 22 ls [.int k1, .ref q_o]) := by
    intro k1 H locs ls hP hD hS hl hF
    unfold X7_noHole_J22 at hF
    refine lv_iconst (v := 1) hx hb dX7_noHole_22 (by decide) ?_
    obtain ⟨r1, o2, h3, hF⟩ := bn2_o hF
    refine kd_i [(q_o, .inr (7, [.int o2, x_o_buffer, x_o_bufferLength, x_o_textLength, x_o_position, x_o_error, x_o_errorAt, x_o_errorOffset, .ref q_o_data, x_o_draft, x_o_aside, x_o_history, x_o_undoDepth, x_o_numberStart, x_o_nesting, x_o_seen, x_o_toldPlanes, x_o_stack, x_o_facts])), (q_o_data, .inl (cy 0, 2243, .inl o_data))] (va_runV (As := [.int k1, .int (1 : Int32)]) (rest := []) ⟨hx, hb, hml, hown, hts⟩ (c_X7_fails q_o H.size x_o_buffer x_o_bufferLength x_o_textLength x_o_position x_o_error x_o_errorAt x_o_errorOffset (.ref q_o_data) x_o_draft x_o_aside x_o_history x_o_undoDepth x_o_numberStart x_o_nesting x_o_seen x_o_toldPlanes x_o_stack x_o_facts o_thrown k1 (1 : Int32) _ h3) (cwV 2 hts gX7_noHole_X7_fails rfl rfl rfl kd_X7_fails ⟨Nat.le_of_ble_eq_true rfl, Nat.le_of_ble_eq_true rfl⟩) ⟨kP_blind (EN_ok D cy) D _ _ _, va_recv hK hP (ci := 7) (q0 := 0) rfl rfl, kStart (EN_ok D cy) hE hP hD hS hA [0] rfl rfl _⟩ rfl rfl hl.1 rfl (lv_room (Nat.le_of_ble_eq_true rfl)) dX7_noHole_23 ⟨Nat.zero_le _, Nat.zero_le _⟩) hP hD hS hA [0] [1] rfl rfl rfl 2 rfl (by decide +kernel) (fun H locs hP hD hS => ?_)
    obtain ⟨h4, hF⟩ := ck_o hF
    obtain rfl := so_o hF
    rw [hQQ]
    exact kr_z (v := r1) hx hb hr hlocks (by rcases h4 with h9 | h9 <;> rw [h9] <;> rfl) hP hD hS dX7_noHole_26
  have main : ∀ (H : Heap) (locs : List Loc) (ls : Array Slot), va_P D vwCl [(q_o, .inr (7, [.int o_thrown, x_o_buffer, x_o_bufferLength, x_o_textLength, x_o_position, x_o_error, x_o_errorAt, x_o_errorOffset, .ref q_o_data, x_o_draft, x_o_aside, x_o_history, x_o_undoDepth, x_o_numberStart, x_o_nesting, x_o_seen, x_o_toldPlanes, x_o_stack, x_o_facts])), (q_o_data, .inl (cy 0, 2243, .inl o_data))] H → va_D A [(q_o, .inr (7, [.int o_thrown, x_o_buffer, x_o_bufferLength, x_o_textLength, x_o_position, x_o_error, x_o_errorAt, x_o_errorOffset, .ref q_o_data, x_o_draft, x_o_aside, x_o_history, x_o_undoDepth, x_o_numberStart, x_o_nesting, x_o_seen, x_o_toldPlanes, x_o_stack, x_o_facts])), (q_o_data, .inl (cy 0, 2243, .inl o_data))] → va_S A s.heap H locs → lv_has ls 2 [(0, .ref q_o), (1, .int p1)] → W p l e ({ frames := 1, cells := 0, slots := 0, locals := 22 } : Room) s m args below meth c H locs 0 0 QQ (F0 m 0 ls []) := by
    intro H locs ls hP hD hS hl
    unfold X7_noHole at hF
    refine lv_aload_n hx hb dX7_noHole_0 rfl (lv_at hl 0 rfl) ?_
    refine lv_iload_n hx hb dX7_noHole_1 rfl (lv_at hl 1 rfl) ?_
    refine lv_iconst (v := 0) hx hb dX7_noHole_2 (by decide) ?_
    refine lv_aload_n hx hb dX7_noHole_3 rfl (lv_at hl 0 rfl) ?_
    refine va_get (D := D) (ci := 7) (v := .ref q_o_data) (C := RX7) (T := TX7) (N := 19) hx hb hts f_inX7 hown hK hP 0 rfl rfl 8 (by decide) f_f17 (fun _ h9 => h9) rfl dX7_noHole_4 ?_
    refine lv_iconst (v := 3) hx hb dX7_noHole_7 (by decide) ?_
    obtain ⟨h5, hF⟩ := ld_o hF
    refine va_iald hx hb hK hP 1 0 rfl rfl h5 dX7_noHole_8 ?_
    refine lv_topi (fun v6 ev6 => ?_)
    have hF := hF v6 ev6
    refine lv_iconst (v := 1) hx hb dX7_noHole_9 (by decide) ?_
    refine lv_isub hx hb dX7_noHole_10 ?_
    obtain ⟨r7, h8, hF⟩ := bn1_o hF
    refine kd_i [(q_o, .inr (7, [.int o_thrown, x_o_buffer, x_o_bufferLength, x_o_textLength, x_o_position, x_o_error, x_o_errorAt, x_o_errorOffset, .ref q_o_data, x_o_draft, x_o_aside, x_o_history, x_o_undoDepth, x_o_numberStart, x_o_nesting, x_o_seen, x_o_toldPlanes, x_o_stack, x_o_facts])), (q_o_data, .inl (cy 0, 2243, .inl o_data))] (va_runS (As := [.int p1, .int (0 : Int32), .int (v6 - (1 : Int32))]) (rest := [.ref q_o]) ⟨hx, hb, hml, hown, hts⟩ (c_X7_in H.size p1 (0 : Int32) (v6 - (1 : Int32)) _ h8) (va_cwS 3 hts gX7_noHole_X7_in rfl rfl rfl kd_X7_in ⟨Nat.le_of_ble_eq_true rfl, Nat.le_of_ble_eq_true rfl⟩) ⟨kP_blind (EN_ok D cy) D _ _ _, kStart (EN_ok D cy) hE hP hD hS hA [] rfl rfl _⟩ rfl rfl hl.1 rfl (lv_room (Nat.le_of_ble_eq_true rfl)) dX7_noHole_11 ⟨Nat.zero_le _, Nat.zero_le _⟩) hP hD hS hA [] [0, 1] rfl rfl rfl 2 rfl (by decide +kernel) (fun H locs hP hD hS => ?_)
    refine lv_if_ne (tgt := 21) hx hb dX7_noHole_14 (by decide) (fun c9 => ?_) (fun c9 => ?_)
    · have hF := if_n hF c9
      refine lv_iconst (v := 0) hx hb dX7_noHole_21 (by decide) ?_
      exact J22 (0 : Int32) H locs ls hP hD hS (lv_sub hl [] rfl) hF
    · have hF := if_p hF c9
      refine lv_iconst (v := 1) hx hb dX7_noHole_17 (by decide) ?_
      refine lv_goto (tgt := 22) hx hb dX7_noHole_18 (by decide) ?_
      exact J22 (1 : Int32) H locs ls hP hD hS (lv_sub hl [] rfl) hF
  exact main s.heap [] ls hP hD hS hl
theorem kd_X7_noViewer : yX7_noViewer.cls = RX7 ∧ yX7_noViewer.cls ≠ "java/lang/invoke/MethodHandle" ∧ yX7_noViewer.cls ≠ "java/lang/invoke/VarHandle" ∧ (parseMethodDescriptor yX7_noViewer.desc).map (fun d => d.parameters.length) = some 1 := by decide +kernel
set_option maxHeartbeats 4000000 in
set_option maxRecDepth 100000 in
theorem c_X7_noViewer {l : Launch} {D : va_G} {cy : Nat → ClassId} (q_o q_o_data : Nat) (sz : Nat) (x_o_buffer x_o_bufferLength x_o_textLength x_o_position x_o_error x_o_errorAt x_o_errorOffset x_o_draft x_o_aside x_o_history x_o_undoDepth x_o_numberStart x_o_nesting x_o_seen x_o_toldPlanes x_o_stack x_o_facts : Value) (o_thrown : Int32) (o_data : Nat → Int32) (p1 : Int32) (res : Int32 × Int32) (hF : X7_noViewer o_thrown o_data p1 = some res) : Met l yX7_noViewer wsX7_noViewer ({ frames := 1, cells := 0, slots := 0, locals := 22 } : Room) (kP (EN D cy) D [.ref q_o, .int p1] [(q_o, .inr (7, [.int o_thrown, x_o_buffer, x_o_bufferLength, x_o_textLength, x_o_position, x_o_error, x_o_errorAt, x_o_errorOffset, .ref q_o_data, x_o_draft, x_o_aside, x_o_history, x_o_undoDepth, x_o_numberStart, x_o_nesting, x_o_seen, x_o_toldPlanes, x_o_stack, x_o_facts])), (q_o_data, .inl (cy 0, 2243, .inl o_data))] sz) (kQi D res.1 [(q_o, .inr (7, [.int res.2, x_o_buffer, x_o_bufferLength, x_o_textLength, x_o_position, x_o_error, x_o_errorAt, x_o_errorOffset, .ref q_o_data, x_o_draft, x_o_aside, x_o_history, x_o_undoDepth, x_o_numberStart, x_o_nesting, x_o_seen, x_o_toldPlanes, x_o_stack, x_o_facts])), (q_o_data, .inl (cy 0, 2243, .inl o_data))] (va_A [(q_o, .inr (7, [.int o_thrown, x_o_buffer, x_o_bufferLength, x_o_textLength, x_o_position, x_o_error, x_o_errorAt, x_o_errorOffset, .ref q_o_data, x_o_draft, x_o_aside, x_o_history, x_o_undoDepth, x_o_numberStart, x_o_nesting, x_o_seen, x_o_toldPlanes, x_o_stack, x_o_facts])), (q_o_data, .inl (cy 0, 2243, .inl o_data))] sz)) 0 0 (va_A [(q_o, .inr (7, [.int o_thrown, x_o_buffer, x_o_bufferLength, x_o_textLength, x_o_position, x_o_error, x_o_errorAt, x_o_errorOffset, .ref q_o_data, x_o_draft, x_o_aside, x_o_history, x_o_undoDepth, x_o_numberStart, x_o_nesting, x_o_seen, x_o_toldPlanes, x_o_stack, x_o_facts])), (q_o_data, .inl (cy 0, 2243, .inl o_data))] sz) := by
  refine kMet (y := yX7_noViewer) (av := [.ref q_o, .int p1]) (cc := cX7_noViewer) (maxL := 2) (ret := some .boolean) (own := RX7) (Qc := fun A9 => (kQi D res.1 [(q_o, .inr (7, [.int res.2, x_o_buffer, x_o_bufferLength, x_o_textLength, x_o_position, x_o_error, x_o_errorAt, x_o_errorOffset, .ref q_o_data, x_o_draft, x_o_aside, x_o_history, x_o_undoDepth, x_o_numberStart, x_o_nesting, x_o_seen, x_o_toldPlanes, x_o_stack, x_o_facts])), (q_o_data, .inl (cy 0, 2243, .inl o_data))] A9)) (by decide) rfl rfl (Nat.le_of_ble_eq_true rfl) ?_
  intro p e s m args below meth c A hx hb hr hts hown hml hlocks hname hE hP hD hA hsz ls hl
  have hK := hE.1
  have hl : lv_has ls 2 [(0, .ref q_o), (1, .int p1)] := hl
  have hS : va_S A s.heap s.heap [] := va_S.rf
  have f_f17 := hts (.fieldLink RX7 17 "PeepBoxModel" "data" "[I") (by decide +kernel)
  have f_inX7 : ∀ w ∈ wsX70, w ∈ wsX7_noViewer := by decide +kernel
  obtain ⟨QQ, hQQ⟩ : ∃ Q9, Q9 = MQ below (kQi D res.1 [(q_o, .inr (7, [.int res.2, x_o_buffer, x_o_bufferLength, x_o_textLength, x_o_position, x_o_error, x_o_errorAt, x_o_errorOffset, .ref q_o_data, x_o_draft, x_o_aside, x_o_history, x_o_undoDepth, x_o_numberStart, x_o_nesting, x_o_seen, x_o_toldPlanes, x_o_stack, x_o_facts])), (q_o_data, .inl (cy 0, 2243, .inl o_data))] A) args s 0 0 A := ⟨_, rfl⟩
  rw [← hQQ]
  have J23 : ∀ (k1 : Int32) (H : Heap) (locs : List Loc) (ls : Array Slot), va_P D vwCl [(q_o, .inr (7, [.int o_thrown, x_o_buffer, x_o_bufferLength, x_o_textLength, x_o_position, x_o_error, x_o_errorAt, x_o_errorOffset, .ref q_o_data, x_o_draft, x_o_aside, x_o_history, x_o_undoDepth, x_o_numberStart, x_o_nesting, x_o_seen, x_o_toldPlanes, x_o_stack, x_o_facts])), (q_o_data, .inl (cy 0, 2243, .inl o_data))] H → va_D A [(q_o, .inr (7, [.int o_thrown, x_o_buffer, x_o_bufferLength, x_o_textLength, x_o_position, x_o_error, x_o_errorAt, x_o_errorOffset, .ref q_o_data, x_o_draft, x_o_aside, x_o_history, x_o_undoDepth, x_o_numberStart, x_o_nesting, x_o_seen, x_o_toldPlanes, x_o_stack, x_o_facts])), (q_o_data, .inl (cy 0, 2243, .inl o_data))] → va_S A s.heap H locs → lv_has ls 2 [] → X7_noViewer_J23 o_thrown o_data p1 k1 = some res → W p l e ({ frames := 1, cells := 0, slots := 0, locals := 22 } : Room) s m args below meth c H locs 0 0 QQ (F0 m 23 ls [.int k1, .ref q_o]) := by
    intro k1 H locs ls hP hD hS hl hF
    unfold X7_noViewer_J23 at hF
    refine lv_iconst (v := 1) hx hb dX7_noViewer_23 (by decide) ?_
    obtain ⟨r1, o2, h3, hF⟩ := bn2_o hF
    refine kd_i [(q_o, .inr (7, [.int o2, x_o_buffer, x_o_bufferLength, x_o_textLength, x_o_position, x_o_error, x_o_errorAt, x_o_errorOffset, .ref q_o_data, x_o_draft, x_o_aside, x_o_history, x_o_undoDepth, x_o_numberStart, x_o_nesting, x_o_seen, x_o_toldPlanes, x_o_stack, x_o_facts])), (q_o_data, .inl (cy 0, 2243, .inl o_data))] (va_runV (As := [.int k1, .int (1 : Int32)]) (rest := []) ⟨hx, hb, hml, hown, hts⟩ (c_X7_fails q_o H.size x_o_buffer x_o_bufferLength x_o_textLength x_o_position x_o_error x_o_errorAt x_o_errorOffset (.ref q_o_data) x_o_draft x_o_aside x_o_history x_o_undoDepth x_o_numberStart x_o_nesting x_o_seen x_o_toldPlanes x_o_stack x_o_facts o_thrown k1 (1 : Int32) _ h3) (cwV 2 hts gX7_noViewer_X7_fails rfl rfl rfl kd_X7_fails ⟨Nat.le_of_ble_eq_true rfl, Nat.le_of_ble_eq_true rfl⟩) ⟨kP_blind (EN_ok D cy) D _ _ _, va_recv hK hP (ci := 7) (q0 := 0) rfl rfl, kStart (EN_ok D cy) hE hP hD hS hA [0] rfl rfl _⟩ rfl rfl hl.1 rfl (lv_room (Nat.le_of_ble_eq_true rfl)) dX7_noViewer_24 ⟨Nat.zero_le _, Nat.zero_le _⟩) hP hD hS hA [0] [1] rfl rfl rfl 2 rfl (by decide +kernel) (fun H locs hP hD hS => ?_)
    obtain ⟨h4, hF⟩ := ck_o hF
    obtain rfl := so_o hF
    rw [hQQ]
    exact kr_z (v := r1) hx hb hr hlocks (by rcases h4 with h9 | h9 <;> rw [h9] <;> rfl) hP hD hS dX7_noViewer_27
  have main : ∀ (H : Heap) (locs : List Loc) (ls : Array Slot), va_P D vwCl [(q_o, .inr (7, [.int o_thrown, x_o_buffer, x_o_bufferLength, x_o_textLength, x_o_position, x_o_error, x_o_errorAt, x_o_errorOffset, .ref q_o_data, x_o_draft, x_o_aside, x_o_history, x_o_undoDepth, x_o_numberStart, x_o_nesting, x_o_seen, x_o_toldPlanes, x_o_stack, x_o_facts])), (q_o_data, .inl (cy 0, 2243, .inl o_data))] H → va_D A [(q_o, .inr (7, [.int o_thrown, x_o_buffer, x_o_bufferLength, x_o_textLength, x_o_position, x_o_error, x_o_errorAt, x_o_errorOffset, .ref q_o_data, x_o_draft, x_o_aside, x_o_history, x_o_undoDepth, x_o_numberStart, x_o_nesting, x_o_seen, x_o_toldPlanes, x_o_stack, x_o_facts])), (q_o_data, .inl (cy 0, 2243, .inl o_data))] → va_S A s.heap H locs → lv_has ls 2 [(0, .ref q_o), (1, .int p1)] → W p l e ({ frames := 1, cells := 0, slots := 0, locals := 22 } : Room) s m args below meth c H locs 0 0 QQ (F0 m 0 ls []) := by
    intro H locs ls hP hD hS hl
    unfold X7_noViewer at hF
    refine lv_aload_n hx hb dX7_noViewer_0 rfl (lv_at hl 0 rfl) ?_
    refine lv_iload_n hx hb dX7_noViewer_1 rfl (lv_at hl 1 rfl) ?_
    refine lv_iconst (v := 0) hx hb dX7_noViewer_2 (by decide) ?_
    refine lv_aload_n hx hb dX7_noViewer_3 rfl (lv_at hl 0 rfl) ?_
    refine va_get (D := D) (ci := 7) (v := .ref q_o_data) (C := RX7) (T := TX7) (N := 19) hx hb hts f_inX7 hown hK hP 0 rfl rfl 8 (by decide) f_f17 (fun _ h9 => h9) rfl dX7_noViewer_4 ?_
    refine lv_bipush (v := 7) hx hb dX7_noViewer_7 (by decide) ?_
    obtain ⟨h5, hF⟩ := ld_o hF
    refine va_iald hx hb hK hP 1 0 rfl rfl h5 dX7_noViewer_9 ?_
    refine lv_topi (fun v6 ev6 => ?_)
    have hF := hF v6 ev6
    refine lv_iconst (v := 1) hx hb dX7_noViewer_10 (by decide) ?_
    refine lv_isub hx hb dX7_noViewer_11 ?_
    obtain ⟨r7, h8, hF⟩ := bn1_o hF
    refine kd_i [(q_o, .inr (7, [.int o_thrown, x_o_buffer, x_o_bufferLength, x_o_textLength, x_o_position, x_o_error, x_o_errorAt, x_o_errorOffset, .ref q_o_data, x_o_draft, x_o_aside, x_o_history, x_o_undoDepth, x_o_numberStart, x_o_nesting, x_o_seen, x_o_toldPlanes, x_o_stack, x_o_facts])), (q_o_data, .inl (cy 0, 2243, .inl o_data))] (va_runS (As := [.int p1, .int (0 : Int32), .int (v6 - (1 : Int32))]) (rest := [.ref q_o]) ⟨hx, hb, hml, hown, hts⟩ (c_X7_in H.size p1 (0 : Int32) (v6 - (1 : Int32)) _ h8) (va_cwS 3 hts gX7_noViewer_X7_in rfl rfl rfl kd_X7_in ⟨Nat.le_of_ble_eq_true rfl, Nat.le_of_ble_eq_true rfl⟩) ⟨kP_blind (EN_ok D cy) D _ _ _, kStart (EN_ok D cy) hE hP hD hS hA [] rfl rfl _⟩ rfl rfl hl.1 rfl (lv_room (Nat.le_of_ble_eq_true rfl)) dX7_noViewer_12 ⟨Nat.zero_le _, Nat.zero_le _⟩) hP hD hS hA [] [0, 1] rfl rfl rfl 2 rfl (by decide +kernel) (fun H locs hP hD hS => ?_)
    refine lv_if_ne (tgt := 22) hx hb dX7_noViewer_15 (by decide) (fun c9 => ?_) (fun c9 => ?_)
    · have hF := if_n hF c9
      refine lv_iconst (v := 0) hx hb dX7_noViewer_22 (by decide) ?_
      exact J23 (0 : Int32) H locs ls hP hD hS (lv_sub hl [] rfl) hF
    · have hF := if_p hF c9
      refine lv_iconst (v := 1) hx hb dX7_noViewer_18 (by decide) ?_
      refine lv_goto (tgt := 23) hx hb dX7_noViewer_19 (by decide) ?_
      exact J23 (1 : Int32) H locs ls hP hD hS (lv_sub hl [] rfl) hF
  exact main s.heap [] ls hP hD hS hl
theorem kd_X7_stands : yX7_stands.cls = RX7 ∧ yX7_stands.cls ≠ "java/lang/invoke/MethodHandle" ∧ yX7_stands.cls ≠ "java/lang/invoke/VarHandle" ∧ (parseMethodDescriptor yX7_stands.desc).map (fun d => d.parameters.length) = some 3 := by decide +kernel
set_option maxHeartbeats 4000000 in
set_option maxRecDepth 100000 in
theorem c_X7_stands {l : Launch} {D : va_G} {cy : Nat → ClassId} (q_o q_o_data : Nat) (sz : Nat) (x_o_buffer x_o_bufferLength x_o_textLength x_o_position x_o_error x_o_errorAt x_o_errorOffset x_o_draft x_o_aside x_o_history x_o_undoDepth x_o_numberStart x_o_nesting x_o_seen x_o_toldPlanes x_o_stack x_o_facts : Value) (o_thrown : Int32) (o_data : Nat → Int32) (p1 : Int32) (p2 : Int32) (p3 : Int32) (res : Int32 × Int32) (hF : X7_stands o_thrown o_data p1 p2 p3 = some res) : Met l yX7_stands wsX7_stands ({ frames := 2, cells := 0, slots := 0, locals := 44 } : Room) (kP (EN D cy) D [.ref q_o, .int p1, .int p2, .int p3] [(q_o, .inr (7, [.int o_thrown, x_o_buffer, x_o_bufferLength, x_o_textLength, x_o_position, x_o_error, x_o_errorAt, x_o_errorOffset, .ref q_o_data, x_o_draft, x_o_aside, x_o_history, x_o_undoDepth, x_o_numberStart, x_o_nesting, x_o_seen, x_o_toldPlanes, x_o_stack, x_o_facts])), (q_o_data, .inl (cy 0, 2243, .inl o_data))] sz) (kQi D res.1 [(q_o, .inr (7, [.int res.2, x_o_buffer, x_o_bufferLength, x_o_textLength, x_o_position, x_o_error, x_o_errorAt, x_o_errorOffset, .ref q_o_data, x_o_draft, x_o_aside, x_o_history, x_o_undoDepth, x_o_numberStart, x_o_nesting, x_o_seen, x_o_toldPlanes, x_o_stack, x_o_facts])), (q_o_data, .inl (cy 0, 2243, .inl o_data))] (va_A [(q_o, .inr (7, [.int o_thrown, x_o_buffer, x_o_bufferLength, x_o_textLength, x_o_position, x_o_error, x_o_errorAt, x_o_errorOffset, .ref q_o_data, x_o_draft, x_o_aside, x_o_history, x_o_undoDepth, x_o_numberStart, x_o_nesting, x_o_seen, x_o_toldPlanes, x_o_stack, x_o_facts])), (q_o_data, .inl (cy 0, 2243, .inl o_data))] sz)) 0 0 (va_A [(q_o, .inr (7, [.int o_thrown, x_o_buffer, x_o_bufferLength, x_o_textLength, x_o_position, x_o_error, x_o_errorAt, x_o_errorOffset, .ref q_o_data, x_o_draft, x_o_aside, x_o_history, x_o_undoDepth, x_o_numberStart, x_o_nesting, x_o_seen, x_o_toldPlanes, x_o_stack, x_o_facts])), (q_o_data, .inl (cy 0, 2243, .inl o_data))] sz) := by
  refine kMet (y := yX7_stands) (av := [.ref q_o, .int p1, .int p2, .int p3]) (cc := cX7_stands) (maxL := 4) (ret := some .int) (own := RX7) (Qc := fun A9 => (kQi D res.1 [(q_o, .inr (7, [.int res.2, x_o_buffer, x_o_bufferLength, x_o_textLength, x_o_position, x_o_error, x_o_errorAt, x_o_errorOffset, .ref q_o_data, x_o_draft, x_o_aside, x_o_history, x_o_undoDepth, x_o_numberStart, x_o_nesting, x_o_seen, x_o_toldPlanes, x_o_stack, x_o_facts])), (q_o_data, .inl (cy 0, 2243, .inl o_data))] A9)) (by decide) rfl rfl (Nat.le_of_ble_eq_true rfl) ?_
  intro p e s m args below meth c A hx hb hr hts hown hml hlocks hname hE hP hD hA hsz ls hl
  have hK := hE.1
  have hl : lv_has ls 4 [(0, .ref q_o), (1, .int p1), (2, .int p2), (3, .int p3)] := hl
  have hS : va_S A s.heap s.heap [] := va_S.rf
  have f_f42 := hts (.fieldLink RX7 42 "PeepBoxModel" "thrown" "I") (by decide +kernel)
  have f_inX7 : ∀ w ∈ wsX70, w ∈ wsX7_stands := by decide +kernel
  obtain ⟨QQ, hQQ⟩ : ∃ Q9, Q9 = MQ below (kQi D res.1 [(q_o, .inr (7, [.int res.2, x_o_buffer, x_o_bufferLength, x_o_textLength, x_o_position, x_o_error, x_o_errorAt, x_o_errorOffset, .ref q_o_data, x_o_draft, x_o_aside, x_o_history, x_o_undoDepth, x_o_numberStart, x_o_nesting, x_o_seen, x_o_toldPlanes, x_o_stack, x_o_facts])), (q_o_data, .inl (cy 0, 2243, .inl o_data))] A) args s 0 0 A := ⟨_, rfl⟩
  rw [← hQQ]
  have J22 : ∀ (o_thrown : Int32) (H : Heap) (locs : List Loc) (ls : Array Slot), va_P D vwCl [(q_o, .inr (7, [.int o_thrown, x_o_buffer, x_o_bufferLength, x_o_textLength, x_o_position, x_o_error, x_o_errorAt, x_o_errorOffset, .ref q_o_data, x_o_draft, x_o_aside, x_o_history, x_o_undoDepth, x_o_numberStart, x_o_nesting, x_o_seen, x_o_toldPlanes, x_o_stack, x_o_facts])), (q_o_data, .inl (cy 0, 2243, .inl o_data))] H → va_D A [(q_o, .inr (7, [.int o_thrown, x_o_buffer, x_o_bufferLength, x_o_textLength, x_o_position, x_o_error, x_o_errorAt, x_o_errorOffset, .ref q_o_data, x_o_draft, x_o_aside, x_o_history, x_o_undoDepth, x_o_numberStart, x_o_nesting, x_o_seen, x_o_toldPlanes, x_o_stack, x_o_facts])), (q_o_data, .inl (cy 0, 2243, .inl o_data))] → va_S A s.heap H locs → lv_has ls 4 [] → X7_stands_J22 o_data p1 p2 p3 o_thrown = some res → W p l e ({ frames := 2, cells := 0, slots := 0, locals := 44 } : Room) s m args below meth c H locs 0 0 QQ (F0 m 22 ls []) := by
    intro o_thrown H locs ls hP hD hS hl hF
    unfold X7_stands_J22 at hF
    refine lv_iconst (v := 0) hx hb dX7_stands_22 (by decide) ?_
    refine lv_goto (tgt := 33) hx hb dX7_stands_23 (by decide) ?_
    obtain rfl := so_o hF
    rw [hQQ]
    exact kr_i hx hb hr hlocks hP hD hS dX7_stands_33
  have main : ∀ (H : Heap) (locs : List Loc) (ls : Array Slot), va_P D vwCl [(q_o, .inr (7, [.int o_thrown, x_o_buffer, x_o_bufferLength, x_o_textLength, x_o_position, x_o_error, x_o_errorAt, x_o_errorOffset, .ref q_o_data, x_o_draft, x_o_aside, x_o_history, x_o_undoDepth, x_o_numberStart, x_o_nesting, x_o_seen, x_o_toldPlanes, x_o_stack, x_o_facts])), (q_o_data, .inl (cy 0, 2243, .inl o_data))] H → va_D A [(q_o, .inr (7, [.int o_thrown, x_o_buffer, x_o_bufferLength, x_o_textLength, x_o_position, x_o_error, x_o_errorAt, x_o_errorOffset, .ref q_o_data, x_o_draft, x_o_aside, x_o_history, x_o_undoDepth, x_o_numberStart, x_o_nesting, x_o_seen, x_o_toldPlanes, x_o_stack, x_o_facts])), (q_o_data, .inl (cy 0, 2243, .inl o_data))] → va_S A s.heap H locs → lv_has ls 4 [(0, .ref q_o), (1, .int p1), (2, .int p2), (3, .int p3)] → W p l e ({ frames := 2, cells := 0, slots := 0, locals := 44 } : Room) s m args below meth c H locs 0 0 QQ (F0 m 0 ls []) := by
    intro H locs ls hP hD hS hl
    unfold X7_stands at hF
    refine lv_aload_n hx hb dX7_stands_0 rfl (lv_at hl 0 rfl) ?_
    refine lv_iconst (v := 0) hx hb dX7_stands_1 (by decide) ?_
    refine va_put (D := D) (ci := 7) (v := .int (0 : Int32)) (ty := .int) (C := RX7) (T := TX7) (N := 19) hx hb hts f_inX7 tyX7 tyX7_ok nmX7 hown hK hP hD hS 0 rfl rfl 0 (by decide) f_f42 (fun _ h9 => h9) rfl (by decide +kernel) rfl rfl (Nat.le_of_ble_eq_true rfl) dX7_stands_2 (fun H locs hP hD hS => ?_)
    have hP : va_P D vwCl [(q_o, .inr (7, [.int (0 : Int32), x_o_buffer, x_o_bufferLength, x_o_textLength, x_o_position, x_o_error, x_o_errorAt, x_o_errorOffset, .ref q_o_data, x_o_draft, x_o_aside, x_o_history, x_o_undoDepth, x_o_numberStart, x_o_nesting, x_o_seen, x_o_toldPlanes, x_o_stack, x_o_facts])), (q_o_data, .inl (cy 0, 2243, .inl o_data))] H := hP
    have hD : va_D A [(q_o, .inr (7, [.int (0 : Int32), x_o_buffer, x_o_bufferLength, x_o_textLength, x_o_position, x_o_error, x_o_errorAt, x_o_errorOffset, .ref q_o_data, x_o_draft, x_o_aside, x_o_history, x_o_undoDepth, x_o_numberStart, x_o_nesting, x_o_seen, x_o_toldPlanes, x_o_stack, x_o_facts])), (q_o_data, .inl (cy 0, 2243, .inl o_data))] := hD
    refine lv_aload_n hx hb dX7_stands_5 rfl (lv_at hl 0 rfl) ?_
    refine lv_iload_n hx hb dX7_stands_6 rfl (lv_at hl 1 rfl) ?_
    obtain ⟨r1, o2, h3, hF⟩ := bn2_o hF
    refine kd_i [(q_o, .inr (7, [.int o2, x_o_buffer, x_o_bufferLength, x_o_textLength, x_o_position, x_o_error, x_o_errorAt, x_o_errorOffset, .ref q_o_data, x_o_draft, x_o_aside, x_o_history, x_o_undoDepth, x_o_numberStart, x_o_nesting, x_o_seen, x_o_toldPlanes, x_o_stack, x_o_facts])), (q_o_data, .inl (cy 0, 2243, .inl o_data))] (va_runV (As := [.int p1]) (rest := []) ⟨hx, hb, hml, hown, hts⟩ (c_X7_noPlane q_o q_o_data H.size x_o_buffer x_o_bufferLength x_o_textLength x_o_position x_o_error x_o_errorAt x_o_errorOffset x_o_draft x_o_aside x_o_history x_o_undoDepth x_o_numberStart x_o_nesting x_o_seen x_o_toldPlanes x_o_stack x_o_facts (0 : Int32) o_data p1 _ h3) (cwV 1 hts gX7_stands_X7_noPlane rfl rfl rfl kd_X7_noPlane ⟨Nat.le_of_ble_eq_true rfl, Nat.le_of_ble_eq_true rfl⟩) ⟨kP_blind (EN_ok D cy) D _ _ _, va_recv hK hP (ci := 7) (q0 := 0) rfl rfl, kStart (EN_ok D cy) hE hP hD hS hA [0, 1] rfl rfl _⟩ rfl rfl hl.1 rfl (lv_room (Nat.le_of_ble_eq_true rfl)) dX7_stands_7 ⟨Nat.zero_le _, Nat.zero_le _⟩) hP hD hS hA [0, 1] [] rfl rfl rfl 2 rfl (by decide +kernel) (fun H locs hP hD hS => ?_)
    refine lv_if_ne (tgt := 22) hx hb dX7_stands_10 (by decide) (fun c4 => ?_) (fun c4 => ?_)
    · have hF := if_n hF c4
      exact J22 o2 H locs ls hP hD hS (lv_sub hl [] rfl) hF
    · have hF := if_p hF c4
      refine lv_aload_n hx hb dX7_stands_13 rfl (lv_at hl 0 rfl) ?_
      refine lv_iload_n hx hb dX7_stands_14 rfl (lv_at hl 2 rfl) ?_
      refine lv_iload_n hx hb dX7_stands_15 rfl (lv_at hl 3 rfl) ?_
      obtain ⟨r5, o6, h7, hF⟩ := bn2_o hF
      refine kd_i [(q_o, .inr (7, [.int o6, x_o_buffer, x_o_bufferLength, x_o_textLength, x_o_position, x_o_error, x_o_errorAt, x_o_errorOffset, .ref q_o_data, x_o_draft, x_o_aside, x_o_history, x_o_undoDepth, x_o_numberStart, x_o_nesting, x_o_seen, x_o_toldPlanes, x_o_stack, x_o_facts])), (q_o_data, .inl (cy 0, 2243, .inl o_data))] (va_runV (As := [.int p2, .int p3]) (rest := []) ⟨hx, hb, hml, hown, hts⟩ (c_X7_noCell q_o q_o_data H.size x_o_buffer x_o_bufferLength x_o_textLength x_o_position x_o_error x_o_errorAt x_o_errorOffset x_o_draft x_o_aside x_o_history x_o_undoDepth x_o_numberStart x_o_nesting x_o_seen x_o_toldPlanes x_o_stack x_o_facts o2 o_data p2 p3 _ h7) (cwV 2 hts gX7_stands_X7_noCell rfl rfl rfl kd_X7_noCell ⟨Nat.le_of_ble_eq_true rfl, Nat.le_of_ble_eq_true rfl⟩) ⟨kP_blind (EN_ok D cy) D _ _ _, va_recv hK hP (ci := 7) (q0 := 0) rfl rfl, kStart (EN_ok D cy) hE hP hD hS hA [0, 1] rfl rfl _⟩ rfl rfl hl.1 rfl (lv_room (Nat.le_of_ble_eq_true rfl)) dX7_stands_16 ⟨Nat.zero_le _, Nat.zero_le _⟩) hP hD hS hA [0, 1] [] rfl rfl rfl 2 rfl (by decide +kernel) (fun H locs hP hD hS => ?_)
      refine lv_if_eq (tgt := 26) hx hb dX7_stands_19 (by decide) (fun c8 => ?_) (fun c8 => ?_)
      · have hF := if_p hF c8
        refine lv_aload_n hx hb dX7_stands_26 rfl (lv_at hl 0 rfl) ?_
        refine lv_iload_n hx hb dX7_stands_27 rfl (lv_at hl 1 rfl) ?_
        refine lv_iload_n hx hb dX7_stands_28 rfl (lv_at hl 2 rfl) ?_
        refine lv_iload_n hx hb dX7_stands_29 rfl (lv_at hl 3 rfl) ?_
        obtain ⟨r9, h10, hF⟩ := bn1_o hF
        refine kd_i [(q_o, .inr (7, [.int o6, x_o_buffer, x_o_bufferLength, x_o_textLength, x_o_position, x_o_error, x_o_errorAt, x_o_errorOffset, .ref q_o_data, x_o_draft, x_o_aside, x_o_history, x_o_undoDepth, x_o_numberStart, x_o_nesting, x_o_seen, x_o_toldPlanes, x_o_stack, x_o_facts])), (q_o_data, .inl (cy 0, 2243, .inl o_data))] (va_runV (As := [.int p1, .int p2, .int p3]) (rest := []) ⟨hx, hb, hml, hown, hts⟩ (c_X7_kindAt q_o q_o_data H.size (.int o6) x_o_buffer x_o_bufferLength x_o_textLength x_o_position x_o_error x_o_errorAt x_o_errorOffset x_o_draft x_o_aside x_o_history x_o_undoDepth x_o_numberStart x_o_nesting x_o_seen x_o_toldPlanes x_o_stack x_o_facts o_data p1 p2 p3 _ h10) (cwV 3 hts gX7_stands_X7_kindAt rfl rfl rfl kd_X7_kindAt ⟨Nat.le_of_ble_eq_true rfl, Nat.le_of_ble_eq_true rfl⟩) ⟨kP_blind (EN_ok D cy) D _ _ _, va_recv hK hP (ci := 7) (q0 := 0) rfl rfl, kStart (EN_ok D cy) hE hP hD hS hA [0, 1] rfl rfl _⟩ rfl rfl hl.1 rfl (lv_room (Nat.le_of_ble_eq_true rfl)) dX7_stands_30 ⟨Nat.zero_le _, Nat.zero_le _⟩) hP hD hS hA [0, 1] [] rfl rfl rfl 2 rfl (by decide +kernel) (fun H locs hP hD hS => ?_)
        obtain rfl := so_o hF
        rw [hQQ]
        exact kr_i hx hb hr hlocks hP hD hS dX7_stands_33
      · have hF := if_n hF c8
        exact J22 o6 H locs ls hP hD hS (lv_sub hl [] rfl) hF
  exact main s.heap [] ls hP hD hS hl
theorem kd_X7_toldPlane : yX7_toldPlane.cls = RX7 ∧ yX7_toldPlane.cls ≠ "java/lang/invoke/MethodHandle" ∧ yX7_toldPlane.cls ≠ "java/lang/invoke/VarHandle" ∧ (parseMethodDescriptor yX7_toldPlane.desc).map (fun d => d.parameters.length) = some 2 := by decide +kernel
set_option maxHeartbeats 4000000 in
set_option maxRecDepth 100000 in
theorem c_X7_toldPlane {l : Launch} {D : va_G} {cy : Nat → ClassId} (q_o q_o_data : Nat) (sz : Nat) (x_o_thrown x_o_buffer x_o_bufferLength x_o_textLength x_o_position x_o_error x_o_errorAt x_o_errorOffset x_o_draft x_o_aside x_o_history x_o_undoDepth x_o_numberStart x_o_nesting x_o_seen x_o_toldPlanes x_o_stack x_o_facts : Value) (o_data : Nat → Int32) (p1 : Int32) (p2 : Int32) (res : Int32) (hF : X7_toldPlane o_data p1 p2 = some res) : Met l yX7_toldPlane wsX7_toldPlane ({ frames := 3, cells := 0, slots := 0, locals := 67 } : Room) (kP (EN D cy) D [.ref q_o, .int p1, .int p2] [(q_o, .inr (7, [x_o_thrown, x_o_buffer, x_o_bufferLength, x_o_textLength, x_o_position, x_o_error, x_o_errorAt, x_o_errorOffset, .ref q_o_data, x_o_draft, x_o_aside, x_o_history, x_o_undoDepth, x_o_numberStart, x_o_nesting, x_o_seen, x_o_toldPlanes, x_o_stack, x_o_facts])), (q_o_data, .inl (cy 0, 2243, .inl o_data))] sz) (kQi D res [(q_o, .inr (7, [x_o_thrown, x_o_buffer, x_o_bufferLength, x_o_textLength, x_o_position, x_o_error, x_o_errorAt, x_o_errorOffset, .ref q_o_data, x_o_draft, x_o_aside, x_o_history, x_o_undoDepth, x_o_numberStart, x_o_nesting, x_o_seen, x_o_toldPlanes, x_o_stack, x_o_facts])), (q_o_data, .inl (cy 0, 2243, .inl o_data))] (va_A [(q_o, .inr (7, [x_o_thrown, x_o_buffer, x_o_bufferLength, x_o_textLength, x_o_position, x_o_error, x_o_errorAt, x_o_errorOffset, .ref q_o_data, x_o_draft, x_o_aside, x_o_history, x_o_undoDepth, x_o_numberStart, x_o_nesting, x_o_seen, x_o_toldPlanes, x_o_stack, x_o_facts])), (q_o_data, .inl (cy 0, 2243, .inl o_data))] sz)) 0 0 (va_A [(q_o, .inr (7, [x_o_thrown, x_o_buffer, x_o_bufferLength, x_o_textLength, x_o_position, x_o_error, x_o_errorAt, x_o_errorOffset, .ref q_o_data, x_o_draft, x_o_aside, x_o_history, x_o_undoDepth, x_o_numberStart, x_o_nesting, x_o_seen, x_o_toldPlanes, x_o_stack, x_o_facts])), (q_o_data, .inl (cy 0, 2243, .inl o_data))] sz) := by
  refine kMet (y := yX7_toldPlane) (av := [.ref q_o, .int p1, .int p2]) (cc := cX7_toldPlane) (maxL := 6) (ret := some .int) (own := RX7) (Qc := fun A9 => (kQi D res [(q_o, .inr (7, [x_o_thrown, x_o_buffer, x_o_bufferLength, x_o_textLength, x_o_position, x_o_error, x_o_errorAt, x_o_errorOffset, .ref q_o_data, x_o_draft, x_o_aside, x_o_history, x_o_undoDepth, x_o_numberStart, x_o_nesting, x_o_seen, x_o_toldPlanes, x_o_stack, x_o_facts])), (q_o_data, .inl (cy 0, 2243, .inl o_data))] A9)) (by decide) rfl rfl (Nat.le_of_ble_eq_true rfl) ?_
  intro p e s m args below meth c A hx hb hr hts hown hml hlocks hname hE hP hD hA hsz ls hl
  have hK := hE.1
  have hl : lv_has ls 6 [(0, .ref q_o), (1, .int p1), (2, .int p2)] := hl
  have hS : va_S A s.heap s.heap [] := va_S.rf
  have f_f17 := hts (.fieldLink RX7 17 "PeepBoxModel" "data" "[I") (by decide +kernel)
  have f_inX7 : ∀ w ∈ wsX70, w ∈ wsX7_toldPlane := by decide +kernel
  obtain ⟨QQ, hQQ⟩ : ∃ Q9, Q9 = MQ below (kQi D res [(q_o, .inr (7, [x_o_thrown, x_o_buffer, x_o_bufferLength, x_o_textLength, x_o_position, x_o_error, x_o_errorAt, x_o_errorOffset, .ref q_o_data, x_o_draft, x_o_aside, x_o_history, x_o_undoDepth, x_o_numberStart, x_o_nesting, x_o_seen, x_o_toldPlanes, x_o_stack, x_o_facts])), (q_o_data, .inl (cy 0, 2243, .inl o_data))] A) args s 0 0 A := ⟨_, rfl⟩
  rw [← hQQ]
  have J77 : ∀ (n77 : Nat) (l3 : Int32) (l4 : Int32) (H : Heap) (locs : List Loc) (ls : Array Slot), va_P D vwCl [(q_o, .inr (7, [x_o_thrown, x_o_buffer, x_o_bufferLength, x_o_textLength, x_o_position, x_o_error, x_o_errorAt, x_o_errorOffset, .ref q_o_data, x_o_draft, x_o_aside, x_o_history, x_o_undoDepth, x_o_numberStart, x_o_nesting, x_o_seen, x_o_toldPlanes, x_o_stack, x_o_facts])), (q_o_data, .inl (cy 0, 2243, .inl o_data))] H → va_D A [(q_o, .inr (7, [x_o_thrown, x_o_buffer, x_o_bufferLength, x_o_textLength, x_o_position, x_o_error, x_o_errorAt, x_o_errorOffset, .ref q_o_data, x_o_draft, x_o_aside, x_o_history, x_o_undoDepth, x_o_numberStart, x_o_nesting, x_o_seen, x_o_toldPlanes, x_o_stack, x_o_facts])), (q_o_data, .inl (cy 0, 2243, .inl o_data))] → va_S A s.heap H locs → lv_has ls 6 [(0, .ref q_o), (1, .int p1), (2, .int p2), (3, .int l3), (4, .int l4)] → X7_toldPlane_L77 o_data p1 p2 n77 l3 l4 = some res → W p l e ({ frames := 3, cells := 0, slots := 0, locals := 67 } : Room) s m args below meth c H locs 0 0 QQ (F0 m 77 ls []) := by
    intro n77
    induction n77 with
    | zero =>
      intro l3 l4 H locs ls hP hD hS hl hF
      rw [X7_toldPlane_L77] at hF
      cases hF
    | succ n77 ih77 =>
      have J96 : ∀ (n96 : Nat) (l3 : Int32) (l4 : Int32) (l5 : Int32) (H : Heap) (locs : List Loc) (ls : Array Slot), va_P D vwCl [(q_o, .inr (7, [x_o_thrown, x_o_buffer, x_o_bufferLength, x_o_textLength, x_o_position, x_o_error, x_o_errorAt, x_o_errorOffset, .ref q_o_data, x_o_draft, x_o_aside, x_o_history, x_o_undoDepth, x_o_numberStart, x_o_nesting, x_o_seen, x_o_toldPlanes, x_o_stack, x_o_facts])), (q_o_data, .inl (cy 0, 2243, .inl o_data))] H → va_D A [(q_o, .inr (7, [x_o_thrown, x_o_buffer, x_o_bufferLength, x_o_textLength, x_o_position, x_o_error, x_o_errorAt, x_o_errorOffset, .ref q_o_data, x_o_draft, x_o_aside, x_o_history, x_o_undoDepth, x_o_numberStart, x_o_nesting, x_o_seen, x_o_toldPlanes, x_o_stack, x_o_facts])), (q_o_data, .inl (cy 0, 2243, .inl o_data))] → va_S A s.heap H locs → lv_has ls 6 [(0, .ref q_o), (1, .int p1), (2, .int p2), (3, .int l3), (4, .int l4), (5, .int l5)] → X7_toldPlane_L96 o_data p1 p2 (fun z0 z1 => X7_toldPlane_L77 o_data p1 p2 n77 z0 z1) n96 l3 l4 l5 = some res → W p l e ({ frames := 3, cells := 0, slots := 0, locals := 67 } : Room) s m args below meth c H locs 0 0 QQ (F0 m 96 ls []) := by
        intro n96
        induction n96 with
        | zero =>
          intro l3 l4 l5 H locs ls hP hD hS hl hF
          rw [X7_toldPlane_L96] at hF
          cases hF
        | succ n96 ih96 =>
          have J123 : ∀ (l4 : Int32) (l5 : Int32) (k0 : Int32) (k1 : Int32) (H : Heap) (locs : List Loc) (ls : Array Slot), va_P D vwCl [(q_o, .inr (7, [x_o_thrown, x_o_buffer, x_o_bufferLength, x_o_textLength, x_o_position, x_o_error, x_o_errorAt, x_o_errorOffset, .ref q_o_data, x_o_draft, x_o_aside, x_o_history, x_o_undoDepth, x_o_numberStart, x_o_nesting, x_o_seen, x_o_toldPlanes, x_o_stack, x_o_facts])), (q_o_data, .inl (cy 0, 2243, .inl o_data))] H → va_D A [(q_o, .inr (7, [x_o_thrown, x_o_buffer, x_o_bufferLength, x_o_textLength, x_o_position, x_o_error, x_o_errorAt, x_o_errorOffset, .ref q_o_data, x_o_draft, x_o_aside, x_o_history, x_o_undoDepth, x_o_numberStart, x_o_nesting, x_o_seen, x_o_toldPlanes, x_o_stack, x_o_facts])), (q_o_data, .inl (cy 0, 2243, .inl o_data))] → va_S A s.heap H locs → lv_has ls 6 [(0, .ref q_o), (1, .int p1), (2, .int p2), (4, .int l4), (5, .int l5)] → X7_toldPlane_J123 o_data p1 p2 (fun z0 z1 => X7_toldPlane_L77 o_data p1 p2 n77 z0 z1) (fun z0 z1 z2 => X7_toldPlane_L96 o_data p1 p2 (fun z0 z1 => X7_toldPlane_L77 o_data p1 p2 n77 z0 z1) n96 z0 z1 z2) l4 l5 k0 k1 = some res → W p l e ({ frames := 3, cells := 0, slots := 0, locals := 67 } : Room) s m args below meth c H locs 0 0 QQ (F0 m 123 ls [.int k1, .int k0]) := by
            intro l4 l5 k0 k1 H locs ls hP hD hS hl hF
            unfold X7_toldPlane_J123 at hF
            refine lv_iadd hx hb dX7_toldPlane_123 ?_
            refine lv_topi (fun v1 ev1 => ?_)
            have hF := nm_o hF v1 ev1
            refine lv_istore_n (lv' := [(3, .int v1), (0, .ref q_o), (1, .int p1), (2, .int p2), (4, .int l4), (5, .int l5)]) hx hb dX7_toldPlane_124 rfl hl (by decide) rfl (fun ls hl => ?_)
            obtain ⟨v2, ev2⟩ : ∃ y : Int32, y = l5 + (1 : Int32) := ⟨_, rfl⟩
            have hF := nm_o hF v2 ev2
            refine lv_iinc (v := v2) (lv' := [(5, .int v2), (3, .int v1), (0, .ref q_o), (1, .int p1), (2, .int p2), (4, .int l4)]) hx hb dX7_toldPlane_125 hl (k := 5) rfl (by rw [ev2]; rfl) (by decide) rfl (fun ls hl => ?_)
            refine lv_goto (tgt := 96) hx hb dX7_toldPlane_128 (by decide) ?_
            exact ih96 v1 l4 v2 H locs ls hP hD hS (lv_sub hl [2, 3, 4, 1, 5, 0] rfl) hF
          intro l3 l4 l5 H locs ls hP hD hS hl hF
          rw [X7_toldPlane_L96] at hF
          refine lv_iload hx hb dX7_toldPlane_96 (lv_at hl 5 rfl) ?_
          refine lv_aload_n hx hb dX7_toldPlane_98 rfl (lv_at hl 0 rfl) ?_
          obtain ⟨r3, h4, hF⟩ := bn1_o hF
          refine kd_i [(q_o, .inr (7, [x_o_thrown, x_o_buffer, x_o_bufferLength, x_o_textLength, x_o_position, x_o_error, x_o_errorAt, x_o_errorOffset, .ref q_o_data, x_o_draft, x_o_aside, x_o_history, x_o_undoDepth, x_o_numberStart, x_o_nesting, x_o_seen, x_o_toldPlanes, x_o_stack, x_o_facts])), (q_o_data, .inl (cy 0, 2243, .inl o_data))] (va_runV (As := []) (rest := [.int l5]) ⟨hx, hb, hml, hown, hts⟩ (c_X7_cells q_o q_o_data H.size x_o_thrown x_o_buffer x_o_bufferLength x_o_textLength x_o_position x_o_error x_o_errorAt x_o_errorOffset x_o_draft x_o_aside x_o_history x_o_undoDepth x_o_numberStart x_o_nesting x_o_seen x_o_toldPlanes x_o_stack x_o_facts o_data _ h4) (cwV 0 hts gX7_toldPlane_X7_cells rfl rfl rfl kd_X7_cells ⟨Nat.le_of_ble_eq_true rfl, Nat.le_of_ble_eq_true rfl⟩) ⟨kP_blind (EN_ok D cy) D _ _ _, va_recv hK hP (ci := 7) (q0 := 0) rfl rfl, kStart (EN_ok D cy) hE hP hD hS hA [0, 1] rfl rfl _⟩ rfl rfl hl.1 rfl (lv_room (Nat.le_of_ble_eq_true rfl)) dX7_toldPlane_99 ⟨Nat.zero_le _, Nat.zero_le _⟩) hP hD hS hA [0, 1] [] rfl rfl rfl 2 rfl (by decide +kernel) (fun H locs hP hD hS => ?_)
          refine lv_icmp_ge (tgt := 131) hx hb dX7_toldPlane_102 (by decide) (fun c5 => ?_) (fun c5 => ?_)
          · have hF := if_p hF c5
            obtain ⟨v6, ev6⟩ : ∃ y : Int32, y = l4 + (1 : Int32) := ⟨_, rfl⟩
            have hF := nm_o hF v6 ev6
            refine lv_iinc (v := v6) (lv' := [(4, .int v6), (0, .ref q_o), (1, .int p1), (2, .int p2), (3, .int l3), (5, .int l5)]) hx hb dX7_toldPlane_131 hl (k := 4) rfl (by rw [ev6]; rfl) (by decide) rfl (fun ls hl => ?_)
            refine lv_goto (tgt := 77) hx hb dX7_toldPlane_134 (by decide) ?_
            exact ih77 l3 v6 H locs ls hP hD hS (lv_sub hl [1, 2, 3, 4, 0] rfl) hF
          · have hF := if_n hF c5
            refine lv_iload_n hx hb dX7_toldPlane_105 rfl (lv_at hl 3 rfl) ?_
            refine lv_aload_n hx hb dX7_toldPlane_106 rfl (lv_at hl 0 rfl) ?_
            refine lv_iload hx hb dX7_toldPlane_107 (lv_at hl 4 rfl) ?_
            refine lv_iload hx hb dX7_toldPlane_109 (lv_at hl 5 rfl) ?_
            obtain ⟨r7, h8, hF⟩ := bn1_o hF
            refine kd_i [(q_o, .inr (7, [x_o_thrown, x_o_buffer, x_o_bufferLength, x_o_textLength, x_o_position, x_o_error, x_o_errorAt, x_o_errorOffset, .ref q_o_data, x_o_draft, x_o_aside, x_o_history, x_o_undoDepth, x_o_numberStart, x_o_nesting, x_o_seen, x_o_toldPlanes, x_o_stack, x_o_facts])), (q_o_data, .inl (cy 0, 2243, .inl o_data))] (va_runV (As := [.int l4, .int l5]) (rest := [.int l3]) ⟨hx, hb, hml, hown, hts⟩ (c_X7_planeSeen q_o q_o_data H.size x_o_thrown x_o_buffer x_o_bufferLength x_o_textLength x_o_position x_o_error x_o_errorAt x_o_errorOffset x_o_draft x_o_aside x_o_history x_o_undoDepth x_o_numberStart x_o_nesting x_o_seen x_o_toldPlanes x_o_stack x_o_facts o_data l4 l5 _ h8) (cwV 2 hts gX7_toldPlane_X7_planeSeen rfl rfl rfl kd_X7_planeSeen ⟨Nat.le_of_ble_eq_true rfl, Nat.le_of_ble_eq_true rfl⟩) ⟨kP_blind (EN_ok D cy) D _ _ _, va_recv hK hP (ci := 7) (q0 := 0) rfl rfl, kStart (EN_ok D cy) hE hP hD hS hA [0, 1] rfl rfl _⟩ rfl rfl hl.1 rfl (lv_room (Nat.le_of_ble_eq_true rfl)) dX7_toldPlane_111 ⟨Nat.zero_le _, Nat.zero_le _⟩) hP hD hS hA [0, 1] [] rfl rfl rfl 2 rfl (by decide +kernel) (fun H locs hP hD hS => ?_)
            refine lv_iload_n hx hb dX7_toldPlane_114 rfl (lv_at hl 1 rfl) ?_
            refine lv_icmp_ne (tgt := 122) hx hb dX7_toldPlane_115 (by decide) (fun c9 => ?_) (fun c9 => ?_)
            · have hF := if_n hF c9
              refine lv_iconst (v := 0) hx hb dX7_toldPlane_122 (by decide) ?_
              exact J123 l4 l5 l3 (0 : Int32) H locs ls hP hD hS (lv_sub hl [0, 1, 2, 4, 5] rfl) hF
            · have hF := if_p hF c9
              refine lv_iconst (v := 1) hx hb dX7_toldPlane_118 (by decide) ?_
              refine lv_goto (tgt := 123) hx hb dX7_toldPlane_119 (by decide) ?_
              exact J123 l4 l5 l3 (1 : Int32) H locs ls hP hD hS (lv_sub hl [0, 1, 2, 4, 5] rfl) hF
      intro l3 l4 H locs ls hP hD hS hl hF
      rw [X7_toldPlane_L77] at hF
      refine lv_iload hx hb dX7_toldPlane_77 (lv_at hl 4 rfl) ?_
      refine lv_aload_n hx hb dX7_toldPlane_79 rfl (lv_at hl 0 rfl) ?_
      refine va_get (D := D) (ci := 7) (v := .ref q_o_data) (C := RX7) (T := TX7) (N := 19) hx hb hts f_inX7 hown hK hP 0 rfl rfl 8 (by decide) f_f17 (fun _ h9 => h9) rfl dX7_toldPlane_80 ?_
      refine lv_iconst (v := 3) hx hb dX7_toldPlane_83 (by decide) ?_
      obtain ⟨h10, hF⟩ := ld_o hF
      refine va_iald hx hb hK hP 1 0 rfl rfl h10 dX7_toldPlane_84 ?_
      refine lv_topi (fun v11 ev11 => ?_)
      have hF := hF v11 ev11
      refine lv_icmp_ge (tgt := 137) hx hb dX7_toldPlane_85 (by decide) (fun c12 => ?_) (fun c12 => ?_)
      · have hF := if_p hF c12
        refine lv_iload_n hx hb dX7_toldPlane_137 rfl (lv_at hl 3 rfl) ?_
        obtain rfl := so_o hF
        rw [hQQ]
        exact kr_i hx hb hr hlocks hP hD hS dX7_toldPlane_138
      · have hF := if_n hF c12
        refine lv_iload_n hx hb dX7_toldPlane_88 rfl (lv_at hl 2 rfl) ?_
        refine lv_iconst (v := 2) hx hb dX7_toldPlane_89 (by decide) ?_
        refine lv_icmp_ne (tgt := 137) hx hb dX7_toldPlane_90 (by decide) (fun c13 => ?_) (fun c13 => ?_)
        · have hF := if_n hF c13
          refine lv_iload_n hx hb dX7_toldPlane_137 rfl (lv_at hl 3 rfl) ?_
          obtain rfl := so_o hF
          rw [hQQ]
          exact kr_i hx hb hr hlocks hP hD hS dX7_toldPlane_138
        · have hF := if_p hF c13
          refine lv_iconst (v := 0) hx hb dX7_toldPlane_93 (by decide) ?_
          refine lv_istore (lv' := [(5, .int (0 : Int32)), (0, .ref q_o), (1, .int p1), (2, .int p2), (3, .int l3), (4, .int l4)]) hx hb dX7_toldPlane_94 hl (by decide) rfl (fun ls hl => ?_)
          exact J96 FU l3 l4 (0 : Int32) H locs ls hP hD hS (lv_sub hl [1, 2, 3, 4, 5, 0] rfl) hF
  have J74 : ∀ (l3 : Int32) (H : Heap) (locs : List Loc) (ls : Array Slot), va_P D vwCl [(q_o, .inr (7, [x_o_thrown, x_o_buffer, x_o_bufferLength, x_o_textLength, x_o_position, x_o_error, x_o_errorAt, x_o_errorOffset, .ref q_o_data, x_o_draft, x_o_aside, x_o_history, x_o_undoDepth, x_o_numberStart, x_o_nesting, x_o_seen, x_o_toldPlanes, x_o_stack, x_o_facts])), (q_o_data, .inl (cy 0, 2243, .inl o_data))] H → va_D A [(q_o, .inr (7, [x_o_thrown, x_o_buffer, x_o_bufferLength, x_o_textLength, x_o_position, x_o_error, x_o_errorAt, x_o_errorOffset, .ref q_o_data, x_o_draft, x_o_aside, x_o_history, x_o_undoDepth, x_o_numberStart, x_o_nesting, x_o_seen, x_o_toldPlanes, x_o_stack, x_o_facts])), (q_o_data, .inl (cy 0, 2243, .inl o_data))] → va_S A s.heap H locs → lv_has ls 6 [(0, .ref q_o), (1, .int p1), (2, .int p2), (3, .int l3)] → X7_toldPlane_J74 o_data p1 p2 l3 = some res → W p l e ({ frames := 3, cells := 0, slots := 0, locals := 67 } : Room) s m args below meth c H locs 0 0 QQ (F0 m 74 ls []) := by
    intro l3 H locs ls hP hD hS hl hF
    unfold X7_toldPlane_J74 at hF
    refine lv_iconst (v := 0) hx hb dX7_toldPlane_74 (by decide) ?_
    refine lv_istore (lv' := [(4, .int (0 : Int32)), (0, .ref q_o), (1, .int p1), (2, .int p2), (3, .int l3)]) hx hb dX7_toldPlane_75 hl (by decide) rfl (fun ls hl => ?_)
    exact J77 FU l3 (0 : Int32) H locs ls hP hD hS (lv_sub hl [1, 2, 3, 4, 0] rfl) hF
  have J19 : ∀ (n19 : Nat) (l3 : Int32) (l4 : Int32) (H : Heap) (locs : List Loc) (ls : Array Slot), va_P D vwCl [(q_o, .inr (7, [x_o_thrown, x_o_buffer, x_o_bufferLength, x_o_textLength, x_o_position, x_o_error, x_o_errorAt, x_o_errorOffset, .ref q_o_data, x_o_draft, x_o_aside, x_o_history, x_o_undoDepth, x_o_numberStart, x_o_nesting, x_o_seen, x_o_toldPlanes, x_o_stack, x_o_facts])), (q_o_data, .inl (cy 0, 2243, .inl o_data))] H → va_D A [(q_o, .inr (7, [x_o_thrown, x_o_buffer, x_o_bufferLength, x_o_textLength, x_o_position, x_o_error, x_o_errorAt, x_o_errorOffset, .ref q_o_data, x_o_draft, x_o_aside, x_o_history, x_o_undoDepth, x_o_numberStart, x_o_nesting, x_o_seen, x_o_toldPlanes, x_o_stack, x_o_facts])), (q_o_data, .inl (cy 0, 2243, .inl o_data))] → va_S A s.heap H locs → lv_has ls 6 [(0, .ref q_o), (1, .int p1), (2, .int p2), (3, .int l3), (4, .int l4)] → X7_toldPlane_L19 o_data p1 p2 n19 l3 l4 = some res → W p l e ({ frames := 3, cells := 0, slots := 0, locals := 67 } : Room) s m args below meth c H locs 0 0 QQ (F0 m 19 ls []) := by
    intro n19
    induction n19 with
    | zero =>
      intro l3 l4 H locs ls hP hD hS hl hF
      rw [X7_toldPlane_L19] at hF
      cases hF
    | succ n19 ih19 =>
      have J66 : ∀ (l4 : Int32) (k0 : Int32) (k1 : Int32) (H : Heap) (locs : List Loc) (ls : Array Slot), va_P D vwCl [(q_o, .inr (7, [x_o_thrown, x_o_buffer, x_o_bufferLength, x_o_textLength, x_o_position, x_o_error, x_o_errorAt, x_o_errorOffset, .ref q_o_data, x_o_draft, x_o_aside, x_o_history, x_o_undoDepth, x_o_numberStart, x_o_nesting, x_o_seen, x_o_toldPlanes, x_o_stack, x_o_facts])), (q_o_data, .inl (cy 0, 2243, .inl o_data))] H → va_D A [(q_o, .inr (7, [x_o_thrown, x_o_buffer, x_o_bufferLength, x_o_textLength, x_o_position, x_o_error, x_o_errorAt, x_o_errorOffset, .ref q_o_data, x_o_draft, x_o_aside, x_o_history, x_o_undoDepth, x_o_numberStart, x_o_nesting, x_o_seen, x_o_toldPlanes, x_o_stack, x_o_facts])), (q_o_data, .inl (cy 0, 2243, .inl o_data))] → va_S A s.heap H locs → lv_has ls 6 [(0, .ref q_o), (1, .int p1), (2, .int p2), (4, .int l4)] → X7_toldPlane_J66 o_data p1 p2 (fun z0 z1 => X7_toldPlane_L19 o_data p1 p2 n19 z0 z1) l4 k0 k1 = some res → W p l e ({ frames := 3, cells := 0, slots := 0, locals := 67 } : Room) s m args below meth c H locs 0 0 QQ (F0 m 66 ls [.int k1, .int k0]) := by
        intro l4 k0 k1 H locs ls hP hD hS hl hF
        unfold X7_toldPlane_J66 at hF
        refine lv_iadd hx hb dX7_toldPlane_66 ?_
        refine lv_topi (fun v14 ev14 => ?_)
        have hF := nm_o hF v14 ev14
        refine lv_istore_n (lv' := [(3, .int v14), (0, .ref q_o), (1, .int p1), (2, .int p2), (4, .int l4)]) hx hb dX7_toldPlane_67 rfl hl (by decide) rfl (fun ls hl => ?_)
        obtain ⟨v15, ev15⟩ : ∃ y : Int32, y = l4 + (1 : Int32) := ⟨_, rfl⟩
        have hF := nm_o hF v15 ev15
        refine lv_iinc (v := v15) (lv' := [(4, .int v15), (3, .int v14), (0, .ref q_o), (1, .int p1), (2, .int p2)]) hx hb dX7_toldPlane_68 hl (k := 4) rfl (by rw [ev15]; rfl) (by decide) rfl (fun ls hl => ?_)
        refine lv_goto (tgt := 19) hx hb dX7_toldPlane_71 (by decide) ?_
        exact ih19 v14 v15 H locs ls hP hD hS (lv_sub hl [2, 3, 4, 1, 0] rfl) hF
      intro l3 l4 H locs ls hP hD hS hl hF
      rw [X7_toldPlane_L19] at hF
      refine lv_iload hx hb dX7_toldPlane_19 (lv_at hl 4 rfl) ?_
      refine lv_aload_n hx hb dX7_toldPlane_21 rfl (lv_at hl 0 rfl) ?_
      obtain ⟨r16, h17, hF⟩ := bn1_o hF
      refine kd_i [(q_o, .inr (7, [x_o_thrown, x_o_buffer, x_o_bufferLength, x_o_textLength, x_o_position, x_o_error, x_o_errorAt, x_o_errorOffset, .ref q_o_data, x_o_draft, x_o_aside, x_o_history, x_o_undoDepth, x_o_numberStart, x_o_nesting, x_o_seen, x_o_toldPlanes, x_o_stack, x_o_facts])), (q_o_data, .inl (cy 0, 2243, .inl o_data))] (va_runV (As := []) (rest := [.int l4]) ⟨hx, hb, hml, hown, hts⟩ (c_X7_cells q_o q_o_data H.size x_o_thrown x_o_buffer x_o_bufferLength x_o_textLength x_o_position x_o_error x_o_errorAt x_o_errorOffset x_o_draft x_o_aside x_o_history x_o_undoDepth x_o_numberStart x_o_nesting x_o_seen x_o_toldPlanes x_o_stack x_o_facts o_data _ h17) (cwV 0 hts gX7_toldPlane_X7_cells rfl rfl rfl kd_X7_cells ⟨Nat.le_of_ble_eq_true rfl, Nat.le_of_ble_eq_true rfl⟩) ⟨kP_blind (EN_ok D cy) D _ _ _, va_recv hK hP (ci := 7) (q0 := 0) rfl rfl, kStart (EN_ok D cy) hE hP hD hS hA [0, 1] rfl rfl _⟩ rfl rfl hl.1 rfl (lv_room (Nat.le_of_ble_eq_true rfl)) dX7_toldPlane_22 ⟨Nat.zero_le _, Nat.zero_le _⟩) hP hD hS hA [0, 1] [] rfl rfl rfl 2 rfl (by decide +kernel) (fun H locs hP hD hS => ?_)
      refine lv_icmp_ge (tgt := 74) hx hb dX7_toldPlane_25 (by decide) (fun c18 => ?_) (fun c18 => ?_)
      · have hF := if_p hF c18
        exact J74 l3 H locs ls hP hD hS (lv_sub hl [0, 1, 2, 3] rfl) hF
      · have hF := if_n hF c18
        refine lv_iload_n hx hb dX7_toldPlane_28 rfl (lv_at hl 2 rfl) ?_
        refine lv_iconst (v := 1) hx hb dX7_toldPlane_29 (by decide) ?_
        refine lv_icmp_ne (tgt := 74) hx hb dX7_toldPlane_30 (by decide) (fun c19 => ?_) (fun c19 => ?_)
        · have hF := if_n hF c19
          exact J74 l3 H locs ls hP hD hS (lv_sub hl [0, 1, 2, 3] rfl) hF
        · have hF := if_p hF c19
          refine lv_iload_n hx hb dX7_toldPlane_33 rfl (lv_at hl 3 rfl) ?_
          refine lv_aload_n hx hb dX7_toldPlane_34 rfl (lv_at hl 0 rfl) ?_
          refine lv_iload_n hx hb dX7_toldPlane_35 rfl (lv_at hl 1 rfl) ?_
          refine lv_iload hx hb dX7_toldPlane_36 (lv_at hl 4 rfl) ?_
          refine lv_aload_n hx hb dX7_toldPlane_38 rfl (lv_at hl 0 rfl) ?_
          refine va_get (D := D) (ci := 7) (v := .ref q_o_data) (C := RX7) (T := TX7) (N := 19) hx hb hts f_inX7 hown hK hP 0 rfl rfl 8 (by decide) f_f17 (fun _ h9 => h9) rfl dX7_toldPlane_39 ?_
          refine lv_iconst (v := 0) hx hb dX7_toldPlane_42 (by decide) ?_
          obtain ⟨h20, hF⟩ := ld_o hF
          refine va_iald hx hb hK hP 1 0 rfl rfl h20 dX7_toldPlane_43 ?_
          refine lv_topi (fun v21 ev21 => ?_)
          have hF := hF v21 ev21
          obtain ⟨h22, hF⟩ := ck_o hF
          refine lv_irem hx hb dX7_toldPlane_44 h22 ?_
          refine lv_topi (fun v23 ev23 => ?_)
          have hF := nm_o hF v23 ev23
          refine lv_iload hx hb dX7_toldPlane_45 (lv_at hl 4 rfl) ?_
          refine lv_aload_n hx hb dX7_toldPlane_47 rfl (lv_at hl 0 rfl) ?_
          refine va_get (D := D) (ci := 7) (v := .ref q_o_data) (C := RX7) (T := TX7) (N := 19) hx hb hts f_inX7 hown hK hP 0 rfl rfl 8 (by decide) f_f17 (fun _ h9 => h9) rfl dX7_toldPlane_48 ?_
          refine lv_iconst (v := 0) hx hb dX7_toldPlane_51 (by decide) ?_
          obtain ⟨h24, hF⟩ := ld_o hF
          refine va_iald hx hb hK hP 1 0 rfl rfl h24 dX7_toldPlane_52 ?_
          refine lv_topi (fun v25 ev25 => ?_)
          have hF := hF v25 ev25
          obtain ⟨h26, hF⟩ := ck_o hF
          refine lv_idiv hx hb dX7_toldPlane_53 h26 ?_
          obtain ⟨r27, h28, hF⟩ := bn1_o hF
          refine kd_i [(q_o, .inr (7, [x_o_thrown, x_o_buffer, x_o_bufferLength, x_o_textLength, x_o_position, x_o_error, x_o_errorAt, x_o_errorOffset, .ref q_o_data, x_o_draft, x_o_aside, x_o_history, x_o_undoDepth, x_o_numberStart, x_o_nesting, x_o_seen, x_o_toldPlanes, x_o_stack, x_o_facts])), (q_o_data, .inl (cy 0, 2243, .inl o_data))] (va_runV (As := [.int p1, .int v23, .int (l4 / v25)]) (rest := [.int l3]) ⟨hx, hb, hml, hown, hts⟩ (c_X7_kindAt q_o q_o_data H.size x_o_thrown x_o_buffer x_o_bufferLength x_o_textLength x_o_position x_o_error x_o_errorAt x_o_errorOffset x_o_draft x_o_aside x_o_history x_o_undoDepth x_o_numberStart x_o_nesting x_o_seen x_o_toldPlanes x_o_stack x_o_facts o_data p1 v23 (l4 / v25) _ h28) (cwV 3 hts gX7_toldPlane_X7_kindAt rfl rfl rfl kd_X7_kindAt ⟨Nat.le_of_ble_eq_true rfl, Nat.le_of_ble_eq_true rfl⟩) ⟨kP_blind (EN_ok D cy) D _ _ _, va_recv hK hP (ci := 7) (q0 := 0) rfl rfl, kStart (EN_ok D cy) hE hP hD hS hA [0, 1] rfl rfl _⟩ rfl rfl hl.1 rfl (lv_room (Nat.le_of_ble_eq_true rfl)) dX7_toldPlane_54 ⟨Nat.zero_le _, Nat.zero_le _⟩) hP hD hS hA [0, 1] [] rfl rfl rfl 2 rfl (by decide +kernel) (fun H locs hP hD hS => ?_)
          refine lv_iconst (v := -1) hx hb dX7_toldPlane_57 (by decide) ?_
          refine lv_icmp_ne (tgt := 65) hx hb dX7_toldPlane_58 (by decide) (fun c29 => ?_) (fun c29 => ?_)
          · have hF := if_n hF c29
            refine lv_iconst (v := 1) hx hb dX7_toldPlane_65 (by decide) ?_
            exact J66 l4 l3 (1 : Int32) H locs ls hP hD hS (lv_sub hl [0, 1, 2, 4] rfl) hF
          · have hF := if_p hF c29
            refine lv_iconst (v := 0) hx hb dX7_toldPlane_61 (by decide) ?_
            refine lv_goto (tgt := 66) hx hb dX7_toldPlane_62 (by decide) ?_
            exact J66 l4 l3 (0 : Int32) H locs ls hP hD hS (lv_sub hl [0, 1, 2, 4] rfl) hF
  have main : ∀ (H : Heap) (locs : List Loc) (ls : Array Slot), va_P D vwCl [(q_o, .inr (7, [x_o_thrown, x_o_buffer, x_o_bufferLength, x_o_textLength, x_o_position, x_o_error, x_o_errorAt, x_o_errorOffset, .ref q_o_data, x_o_draft, x_o_aside, x_o_history, x_o_undoDepth, x_o_numberStart, x_o_nesting, x_o_seen, x_o_toldPlanes, x_o_stack, x_o_facts])), (q_o_data, .inl (cy 0, 2243, .inl o_data))] H → va_D A [(q_o, .inr (7, [x_o_thrown, x_o_buffer, x_o_bufferLength, x_o_textLength, x_o_position, x_o_error, x_o_errorAt, x_o_errorOffset, .ref q_o_data, x_o_draft, x_o_aside, x_o_history, x_o_undoDepth, x_o_numberStart, x_o_nesting, x_o_seen, x_o_toldPlanes, x_o_stack, x_o_facts])), (q_o_data, .inl (cy 0, 2243, .inl o_data))] → va_S A s.heap H locs → lv_has ls 6 [(0, .ref q_o), (1, .int p1), (2, .int p2)] → W p l e ({ frames := 3, cells := 0, slots := 0, locals := 67 } : Room) s m args below meth c H locs 0 0 QQ (F0 m 0 ls []) := by
    intro H locs ls hP hD hS hl
    unfold X7_toldPlane at hF
    refine lv_iload_n hx hb dX7_toldPlane_0 rfl (lv_at hl 2 rfl) ?_
    refine lv_if_ne (tgt := 14) hx hb dX7_toldPlane_1 (by decide) (fun c30 => ?_) (fun c30 => ?_)
    · have hF := if_n hF c30
      refine lv_iconst (v := 0) hx hb dX7_toldPlane_14 (by decide) ?_
      refine lv_istore_n (lv' := [(3, .int (0 : Int32)), (0, .ref q_o), (1, .int p1), (2, .int p2)]) hx hb dX7_toldPlane_15 rfl hl (by decide) rfl (fun ls hl => ?_)
      refine lv_iconst (v := 0) hx hb dX7_toldPlane_16 (by decide) ?_
      refine lv_istore (lv' := [(4, .int (0 : Int32)), (3, .int (0 : Int32)), (0, .ref q_o), (1, .int p1), (2, .int p2)]) hx hb dX7_toldPlane_17 hl (by decide) rfl (fun ls hl => ?_)
      exact J19 FU (0 : Int32) (0 : Int32) H locs ls hP hD hS (lv_sub hl [2, 3, 4, 1, 0] rfl) hF
    · have hF := if_p hF c30
      refine lv_aload_n hx hb dX7_toldPlane_4 rfl (lv_at hl 0 rfl) ?_
      refine va_get (D := D) (ci := 7) (v := .ref q_o_data) (C := RX7) (T := TX7) (N := 19) hx hb hts f_inX7 hown hK hP 0 rfl rfl 8 (by decide) f_f17 (fun _ h9 => h9) rfl dX7_toldPlane_5 ?_
      refine lv_bipush (v := 10) hx hb dX7_toldPlane_8 (by decide) ?_
      refine lv_iload_n hx hb dX7_toldPlane_10 rfl (lv_at hl 1 rfl) ?_
      refine lv_iadd hx hb dX7_toldPlane_11 ?_
      obtain ⟨h31, hF⟩ := ld_o hF
      refine va_iald hx hb hK hP 1 0 rfl rfl h31 dX7_toldPlane_12 ?_
      refine lv_topi (fun v32 ev32 => ?_)
      have hF := hF v32 ev32
      obtain rfl := so_o hF
      rw [hQQ]
      exact kr_i hx hb hr hlocks hP hD hS dX7_toldPlane_13
  exact main s.heap [] ls hP hD hS hl
theorem kd_X7_plane : yX7_plane.cls = RX7 ∧ yX7_plane.cls ≠ "java/lang/invoke/MethodHandle" ∧ yX7_plane.cls ≠ "java/lang/invoke/VarHandle" ∧ (parseMethodDescriptor yX7_plane.desc).map (fun d => d.parameters.length) = some 2 := by decide +kernel
set_option maxHeartbeats 4000000 in
set_option maxRecDepth 100000 in
theorem c_X7_plane {l : Launch} {D : va_G} {cy : Nat → ClassId} (q_o q_o_data : Nat) (sz : Nat) (x_o_buffer x_o_bufferLength x_o_textLength x_o_position x_o_error x_o_errorAt x_o_errorOffset x_o_draft x_o_aside x_o_history x_o_undoDepth x_o_numberStart x_o_nesting x_o_seen x_o_toldPlanes x_o_stack x_o_facts : Value) (o_thrown : Int32) (o_data : Nat → Int32) (p1 : Int32) (p2 : Int32) (res : Int32 × Int32) (hF : X7_plane o_thrown o_data p1 p2 = some res) : Met l yX7_plane wsX7_plane ({ frames := 4, cells := 0, slots := 0, locals := 92 } : Room) (kP (EN D cy) D [.ref q_o, .int p1, .int p2] [(q_o, .inr (7, [.int o_thrown, x_o_buffer, x_o_bufferLength, x_o_textLength, x_o_position, x_o_error, x_o_errorAt, x_o_errorOffset, .ref q_o_data, x_o_draft, x_o_aside, x_o_history, x_o_undoDepth, x_o_numberStart, x_o_nesting, x_o_seen, x_o_toldPlanes, x_o_stack, x_o_facts])), (q_o_data, .inl (cy 0, 2243, .inl o_data))] sz) (kQi D res.1 [(q_o, .inr (7, [.int res.2, x_o_buffer, x_o_bufferLength, x_o_textLength, x_o_position, x_o_error, x_o_errorAt, x_o_errorOffset, .ref q_o_data, x_o_draft, x_o_aside, x_o_history, x_o_undoDepth, x_o_numberStart, x_o_nesting, x_o_seen, x_o_toldPlanes, x_o_stack, x_o_facts])), (q_o_data, .inl (cy 0, 2243, .inl o_data))] (va_A [(q_o, .inr (7, [.int o_thrown, x_o_buffer, x_o_bufferLength, x_o_textLength, x_o_position, x_o_error, x_o_errorAt, x_o_errorOffset, .ref q_o_data, x_o_draft, x_o_aside, x_o_history, x_o_undoDepth, x_o_numberStart, x_o_nesting, x_o_seen, x_o_toldPlanes, x_o_stack, x_o_facts])), (q_o_data, .inl (cy 0, 2243, .inl o_data))] sz)) 0 0 (va_A [(q_o, .inr (7, [.int o_thrown, x_o_buffer, x_o_bufferLength, x_o_textLength, x_o_position, x_o_error, x_o_errorAt, x_o_errorOffset, .ref q_o_data, x_o_draft, x_o_aside, x_o_history, x_o_undoDepth, x_o_numberStart, x_o_nesting, x_o_seen, x_o_toldPlanes, x_o_stack, x_o_facts])), (q_o_data, .inl (cy 0, 2243, .inl o_data))] sz) := by
  refine kMet (y := yX7_plane) (av := [.ref q_o, .int p1, .int p2]) (cc := cX7_plane) (maxL := 3) (ret := some .int) (own := RX7) (Qc := fun A9 => (kQi D res.1 [(q_o, .inr (7, [.int res.2, x_o_buffer, x_o_bufferLength, x_o_textLength, x_o_position, x_o_error, x_o_errorAt, x_o_errorOffset, .ref q_o_data, x_o_draft, x_o_aside, x_o_history, x_o_undoDepth, x_o_numberStart, x_o_nesting, x_o_seen, x_o_toldPlanes, x_o_stack, x_o_facts])), (q_o_data, .inl (cy 0, 2243, .inl o_data))] A9)) (by decide) rfl rfl (Nat.le_of_ble_eq_true rfl) ?_
  intro p e s m args below meth c A hx hb hr hts hown hml hlocks hname hE hP hD hA hsz ls hl
  have hK := hE.1
  have hl : lv_has ls 3 [(0, .ref q_o), (1, .int p1), (2, .int p2)] := hl
  have hS : va_S A s.heap s.heap [] := va_S.rf
  have f_f42 := hts (.fieldLink RX7 42 "PeepBoxModel" "thrown" "I") (by decide +kernel)
  have f_inX7 : ∀ w ∈ wsX70, w ∈ wsX7_plane := by decide +kernel
  obtain ⟨QQ, hQQ⟩ : ∃ Q9, Q9 = MQ below (kQi D res.1 [(q_o, .inr (7, [.int res.2, x_o_buffer, x_o_bufferLength, x_o_textLength, x_o_position, x_o_error, x_o_errorAt, x_o_errorOffset, .ref q_o_data, x_o_draft, x_o_aside, x_o_history, x_o_undoDepth, x_o_numberStart, x_o_nesting, x_o_seen, x_o_toldPlanes, x_o_stack, x_o_facts])), (q_o_data, .inl (cy 0, 2243, .inl o_data))] A) args s 0 0 A := ⟨_, rfl⟩
  rw [← hQQ]
  have J35 : ∀ (o_thrown : Int32) (H : Heap) (locs : List Loc) (ls : Array Slot), va_P D vwCl [(q_o, .inr (7, [.int o_thrown, x_o_buffer, x_o_bufferLength, x_o_textLength, x_o_position, x_o_error, x_o_errorAt, x_o_errorOffset, .ref q_o_data, x_o_draft, x_o_aside, x_o_history, x_o_undoDepth, x_o_numberStart, x_o_nesting, x_o_seen, x_o_toldPlanes, x_o_stack, x_o_facts])), (q_o_data, .inl (cy 0, 2243, .inl o_data))] H → va_D A [(q_o, .inr (7, [.int o_thrown, x_o_buffer, x_o_bufferLength, x_o_textLength, x_o_position, x_o_error, x_o_errorAt, x_o_errorOffset, .ref q_o_data, x_o_draft, x_o_aside, x_o_history, x_o_undoDepth, x_o_numberStart, x_o_nesting, x_o_seen, x_o_toldPlanes, x_o_stack, x_o_facts])), (q_o_data, .inl (cy 0, 2243, .inl o_data))] → va_S A s.heap H locs → lv_has ls 3 [] → X7_plane_J35 o_data p1 p2 o_thrown = some res → W p l e ({ frames := 4, cells := 0, slots := 0, locals := 92 } : Room) s m args below meth c H locs 0 0 QQ (F0 m 35 ls []) := by
    intro o_thrown H locs ls hP hD hS hl hF
    unfold X7_plane_J35 at hF
    refine lv_iconst (v := 0) hx hb dX7_plane_35 (by decide) ?_
    refine lv_goto (tgt := 45) hx hb dX7_plane_36 (by decide) ?_
    obtain rfl := so_o hF
    rw [hQQ]
    exact kr_i hx hb hr hlocks hP hD hS dX7_plane_45
  have J28 : ∀ (k1 : Int32) (o_thrown : Int32) (H : Heap) (locs : List Loc) (ls : Array Slot), va_P D vwCl [(q_o, .inr (7, [.int o_thrown, x_o_buffer, x_o_bufferLength, x_o_textLength, x_o_position, x_o_error, x_o_errorAt, x_o_errorOffset, .ref q_o_data, x_o_draft, x_o_aside, x_o_history, x_o_undoDepth, x_o_numberStart, x_o_nesting, x_o_seen, x_o_toldPlanes, x_o_stack, x_o_facts])), (q_o_data, .inl (cy 0, 2243, .inl o_data))] H → va_D A [(q_o, .inr (7, [.int o_thrown, x_o_buffer, x_o_bufferLength, x_o_textLength, x_o_position, x_o_error, x_o_errorAt, x_o_errorOffset, .ref q_o_data, x_o_draft, x_o_aside, x_o_history, x_o_undoDepth, x_o_numberStart, x_o_nesting, x_o_seen, x_o_toldPlanes, x_o_stack, x_o_facts])), (q_o_data, .inl (cy 0, 2243, .inl o_data))] → va_S A s.heap H locs → lv_has ls 3 [(0, .ref q_o), (1, .int p1), (2, .int p2)] → X7_plane_J28 o_data p1 p2 k1 o_thrown = some res → W p l e ({ frames := 4, cells := 0, slots := 0, locals := 92 } : Room) s m args below meth c H locs 0 0 QQ (F0 m 28 ls [.int k1, .ref q_o]) := by
    intro k1 o_thrown H locs ls hP hD hS hl hF
    unfold X7_plane_J28 at hF
    refine lv_iconst (v := 2) hx hb dX7_plane_28 (by decide) ?_
    obtain ⟨r1, o2, h3, hF⟩ := bn2_o hF
    refine kd_i [(q_o, .inr (7, [.int o2, x_o_buffer, x_o_bufferLength, x_o_textLength, x_o_position, x_o_error, x_o_errorAt, x_o_errorOffset, .ref q_o_data, x_o_draft, x_o_aside, x_o_history, x_o_undoDepth, x_o_numberStart, x_o_nesting, x_o_seen, x_o_toldPlanes, x_o_stack, x_o_facts])), (q_o_data, .inl (cy 0, 2243, .inl o_data))] (va_runV (As := [.int k1, .int (2 : Int32)]) (rest := []) ⟨hx, hb, hml, hown, hts⟩ (c_X7_fails q_o H.size x_o_buffer x_o_bufferLength x_o_textLength x_o_position x_o_error x_o_errorAt x_o_errorOffset (.ref q_o_data) x_o_draft x_o_aside x_o_history x_o_undoDepth x_o_numberStart x_o_nesting x_o_seen x_o_toldPlanes x_o_stack x_o_facts o_thrown k1 (2 : Int32) _ h3) (cwV 2 hts gX7_plane_X7_fails rfl rfl rfl kd_X7_fails ⟨Nat.le_of_ble_eq_true rfl, Nat.le_of_ble_eq_true rfl⟩) ⟨kP_blind (EN_ok D cy) D _ _ _, va_recv hK hP (ci := 7) (q0 := 0) rfl rfl, kStart (EN_ok D cy) hE hP hD hS hA [0] rfl rfl _⟩ rfl rfl hl.1 rfl (lv_room (Nat.le_of_ble_eq_true rfl)) dX7_plane_29 ⟨Nat.zero_le _, Nat.zero_le _⟩) hP hD hS hA [0] [1] rfl rfl rfl 2 rfl (by decide +kernel) (fun H locs hP hD hS => ?_)
    refine lv_if_eq (tgt := 39) hx hb dX7_plane_32 (by decide) (fun c4 => ?_) (fun c4 => ?_)
    · have hF := if_p hF c4
      refine lv_aload_n hx hb dX7_plane_39 rfl (lv_at hl 0 rfl) ?_
      refine lv_iload_n hx hb dX7_plane_40 rfl (lv_at hl 1 rfl) ?_
      refine lv_iload_n hx hb dX7_plane_41 rfl (lv_at hl 2 rfl) ?_
      obtain ⟨r5, h6, hF⟩ := bn1_o hF
      refine kd_i [(q_o, .inr (7, [.int o2, x_o_buffer, x_o_bufferLength, x_o_textLength, x_o_position, x_o_error, x_o_errorAt, x_o_errorOffset, .ref q_o_data, x_o_draft, x_o_aside, x_o_history, x_o_undoDepth, x_o_numberStart, x_o_nesting, x_o_seen, x_o_toldPlanes, x_o_stack, x_o_facts])), (q_o_data, .inl (cy 0, 2243, .inl o_data))] (va_runV (As := [.int p1, .int p2]) (rest := []) ⟨hx, hb, hml, hown, hts⟩ (c_X7_toldPlane q_o q_o_data H.size (.int o2) x_o_buffer x_o_bufferLength x_o_textLength x_o_position x_o_error x_o_errorAt x_o_errorOffset x_o_draft x_o_aside x_o_history x_o_undoDepth x_o_numberStart x_o_nesting x_o_seen x_o_toldPlanes x_o_stack x_o_facts o_data p1 p2 _ h6) (cwV 2 hts gX7_plane_X7_toldPlane rfl rfl rfl kd_X7_toldPlane ⟨Nat.le_of_ble_eq_true rfl, Nat.le_of_ble_eq_true rfl⟩) ⟨kP_blind (EN_ok D cy) D _ _ _, va_recv hK hP (ci := 7) (q0 := 0) rfl rfl, kStart (EN_ok D cy) hE hP hD hS hA [0, 1] rfl rfl _⟩ rfl rfl hl.1 rfl (lv_room (Nat.le_of_ble_eq_true rfl)) dX7_plane_42 ⟨Nat.zero_le _, Nat.zero_le _⟩) hP hD hS hA [0, 1] [] rfl rfl rfl 2 rfl (by decide +kernel) (fun H locs hP hD hS => ?_)
      obtain rfl := so_o hF
      rw [hQQ]
      exact kr_i hx hb hr hlocks hP hD hS dX7_plane_45
    · have hF := if_n hF c4
      exact J35 o2 H locs ls hP hD hS (lv_sub hl [] rfl) hF
  have main : ∀ (H : Heap) (locs : List Loc) (ls : Array Slot), va_P D vwCl [(q_o, .inr (7, [.int o_thrown, x_o_buffer, x_o_bufferLength, x_o_textLength, x_o_position, x_o_error, x_o_errorAt, x_o_errorOffset, .ref q_o_data, x_o_draft, x_o_aside, x_o_history, x_o_undoDepth, x_o_numberStart, x_o_nesting, x_o_seen, x_o_toldPlanes, x_o_stack, x_o_facts])), (q_o_data, .inl (cy 0, 2243, .inl o_data))] H → va_D A [(q_o, .inr (7, [.int o_thrown, x_o_buffer, x_o_bufferLength, x_o_textLength, x_o_position, x_o_error, x_o_errorAt, x_o_errorOffset, .ref q_o_data, x_o_draft, x_o_aside, x_o_history, x_o_undoDepth, x_o_numberStart, x_o_nesting, x_o_seen, x_o_toldPlanes, x_o_stack, x_o_facts])), (q_o_data, .inl (cy 0, 2243, .inl o_data))] → va_S A s.heap H locs → lv_has ls 3 [(0, .ref q_o), (1, .int p1), (2, .int p2)] → W p l e ({ frames := 4, cells := 0, slots := 0, locals := 92 } : Room) s m args below meth c H locs 0 0 QQ (F0 m 0 ls []) := by
    intro H locs ls hP hD hS hl
    unfold X7_plane at hF
    refine lv_aload_n hx hb dX7_plane_0 rfl (lv_at hl 0 rfl) ?_
    refine lv_iconst (v := 0) hx hb dX7_plane_1 (by decide) ?_
    refine va_put (D := D) (ci := 7) (v := .int (0 : Int32)) (ty := .int) (C := RX7) (T := TX7) (N := 19) hx hb hts f_inX7 tyX7 tyX7_ok nmX7 hown hK hP hD hS 0 rfl rfl 0 (by decide) f_f42 (fun _ h9 => h9) rfl (by decide +kernel) rfl rfl (Nat.le_of_ble_eq_true rfl) dX7_plane_2 (fun H locs hP hD hS => ?_)
    have hP : va_P D vwCl [(q_o, .inr (7, [.int (0 : Int32), x_o_buffer, x_o_bufferLength, x_o_textLength, x_o_position, x_o_error, x_o_errorAt, x_o_errorOffset, .ref q_o_data, x_o_draft, x_o_aside, x_o_history, x_o_undoDepth, x_o_numberStart, x_o_nesting, x_o_seen, x_o_toldPlanes, x_o_stack, x_o_facts])), (q_o_data, .inl (cy 0, 2243, .inl o_data))] H := hP
    have hD : va_D A [(q_o, .inr (7, [.int (0 : Int32), x_o_buffer, x_o_bufferLength, x_o_textLength, x_o_position, x_o_error, x_o_errorAt, x_o_errorOffset, .ref q_o_data, x_o_draft, x_o_aside, x_o_history, x_o_undoDepth, x_o_numberStart, x_o_nesting, x_o_seen, x_o_toldPlanes, x_o_stack, x_o_facts])), (q_o_data, .inl (cy 0, 2243, .inl o_data))] := hD
    refine lv_aload_n hx hb dX7_plane_5 rfl (lv_at hl 0 rfl) ?_
    refine lv_iload_n hx hb dX7_plane_6 rfl (lv_at hl 1 rfl) ?_
    obtain ⟨r7, o8, h9, hF⟩ := bn2_o hF
    refine kd_i [(q_o, .inr (7, [.int o8, x_o_buffer, x_o_bufferLength, x_o_textLength, x_o_position, x_o_error, x_o_errorAt, x_o_errorOffset, .ref q_o_data, x_o_draft, x_o_aside, x_o_history, x_o_undoDepth, x_o_numberStart, x_o_nesting, x_o_seen, x_o_toldPlanes, x_o_stack, x_o_facts])), (q_o_data, .inl (cy 0, 2243, .inl o_data))] (va_runV (As := [.int p1]) (rest := []) ⟨hx, hb, hml, hown, hts⟩ (c_X7_noPlane q_o q_o_data H.size x_o_buffer x_o_bufferLength x_o_textLength x_o_position x_o_error x_o_errorAt x_o_errorOffset x_o_draft x_o_aside x_o_history x_o_undoDepth x_o_numberStart x_o_nesting x_o_seen x_o_toldPlanes x_o_stack x_o_facts (0 : Int32) o_data p1 _ h9) (cwV 1 hts gX7_plane_X7_noPlane rfl rfl rfl kd_X7_noPlane ⟨Nat.le_of_ble_eq_true rfl, Nat.le_of_ble_eq_true rfl⟩) ⟨kP_blind (EN_ok D cy) D _ _ _, va_recv hK hP (ci := 7) (q0 := 0) rfl rfl, kStart (EN_ok D cy) hE hP hD hS hA [0, 1] rfl rfl _⟩ rfl rfl hl.1 rfl (lv_room (Nat.le_of_ble_eq_true rfl)) dX7_plane_7 ⟨Nat.zero_le _, Nat.zero_le _⟩) hP hD hS hA [0, 1] [] rfl rfl rfl 2 rfl (by decide +kernel) (fun H locs hP hD hS => ?_)
    refine lv_if_ne (tgt := 35) hx hb dX7_plane_10 (by decide) (fun c10 => ?_) (fun c10 => ?_)
    · have hF := if_n hF c10
      exact J35 o8 H locs ls hP hD hS (lv_sub hl [] rfl) hF
    · have hF := if_p hF c10
      refine lv_aload_n hx hb dX7_plane_13 rfl (lv_at hl 0 rfl) ?_
      refine lv_iload_n hx hb dX7_plane_14 rfl (lv_at hl 2 rfl) ?_
      refine lv_iconst (v := 0) hx hb dX7_plane_15 (by decide) ?_
      refine lv_iconst (v := 2) hx hb dX7_plane_16 (by decide) ?_
      obtain ⟨r11, h12, hF⟩ := bn1_o hF
      refine kd_i [(q_o, .inr (7, [.int o8, x_o_buffer, x_o_bufferLength, x_o_textLength, x_o_position, x_o_error, x_o_errorAt, x_o_errorOffset, .ref q_o_data, x_o_draft, x_o_aside, x_o_history, x_o_undoDepth, x_o_numberStart, x_o_nesting, x_o_seen, x_o_toldPlanes, x_o_stack, x_o_facts])), (q_o_data, .inl (cy 0, 2243, .inl o_data))] (va_runS (As := [.int p2, .int (0 : Int32), .int (2 : Int32)]) (rest := [.ref q_o]) ⟨hx, hb, hml, hown, hts⟩ (c_X7_in H.size p2 (0 : Int32) (2 : Int32) _ h12) (va_cwS 3 hts gX7_plane_X7_in rfl rfl rfl kd_X7_in ⟨Nat.le_of_ble_eq_true rfl, Nat.le_of_ble_eq_true rfl⟩) ⟨kP_blind (EN_ok D cy) D _ _ _, kStart (EN_ok D cy) hE hP hD hS hA [] rfl rfl _⟩ rfl rfl hl.1 rfl (lv_room (Nat.le_of_ble_eq_true rfl)) dX7_plane_17 ⟨Nat.zero_le _, Nat.zero_le _⟩) hP hD hS hA [] [0, 1] rfl rfl rfl 2 rfl (by decide +kernel) (fun H locs hP hD hS => ?_)
      refine lv_if_ne (tgt := 27) hx hb dX7_plane_20 (by decide) (fun c13 => ?_) (fun c13 => ?_)
      · have hF := if_n hF c13
        refine lv_iconst (v := 0) hx hb dX7_plane_27 (by decide) ?_
        exact J28 (0 : Int32) o8 H locs ls hP hD hS (lv_sub hl [0, 1, 2] rfl) hF
      · have hF := if_p hF c13
        refine lv_iconst (v := 1) hx hb dX7_plane_23 (by decide) ?_
        refine lv_goto (tgt := 28) hx hb dX7_plane_24 (by decide) ?_
        exact J28 (1 : Int32) o8 H locs ls hP hD hS (lv_sub hl [0, 1, 2] rfl) hF
  exact main s.heap [] ls hP hD hS hl
theorem kd_X7_toldHole : yX7_toldHole.cls = RX7 ∧ yX7_toldHole.cls ≠ "java/lang/invoke/MethodHandle" ∧ yX7_toldHole.cls ≠ "java/lang/invoke/VarHandle" ∧ (parseMethodDescriptor yX7_toldHole.desc).map (fun d => d.parameters.length) = some 2 := by decide +kernel
set_option maxHeartbeats 4000000 in
set_option maxRecDepth 100000 in
theorem c_X7_toldHole {l : Launch} {D : va_G} {cy : Nat → ClassId} (q_o q_o_data : Nat) (sz : Nat) (x_o_thrown x_o_buffer x_o_bufferLength x_o_textLength x_o_position x_o_error x_o_errorAt x_o_errorOffset x_o_draft x_o_aside x_o_history x_o_undoDepth x_o_numberStart x_o_nesting x_o_seen x_o_toldPlanes x_o_stack x_o_facts : Value) (o_data : Nat → Int32) (p1 : Int32) (p2 : Int32) (res : Int32) (hF : X7_toldHole o_data p1 p2 = some res) : Met l yX7_toldHole wsX7_toldHole ({ frames := 5, cells := 0, slots := 0, locals := 114 } : Room) (kP (EN D cy) D [.ref q_o, .int p1, .int p2] [(q_o, .inr (7, [x_o_thrown, x_o_buffer, x_o_bufferLength, x_o_textLength, x_o_position, x_o_error, x_o_errorAt, x_o_errorOffset, .ref q_o_data, x_o_draft, x_o_aside, x_o_history, x_o_undoDepth, x_o_numberStart, x_o_nesting, x_o_seen, x_o_toldPlanes, x_o_stack, x_o_facts])), (q_o_data, .inl (cy 0, 2243, .inl o_data))] sz) (kQi D res [(q_o, .inr (7, [x_o_thrown, x_o_buffer, x_o_bufferLength, x_o_textLength, x_o_position, x_o_error, x_o_errorAt, x_o_errorOffset, .ref q_o_data, x_o_draft, x_o_aside, x_o_history, x_o_undoDepth, x_o_numberStart, x_o_nesting, x_o_seen, x_o_toldPlanes, x_o_stack, x_o_facts])), (q_o_data, .inl (cy 0, 2243, .inl o_data))] (va_A [(q_o, .inr (7, [x_o_thrown, x_o_buffer, x_o_bufferLength, x_o_textLength, x_o_position, x_o_error, x_o_errorAt, x_o_errorOffset, .ref q_o_data, x_o_draft, x_o_aside, x_o_history, x_o_undoDepth, x_o_numberStart, x_o_nesting, x_o_seen, x_o_toldPlanes, x_o_stack, x_o_facts])), (q_o_data, .inl (cy 0, 2243, .inl o_data))] sz)) 0 0 (va_A [(q_o, .inr (7, [x_o_thrown, x_o_buffer, x_o_bufferLength, x_o_textLength, x_o_position, x_o_error, x_o_errorAt, x_o_errorOffset, .ref q_o_data, x_o_draft, x_o_aside, x_o_history, x_o_undoDepth, x_o_numberStart, x_o_nesting, x_o_seen, x_o_toldPlanes, x_o_stack, x_o_facts])), (q_o_data, .inl (cy 0, 2243, .inl o_data))] sz) := by
  refine kMet (y := yX7_toldHole) (av := [.ref q_o, .int p1, .int p2]) (cc := cX7_toldHole) (maxL := 3) (ret := some .int) (own := RX7) (Qc := fun A9 => (kQi D res [(q_o, .inr (7, [x_o_thrown, x_o_buffer, x_o_bufferLength, x_o_textLength, x_o_position, x_o_error, x_o_errorAt, x_o_errorOffset, .ref q_o_data, x_o_draft, x_o_aside, x_o_history, x_o_undoDepth, x_o_numberStart, x_o_nesting, x_o_seen, x_o_toldPlanes, x_o_stack, x_o_facts])), (q_o_data, .inl (cy 0, 2243, .inl o_data))] A9)) (by decide) rfl rfl (Nat.le_of_ble_eq_true rfl) ?_
  intro p e s m args below meth c A hx hb hr hts hown hml hlocks hname hE hP hD hA hsz ls hl
  have hK := hE.1
  have hl : lv_has ls 3 [(0, .ref q_o), (1, .int p1), (2, .int p2)] := hl
  have hS : va_S A s.heap s.heap [] := va_S.rf
  obtain ⟨QQ, hQQ⟩ : ∃ Q9, Q9 = MQ below (kQi D res [(q_o, .inr (7, [x_o_thrown, x_o_buffer, x_o_bufferLength, x_o_textLength, x_o_position, x_o_error, x_o_errorAt, x_o_errorOffset, .ref q_o_data, x_o_draft, x_o_aside, x_o_history, x_o_undoDepth, x_o_numberStart, x_o_nesting, x_o_seen, x_o_toldPlanes, x_o_stack, x_o_facts])), (q_o_data, .inl (cy 0, 2243, .inl o_data))] A) args s 0 0 A := ⟨_, rfl⟩
  rw [← hQQ]
  have main : ∀ (H : Heap) (locs : List Loc) (ls : Array Slot), va_P D vwCl [(q_o, .inr (7, [x_o_thrown, x_o_buffer, x_o_bufferLength, x_o_textLength, x_o_position, x_o_error, x_o_errorAt, x_o_errorOffset, .ref q_o_data, x_o_draft, x_o_aside, x_o_history, x_o_undoDepth, x_o_numberStart, x_o_nesting, x_o_seen, x_o_toldPlanes, x_o_stack, x_o_facts])), (q_o_data, .inl (cy 0, 2243, .inl o_data))] H → va_D A [(q_o, .inr (7, [x_o_thrown, x_o_buffer, x_o_bufferLength, x_o_textLength, x_o_position, x_o_error, x_o_errorAt, x_o_errorOffset, .ref q_o_data, x_o_draft, x_o_aside, x_o_history, x_o_undoDepth, x_o_numberStart, x_o_nesting, x_o_seen, x_o_toldPlanes, x_o_stack, x_o_facts])), (q_o_data, .inl (cy 0, 2243, .inl o_data))] → va_S A s.heap H locs → lv_has ls 3 [(0, .ref q_o), (1, .int p1), (2, .int p2)] → W p l e ({ frames := 5, cells := 0, slots := 0, locals := 114 } : Room) s m args below meth c H locs 0 0 QQ (F0 m 0 ls []) := by
    intro H locs ls hP hD hS hl
    unfold X7_toldHole at hF
    refine lv_iload_n hx hb dX7_toldHole_0 rfl (lv_at hl 2 rfl) ?_
    refine lv_if_ne (tgt := 12) hx hb dX7_toldHole_1 (by decide) (fun c1 => ?_) (fun c1 => ?_)
    · have hF := if_n hF c1
      refine lv_iload_n hx hb dX7_toldHole_12 rfl (lv_at hl 2 rfl) ?_
      refine lv_iconst (v := 1) hx hb dX7_toldHole_13 (by decide) ?_
      refine lv_icmp_ne (tgt := 25) hx hb dX7_toldHole_14 (by decide) (fun c2 => ?_) (fun c2 => ?_)
      · have hF := if_n hF c2
        refine lv_iload_n hx hb dX7_toldHole_25 rfl (lv_at hl 2 rfl) ?_
        refine lv_iconst (v := 2) hx hb dX7_toldHole_26 (by decide) ?_
        refine lv_icmp_ne (tgt := 38) hx hb dX7_toldHole_27 (by decide) (fun c3 => ?_) (fun c3 => ?_)
        · have hF := if_n hF c3
          refine lv_iload_n hx hb dX7_toldHole_38 rfl (lv_at hl 2 rfl) ?_
          refine lv_iconst (v := 3) hx hb dX7_toldHole_39 (by decide) ?_
          refine lv_icmp_ne (tgt := 51) hx hb dX7_toldHole_40 (by decide) (fun c4 => ?_) (fun c4 => ?_)
          · have hF := if_n hF c4
            refine lv_aload_n hx hb dX7_toldHole_51 rfl (lv_at hl 0 rfl) ?_
            refine lv_iload_n hx hb dX7_toldHole_52 rfl (lv_at hl 1 rfl) ?_
            obtain ⟨r5, h6, hF⟩ := bn1_o hF
            refine kd_i [(q_o, .inr (7, [x_o_thrown, x_o_buffer, x_o_bufferLength, x_o_textLength, x_o_position, x_o_error, x_o_errorAt, x_o_errorOffset, .ref q_o_data, x_o_draft, x_o_aside, x_o_history, x_o_undoDepth, x_o_numberStart, x_o_nesting, x_o_seen, x_o_toldPlanes, x_o_stack, x_o_facts])), (q_o_data, .inl (cy 0, 2243, .inl o_data))] (va_runV (As := [.int p1]) (rest := []) ⟨hx, hb, hml, hown, hts⟩ (c_X7_depthOf q_o q_o_data H.size x_o_thrown x_o_buffer x_o_bufferLength x_o_textLength x_o_position x_o_error x_o_errorAt x_o_errorOffset x_o_draft x_o_aside x_o_history x_o_undoDepth x_o_numberStart x_o_nesting x_o_seen x_o_toldPlanes x_o_stack x_o_facts o_data p1 _ h6) (cwV 1 hts gX7_toldHole_X7_depthOf rfl rfl rfl kd_X7_depthOf ⟨Nat.le_of_ble_eq_true rfl, Nat.le_of_ble_eq_true rfl⟩) ⟨kP_blind (EN_ok D cy) D _ _ _, va_recv hK hP (ci := 7) (q0 := 0) rfl rfl, kStart (EN_ok D cy) hE hP hD hS hA [0, 1] rfl rfl _⟩ rfl rfl hl.1 rfl (lv_room (Nat.le_of_ble_eq_true rfl)) dX7_toldHole_53 ⟨Nat.zero_le _, Nat.zero_le _⟩) hP hD hS hA [0, 1] [] rfl rfl rfl 2 rfl (by decide +kernel) (fun H locs hP hD hS => ?_)
            obtain rfl := so_o hF
            rw [hQQ]
            exact kr_i hx hb hr hlocks hP hD hS dX7_toldHole_56
          · have hF := if_p hF c4
            refine lv_aload_n hx hb dX7_toldHole_43 rfl (lv_at hl 0 rfl) ?_
            refine lv_iload_n hx hb dX7_toldHole_44 rfl (lv_at hl 1 rfl) ?_
            obtain ⟨r7, h8, hF⟩ := bn1_o hF
            refine kd_i [(q_o, .inr (7, [x_o_thrown, x_o_buffer, x_o_bufferLength, x_o_textLength, x_o_position, x_o_error, x_o_errorAt, x_o_errorOffset, .ref q_o_data, x_o_draft, x_o_aside, x_o_history, x_o_undoDepth, x_o_numberStart, x_o_nesting, x_o_seen, x_o_toldPlanes, x_o_stack, x_o_facts])), (q_o_data, .inl (cy 0, 2243, .inl o_data))] (va_runV (As := [.int p1]) (rest := []) ⟨hx, hb, hml, hown, hts⟩ (c_X7_kindsOf q_o q_o_data H.size x_o_thrown x_o_buffer x_o_bufferLength x_o_textLength x_o_position x_o_error x_o_errorAt x_o_errorOffset x_o_draft x_o_aside x_o_history x_o_undoDepth x_o_numberStart x_o_nesting x_o_seen x_o_toldPlanes x_o_stack x_o_facts o_data p1 _ h8) (cwV 1 hts gX7_toldHole_X7_kindsOf rfl rfl rfl kd_X7_kindsOf ⟨Nat.le_of_ble_eq_true rfl, Nat.le_of_ble_eq_true rfl⟩) ⟨kP_blind (EN_ok D cy) D _ _ _, va_recv hK hP (ci := 7) (q0 := 0) rfl rfl, kStart (EN_ok D cy) hE hP hD hS hA [0, 1] rfl rfl _⟩ rfl rfl hl.1 rfl (lv_room (Nat.le_of_ble_eq_true rfl)) dX7_toldHole_45 ⟨Nat.zero_le _, Nat.zero_le _⟩) hP hD hS hA [0, 1] [] rfl rfl rfl 2 rfl (by decide +kernel) (fun H locs hP hD hS => ?_)
            refine lv_goto (tgt := 56) hx hb dX7_toldHole_48 (by decide) ?_
            obtain rfl := so_o hF
            rw [hQQ]
            exact kr_i hx hb hr hlocks hP hD hS dX7_toldHole_56
        · have hF := if_p hF c3
          refine lv_aload_n hx hb dX7_toldHole_30 rfl (lv_at hl 0 rfl) ?_
          refine lv_iload_n hx hb dX7_toldHole_31 rfl (lv_at hl 1 rfl) ?_
          obtain ⟨r9, h10, hF⟩ := bn1_o hF
          refine kd_i [(q_o, .inr (7, [x_o_thrown, x_o_buffer, x_o_bufferLength, x_o_textLength, x_o_position, x_o_error, x_o_errorAt, x_o_errorOffset, .ref q_o_data, x_o_draft, x_o_aside, x_o_history, x_o_undoDepth, x_o_numberStart, x_o_nesting, x_o_seen, x_o_toldPlanes, x_o_stack, x_o_facts])), (q_o_data, .inl (cy 0, 2243, .inl o_data))] (va_runV (As := [.int p1]) (rest := []) ⟨hx, hb, hml, hown, hts⟩ (c_X7_lookerAt q_o q_o_data H.size x_o_thrown x_o_buffer x_o_bufferLength x_o_textLength x_o_position x_o_error x_o_errorAt x_o_errorOffset x_o_draft x_o_aside x_o_history x_o_undoDepth x_o_numberStart x_o_nesting x_o_seen x_o_toldPlanes x_o_stack x_o_facts o_data p1 _ h10) (cwV 1 hts gX7_toldHole_X7_lookerAt rfl rfl rfl kd_X7_lookerAt ⟨Nat.le_of_ble_eq_true rfl, Nat.le_of_ble_eq_true rfl⟩) ⟨kP_blind (EN_ok D cy) D _ _ _, va_recv hK hP (ci := 7) (q0 := 0) rfl rfl, kStart (EN_ok D cy) hE hP hD hS hA [0, 1] rfl rfl _⟩ rfl rfl hl.1 rfl (lv_room (Nat.le_of_ble_eq_true rfl)) dX7_toldHole_32 ⟨Nat.zero_le _, Nat.zero_le _⟩) hP hD hS hA [0, 1] [] rfl rfl rfl 2 rfl (by decide +kernel) (fun H locs hP hD hS => ?_)
          refine lv_goto (tgt := 56) hx hb dX7_toldHole_35 (by decide) ?_
          obtain rfl := so_o hF
          rw [hQQ]
          exact kr_i hx hb hr hlocks hP hD hS dX7_toldHole_56
      · have hF := if_p hF c2
        refine lv_aload_n hx hb dX7_toldHole_17 rfl (lv_at hl 0 rfl) ?_
        refine lv_iload_n hx hb dX7_toldHole_18 rfl (lv_at hl 1 rfl) ?_
        obtain ⟨r11, h12, hF⟩ := bn1_o hF
        refine kd_i [(q_o, .inr (7, [x_o_thrown, x_o_buffer, x_o_bufferLength, x_o_textLength, x_o_position, x_o_error, x_o_errorAt, x_o_errorOffset, .ref q_o_data, x_o_draft, x_o_aside, x_o_history, x_o_undoDepth, x_o_numberStart, x_o_nesting, x_o_seen, x_o_toldPlanes, x_o_stack, x_o_facts])), (q_o_data, .inl (cy 0, 2243, .inl o_data))] (va_runV (As := [.int p1]) (rest := []) ⟨hx, hb, hml, hown, hts⟩ (c_X7_holeY q_o q_o_data H.size x_o_thrown x_o_buffer x_o_bufferLength x_o_textLength x_o_position x_o_error x_o_errorAt x_o_errorOffset x_o_draft x_o_aside x_o_history x_o_undoDepth x_o_numberStart x_o_nesting x_o_seen x_o_toldPlanes x_o_stack x_o_facts o_data p1 _ h12) (cwV 1 hts gX7_toldHole_X7_holeY rfl rfl rfl kd_X7_holeY ⟨Nat.le_of_ble_eq_true rfl, Nat.le_of_ble_eq_true rfl⟩) ⟨kP_blind (EN_ok D cy) D _ _ _, va_recv hK hP (ci := 7) (q0 := 0) rfl rfl, kStart (EN_ok D cy) hE hP hD hS hA [0, 1] rfl rfl _⟩ rfl rfl hl.1 rfl (lv_room (Nat.le_of_ble_eq_true rfl)) dX7_toldHole_19 ⟨Nat.zero_le _, Nat.zero_le _⟩) hP hD hS hA [0, 1] [] rfl rfl rfl 2 rfl (by decide +kernel) (fun H locs hP hD hS => ?_)
        refine lv_goto (tgt := 56) hx hb dX7_toldHole_22 (by decide) ?_
        obtain rfl := so_o hF
        rw [hQQ]
        exact kr_i hx hb hr hlocks hP hD hS dX7_toldHole_56
    · have hF := if_p hF c1
      refine lv_aload_n hx hb dX7_toldHole_4 rfl (lv_at hl 0 rfl) ?_
      refine lv_iload_n hx hb dX7_toldHole_5 rfl (lv_at hl 1 rfl) ?_
      obtain ⟨r13, h14, hF⟩ := bn1_o hF
      refine kd_i [(q_o, .inr (7, [x_o_thrown, x_o_buffer, x_o_bufferLength, x_o_textLength, x_o_position, x_o_error, x_o_errorAt, x_o_errorOffset, .ref q_o_data, x_o_draft, x_o_aside, x_o_history, x_o_undoDepth, x_o_numberStart, x_o_nesting, x_o_seen, x_o_toldPlanes, x_o_stack, x_o_facts])), (q_o_data, .inl (cy 0, 2243, .inl o_data))] (va_runV (As := [.int p1]) (rest := []) ⟨hx, hb, hml, hown, hts⟩ (c_X7_holeX q_o q_o_data H.size x_o_thrown x_o_buffer x_o_bufferLength x_o_textLength x_o_position x_o_error x_o_errorAt x_o_errorOffset x_o_draft x_o_aside x_o_history x_o_undoDepth x_o_numberStart x_o_nesting x_o_seen x_o_toldPlanes x_o_stack x_o_facts o_data p1 _ h14) (cwV 1 hts gX7_toldHole_X7_holeX rfl rfl rfl kd_X7_holeX ⟨Nat.le_of_ble_eq_true rfl, Nat.le_of_ble_eq_true rfl⟩) ⟨kP_blind (EN_ok D cy) D _ _ _, va_recv hK hP (ci := 7) (q0 := 0) rfl rfl, kStart (EN_ok D cy) hE hP hD hS hA [0, 1] rfl rfl _⟩ rfl rfl hl.1 rfl (lv_room (Nat.le_of_ble_eq_true rfl)) dX7_toldHole_6 ⟨Nat.zero_le _, Nat.zero_le _⟩) hP hD hS hA [0, 1] [] rfl rfl rfl 2 rfl (by decide +kernel) (fun H locs hP hD hS => ?_)
      refine lv_goto (tgt := 56) hx hb dX7_toldHole_9 (by decide) ?_
      obtain rfl := so_o hF
      rw [hQQ]
      exact kr_i hx hb hr hlocks hP hD hS dX7_toldHole_56
  exact main s.heap [] ls hP hD hS hl
theorem kd_X7_hole : yX7_hole.cls = RX7 ∧ yX7_hole.cls ≠ "java/lang/invoke/MethodHandle" ∧ yX7_hole.cls ≠ "java/lang/invoke/VarHandle" ∧ (parseMethodDescriptor yX7_hole.desc).map (fun d => d.parameters.length) = some 2 := by decide +kernel
set_option maxHeartbeats 4000000 in
set_option maxRecDepth 100000 in
theorem c_X7_hole {l : Launch} {D : va_G} {cy : Nat → ClassId} (q_o q_o_data : Nat) (sz : Nat) (x_o_buffer x_o_bufferLength x_o_textLength x_o_position x_o_error x_o_errorAt x_o_errorOffset x_o_draft x_o_aside x_o_history x_o_undoDepth x_o_numberStart x_o_nesting x_o_seen x_o_toldPlanes x_o_stack x_o_facts : Value) (o_thrown : Int32) (o_data : Nat → Int32) (p1 : Int32) (p2 : Int32) (res : Int32 × Int32) (hF : X7_hole o_thrown o_data p1 p2 = some res) : Met l yX7_hole wsX7_hole ({ frames := 6, cells := 0, slots := 0, locals := 136 } : Room) (kP (EN D cy) D [.ref q_o, .int p1, .int p2] [(q_o, .inr (7, [.int o_thrown, x_o_buffer, x_o_bufferLength, x_o_textLength, x_o_position, x_o_error, x_o_errorAt, x_o_errorOffset, .ref q_o_data, x_o_draft, x_o_aside, x_o_history, x_o_undoDepth, x_o_numberStart, x_o_nesting, x_o_seen, x_o_toldPlanes, x_o_stack, x_o_facts])), (q_o_data, .inl (cy 0, 2243, .inl o_data))] sz) (kQi D res.1 [(q_o, .inr (7, [.int res.2, x_o_buffer, x_o_bufferLength, x_o_textLength, x_o_position, x_o_error, x_o_errorAt, x_o_errorOffset, .ref q_o_data, x_o_draft, x_o_aside, x_o_history, x_o_undoDepth, x_o_numberStart, x_o_nesting, x_o_seen, x_o_toldPlanes, x_o_stack, x_o_facts])), (q_o_data, .inl (cy 0, 2243, .inl o_data))] (va_A [(q_o, .inr (7, [.int o_thrown, x_o_buffer, x_o_bufferLength, x_o_textLength, x_o_position, x_o_error, x_o_errorAt, x_o_errorOffset, .ref q_o_data, x_o_draft, x_o_aside, x_o_history, x_o_undoDepth, x_o_numberStart, x_o_nesting, x_o_seen, x_o_toldPlanes, x_o_stack, x_o_facts])), (q_o_data, .inl (cy 0, 2243, .inl o_data))] sz)) 0 0 (va_A [(q_o, .inr (7, [.int o_thrown, x_o_buffer, x_o_bufferLength, x_o_textLength, x_o_position, x_o_error, x_o_errorAt, x_o_errorOffset, .ref q_o_data, x_o_draft, x_o_aside, x_o_history, x_o_undoDepth, x_o_numberStart, x_o_nesting, x_o_seen, x_o_toldPlanes, x_o_stack, x_o_facts])), (q_o_data, .inl (cy 0, 2243, .inl o_data))] sz) := by
  refine kMet (y := yX7_hole) (av := [.ref q_o, .int p1, .int p2]) (cc := cX7_hole) (maxL := 3) (ret := some .int) (own := RX7) (Qc := fun A9 => (kQi D res.1 [(q_o, .inr (7, [.int res.2, x_o_buffer, x_o_bufferLength, x_o_textLength, x_o_position, x_o_error, x_o_errorAt, x_o_errorOffset, .ref q_o_data, x_o_draft, x_o_aside, x_o_history, x_o_undoDepth, x_o_numberStart, x_o_nesting, x_o_seen, x_o_toldPlanes, x_o_stack, x_o_facts])), (q_o_data, .inl (cy 0, 2243, .inl o_data))] A9)) (by decide) rfl rfl (Nat.le_of_ble_eq_true rfl) ?_
  intro p e s m args below meth c A hx hb hr hts hown hml hlocks hname hE hP hD hA hsz ls hl
  have hK := hE.1
  have hl : lv_has ls 3 [(0, .ref q_o), (1, .int p1), (2, .int p2)] := hl
  have hS : va_S A s.heap s.heap [] := va_S.rf
  have f_f42 := hts (.fieldLink RX7 42 "PeepBoxModel" "thrown" "I") (by decide +kernel)
  have f_inX7 : ∀ w ∈ wsX70, w ∈ wsX7_hole := by decide +kernel
  obtain ⟨QQ, hQQ⟩ : ∃ Q9, Q9 = MQ below (kQi D res.1 [(q_o, .inr (7, [.int res.2, x_o_buffer, x_o_bufferLength, x_o_textLength, x_o_position, x_o_error, x_o_errorAt, x_o_errorOffset, .ref q_o_data, x_o_draft, x_o_aside, x_o_history, x_o_undoDepth, x_o_numberStart, x_o_nesting, x_o_seen, x_o_toldPlanes, x_o_stack, x_o_facts])), (q_o_data, .inl (cy 0, 2243, .inl o_data))] A) args s 0 0 A := ⟨_, rfl⟩
  rw [← hQQ]
  have J35 : ∀ (o_thrown : Int32) (H : Heap) (locs : List Loc) (ls : Array Slot), va_P D vwCl [(q_o, .inr (7, [.int o_thrown, x_o_buffer, x_o_bufferLength, x_o_textLength, x_o_position, x_o_error, x_o_errorAt, x_o_errorOffset, .ref q_o_data, x_o_draft, x_o_aside, x_o_history, x_o_undoDepth, x_o_numberStart, x_o_nesting, x_o_seen, x_o_toldPlanes, x_o_stack, x_o_facts])), (q_o_data, .inl (cy 0, 2243, .inl o_data))] H → va_D A [(q_o, .inr (7, [.int o_thrown, x_o_buffer, x_o_bufferLength, x_o_textLength, x_o_position, x_o_error, x_o_errorAt, x_o_errorOffset, .ref q_o_data, x_o_draft, x_o_aside, x_o_history, x_o_undoDepth, x_o_numberStart, x_o_nesting, x_o_seen, x_o_toldPlanes, x_o_stack, x_o_facts])), (q_o_data, .inl (cy 0, 2243, .inl o_data))] → va_S A s.heap H locs → lv_has ls 3 [] → X7_hole_J35 o_data p1 p2 o_thrown = some res → W p l e ({ frames := 6, cells := 0, slots := 0, locals := 136 } : Room) s m args below meth c H locs 0 0 QQ (F0 m 35 ls []) := by
    intro o_thrown H locs ls hP hD hS hl hF
    unfold X7_hole_J35 at hF
    refine lv_iconst (v := 0) hx hb dX7_hole_35 (by decide) ?_
    refine lv_goto (tgt := 45) hx hb dX7_hole_36 (by decide) ?_
    obtain rfl := so_o hF
    rw [hQQ]
    exact kr_i hx hb hr hlocks hP hD hS dX7_hole_45
  have J28 : ∀ (k1 : Int32) (o_thrown : Int32) (H : Heap) (locs : List Loc) (ls : Array Slot), va_P D vwCl [(q_o, .inr (7, [.int o_thrown, x_o_buffer, x_o_bufferLength, x_o_textLength, x_o_position, x_o_error, x_o_errorAt, x_o_errorOffset, .ref q_o_data, x_o_draft, x_o_aside, x_o_history, x_o_undoDepth, x_o_numberStart, x_o_nesting, x_o_seen, x_o_toldPlanes, x_o_stack, x_o_facts])), (q_o_data, .inl (cy 0, 2243, .inl o_data))] H → va_D A [(q_o, .inr (7, [.int o_thrown, x_o_buffer, x_o_bufferLength, x_o_textLength, x_o_position, x_o_error, x_o_errorAt, x_o_errorOffset, .ref q_o_data, x_o_draft, x_o_aside, x_o_history, x_o_undoDepth, x_o_numberStart, x_o_nesting, x_o_seen, x_o_toldPlanes, x_o_stack, x_o_facts])), (q_o_data, .inl (cy 0, 2243, .inl o_data))] → va_S A s.heap H locs → lv_has ls 3 [(0, .ref q_o), (1, .int p1), (2, .int p2)] → X7_hole_J28 o_data p1 p2 k1 o_thrown = some res → W p l e ({ frames := 6, cells := 0, slots := 0, locals := 136 } : Room) s m args below meth c H locs 0 0 QQ (F0 m 28 ls [.int k1, .ref q_o]) := by
    intro k1 o_thrown H locs ls hP hD hS hl hF
    unfold X7_hole_J28 at hF
    refine lv_iconst (v := 2) hx hb dX7_hole_28 (by decide) ?_
    obtain ⟨r1, o2, h3, hF⟩ := bn2_o hF
    refine kd_i [(q_o, .inr (7, [.int o2, x_o_buffer, x_o_bufferLength, x_o_textLength, x_o_position, x_o_error, x_o_errorAt, x_o_errorOffset, .ref q_o_data, x_o_draft, x_o_aside, x_o_history, x_o_undoDepth, x_o_numberStart, x_o_nesting, x_o_seen, x_o_toldPlanes, x_o_stack, x_o_facts])), (q_o_data, .inl (cy 0, 2243, .inl o_data))] (va_runV (As := [.int k1, .int (2 : Int32)]) (rest := []) ⟨hx, hb, hml, hown, hts⟩ (c_X7_fails q_o H.size x_o_buffer x_o_bufferLength x_o_textLength x_o_position x_o_error x_o_errorAt x_o_errorOffset (.ref q_o_data) x_o_draft x_o_aside x_o_history x_o_undoDepth x_o_numberStart x_o_nesting x_o_seen x_o_toldPlanes x_o_stack x_o_facts o_thrown k1 (2 : Int32) _ h3) (cwV 2 hts gX7_hole_X7_fails rfl rfl rfl kd_X7_fails ⟨Nat.le_of_ble_eq_true rfl, Nat.le_of_ble_eq_true rfl⟩) ⟨kP_blind (EN_ok D cy) D _ _ _, va_recv hK hP (ci := 7) (q0 := 0) rfl rfl, kStart (EN_ok D cy) hE hP hD hS hA [0] rfl rfl _⟩ rfl rfl hl.1 rfl (lv_room (Nat.le_of_ble_eq_true rfl)) dX7_hole_29 ⟨Nat.zero_le _, Nat.zero_le _⟩) hP hD hS hA [0] [1] rfl rfl rfl 2 rfl (by decide +kernel) (fun H locs hP hD hS => ?_)
    refine lv_if_eq (tgt := 39) hx hb dX7_hole_32 (by decide) (fun c4 => ?_) (fun c4 => ?_)
    · have hF := if_p hF c4
      refine lv_aload_n hx hb dX7_hole_39 rfl (lv_at hl 0 rfl) ?_
      refine lv_iload_n hx hb dX7_hole_40 rfl (lv_at hl 1 rfl) ?_
      refine lv_iload_n hx hb dX7_hole_41 rfl (lv_at hl 2 rfl) ?_
      obtain ⟨r5, h6, hF⟩ := bn1_o hF
      refine kd_i [(q_o, .inr (7, [.int o2, x_o_buffer, x_o_bufferLength, x_o_textLength, x_o_position, x_o_error, x_o_errorAt, x_o_errorOffset, .ref q_o_data, x_o_draft, x_o_aside, x_o_history, x_o_undoDepth, x_o_numberStart, x_o_nesting, x_o_seen, x_o_toldPlanes, x_o_stack, x_o_facts])), (q_o_data, .inl (cy 0, 2243, .inl o_data))] (va_runV (As := [.int p1, .int p2]) (rest := []) ⟨hx, hb, hml, hown, hts⟩ (c_X7_toldHole q_o q_o_data H.size (.int o2) x_o_buffer x_o_bufferLength x_o_textLength x_o_position x_o_error x_o_errorAt x_o_errorOffset x_o_draft x_o_aside x_o_history x_o_undoDepth x_o_numberStart x_o_nesting x_o_seen x_o_toldPlanes x_o_stack x_o_facts o_data p1 p2 _ h6) (cwV 2 hts gX7_hole_X7_toldHole rfl rfl rfl kd_X7_toldHole ⟨Nat.le_of_ble_eq_true rfl, Nat.le_of_ble_eq_true rfl⟩) ⟨kP_blind (EN_ok D cy) D _ _ _, va_recv hK hP (ci := 7) (q0 := 0) rfl rfl, kStart (EN_ok D cy) hE hP hD hS hA [0, 1] rfl rfl _⟩ rfl rfl hl.1 rfl (lv_room (Nat.le_of_ble_eq_true rfl)) dX7_hole_42 ⟨Nat.zero_le _, Nat.zero_le _⟩) hP hD hS hA [0, 1] [] rfl rfl rfl 2 rfl (by decide +kernel) (fun H locs hP hD hS => ?_)
      obtain rfl := so_o hF
      rw [hQQ]
      exact kr_i hx hb hr hlocks hP hD hS dX7_hole_45
    · have hF := if_n hF c4
      exact J35 o2 H locs ls hP hD hS (lv_sub hl [] rfl) hF
  have main : ∀ (H : Heap) (locs : List Loc) (ls : Array Slot), va_P D vwCl [(q_o, .inr (7, [.int o_thrown, x_o_buffer, x_o_bufferLength, x_o_textLength, x_o_position, x_o_error, x_o_errorAt, x_o_errorOffset, .ref q_o_data, x_o_draft, x_o_aside, x_o_history, x_o_undoDepth, x_o_numberStart, x_o_nesting, x_o_seen, x_o_toldPlanes, x_o_stack, x_o_facts])), (q_o_data, .inl (cy 0, 2243, .inl o_data))] H → va_D A [(q_o, .inr (7, [.int o_thrown, x_o_buffer, x_o_bufferLength, x_o_textLength, x_o_position, x_o_error, x_o_errorAt, x_o_errorOffset, .ref q_o_data, x_o_draft, x_o_aside, x_o_history, x_o_undoDepth, x_o_numberStart, x_o_nesting, x_o_seen, x_o_toldPlanes, x_o_stack, x_o_facts])), (q_o_data, .inl (cy 0, 2243, .inl o_data))] → va_S A s.heap H locs → lv_has ls 3 [(0, .ref q_o), (1, .int p1), (2, .int p2)] → W p l e ({ frames := 6, cells := 0, slots := 0, locals := 136 } : Room) s m args below meth c H locs 0 0 QQ (F0 m 0 ls []) := by
    intro H locs ls hP hD hS hl
    unfold X7_hole at hF
    refine lv_aload_n hx hb dX7_hole_0 rfl (lv_at hl 0 rfl) ?_
    refine lv_iconst (v := 0) hx hb dX7_hole_1 (by decide) ?_
    refine va_put (D := D) (ci := 7) (v := .int (0 : Int32)) (ty := .int) (C := RX7) (T := TX7) (N := 19) hx hb hts f_inX7 tyX7 tyX7_ok nmX7 hown hK hP hD hS 0 rfl rfl 0 (by decide) f_f42 (fun _ h9 => h9) rfl (by decide +kernel) rfl rfl (Nat.le_of_ble_eq_true rfl) dX7_hole_2 (fun H locs hP hD hS => ?_)
    have hP : va_P D vwCl [(q_o, .inr (7, [.int (0 : Int32), x_o_buffer, x_o_bufferLength, x_o_textLength, x_o_position, x_o_error, x_o_errorAt, x_o_errorOffset, .ref q_o_data, x_o_draft, x_o_aside, x_o_history, x_o_undoDepth, x_o_numberStart, x_o_nesting, x_o_seen, x_o_toldPlanes, x_o_stack, x_o_facts])), (q_o_data, .inl (cy 0, 2243, .inl o_data))] H := hP
    have hD : va_D A [(q_o, .inr (7, [.int (0 : Int32), x_o_buffer, x_o_bufferLength, x_o_textLength, x_o_position, x_o_error, x_o_errorAt, x_o_errorOffset, .ref q_o_data, x_o_draft, x_o_aside, x_o_history, x_o_undoDepth, x_o_numberStart, x_o_nesting, x_o_seen, x_o_toldPlanes, x_o_stack, x_o_facts])), (q_o_data, .inl (cy 0, 2243, .inl o_data))] := hD
    refine lv_aload_n hx hb dX7_hole_5 rfl (lv_at hl 0 rfl) ?_
    refine lv_iload_n hx hb dX7_hole_6 rfl (lv_at hl 1 rfl) ?_
    obtain ⟨r7, o8, h9, hF⟩ := bn2_o hF
    refine kd_i [(q_o, .inr (7, [.int o8, x_o_buffer, x_o_bufferLength, x_o_textLength, x_o_position, x_o_error, x_o_errorAt, x_o_errorOffset, .ref q_o_data, x_o_draft, x_o_aside, x_o_history, x_o_undoDepth, x_o_numberStart, x_o_nesting, x_o_seen, x_o_toldPlanes, x_o_stack, x_o_facts])), (q_o_data, .inl (cy 0, 2243, .inl o_data))] (va_runV (As := [.int p1]) (rest := []) ⟨hx, hb, hml, hown, hts⟩ (c_X7_noHole q_o q_o_data H.size x_o_buffer x_o_bufferLength x_o_textLength x_o_position x_o_error x_o_errorAt x_o_errorOffset x_o_draft x_o_aside x_o_history x_o_undoDepth x_o_numberStart x_o_nesting x_o_seen x_o_toldPlanes x_o_stack x_o_facts (0 : Int32) o_data p1 _ h9) (cwV 1 hts gX7_hole_X7_noHole rfl rfl rfl kd_X7_noHole ⟨Nat.le_of_ble_eq_true rfl, Nat.le_of_ble_eq_true rfl⟩) ⟨kP_blind (EN_ok D cy) D _ _ _, va_recv hK hP (ci := 7) (q0 := 0) rfl rfl, kStart (EN_ok D cy) hE hP hD hS hA [0, 1] rfl rfl _⟩ rfl rfl hl.1 rfl (lv_room (Nat.le_of_ble_eq_true rfl)) dX7_hole_7 ⟨Nat.zero_le _, Nat.zero_le _⟩) hP hD hS hA [0, 1] [] rfl rfl rfl 2 rfl (by decide +kernel) (fun H locs hP hD hS => ?_)
    refine lv_if_ne (tgt := 35) hx hb dX7_hole_10 (by decide) (fun c10 => ?_) (fun c10 => ?_)
    · have hF := if_n hF c10
      exact J35 o8 H locs ls hP hD hS (lv_sub hl [] rfl) hF
    · have hF := if_p hF c10
      refine lv_aload_n hx hb dX7_hole_13 rfl (lv_at hl 0 rfl) ?_
      refine lv_iload_n hx hb dX7_hole_14 rfl (lv_at hl 2 rfl) ?_
      refine lv_iconst (v := 0) hx hb dX7_hole_15 (by decide) ?_
      refine lv_iconst (v := 4) hx hb dX7_hole_16 (by decide) ?_
      obtain ⟨r11, h12, hF⟩ := bn1_o hF
      refine kd_i [(q_o, .inr (7, [.int o8, x_o_buffer, x_o_bufferLength, x_o_textLength, x_o_position, x_o_error, x_o_errorAt, x_o_errorOffset, .ref q_o_data, x_o_draft, x_o_aside, x_o_history, x_o_undoDepth, x_o_numberStart, x_o_nesting, x_o_seen, x_o_toldPlanes, x_o_stack, x_o_facts])), (q_o_data, .inl (cy 0, 2243, .inl o_data))] (va_runS (As := [.int p2, .int (0 : Int32), .int (4 : Int32)]) (rest := [.ref q_o]) ⟨hx, hb, hml, hown, hts⟩ (c_X7_in H.size p2 (0 : Int32) (4 : Int32) _ h12) (va_cwS 3 hts gX7_hole_X7_in rfl rfl rfl kd_X7_in ⟨Nat.le_of_ble_eq_true rfl, Nat.le_of_ble_eq_true rfl⟩) ⟨kP_blind (EN_ok D cy) D _ _ _, kStart (EN_ok D cy) hE hP hD hS hA [] rfl rfl _⟩ rfl rfl hl.1 rfl (lv_room (Nat.le_of_ble_eq_true rfl)) dX7_hole_17 ⟨Nat.zero_le _, Nat.zero_le _⟩) hP hD hS hA [] [0, 1] rfl rfl rfl 2 rfl (by decide +kernel) (fun H locs hP hD hS => ?_)
      refine lv_if_ne (tgt := 27) hx hb dX7_hole_20 (by decide) (fun c13 => ?_) (fun c13 => ?_)
      · have hF := if_n hF c13
        refine lv_iconst (v := 0) hx hb dX7_hole_27 (by decide) ?_
        exact J28 (0 : Int32) o8 H locs ls hP hD hS (lv_sub hl [0, 1, 2] rfl) hF
      · have hF := if_p hF c13
        refine lv_iconst (v := 1) hx hb dX7_hole_23 (by decide) ?_
        refine lv_goto (tgt := 28) hx hb dX7_hole_24 (by decide) ?_
        exact J28 (1 : Int32) o8 H locs ls hP hD hS (lv_sub hl [0, 1, 2] rfl) hF
  exact main s.heap [] ls hP hD hS hl
theorem kd_X7_sees : yX7_sees.cls = RX7 ∧ yX7_sees.cls ≠ "java/lang/invoke/MethodHandle" ∧ yX7_sees.cls ≠ "java/lang/invoke/VarHandle" ∧ (parseMethodDescriptor yX7_sees.desc).map (fun d => d.parameters.length) = some 3 := by decide +kernel
set_option maxHeartbeats 4000000 in
set_option maxRecDepth 100000 in
theorem c_X7_sees {l : Launch} {D : va_G} {cy : Nat → ClassId} (q_o q_o_data : Nat) (sz : Nat) (x_o_buffer x_o_bufferLength x_o_textLength x_o_position x_o_error x_o_errorAt x_o_errorOffset x_o_draft x_o_aside x_o_history x_o_undoDepth x_o_numberStart x_o_nesting x_o_seen x_o_toldPlanes x_o_stack x_o_facts : Value) (o_thrown : Int32) (o_data : Nat → Int32) (p1 : Int32) (p2 : Int32) (p3 : Int32) (res : Int32 × Int32) (hF : X7_sees o_thrown o_data p1 p2 p3 = some res) : Met l yX7_sees wsX7_sees ({ frames := 4, cells := 0, slots := 0, locals := 90 } : Room) (kP (EN D cy) D [.ref q_o, .int p1, .int p2, .int p3] [(q_o, .inr (7, [.int o_thrown, x_o_buffer, x_o_bufferLength, x_o_textLength, x_o_position, x_o_error, x_o_errorAt, x_o_errorOffset, .ref q_o_data, x_o_draft, x_o_aside, x_o_history, x_o_undoDepth, x_o_numberStart, x_o_nesting, x_o_seen, x_o_toldPlanes, x_o_stack, x_o_facts])), (q_o_data, .inl (cy 0, 2243, .inl o_data))] sz) (kQi D res.1 [(q_o, .inr (7, [.int res.2, x_o_buffer, x_o_bufferLength, x_o_textLength, x_o_position, x_o_error, x_o_errorAt, x_o_errorOffset, .ref q_o_data, x_o_draft, x_o_aside, x_o_history, x_o_undoDepth, x_o_numberStart, x_o_nesting, x_o_seen, x_o_toldPlanes, x_o_stack, x_o_facts])), (q_o_data, .inl (cy 0, 2243, .inl o_data))] (va_A [(q_o, .inr (7, [.int o_thrown, x_o_buffer, x_o_bufferLength, x_o_textLength, x_o_position, x_o_error, x_o_errorAt, x_o_errorOffset, .ref q_o_data, x_o_draft, x_o_aside, x_o_history, x_o_undoDepth, x_o_numberStart, x_o_nesting, x_o_seen, x_o_toldPlanes, x_o_stack, x_o_facts])), (q_o_data, .inl (cy 0, 2243, .inl o_data))] sz)) 0 0 (va_A [(q_o, .inr (7, [.int o_thrown, x_o_buffer, x_o_bufferLength, x_o_textLength, x_o_position, x_o_error, x_o_errorAt, x_o_errorOffset, .ref q_o_data, x_o_draft, x_o_aside, x_o_history, x_o_undoDepth, x_o_numberStart, x_o_nesting, x_o_seen, x_o_toldPlanes, x_o_stack, x_o_facts])), (q_o_data, .inl (cy 0, 2243, .inl o_data))] sz) := by
  refine kMet (y := yX7_sees) (av := [.ref q_o, .int p1, .int p2, .int p3]) (cc := cX7_sees) (maxL := 5) (ret := some .int) (own := RX7) (Qc := fun A9 => (kQi D res.1 [(q_o, .inr (7, [.int res.2, x_o_buffer, x_o_bufferLength, x_o_textLength, x_o_position, x_o_error, x_o_errorAt, x_o_errorOffset, .ref q_o_data, x_o_draft, x_o_aside, x_o_history, x_o_undoDepth, x_o_numberStart, x_o_nesting, x_o_seen, x_o_toldPlanes, x_o_stack, x_o_facts])), (q_o_data, .inl (cy 0, 2243, .inl o_data))] A9)) (by decide) rfl rfl (Nat.le_of_ble_eq_true rfl) ?_
  intro p e s m args below meth c A hx hb hr hts hown hml hlocks hname hE hP hD hA hsz ls hl
  have hK := hE.1
  have hl : lv_has ls 5 [(0, .ref q_o), (1, .int p1), (2, .int p2), (3, .int p3)] := hl
  have hS : va_S A s.heap s.heap [] := va_S.rf
  have f_f42 := hts (.fieldLink RX7 42 "PeepBoxModel" "thrown" "I") (by decide +kernel)
  have f_inX7 : ∀ w ∈ wsX70, w ∈ wsX7_sees := by decide +kernel
  have f_f17 := hts (.fieldLink RX7 17 "PeepBoxModel" "data" "[I") (by decide +kernel)
  obtain ⟨QQ, hQQ⟩ : ∃ Q9, Q9 = MQ below (kQi D res.1 [(q_o, .inr (7, [.int res.2, x_o_buffer, x_o_bufferLength, x_o_textLength, x_o_position, x_o_error, x_o_errorAt, x_o_errorOffset, .ref q_o_data, x_o_draft, x_o_aside, x_o_history, x_o_undoDepth, x_o_numberStart, x_o_nesting, x_o_seen, x_o_toldPlanes, x_o_stack, x_o_facts])), (q_o_data, .inl (cy 0, 2243, .inl o_data))] A) args s 0 0 A := ⟨_, rfl⟩
  rw [← hQQ]
  have main : ∀ (H : Heap) (locs : List Loc) (ls : Array Slot), va_P D vwCl [(q_o, .inr (7, [.int o_thrown, x_o_buffer, x_o_bufferLength, x_o_textLength, x_o_position, x_o_error, x_o_errorAt, x_o_errorOffset, .ref q_o_data, x_o_draft, x_o_aside, x_o_history, x_o_undoDepth, x_o_numberStart, x_o_nesting, x_o_seen, x_o_toldPlanes, x_o_stack, x_o_facts])), (q_o_data, .inl (cy 0, 2243, .inl o_data))] H → va_D A [(q_o, .inr (7, [.int o_thrown, x_o_buffer, x_o_bufferLength, x_o_textLength, x_o_position, x_o_error, x_o_errorAt, x_o_errorOffset, .ref q_o_data, x_o_draft, x_o_aside, x_o_history, x_o_undoDepth, x_o_numberStart, x_o_nesting, x_o_seen, x_o_toldPlanes, x_o_stack, x_o_facts])), (q_o_data, .inl (cy 0, 2243, .inl o_data))] → va_S A s.heap H locs → lv_has ls 5 [(0, .ref q_o), (1, .int p1), (2, .int p2), (3, .int p3)] → W p l e ({ frames := 4, cells := 0, slots := 0, locals := 90 } : Room) s m args below meth c H locs 0 0 QQ (F0 m 0 ls []) := by
    intro H locs ls hP hD hS hl
    unfold X7_sees at hF
    refine lv_aload_n hx hb dX7_sees_0 rfl (lv_at hl 0 rfl) ?_
    refine lv_iconst (v := 0) hx hb dX7_sees_1 (by decide) ?_
    refine va_put (D := D) (ci := 7) (v := .int (0 : Int32)) (ty := .int) (C := RX7) (T := TX7) (N := 19) hx hb hts f_inX7 tyX7 tyX7_ok nmX7 hown hK hP hD hS 0 rfl rfl 0 (by decide) f_f42 (fun _ h9 => h9) rfl (by decide +kernel) rfl rfl (Nat.le_of_ble_eq_true rfl) dX7_sees_2 (fun H locs hP hD hS => ?_)
    have hP : va_P D vwCl [(q_o, .inr (7, [.int (0 : Int32), x_o_buffer, x_o_bufferLength, x_o_textLength, x_o_position, x_o_error, x_o_errorAt, x_o_errorOffset, .ref q_o_data, x_o_draft, x_o_aside, x_o_history, x_o_undoDepth, x_o_numberStart, x_o_nesting, x_o_seen, x_o_toldPlanes, x_o_stack, x_o_facts])), (q_o_data, .inl (cy 0, 2243, .inl o_data))] H := hP
    have hD : va_D A [(q_o, .inr (7, [.int (0 : Int32), x_o_buffer, x_o_bufferLength, x_o_textLength, x_o_position, x_o_error, x_o_errorAt, x_o_errorOffset, .ref q_o_data, x_o_draft, x_o_aside, x_o_history, x_o_undoDepth, x_o_numberStart, x_o_nesting, x_o_seen, x_o_toldPlanes, x_o_stack, x_o_facts])), (q_o_data, .inl (cy 0, 2243, .inl o_data))] := hD
    refine lv_aload_n hx hb dX7_sees_5 rfl (lv_at hl 0 rfl) ?_
    refine lv_iload_n hx hb dX7_sees_6 rfl (lv_at hl 1 rfl) ?_
    obtain ⟨r1, o2, h3, hF⟩ := bn2_o hF
    refine kd_i [(q_o, .inr (7, [.int o2, x_o_buffer, x_o_bufferLength, x_o_textLength, x_o_position, x_o_error, x_o_errorAt, x_o_errorOffset, .ref q_o_data, x_o_draft, x_o_aside, x_o_history, x_o_undoDepth, x_o_numberStart, x_o_nesting, x_o_seen, x_o_toldPlanes, x_o_stack, x_o_facts])), (q_o_data, .inl (cy 0, 2243, .inl o_data))] (va_runV (As := [.int p1]) (rest := []) ⟨hx, hb, hml, hown, hts⟩ (c_X7_noHole q_o q_o_data H.size x_o_buffer x_o_bufferLength x_o_textLength x_o_position x_o_error x_o_errorAt x_o_errorOffset x_o_draft x_o_aside x_o_history x_o_undoDepth x_o_numberStart x_o_nesting x_o_seen x_o_toldPlanes x_o_stack x_o_facts (0 : Int32) o_data p1 _ h3) (cwV 1 hts gX7_sees_X7_noHole rfl rfl rfl kd_X7_noHole ⟨Nat.le_of_ble_eq_true rfl, Nat.le_of_ble_eq_true rfl⟩) ⟨kP_blind (EN_ok D cy) D _ _ _, va_recv hK hP (ci := 7) (q0 := 0) rfl rfl, kStart (EN_ok D cy) hE hP hD hS hA [0, 1] rfl rfl _⟩ rfl rfl hl.1 rfl (lv_room (Nat.le_of_ble_eq_true rfl)) dX7_sees_7 ⟨Nat.zero_le _, Nat.zero_le _⟩) hP hD hS hA [0, 1] [] rfl rfl rfl 2 rfl (by decide +kernel) (fun H locs hP hD hS => ?_)
    refine lv_if_ne (tgt := 22) hx hb dX7_sees_10 (by decide) (fun c4 => ?_) (fun c4 => ?_)
    · have hF := if_n hF c4
      refine lv_iconst (v := 0) hx hb dX7_sees_22 (by decide) ?_
      obtain rfl := so_o hF
      rw [hQQ]
      exact kr_i hx hb hr hlocks hP hD hS dX7_sees_23
    · have hF := if_p hF c4
      refine lv_aload_n hx hb dX7_sees_13 rfl (lv_at hl 0 rfl) ?_
      refine lv_iload_n hx hb dX7_sees_14 rfl (lv_at hl 2 rfl) ?_
      refine lv_iload_n hx hb dX7_sees_15 rfl (lv_at hl 3 rfl) ?_
      obtain ⟨r5, o6, h7, hF⟩ := bn2_o hF
      refine kd_i [(q_o, .inr (7, [.int o6, x_o_buffer, x_o_bufferLength, x_o_textLength, x_o_position, x_o_error, x_o_errorAt, x_o_errorOffset, .ref q_o_data, x_o_draft, x_o_aside, x_o_history, x_o_undoDepth, x_o_numberStart, x_o_nesting, x_o_seen, x_o_toldPlanes, x_o_stack, x_o_facts])), (q_o_data, .inl (cy 0, 2243, .inl o_data))] (va_runV (As := [.int p2, .int p3]) (rest := []) ⟨hx, hb, hml, hown, hts⟩ (c_X7_noCell q_o q_o_data H.size x_o_buffer x_o_bufferLength x_o_textLength x_o_position x_o_error x_o_errorAt x_o_errorOffset x_o_draft x_o_aside x_o_history x_o_undoDepth x_o_numberStart x_o_nesting x_o_seen x_o_toldPlanes x_o_stack x_o_facts o2 o_data p2 p3 _ h7) (cwV 2 hts gX7_sees_X7_noCell rfl rfl rfl kd_X7_noCell ⟨Nat.le_of_ble_eq_true rfl, Nat.le_of_ble_eq_true rfl⟩) ⟨kP_blind (EN_ok D cy) D _ _ _, va_recv hK hP (ci := 7) (q0 := 0) rfl rfl, kStart (EN_ok D cy) hE hP hD hS hA [0, 1] rfl rfl _⟩ rfl rfl hl.1 rfl (lv_room (Nat.le_of_ble_eq_true rfl)) dX7_sees_16 ⟨Nat.zero_le _, Nat.zero_le _⟩) hP hD hS hA [0, 1] [] rfl rfl rfl 2 rfl (by decide +kernel) (fun H locs hP hD hS => ?_)
      refine lv_if_eq (tgt := 24) hx hb dX7_sees_19 (by decide) (fun c8 => ?_) (fun c8 => ?_)
      · have hF := if_p hF c8
        refine lv_aload_n hx hb dX7_sees_24 rfl (lv_at hl 0 rfl) ?_
        refine va_get (D := D) (ci := 7) (v := .ref q_o_data) (C := RX7) (T := TX7) (N := 19) hx hb hts f_inX7 hown hK hP 0 rfl rfl 8 (by decide) f_f17 (fun _ h9 => h9) rfl dX7_sees_25 ?_
        refine lv_iconst (v := 0) hx hb dX7_sees_28 (by decide) ?_
        obtain ⟨h9, hF⟩ := ld_o hF
        refine va_iald hx hb hK hP 1 0 rfl rfl h9 dX7_sees_29 ?_
        refine lv_topi (fun v10 ev10 => ?_)
        have hF := hF v10 ev10
        refine lv_iload_n hx hb dX7_sees_30 rfl (lv_at hl 3 rfl) ?_
        refine lv_imul hx hb dX7_sees_31 ?_
        refine lv_iload_n hx hb dX7_sees_32 rfl (lv_at hl 2 rfl) ?_
        refine lv_iadd hx hb dX7_sees_33 ?_
        refine lv_topi (fun v11 ev11 => ?_)
        have hF := nm_o hF v11 ev11
        refine lv_istore (lv' := [(4, .int v11), (0, .ref q_o), (1, .int p1), (2, .int p2), (3, .int p3)]) hx hb dX7_sees_34 hl (by decide) rfl (fun ls hl => ?_)
        refine lv_bipush (v := 100) hx hb dX7_sees_36 (by decide) ?_
        refine lv_aload_n hx hb dX7_sees_38 rfl (lv_at hl 1 rfl) ?_
        refine lv_iload_n hx hb dX7_sees_39 rfl (lv_at hl 2 rfl) ?_
        refine lv_iload hx hb dX7_sees_40 (lv_at hl 0 rfl) ?_
        obtain ⟨r12, h13, hF⟩ := bn1_o hF
        refine kd_i [(q_o, .inr (7, [.int o6, x_o_buffer, x_o_bufferLength, x_o_textLength, x_o_position, x_o_error, x_o_errorAt, x_o_errorOffset, .ref q_o_data, x_o_draft, x_o_aside, x_o_history, x_o_undoDepth, x_o_numberStart, x_o_nesting, x_o_seen, x_o_toldPlanes, x_o_stack, x_o_facts])), (q_o_data, .inl (cy 0, 2243, .inl o_data))] (va_runV (As := [.int p1, .int v11]) (rest := [.int (100 : Int32)]) ⟨hx, hb, hml, hown, hts⟩ (c_X7_planeSeen q_o q_o_data H.size (.int o6) x_o_buffer x_o_bufferLength x_o_textLength x_o_position x_o_error x_o_errorAt x_o_errorOffset x_o_draft x_o_aside x_o_history x_o_undoDepth x_o_numberStart x_o_nesting x_o_seen x_o_toldPlanes x_o_stack x_o_facts o_data p1 v11 _ h13) (cwV 2 hts gX7_sees_X7_planeSeen rfl rfl rfl kd_X7_planeSeen ⟨Nat.le_of_ble_eq_true rfl, Nat.le_of_ble_eq_true rfl⟩) ⟨kP_blind (EN_ok D cy) D _ _ _, va_recv hK hP (ci := 7) (q0 := 0) rfl rfl, kStart (EN_ok D cy) hE hP hD hS hA [0, 1] rfl rfl _⟩ rfl rfl hl.1 rfl (lv_room (Nat.le_of_ble_eq_true rfl)) dX7_sees_42 ⟨Nat.zero_le _, Nat.zero_le _⟩) hP hD hS hA [0, 1] [] rfl rfl rfl 2 rfl (by decide +kernel) (fun H locs hP hD hS => ?_)
        refine lv_imul hx hb dX7_sees_45 ?_
        refine lv_aload_n hx hb dX7_sees_46 rfl (lv_at hl 1 rfl) ?_
        refine lv_iload_n hx hb dX7_sees_47 rfl (lv_at hl 2 rfl) ?_
        refine lv_iload hx hb dX7_sees_48 (lv_at hl 0 rfl) ?_
        obtain ⟨r14, h15, hF⟩ := bn1_o hF
        refine kd_i [(q_o, .inr (7, [.int o6, x_o_buffer, x_o_bufferLength, x_o_textLength, x_o_position, x_o_error, x_o_errorAt, x_o_errorOffset, .ref q_o_data, x_o_draft, x_o_aside, x_o_history, x_o_undoDepth, x_o_numberStart, x_o_nesting, x_o_seen, x_o_toldPlanes, x_o_stack, x_o_facts])), (q_o_data, .inl (cy 0, 2243, .inl o_data))] (va_runV (As := [.int p1, .int v11]) (rest := [.int ((100 : Int32) * r12)]) ⟨hx, hb, hml, hown, hts⟩ (c_X7_kindSeen q_o q_o_data H.size (.int o6) x_o_buffer x_o_bufferLength x_o_textLength x_o_position x_o_error x_o_errorAt x_o_errorOffset x_o_draft x_o_aside x_o_history x_o_undoDepth x_o_numberStart x_o_nesting x_o_seen x_o_toldPlanes x_o_stack x_o_facts o_data p1 v11 _ h15) (cwV 2 hts gX7_sees_X7_kindSeen rfl rfl rfl kd_X7_kindSeen ⟨Nat.le_of_ble_eq_true rfl, Nat.le_of_ble_eq_true rfl⟩) ⟨kP_blind (EN_ok D cy) D _ _ _, va_recv hK hP (ci := 7) (q0 := 0) rfl rfl, kStart (EN_ok D cy) hE hP hD hS hA [0, 1] rfl rfl _⟩ rfl rfl hl.1 rfl (lv_room (Nat.le_of_ble_eq_true rfl)) dX7_sees_50 ⟨Nat.zero_le _, Nat.zero_le _⟩) hP hD hS hA [0, 1] [] rfl rfl rfl 2 rfl (by decide +kernel) (fun H locs hP hD hS => ?_)
        refine lv_iadd hx hb dX7_sees_53 ?_
        obtain rfl := so_o hF
        rw [hQQ]
        exact kr_i hx hb hr hlocks hP hD hS dX7_sees_54
      · have hF := if_n hF c8
        refine lv_iconst (v := 0) hx hb dX7_sees_22 (by decide) ?_
        obtain rfl := so_o hF
        rw [hQQ]
        exact kr_i hx hb hr hlocks hP hD hS dX7_sees_23
  exact main s.heap [] ls hP hD hS hl
theorem kd_X7_shown : yX7_shown.cls = RX7 ∧ yX7_shown.cls ≠ "java/lang/invoke/MethodHandle" ∧ yX7_shown.cls ≠ "java/lang/invoke/VarHandle" ∧ (parseMethodDescriptor yX7_shown.desc).map (fun d => d.parameters.length) = some 2 := by decide +kernel
set_option maxHeartbeats 4000000 in
set_option maxRecDepth 100000 in
theorem c_X7_shown {l : Launch} {D : va_G} {cy : Nat → ClassId} (q_o q_o_data : Nat) (sz : Nat) (x_o_buffer x_o_bufferLength x_o_textLength x_o_position x_o_error x_o_errorAt x_o_errorOffset x_o_draft x_o_aside x_o_history x_o_undoDepth x_o_numberStart x_o_nesting x_o_seen x_o_toldPlanes x_o_stack x_o_facts : Value) (o_thrown : Int32) (o_data : Nat → Int32) (p1 : Int32) (p2 : Int32) (res : Int32 × Int32) (hF : X7_shown o_thrown o_data p1 p2 = some res) : Met l yX7_shown wsX7_shown ({ frames := 5, cells := 0, slots := 0, locals := 114 } : Room) (kP (EN D cy) D [.ref q_o, .int p1, .int p2] [(q_o, .inr (7, [.int o_thrown, x_o_buffer, x_o_bufferLength, x_o_textLength, x_o_position, x_o_error, x_o_errorAt, x_o_errorOffset, .ref q_o_data, x_o_draft, x_o_aside, x_o_history, x_o_undoDepth, x_o_numberStart, x_o_nesting, x_o_seen, x_o_toldPlanes, x_o_stack, x_o_facts])), (q_o_data, .inl (cy 0, 2243, .inl o_data))] sz) (kQi D res.1 [(q_o, .inr (7, [.int res.2, x_o_buffer, x_o_bufferLength, x_o_textLength, x_o_position, x_o_error, x_o_errorAt, x_o_errorOffset, .ref q_o_data, x_o_draft, x_o_aside, x_o_history, x_o_undoDepth, x_o_numberStart, x_o_nesting, x_o_seen, x_o_toldPlanes, x_o_stack, x_o_facts])), (q_o_data, .inl (cy 0, 2243, .inl o_data))] (va_A [(q_o, .inr (7, [.int o_thrown, x_o_buffer, x_o_bufferLength, x_o_textLength, x_o_position, x_o_error, x_o_errorAt, x_o_errorOffset, .ref q_o_data, x_o_draft, x_o_aside, x_o_history, x_o_undoDepth, x_o_numberStart, x_o_nesting, x_o_seen, x_o_toldPlanes, x_o_stack, x_o_facts])), (q_o_data, .inl (cy 0, 2243, .inl o_data))] sz)) 0 0 (va_A [(q_o, .inr (7, [.int o_thrown, x_o_buffer, x_o_bufferLength, x_o_textLength, x_o_position, x_o_error, x_o_errorAt, x_o_errorOffset, .ref q_o_data, x_o_draft, x_o_aside, x_o_history, x_o_undoDepth, x_o_numberStart, x_o_nesting, x_o_seen, x_o_toldPlanes, x_o_stack, x_o_facts])), (q_o_data, .inl (cy 0, 2243, .inl o_data))] sz) := by
  refine kMet (y := yX7_shown) (av := [.ref q_o, .int p1, .int p2]) (cc := cX7_shown) (maxL := 3) (ret := some .int) (own := RX7) (Qc := fun A9 => (kQi D res.1 [(q_o, .inr (7, [.int res.2, x_o_buffer, x_o_bufferLength, x_o_textLength, x_o_position, x_o_error, x_o_errorAt, x_o_errorOffset, .ref q_o_data, x_o_draft, x_o_aside, x_o_history, x_o_undoDepth, x_o_numberStart, x_o_nesting, x_o_seen, x_o_toldPlanes, x_o_stack, x_o_facts])), (q_o_data, .inl (cy 0, 2243, .inl o_data))] A9)) (by decide) rfl rfl (Nat.le_of_ble_eq_true rfl) ?_
  intro p e s m args below meth c A hx hb hr hts hown hml hlocks hname hE hP hD hA hsz ls hl
  have hK := hE.1
  have hl : lv_has ls 3 [(0, .ref q_o), (1, .int p1), (2, .int p2)] := hl
  have hS : va_S A s.heap s.heap [] := va_S.rf
  have f_f42 := hts (.fieldLink RX7 42 "PeepBoxModel" "thrown" "I") (by decide +kernel)
  have f_inX7 : ∀ w ∈ wsX70, w ∈ wsX7_shown := by decide +kernel
  obtain ⟨QQ, hQQ⟩ : ∃ Q9, Q9 = MQ below (kQi D res.1 [(q_o, .inr (7, [.int res.2, x_o_buffer, x_o_bufferLength, x_o_textLength, x_o_position, x_o_error, x_o_errorAt, x_o_errorOffset, .ref q_o_data, x_o_draft, x_o_aside, x_o_history, x_o_undoDepth, x_o_numberStart, x_o_nesting, x_o_seen, x_o_toldPlanes, x_o_stack, x_o_facts])), (q_o_data, .inl (cy 0, 2243, .inl o_data))] A) args s 0 0 A := ⟨_, rfl⟩
  rw [← hQQ]
  have J36 : ∀ (o_thrown : Int32) (H : Heap) (locs : List Loc) (ls : Array Slot), va_P D vwCl [(q_o, .inr (7, [.int o_thrown, x_o_buffer, x_o_bufferLength, x_o_textLength, x_o_position, x_o_error, x_o_errorAt, x_o_errorOffset, .ref q_o_data, x_o_draft, x_o_aside, x_o_history, x_o_undoDepth, x_o_numberStart, x_o_nesting, x_o_seen, x_o_toldPlanes, x_o_stack, x_o_facts])), (q_o_data, .inl (cy 0, 2243, .inl o_data))] H → va_D A [(q_o, .inr (7, [.int o_thrown, x_o_buffer, x_o_bufferLength, x_o_textLength, x_o_position, x_o_error, x_o_errorAt, x_o_errorOffset, .ref q_o_data, x_o_draft, x_o_aside, x_o_history, x_o_undoDepth, x_o_numberStart, x_o_nesting, x_o_seen, x_o_toldPlanes, x_o_stack, x_o_facts])), (q_o_data, .inl (cy 0, 2243, .inl o_data))] → va_S A s.heap H locs → lv_has ls 3 [] → X7_shown_J36 o_data p1 p2 o_thrown = some res → W p l e ({ frames := 5, cells := 0, slots := 0, locals := 114 } : Room) s m args below meth c H locs 0 0 QQ (F0 m 36 ls []) := by
    intro o_thrown H locs ls hP hD hS hl hF
    unfold X7_shown_J36 at hF
    refine lv_iconst (v := 0) hx hb dX7_shown_36 (by decide) ?_
    refine lv_goto (tgt := 46) hx hb dX7_shown_37 (by decide) ?_
    obtain rfl := so_o hF
    rw [hQQ]
    exact kr_i hx hb hr hlocks hP hD hS dX7_shown_46
  have J29 : ∀ (k1 : Int32) (o_thrown : Int32) (H : Heap) (locs : List Loc) (ls : Array Slot), va_P D vwCl [(q_o, .inr (7, [.int o_thrown, x_o_buffer, x_o_bufferLength, x_o_textLength, x_o_position, x_o_error, x_o_errorAt, x_o_errorOffset, .ref q_o_data, x_o_draft, x_o_aside, x_o_history, x_o_undoDepth, x_o_numberStart, x_o_nesting, x_o_seen, x_o_toldPlanes, x_o_stack, x_o_facts])), (q_o_data, .inl (cy 0, 2243, .inl o_data))] H → va_D A [(q_o, .inr (7, [.int o_thrown, x_o_buffer, x_o_bufferLength, x_o_textLength, x_o_position, x_o_error, x_o_errorAt, x_o_errorOffset, .ref q_o_data, x_o_draft, x_o_aside, x_o_history, x_o_undoDepth, x_o_numberStart, x_o_nesting, x_o_seen, x_o_toldPlanes, x_o_stack, x_o_facts])), (q_o_data, .inl (cy 0, 2243, .inl o_data))] → va_S A s.heap H locs → lv_has ls 3 [(0, .ref q_o), (1, .int p1), (2, .int p2)] → X7_shown_J29 o_data p1 p2 k1 o_thrown = some res → W p l e ({ frames := 5, cells := 0, slots := 0, locals := 114 } : Room) s m args below meth c H locs 0 0 QQ (F0 m 29 ls [.int k1, .ref q_o]) := by
    intro k1 o_thrown H locs ls hP hD hS hl hF
    unfold X7_shown_J29 at hF
    refine lv_iconst (v := 2) hx hb dX7_shown_29 (by decide) ?_
    obtain ⟨r1, o2, h3, hF⟩ := bn2_o hF
    refine kd_i [(q_o, .inr (7, [.int o2, x_o_buffer, x_o_bufferLength, x_o_textLength, x_o_position, x_o_error, x_o_errorAt, x_o_errorOffset, .ref q_o_data, x_o_draft, x_o_aside, x_o_history, x_o_undoDepth, x_o_numberStart, x_o_nesting, x_o_seen, x_o_toldPlanes, x_o_stack, x_o_facts])), (q_o_data, .inl (cy 0, 2243, .inl o_data))] (va_runV (As := [.int k1, .int (2 : Int32)]) (rest := []) ⟨hx, hb, hml, hown, hts⟩ (c_X7_fails q_o H.size x_o_buffer x_o_bufferLength x_o_textLength x_o_position x_o_error x_o_errorAt x_o_errorOffset (.ref q_o_data) x_o_draft x_o_aside x_o_history x_o_undoDepth x_o_numberStart x_o_nesting x_o_seen x_o_toldPlanes x_o_stack x_o_facts o_thrown k1 (2 : Int32) _ h3) (cwV 2 hts gX7_shown_X7_fails rfl rfl rfl kd_X7_fails ⟨Nat.le_of_ble_eq_true rfl, Nat.le_of_ble_eq_true rfl⟩) ⟨kP_blind (EN_ok D cy) D _ _ _, va_recv hK hP (ci := 7) (q0 := 0) rfl rfl, kStart (EN_ok D cy) hE hP hD hS hA [0] rfl rfl _⟩ rfl rfl hl.1 rfl (lv_room (Nat.le_of_ble_eq_true rfl)) dX7_shown_30 ⟨Nat.zero_le _, Nat.zero_le _⟩) hP hD hS hA [0] [1] rfl rfl rfl 2 rfl (by decide +kernel) (fun H locs hP hD hS => ?_)
    refine lv_if_eq (tgt := 40) hx hb dX7_shown_33 (by decide) (fun c4 => ?_) (fun c4 => ?_)
    · have hF := if_p hF c4
      refine lv_aload_n hx hb dX7_shown_40 rfl (lv_at hl 0 rfl) ?_
      refine lv_iload_n hx hb dX7_shown_41 rfl (lv_at hl 1 rfl) ?_
      refine lv_iload_n hx hb dX7_shown_42 rfl (lv_at hl 2 rfl) ?_
      obtain ⟨r5, h6, hF⟩ := bn1_o hF
      refine kd_i [(q_o, .inr (7, [.int o2, x_o_buffer, x_o_bufferLength, x_o_textLength, x_o_position, x_o_error, x_o_errorAt, x_o_errorOffset, .ref q_o_data, x_o_draft, x_o_aside, x_o_history, x_o_undoDepth, x_o_numberStart, x_o_nesting, x_o_seen, x_o_toldPlanes, x_o_stack, x_o_facts])), (q_o_data, .inl (cy 0, 2243, .inl o_data))] (va_runV (As := [.int p1, .int p2]) (rest := []) ⟨hx, hb, hml, hown, hts⟩ (c_X7_showing q_o q_o_data H.size (.int o2) x_o_buffer x_o_bufferLength x_o_textLength x_o_position x_o_error x_o_errorAt x_o_errorOffset x_o_draft x_o_aside x_o_history x_o_undoDepth x_o_numberStart x_o_nesting x_o_seen x_o_toldPlanes x_o_stack x_o_facts o_data p1 p2 _ h6) (cwV 2 hts gX7_shown_X7_showing rfl rfl rfl kd_X7_showing ⟨Nat.le_of_ble_eq_true rfl, Nat.le_of_ble_eq_true rfl⟩) ⟨kP_blind (EN_ok D cy) D _ _ _, va_recv hK hP (ci := 7) (q0 := 0) rfl rfl, kStart (EN_ok D cy) hE hP hD hS hA [0, 1] rfl rfl _⟩ rfl rfl hl.1 rfl (lv_room (Nat.le_of_ble_eq_true rfl)) dX7_shown_43 ⟨Nat.zero_le _, Nat.zero_le _⟩) hP hD hS hA [0, 1] [] rfl rfl rfl 2 rfl (by decide +kernel) (fun H locs hP hD hS => ?_)
      obtain rfl := so_o hF
      rw [hQQ]
      exact kr_i hx hb hr hlocks hP hD hS dX7_shown_46
    · have hF := if_n hF c4
      exact J36 o2 H locs ls hP hD hS (lv_sub hl [] rfl) hF
  have main : ∀ (H : Heap) (locs : List Loc) (ls : Array Slot), va_P D vwCl [(q_o, .inr (7, [.int o_thrown, x_o_buffer, x_o_bufferLength, x_o_textLength, x_o_position, x_o_error, x_o_errorAt, x_o_errorOffset, .ref q_o_data, x_o_draft, x_o_aside, x_o_history, x_o_undoDepth, x_o_numberStart, x_o_nesting, x_o_seen, x_o_toldPlanes, x_o_stack, x_o_facts])), (q_o_data, .inl (cy 0, 2243, .inl o_data))] H → va_D A [(q_o, .inr (7, [.int o_thrown, x_o_buffer, x_o_bufferLength, x_o_textLength, x_o_position, x_o_error, x_o_errorAt, x_o_errorOffset, .ref q_o_data, x_o_draft, x_o_aside, x_o_history, x_o_undoDepth, x_o_numberStart, x_o_nesting, x_o_seen, x_o_toldPlanes, x_o_stack, x_o_facts])), (q_o_data, .inl (cy 0, 2243, .inl o_data))] → va_S A s.heap H locs → lv_has ls 3 [(0, .ref q_o), (1, .int p1), (2, .int p2)] → W p l e ({ frames := 5, cells := 0, slots := 0, locals := 114 } : Room) s m args below meth c H locs 0 0 QQ (F0 m 0 ls []) := by
    intro H locs ls hP hD hS hl
    unfold X7_shown at hF
    refine lv_aload_n hx hb dX7_shown_0 rfl (lv_at hl 0 rfl) ?_
    refine lv_iconst (v := 0) hx hb dX7_shown_1 (by decide) ?_
    refine va_put (D := D) (ci := 7) (v := .int (0 : Int32)) (ty := .int) (C := RX7) (T := TX7) (N := 19) hx hb hts f_inX7 tyX7 tyX7_ok nmX7 hown hK hP hD hS 0 rfl rfl 0 (by decide) f_f42 (fun _ h9 => h9) rfl (by decide +kernel) rfl rfl (Nat.le_of_ble_eq_true rfl) dX7_shown_2 (fun H locs hP hD hS => ?_)
    have hP : va_P D vwCl [(q_o, .inr (7, [.int (0 : Int32), x_o_buffer, x_o_bufferLength, x_o_textLength, x_o_position, x_o_error, x_o_errorAt, x_o_errorOffset, .ref q_o_data, x_o_draft, x_o_aside, x_o_history, x_o_undoDepth, x_o_numberStart, x_o_nesting, x_o_seen, x_o_toldPlanes, x_o_stack, x_o_facts])), (q_o_data, .inl (cy 0, 2243, .inl o_data))] H := hP
    have hD : va_D A [(q_o, .inr (7, [.int (0 : Int32), x_o_buffer, x_o_bufferLength, x_o_textLength, x_o_position, x_o_error, x_o_errorAt, x_o_errorOffset, .ref q_o_data, x_o_draft, x_o_aside, x_o_history, x_o_undoDepth, x_o_numberStart, x_o_nesting, x_o_seen, x_o_toldPlanes, x_o_stack, x_o_facts])), (q_o_data, .inl (cy 0, 2243, .inl o_data))] := hD
    refine lv_aload_n hx hb dX7_shown_5 rfl (lv_at hl 0 rfl) ?_
    refine lv_iload_n hx hb dX7_shown_6 rfl (lv_at hl 1 rfl) ?_
    obtain ⟨r7, o8, h9, hF⟩ := bn2_o hF
    refine kd_i [(q_o, .inr (7, [.int o8, x_o_buffer, x_o_bufferLength, x_o_textLength, x_o_position, x_o_error, x_o_errorAt, x_o_errorOffset, .ref q_o_data, x_o_draft, x_o_aside, x_o_history, x_o_undoDepth, x_o_numberStart, x_o_nesting, x_o_seen, x_o_toldPlanes, x_o_stack, x_o_facts])), (q_o_data, .inl (cy 0, 2243, .inl o_data))] (va_runV (As := [.int p1]) (rest := []) ⟨hx, hb, hml, hown, hts⟩ (c_X7_noHole q_o q_o_data H.size x_o_buffer x_o_bufferLength x_o_textLength x_o_position x_o_error x_o_errorAt x_o_errorOffset x_o_draft x_o_aside x_o_history x_o_undoDepth x_o_numberStart x_o_nesting x_o_seen x_o_toldPlanes x_o_stack x_o_facts (0 : Int32) o_data p1 _ h9) (cwV 1 hts gX7_shown_X7_noHole rfl rfl rfl kd_X7_noHole ⟨Nat.le_of_ble_eq_true rfl, Nat.le_of_ble_eq_true rfl⟩) ⟨kP_blind (EN_ok D cy) D _ _ _, va_recv hK hP (ci := 7) (q0 := 0) rfl rfl, kStart (EN_ok D cy) hE hP hD hS hA [0, 1] rfl rfl _⟩ rfl rfl hl.1 rfl (lv_room (Nat.le_of_ble_eq_true rfl)) dX7_shown_7 ⟨Nat.zero_le _, Nat.zero_le _⟩) hP hD hS hA [0, 1] [] rfl rfl rfl 2 rfl (by decide +kernel) (fun H locs hP hD hS => ?_)
    refine lv_if_ne (tgt := 36) hx hb dX7_shown_10 (by decide) (fun c10 => ?_) (fun c10 => ?_)
    · have hF := if_n hF c10
      exact J36 o8 H locs ls hP hD hS (lv_sub hl [] rfl) hF
    · have hF := if_p hF c10
      refine lv_aload_n hx hb dX7_shown_13 rfl (lv_at hl 0 rfl) ?_
      refine lv_iload_n hx hb dX7_shown_14 rfl (lv_at hl 2 rfl) ?_
      refine lv_iconst (v := 0) hx hb dX7_shown_15 (by decide) ?_
      refine lv_bipush (v := 25) hx hb dX7_shown_16 (by decide) ?_
      obtain ⟨r11, h12, hF⟩ := bn1_o hF
      refine kd_i [(q_o, .inr (7, [.int o8, x_o_buffer, x_o_bufferLength, x_o_textLength, x_o_position, x_o_error, x_o_errorAt, x_o_errorOffset, .ref q_o_data, x_o_draft, x_o_aside, x_o_history, x_o_undoDepth, x_o_numberStart, x_o_nesting, x_o_seen, x_o_toldPlanes, x_o_stack, x_o_facts])), (q_o_data, .inl (cy 0, 2243, .inl o_data))] (va_runS (As := [.int p2, .int (0 : Int32), .int (25 : Int32)]) (rest := [.ref q_o]) ⟨hx, hb, hml, hown, hts⟩ (c_X7_in H.size p2 (0 : Int32) (25 : Int32) _ h12) (va_cwS 3 hts gX7_shown_X7_in rfl rfl rfl kd_X7_in ⟨Nat.le_of_ble_eq_true rfl, Nat.le_of_ble_eq_true rfl⟩) ⟨kP_blind (EN_ok D cy) D _ _ _, kStart (EN_ok D cy) hE hP hD hS hA [] rfl rfl _⟩ rfl rfl hl.1 rfl (lv_room (Nat.le_of_ble_eq_true rfl)) dX7_shown_18 ⟨Nat.zero_le _, Nat.zero_le _⟩) hP hD hS hA [] [0, 1] rfl rfl rfl 2 rfl (by decide +kernel) (fun H locs hP hD hS => ?_)
      refine lv_if_ne (tgt := 28) hx hb dX7_shown_21 (by decide) (fun c13 => ?_) (fun c13 => ?_)
      · have hF := if_n hF c13
        refine lv_iconst (v := 0) hx hb dX7_shown_28 (by decide) ?_
        exact J29 (0 : Int32) o8 H locs ls hP hD hS (lv_sub hl [0, 1, 2] rfl) hF
      · have hF := if_p hF c13
        refine lv_iconst (v := 1) hx hb dX7_shown_24 (by decide) ?_
        refine lv_goto (tgt := 29) hx hb dX7_shown_25 (by decide) ?_
        exact J29 (1 : Int32) o8 H locs ls hP hD hS (lv_sub hl [0, 1, 2] rfl) hF
  exact main s.heap [] ls hP hD hS hl
theorem kd_X7_why : yX7_why.cls = RX7 ∧ yX7_why.cls ≠ "java/lang/invoke/MethodHandle" ∧ yX7_why.cls ≠ "java/lang/invoke/VarHandle" ∧ (parseMethodDescriptor yX7_why.desc).map (fun d => d.parameters.length) = some 4 := by decide +kernel
set_option maxHeartbeats 4000000 in
set_option maxRecDepth 100000 in
theorem c_X7_why {l : Launch} {D : va_G} {cy : Nat → ClassId} (q_o q_o_data : Nat) (sz : Nat) (x_o_buffer x_o_bufferLength x_o_textLength x_o_position x_o_error x_o_errorAt x_o_errorOffset x_o_draft x_o_aside x_o_history x_o_undoDepth x_o_numberStart x_o_nesting x_o_seen x_o_toldPlanes x_o_stack x_o_facts : Value) (o_thrown : Int32) (o_data : Nat → Int32) (p1 : Int32) (p2 : Int32) (p3 : Int32) (p4 : Int32) (res : Int32 × Int32) (hF : X7_why o_thrown o_data p1 p2 p3 p4 = some res) : Met l yX7_why wsX7_why ({ frames := 3, cells := 0, slots := 0, locals := 67 } : Room) (kP (EN D cy) D [.ref q_o, .int p1, .int p2, .int p3, .int p4] [(q_o, .inr (7, [.int o_thrown, x_o_buffer, x_o_bufferLength, x_o_textLength, x_o_position, x_o_error, x_o_errorAt, x_o_errorOffset, .ref q_o_data, x_o_draft, x_o_aside, x_o_history, x_o_undoDepth, x_o_numberStart, x_o_nesting, x_o_seen, x_o_toldPlanes, x_o_stack, x_o_facts])), (q_o_data, .inl (cy 0, 2243, .inl o_data))] sz) (kQi D res.1 [(q_o, .inr (7, [.int res.2, x_o_buffer, x_o_bufferLength, x_o_textLength, x_o_position, x_o_error, x_o_errorAt, x_o_errorOffset, .ref q_o_data, x_o_draft, x_o_aside, x_o_history, x_o_undoDepth, x_o_numberStart, x_o_nesting, x_o_seen, x_o_toldPlanes, x_o_stack, x_o_facts])), (q_o_data, .inl (cy 0, 2243, .inl o_data))] (va_A [(q_o, .inr (7, [.int o_thrown, x_o_buffer, x_o_bufferLength, x_o_textLength, x_o_position, x_o_error, x_o_errorAt, x_o_errorOffset, .ref q_o_data, x_o_draft, x_o_aside, x_o_history, x_o_undoDepth, x_o_numberStart, x_o_nesting, x_o_seen, x_o_toldPlanes, x_o_stack, x_o_facts])), (q_o_data, .inl (cy 0, 2243, .inl o_data))] sz)) 0 0 (va_A [(q_o, .inr (7, [.int o_thrown, x_o_buffer, x_o_bufferLength, x_o_textLength, x_o_position, x_o_error, x_o_errorAt, x_o_errorOffset, .ref q_o_data, x_o_draft, x_o_aside, x_o_history, x_o_undoDepth, x_o_numberStart, x_o_nesting, x_o_seen, x_o_toldPlanes, x_o_stack, x_o_facts])), (q_o_data, .inl (cy 0, 2243, .inl o_data))] sz) := by
  refine kMet (y := yX7_why) (av := [.ref q_o, .int p1, .int p2, .int p3, .int p4]) (cc := cX7_why) (maxL := 7) (ret := some .int) (own := RX7) (Qc := fun A9 => (kQi D res.1 [(q_o, .inr (7, [.int res.2, x_o_buffer, x_o_bufferLength, x_o_textLength, x_o_position, x_o_error, x_o_errorAt, x_o_errorOffset, .ref q_o_data, x_o_draft, x_o_aside, x_o_history, x_o_undoDepth, x_o_numberStart, x_o_nesting, x_o_seen, x_o_toldPlanes, x_o_stack, x_o_facts])), (q_o_data, .inl (cy 0, 2243, .inl o_data))] A9)) (by decide) rfl rfl (Nat.le_of_ble_eq_true rfl) ?_
  intro p e s m args below meth c A hx hb hr hts hown hml hlocks hname hE hP hD hA hsz ls hl
  have hK := hE.1
  have hl : lv_has ls 7 [(0, .ref q_o), (1, .int p1), (2, .int p2), (3, .int p3), (4, .int p4)] := hl
  have hS : va_S A s.heap s.heap [] := va_S.rf
  have f_f42 := hts (.fieldLink RX7 42 "PeepBoxModel" "thrown" "I") (by decide +kernel)
  have f_inX7 : ∀ w ∈ wsX70, w ∈ wsX7_why := by decide +kernel
  obtain ⟨QQ, hQQ⟩ : ∃ Q9, Q9 = MQ below (kQi D res.1 [(q_o, .inr (7, [.int res.2, x_o_buffer, x_o_bufferLength, x_o_textLength, x_o_position, x_o_error, x_o_errorAt, x_o_errorOffset, .ref q_o_data, x_o_draft, x_o_aside, x_o_history, x_o_undoDepth, x_o_numberStart, x_o_nesting, x_o_seen, x_o_toldPlanes, x_o_stack, x_o_facts])), (q_o_data, .inl (cy 0, 2243, .inl o_data))] A) args s 0 0 A := ⟨_, rfl⟩
  rw [← hQQ]
  have J53 : ∀ (n53 : Nat) (l5 : Int32) (l6 : Int32) (o_thrown : Int32) (H : Heap) (locs : List Loc) (ls : Array Slot), va_P D vwCl [(q_o, .inr (7, [.int o_thrown, x_o_buffer, x_o_bufferLength, x_o_textLength, x_o_position, x_o_error, x_o_errorAt, x_o_errorOffset, .ref q_o_data, x_o_draft, x_o_aside, x_o_history, x_o_undoDepth, x_o_numberStart, x_o_nesting, x_o_seen, x_o_toldPlanes, x_o_stack, x_o_facts])), (q_o_data, .inl (cy 0, 2243, .inl o_data))] H → va_D A [(q_o, .inr (7, [.int o_thrown, x_o_buffer, x_o_bufferLength, x_o_textLength, x_o_position, x_o_error, x_o_errorAt, x_o_errorOffset, .ref q_o_data, x_o_draft, x_o_aside, x_o_history, x_o_undoDepth, x_o_numberStart, x_o_nesting, x_o_seen, x_o_toldPlanes, x_o_stack, x_o_facts])), (q_o_data, .inl (cy 0, 2243, .inl o_data))] → va_S A s.heap H locs → lv_has ls 7 [(0, .ref q_o), (1, .int p1), (2, .int p2), (3, .int p3), (4, .int p4), (5, .int l5), (6, .int l6)] → X7_why_L53 o_data p1 p2 p3 p4 n53 l5 l6 o_thrown = some res → W p l e ({ frames := 3, cells := 0, slots := 0, locals := 67 } : Room) s m args below meth c H locs 0 0 QQ (F0 m 53 ls []) := by
    intro n53
    induction n53 with
    | zero =>
      intro l5 l6 o_thrown H locs ls hP hD hS hl hF
      rw [X7_why_L53] at hF
      cases hF
    | succ n53 ih53 =>
      have J106 : ∀ (l5 : Int32) (l6 : Int32) (o_thrown : Int32) (H : Heap) (locs : List Loc) (ls : Array Slot), va_P D vwCl [(q_o, .inr (7, [.int o_thrown, x_o_buffer, x_o_bufferLength, x_o_textLength, x_o_position, x_o_error, x_o_errorAt, x_o_errorOffset, .ref q_o_data, x_o_draft, x_o_aside, x_o_history, x_o_undoDepth, x_o_numberStart, x_o_nesting, x_o_seen, x_o_toldPlanes, x_o_stack, x_o_facts])), (q_o_data, .inl (cy 0, 2243, .inl o_data))] H → va_D A [(q_o, .inr (7, [.int o_thrown, x_o_buffer, x_o_bufferLength, x_o_textLength, x_o_position, x_o_error, x_o_errorAt, x_o_errorOffset, .ref q_o_data, x_o_draft, x_o_aside, x_o_history, x_o_undoDepth, x_o_numberStart, x_o_nesting, x_o_seen, x_o_toldPlanes, x_o_stack, x_o_facts])), (q_o_data, .inl (cy 0, 2243, .inl o_data))] → va_S A s.heap H locs → lv_has ls 7 [(0, .ref q_o), (1, .int p1), (2, .int p2), (3, .int p3), (4, .int p4), (5, .int l5), (6, .int l6)] → X7_why_J106 o_data p1 p2 p3 p4 (fun z0 z1 z2 => X7_why_L53 o_data p1 p2 p3 p4 n53 z0 z1 z2) l5 l6 o_thrown = some res → W p l e ({ frames := 3, cells := 0, slots := 0, locals := 67 } : Room) s m args below meth c H locs 0 0 QQ (F0 m 106 ls []) := by
        intro l5 l6 o_thrown H locs ls hP hD hS hl hF
        unfold X7_why_J106 at hF
        obtain ⟨v1, ev1⟩ : ∃ y : Int32, y = l6 + (1 : Int32) := ⟨_, rfl⟩
        have hF := nm_o hF v1 ev1
        refine lv_iinc (v := v1) (lv' := [(6, .int v1), (0, .ref q_o), (1, .int p1), (2, .int p2), (3, .int p3), (4, .int p4), (5, .int l5)]) hx hb dX7_why_106 hl (k := 6) rfl (by rw [ev1]; rfl) (by decide) rfl (fun ls hl => ?_)
        refine lv_goto (tgt := 53) hx hb dX7_why_109 (by decide) ?_
        exact ih53 l5 v1 o_thrown H locs ls hP hD hS (lv_sub hl [1, 2, 3, 4, 5, 6, 0] rfl) hF
      intro l5 l6 o_thrown H locs ls hP hD hS hl hF
      rw [X7_why_L53] at hF
      refine lv_iload hx hb dX7_why_53 (lv_at hl 6 rfl) ?_
      refine lv_aload_n hx hb dX7_why_55 rfl (lv_at hl 0 rfl) ?_
      obtain ⟨r2, h3, hF⟩ := bn1_o hF
      refine kd_i [(q_o, .inr (7, [.int o_thrown, x_o_buffer, x_o_bufferLength, x_o_textLength, x_o_position, x_o_error, x_o_errorAt, x_o_errorOffset, .ref q_o_data, x_o_draft, x_o_aside, x_o_history, x_o_undoDepth, x_o_numberStart, x_o_nesting, x_o_seen, x_o_toldPlanes, x_o_stack, x_o_facts])), (q_o_data, .inl (cy 0, 2243, .inl o_data))] (va_runV (As := []) (rest := [.int l6]) ⟨hx, hb, hml, hown, hts⟩ (c_X7_cells q_o q_o_data H.size (.int o_thrown) x_o_buffer x_o_bufferLength x_o_textLength x_o_position x_o_error x_o_errorAt x_o_errorOffset x_o_draft x_o_aside x_o_history x_o_undoDepth x_o_numberStart x_o_nesting x_o_seen x_o_toldPlanes x_o_stack x_o_facts o_data _ h3) (cwV 0 hts gX7_why_X7_cells rfl rfl rfl kd_X7_cells ⟨Nat.le_of_ble_eq_true rfl, Nat.le_of_ble_eq_true rfl⟩) ⟨kP_blind (EN_ok D cy) D _ _ _, va_recv hK hP (ci := 7) (q0 := 0) rfl rfl, kStart (EN_ok D cy) hE hP hD hS hA [0, 1] rfl rfl _⟩ rfl rfl hl.1 rfl (lv_room (Nat.le_of_ble_eq_true rfl)) dX7_why_56 ⟨Nat.zero_le _, Nat.zero_le _⟩) hP hD hS hA [0, 1] [] rfl rfl rfl 2 rfl (by decide +kernel) (fun H locs hP hD hS => ?_)
      refine lv_icmp_ge (tgt := 112) hx hb dX7_why_59 (by decide) (fun c4 => ?_) (fun c4 => ?_)
      · have hF := if_p hF c4
        refine lv_iload hx hb dX7_why_112 (lv_at hl 5 rfl) ?_
        obtain rfl := so_o hF
        rw [hQQ]
        exact kr_i hx hb hr hlocks hP hD hS dX7_why_114
      · have hF := if_n hF c4
        refine lv_aload_n hx hb dX7_why_62 rfl (lv_at hl 0 rfl) ?_
        refine lv_iload_n hx hb dX7_why_63 rfl (lv_at hl 1 rfl) ?_
        refine lv_iload hx hb dX7_why_64 (lv_at hl 6 rfl) ?_
        refine lv_iload_n hx hb dX7_why_66 rfl (lv_at hl 2 rfl) ?_
        obtain ⟨r5, h6, hF⟩ := bn1_o hF
        refine kd_i [(q_o, .inr (7, [.int o_thrown, x_o_buffer, x_o_bufferLength, x_o_textLength, x_o_position, x_o_error, x_o_errorAt, x_o_errorOffset, .ref q_o_data, x_o_draft, x_o_aside, x_o_history, x_o_undoDepth, x_o_numberStart, x_o_nesting, x_o_seen, x_o_toldPlanes, x_o_stack, x_o_facts])), (q_o_data, .inl (cy 0, 2243, .inl o_data))] (va_runV (As := [.int p1, .int l6, .int p2]) (rest := []) ⟨hx, hb, hml, hown, hts⟩ (c_X7_crossX q_o q_o_data H.size (.int o_thrown) x_o_buffer x_o_bufferLength x_o_textLength x_o_position x_o_error x_o_errorAt x_o_errorOffset x_o_draft x_o_aside x_o_history x_o_undoDepth x_o_numberStart x_o_nesting x_o_seen x_o_toldPlanes x_o_stack x_o_facts o_data p1 l6 p2 _ h6) (cwV 3 hts gX7_why_X7_crossX rfl rfl rfl kd_X7_crossX ⟨Nat.le_of_ble_eq_true rfl, Nat.le_of_ble_eq_true rfl⟩) ⟨kP_blind (EN_ok D cy) D _ _ _, va_recv hK hP (ci := 7) (q0 := 0) rfl rfl, kStart (EN_ok D cy) hE hP hD hS hA [0, 1] rfl rfl _⟩ rfl rfl hl.1 rfl (lv_room (Nat.le_of_ble_eq_true rfl)) dX7_why_67 ⟨Nat.zero_le _, Nat.zero_le _⟩) hP hD hS hA [0, 1] [] rfl rfl rfl 2 rfl (by decide +kernel) (fun H locs hP hD hS => ?_)
        refine lv_iload_n hx hb dX7_why_70 rfl (lv_at hl 3 rfl) ?_
        refine lv_icmp_ne (tgt := 106) hx hb dX7_why_71 (by decide) (fun c7 => ?_) (fun c7 => ?_)
        · have hF := if_n hF c7
          exact J106 l5 l6 o_thrown H locs ls hP hD hS (lv_sub hl [0, 1, 2, 3, 4, 5, 6] rfl) hF
        · have hF := if_p hF c7
          refine lv_aload_n hx hb dX7_why_74 rfl (lv_at hl 0 rfl) ?_
          refine lv_iload_n hx hb dX7_why_75 rfl (lv_at hl 1 rfl) ?_
          refine lv_iload hx hb dX7_why_76 (lv_at hl 6 rfl) ?_
          refine lv_iload_n hx hb dX7_why_78 rfl (lv_at hl 2 rfl) ?_
          obtain ⟨r8, h9, hF⟩ := bn1_o hF
          refine kd_i [(q_o, .inr (7, [.int o_thrown, x_o_buffer, x_o_bufferLength, x_o_textLength, x_o_position, x_o_error, x_o_errorAt, x_o_errorOffset, .ref q_o_data, x_o_draft, x_o_aside, x_o_history, x_o_undoDepth, x_o_numberStart, x_o_nesting, x_o_seen, x_o_toldPlanes, x_o_stack, x_o_facts])), (q_o_data, .inl (cy 0, 2243, .inl o_data))] (va_runV (As := [.int p1, .int l6, .int p2]) (rest := []) ⟨hx, hb, hml, hown, hts⟩ (c_X7_crossY q_o q_o_data H.size (.int o_thrown) x_o_buffer x_o_bufferLength x_o_textLength x_o_position x_o_error x_o_errorAt x_o_errorOffset x_o_draft x_o_aside x_o_history x_o_undoDepth x_o_numberStart x_o_nesting x_o_seen x_o_toldPlanes x_o_stack x_o_facts o_data p1 l6 p2 _ h9) (cwV 3 hts gX7_why_X7_crossY rfl rfl rfl kd_X7_crossY ⟨Nat.le_of_ble_eq_true rfl, Nat.le_of_ble_eq_true rfl⟩) ⟨kP_blind (EN_ok D cy) D _ _ _, va_recv hK hP (ci := 7) (q0 := 0) rfl rfl, kStart (EN_ok D cy) hE hP hD hS hA [0, 1] rfl rfl _⟩ rfl rfl hl.1 rfl (lv_room (Nat.le_of_ble_eq_true rfl)) dX7_why_79 ⟨Nat.zero_le _, Nat.zero_le _⟩) hP hD hS hA [0, 1] [] rfl rfl rfl 2 rfl (by decide +kernel) (fun H locs hP hD hS => ?_)
          refine lv_iload hx hb dX7_why_82 (lv_at hl 4 rfl) ?_
          refine lv_icmp_eq (tgt := 90) hx hb dX7_why_84 (by decide) (fun c10 => ?_) (fun c10 => ?_)
          · have hF := if_p hF c10
            refine lv_aload_n hx hb dX7_why_90 rfl (lv_at hl 0 rfl) ?_
            refine lv_iload_n hx hb dX7_why_91 rfl (lv_at hl 1 rfl) ?_
            refine lv_iload hx hb dX7_why_92 (lv_at hl 6 rfl) ?_
            obtain ⟨r11, h12, hF⟩ := bn1_o hF
            refine kd_i [(q_o, .inr (7, [.int o_thrown, x_o_buffer, x_o_bufferLength, x_o_textLength, x_o_position, x_o_error, x_o_errorAt, x_o_errorOffset, .ref q_o_data, x_o_draft, x_o_aside, x_o_history, x_o_undoDepth, x_o_numberStart, x_o_nesting, x_o_seen, x_o_toldPlanes, x_o_stack, x_o_facts])), (q_o_data, .inl (cy 0, 2243, .inl o_data))] (va_runV (As := [.int p1, .int l6]) (rest := []) ⟨hx, hb, hml, hown, hts⟩ (c_X7_planeSeen q_o q_o_data H.size (.int o_thrown) x_o_buffer x_o_bufferLength x_o_textLength x_o_position x_o_error x_o_errorAt x_o_errorOffset x_o_draft x_o_aside x_o_history x_o_undoDepth x_o_numberStart x_o_nesting x_o_seen x_o_toldPlanes x_o_stack x_o_facts o_data p1 l6 _ h12) (cwV 2 hts gX7_why_X7_planeSeen rfl rfl rfl kd_X7_planeSeen ⟨Nat.le_of_ble_eq_true rfl, Nat.le_of_ble_eq_true rfl⟩) ⟨kP_blind (EN_ok D cy) D _ _ _, va_recv hK hP (ci := 7) (q0 := 0) rfl rfl, kStart (EN_ok D cy) hE hP hD hS hA [0, 1] rfl rfl _⟩ rfl rfl hl.1 rfl (lv_room (Nat.le_of_ble_eq_true rfl)) dX7_why_94 ⟨Nat.zero_le _, Nat.zero_le _⟩) hP hD hS hA [0, 1] [] rfl rfl rfl 2 rfl (by decide +kernel) (fun H locs hP hD hS => ?_)
            refine lv_iload_n hx hb dX7_why_97 rfl (lv_at hl 2 rfl) ?_
            refine lv_icmp_ne (tgt := 103) hx hb dX7_why_98 (by decide) (fun c13 => ?_) (fun c13 => ?_)
            · have hF := if_n hF c13
              refine lv_iconst (v := 3) hx hb dX7_why_103 (by decide) ?_
              refine lv_istore (lv' := [(5, .int (3 : Int32)), (0, .ref q_o), (1, .int p1), (2, .int p2), (3, .int p3), (4, .int p4), (6, .int l6)]) hx hb dX7_why_104 hl (by decide) rfl (fun ls hl => ?_)
              exact J106 (3 : Int32) l6 o_thrown H locs ls hP hD hS (lv_sub hl [1, 2, 3, 4, 5, 0, 6] rfl) hF
            · have hF := if_p hF c13
              refine lv_iconst (v := 0) hx hb dX7_why_101 (by decide) ?_
              obtain rfl := so_o hF
              rw [hQQ]
              exact kr_i hx hb hr hlocks hP hD hS dX7_why_102
          · have hF := if_n hF c10
            refine lv_goto (tgt := 106) hx hb dX7_why_87 (by decide) ?_
            exact J106 l5 l6 o_thrown H locs ls hP hD hS (lv_sub hl [0, 1, 2, 3, 4, 5, 6] rfl) hF
  have main : ∀ (H : Heap) (locs : List Loc) (ls : Array Slot), va_P D vwCl [(q_o, .inr (7, [.int o_thrown, x_o_buffer, x_o_bufferLength, x_o_textLength, x_o_position, x_o_error, x_o_errorAt, x_o_errorOffset, .ref q_o_data, x_o_draft, x_o_aside, x_o_history, x_o_undoDepth, x_o_numberStart, x_o_nesting, x_o_seen, x_o_toldPlanes, x_o_stack, x_o_facts])), (q_o_data, .inl (cy 0, 2243, .inl o_data))] H → va_D A [(q_o, .inr (7, [.int o_thrown, x_o_buffer, x_o_bufferLength, x_o_textLength, x_o_position, x_o_error, x_o_errorAt, x_o_errorOffset, .ref q_o_data, x_o_draft, x_o_aside, x_o_history, x_o_undoDepth, x_o_numberStart, x_o_nesting, x_o_seen, x_o_toldPlanes, x_o_stack, x_o_facts])), (q_o_data, .inl (cy 0, 2243, .inl o_data))] → va_S A s.heap H locs → lv_has ls 7 [(0, .ref q_o), (1, .int p1), (2, .int p2), (3, .int p3), (4, .int p4)] → W p l e ({ frames := 3, cells := 0, slots := 0, locals := 67 } : Room) s m args below meth c H locs 0 0 QQ (F0 m 0 ls []) := by
    intro H locs ls hP hD hS hl
    unfold X7_why at hF
    refine lv_aload_n hx hb dX7_why_0 rfl (lv_at hl 0 rfl) ?_
    refine lv_iconst (v := 0) hx hb dX7_why_1 (by decide) ?_
    refine va_put (D := D) (ci := 7) (v := .int (0 : Int32)) (ty := .int) (C := RX7) (T := TX7) (N := 19) hx hb hts f_inX7 tyX7 tyX7_ok nmX7 hown hK hP hD hS 0 rfl rfl 0 (by decide) f_f42 (fun _ h9 => h9) rfl (by decide +kernel) rfl rfl (Nat.le_of_ble_eq_true rfl) dX7_why_2 (fun H locs hP hD hS => ?_)
    have hP : va_P D vwCl [(q_o, .inr (7, [.int (0 : Int32), x_o_buffer, x_o_bufferLength, x_o_textLength, x_o_position, x_o_error, x_o_errorAt, x_o_errorOffset, .ref q_o_data, x_o_draft, x_o_aside, x_o_history, x_o_undoDepth, x_o_numberStart, x_o_nesting, x_o_seen, x_o_toldPlanes, x_o_stack, x_o_facts])), (q_o_data, .inl (cy 0, 2243, .inl o_data))] H := hP
    have hD : va_D A [(q_o, .inr (7, [.int (0 : Int32), x_o_buffer, x_o_bufferLength, x_o_textLength, x_o_position, x_o_error, x_o_errorAt, x_o_errorOffset, .ref q_o_data, x_o_draft, x_o_aside, x_o_history, x_o_undoDepth, x_o_numberStart, x_o_nesting, x_o_seen, x_o_toldPlanes, x_o_stack, x_o_facts])), (q_o_data, .inl (cy 0, 2243, .inl o_data))] := hD
    refine lv_aload_n hx hb dX7_why_5 rfl (lv_at hl 0 rfl) ?_
    refine lv_iload_n hx hb dX7_why_6 rfl (lv_at hl 1 rfl) ?_
    obtain ⟨r14, o15, h16, hF⟩ := bn2_o hF
    refine kd_i [(q_o, .inr (7, [.int o15, x_o_buffer, x_o_bufferLength, x_o_textLength, x_o_position, x_o_error, x_o_errorAt, x_o_errorOffset, .ref q_o_data, x_o_draft, x_o_aside, x_o_history, x_o_undoDepth, x_o_numberStart, x_o_nesting, x_o_seen, x_o_toldPlanes, x_o_stack, x_o_facts])), (q_o_data, .inl (cy 0, 2243, .inl o_data))] (va_runV (As := [.int p1]) (rest := []) ⟨hx, hb, hml, hown, hts⟩ (c_X7_noHole q_o q_o_data H.size x_o_buffer x_o_bufferLength x_o_textLength x_o_position x_o_error x_o_errorAt x_o_errorOffset x_o_draft x_o_aside x_o_history x_o_undoDepth x_o_numberStart x_o_nesting x_o_seen x_o_toldPlanes x_o_stack x_o_facts (0 : Int32) o_data p1 _ h16) (cwV 1 hts gX7_why_X7_noHole rfl rfl rfl kd_X7_noHole ⟨Nat.le_of_ble_eq_true rfl, Nat.le_of_ble_eq_true rfl⟩) ⟨kP_blind (EN_ok D cy) D _ _ _, va_recv hK hP (ci := 7) (q0 := 0) rfl rfl, kStart (EN_ok D cy) hE hP hD hS hA [0, 1] rfl rfl _⟩ rfl rfl hl.1 rfl (lv_room (Nat.le_of_ble_eq_true rfl)) dX7_why_7 ⟨Nat.zero_le _, Nat.zero_le _⟩) hP hD hS hA [0, 1] [] rfl rfl rfl 2 rfl (by decide +kernel) (fun H locs hP hD hS => ?_)
    refine lv_if_ne (tgt := 31) hx hb dX7_why_10 (by decide) (fun c17 => ?_) (fun c17 => ?_)
    · have hF := if_n hF c17
      refine lv_iconst (v := 0) hx hb dX7_why_31 (by decide) ?_
      obtain rfl := so_o hF
      rw [hQQ]
      exact kr_i hx hb hr hlocks hP hD hS dX7_why_32
    · have hF := if_p hF c17
      refine lv_aload_n hx hb dX7_why_13 rfl (lv_at hl 0 rfl) ?_
      refine lv_iload_n hx hb dX7_why_14 rfl (lv_at hl 2 rfl) ?_
      obtain ⟨r18, o19, h20, hF⟩ := bn2_o hF
      refine kd_i [(q_o, .inr (7, [.int o19, x_o_buffer, x_o_bufferLength, x_o_textLength, x_o_position, x_o_error, x_o_errorAt, x_o_errorOffset, .ref q_o_data, x_o_draft, x_o_aside, x_o_history, x_o_undoDepth, x_o_numberStart, x_o_nesting, x_o_seen, x_o_toldPlanes, x_o_stack, x_o_facts])), (q_o_data, .inl (cy 0, 2243, .inl o_data))] (va_runV (As := [.int p2]) (rest := []) ⟨hx, hb, hml, hown, hts⟩ (c_X7_noPlane q_o q_o_data H.size x_o_buffer x_o_bufferLength x_o_textLength x_o_position x_o_error x_o_errorAt x_o_errorOffset x_o_draft x_o_aside x_o_history x_o_undoDepth x_o_numberStart x_o_nesting x_o_seen x_o_toldPlanes x_o_stack x_o_facts o15 o_data p2 _ h20) (cwV 1 hts gX7_why_X7_noPlane rfl rfl rfl kd_X7_noPlane ⟨Nat.le_of_ble_eq_true rfl, Nat.le_of_ble_eq_true rfl⟩) ⟨kP_blind (EN_ok D cy) D _ _ _, va_recv hK hP (ci := 7) (q0 := 0) rfl rfl, kStart (EN_ok D cy) hE hP hD hS hA [0, 1] rfl rfl _⟩ rfl rfl hl.1 rfl (lv_room (Nat.le_of_ble_eq_true rfl)) dX7_why_15 ⟨Nat.zero_le _, Nat.zero_le _⟩) hP hD hS hA [0, 1] [] rfl rfl rfl 2 rfl (by decide +kernel) (fun H locs hP hD hS => ?_)
      refine lv_if_ne (tgt := 31) hx hb dX7_why_18 (by decide) (fun c21 => ?_) (fun c21 => ?_)
      · have hF := if_n hF c21
        refine lv_iconst (v := 0) hx hb dX7_why_31 (by decide) ?_
        obtain rfl := so_o hF
        rw [hQQ]
        exact kr_i hx hb hr hlocks hP hD hS dX7_why_32
      · have hF := if_p hF c21
        refine lv_aload_n hx hb dX7_why_21 rfl (lv_at hl 0 rfl) ?_
        refine lv_iload_n hx hb dX7_why_22 rfl (lv_at hl 3 rfl) ?_
        refine lv_iload hx hb dX7_why_23 (lv_at hl 4 rfl) ?_
        obtain ⟨r22, o23, h24, hF⟩ := bn2_o hF
        refine kd_i [(q_o, .inr (7, [.int o23, x_o_buffer, x_o_bufferLength, x_o_textLength, x_o_position, x_o_error, x_o_errorAt, x_o_errorOffset, .ref q_o_data, x_o_draft, x_o_aside, x_o_history, x_o_undoDepth, x_o_numberStart, x_o_nesting, x_o_seen, x_o_toldPlanes, x_o_stack, x_o_facts])), (q_o_data, .inl (cy 0, 2243, .inl o_data))] (va_runV (As := [.int p3, .int p4]) (rest := []) ⟨hx, hb, hml, hown, hts⟩ (c_X7_noCell q_o q_o_data H.size x_o_buffer x_o_bufferLength x_o_textLength x_o_position x_o_error x_o_errorAt x_o_errorOffset x_o_draft x_o_aside x_o_history x_o_undoDepth x_o_numberStart x_o_nesting x_o_seen x_o_toldPlanes x_o_stack x_o_facts o19 o_data p3 p4 _ h24) (cwV 2 hts gX7_why_X7_noCell rfl rfl rfl kd_X7_noCell ⟨Nat.le_of_ble_eq_true rfl, Nat.le_of_ble_eq_true rfl⟩) ⟨kP_blind (EN_ok D cy) D _ _ _, va_recv hK hP (ci := 7) (q0 := 0) rfl rfl, kStart (EN_ok D cy) hE hP hD hS hA [0, 1] rfl rfl _⟩ rfl rfl hl.1 rfl (lv_room (Nat.le_of_ble_eq_true rfl)) dX7_why_25 ⟨Nat.zero_le _, Nat.zero_le _⟩) hP hD hS hA [0, 1] [] rfl rfl rfl 2 rfl (by decide +kernel) (fun H locs hP hD hS => ?_)
        refine lv_if_eq (tgt := 33) hx hb dX7_why_28 (by decide) (fun c25 => ?_) (fun c25 => ?_)
        · have hF := if_p hF c25
          refine lv_aload_n hx hb dX7_why_33 rfl (lv_at hl 0 rfl) ?_
          refine lv_iload_n hx hb dX7_why_34 rfl (lv_at hl 2 rfl) ?_
          refine lv_iload_n hx hb dX7_why_35 rfl (lv_at hl 3 rfl) ?_
          refine lv_iload hx hb dX7_why_36 (lv_at hl 4 rfl) ?_
          obtain ⟨r26, h27, hF⟩ := bn1_o hF
          refine kd_i [(q_o, .inr (7, [.int o23, x_o_buffer, x_o_bufferLength, x_o_textLength, x_o_position, x_o_error, x_o_errorAt, x_o_errorOffset, .ref q_o_data, x_o_draft, x_o_aside, x_o_history, x_o_undoDepth, x_o_numberStart, x_o_nesting, x_o_seen, x_o_toldPlanes, x_o_stack, x_o_facts])), (q_o_data, .inl (cy 0, 2243, .inl o_data))] (va_runV (As := [.int p2, .int p3, .int p4]) (rest := []) ⟨hx, hb, hml, hown, hts⟩ (c_X7_kindAt q_o q_o_data H.size (.int o23) x_o_buffer x_o_bufferLength x_o_textLength x_o_position x_o_error x_o_errorAt x_o_errorOffset x_o_draft x_o_aside x_o_history x_o_undoDepth x_o_numberStart x_o_nesting x_o_seen x_o_toldPlanes x_o_stack x_o_facts o_data p2 p3 p4 _ h27) (cwV 3 hts gX7_why_X7_kindAt rfl rfl rfl kd_X7_kindAt ⟨Nat.le_of_ble_eq_true rfl, Nat.le_of_ble_eq_true rfl⟩) ⟨kP_blind (EN_ok D cy) D _ _ _, va_recv hK hP (ci := 7) (q0 := 0) rfl rfl, kStart (EN_ok D cy) hE hP hD hS hA [0, 1] rfl rfl _⟩ rfl rfl hl.1 rfl (lv_room (Nat.le_of_ble_eq_true rfl)) dX7_why_38 ⟨Nat.zero_le _, Nat.zero_le _⟩) hP hD hS hA [0, 1] [] rfl rfl rfl 2 rfl (by decide +kernel) (fun H locs hP hD hS => ?_)
          refine lv_iconst (v := -1) hx hb dX7_why_41 (by decide) ?_
          refine lv_icmp_ne (tgt := 47) hx hb dX7_why_42 (by decide) (fun c28 => ?_) (fun c28 => ?_)
          · have hF := if_n hF c28
            refine lv_iconst (v := 2) hx hb dX7_why_47 (by decide) ?_
            refine lv_istore (lv' := [(5, .int (2 : Int32)), (0, .ref q_o), (1, .int p1), (2, .int p2), (3, .int p3), (4, .int p4)]) hx hb dX7_why_48 hl (by decide) rfl (fun ls hl => ?_)
            refine lv_iconst (v := 0) hx hb dX7_why_50 (by decide) ?_
            refine lv_istore (lv' := [(6, .int (0 : Int32)), (5, .int (2 : Int32)), (0, .ref q_o), (1, .int p1), (2, .int p2), (3, .int p3), (4, .int p4)]) hx hb dX7_why_51 hl (by decide) rfl (fun ls hl => ?_)
            exact J53 FU (2 : Int32) (0 : Int32) o23 H locs ls hP hD hS (lv_sub hl [2, 3, 4, 5, 6, 1, 0] rfl) hF
          · have hF := if_p hF c28
            refine lv_iconst (v := 1) hx hb dX7_why_45 (by decide) ?_
            obtain rfl := so_o hF
            rw [hQQ]
            exact kr_i hx hb hr hlocks hP hD hS dX7_why_46
        · have hF := if_n hF c25
          refine lv_iconst (v := 0) hx hb dX7_why_31 (by decide) ?_
          obtain rfl := so_o hF
          rw [hQQ]
          exact kr_i hx hb hr hlocks hP hD hS dX7_why_32
  exact main s.heap [] ls hP hD hS hl
