/-! contracts, written by program (gen.py): X7_thrown X7_fails X7_in X7_min X7_max X7_copy X7_layBox X7_append X7_byteAt X7_ahead X7_isGood X7_report X7_isDigit X7_takeWord X7_expect X7_number X7_emit X7_readSum -/
theorem kd_X7_thrown : yX7_thrown.cls = RX7 ∧ yX7_thrown.cls ≠ "java/lang/invoke/MethodHandle" ∧ yX7_thrown.cls ≠ "java/lang/invoke/VarHandle" ∧ (parseMethodDescriptor yX7_thrown.desc).map (fun d => d.parameters.length) = some 0 := by decide +kernel
set_option maxHeartbeats 4000000 in
set_option maxRecDepth 100000 in
theorem c_X7_thrown {l : Launch} {D : va_G} {cy : Nat → ClassId} (q_o : Nat) (sz : Nat) (x_o_buffer x_o_bufferLength x_o_textLength x_o_position x_o_error x_o_errorAt x_o_errorOffset x_o_data x_o_draft x_o_aside x_o_history x_o_undoDepth x_o_numberStart x_o_nesting x_o_seen x_o_toldPlanes x_o_stack x_o_facts : Value) (o_thrown : Int32) (res : Int32) (hF : X7_thrown o_thrown = some res) : Met l yX7_thrown wsX7_thrown ({ frames := 0, cells := 0, slots := 0, locals := 0 } : Room) (kP (EN D cy) D [.ref q_o] [(q_o, .inr (7, [.int o_thrown, x_o_buffer, x_o_bufferLength, x_o_textLength, x_o_position, x_o_error, x_o_errorAt, x_o_errorOffset, x_o_data, x_o_draft, x_o_aside, x_o_history, x_o_undoDepth, x_o_numberStart, x_o_nesting, x_o_seen, x_o_toldPlanes, x_o_stack, x_o_facts]))] sz) (kQi D res [(q_o, .inr (7, [.int o_thrown, x_o_buffer, x_o_bufferLength, x_o_textLength, x_o_position, x_o_error, x_o_errorAt, x_o_errorOffset, x_o_data, x_o_draft, x_o_aside, x_o_history, x_o_undoDepth, x_o_numberStart, x_o_nesting, x_o_seen, x_o_toldPlanes, x_o_stack, x_o_facts]))] (va_A [(q_o, .inr (7, [.int o_thrown, x_o_buffer, x_o_bufferLength, x_o_textLength, x_o_position, x_o_error, x_o_errorAt, x_o_errorOffset, x_o_data, x_o_draft, x_o_aside, x_o_history, x_o_undoDepth, x_o_numberStart, x_o_nesting, x_o_seen, x_o_toldPlanes, x_o_stack, x_o_facts]))] sz)) 0 0 (va_A [(q_o, .inr (7, [.int o_thrown, x_o_buffer, x_o_bufferLength, x_o_textLength, x_o_position, x_o_error, x_o_errorAt, x_o_errorOffset, x_o_data, x_o_draft, x_o_aside, x_o_history, x_o_undoDepth, x_o_numberStart, x_o_nesting, x_o_seen, x_o_toldPlanes, x_o_stack, x_o_facts]))] sz) := by
  refine kMet (y := yX7_thrown) (av := [.ref q_o]) (cc := cX7_thrown) (maxL := 1) (ret := some .int) (own := RX7) (Qc := fun A9 => (kQi D res [(q_o, .inr (7, [.int o_thrown, x_o_buffer, x_o_bufferLength, x_o_textLength, x_o_position, x_o_error, x_o_errorAt, x_o_errorOffset, x_o_data, x_o_draft, x_o_aside, x_o_history, x_o_undoDepth, x_o_numberStart, x_o_nesting, x_o_seen, x_o_toldPlanes, x_o_stack, x_o_facts]))] A9)) (by decide) rfl rfl (Nat.le_of_ble_eq_true rfl) ?_
  intro p e s m args below meth c A hx hb hr hts hown hml hlocks hname hE hP hD hA hsz ls hl
  have hK := hE.1
  have hl : lv_has ls 1 [(0, .ref q_o)] := hl
  have hS : va_S A s.heap s.heap [] := va_S.rf
  have f_f42 := hts (.fieldLink RX7 42 "PeepBoxModel" "thrown" "I") (by decide +kernel)
  have f_inX7 : ∀ w ∈ wsX70, w ∈ wsX7_thrown := by decide +kernel
  obtain ⟨QQ, hQQ⟩ : ∃ Q9, Q9 = MQ below (kQi D res [(q_o, .inr (7, [.int o_thrown, x_o_buffer, x_o_bufferLength, x_o_textLength, x_o_position, x_o_error, x_o_errorAt, x_o_errorOffset, x_o_data, x_o_draft, x_o_aside, x_o_history, x_o_undoDepth, x_o_numberStart, x_o_nesting, x_o_seen, x_o_toldPlanes, x_o_stack, x_o_facts]))] A) args s 0 0 A := ⟨_, rfl⟩
  rw [← hQQ]
  have main : ∀ (H : Heap) (locs : List Loc) (ls : Array Slot), va_P D vwCl [(q_o, .inr (7, [.int o_thrown, x_o_buffer, x_o_bufferLength, x_o_textLength, x_o_position, x_o_error, x_o_errorAt, x_o_errorOffset, x_o_data, x_o_draft, x_o_aside, x_o_history, x_o_undoDepth, x_o_numberStart, x_o_nesting, x_o_seen, x_o_toldPlanes, x_o_stack, x_o_facts]))] H → va_D A [(q_o, .inr (7, [.int o_thrown, x_o_buffer, x_o_bufferLength, x_o_textLength, x_o_position, x_o_error, x_o_errorAt, x_o_errorOffset, x_o_data, x_o_draft, x_o_aside, x_o_history, x_o_undoDepth, x_o_numberStart, x_o_nesting, x_o_seen, x_o_toldPlanes, x_o_stack, x_o_facts]))] → va_S A s.heap H locs → lv_has ls 1 [(0, .ref q_o)] → W p l e ({ frames := 0, cells := 0, slots := 0, locals := 0 } : Room) s m args below meth c H locs 0 0 QQ (F0 m 0 ls []) := by
    intro H locs ls hP hD hS hl
    unfold X7_thrown at hF
    refine lv_aload_n hx hb dX7_thrown_0 rfl (lv_at hl 0 rfl) ?_
    refine va_get (D := D) (ci := 7) (v := .int o_thrown) (C := RX7) (T := TX7) (N := 19) hx hb hts f_inX7 hown hK hP 0 rfl rfl 0 (by decide) f_f42 (fun _ h9 => h9) rfl dX7_thrown_1 ?_
    obtain rfl := so_o hF
    rw [hQQ]
    exact kr_i hx hb hr hlocks hP hD hS dX7_thrown_4
  exact main s.heap [] ls hP hD hS hl
theorem kd_X7_fails : yX7_fails.cls = RX7 ∧ yX7_fails.cls ≠ "java/lang/invoke/MethodHandle" ∧ yX7_fails.cls ≠ "java/lang/invoke/VarHandle" ∧ (parseMethodDescriptor yX7_fails.desc).map (fun d => d.parameters.length) = some 2 := by decide +kernel
set_option maxHeartbeats 4000000 in
set_option maxRecDepth 100000 in
theorem c_X7_fails {l : Launch} {D : va_G} {cy : Nat → ClassId} (q_o : Nat) (sz : Nat) (x_o_buffer x_o_bufferLength x_o_textLength x_o_position x_o_error x_o_errorAt x_o_errorOffset x_o_data x_o_draft x_o_aside x_o_history x_o_undoDepth x_o_numberStart x_o_nesting x_o_seen x_o_toldPlanes x_o_stack x_o_facts : Value) (o_thrown : Int32) (p1 : Int32) (p2 : Int32) (res : Int32 × Int32) (hF : X7_fails o_thrown p1 p2 = some res) : Met l yX7_fails wsX7_fails ({ frames := 0, cells := 0, slots := 0, locals := 0 } : Room) (kP (EN D cy) D [.ref q_o, .int p1, .int p2] [(q_o, .inr (7, [.int o_thrown, x_o_buffer, x_o_bufferLength, x_o_textLength, x_o_position, x_o_error, x_o_errorAt, x_o_errorOffset, x_o_data, x_o_draft, x_o_aside, x_o_history, x_o_undoDepth, x_o_numberStart, x_o_nesting, x_o_seen, x_o_toldPlanes, x_o_stack, x_o_facts]))] sz) (kQi D res.1 [(q_o, .inr (7, [.int res.2, x_o_buffer, x_o_bufferLength, x_o_textLength, x_o_position, x_o_error, x_o_errorAt, x_o_errorOffset, x_o_data, x_o_draft, x_o_aside, x_o_history, x_o_undoDepth, x_o_numberStart, x_o_nesting, x_o_seen, x_o_toldPlanes, x_o_stack, x_o_facts]))] (va_A [(q_o, .inr (7, [.int o_thrown, x_o_buffer, x_o_bufferLength, x_o_textLength, x_o_position, x_o_error, x_o_errorAt, x_o_errorOffset, x_o_data, x_o_draft, x_o_aside, x_o_history, x_o_undoDepth, x_o_numberStart, x_o_nesting, x_o_seen, x_o_toldPlanes, x_o_stack, x_o_facts]))] sz)) 0 0 (va_A [(q_o, .inr (7, [.int o_thrown, x_o_buffer, x_o_bufferLength, x_o_textLength, x_o_position, x_o_error, x_o_errorAt, x_o_errorOffset, x_o_data, x_o_draft, x_o_aside, x_o_history, x_o_undoDepth, x_o_numberStart, x_o_nesting, x_o_seen, x_o_toldPlanes, x_o_stack, x_o_facts]))] sz) := by
  refine kMet (y := yX7_fails) (av := [.ref q_o, .int p1, .int p2]) (cc := cX7_fails) (maxL := 3) (ret := some .boolean) (own := RX7) (Qc := fun A9 => (kQi D res.1 [(q_o, .inr (7, [.int res.2, x_o_buffer, x_o_bufferLength, x_o_textLength, x_o_position, x_o_error, x_o_errorAt, x_o_errorOffset, x_o_data, x_o_draft, x_o_aside, x_o_history, x_o_undoDepth, x_o_numberStart, x_o_nesting, x_o_seen, x_o_toldPlanes, x_o_stack, x_o_facts]))] A9)) (by decide) rfl rfl (Nat.le_of_ble_eq_true rfl) ?_
  intro p e s m args below meth c A hx hb hr hts hown hml hlocks hname hE hP hD hA hsz ls hl
  have hK := hE.1
  have hl : lv_has ls 3 [(0, .ref q_o), (1, .int p1), (2, .int p2)] := hl
  have hS : va_S A s.heap s.heap [] := va_S.rf
  have f_f42 := hts (.fieldLink RX7 42 "PeepBoxModel" "thrown" "I") (by decide +kernel)
  have f_inX7 : ∀ w ∈ wsX70, w ∈ wsX7_fails := by decide +kernel
  obtain ⟨QQ, hQQ⟩ : ∃ Q9, Q9 = MQ below (kQi D res.1 [(q_o, .inr (7, [.int res.2, x_o_buffer, x_o_bufferLength, x_o_textLength, x_o_position, x_o_error, x_o_errorAt, x_o_errorOffset, x_o_data, x_o_draft, x_o_aside, x_o_history, x_o_undoDepth, x_o_numberStart, x_o_nesting, x_o_seen, x_o_toldPlanes, x_o_stack, x_o_facts]))] A) args s 0 0 A := ⟨_, rfl⟩
  rw [← hQQ]
  have J16 : ∀ (o_thrown : Int32) (H : Heap) (locs : List Loc) (ls : Array Slot), va_P D vwCl [(q_o, .inr (7, [.int o_thrown, x_o_buffer, x_o_bufferLength, x_o_textLength, x_o_position, x_o_error, x_o_errorAt, x_o_errorOffset, x_o_data, x_o_draft, x_o_aside, x_o_history, x_o_undoDepth, x_o_numberStart, x_o_nesting, x_o_seen, x_o_toldPlanes, x_o_stack, x_o_facts]))] H → va_D A [(q_o, .inr (7, [.int o_thrown, x_o_buffer, x_o_bufferLength, x_o_textLength, x_o_position, x_o_error, x_o_errorAt, x_o_errorOffset, x_o_data, x_o_draft, x_o_aside, x_o_history, x_o_undoDepth, x_o_numberStart, x_o_nesting, x_o_seen, x_o_toldPlanes, x_o_stack, x_o_facts]))] → va_S A s.heap H locs → lv_has ls 3 [(0, .ref q_o)] → X7_fails_J16 p1 p2 o_thrown = some res → W p l e ({ frames := 0, cells := 0, slots := 0, locals := 0 } : Room) s m args below meth c H locs 0 0 QQ (F0 m 16 ls []) := by
    intro o_thrown H locs ls hP hD hS hl hF
    unfold X7_fails_J16 at hF
    refine lv_aload_n hx hb dX7_fails_16 rfl (lv_at hl 0 rfl) ?_
    refine va_get (D := D) (ci := 7) (v := .int o_thrown) (C := RX7) (T := TX7) (N := 19) hx hb hts f_inX7 hown hK hP 0 rfl rfl 0 (by decide) f_f42 (fun _ h9 => h9) rfl dX7_fails_17 ?_
    refine lv_if_eq (tgt := 27) hx hb dX7_fails_20 (by decide) (fun c1 => ?_) (fun c1 => ?_)
    · have hF := if_p hF c1
      refine lv_iconst (v := 0) hx hb dX7_fails_27 (by decide) ?_
      obtain rfl := so_o hF
      rw [hQQ]
      exact kr_z (v := (0 : Int32)) hx hb hr hlocks rfl hP hD hS dX7_fails_28
    · have hF := if_n hF c1
      refine lv_iconst (v := 1) hx hb dX7_fails_23 (by decide) ?_
      refine lv_goto (tgt := 28) hx hb dX7_fails_24 (by decide) ?_
      obtain rfl := so_o hF
      rw [hQQ]
      exact kr_z (v := (1 : Int32)) hx hb hr hlocks rfl hP hD hS dX7_fails_28
  have main : ∀ (H : Heap) (locs : List Loc) (ls : Array Slot), va_P D vwCl [(q_o, .inr (7, [.int o_thrown, x_o_buffer, x_o_bufferLength, x_o_textLength, x_o_position, x_o_error, x_o_errorAt, x_o_errorOffset, x_o_data, x_o_draft, x_o_aside, x_o_history, x_o_undoDepth, x_o_numberStart, x_o_nesting, x_o_seen, x_o_toldPlanes, x_o_stack, x_o_facts]))] H → va_D A [(q_o, .inr (7, [.int o_thrown, x_o_buffer, x_o_bufferLength, x_o_textLength, x_o_position, x_o_error, x_o_errorAt, x_o_errorOffset, x_o_data, x_o_draft, x_o_aside, x_o_history, x_o_undoDepth, x_o_numberStart, x_o_nesting, x_o_seen, x_o_toldPlanes, x_o_stack, x_o_facts]))] → va_S A s.heap H locs → lv_has ls 3 [(0, .ref q_o), (1, .int p1), (2, .int p2)] → W p l e ({ frames := 0, cells := 0, slots := 0, locals := 0 } : Room) s m args below meth c H locs 0 0 QQ (F0 m 0 ls []) := by
    intro H locs ls hP hD hS hl
    unfold X7_fails at hF
    refine lv_iload_n hx hb dX7_fails_0 rfl (lv_at hl 1 rfl) ?_
    refine lv_if_eq (tgt := 16) hx hb dX7_fails_1 (by decide) (fun c2 => ?_) (fun c2 => ?_)
    · have hF := if_p hF c2
      exact J16 o_thrown H locs ls hP hD hS (lv_sub hl [0] rfl) hF
    · have hF := if_n hF c2
      refine lv_aload_n hx hb dX7_fails_4 rfl (lv_at hl 0 rfl) ?_
      refine va_get (D := D) (ci := 7) (v := .int o_thrown) (C := RX7) (T := TX7) (N := 19) hx hb hts f_inX7 hown hK hP 0 rfl rfl 0 (by decide) f_f42 (fun _ h9 => h9) rfl dX7_fails_5 ?_
      refine lv_if_ne (tgt := 16) hx hb dX7_fails_8 (by decide) (fun c3 => ?_) (fun c3 => ?_)
      · have hF := if_n hF c3
        exact J16 o_thrown H locs ls hP hD hS (lv_sub hl [0] rfl) hF
      · have hF := if_p hF c3
        refine lv_aload_n hx hb dX7_fails_11 rfl (lv_at hl 0 rfl) ?_
        refine lv_iload_n hx hb dX7_fails_12 rfl (lv_at hl 2 rfl) ?_
        refine va_put (D := D) (ci := 7) (v := .int p2) (ty := .int) (C := RX7) (T := TX7) (N := 19) hx hb hts f_inX7 tyX7 tyX7_ok nmX7 hown hK hP hD hS 0 rfl rfl 0 (by decide) f_f42 (fun _ h9 => h9) rfl (by decide +kernel) rfl rfl (Nat.le_of_ble_eq_true rfl) dX7_fails_13 (fun H locs hP hD hS => ?_)
        have hP : va_P D vwCl [(q_o, .inr (7, [.int p2, x_o_buffer, x_o_bufferLength, x_o_textLength, x_o_position, x_o_error, x_o_errorAt, x_o_errorOffset, x_o_data, x_o_draft, x_o_aside, x_o_history, x_o_undoDepth, x_o_numberStart, x_o_nesting, x_o_seen, x_o_toldPlanes, x_o_stack, x_o_facts]))] H := hP
        have hD : va_D A [(q_o, .inr (7, [.int p2, x_o_buffer, x_o_bufferLength, x_o_textLength, x_o_position, x_o_error, x_o_errorAt, x_o_errorOffset, x_o_data, x_o_draft, x_o_aside, x_o_history, x_o_undoDepth, x_o_numberStart, x_o_nesting, x_o_seen, x_o_toldPlanes, x_o_stack, x_o_facts]))] := hD
        exact J16 p2 H locs ls hP hD hS (lv_sub hl [0] rfl) hF
  exact main s.heap [] ls hP hD hS hl
theorem kd_X7_in : yX7_in.cls ≠ "java/lang/invoke/MethodHandle" ∧ yX7_in.cls ≠ "java/lang/invoke/VarHandle" ∧ (parseMethodDescriptor yX7_in.desc).map (fun d => d.parameters.length) = some 3 := by decide +kernel
set_option maxHeartbeats 4000000 in
set_option maxRecDepth 100000 in
theorem c_X7_in {l : Launch} {D : va_G} {cy : Nat → ClassId} (sz : Nat) (p0 : Int32) (p1 : Int32) (p2 : Int32) (res : Int32) (hF : X7_in p0 p1 p2 = some res) : Met l yX7_in wsX7_in ({ frames := 0, cells := 0, slots := 0, locals := 0 } : Room) (kP (EN D cy) D [.int p0, .int p1, .int p2] [] sz) (kQi D res [] (va_A [] sz)) 0 0 (va_A [] sz) := by
  refine kMet (y := yX7_in) (av := [.int p0, .int p1, .int p2]) (cc := cX7_in) (maxL := 3) (ret := some .boolean) (own := RX7) (Qc := fun A9 => (kQi D res [] A9)) (by decide) rfl rfl (Nat.le_of_ble_eq_true rfl) ?_
  intro p e s m args below meth c A hx hb hr hts hown hml hlocks hname hE hP hD hA hsz ls hl
  have hK := hE.1
  have hl : lv_has ls 3 [(0, .int p0), (1, .int p1), (2, .int p2)] := hl
  have hS : va_S A s.heap s.heap [] := va_S.rf
  obtain ⟨QQ, hQQ⟩ : ∃ Q9, Q9 = MQ below (kQi D res [] A) args s 0 0 A := ⟨_, rfl⟩
  rw [← hQQ]
  have main : ∀ (H : Heap) (locs : List Loc) (ls : Array Slot), va_P D vwCl [] H → va_D A [] → va_S A s.heap H locs → lv_has ls 3 [(0, .int p0), (1, .int p1), (2, .int p2)] → W p l e ({ frames := 0, cells := 0, slots := 0, locals := 0 } : Room) s m args below meth c H locs 0 0 QQ (F0 m 0 ls []) := by
    intro H locs ls hP hD hS hl
    unfold X7_in at hF
    refine lv_iload_n hx hb dX7_in_0 rfl (lv_at hl 0 rfl) ?_
    refine lv_iload_n hx hb dX7_in_1 rfl (lv_at hl 1 rfl) ?_
    refine lv_icmp_lt (tgt := 14) hx hb dX7_in_2 (by decide) (fun c1 => ?_) (fun c1 => ?_)
    · have hF := if_p hF c1
      refine lv_iconst (v := 0) hx hb dX7_in_14 (by decide) ?_
      obtain rfl := so_o hF
      rw [hQQ]
      exact kr_z (v := (0 : Int32)) hx hb hr hlocks rfl hP hD hS dX7_in_15
    · have hF := if_n hF c1
      refine lv_iload_n hx hb dX7_in_5 rfl (lv_at hl 0 rfl) ?_
      refine lv_iload_n hx hb dX7_in_6 rfl (lv_at hl 2 rfl) ?_
      refine lv_icmp_gt (tgt := 14) hx hb dX7_in_7 (by decide) (fun c2 => ?_) (fun c2 => ?_)
      · have hF := if_p hF c2
        refine lv_iconst (v := 0) hx hb dX7_in_14 (by decide) ?_
        obtain rfl := so_o hF
        rw [hQQ]
        exact kr_z (v := (0 : Int32)) hx hb hr hlocks rfl hP hD hS dX7_in_15
      · have hF := if_n hF c2
        refine lv_iconst (v := 1) hx hb dX7_in_10 (by decide) ?_
        refine lv_goto (tgt := 15) hx hb dX7_in_11 (by decide) ?_
        obtain rfl := so_o hF
        rw [hQQ]
        exact kr_z (v := (1 : Int32)) hx hb hr hlocks rfl hP hD hS dX7_in_15
  exact main s.heap [] ls hP hD hS hl
theorem kd_X7_min : yX7_min.cls ≠ "java/lang/invoke/MethodHandle" ∧ yX7_min.cls ≠ "java/lang/invoke/VarHandle" ∧ (parseMethodDescriptor yX7_min.desc).map (fun d => d.parameters.length) = some 2 := by decide +kernel
set_option maxHeartbeats 4000000 in
set_option maxRecDepth 100000 in
theorem c_X7_min {l : Launch} {D : va_G} {cy : Nat → ClassId} (sz : Nat) (p0 : Int32) (p1 : Int32) (res : Int32) (hF : X7_min p0 p1 = some res) : Met l yX7_min wsX7_min ({ frames := 0, cells := 0, slots := 0, locals := 0 } : Room) (kP (EN D cy) D [.int p0, .int p1] [] sz) (kQi D res [] (va_A [] sz)) 0 0 (va_A [] sz) := by
  refine kMet (y := yX7_min) (av := [.int p0, .int p1]) (cc := cX7_min) (maxL := 2) (ret := some .int) (own := RX7) (Qc := fun A9 => (kQi D res [] A9)) (by decide) rfl rfl (Nat.le_of_ble_eq_true rfl) ?_
  intro p e s m args below meth c A hx hb hr hts hown hml hlocks hname hE hP hD hA hsz ls hl
  have hK := hE.1
  have hl : lv_has ls 2 [(0, .int p0), (1, .int p1)] := hl
  have hS : va_S A s.heap s.heap [] := va_S.rf
  obtain ⟨QQ, hQQ⟩ : ∃ Q9, Q9 = MQ below (kQi D res [] A) args s 0 0 A := ⟨_, rfl⟩
  rw [← hQQ]
  have main : ∀ (H : Heap) (locs : List Loc) (ls : Array Slot), va_P D vwCl [] H → va_D A [] → va_S A s.heap H locs → lv_has ls 2 [(0, .int p0), (1, .int p1)] → W p l e ({ frames := 0, cells := 0, slots := 0, locals := 0 } : Room) s m args below meth c H locs 0 0 QQ (F0 m 0 ls []) := by
    intro H locs ls hP hD hS hl
    unfold X7_min at hF
    refine lv_iload_n hx hb dX7_min_0 rfl (lv_at hl 0 rfl) ?_
    refine lv_iload_n hx hb dX7_min_1 rfl (lv_at hl 1 rfl) ?_
    refine lv_icmp_ge (tgt := 9) hx hb dX7_min_2 (by decide) (fun c1 => ?_) (fun c1 => ?_)
    · have hF := if_p hF c1
      refine lv_iload_n hx hb dX7_min_9 rfl (lv_at hl 1 rfl) ?_
      obtain rfl := so_o hF
      rw [hQQ]
      exact kr_i hx hb hr hlocks hP hD hS dX7_min_10
    · have hF := if_n hF c1
      refine lv_iload_n hx hb dX7_min_5 rfl (lv_at hl 0 rfl) ?_
      refine lv_goto (tgt := 10) hx hb dX7_min_6 (by decide) ?_
      obtain rfl := so_o hF
      rw [hQQ]
      exact kr_i hx hb hr hlocks hP hD hS dX7_min_10
  exact main s.heap [] ls hP hD hS hl
theorem kd_X7_max : yX7_max.cls ≠ "java/lang/invoke/MethodHandle" ∧ yX7_max.cls ≠ "java/lang/invoke/VarHandle" ∧ (parseMethodDescriptor yX7_max.desc).map (fun d => d.parameters.length) = some 2 := by decide +kernel
set_option maxHeartbeats 4000000 in
set_option maxRecDepth 100000 in
theorem c_X7_max {l : Launch} {D : va_G} {cy : Nat → ClassId} (sz : Nat) (p0 : Int32) (p1 : Int32) (res : Int32) (hF : X7_max p0 p1 = some res) : Met l yX7_max wsX7_max ({ frames := 0, cells := 0, slots := 0, locals := 0 } : Room) (kP (EN D cy) D [.int p0, .int p1] [] sz) (kQi D res [] (va_A [] sz)) 0 0 (va_A [] sz) := by
  refine kMet (y := yX7_max) (av := [.int p0, .int p1]) (cc := cX7_max) (maxL := 2) (ret := some .int) (own := RX7) (Qc := fun A9 => (kQi D res [] A9)) (by decide) rfl rfl (Nat.le_of_ble_eq_true rfl) ?_
  intro p e s m args below meth c A hx hb hr hts hown hml hlocks hname hE hP hD hA hsz ls hl
  have hK := hE.1
  have hl : lv_has ls 2 [(0, .int p0), (1, .int p1)] := hl
  have hS : va_S A s.heap s.heap [] := va_S.rf
  obtain ⟨QQ, hQQ⟩ : ∃ Q9, Q9 = MQ below (kQi D res [] A) args s 0 0 A := ⟨_, rfl⟩
  rw [← hQQ]
  have main : ∀ (H : Heap) (locs : List Loc) (ls : Array Slot), va_P D vwCl [] H → va_D A [] → va_S A s.heap H locs → lv_has ls 2 [(0, .int p0), (1, .int p1)] → W p l e ({ frames := 0, cells := 0, slots := 0, locals := 0 } : Room) s m args below meth c H locs 0 0 QQ (F0 m 0 ls []) := by
    intro H locs ls hP hD hS hl
    unfold X7_max at hF
    refine lv_iload_n hx hb dX7_max_0 rfl (lv_at hl 0 rfl) ?_
    refine lv_iload_n hx hb dX7_max_1 rfl (lv_at hl 1 rfl) ?_
    refine lv_icmp_le (tgt := 9) hx hb dX7_max_2 (by decide) (fun c1 => ?_) (fun c1 => ?_)
    · have hF := if_p hF c1
      refine lv_iload_n hx hb dX7_max_9 rfl (lv_at hl 1 rfl) ?_
      obtain rfl := so_o hF
      rw [hQQ]
      exact kr_i hx hb hr hlocks hP hD hS dX7_max_10
    · have hF := if_n hF c1
      refine lv_iload_n hx hb dX7_max_5 rfl (lv_at hl 0 rfl) ?_
      refine lv_goto (tgt := 10) hx hb dX7_max_6 (by decide) ?_
      obtain rfl := so_o hF
      rw [hQQ]
      exact kr_i hx hb hr hlocks hP hD hS dX7_max_10
  exact main s.heap [] ls hP hD hS hl
theorem kd_X7_copy : yX7_copy.cls ≠ "java/lang/invoke/MethodHandle" ∧ yX7_copy.cls ≠ "java/lang/invoke/VarHandle" ∧ (parseMethodDescriptor yX7_copy.desc).map (fun d => d.parameters.length) = some 3 := by decide +kernel
set_option maxHeartbeats 4000000 in
set_option maxRecDepth 100000 in
theorem c_X7_copy {l : Launch} {D : va_G} {cy : Nat → ClassId} (n_o : Nat) (n_p1 : Nat) (q_o q_p1 : Nat) (sz : Nat) (o : Nat → Int32) (p1 : Nat → Int32) (p2 : Int32) (res : (Nat → Int32)) (hF : X7_copy n_o n_p1 o p1 p2 = some res) : Met l yX7_copy wsX7_copy ({ frames := 0, cells := 0, slots := 0, locals := 0 } : Room) (kP (EN D cy) D [.ref q_o, .ref q_p1, .int p2] [(q_o, .inl (cy 0, n_o, .inl o)), (q_p1, .inl (cy 0, n_p1, .inl p1))] sz) (kQv D [(q_o, .inl (cy 0, n_o, .inl o)), (q_p1, .inl (cy 0, n_p1, .inl res))] (va_A [(q_o, .inl (cy 0, n_o, .inl o)), (q_p1, .inl (cy 0, n_p1, .inl p1))] sz)) 0 0 (va_A [(q_o, .inl (cy 0, n_o, .inl o)), (q_p1, .inl (cy 0, n_p1, .inl p1))] sz) := by
  refine kMet (y := yX7_copy) (av := [.ref q_o, .ref q_p1, .int p2]) (cc := cX7_copy) (maxL := 4) (ret := none) (own := RX7) (Qc := fun A9 => (kQv D [(q_o, .inl (cy 0, n_o, .inl o)), (q_p1, .inl (cy 0, n_p1, .inl res))] A9)) (by decide) rfl rfl (Nat.le_of_ble_eq_true rfl) ?_
  intro p e s m args below meth c A hx hb hr hts hown hml hlocks hname hE hP hD hA hsz ls hl
  have hK := hE.1
  have hl : lv_has ls 4 [(0, .ref q_o), (1, .ref q_p1), (2, .int p2)] := hl
  have hS : va_S A s.heap s.heap [] := va_S.rf
  obtain ⟨QQ, hQQ⟩ : ∃ Q9, Q9 = MQ below (kQv D [(q_o, .inl (cy 0, n_o, .inl o)), (q_p1, .inl (cy 0, n_p1, .inl res))] A) args s 0 0 A := ⟨_, rfl⟩
  rw [← hQQ]
  have J2 : ∀ (n2 : Nat) (l3 : Int32) (p1 : Nat → Int32) (H : Heap) (locs : List Loc) (ls : Array Slot), va_P D vwCl [(q_o, .inl (cy 0, n_o, .inl o)), (q_p1, .inl (cy 0, n_p1, .inl p1))] H → va_D A [(q_o, .inl (cy 0, n_o, .inl o)), (q_p1, .inl (cy 0, n_p1, .inl p1))] → va_S A s.heap H locs → lv_has ls 4 [(0, .ref q_o), (1, .ref q_p1), (2, .int p2), (3, .int l3)] → X7_copy_L2 n_o n_p1 o p2 n2 l3 p1 = some res → W p l e ({ frames := 0, cells := 0, slots := 0, locals := 0 } : Room) s m args below meth c H locs 0 0 QQ (F0 m 2 ls []) := by
    intro n2
    induction n2 with
    | zero =>
      intro l3 p1 H locs ls hP hD hS hl hF
      rw [X7_copy_L2] at hF
      cases hF
    | succ n2 ih2 =>
      intro l3 p1 H locs ls hP hD hS hl hF
      rw [X7_copy_L2] at hF
      refine lv_iload_n hx hb dX7_copy_2 rfl (lv_at hl 3 rfl) ?_
      refine lv_iload_n hx hb dX7_copy_3 rfl (lv_at hl 2 rfl) ?_
      refine lv_icmp_ge (tgt := 19) hx hb dX7_copy_4 (by decide) (fun c1 => ?_) (fun c1 => ?_)
      · have hF := if_p hF c1
        obtain rfl := so_o hF
        rw [hQQ]
        exact kr_v hx hb hr hlocks hP hD hS dX7_copy_19
      · have hF := if_n hF c1
        refine lv_aload_n hx hb dX7_copy_7 rfl (lv_at hl 1 rfl) ?_
        refine lv_iload_n hx hb dX7_copy_8 rfl (lv_at hl 3 rfl) ?_
        refine lv_aload_n hx hb dX7_copy_9 rfl (lv_at hl 0 rfl) ?_
        refine lv_iload_n hx hb dX7_copy_10 rfl (lv_at hl 3 rfl) ?_
        obtain ⟨h2, hF⟩ := ld_o hF
        refine va_iald hx hb hK hP 0 0 rfl rfl h2 dX7_copy_11 ?_
        refine lv_topi (fun v3 ev3 => ?_)
        have hF := hF v3 ev3
        obtain ⟨h4, hF⟩ := st_o hF
        refine va_iast hx hb hK hP hD hS 1 0 rfl rfl h4 dX7_copy_12 (fun H locs hP hD hS => ?_)
        obtain ⟨b5, eb5⟩ : ∃ y : Nat → Int32, y = (upd p1 l3.toNatClampNeg v3) := ⟨_, rfl⟩
        have hF := hF b5 eb5
        have hP : va_P D vwCl [(q_o, .inl (cy 0, n_o, .inl o)), (q_p1, .inl (cy 0, n_p1, .inl b5))] H := by rw [eb5]; exact hP
        have hD : va_D A [(q_o, .inl (cy 0, n_o, .inl o)), (q_p1, .inl (cy 0, n_p1, .inl b5))] := by rw [eb5]; exact hD
        obtain ⟨v6, ev6⟩ : ∃ y : Int32, y = l3 + (1 : Int32) := ⟨_, rfl⟩
        have hF := nm_o hF v6 ev6
        refine lv_iinc (v := v6) (lv' := [(3, .int v6), (0, .ref q_o), (1, .ref q_p1), (2, .int p2)]) hx hb dX7_copy_13 hl (k := 3) rfl (by rw [ev6]; rfl) (by decide) rfl (fun ls hl => ?_)
        refine lv_goto (tgt := 2) hx hb dX7_copy_16 (by decide) ?_
        exact ih2 v6 b5 H locs ls hP hD hS (lv_sub hl [1, 2, 3, 0] rfl) hF
  have main : ∀ (H : Heap) (locs : List Loc) (ls : Array Slot), va_P D vwCl [(q_o, .inl (cy 0, n_o, .inl o)), (q_p1, .inl (cy 0, n_p1, .inl p1))] H → va_D A [(q_o, .inl (cy 0, n_o, .inl o)), (q_p1, .inl (cy 0, n_p1, .inl p1))] → va_S A s.heap H locs → lv_has ls 4 [(0, .ref q_o), (1, .ref q_p1), (2, .int p2)] → W p l e ({ frames := 0, cells := 0, slots := 0, locals := 0 } : Room) s m args below meth c H locs 0 0 QQ (F0 m 0 ls []) := by
    intro H locs ls hP hD hS hl
    unfold X7_copy at hF
    refine lv_iconst (v := 0) hx hb dX7_copy_0 (by decide) ?_
    refine lv_istore_n (lv' := [(3, .int (0 : Int32)), (0, .ref q_o), (1, .ref q_p1), (2, .int p2)]) hx hb dX7_copy_1 rfl hl (by decide) rfl (fun ls hl => ?_)
    exact J2 FU (0 : Int32) p1 H locs ls hP hD hS (lv_sub hl [1, 2, 3, 0] rfl) hF
  exact main s.heap [] ls hP hD hS hl
theorem kd_X7_layBox : yX7_layBox.cls ≠ "java/lang/invoke/MethodHandle" ∧ yX7_layBox.cls ≠ "java/lang/invoke/VarHandle" ∧ (parseMethodDescriptor yX7_layBox.desc).map (fun d => d.parameters.length) = some 4 := by decide +kernel
set_option maxHeartbeats 4000000 in
set_option maxRecDepth 100000 in
theorem c_X7_layBox {l : Launch} {D : va_G} {cy : Nat → ClassId} (n_o : Nat) (q_o : Nat) (sz : Nat) (o : Nat → Int32) (p1 : Int32) (p2 : Int32) (p3 : Int32) (res : (Nat → Int32)) (hF : X7_layBox n_o o p1 p2 p3 = some res) : Met l yX7_layBox wsX7_layBox ({ frames := 0, cells := 0, slots := 0, locals := 0 } : Room) (kP (EN D cy) D [.ref q_o, .int p1, .int p2, .int p3] [(q_o, .inl (cy 0, n_o, .inl o))] sz) (kQv D [(q_o, .inl (cy 0, n_o, .inl res))] (va_A [(q_o, .inl (cy 0, n_o, .inl o))] sz)) 0 0 (va_A [(q_o, .inl (cy 0, n_o, .inl o))] sz) := by
  refine kMet (y := yX7_layBox) (av := [.ref q_o, .int p1, .int p2, .int p3]) (cc := cX7_layBox) (maxL := 6) (ret := none) (own := RX7) (Qc := fun A9 => (kQv D [(q_o, .inl (cy 0, n_o, .inl res))] A9)) (by decide) rfl rfl (Nat.le_of_ble_eq_true rfl) ?_
  intro p e s m args below meth c A hx hb hr hts hown hml hlocks hname hE hP hD hA hsz ls hl
  have hK := hE.1
  have hl : lv_has ls 6 [(0, .ref q_o), (1, .int p1), (2, .int p2), (3, .int p3)] := hl
  have hS : va_S A s.heap s.heap [] := va_S.rf
  obtain ⟨QQ, hQQ⟩ : ∃ Q9, Q9 = MQ below (kQv D [(q_o, .inl (cy 0, n_o, .inl res))] A) args s 0 0 A := ⟨_, rfl⟩
  rw [← hQQ]
  have J46 : ∀ (n46 : Nat) (l4 : Int32) (o : Nat → Int32) (H : Heap) (locs : List Loc) (ls : Array Slot), va_P D vwCl [(q_o, .inl (cy 0, n_o, .inl o))] H → va_D A [(q_o, .inl (cy 0, n_o, .inl o))] → va_S A s.heap H locs → lv_has ls 6 [(0, .ref q_o), (1, .int p1), (2, .int p2), (3, .int p3), (4, .int l4)] → X7_layBox_L46 n_o p1 p2 p3 n46 l4 o = some res → W p l e ({ frames := 0, cells := 0, slots := 0, locals := 0 } : Room) s m args below meth c H locs 0 0 QQ (F0 m 46 ls []) := by
    intro n46
    induction n46 with
    | zero =>
      intro l4 o H locs ls hP hD hS hl hF
      rw [X7_layBox_L46] at hF
      cases hF
    | succ n46 ih46 =>
      have J55 : ∀ (n55 : Nat) (l4 : Int32) (l5 : Int32) (o : Nat → Int32) (H : Heap) (locs : List Loc) (ls : Array Slot), va_P D vwCl [(q_o, .inl (cy 0, n_o, .inl o))] H → va_D A [(q_o, .inl (cy 0, n_o, .inl o))] → va_S A s.heap H locs → lv_has ls 6 [(0, .ref q_o), (1, .int p1), (2, .int p2), (3, .int p3), (4, .int l4), (5, .int l5)] → X7_layBox_L55 n_o p1 p2 p3 (fun z0 z1 => X7_layBox_L46 n_o p1 p2 p3 n46 z0 z1) n55 l4 l5 o = some res → W p l e ({ frames := 0, cells := 0, slots := 0, locals := 0 } : Room) s m args below meth c H locs 0 0 QQ (F0 m 55 ls []) := by
        intro n55
        induction n55 with
        | zero =>
          intro l4 l5 o H locs ls hP hD hS hl hF
          rw [X7_layBox_L55] at hF
          cases hF
        | succ n55 ih55 =>
          have J88 : ∀ (l4 : Int32) (l5 : Int32) (k1 : Int32) (k2 : Int32) (o : Nat → Int32) (H : Heap) (locs : List Loc) (ls : Array Slot), va_P D vwCl [(q_o, .inl (cy 0, n_o, .inl o))] H → va_D A [(q_o, .inl (cy 0, n_o, .inl o))] → va_S A s.heap H locs → lv_has ls 6 [(0, .ref q_o), (1, .int p1), (2, .int p2), (3, .int p3), (4, .int l4), (5, .int l5)] → X7_layBox_J88 n_o p1 p2 p3 (fun z0 z1 => X7_layBox_L46 n_o p1 p2 p3 n46 z0 z1) (fun z0 z1 z2 => X7_layBox_L55 n_o p1 p2 p3 (fun z0 z1 => X7_layBox_L46 n_o p1 p2 p3 n46 z0 z1) n55 z0 z1 z2) l4 l5 k1 k2 o = some res → W p l e ({ frames := 0, cells := 0, slots := 0, locals := 0 } : Room) s m args below meth c H locs 0 0 QQ (F0 m 88 ls [.int k2, .int k1, .ref q_o]) := by
            intro l4 l5 k1 k2 o H locs ls hP hD hS hl hF
            unfold X7_layBox_J88 at hF
            obtain ⟨h1, hF⟩ := st_o hF
            refine va_iast hx hb hK hP hD hS 0 0 rfl rfl h1 dX7_layBox_88 (fun H locs hP hD hS => ?_)
            obtain ⟨b2, eb2⟩ : ∃ y : Nat → Int32, y = (upd o k1.toNatClampNeg k2) := ⟨_, rfl⟩
            have hF := hF b2 eb2
            have hP : va_P D vwCl [(q_o, .inl (cy 0, n_o, .inl b2))] H := by rw [eb2]; exact hP
            have hD : va_D A [(q_o, .inl (cy 0, n_o, .inl b2))] := by rw [eb2]; exact hD
            obtain ⟨v3, ev3⟩ : ∃ y : Int32, y = l5 + (1 : Int32) := ⟨_, rfl⟩
            have hF := nm_o hF v3 ev3
            refine lv_iinc (v := v3) (lv' := [(5, .int v3), (0, .ref q_o), (1, .int p1), (2, .int p2), (3, .int p3), (4, .int l4)]) hx hb dX7_layBox_89 hl (k := 5) rfl (by rw [ev3]; rfl) (by decide) rfl (fun ls hl => ?_)
            refine lv_goto (tgt := 55) hx hb dX7_layBox_92 (by decide) ?_
            exact ih55 l4 v3 b2 H locs ls hP hD hS (lv_sub hl [1, 2, 3, 4, 5, 0] rfl) hF
          intro l4 l5 o H locs ls hP hD hS hl hF
          rw [X7_layBox_L55] at hF
          refine lv_iload hx hb dX7_layBox_55 (lv_at hl 5 rfl) ?_
          refine lv_iload_n hx hb dX7_layBox_57 rfl (lv_at hl 1 rfl) ?_
          refine lv_iload_n hx hb dX7_layBox_58 rfl (lv_at hl 2 rfl) ?_
          refine lv_imul hx hb dX7_layBox_59 ?_
          refine lv_icmp_ge (tgt := 95) hx hb dX7_layBox_60 (by decide) (fun c4 => ?_) (fun c4 => ?_)
          · have hF := if_p hF c4
            obtain ⟨v5, ev5⟩ : ∃ y : Int32, y = l4 + (1 : Int32) := ⟨_, rfl⟩
            have hF := nm_o hF v5 ev5
            refine lv_iinc (v := v5) (lv' := [(4, .int v5), (0, .ref q_o), (1, .int p1), (2, .int p2), (3, .int p3), (5, .int l5)]) hx hb dX7_layBox_95 hl (k := 4) rfl (by rw [ev5]; rfl) (by decide) rfl (fun ls hl => ?_)
            refine lv_goto (tgt := 46) hx hb dX7_layBox_98 (by decide) ?_
            exact ih46 v5 o H locs ls hP hD hS (lv_sub hl [1, 2, 3, 4, 0] rfl) hF
          · have hF := if_n hF c4
            refine lv_aload_n hx hb dX7_layBox_63 rfl (lv_at hl 0 rfl) ?_
            refine lv_bipush (v := 15) hx hb dX7_layBox_64 (by decide) ?_
            refine lv_bipush (v := 96) hx hb dX7_layBox_66 (by decide) ?_
            refine lv_iload hx hb dX7_layBox_68 (lv_at hl 4 rfl) ?_
            refine lv_imul hx hb dX7_layBox_70 ?_
            refine lv_iadd hx hb dX7_layBox_71 ?_
            refine lv_iload hx hb dX7_layBox_72 (lv_at hl 5 rfl) ?_
            refine lv_iadd hx hb dX7_layBox_74 ?_
            refine lv_iload hx hb dX7_layBox_75 (lv_at hl 4 rfl) ?_
            refine lv_iload_n hx hb dX7_layBox_77 rfl (lv_at hl 3 rfl) ?_
            refine lv_iconst (v := 1) hx hb dX7_layBox_78 (by decide) ?_
            refine lv_isub hx hb dX7_layBox_79 ?_
            refine lv_icmp_ne (tgt := 87) hx hb dX7_layBox_80 (by decide) (fun c6 => ?_) (fun c6 => ?_)
            · have hF := if_n hF c6
              refine lv_iconst (v := -1) hx hb dX7_layBox_87 (by decide) ?_
              exact J88 l4 l5 (((15 : Int32) + ((96 : Int32) * l4)) + l5) (-1 : Int32) o H locs ls hP hD hS (lv_sub hl [0, 1, 2, 3, 4, 5] rfl) hF
            · have hF := if_p hF c6
              refine lv_iconst (v := 0) hx hb dX7_layBox_83 (by decide) ?_
              refine lv_goto (tgt := 88) hx hb dX7_layBox_84 (by decide) ?_
              exact J88 l4 l5 (((15 : Int32) + ((96 : Int32) * l4)) + l5) (0 : Int32) o H locs ls hP hD hS (lv_sub hl [0, 1, 2, 3, 4, 5] rfl) hF
      intro l4 o H locs ls hP hD hS hl hF
      rw [X7_layBox_L46] at hF
      refine lv_iload hx hb dX7_layBox_46 (lv_at hl 4 rfl) ?_
      refine lv_iload_n hx hb dX7_layBox_48 rfl (lv_at hl 3 rfl) ?_
      refine lv_icmp_ge (tgt := 101) hx hb dX7_layBox_49 (by decide) (fun c7 => ?_) (fun c7 => ?_)
      · have hF := if_p hF c7
        obtain rfl := so_o hF
        rw [hQQ]
        exact kr_v hx hb hr hlocks hP hD hS dX7_layBox_101
      · have hF := if_n hF c7
        refine lv_iconst (v := 0) hx hb dX7_layBox_52 (by decide) ?_
        refine lv_istore (lv' := [(5, .int (0 : Int32)), (0, .ref q_o), (1, .int p1), (2, .int p2), (3, .int p3), (4, .int l4)]) hx hb dX7_layBox_53 hl (by decide) rfl (fun ls hl => ?_)
        exact J55 FU l4 (0 : Int32) o H locs ls hP hD hS (lv_sub hl [1, 2, 3, 4, 5, 0] rfl) hF
  have J3 : ∀ (n3 : Nat) (l4 : Int32) (o : Nat → Int32) (H : Heap) (locs : List Loc) (ls : Array Slot), va_P D vwCl [(q_o, .inl (cy 0, n_o, .inl o))] H → va_D A [(q_o, .inl (cy 0, n_o, .inl o))] → va_S A s.heap H locs → lv_has ls 6 [(0, .ref q_o), (1, .int p1), (2, .int p2), (3, .int p3), (4, .int l4)] → X7_layBox_L3 n_o p1 p2 p3 n3 l4 o = some res → W p l e ({ frames := 0, cells := 0, slots := 0, locals := 0 } : Room) s m args below meth c H locs 0 0 QQ (F0 m 3 ls []) := by
    intro n3
    induction n3 with
    | zero =>
      intro l4 o H locs ls hP hD hS hl hF
      rw [X7_layBox_L3] at hF
      cases hF
    | succ n3 ih3 =>
      intro l4 o H locs ls hP hD hS hl hF
      rw [X7_layBox_L3] at hF
      refine lv_iload hx hb dX7_layBox_3 (lv_at hl 4 rfl) ?_
      refine lv_sipush (v := 2243) hx hb dX7_layBox_5 (by decide) ?_
      refine lv_icmp_ge (tgt := 22) hx hb dX7_layBox_8 (by decide) (fun c8 => ?_) (fun c8 => ?_)
      · have hF := if_p hF c8
        refine lv_aload_n hx hb dX7_layBox_22 rfl (lv_at hl 0 rfl) ?_
        refine lv_iconst (v := 0) hx hb dX7_layBox_23 (by decide) ?_
        refine lv_iload_n hx hb dX7_layBox_24 rfl (lv_at hl 1 rfl) ?_
        obtain ⟨h9, hF⟩ := st_o hF
        refine va_iast hx hb hK hP hD hS 0 0 rfl rfl h9 dX7_layBox_25 (fun H locs hP hD hS => ?_)
        obtain ⟨b10, eb10⟩ : ∃ y : Nat → Int32, y = (upd o (0 : Int32).toNatClampNeg p1) := ⟨_, rfl⟩
        have hF := hF b10 eb10
        have hP : va_P D vwCl [(q_o, .inl (cy 0, n_o, .inl b10))] H := by rw [eb10]; exact hP
        have hD : va_D A [(q_o, .inl (cy 0, n_o, .inl b10))] := by rw [eb10]; exact hD
        refine lv_aload_n hx hb dX7_layBox_26 rfl (lv_at hl 0 rfl) ?_
        refine lv_iconst (v := 1) hx hb dX7_layBox_27 (by decide) ?_
        refine lv_iload_n hx hb dX7_layBox_28 rfl (lv_at hl 2 rfl) ?_
        obtain ⟨h11, hF⟩ := st_o hF
        refine va_iast hx hb hK hP hD hS 0 0 rfl rfl h11 dX7_layBox_29 (fun H locs hP hD hS => ?_)
        obtain ⟨b12, eb12⟩ : ∃ y : Nat → Int32, y = (upd b10 (1 : Int32).toNatClampNeg p2) := ⟨_, rfl⟩
        have hF := hF b12 eb12
        have hP : va_P D vwCl [(q_o, .inl (cy 0, n_o, .inl b12))] H := by rw [eb12]; exact hP
        have hD : va_D A [(q_o, .inl (cy 0, n_o, .inl b12))] := by rw [eb12]; exact hD
        refine lv_aload_n hx hb dX7_layBox_30 rfl (lv_at hl 0 rfl) ?_
        refine lv_iconst (v := 2) hx hb dX7_layBox_31 (by decide) ?_
        refine lv_iload_n hx hb dX7_layBox_32 rfl (lv_at hl 3 rfl) ?_
        obtain ⟨h13, hF⟩ := st_o hF
        refine va_iast hx hb hK hP hD hS 0 0 rfl rfl h13 dX7_layBox_33 (fun H locs hP hD hS => ?_)
        obtain ⟨b14, eb14⟩ : ∃ y : Nat → Int32, y = (upd b12 (2 : Int32).toNatClampNeg p3) := ⟨_, rfl⟩
        have hF := hF b14 eb14
        have hP : va_P D vwCl [(q_o, .inl (cy 0, n_o, .inl b14))] H := by rw [eb14]; exact hP
        have hD : va_D A [(q_o, .inl (cy 0, n_o, .inl b14))] := by rw [eb14]; exact hD
        refine lv_aload_n hx hb dX7_layBox_34 rfl (lv_at hl 0 rfl) ?_
        refine lv_iconst (v := 4) hx hb dX7_layBox_35 (by decide) ?_
        refine lv_bipush (v := 9) hx hb dX7_layBox_36 (by decide) ?_
        obtain ⟨h15, hF⟩ := st_o hF
        refine va_iast hx hb hK hP hD hS 0 0 rfl rfl h15 dX7_layBox_38 (fun H locs hP hD hS => ?_)
        obtain ⟨b16, eb16⟩ : ∃ y : Nat → Int32, y = (upd b14 (4 : Int32).toNatClampNeg (9 : Int32)) := ⟨_, rfl⟩
        have hF := hF b16 eb16
        have hP : va_P D vwCl [(q_o, .inl (cy 0, n_o, .inl b16))] H := by rw [eb16]; exact hP
        have hD : va_D A [(q_o, .inl (cy 0, n_o, .inl b16))] := by rw [eb16]; exact hD
        refine lv_aload_n hx hb dX7_layBox_39 rfl (lv_at hl 0 rfl) ?_
        refine lv_iconst (v := 5) hx hb dX7_layBox_40 (by decide) ?_
        refine lv_iconst (v := 3) hx hb dX7_layBox_41 (by decide) ?_
        obtain ⟨h17, hF⟩ := st_o hF
        refine va_iast hx hb hK hP hD hS 0 0 rfl rfl h17 dX7_layBox_42 (fun H locs hP hD hS => ?_)
        obtain ⟨b18, eb18⟩ : ∃ y : Nat → Int32, y = (upd b16 (5 : Int32).toNatClampNeg (3 : Int32)) := ⟨_, rfl⟩
        have hF := hF b18 eb18
        have hP : va_P D vwCl [(q_o, .inl (cy 0, n_o, .inl b18))] H := by rw [eb18]; exact hP
        have hD : va_D A [(q_o, .inl (cy 0, n_o, .inl b18))] := by rw [eb18]; exact hD
        refine lv_iconst (v := 0) hx hb dX7_layBox_43 (by decide) ?_
        refine lv_istore (lv' := [(4, .int (0 : Int32)), (0, .ref q_o), (1, .int p1), (2, .int p2), (3, .int p3)]) hx hb dX7_layBox_44 hl (by decide) rfl (fun ls hl => ?_)
        exact J46 FU (0 : Int32) b18 H locs ls hP hD hS (lv_sub hl [1, 2, 3, 4, 0] rfl) hF
      · have hF := if_n hF c8
        refine lv_aload_n hx hb dX7_layBox_11 rfl (lv_at hl 0 rfl) ?_
        refine lv_iload hx hb dX7_layBox_12 (lv_at hl 4 rfl) ?_
        refine lv_iconst (v := 0) hx hb dX7_layBox_14 (by decide) ?_
        obtain ⟨h19, hF⟩ := st_o hF
        refine va_iast hx hb hK hP hD hS 0 0 rfl rfl h19 dX7_layBox_15 (fun H locs hP hD hS => ?_)
        obtain ⟨b20, eb20⟩ : ∃ y : Nat → Int32, y = (upd o l4.toNatClampNeg (0 : Int32)) := ⟨_, rfl⟩
        have hF := hF b20 eb20
        have hP : va_P D vwCl [(q_o, .inl (cy 0, n_o, .inl b20))] H := by rw [eb20]; exact hP
        have hD : va_D A [(q_o, .inl (cy 0, n_o, .inl b20))] := by rw [eb20]; exact hD
        obtain ⟨v21, ev21⟩ : ∃ y : Int32, y = l4 + (1 : Int32) := ⟨_, rfl⟩
        have hF := nm_o hF v21 ev21
        refine lv_iinc (v := v21) (lv' := [(4, .int v21), (0, .ref q_o), (1, .int p1), (2, .int p2), (3, .int p3)]) hx hb dX7_layBox_16 hl (k := 4) rfl (by rw [ev21]; rfl) (by decide) rfl (fun ls hl => ?_)
        refine lv_goto (tgt := 3) hx hb dX7_layBox_19 (by decide) ?_
        exact ih3 v21 b20 H locs ls hP hD hS (lv_sub hl [1, 2, 3, 4, 0] rfl) hF
  have main : ∀ (H : Heap) (locs : List Loc) (ls : Array Slot), va_P D vwCl [(q_o, .inl (cy 0, n_o, .inl o))] H → va_D A [(q_o, .inl (cy 0, n_o, .inl o))] → va_S A s.heap H locs → lv_has ls 6 [(0, .ref q_o), (1, .int p1), (2, .int p2), (3, .int p3)] → W p l e ({ frames := 0, cells := 0, slots := 0, locals := 0 } : Room) s m args below meth c H locs 0 0 QQ (F0 m 0 ls []) := by
    intro H locs ls hP hD hS hl
    unfold X7_layBox at hF
    refine lv_iconst (v := 0) hx hb dX7_layBox_0 (by decide) ?_
    refine lv_istore (lv' := [(4, .int (0 : Int32)), (0, .ref q_o), (1, .int p1), (2, .int p2), (3, .int p3)]) hx hb dX7_layBox_1 hl (by decide) rfl (fun ls hl => ?_)
    exact J3 FU (0 : Int32) o H locs ls hP hD hS (lv_sub hl [1, 2, 3, 4, 0] rfl) hF
  exact main s.heap [] ls hP hD hS hl
theorem kd_X7_append : yX7_append.cls = RX7 ∧ yX7_append.cls ≠ "java/lang/invoke/MethodHandle" ∧ yX7_append.cls ≠ "java/lang/invoke/VarHandle" ∧ (parseMethodDescriptor yX7_append.desc).map (fun d => d.parameters.length) = some 5 := by decide +kernel
set_option maxHeartbeats 4000000 in
set_option maxRecDepth 100000 in
theorem c_X7_append {l : Launch} {D : va_G} {cy : Nat → ClassId} (q_o q_o_buffer : Nat) (sz : Nat) (x_o_textLength x_o_position x_o_error x_o_errorAt x_o_errorOffset x_o_data x_o_draft x_o_aside x_o_history x_o_undoDepth x_o_numberStart x_o_nesting x_o_seen x_o_toldPlanes x_o_stack x_o_facts : Value) (o_thrown : Int32) (o_bufferLength : Int32) (o_buffer : Nat → Int32) (p1 : Int32) (p2 : Int32) (p3 : Int32) (p4 : Int32) (p5 : Int32) (res : Int32 × Int32 × Int32 × (Nat → Int32)) (hF : X7_append o_thrown o_bufferLength o_buffer p1 p2 p3 p4 p5 = some res) : Met l yX7_append wsX7_append ({ frames := 0, cells := 0, slots := 0, locals := 0 } : Room) (kP (EN D cy) D [.ref q_o, .int p1, .int p2, .int p3, .int p4, .int p5] [(q_o, .inr (7, [.int o_thrown, .ref q_o_buffer, .int o_bufferLength, x_o_textLength, x_o_position, x_o_error, x_o_errorAt, x_o_errorOffset, x_o_data, x_o_draft, x_o_aside, x_o_history, x_o_undoDepth, x_o_numberStart, x_o_nesting, x_o_seen, x_o_toldPlanes, x_o_stack, x_o_facts])), (q_o_buffer, .inl (cy 0, 800, .inl o_buffer))] sz) (kQi D res.1 [(q_o, .inr (7, [.int res.2.1, .ref q_o_buffer, .int res.2.2.1, x_o_textLength, x_o_position, x_o_error, x_o_errorAt, x_o_errorOffset, x_o_data, x_o_draft, x_o_aside, x_o_history, x_o_undoDepth, x_o_numberStart, x_o_nesting, x_o_seen, x_o_toldPlanes, x_o_stack, x_o_facts])), (q_o_buffer, .inl (cy 0, 800, .inl res.2.2.2))] (va_A [(q_o, .inr (7, [.int o_thrown, .ref q_o_buffer, .int o_bufferLength, x_o_textLength, x_o_position, x_o_error, x_o_errorAt, x_o_errorOffset, x_o_data, x_o_draft, x_o_aside, x_o_history, x_o_undoDepth, x_o_numberStart, x_o_nesting, x_o_seen, x_o_toldPlanes, x_o_stack, x_o_facts])), (q_o_buffer, .inl (cy 0, 800, .inl o_buffer))] sz)) 0 0 (va_A [(q_o, .inr (7, [.int o_thrown, .ref q_o_buffer, .int o_bufferLength, x_o_textLength, x_o_position, x_o_error, x_o_errorAt, x_o_errorOffset, x_o_data, x_o_draft, x_o_aside, x_o_history, x_o_undoDepth, x_o_numberStart, x_o_nesting, x_o_seen, x_o_toldPlanes, x_o_stack, x_o_facts])), (q_o_buffer, .inl (cy 0, 800, .inl o_buffer))] sz) := by
  refine kMet (y := yX7_append) (av := [.ref q_o, .int p1, .int p2, .int p3, .int p4, .int p5]) (cc := cX7_append) (maxL := 8) (ret := some .int) (own := RX7) (Qc := fun A9 => (kQi D res.1 [(q_o, .inr (7, [.int res.2.1, .ref q_o_buffer, .int res.2.2.1, x_o_textLength, x_o_position, x_o_error, x_o_errorAt, x_o_errorOffset, x_o_data, x_o_draft, x_o_aside, x_o_history, x_o_undoDepth, x_o_numberStart, x_o_nesting, x_o_seen, x_o_toldPlanes, x_o_stack, x_o_facts])), (q_o_buffer, .inl (cy 0, 800, .inl res.2.2.2))] A9)) (by decide) rfl rfl (Nat.le_of_ble_eq_true rfl) ?_
  intro p e s m args below meth c A hx hb hr hts hown hml hlocks hname hE hP hD hA hsz ls hl
  have hK := hE.1
  have hl : lv_has ls 8 [(0, .ref q_o), (1, .int p1), (2, .int p2), (3, .int p3), (4, .int p4), (5, .int p5)] := hl
  have hS : va_S A s.heap s.heap [] := va_S.rf
  have f_f9 := hts (.fieldLink RX7 9 "PeepBoxModel" "buffer" "[I") (by decide +kernel)
  have f_inX7 : ∀ w ∈ wsX70, w ∈ wsX7_append := by decide +kernel
  have f_f45 := hts (.fieldLink RX7 45 "PeepBoxModel" "bufferLength" "I") (by decide +kernel)
  have f_f42 := hts (.fieldLink RX7 42 "PeepBoxModel" "thrown" "I") (by decide +kernel)
  obtain ⟨QQ, hQQ⟩ : ∃ Q9, Q9 = MQ below (kQi D res.1 [(q_o, .inr (7, [.int res.2.1, .ref q_o_buffer, .int res.2.2.1, x_o_textLength, x_o_position, x_o_error, x_o_errorAt, x_o_errorOffset, x_o_data, x_o_draft, x_o_aside, x_o_history, x_o_undoDepth, x_o_numberStart, x_o_nesting, x_o_seen, x_o_toldPlanes, x_o_stack, x_o_facts])), (q_o_buffer, .inl (cy 0, 800, .inl res.2.2.2))] A) args s 0 0 A := ⟨_, rfl⟩
  rw [← hQQ]
  have J23 : ∀ (n23 : Nat) (l6 : Int32) (o_thrown : Int32) (o_bufferLength : Int32) (o_buffer : Nat → Int32) (H : Heap) (locs : List Loc) (ls : Array Slot), va_P D vwCl [(q_o, .inr (7, [.int o_thrown, .ref q_o_buffer, .int o_bufferLength, x_o_textLength, x_o_position, x_o_error, x_o_errorAt, x_o_errorOffset, x_o_data, x_o_draft, x_o_aside, x_o_history, x_o_undoDepth, x_o_numberStart, x_o_nesting, x_o_seen, x_o_toldPlanes, x_o_stack, x_o_facts])), (q_o_buffer, .inl (cy 0, 800, .inl o_buffer))] H → va_D A [(q_o, .inr (7, [.int o_thrown, .ref q_o_buffer, .int o_bufferLength, x_o_textLength, x_o_position, x_o_error, x_o_errorAt, x_o_errorOffset, x_o_data, x_o_draft, x_o_aside, x_o_history, x_o_undoDepth, x_o_numberStart, x_o_nesting, x_o_seen, x_o_toldPlanes, x_o_stack, x_o_facts])), (q_o_buffer, .inl (cy 0, 800, .inl o_buffer))] → va_S A s.heap H locs → lv_has ls 8 [(0, .ref q_o), (1, .int p1), (2, .int p2), (3, .int p3), (4, .int p4), (5, .int p5), (6, .int l6)] → X7_append_L23 p1 p2 p3 p4 p5 n23 l6 o_thrown o_bufferLength o_buffer = some res → W p l e ({ frames := 0, cells := 0, slots := 0, locals := 0 } : Room) s m args below meth c H locs 0 0 QQ (F0 m 23 ls []) := by
    intro n23
    induction n23 with
    | zero =>
      intro l6 o_thrown o_bufferLength o_buffer H locs ls hP hD hS hl hF
      rw [X7_append_L23] at hF
      cases hF
    | succ n23 ih23 =>
      have J76 : ∀ (l6 : Int32) (k0 : Int32) (o_thrown : Int32) (o_bufferLength : Int32) (o_buffer : Nat → Int32) (H : Heap) (locs : List Loc) (ls : Array Slot), va_P D vwCl [(q_o, .inr (7, [.int o_thrown, .ref q_o_buffer, .int o_bufferLength, x_o_textLength, x_o_position, x_o_error, x_o_errorAt, x_o_errorOffset, x_o_data, x_o_draft, x_o_aside, x_o_history, x_o_undoDepth, x_o_numberStart, x_o_nesting, x_o_seen, x_o_toldPlanes, x_o_stack, x_o_facts])), (q_o_buffer, .inl (cy 0, 800, .inl o_buffer))] H → va_D A [(q_o, .inr (7, [.int o_thrown, .ref q_o_buffer, .int o_bufferLength, x_o_textLength, x_o_position, x_o_error, x_o_errorAt, x_o_errorOffset, x_o_data, x_o_draft, x_o_aside, x_o_history, x_o_undoDepth, x_o_numberStart, x_o_nesting, x_o_seen, x_o_toldPlanes, x_o_stack, x_o_facts])), (q_o_buffer, .inl (cy 0, 800, .inl o_buffer))] → va_S A s.heap H locs → lv_has ls 8 [(0, .ref q_o), (1, .int p1), (2, .int p2), (3, .int p3), (4, .int p4), (5, .int p5), (6, .int l6)] → X7_append_J76 p1 p2 p3 p4 p5 (fun z0 z1 z2 z3 => X7_append_L23 p1 p2 p3 p4 p5 n23 z0 z1 z2 z3) l6 k0 o_thrown o_bufferLength o_buffer = some res → W p l e ({ frames := 0, cells := 0, slots := 0, locals := 0 } : Room) s m args below meth c H locs 0 0 QQ (F0 m 76 ls [.int k0]) := by
        intro l6 k0 o_thrown o_bufferLength o_buffer H locs ls hP hD hS hl hF
        unfold X7_append_J76 at hF
        refine lv_istore (lv' := [(7, .int k0), (0, .ref q_o), (1, .int p1), (2, .int p2), (3, .int p3), (4, .int p4), (5, .int p5), (6, .int l6)]) hx hb dX7_append_76 hl (by decide) rfl (fun ls hl => ?_)
        refine lv_aload_n hx hb dX7_append_78 rfl (lv_at hl 1 rfl) ?_
        refine va_get (D := D) (ci := 7) (v := .ref q_o_buffer) (C := RX7) (T := TX7) (N := 19) hx hb hts f_inX7 hown hK hP 0 rfl rfl 1 (by decide) f_f9 (fun _ h9 => h9) rfl dX7_append_79 ?_
        refine lv_aload_n hx hb dX7_append_82 rfl (lv_at hl 1 rfl) ?_
        refine va_get (D := D) (ci := 7) (v := .int o_bufferLength) (C := RX7) (T := TX7) (N := 19) hx hb hts f_inX7 hown hK hP 0 rfl rfl 2 (by decide) f_f45 (fun _ h9 => h9) rfl dX7_append_83 ?_
        refine lv_iload hx hb dX7_append_86 (lv_at hl 0 rfl) ?_
        refine lv_bipush (v := 24) hx hb dX7_append_88 (by decide) ?_
        refine lv_bipush (v := 8) hx hb dX7_append_90 (by decide) ?_
        refine lv_iload hx hb dX7_append_92 (lv_at hl 7 rfl) ?_
        refine lv_iconst (v := 4) hx hb dX7_append_94 (by decide) ?_
        refine lv_irem hx hb dX7_append_95 (by decide) ?_
        refine lv_topi (fun v1 ev1 => ?_)
        have hF := nm_o hF v1 ev1
        refine lv_imul hx hb dX7_append_96 ?_
        refine lv_isub hx hb dX7_append_97 ?_
        refine lv_ishr hx hb dX7_append_98 ?_
        refine lv_sipush (v := 255) hx hb dX7_append_99 (by decide) ?_
        refine lv_iand hx hb dX7_append_102 ?_
        obtain ⟨h2, hF⟩ := st_o hF
        refine va_iast hx hb hK hP hD hS 1 0 rfl rfl h2 dX7_append_103 (fun H locs hP hD hS => ?_)
        obtain ⟨b3, eb3⟩ : ∃ y : Nat → Int32, y = (upd o_buffer o_bufferLength.toNatClampNeg ((k0 >>> (((24 : Int32) - ((8 : Int32) * v1)) &&& 31)) &&& (255 : Int32))) := ⟨_, rfl⟩
        have hF := hF b3 eb3
        have hP : va_P D vwCl [(q_o, .inr (7, [.int o_thrown, .ref q_o_buffer, .int o_bufferLength, x_o_textLength, x_o_position, x_o_error, x_o_errorAt, x_o_errorOffset, x_o_data, x_o_draft, x_o_aside, x_o_history, x_o_undoDepth, x_o_numberStart, x_o_nesting, x_o_seen, x_o_toldPlanes, x_o_stack, x_o_facts])), (q_o_buffer, .inl (cy 0, 800, .inl b3))] H := by rw [eb3]; exact hP
        have hD : va_D A [(q_o, .inr (7, [.int o_thrown, .ref q_o_buffer, .int o_bufferLength, x_o_textLength, x_o_position, x_o_error, x_o_errorAt, x_o_errorOffset, x_o_data, x_o_draft, x_o_aside, x_o_history, x_o_undoDepth, x_o_numberStart, x_o_nesting, x_o_seen, x_o_toldPlanes, x_o_stack, x_o_facts])), (q_o_buffer, .inl (cy 0, 800, .inl b3))] := by rw [eb3]; exact hD
        refine lv_aload_n hx hb dX7_append_104 rfl (lv_at hl 1 rfl) ?_
        refine lv_dup hx hb dX7_append_105 rfl ?_
        refine va_get (D := D) (ci := 7) (v := .int o_bufferLength) (C := RX7) (T := TX7) (N := 19) hx hb hts f_inX7 hown hK hP 0 rfl rfl 2 (by decide) f_f45 (fun _ h9 => h9) rfl dX7_append_106 ?_
        refine lv_iconst (v := 1) hx hb dX7_append_109 (by decide) ?_
        refine lv_iadd hx hb dX7_append_110 ?_
        refine lv_topi (fun v4 ev4 => ?_)
        have hF := nm_o hF v4 ev4
        refine va_put (D := D) (ci := 7) (v := .int v4) (ty := .int) (C := RX7) (T := TX7) (N := 19) hx hb hts f_inX7 tyX7 tyX7_ok nmX7 hown hK hP hD hS 0 rfl rfl 2 (by decide) f_f45 (fun _ h9 => h9) rfl (by decide +kernel) rfl rfl (Nat.le_of_ble_eq_true rfl) dX7_append_111 (fun H locs hP hD hS => ?_)
        have hP : va_P D vwCl [(q_o, .inr (7, [.int o_thrown, .ref q_o_buffer, .int v4, x_o_textLength, x_o_position, x_o_error, x_o_errorAt, x_o_errorOffset, x_o_data, x_o_draft, x_o_aside, x_o_history, x_o_undoDepth, x_o_numberStart, x_o_nesting, x_o_seen, x_o_toldPlanes, x_o_stack, x_o_facts])), (q_o_buffer, .inl (cy 0, 800, .inl b3))] H := hP
        have hD : va_D A [(q_o, .inr (7, [.int o_thrown, .ref q_o_buffer, .int v4, x_o_textLength, x_o_position, x_o_error, x_o_errorAt, x_o_errorOffset, x_o_data, x_o_draft, x_o_aside, x_o_history, x_o_undoDepth, x_o_numberStart, x_o_nesting, x_o_seen, x_o_toldPlanes, x_o_stack, x_o_facts])), (q_o_buffer, .inl (cy 0, 800, .inl b3))] := hD
        obtain ⟨v5, ev5⟩ : ∃ y : Int32, y = l6 + (1 : Int32) := ⟨_, rfl⟩
        have hF := nm_o hF v5 ev5
        refine lv_iinc (v := v5) (lv' := [(6, .int v5), (7, .int k0), (0, .ref q_o), (1, .int p1), (2, .int p2), (3, .int p3), (4, .int p4), (5, .int p5)]) hx hb dX7_append_114 hl (k := 7) rfl (by rw [ev5]; rfl) (by decide) rfl (fun ls hl => ?_)
        refine lv_goto (tgt := 23) hx hb dX7_append_117 (by decide) ?_
        exact ih23 v5 o_thrown v4 b3 H locs ls hP hD hS (lv_sub hl [2, 3, 4, 5, 6, 7, 0] rfl) hF
      intro l6 o_thrown o_bufferLength o_buffer H locs ls hP hD hS hl hF
      rw [X7_append_L23] at hF
      refine lv_iload hx hb dX7_append_23 (lv_at hl 6 rfl) ?_
      refine lv_bipush (v := 20) hx hb dX7_append_25 (by decide) ?_
      refine lv_icmp_ge (tgt := 120) hx hb dX7_append_27 (by decide) (fun c6 => ?_) (fun c6 => ?_)
      · have hF := if_p hF c6
        refine lv_aload_n hx hb dX7_append_120 rfl (lv_at hl 0 rfl) ?_
        refine va_get (D := D) (ci := 7) (v := .int o_bufferLength) (C := RX7) (T := TX7) (N := 19) hx hb hts f_inX7 hown hK hP 0 rfl rfl 2 (by decide) f_f45 (fun _ h9 => h9) rfl dX7_append_121 ?_
        obtain rfl := so_o hF
        rw [hQQ]
        exact kr_i hx hb hr hlocks hP hD hS dX7_append_124
      · have hF := if_n hF c6
        refine lv_iload hx hb dX7_append_30 (lv_at hl 6 rfl) ?_
        refine lv_iconst (v := 4) hx hb dX7_append_32 (by decide) ?_
        refine lv_icmp_ge (tgt := 40) hx hb dX7_append_33 (by decide) (fun c7 => ?_) (fun c7 => ?_)
        · have hF := if_p hF c7
          refine lv_iload hx hb dX7_append_40 (lv_at hl 6 rfl) ?_
          refine lv_bipush (v := 8) hx hb dX7_append_42 (by decide) ?_
          refine lv_icmp_ge (tgt := 51) hx hb dX7_append_44 (by decide) (fun c8 => ?_) (fun c8 => ?_)
          · have hF := if_p hF c8
            refine lv_iload hx hb dX7_append_51 (lv_at hl 6 rfl) ?_
            refine lv_bipush (v := 12) hx hb dX7_append_53 (by decide) ?_
            refine lv_icmp_ge (tgt := 62) hx hb dX7_append_55 (by decide) (fun c9 => ?_) (fun c9 => ?_)
            · have hF := if_p hF c9
              refine lv_iload hx hb dX7_append_62 (lv_at hl 6 rfl) ?_
              refine lv_bipush (v := 16) hx hb dX7_append_64 (by decide) ?_
              refine lv_icmp_ge (tgt := 74) hx hb dX7_append_66 (by decide) (fun c10 => ?_) (fun c10 => ?_)
              · have hF := if_p hF c10
                refine lv_iload hx hb dX7_append_74 (lv_at hl 5 rfl) ?_
                exact J76 l6 p5 o_thrown o_bufferLength o_buffer H locs ls hP hD hS (lv_sub hl [0, 1, 2, 3, 4, 5, 6] rfl) hF
              · have hF := if_n hF c10
                refine lv_iload hx hb dX7_append_69 (lv_at hl 4 rfl) ?_
                refine lv_goto (tgt := 76) hx hb dX7_append_71 (by decide) ?_
                exact J76 l6 p4 o_thrown o_bufferLength o_buffer H locs ls hP hD hS (lv_sub hl [0, 1, 2, 3, 4, 5, 6] rfl) hF
            · have hF := if_n hF c9
              refine lv_iload_n hx hb dX7_append_58 rfl (lv_at hl 3 rfl) ?_
              refine lv_goto (tgt := 76) hx hb dX7_append_59 (by decide) ?_
              exact J76 l6 p3 o_thrown o_bufferLength o_buffer H locs ls hP hD hS (lv_sub hl [0, 1, 2, 3, 4, 5, 6] rfl) hF
          · have hF := if_n hF c8
            refine lv_iload_n hx hb dX7_append_47 rfl (lv_at hl 2 rfl) ?_
            refine lv_goto (tgt := 76) hx hb dX7_append_48 (by decide) ?_
            exact J76 l6 p2 o_thrown o_bufferLength o_buffer H locs ls hP hD hS (lv_sub hl [0, 1, 2, 3, 4, 5, 6] rfl) hF
        · have hF := if_n hF c7
          refine lv_iload_n hx hb dX7_append_36 rfl (lv_at hl 1 rfl) ?_
          refine lv_goto (tgt := 76) hx hb dX7_append_37 (by decide) ?_
          exact J76 l6 p1 o_thrown o_bufferLength o_buffer H locs ls hP hD hS (lv_sub hl [0, 1, 2, 3, 4, 5, 6] rfl) hF
  have main : ∀ (H : Heap) (locs : List Loc) (ls : Array Slot), va_P D vwCl [(q_o, .inr (7, [.int o_thrown, .ref q_o_buffer, .int o_bufferLength, x_o_textLength, x_o_position, x_o_error, x_o_errorAt, x_o_errorOffset, x_o_data, x_o_draft, x_o_aside, x_o_history, x_o_undoDepth, x_o_numberStart, x_o_nesting, x_o_seen, x_o_toldPlanes, x_o_stack, x_o_facts])), (q_o_buffer, .inl (cy 0, 800, .inl o_buffer))] H → va_D A [(q_o, .inr (7, [.int o_thrown, .ref q_o_buffer, .int o_bufferLength, x_o_textLength, x_o_position, x_o_error, x_o_errorAt, x_o_errorOffset, x_o_data, x_o_draft, x_o_aside, x_o_history, x_o_undoDepth, x_o_numberStart, x_o_nesting, x_o_seen, x_o_toldPlanes, x_o_stack, x_o_facts])), (q_o_buffer, .inl (cy 0, 800, .inl o_buffer))] → va_S A s.heap H locs → lv_has ls 8 [(0, .ref q_o), (1, .int p1), (2, .int p2), (3, .int p3), (4, .int p4), (5, .int p5)] → W p l e ({ frames := 0, cells := 0, slots := 0, locals := 0 } : Room) s m args below meth c H locs 0 0 QQ (F0 m 0 ls []) := by
    intro H locs ls hP hD hS hl
    unfold X7_append at hF
    refine lv_aload_n hx hb dX7_append_0 rfl (lv_at hl 0 rfl) ?_
    refine lv_iconst (v := 0) hx hb dX7_append_1 (by decide) ?_
    refine va_put (D := D) (ci := 7) (v := .int (0 : Int32)) (ty := .int) (C := RX7) (T := TX7) (N := 19) hx hb hts f_inX7 tyX7 tyX7_ok nmX7 hown hK hP hD hS 0 rfl rfl 0 (by decide) f_f42 (fun _ h9 => h9) rfl (by decide +kernel) rfl rfl (Nat.le_of_ble_eq_true rfl) dX7_append_2 (fun H locs hP hD hS => ?_)
    have hP : va_P D vwCl [(q_o, .inr (7, [.int (0 : Int32), .ref q_o_buffer, .int o_bufferLength, x_o_textLength, x_o_position, x_o_error, x_o_errorAt, x_o_errorOffset, x_o_data, x_o_draft, x_o_aside, x_o_history, x_o_undoDepth, x_o_numberStart, x_o_nesting, x_o_seen, x_o_toldPlanes, x_o_stack, x_o_facts])), (q_o_buffer, .inl (cy 0, 800, .inl o_buffer))] H := hP
    have hD : va_D A [(q_o, .inr (7, [.int (0 : Int32), .ref q_o_buffer, .int o_bufferLength, x_o_textLength, x_o_position, x_o_error, x_o_errorAt, x_o_errorOffset, x_o_data, x_o_draft, x_o_aside, x_o_history, x_o_undoDepth, x_o_numberStart, x_o_nesting, x_o_seen, x_o_toldPlanes, x_o_stack, x_o_facts])), (q_o_buffer, .inl (cy 0, 800, .inl o_buffer))] := hD
    refine lv_aload_n hx hb dX7_append_5 rfl (lv_at hl 0 rfl) ?_
    refine va_get (D := D) (ci := 7) (v := .int o_bufferLength) (C := RX7) (T := TX7) (N := 19) hx hb hts f_inX7 hown hK hP 0 rfl rfl 2 (by decide) f_f45 (fun _ h9 => h9) rfl dX7_append_6 ?_
    refine lv_bipush (v := 20) hx hb dX7_append_9 (by decide) ?_
    refine lv_iadd hx hb dX7_append_11 ?_
    refine lv_sipush (v := 800) hx hb dX7_append_12 (by decide) ?_
    refine lv_icmp_le (tgt := 20) hx hb dX7_append_15 (by decide) (fun c11 => ?_) (fun c11 => ?_)
    · have hF := if_p hF c11
      refine lv_iconst (v := 0) hx hb dX7_append_20 (by decide) ?_
      refine lv_istore (lv' := [(6, .int (0 : Int32)), (0, .ref q_o), (1, .int p1), (2, .int p2), (3, .int p3), (4, .int p4), (5, .int p5)]) hx hb dX7_append_21 hl (by decide) rfl (fun ls hl => ?_)
      exact J23 FU (0 : Int32) (0 : Int32) o_bufferLength o_buffer H locs ls hP hD hS (lv_sub hl [1, 2, 3, 4, 5, 6, 0] rfl) hF
    · have hF := if_n hF c11
      refine lv_iconst (v := -1) hx hb dX7_append_18 (by decide) ?_
      obtain rfl := so_o hF
      rw [hQQ]
      exact kr_i hx hb hr hlocks hP hD hS dX7_append_19
  exact main s.heap [] ls hP hD hS hl
theorem kd_X7_byteAt : yX7_byteAt.cls = RX7 ∧ yX7_byteAt.cls ≠ "java/lang/invoke/MethodHandle" ∧ yX7_byteAt.cls ≠ "java/lang/invoke/VarHandle" ∧ (parseMethodDescriptor yX7_byteAt.desc).map (fun d => d.parameters.length) = some 1 := by decide +kernel
set_option maxHeartbeats 4000000 in
set_option maxRecDepth 100000 in
theorem c_X7_byteAt {l : Launch} {D : va_G} {cy : Nat → ClassId} (q_o q_o_buffer : Nat) (sz : Nat) (x_o_thrown x_o_bufferLength x_o_position x_o_error x_o_errorAt x_o_errorOffset x_o_data x_o_draft x_o_aside x_o_history x_o_undoDepth x_o_numberStart x_o_nesting x_o_seen x_o_toldPlanes x_o_stack x_o_facts : Value) (o_textLength : Int32) (o_buffer : Nat → Int32) (p1 : Int32) (res : Int32) (hF : X7_byteAt o_textLength o_buffer p1 = some res) : Met l yX7_byteAt wsX7_byteAt ({ frames := 0, cells := 0, slots := 0, locals := 0 } : Room) (kP (EN D cy) D [.ref q_o, .int p1] [(q_o, .inr (7, [x_o_thrown, .ref q_o_buffer, x_o_bufferLength, .int o_textLength, x_o_position, x_o_error, x_o_errorAt, x_o_errorOffset, x_o_data, x_o_draft, x_o_aside, x_o_history, x_o_undoDepth, x_o_numberStart, x_o_nesting, x_o_seen, x_o_toldPlanes, x_o_stack, x_o_facts])), (q_o_buffer, .inl (cy 0, 800, .inl o_buffer))] sz) (kQi D res [(q_o, .inr (7, [x_o_thrown, .ref q_o_buffer, x_o_bufferLength, .int o_textLength, x_o_position, x_o_error, x_o_errorAt, x_o_errorOffset, x_o_data, x_o_draft, x_o_aside, x_o_history, x_o_undoDepth, x_o_numberStart, x_o_nesting, x_o_seen, x_o_toldPlanes, x_o_stack, x_o_facts])), (q_o_buffer, .inl (cy 0, 800, .inl o_buffer))] (va_A [(q_o, .inr (7, [x_o_thrown, .ref q_o_buffer, x_o_bufferLength, .int o_textLength, x_o_position, x_o_error, x_o_errorAt, x_o_errorOffset, x_o_data, x_o_draft, x_o_aside, x_o_history, x_o_undoDepth, x_o_numberStart, x_o_nesting, x_o_seen, x_o_toldPlanes, x_o_stack, x_o_facts])), (q_o_buffer, .inl (cy 0, 800, .inl o_buffer))] sz)) 0 0 (va_A [(q_o, .inr (7, [x_o_thrown, .ref q_o_buffer, x_o_bufferLength, .int o_textLength, x_o_position, x_o_error, x_o_errorAt, x_o_errorOffset, x_o_data, x_o_draft, x_o_aside, x_o_history, x_o_undoDepth, x_o_numberStart, x_o_nesting, x_o_seen, x_o_toldPlanes, x_o_stack, x_o_facts])), (q_o_buffer, .inl (cy 0, 800, .inl o_buffer))] sz) := by
  refine kMet (y := yX7_byteAt) (av := [.ref q_o, .int p1]) (cc := cX7_byteAt) (maxL := 2) (ret := some .int) (own := RX7) (Qc := fun A9 => (kQi D res [(q_o, .inr (7, [x_o_thrown, .ref q_o_buffer, x_o_bufferLength, .int o_textLength, x_o_position, x_o_error, x_o_errorAt, x_o_errorOffset, x_o_data, x_o_draft, x_o_aside, x_o_history, x_o_undoDepth, x_o_numberStart, x_o_nesting, x_o_seen, x_o_toldPlanes, x_o_stack, x_o_facts])), (q_o_buffer, .inl (cy 0, 800, .inl o_buffer))] A9)) (by decide) rfl rfl (Nat.le_of_ble_eq_true rfl) ?_
  intro p e s m args below meth c A hx hb hr hts hown hml hlocks hname hE hP hD hA hsz ls hl
  have hK := hE.1
  have hl : lv_has ls 2 [(0, .ref q_o), (1, .int p1)] := hl
  have hS : va_S A s.heap s.heap [] := va_S.rf
  have f_f48 := hts (.fieldLink RX7 48 "PeepBoxModel" "textLength" "I") (by decide +kernel)
  have f_inX7 : ∀ w ∈ wsX70, w ∈ wsX7_byteAt := by decide +kernel
  have f_f9 := hts (.fieldLink RX7 9 "PeepBoxModel" "buffer" "[I") (by decide +kernel)
  obtain ⟨QQ, hQQ⟩ : ∃ Q9, Q9 = MQ below (kQi D res [(q_o, .inr (7, [x_o_thrown, .ref q_o_buffer, x_o_bufferLength, .int o_textLength, x_o_position, x_o_error, x_o_errorAt, x_o_errorOffset, x_o_data, x_o_draft, x_o_aside, x_o_history, x_o_undoDepth, x_o_numberStart, x_o_nesting, x_o_seen, x_o_toldPlanes, x_o_stack, x_o_facts])), (q_o_buffer, .inl (cy 0, 800, .inl o_buffer))] A) args s 0 0 A := ⟨_, rfl⟩
  rw [← hQQ]
  have main : ∀ (H : Heap) (locs : List Loc) (ls : Array Slot), va_P D vwCl [(q_o, .inr (7, [x_o_thrown, .ref q_o_buffer, x_o_bufferLength, .int o_textLength, x_o_position, x_o_error, x_o_errorAt, x_o_errorOffset, x_o_data, x_o_draft, x_o_aside, x_o_history, x_o_undoDepth, x_o_numberStart, x_o_nesting, x_o_seen, x_o_toldPlanes, x_o_stack, x_o_facts])), (q_o_buffer, .inl (cy 0, 800, .inl o_buffer))] H → va_D A [(q_o, .inr (7, [x_o_thrown, .ref q_o_buffer, x_o_bufferLength, .int o_textLength, x_o_position, x_o_error, x_o_errorAt, x_o_errorOffset, x_o_data, x_o_draft, x_o_aside, x_o_history, x_o_undoDepth, x_o_numberStart, x_o_nesting, x_o_seen, x_o_toldPlanes, x_o_stack, x_o_facts])), (q_o_buffer, .inl (cy 0, 800, .inl o_buffer))] → va_S A s.heap H locs → lv_has ls 2 [(0, .ref q_o), (1, .int p1)] → W p l e ({ frames := 0, cells := 0, slots := 0, locals := 0 } : Room) s m args below meth c H locs 0 0 QQ (F0 m 0 ls []) := by
    intro H locs ls hP hD hS hl
    unfold X7_byteAt at hF
    refine lv_iload_n hx hb dX7_byteAt_0 rfl (lv_at hl 1 rfl) ?_
    refine lv_aload_n hx hb dX7_byteAt_1 rfl (lv_at hl 0 rfl) ?_
    refine va_get (D := D) (ci := 7) (v := .int o_textLength) (C := RX7) (T := TX7) (N := 19) hx hb hts f_inX7 hown hK hP 0 rfl rfl 3 (by decide) f_f48 (fun _ h9 => h9) rfl dX7_byteAt_2 ?_
    refine lv_icmp_ge (tgt := 17) hx hb dX7_byteAt_5 (by decide) (fun c1 => ?_) (fun c1 => ?_)
    · have hF := if_p hF c1
      refine lv_iconst (v := -1) hx hb dX7_byteAt_17 (by decide) ?_
      obtain rfl := so_o hF
      rw [hQQ]
      exact kr_i hx hb hr hlocks hP hD hS dX7_byteAt_18
    · have hF := if_n hF c1
      refine lv_aload_n hx hb dX7_byteAt_8 rfl (lv_at hl 0 rfl) ?_
      refine va_get (D := D) (ci := 7) (v := .ref q_o_buffer) (C := RX7) (T := TX7) (N := 19) hx hb hts f_inX7 hown hK hP 0 rfl rfl 1 (by decide) f_f9 (fun _ h9 => h9) rfl dX7_byteAt_9 ?_
      refine lv_iload_n hx hb dX7_byteAt_12 rfl (lv_at hl 1 rfl) ?_
      obtain ⟨h2, hF⟩ := ld_o hF
      refine va_iald hx hb hK hP 1 0 rfl rfl h2 dX7_byteAt_13 ?_
      refine lv_topi (fun v3 ev3 => ?_)
      have hF := hF v3 ev3
      refine lv_goto (tgt := 18) hx hb dX7_byteAt_14 (by decide) ?_
      obtain rfl := so_o hF
      rw [hQQ]
      exact kr_i hx hb hr hlocks hP hD hS dX7_byteAt_18
  exact main s.heap [] ls hP hD hS hl
theorem kd_X7_ahead : yX7_ahead.cls = RX7 ∧ yX7_ahead.cls ≠ "java/lang/invoke/MethodHandle" ∧ yX7_ahead.cls ≠ "java/lang/invoke/VarHandle" ∧ (parseMethodDescriptor yX7_ahead.desc).map (fun d => d.parameters.length) = some 0 := by decide +kernel
set_option maxHeartbeats 4000000 in
set_option maxRecDepth 100000 in
theorem c_X7_ahead {l : Launch} {D : va_G} {cy : Nat → ClassId} (q_o q_o_buffer : Nat) (sz : Nat) (x_o_thrown x_o_bufferLength x_o_error x_o_errorAt x_o_errorOffset x_o_data x_o_draft x_o_aside x_o_history x_o_undoDepth x_o_numberStart x_o_nesting x_o_seen x_o_toldPlanes x_o_stack x_o_facts : Value) (o_textLength : Int32) (o_position : Int32) (o_buffer : Nat → Int32) (res : Int32 × Int32) (hF : X7_ahead o_textLength o_position o_buffer = some res) : Met l yX7_ahead wsX7_ahead ({ frames := 1, cells := 0, slots := 0, locals := 21 } : Room) (kP (EN D cy) D [.ref q_o] [(q_o, .inr (7, [x_o_thrown, .ref q_o_buffer, x_o_bufferLength, .int o_textLength, .int o_position, x_o_error, x_o_errorAt, x_o_errorOffset, x_o_data, x_o_draft, x_o_aside, x_o_history, x_o_undoDepth, x_o_numberStart, x_o_nesting, x_o_seen, x_o_toldPlanes, x_o_stack, x_o_facts])), (q_o_buffer, .inl (cy 0, 800, .inl o_buffer))] sz) (kQi D res.1 [(q_o, .inr (7, [x_o_thrown, .ref q_o_buffer, x_o_bufferLength, .int o_textLength, .int res.2, x_o_error, x_o_errorAt, x_o_errorOffset, x_o_data, x_o_draft, x_o_aside, x_o_history, x_o_undoDepth, x_o_numberStart, x_o_nesting, x_o_seen, x_o_toldPlanes, x_o_stack, x_o_facts])), (q_o_buffer, .inl (cy 0, 800, .inl o_buffer))] (va_A [(q_o, .inr (7, [x_o_thrown, .ref q_o_buffer, x_o_bufferLength, .int o_textLength, .int o_position, x_o_error, x_o_errorAt, x_o_errorOffset, x_o_data, x_o_draft, x_o_aside, x_o_history, x_o_undoDepth, x_o_numberStart, x_o_nesting, x_o_seen, x_o_toldPlanes, x_o_stack, x_o_facts])), (q_o_buffer, .inl (cy 0, 800, .inl o_buffer))] sz)) 0 0 (va_A [(q_o, .inr (7, [x_o_thrown, .ref q_o_buffer, x_o_bufferLength, .int o_textLength, .int o_position, x_o_error, x_o_errorAt, x_o_errorOffset, x_o_data, x_o_draft, x_o_aside, x_o_history, x_o_undoDepth, x_o_numberStart, x_o_nesting, x_o_seen, x_o_toldPlanes, x_o_stack, x_o_facts])), (q_o_buffer, .inl (cy 0, 800, .inl o_buffer))] sz) := by
  refine kMet (y := yX7_ahead) (av := [.ref q_o]) (cc := cX7_ahead) (maxL := 1) (ret := some .int) (own := RX7) (Qc := fun A9 => (kQi D res.1 [(q_o, .inr (7, [x_o_thrown, .ref q_o_buffer, x_o_bufferLength, .int o_textLength, .int res.2, x_o_error, x_o_errorAt, x_o_errorOffset, x_o_data, x_o_draft, x_o_aside, x_o_history, x_o_undoDepth, x_o_numberStart, x_o_nesting, x_o_seen, x_o_toldPlanes, x_o_stack, x_o_facts])), (q_o_buffer, .inl (cy 0, 800, .inl o_buffer))] A9)) (by decide) rfl rfl (Nat.le_of_ble_eq_true rfl) ?_
  intro p e s m args below meth c A hx hb hr hts hown hml hlocks hname hE hP hD hA hsz ls hl
  have hK := hE.1
  have hl : lv_has ls 1 [(0, .ref q_o)] := hl
  have hS : va_S A s.heap s.heap [] := va_S.rf
  have f_f51 := hts (.fieldLink RX7 51 "PeepBoxModel" "position" "I") (by decide +kernel)
  have f_inX7 : ∀ w ∈ wsX70, w ∈ wsX7_ahead := by decide +kernel
  obtain ⟨QQ, hQQ⟩ : ∃ Q9, Q9 = MQ below (kQi D res.1 [(q_o, .inr (7, [x_o_thrown, .ref q_o_buffer, x_o_bufferLength, .int o_textLength, .int res.2, x_o_error, x_o_errorAt, x_o_errorOffset, x_o_data, x_o_draft, x_o_aside, x_o_history, x_o_undoDepth, x_o_numberStart, x_o_nesting, x_o_seen, x_o_toldPlanes, x_o_stack, x_o_facts])), (q_o_buffer, .inl (cy 0, 800, .inl o_buffer))] A) args s 0 0 A := ⟨_, rfl⟩
  rw [← hQQ]
  have J0 : ∀ (n0 : Nat) (o_position : Int32) (H : Heap) (locs : List Loc) (ls : Array Slot), va_P D vwCl [(q_o, .inr (7, [x_o_thrown, .ref q_o_buffer, x_o_bufferLength, .int o_textLength, .int o_position, x_o_error, x_o_errorAt, x_o_errorOffset, x_o_data, x_o_draft, x_o_aside, x_o_history, x_o_undoDepth, x_o_numberStart, x_o_nesting, x_o_seen, x_o_toldPlanes, x_o_stack, x_o_facts])), (q_o_buffer, .inl (cy 0, 800, .inl o_buffer))] H → va_D A [(q_o, .inr (7, [x_o_thrown, .ref q_o_buffer, x_o_bufferLength, .int o_textLength, .int o_position, x_o_error, x_o_errorAt, x_o_errorOffset, x_o_data, x_o_draft, x_o_aside, x_o_history, x_o_undoDepth, x_o_numberStart, x_o_nesting, x_o_seen, x_o_toldPlanes, x_o_stack, x_o_facts])), (q_o_buffer, .inl (cy 0, 800, .inl o_buffer))] → va_S A s.heap H locs → lv_has ls 1 [(0, .ref q_o)] → X7_ahead_L0 o_textLength o_buffer n0 o_position = some res → W p l e ({ frames := 1, cells := 0, slots := 0, locals := 21 } : Room) s m args below meth c H locs 0 0 QQ (F0 m 0 ls []) := by
    intro n0
    induction n0 with
    | zero =>
      intro o_position H locs ls hP hD hS hl hF
      rw [X7_ahead_L0] at hF
      cases hF
    | succ n0 ih0 =>
      intro o_position H locs ls hP hD hS hl hF
      rw [X7_ahead_L0] at hF
      refine lv_aload_n hx hb dX7_ahead_0 rfl (lv_at hl 0 rfl) ?_
      refine lv_aload_n hx hb dX7_ahead_1 rfl (lv_at hl 0 rfl) ?_
      refine va_get (D := D) (ci := 7) (v := .int o_position) (C := RX7) (T := TX7) (N := 19) hx hb hts f_inX7 hown hK hP 0 rfl rfl 4 (by decide) f_f51 (fun _ h9 => h9) rfl dX7_ahead_2 ?_
      obtain ⟨r1, h2, hF⟩ := bn1_o hF
      refine kd_i [(q_o, .inr (7, [x_o_thrown, .ref q_o_buffer, x_o_bufferLength, .int o_textLength, .int o_position, x_o_error, x_o_errorAt, x_o_errorOffset, x_o_data, x_o_draft, x_o_aside, x_o_history, x_o_undoDepth, x_o_numberStart, x_o_nesting, x_o_seen, x_o_toldPlanes, x_o_stack, x_o_facts])), (q_o_buffer, .inl (cy 0, 800, .inl o_buffer))] (va_runV (As := [.int o_position]) (rest := []) ⟨hx, hb, hml, hown, hts⟩ (c_X7_byteAt q_o q_o_buffer H.size x_o_thrown x_o_bufferLength (.int o_position) x_o_error x_o_errorAt x_o_errorOffset x_o_data x_o_draft x_o_aside x_o_history x_o_undoDepth x_o_numberStart x_o_nesting x_o_seen x_o_toldPlanes x_o_stack x_o_facts o_textLength o_buffer o_position _ h2) (cwV 1 hts gX7_ahead_X7_byteAt rfl rfl rfl kd_X7_byteAt ⟨Nat.le_of_ble_eq_true rfl, Nat.le_of_ble_eq_true rfl⟩) ⟨kP_blind (EN_ok D cy) D _ _ _, va_recv hK hP (ci := 7) (q0 := 0) rfl rfl, kStart (EN_ok D cy) hE hP hD hS hA [0, 1] rfl rfl _⟩ rfl rfl hl.1 rfl (lv_room (Nat.le_of_ble_eq_true rfl)) dX7_ahead_5 ⟨Nat.zero_le _, Nat.zero_le _⟩) hP hD hS hA [0, 1] [] rfl rfl rfl 2 rfl (by decide +kernel) (fun H locs hP hD hS => ?_)
      refine lv_bipush (v := 32) hx hb dX7_ahead_8 (by decide) ?_
      refine lv_icmp_ne (tgt := 26) hx hb dX7_ahead_10 (by decide) (fun c3 => ?_) (fun c3 => ?_)
      · have hF := if_n hF c3
        refine lv_aload_n hx hb dX7_ahead_26 rfl (lv_at hl 0 rfl) ?_
        refine lv_aload_n hx hb dX7_ahead_27 rfl (lv_at hl 0 rfl) ?_
        refine va_get (D := D) (ci := 7) (v := .int o_position) (C := RX7) (T := TX7) (N := 19) hx hb hts f_inX7 hown hK hP 0 rfl rfl 4 (by decide) f_f51 (fun _ h9 => h9) rfl dX7_ahead_28 ?_
        obtain ⟨r4, h5, hF⟩ := bn1_o hF
        refine kd_i [(q_o, .inr (7, [x_o_thrown, .ref q_o_buffer, x_o_bufferLength, .int o_textLength, .int o_position, x_o_error, x_o_errorAt, x_o_errorOffset, x_o_data, x_o_draft, x_o_aside, x_o_history, x_o_undoDepth, x_o_numberStart, x_o_nesting, x_o_seen, x_o_toldPlanes, x_o_stack, x_o_facts])), (q_o_buffer, .inl (cy 0, 800, .inl o_buffer))] (va_runV (As := [.int o_position]) (rest := []) ⟨hx, hb, hml, hown, hts⟩ (c_X7_byteAt q_o q_o_buffer H.size x_o_thrown x_o_bufferLength (.int o_position) x_o_error x_o_errorAt x_o_errorOffset x_o_data x_o_draft x_o_aside x_o_history x_o_undoDepth x_o_numberStart x_o_nesting x_o_seen x_o_toldPlanes x_o_stack x_o_facts o_textLength o_buffer o_position _ h5) (cwV 1 hts gX7_ahead_X7_byteAt rfl rfl rfl kd_X7_byteAt ⟨Nat.le_of_ble_eq_true rfl, Nat.le_of_ble_eq_true rfl⟩) ⟨kP_blind (EN_ok D cy) D _ _ _, va_recv hK hP (ci := 7) (q0 := 0) rfl rfl, kStart (EN_ok D cy) hE hP hD hS hA [0, 1] rfl rfl _⟩ rfl rfl hl.1 rfl (lv_room (Nat.le_of_ble_eq_true rfl)) dX7_ahead_31 ⟨Nat.zero_le _, Nat.zero_le _⟩) hP hD hS hA [0, 1] [] rfl rfl rfl 2 rfl (by decide +kernel) (fun H locs hP hD hS => ?_)
        obtain rfl := so_o hF
        rw [hQQ]
        exact kr_i hx hb hr hlocks hP hD hS dX7_ahead_34
      · have hF := if_p hF c3
        refine lv_aload_n hx hb dX7_ahead_13 rfl (lv_at hl 0 rfl) ?_
        refine lv_dup hx hb dX7_ahead_14 rfl ?_
        refine va_get (D := D) (ci := 7) (v := .int o_position) (C := RX7) (T := TX7) (N := 19) hx hb hts f_inX7 hown hK hP 0 rfl rfl 4 (by decide) f_f51 (fun _ h9 => h9) rfl dX7_ahead_15 ?_
        refine lv_iconst (v := 1) hx hb dX7_ahead_18 (by decide) ?_
        refine lv_iadd hx hb dX7_ahead_19 ?_
        refine lv_topi (fun v6 ev6 => ?_)
        have hF := nm_o hF v6 ev6
        refine va_put (D := D) (ci := 7) (v := .int v6) (ty := .int) (C := RX7) (T := TX7) (N := 19) hx hb hts f_inX7 tyX7 tyX7_ok nmX7 hown hK hP hD hS 0 rfl rfl 4 (by decide) f_f51 (fun _ h9 => h9) rfl (by decide +kernel) rfl rfl (Nat.le_of_ble_eq_true rfl) dX7_ahead_20 (fun H locs hP hD hS => ?_)
        have hP : va_P D vwCl [(q_o, .inr (7, [x_o_thrown, .ref q_o_buffer, x_o_bufferLength, .int o_textLength, .int v6, x_o_error, x_o_errorAt, x_o_errorOffset, x_o_data, x_o_draft, x_o_aside, x_o_history, x_o_undoDepth, x_o_numberStart, x_o_nesting, x_o_seen, x_o_toldPlanes, x_o_stack, x_o_facts])), (q_o_buffer, .inl (cy 0, 800, .inl o_buffer))] H := hP
        have hD : va_D A [(q_o, .inr (7, [x_o_thrown, .ref q_o_buffer, x_o_bufferLength, .int o_textLength, .int v6, x_o_error, x_o_errorAt, x_o_errorOffset, x_o_data, x_o_draft, x_o_aside, x_o_history, x_o_undoDepth, x_o_numberStart, x_o_nesting, x_o_seen, x_o_toldPlanes, x_o_stack, x_o_facts])), (q_o_buffer, .inl (cy 0, 800, .inl o_buffer))] := hD
        refine lv_goto (tgt := 0) hx hb dX7_ahead_23 (by decide) ?_
        exact ih0 v6 H locs ls hP hD hS (lv_sub hl [0] rfl) hF
  have main : ∀ (H : Heap) (locs : List Loc) (ls : Array Slot), va_P D vwCl [(q_o, .inr (7, [x_o_thrown, .ref q_o_buffer, x_o_bufferLength, .int o_textLength, .int o_position, x_o_error, x_o_errorAt, x_o_errorOffset, x_o_data, x_o_draft, x_o_aside, x_o_history, x_o_undoDepth, x_o_numberStart, x_o_nesting, x_o_seen, x_o_toldPlanes, x_o_stack, x_o_facts])), (q_o_buffer, .inl (cy 0, 800, .inl o_buffer))] H → va_D A [(q_o, .inr (7, [x_o_thrown, .ref q_o_buffer, x_o_bufferLength, .int o_textLength, .int o_position, x_o_error, x_o_errorAt, x_o_errorOffset, x_o_data, x_o_draft, x_o_aside, x_o_history, x_o_undoDepth, x_o_numberStart, x_o_nesting, x_o_seen, x_o_toldPlanes, x_o_stack, x_o_facts])), (q_o_buffer, .inl (cy 0, 800, .inl o_buffer))] → va_S A s.heap H locs → lv_has ls 1 [(0, .ref q_o)] → W p l e ({ frames := 1, cells := 0, slots := 0, locals := 21 } : Room) s m args below meth c H locs 0 0 QQ (F0 m 0 ls []) := by
    intro H locs ls hP hD hS hl
    unfold X7_ahead at hF
    exact J0 FU o_position H locs ls hP hD hS (lv_sub hl [0] rfl) hF
  exact main s.heap [] ls hP hD hS hl
theorem kd_X7_isGood : yX7_isGood.cls = RX7 ∧ yX7_isGood.cls ≠ "java/lang/invoke/MethodHandle" ∧ yX7_isGood.cls ≠ "java/lang/invoke/VarHandle" ∧ (parseMethodDescriptor yX7_isGood.desc).map (fun d => d.parameters.length) = some 0 := by decide +kernel
set_option maxHeartbeats 4000000 in
set_option maxRecDepth 100000 in
theorem c_X7_isGood {l : Launch} {D : va_G} {cy : Nat → ClassId} (q_o : Nat) (sz : Nat) (x_o_thrown x_o_buffer x_o_bufferLength x_o_textLength x_o_position x_o_errorAt x_o_errorOffset x_o_data x_o_draft x_o_aside x_o_history x_o_undoDepth x_o_numberStart x_o_nesting x_o_seen x_o_toldPlanes x_o_stack x_o_facts : Value) (o_error : Int32) (res : Int32) (hF : X7_isGood o_error = some res) : Met l yX7_isGood wsX7_isGood ({ frames := 0, cells := 0, slots := 0, locals := 0 } : Room) (kP (EN D cy) D [.ref q_o] [(q_o, .inr (7, [x_o_thrown, x_o_buffer, x_o_bufferLength, x_o_textLength, x_o_position, .int o_error, x_o_errorAt, x_o_errorOffset, x_o_data, x_o_draft, x_o_aside, x_o_history, x_o_undoDepth, x_o_numberStart, x_o_nesting, x_o_seen, x_o_toldPlanes, x_o_stack, x_o_facts]))] sz) (kQi D res [(q_o, .inr (7, [x_o_thrown, x_o_buffer, x_o_bufferLength, x_o_textLength, x_o_position, .int o_error, x_o_errorAt, x_o_errorOffset, x_o_data, x_o_draft, x_o_aside, x_o_history, x_o_undoDepth, x_o_numberStart, x_o_nesting, x_o_seen, x_o_toldPlanes, x_o_stack, x_o_facts]))] (va_A [(q_o, .inr (7, [x_o_thrown, x_o_buffer, x_o_bufferLength, x_o_textLength, x_o_position, .int o_error, x_o_errorAt, x_o_errorOffset, x_o_data, x_o_draft, x_o_aside, x_o_history, x_o_undoDepth, x_o_numberStart, x_o_nesting, x_o_seen, x_o_toldPlanes, x_o_stack, x_o_facts]))] sz)) 0 0 (va_A [(q_o, .inr (7, [x_o_thrown, x_o_buffer, x_o_bufferLength, x_o_textLength, x_o_position, .int o_error, x_o_errorAt, x_o_errorOffset, x_o_data, x_o_draft, x_o_aside, x_o_history, x_o_undoDepth, x_o_numberStart, x_o_nesting, x_o_seen, x_o_toldPlanes, x_o_stack, x_o_facts]))] sz) := by
  refine kMet (y := yX7_isGood) (av := [.ref q_o]) (cc := cX7_isGood) (maxL := 1) (ret := some .boolean) (own := RX7) (Qc := fun A9 => (kQi D res [(q_o, .inr (7, [x_o_thrown, x_o_buffer, x_o_bufferLength, x_o_textLength, x_o_position, .int o_error, x_o_errorAt, x_o_errorOffset, x_o_data, x_o_draft, x_o_aside, x_o_history, x_o_undoDepth, x_o_numberStart, x_o_nesting, x_o_seen, x_o_toldPlanes, x_o_stack, x_o_facts]))] A9)) (by decide) rfl rfl (Nat.le_of_ble_eq_true rfl) ?_
  intro p e s m args below meth c A hx hb hr hts hown hml hlocks hname hE hP hD hA hsz ls hl
  have hK := hE.1
  have hl : lv_has ls 1 [(0, .ref q_o)] := hl
  have hS : va_S A s.heap s.heap [] := va_S.rf
  have f_f58 := hts (.fieldLink RX7 58 "PeepBoxModel" "error" "I") (by decide +kernel)
  have f_inX7 : ∀ w ∈ wsX70, w ∈ wsX7_isGood := by decide +kernel
  obtain ⟨QQ, hQQ⟩ : ∃ Q9, Q9 = MQ below (kQi D res [(q_o, .inr (7, [x_o_thrown, x_o_buffer, x_o_bufferLength, x_o_textLength, x_o_position, .int o_error, x_o_errorAt, x_o_errorOffset, x_o_data, x_o_draft, x_o_aside, x_o_history, x_o_undoDepth, x_o_numberStart, x_o_nesting, x_o_seen, x_o_toldPlanes, x_o_stack, x_o_facts]))] A) args s 0 0 A := ⟨_, rfl⟩
  rw [← hQQ]
  have main : ∀ (H : Heap) (locs : List Loc) (ls : Array Slot), va_P D vwCl [(q_o, .inr (7, [x_o_thrown, x_o_buffer, x_o_bufferLength, x_o_textLength, x_o_position, .int o_error, x_o_errorAt, x_o_errorOffset, x_o_data, x_o_draft, x_o_aside, x_o_history, x_o_undoDepth, x_o_numberStart, x_o_nesting, x_o_seen, x_o_toldPlanes, x_o_stack, x_o_facts]))] H → va_D A [(q_o, .inr (7, [x_o_thrown, x_o_buffer, x_o_bufferLength, x_o_textLength, x_o_position, .int o_error, x_o_errorAt, x_o_errorOffset, x_o_data, x_o_draft, x_o_aside, x_o_history, x_o_undoDepth, x_o_numberStart, x_o_nesting, x_o_seen, x_o_toldPlanes, x_o_stack, x_o_facts]))] → va_S A s.heap H locs → lv_has ls 1 [(0, .ref q_o)] → W p l e ({ frames := 0, cells := 0, slots := 0, locals := 0 } : Room) s m args below meth c H locs 0 0 QQ (F0 m 0 ls []) := by
    intro H locs ls hP hD hS hl
    unfold X7_isGood at hF
    refine lv_aload_n hx hb dX7_isGood_0 rfl (lv_at hl 0 rfl) ?_
    refine va_get (D := D) (ci := 7) (v := .int o_error) (C := RX7) (T := TX7) (N := 19) hx hb hts f_inX7 hown hK hP 0 rfl rfl 5 (by decide) f_f58 (fun _ h9 => h9) rfl dX7_isGood_1 ?_
    refine lv_if_ne (tgt := 11) hx hb dX7_isGood_4 (by decide) (fun c1 => ?_) (fun c1 => ?_)
    · have hF := if_n hF c1
      refine lv_iconst (v := 0) hx hb dX7_isGood_11 (by decide) ?_
      obtain rfl := so_o hF
      rw [hQQ]
      exact kr_z (v := (0 : Int32)) hx hb hr hlocks rfl hP hD hS dX7_isGood_12
    · have hF := if_p hF c1
      refine lv_iconst (v := 1) hx hb dX7_isGood_7 (by decide) ?_
      refine lv_goto (tgt := 12) hx hb dX7_isGood_8 (by decide) ?_
      obtain rfl := so_o hF
      rw [hQQ]
      exact kr_z (v := (1 : Int32)) hx hb hr hlocks rfl hP hD hS dX7_isGood_12
  exact main s.heap [] ls hP hD hS hl
theorem kd_X7_report : yX7_report.cls = RX7 ∧ yX7_report.cls ≠ "java/lang/invoke/MethodHandle" ∧ yX7_report.cls ≠ "java/lang/invoke/VarHandle" ∧ (parseMethodDescriptor yX7_report.desc).map (fun d => d.parameters.length) = some 2 := by decide +kernel
set_option maxHeartbeats 4000000 in
set_option maxRecDepth 100000 in
theorem c_X7_report {l : Launch} {D : va_G} {cy : Nat → ClassId} (q_o : Nat) (sz : Nat) (x_o_thrown x_o_buffer x_o_bufferLength x_o_textLength x_o_position x_o_errorOffset x_o_data x_o_draft x_o_aside x_o_history x_o_undoDepth x_o_numberStart x_o_nesting x_o_seen x_o_toldPlanes x_o_stack x_o_facts : Value) (o_error : Int32) (o_errorAt : Int32) (p1 : Int32) (p2 : Int32) (res : Int32 × Int32) (hF : X7_report o_error o_errorAt p1 p2 = some res) : Met l yX7_report wsX7_report ({ frames := 0, cells := 0, slots := 0, locals := 0 } : Room) (kP (EN D cy) D [.ref q_o, .int p1, .int p2] [(q_o, .inr (7, [x_o_thrown, x_o_buffer, x_o_bufferLength, x_o_textLength, x_o_position, .int o_error, .int o_errorAt, x_o_errorOffset, x_o_data, x_o_draft, x_o_aside, x_o_history, x_o_undoDepth, x_o_numberStart, x_o_nesting, x_o_seen, x_o_toldPlanes, x_o_stack, x_o_facts]))] sz) (kQv D [(q_o, .inr (7, [x_o_thrown, x_o_buffer, x_o_bufferLength, x_o_textLength, x_o_position, .int res.1, .int res.2, x_o_errorOffset, x_o_data, x_o_draft, x_o_aside, x_o_history, x_o_undoDepth, x_o_numberStart, x_o_nesting, x_o_seen, x_o_toldPlanes, x_o_stack, x_o_facts]))] (va_A [(q_o, .inr (7, [x_o_thrown, x_o_buffer, x_o_bufferLength, x_o_textLength, x_o_position, .int o_error, .int o_errorAt, x_o_errorOffset, x_o_data, x_o_draft, x_o_aside, x_o_history, x_o_undoDepth, x_o_numberStart, x_o_nesting, x_o_seen, x_o_toldPlanes, x_o_stack, x_o_facts]))] sz)) 0 0 (va_A [(q_o, .inr (7, [x_o_thrown, x_o_buffer, x_o_bufferLength, x_o_textLength, x_o_position, .int o_error, .int o_errorAt, x_o_errorOffset, x_o_data, x_o_draft, x_o_aside, x_o_history, x_o_undoDepth, x_o_numberStart, x_o_nesting, x_o_seen, x_o_toldPlanes, x_o_stack, x_o_facts]))] sz) := by
  refine kMet (y := yX7_report) (av := [.ref q_o, .int p1, .int p2]) (cc := cX7_report) (maxL := 3) (ret := none) (own := RX7) (Qc := fun A9 => (kQv D [(q_o, .inr (7, [x_o_thrown, x_o_buffer, x_o_bufferLength, x_o_textLength, x_o_position, .int res.1, .int res.2, x_o_errorOffset, x_o_data, x_o_draft, x_o_aside, x_o_history, x_o_undoDepth, x_o_numberStart, x_o_nesting, x_o_seen, x_o_toldPlanes, x_o_stack, x_o_facts]))] A9)) (by decide) rfl rfl (Nat.le_of_ble_eq_true rfl) ?_
  intro p e s m args below meth c A hx hb hr hts hown hml hlocks hname hE hP hD hA hsz ls hl
  have hK := hE.1
  have hl : lv_has ls 3 [(0, .ref q_o), (1, .int p1), (2, .int p2)] := hl
  have hS : va_S A s.heap s.heap [] := va_S.rf
  have f_f58 := hts (.fieldLink RX7 58 "PeepBoxModel" "error" "I") (by decide +kernel)
  have f_inX7 : ∀ w ∈ wsX70, w ∈ wsX7_report := by decide +kernel
  have f_f61 := hts (.fieldLink RX7 61 "PeepBoxModel" "errorAt" "I") (by decide +kernel)
  obtain ⟨QQ, hQQ⟩ : ∃ Q9, Q9 = MQ below (kQv D [(q_o, .inr (7, [x_o_thrown, x_o_buffer, x_o_bufferLength, x_o_textLength, x_o_position, .int res.1, .int res.2, x_o_errorOffset, x_o_data, x_o_draft, x_o_aside, x_o_history, x_o_undoDepth, x_o_numberStart, x_o_nesting, x_o_seen, x_o_toldPlanes, x_o_stack, x_o_facts]))] A) args s 0 0 A := ⟨_, rfl⟩
  rw [← hQQ]
  have main : ∀ (H : Heap) (locs : List Loc) (ls : Array Slot), va_P D vwCl [(q_o, .inr (7, [x_o_thrown, x_o_buffer, x_o_bufferLength, x_o_textLength, x_o_position, .int o_error, .int o_errorAt, x_o_errorOffset, x_o_data, x_o_draft, x_o_aside, x_o_history, x_o_undoDepth, x_o_numberStart, x_o_nesting, x_o_seen, x_o_toldPlanes, x_o_stack, x_o_facts]))] H → va_D A [(q_o, .inr (7, [x_o_thrown, x_o_buffer, x_o_bufferLength, x_o_textLength, x_o_position, .int o_error, .int o_errorAt, x_o_errorOffset, x_o_data, x_o_draft, x_o_aside, x_o_history, x_o_undoDepth, x_o_numberStart, x_o_nesting, x_o_seen, x_o_toldPlanes, x_o_stack, x_o_facts]))] → va_S A s.heap H locs → lv_has ls 3 [(0, .ref q_o), (1, .int p1), (2, .int p2)] → W p l e ({ frames := 0, cells := 0, slots := 0, locals := 0 } : Room) s m args below meth c H locs 0 0 QQ (F0 m 0 ls []) := by
    intro H locs ls hP hD hS hl
    unfold X7_report at hF
    refine lv_aload_n hx hb dX7_report_0 rfl (lv_at hl 0 rfl) ?_
    refine va_get (D := D) (ci := 7) (v := .int o_error) (C := RX7) (T := TX7) (N := 19) hx hb hts f_inX7 hown hK hP 0 rfl rfl 5 (by decide) f_f58 (fun _ h9 => h9) rfl dX7_report_1 ?_
    refine lv_if_eq (tgt := 8) hx hb dX7_report_4 (by decide) (fun c1 => ?_) (fun c1 => ?_)
    · have hF := if_p hF c1
      refine lv_aload_n hx hb dX7_report_8 rfl (lv_at hl 0 rfl) ?_
      refine lv_iload_n hx hb dX7_report_9 rfl (lv_at hl 1 rfl) ?_
      refine va_put (D := D) (ci := 7) (v := .int p1) (ty := .int) (C := RX7) (T := TX7) (N := 19) hx hb hts f_inX7 tyX7 tyX7_ok nmX7 hown hK hP hD hS 0 rfl rfl 5 (by decide) f_f58 (fun _ h9 => h9) rfl (by decide +kernel) rfl rfl (Nat.le_of_ble_eq_true rfl) dX7_report_10 (fun H locs hP hD hS => ?_)
      have hP : va_P D vwCl [(q_o, .inr (7, [x_o_thrown, x_o_buffer, x_o_bufferLength, x_o_textLength, x_o_position, .int p1, .int o_errorAt, x_o_errorOffset, x_o_data, x_o_draft, x_o_aside, x_o_history, x_o_undoDepth, x_o_numberStart, x_o_nesting, x_o_seen, x_o_toldPlanes, x_o_stack, x_o_facts]))] H := hP
      have hD : va_D A [(q_o, .inr (7, [x_o_thrown, x_o_buffer, x_o_bufferLength, x_o_textLength, x_o_position, .int p1, .int o_errorAt, x_o_errorOffset, x_o_data, x_o_draft, x_o_aside, x_o_history, x_o_undoDepth, x_o_numberStart, x_o_nesting, x_o_seen, x_o_toldPlanes, x_o_stack, x_o_facts]))] := hD
      refine lv_aload_n hx hb dX7_report_13 rfl (lv_at hl 0 rfl) ?_
      refine lv_iload_n hx hb dX7_report_14 rfl (lv_at hl 2 rfl) ?_
      refine va_put (D := D) (ci := 7) (v := .int p2) (ty := .int) (C := RX7) (T := TX7) (N := 19) hx hb hts f_inX7 tyX7 tyX7_ok nmX7 hown hK hP hD hS 0 rfl rfl 6 (by decide) f_f61 (fun _ h9 => h9) rfl (by decide +kernel) rfl rfl (Nat.le_of_ble_eq_true rfl) dX7_report_15 (fun H locs hP hD hS => ?_)
      have hP : va_P D vwCl [(q_o, .inr (7, [x_o_thrown, x_o_buffer, x_o_bufferLength, x_o_textLength, x_o_position, .int p1, .int p2, x_o_errorOffset, x_o_data, x_o_draft, x_o_aside, x_o_history, x_o_undoDepth, x_o_numberStart, x_o_nesting, x_o_seen, x_o_toldPlanes, x_o_stack, x_o_facts]))] H := hP
      have hD : va_D A [(q_o, .inr (7, [x_o_thrown, x_o_buffer, x_o_bufferLength, x_o_textLength, x_o_position, .int p1, .int p2, x_o_errorOffset, x_o_data, x_o_draft, x_o_aside, x_o_history, x_o_undoDepth, x_o_numberStart, x_o_nesting, x_o_seen, x_o_toldPlanes, x_o_stack, x_o_facts]))] := hD
      obtain rfl := so_o hF
      rw [hQQ]
      exact kr_v hx hb hr hlocks hP hD hS dX7_report_18
    · have hF := if_n hF c1
      obtain rfl := so_o hF
      rw [hQQ]
      exact kr_v hx hb hr hlocks hP hD hS dX7_report_7
  exact main s.heap [] ls hP hD hS hl
theorem kd_X7_isDigit : yX7_isDigit.cls ≠ "java/lang/invoke/MethodHandle" ∧ yX7_isDigit.cls ≠ "java/lang/invoke/VarHandle" ∧ (parseMethodDescriptor yX7_isDigit.desc).map (fun d => d.parameters.length) = some 1 := by decide +kernel
set_option maxHeartbeats 4000000 in
set_option maxRecDepth 100000 in
theorem c_X7_isDigit {l : Launch} {D : va_G} {cy : Nat → ClassId} (sz : Nat) (p0 : Int32) (res : Int32) (hF : X7_isDigit p0 = some res) : Met l yX7_isDigit wsX7_isDigit ({ frames := 1, cells := 0, slots := 0, locals := 22 } : Room) (kP (EN D cy) D [.int p0] [] sz) (kQi D res [] (va_A [] sz)) 0 0 (va_A [] sz) := by
  refine kMet (y := yX7_isDigit) (av := [.int p0]) (cc := cX7_isDigit) (maxL := 1) (ret := some .boolean) (own := RX7) (Qc := fun A9 => (kQi D res [] A9)) (by decide) rfl rfl (Nat.le_of_ble_eq_true rfl) ?_
  intro p e s m args below meth c A hx hb hr hts hown hml hlocks hname hE hP hD hA hsz ls hl
  have hK := hE.1
  have hl : lv_has ls 1 [(0, .int p0)] := hl
  have hS : va_S A s.heap s.heap [] := va_S.rf
  obtain ⟨QQ, hQQ⟩ : ∃ Q9, Q9 = MQ below (kQi D res [] A) args s 0 0 A := ⟨_, rfl⟩
  rw [← hQQ]
  have main : ∀ (H : Heap) (locs : List Loc) (ls : Array Slot), va_P D vwCl [] H → va_D A [] → va_S A s.heap H locs → lv_has ls 1 [(0, .int p0)] → W p l e ({ frames := 1, cells := 0, slots := 0, locals := 22 } : Room) s m args below meth c H locs 0 0 QQ (F0 m 0 ls []) := by
    intro H locs ls hP hD hS hl
    unfold X7_isDigit at hF
    refine lv_iload_n hx hb dX7_isDigit_0 rfl (lv_at hl 0 rfl) ?_
    refine lv_bipush (v := 48) hx hb dX7_isDigit_1 (by decide) ?_
    refine lv_bipush (v := 57) hx hb dX7_isDigit_3 (by decide) ?_
    obtain ⟨r1, h2, hF⟩ := bn1_o hF
    refine kd_i [] (va_runS (As := [.int p0, .int (48 : Int32), .int (57 : Int32)]) (rest := []) ⟨hx, hb, hml, hown, hts⟩ (c_X7_in H.size p0 (48 : Int32) (57 : Int32) _ h2) (va_cwS 3 hts gX7_isDigit_X7_in rfl rfl rfl kd_X7_in ⟨Nat.le_of_ble_eq_true rfl, Nat.le_of_ble_eq_true rfl⟩) ⟨kP_blind (EN_ok D cy) D _ _ _, kStart (EN_ok D cy) hE hP hD hS hA [] rfl rfl _⟩ rfl rfl hl.1 rfl (lv_room (Nat.le_of_ble_eq_true rfl)) dX7_isDigit_5 ⟨Nat.zero_le _, Nat.zero_le _⟩) hP hD hS hA [] [] rfl rfl rfl 0 rfl (by decide +kernel) (fun H locs hP hD hS => ?_)
    obtain ⟨h3, hF⟩ := ck_o hF
    obtain rfl := so_o hF
    rw [hQQ]
    exact kr_z hx hb hr hlocks (by rcases h3 with h9 | h9 <;> rw [h9] <;> rfl) hP hD hS dX7_isDigit_8
  exact main s.heap [] ls hP hD hS hl
theorem kd_X7_takeWord : yX7_takeWord.cls = RX7 ∧ yX7_takeWord.cls ≠ "java/lang/invoke/MethodHandle" ∧ yX7_takeWord.cls ≠ "java/lang/invoke/VarHandle" ∧ (parseMethodDescriptor yX7_takeWord.desc).map (fun d => d.parameters.length) = some 1 := by decide +kernel
set_option maxHeartbeats 4000000 in
set_option maxRecDepth 100000 in
theorem c_X7_takeWord {l : Launch} {D : va_G} {cy : Nat → ClassId} (q_o q_o_buffer : Nat) (sz : Nat) (x_o_thrown x_o_bufferLength x_o_errorAt x_o_errorOffset x_o_data x_o_draft x_o_aside x_o_history x_o_undoDepth x_o_numberStart x_o_nesting x_o_seen x_o_toldPlanes x_o_stack x_o_facts : Value) (o_textLength : Int32) (o_position : Int32) (o_error : Int32) (o_buffer : Nat → Int32) (tx : List Int32) (a_tx : Nat) (res : Int32 × Int32) (hF : X7_takeWord tx o_textLength o_position o_error o_buffer = some res) : Met l yX7_takeWord wsX7_takeWord ({ frames := 4, cells := 0, slots := 0, locals := 101 } : Room) (kP (ES D cy tx a_tx) D [.ref q_o, .ref a_tx] [(q_o, .inr (7, [x_o_thrown, .ref q_o_buffer, x_o_bufferLength, .int o_textLength, .int o_position, .int o_error, x_o_errorAt, x_o_errorOffset, x_o_data, x_o_draft, x_o_aside, x_o_history, x_o_undoDepth, x_o_numberStart, x_o_nesting, x_o_seen, x_o_toldPlanes, x_o_stack, x_o_facts])), (q_o_buffer, .inl (cy 0, 800, .inl o_buffer))] sz) (kQi D res.1 [(q_o, .inr (7, [x_o_thrown, .ref q_o_buffer, x_o_bufferLength, .int o_textLength, .int res.2, .int o_error, x_o_errorAt, x_o_errorOffset, x_o_data, x_o_draft, x_o_aside, x_o_history, x_o_undoDepth, x_o_numberStart, x_o_nesting, x_o_seen, x_o_toldPlanes, x_o_stack, x_o_facts])), (q_o_buffer, .inl (cy 0, 800, .inl o_buffer))] (va_A [(q_o, .inr (7, [x_o_thrown, .ref q_o_buffer, x_o_bufferLength, .int o_textLength, .int o_position, .int o_error, x_o_errorAt, x_o_errorOffset, x_o_data, x_o_draft, x_o_aside, x_o_history, x_o_undoDepth, x_o_numberStart, x_o_nesting, x_o_seen, x_o_toldPlanes, x_o_stack, x_o_facts])), (q_o_buffer, .inl (cy 0, 800, .inl o_buffer))] sz)) 0 0 (va_A [(q_o, .inr (7, [x_o_thrown, .ref q_o_buffer, x_o_bufferLength, .int o_textLength, .int o_position, .int o_error, x_o_errorAt, x_o_errorOffset, x_o_data, x_o_draft, x_o_aside, x_o_history, x_o_undoDepth, x_o_numberStart, x_o_nesting, x_o_seen, x_o_toldPlanes, x_o_stack, x_o_facts])), (q_o_buffer, .inl (cy 0, 800, .inl o_buffer))] sz) := by
  refine kMet (y := yX7_takeWord) (av := [.ref q_o, .ref a_tx]) (cc := cX7_takeWord) (maxL := 3) (ret := some .boolean) (own := RX7) (Qc := fun A9 => (kQi D res.1 [(q_o, .inr (7, [x_o_thrown, .ref q_o_buffer, x_o_bufferLength, .int o_textLength, .int res.2, .int o_error, x_o_errorAt, x_o_errorOffset, x_o_data, x_o_draft, x_o_aside, x_o_history, x_o_undoDepth, x_o_numberStart, x_o_nesting, x_o_seen, x_o_toldPlanes, x_o_stack, x_o_facts])), (q_o_buffer, .inl (cy 0, 800, .inl o_buffer))] A9)) (by decide) rfl rfl (Nat.le_of_ble_eq_true rfl) ?_
  intro p e s m args below meth c A hx hb hr hts hown hml hlocks hname hE hP hD hA hsz ls hl
  obtain ⟨hE, hTa_tx⟩ := hE
  have hK := hE.1
  have hl : lv_has ls 3 [(0, .ref q_o), (1, .ref a_tx)] := hl
  have hS : va_S A s.heap s.heap [] := va_S.rf
  have f_f51 := hts (.fieldLink RX7 51 "PeepBoxModel" "position" "I") (by decide +kernel)
  have f_inX7 : ∀ w ∈ wsX70, w ∈ wsX7_takeWord := by decide +kernel
  obtain ⟨QQ, hQQ⟩ : ∃ Q9, Q9 = MQ below (kQi D res.1 [(q_o, .inr (7, [x_o_thrown, .ref q_o_buffer, x_o_bufferLength, .int o_textLength, .int res.2, .int o_error, x_o_errorAt, x_o_errorOffset, x_o_data, x_o_draft, x_o_aside, x_o_history, x_o_undoDepth, x_o_numberStart, x_o_nesting, x_o_seen, x_o_toldPlanes, x_o_stack, x_o_facts])), (q_o_buffer, .inl (cy 0, 800, .inl o_buffer))] A) args s 0 0 A := ⟨_, rfl⟩
  rw [← hQQ]
  have J48 : ∀ (l2 : Int32) (o_position : Int32) (H : Heap) (locs : List Loc) (ls : Array Slot), va_P D vwCl [(q_o, .inr (7, [x_o_thrown, .ref q_o_buffer, x_o_bufferLength, .int o_textLength, .int o_position, .int o_error, x_o_errorAt, x_o_errorOffset, x_o_data, x_o_draft, x_o_aside, x_o_history, x_o_undoDepth, x_o_numberStart, x_o_nesting, x_o_seen, x_o_toldPlanes, x_o_stack, x_o_facts])), (q_o_buffer, .inl (cy 0, 800, .inl o_buffer))] H → va_D A [(q_o, .inr (7, [x_o_thrown, .ref q_o_buffer, x_o_bufferLength, .int o_textLength, .int o_position, .int o_error, x_o_errorAt, x_o_errorOffset, x_o_data, x_o_draft, x_o_aside, x_o_history, x_o_undoDepth, x_o_numberStart, x_o_nesting, x_o_seen, x_o_toldPlanes, x_o_stack, x_o_facts])), (q_o_buffer, .inl (cy 0, 800, .inl o_buffer))] → va_S A s.heap H locs → lv_has ls 3 [(0, .ref q_o), (1, .ref a_tx), (2, .int l2)] → X7_takeWord_J48 tx o_textLength o_error o_buffer l2 o_position = some res → W p l e ({ frames := 4, cells := 0, slots := 0, locals := 101 } : Room) s m args below meth c H locs 0 0 QQ (F0 m 48 ls []) := by
    intro l2 o_position H locs ls hP hD hS hl hF
    unfold X7_takeWord_J48 at hF
    refine lv_iload_n hx hb dX7_takeWord_48 rfl (lv_at hl 2 rfl) ?_
    refine lv_aload_n hx hb dX7_takeWord_49 rfl (lv_at hl 1 rfl) ?_
    obtain ⟨r1, h2, hF⟩ := bn1_o hF
    refine kd_i [(q_o, .inr (7, [x_o_thrown, .ref q_o_buffer, x_o_bufferLength, .int o_textLength, .int o_position, .int o_error, x_o_errorAt, x_o_errorOffset, x_o_data, x_o_draft, x_o_aside, x_o_history, x_o_undoDepth, x_o_numberStart, x_o_nesting, x_o_seen, x_o_toldPlanes, x_o_stack, x_o_facts])), (q_o_buffer, .inl (cy 0, 800, .inl o_buffer))] (va_runV (As := []) (rest := [.int l2]) ⟨hx, hb, hml, hown, hts⟩ (c_J0_length_8abf5 H.size tx a_tx _ h2) (cwV 0 hts gX7_takeWord_J0_length_8abf5 rfl rfl rfl kd_J0_length_8abf5 ⟨Nat.le_of_ble_eq_true rfl, Nat.le_of_ble_eq_true rfl⟩) ⟨kP_blind (ES_ok D cy tx a_tx) D _ _ _, kStr_recv hTa_tx hS, kStart (ES_ok D cy tx a_tx) (show ES D cy tx a_tx A s s.heap from ⟨hE, hTa_tx⟩) hP hD hS hA [] rfl rfl _⟩ rfl rfl hl.1 rfl (lv_room (Nat.le_of_ble_eq_true rfl)) dX7_takeWord_50 ⟨Nat.zero_le _, Nat.zero_le _⟩) hP hD hS hA [] [0, 1] rfl rfl rfl 2 rfl (by decide +kernel) (fun H locs hP hD hS => ?_)
    refine lv_icmp_lt (tgt := 76) hx hb dX7_takeWord_53 (by decide) (fun c3 => ?_) (fun c3 => ?_)
    · have hF := if_p hF c3
      refine lv_iconst (v := 0) hx hb dX7_takeWord_76 (by decide) ?_
      obtain rfl := so_o hF
      rw [hQQ]
      exact kr_z (v := (0 : Int32)) hx hb hr hlocks rfl hP hD hS dX7_takeWord_77
    · have hF := if_n hF c3
      refine lv_aload_n hx hb dX7_takeWord_56 rfl (lv_at hl 0 rfl) ?_
      refine lv_aload_n hx hb dX7_takeWord_57 rfl (lv_at hl 0 rfl) ?_
      refine va_get (D := D) (ci := 7) (v := .int o_position) (C := RX7) (T := TX7) (N := 19) hx hb hts f_inX7 hown hK hP 0 rfl rfl 4 (by decide) f_f51 (fun _ h9 => h9) rfl dX7_takeWord_58 ?_
      refine lv_iload_n hx hb dX7_takeWord_61 rfl (lv_at hl 2 rfl) ?_
      refine lv_iadd hx hb dX7_takeWord_62 ?_
      obtain ⟨r4, h5, hF⟩ := bn1_o hF
      refine kd_i [(q_o, .inr (7, [x_o_thrown, .ref q_o_buffer, x_o_bufferLength, .int o_textLength, .int o_position, .int o_error, x_o_errorAt, x_o_errorOffset, x_o_data, x_o_draft, x_o_aside, x_o_history, x_o_undoDepth, x_o_numberStart, x_o_nesting, x_o_seen, x_o_toldPlanes, x_o_stack, x_o_facts])), (q_o_buffer, .inl (cy 0, 800, .inl o_buffer))] (va_runV (As := [.int (o_position + l2)]) (rest := []) ⟨hx, hb, hml, hown, hts⟩ (c_X7_byteAt q_o q_o_buffer H.size x_o_thrown x_o_bufferLength (.int o_position) (.int o_error) x_o_errorAt x_o_errorOffset x_o_data x_o_draft x_o_aside x_o_history x_o_undoDepth x_o_numberStart x_o_nesting x_o_seen x_o_toldPlanes x_o_stack x_o_facts o_textLength o_buffer (o_position + l2) _ h5) (cwV 1 hts gX7_takeWord_X7_byteAt rfl rfl rfl kd_X7_byteAt ⟨Nat.le_of_ble_eq_true rfl, Nat.le_of_ble_eq_true rfl⟩) ⟨kP_blind (EN_ok D cy) D _ _ _, va_recv hK hP (ci := 7) (q0 := 0) rfl rfl, kStart (EN_ok D cy) hE hP hD hS hA [0, 1] rfl rfl _⟩ rfl rfl hl.1 rfl (lv_room (Nat.le_of_ble_eq_true rfl)) dX7_takeWord_63 ⟨Nat.zero_le _, Nat.zero_le _⟩) hP hD hS hA [0, 1] [] rfl rfl rfl 2 rfl (by decide +kernel) (fun H locs hP hD hS => ?_)
      refine lv_bipush (v := 97) hx hb dX7_takeWord_66 (by decide) ?_
      refine lv_bipush (v := 122) hx hb dX7_takeWord_68 (by decide) ?_
      obtain ⟨r6, h7, hF⟩ := bn1_o hF
      refine kd_i [(q_o, .inr (7, [x_o_thrown, .ref q_o_buffer, x_o_bufferLength, .int o_textLength, .int o_position, .int o_error, x_o_errorAt, x_o_errorOffset, x_o_data, x_o_draft, x_o_aside, x_o_history, x_o_undoDepth, x_o_numberStart, x_o_nesting, x_o_seen, x_o_toldPlanes, x_o_stack, x_o_facts])), (q_o_buffer, .inl (cy 0, 800, .inl o_buffer))] (va_runS (As := [.int r4, .int (97 : Int32), .int (122 : Int32)]) (rest := []) ⟨hx, hb, hml, hown, hts⟩ (c_X7_in H.size r4 (97 : Int32) (122 : Int32) _ h7) (va_cwS 3 hts gX7_takeWord_X7_in rfl rfl rfl kd_X7_in ⟨Nat.le_of_ble_eq_true rfl, Nat.le_of_ble_eq_true rfl⟩) ⟨kP_blind (EN_ok D cy) D _ _ _, kStart (EN_ok D cy) hE hP hD hS hA [] rfl rfl _⟩ rfl rfl hl.1 rfl (lv_room (Nat.le_of_ble_eq_true rfl)) dX7_takeWord_70 ⟨Nat.zero_le _, Nat.zero_le _⟩) hP hD hS hA [] [0, 1] rfl rfl rfl 2 rfl (by decide +kernel) (fun H locs hP hD hS => ?_)
      refine lv_if_eq (tgt := 78) hx hb dX7_takeWord_73 (by decide) (fun c8 => ?_) (fun c8 => ?_)
      · have hF := if_p hF c8
        refine lv_aload_n hx hb dX7_takeWord_78 rfl (lv_at hl 0 rfl) ?_
        refine lv_dup hx hb dX7_takeWord_79 rfl ?_
        refine va_get (D := D) (ci := 7) (v := .int o_position) (C := RX7) (T := TX7) (N := 19) hx hb hts f_inX7 hown hK hP 0 rfl rfl 4 (by decide) f_f51 (fun _ h9 => h9) rfl dX7_takeWord_80 ?_
        refine lv_iload_n hx hb dX7_takeWord_83 rfl (lv_at hl 2 rfl) ?_
        refine lv_iadd hx hb dX7_takeWord_84 ?_
        refine lv_topi (fun v9 ev9 => ?_)
        have hF := nm_o hF v9 ev9
        refine va_put (D := D) (ci := 7) (v := .int v9) (ty := .int) (C := RX7) (T := TX7) (N := 19) hx hb hts f_inX7 tyX7 tyX7_ok nmX7 hown hK hP hD hS 0 rfl rfl 4 (by decide) f_f51 (fun _ h9 => h9) rfl (by decide +kernel) rfl rfl (Nat.le_of_ble_eq_true rfl) dX7_takeWord_85 (fun H locs hP hD hS => ?_)
        have hP : va_P D vwCl [(q_o, .inr (7, [x_o_thrown, .ref q_o_buffer, x_o_bufferLength, .int o_textLength, .int v9, .int o_error, x_o_errorAt, x_o_errorOffset, x_o_data, x_o_draft, x_o_aside, x_o_history, x_o_undoDepth, x_o_numberStart, x_o_nesting, x_o_seen, x_o_toldPlanes, x_o_stack, x_o_facts])), (q_o_buffer, .inl (cy 0, 800, .inl o_buffer))] H := hP
        have hD : va_D A [(q_o, .inr (7, [x_o_thrown, .ref q_o_buffer, x_o_bufferLength, .int o_textLength, .int v9, .int o_error, x_o_errorAt, x_o_errorOffset, x_o_data, x_o_draft, x_o_aside, x_o_history, x_o_undoDepth, x_o_numberStart, x_o_nesting, x_o_seen, x_o_toldPlanes, x_o_stack, x_o_facts])), (q_o_buffer, .inl (cy 0, 800, .inl o_buffer))] := hD
        refine lv_iconst (v := 1) hx hb dX7_takeWord_88 (by decide) ?_
        obtain rfl := so_o hF
        rw [hQQ]
        exact kr_z (v := (1 : Int32)) hx hb hr hlocks rfl hP hD hS dX7_takeWord_89
      · have hF := if_n hF c8
        refine lv_iconst (v := 0) hx hb dX7_takeWord_76 (by decide) ?_
        obtain rfl := so_o hF
        rw [hQQ]
        exact kr_z (v := (0 : Int32)) hx hb hr hlocks rfl hP hD hS dX7_takeWord_77
  have J16 : ∀ (n16 : Nat) (l2 : Int32) (o_position : Int32) (H : Heap) (locs : List Loc) (ls : Array Slot), va_P D vwCl [(q_o, .inr (7, [x_o_thrown, .ref q_o_buffer, x_o_bufferLength, .int o_textLength, .int o_position, .int o_error, x_o_errorAt, x_o_errorOffset, x_o_data, x_o_draft, x_o_aside, x_o_history, x_o_undoDepth, x_o_numberStart, x_o_nesting, x_o_seen, x_o_toldPlanes, x_o_stack, x_o_facts])), (q_o_buffer, .inl (cy 0, 800, .inl o_buffer))] H → va_D A [(q_o, .inr (7, [x_o_thrown, .ref q_o_buffer, x_o_bufferLength, .int o_textLength, .int o_position, .int o_error, x_o_errorAt, x_o_errorOffset, x_o_data, x_o_draft, x_o_aside, x_o_history, x_o_undoDepth, x_o_numberStart, x_o_nesting, x_o_seen, x_o_toldPlanes, x_o_stack, x_o_facts])), (q_o_buffer, .inl (cy 0, 800, .inl o_buffer))] → va_S A s.heap H locs → lv_has ls 3 [(0, .ref q_o), (1, .ref a_tx), (2, .int l2)] → X7_takeWord_L16 tx o_textLength o_error o_buffer n16 l2 o_position = some res → W p l e ({ frames := 4, cells := 0, slots := 0, locals := 101 } : Room) s m args below meth c H locs 0 0 QQ (F0 m 16 ls []) := by
    intro n16
    induction n16 with
    | zero =>
      intro l2 o_position H locs ls hP hD hS hl hF
      rw [X7_takeWord_L16] at hF
      cases hF
    | succ n16 ih16 =>
      intro l2 o_position H locs ls hP hD hS hl hF
      rw [X7_takeWord_L16] at hF
      refine lv_iload_n hx hb dX7_takeWord_16 rfl (lv_at hl 2 rfl) ?_
      refine lv_aload_n hx hb dX7_takeWord_17 rfl (lv_at hl 1 rfl) ?_
      obtain ⟨r10, h11, hF⟩ := bn1_o hF
      refine kd_i [(q_o, .inr (7, [x_o_thrown, .ref q_o_buffer, x_o_bufferLength, .int o_textLength, .int o_position, .int o_error, x_o_errorAt, x_o_errorOffset, x_o_data, x_o_draft, x_o_aside, x_o_history, x_o_undoDepth, x_o_numberStart, x_o_nesting, x_o_seen, x_o_toldPlanes, x_o_stack, x_o_facts])), (q_o_buffer, .inl (cy 0, 800, .inl o_buffer))] (va_runV (As := []) (rest := [.int l2]) ⟨hx, hb, hml, hown, hts⟩ (c_J0_length_8abf5 H.size tx a_tx _ h11) (cwV 0 hts gX7_takeWord_J0_length_8abf5 rfl rfl rfl kd_J0_length_8abf5 ⟨Nat.le_of_ble_eq_true rfl, Nat.le_of_ble_eq_true rfl⟩) ⟨kP_blind (ES_ok D cy tx a_tx) D _ _ _, kStr_recv hTa_tx hS, kStart (ES_ok D cy tx a_tx) (show ES D cy tx a_tx A s s.heap from ⟨hE, hTa_tx⟩) hP hD hS hA [] rfl rfl _⟩ rfl rfl hl.1 rfl (lv_room (Nat.le_of_ble_eq_true rfl)) dX7_takeWord_18 ⟨Nat.zero_le _, Nat.zero_le _⟩) hP hD hS hA [] [0, 1] rfl rfl rfl 2 rfl (by decide +kernel) (fun H locs hP hD hS => ?_)
      refine lv_icmp_ge (tgt := 48) hx hb dX7_takeWord_21 (by decide) (fun c12 => ?_) (fun c12 => ?_)
      · have hF := if_p hF c12
        exact J48 l2 o_position H locs ls hP hD hS (lv_sub hl [0, 1, 2] rfl) hF
      · have hF := if_n hF c12
        refine lv_aload_n hx hb dX7_takeWord_24 rfl (lv_at hl 0 rfl) ?_
        refine lv_aload_n hx hb dX7_takeWord_25 rfl (lv_at hl 0 rfl) ?_
        refine va_get (D := D) (ci := 7) (v := .int o_position) (C := RX7) (T := TX7) (N := 19) hx hb hts f_inX7 hown hK hP 0 rfl rfl 4 (by decide) f_f51 (fun _ h9 => h9) rfl dX7_takeWord_26 ?_
        refine lv_iload_n hx hb dX7_takeWord_29 rfl (lv_at hl 2 rfl) ?_
        refine lv_iadd hx hb dX7_takeWord_30 ?_
        obtain ⟨r13, h14, hF⟩ := bn1_o hF
        refine kd_i [(q_o, .inr (7, [x_o_thrown, .ref q_o_buffer, x_o_bufferLength, .int o_textLength, .int o_position, .int o_error, x_o_errorAt, x_o_errorOffset, x_o_data, x_o_draft, x_o_aside, x_o_history, x_o_undoDepth, x_o_numberStart, x_o_nesting, x_o_seen, x_o_toldPlanes, x_o_stack, x_o_facts])), (q_o_buffer, .inl (cy 0, 800, .inl o_buffer))] (va_runV (As := [.int (o_position + l2)]) (rest := []) ⟨hx, hb, hml, hown, hts⟩ (c_X7_byteAt q_o q_o_buffer H.size x_o_thrown x_o_bufferLength (.int o_position) (.int o_error) x_o_errorAt x_o_errorOffset x_o_data x_o_draft x_o_aside x_o_history x_o_undoDepth x_o_numberStart x_o_nesting x_o_seen x_o_toldPlanes x_o_stack x_o_facts o_textLength o_buffer (o_position + l2) _ h14) (cwV 1 hts gX7_takeWord_X7_byteAt rfl rfl rfl kd_X7_byteAt ⟨Nat.le_of_ble_eq_true rfl, Nat.le_of_ble_eq_true rfl⟩) ⟨kP_blind (EN_ok D cy) D _ _ _, va_recv hK hP (ci := 7) (q0 := 0) rfl rfl, kStart (EN_ok D cy) hE hP hD hS hA [0, 1] rfl rfl _⟩ rfl rfl hl.1 rfl (lv_room (Nat.le_of_ble_eq_true rfl)) dX7_takeWord_31 ⟨Nat.zero_le _, Nat.zero_le _⟩) hP hD hS hA [0, 1] [] rfl rfl rfl 2 rfl (by decide +kernel) (fun H locs hP hD hS => ?_)
        refine lv_aload_n hx hb dX7_takeWord_34 rfl (lv_at hl 1 rfl) ?_
        refine lv_iload_n hx hb dX7_takeWord_35 rfl (lv_at hl 2 rfl) ?_
        obtain ⟨r15, h16, hF⟩ := bn1_o hF
        refine kd_i [(q_o, .inr (7, [x_o_thrown, .ref q_o_buffer, x_o_bufferLength, .int o_textLength, .int o_position, .int o_error, x_o_errorAt, x_o_errorOffset, x_o_data, x_o_draft, x_o_aside, x_o_history, x_o_undoDepth, x_o_numberStart, x_o_nesting, x_o_seen, x_o_toldPlanes, x_o_stack, x_o_facts])), (q_o_buffer, .inl (cy 0, 800, .inl o_buffer))] (va_runV (As := [.int l2]) (rest := [.int r13]) ⟨hx, hb, hml, hown, hts⟩ (c_J0_charAt_5068e H.size tx a_tx l2 _ h16) (cwV 1 hts gX7_takeWord_J0_charAt_5068e rfl rfl rfl kd_J0_charAt_5068e ⟨Nat.le_of_ble_eq_true rfl, Nat.le_of_ble_eq_true rfl⟩) ⟨kP_blind (ES_ok D cy tx a_tx) D _ _ _, kStr_recv hTa_tx hS, kStart (ES_ok D cy tx a_tx) (show ES D cy tx a_tx A s s.heap from ⟨hE, hTa_tx⟩) hP hD hS hA [] rfl rfl _⟩ rfl rfl hl.1 rfl (lv_room (Nat.le_of_ble_eq_true rfl)) dX7_takeWord_36 ⟨Nat.zero_le _, Nat.zero_le _⟩) hP hD hS hA [] [0, 1] rfl rfl rfl 2 rfl (by decide +kernel) (fun H locs hP hD hS => ?_)
        refine lv_icmp_ne (tgt := 48) hx hb dX7_takeWord_39 (by decide) (fun c17 => ?_) (fun c17 => ?_)
        · have hF := if_n hF c17
          exact J48 l2 o_position H locs ls hP hD hS (lv_sub hl [0, 1, 2] rfl) hF
        · have hF := if_p hF c17
          obtain ⟨v18, ev18⟩ : ∃ y : Int32, y = l2 + (1 : Int32) := ⟨_, rfl⟩
          have hF := nm_o hF v18 ev18
          refine lv_iinc (v := v18) (lv' := [(2, .int v18), (0, .ref q_o), (1, .ref a_tx)]) hx hb dX7_takeWord_42 hl (k := 2) rfl (by rw [ev18]; rfl) (by decide) rfl (fun ls hl => ?_)
          refine lv_goto (tgt := 16) hx hb dX7_takeWord_45 (by decide) ?_
          exact ih16 v18 o_position H locs ls hP hD hS (lv_sub hl [1, 2, 0] rfl) hF
  have main : ∀ (H : Heap) (locs : List Loc) (ls : Array Slot), va_P D vwCl [(q_o, .inr (7, [x_o_thrown, .ref q_o_buffer, x_o_bufferLength, .int o_textLength, .int o_position, .int o_error, x_o_errorAt, x_o_errorOffset, x_o_data, x_o_draft, x_o_aside, x_o_history, x_o_undoDepth, x_o_numberStart, x_o_nesting, x_o_seen, x_o_toldPlanes, x_o_stack, x_o_facts])), (q_o_buffer, .inl (cy 0, 800, .inl o_buffer))] H → va_D A [(q_o, .inr (7, [x_o_thrown, .ref q_o_buffer, x_o_bufferLength, .int o_textLength, .int o_position, .int o_error, x_o_errorAt, x_o_errorOffset, x_o_data, x_o_draft, x_o_aside, x_o_history, x_o_undoDepth, x_o_numberStart, x_o_nesting, x_o_seen, x_o_toldPlanes, x_o_stack, x_o_facts])), (q_o_buffer, .inl (cy 0, 800, .inl o_buffer))] → va_S A s.heap H locs → lv_has ls 3 [(0, .ref q_o), (1, .ref a_tx)] → W p l e ({ frames := 4, cells := 0, slots := 0, locals := 101 } : Room) s m args below meth c H locs 0 0 QQ (F0 m 0 ls []) := by
    intro H locs ls hP hD hS hl
    unfold X7_takeWord at hF
    refine lv_aload_n hx hb dX7_takeWord_0 rfl (lv_at hl 0 rfl) ?_
    obtain ⟨r19, h20, hF⟩ := bn1_o hF
    refine kd_i [(q_o, .inr (7, [x_o_thrown, .ref q_o_buffer, x_o_bufferLength, .int o_textLength, .int o_position, .int o_error, x_o_errorAt, x_o_errorOffset, x_o_data, x_o_draft, x_o_aside, x_o_history, x_o_undoDepth, x_o_numberStart, x_o_nesting, x_o_seen, x_o_toldPlanes, x_o_stack, x_o_facts])), (q_o_buffer, .inl (cy 0, 800, .inl o_buffer))] (va_runV (As := []) (rest := []) ⟨hx, hb, hml, hown, hts⟩ (c_X7_isGood q_o H.size x_o_thrown (.ref q_o_buffer) x_o_bufferLength (.int o_textLength) (.int o_position) x_o_errorAt x_o_errorOffset x_o_data x_o_draft x_o_aside x_o_history x_o_undoDepth x_o_numberStart x_o_nesting x_o_seen x_o_toldPlanes x_o_stack x_o_facts o_error _ h20) (cwV 0 hts gX7_takeWord_X7_isGood rfl rfl rfl kd_X7_isGood ⟨Nat.le_of_ble_eq_true rfl, Nat.le_of_ble_eq_true rfl⟩) ⟨kP_blind (EN_ok D cy) D _ _ _, va_recv hK hP (ci := 7) (q0 := 0) rfl rfl, kStart (EN_ok D cy) hE hP hD hS hA [0] rfl rfl _⟩ rfl rfl hl.1 rfl (lv_room (Nat.le_of_ble_eq_true rfl)) dX7_takeWord_1 ⟨Nat.zero_le _, Nat.zero_le _⟩) hP hD hS hA [0] [1] rfl rfl rfl 2 rfl (by decide +kernel) (fun H locs hP hD hS => ?_)
    refine lv_if_ne (tgt := 9) hx hb dX7_takeWord_4 (by decide) (fun c21 => ?_) (fun c21 => ?_)
    · have hF := if_n hF c21
      refine lv_aload_n hx hb dX7_takeWord_9 rfl (lv_at hl 0 rfl) ?_
      obtain ⟨r22, o23, h24, hF⟩ := bn2_o hF
      refine kd_i [(q_o, .inr (7, [x_o_thrown, .ref q_o_buffer, x_o_bufferLength, .int o_textLength, .int o23, .int o_error, x_o_errorAt, x_o_errorOffset, x_o_data, x_o_draft, x_o_aside, x_o_history, x_o_undoDepth, x_o_numberStart, x_o_nesting, x_o_seen, x_o_toldPlanes, x_o_stack, x_o_facts])), (q_o_buffer, .inl (cy 0, 800, .inl o_buffer))] (va_runV (As := []) (rest := []) ⟨hx, hb, hml, hown, hts⟩ (c_X7_ahead q_o q_o_buffer H.size x_o_thrown x_o_bufferLength (.int o_error) x_o_errorAt x_o_errorOffset x_o_data x_o_draft x_o_aside x_o_history x_o_undoDepth x_o_numberStart x_o_nesting x_o_seen x_o_toldPlanes x_o_stack x_o_facts o_textLength o_position o_buffer _ h24) (cwV 0 hts gX7_takeWord_X7_ahead rfl rfl rfl kd_X7_ahead ⟨Nat.le_of_ble_eq_true rfl, Nat.le_of_ble_eq_true rfl⟩) ⟨kP_blind (EN_ok D cy) D _ _ _, va_recv hK hP (ci := 7) (q0 := 0) rfl rfl, kStart (EN_ok D cy) hE hP hD hS hA [0, 1] rfl rfl _⟩ rfl rfl hl.1 rfl (lv_room (Nat.le_of_ble_eq_true rfl)) dX7_takeWord_10 ⟨Nat.zero_le _, Nat.zero_le _⟩) hP hD hS hA [0, 1] [] rfl rfl rfl 2 rfl (by decide +kernel) (fun H locs hP hD hS => ?_)
      refine lv_pop hx hb dX7_takeWord_13 rfl ?_
      refine lv_iconst (v := 0) hx hb dX7_takeWord_14 (by decide) ?_
      refine lv_istore_n (lv' := [(2, .int (0 : Int32)), (0, .ref q_o), (1, .ref a_tx)]) hx hb dX7_takeWord_15 rfl hl (by decide) rfl (fun ls hl => ?_)
      exact J16 FU (0 : Int32) o23 H locs ls hP hD hS (lv_sub hl [1, 2, 0] rfl) hF
    · have hF := if_p hF c21
      refine lv_iconst (v := 0) hx hb dX7_takeWord_7 (by decide) ?_
      obtain rfl := so_o hF
      rw [hQQ]
      exact kr_z (v := (0 : Int32)) hx hb hr hlocks rfl hP hD hS dX7_takeWord_8
  exact main s.heap [] ls hP hD hS hl
theorem kd_X7_expect : yX7_expect.cls = RX7 ∧ yX7_expect.cls ≠ "java/lang/invoke/MethodHandle" ∧ yX7_expect.cls ≠ "java/lang/invoke/VarHandle" ∧ (parseMethodDescriptor yX7_expect.desc).map (fun d => d.parameters.length) = some 1 := by decide +kernel
set_option maxHeartbeats 4000000 in
set_option maxRecDepth 100000 in
theorem c_X7_expect {l : Launch} {D : va_G} {cy : Nat → ClassId} (q_o q_o_buffer : Nat) (sz : Nat) (x_o_thrown x_o_bufferLength x_o_errorOffset x_o_data x_o_draft x_o_aside x_o_history x_o_undoDepth x_o_numberStart x_o_nesting x_o_seen x_o_toldPlanes x_o_stack x_o_facts : Value) (o_textLength : Int32) (o_position : Int32) (o_error : Int32) (o_errorAt : Int32) (o_buffer : Nat → Int32) (p1 : Int32) (res : Int32 × Int32 × Int32) (hF : X7_expect o_textLength o_position o_error o_errorAt o_buffer p1 = some res) : Met l yX7_expect wsX7_expect ({ frames := 2, cells := 0, slots := 0, locals := 41 } : Room) (kP (EN D cy) D [.ref q_o, .int p1] [(q_o, .inr (7, [x_o_thrown, .ref q_o_buffer, x_o_bufferLength, .int o_textLength, .int o_position, .int o_error, .int o_errorAt, x_o_errorOffset, x_o_data, x_o_draft, x_o_aside, x_o_history, x_o_undoDepth, x_o_numberStart, x_o_nesting, x_o_seen, x_o_toldPlanes, x_o_stack, x_o_facts])), (q_o_buffer, .inl (cy 0, 800, .inl o_buffer))] sz) (kQv D [(q_o, .inr (7, [x_o_thrown, .ref q_o_buffer, x_o_bufferLength, .int o_textLength, .int res.1, .int res.2.1, .int res.2.2, x_o_errorOffset, x_o_data, x_o_draft, x_o_aside, x_o_history, x_o_undoDepth, x_o_numberStart, x_o_nesting, x_o_seen, x_o_toldPlanes, x_o_stack, x_o_facts])), (q_o_buffer, .inl (cy 0, 800, .inl o_buffer))] (va_A [(q_o, .inr (7, [x_o_thrown, .ref q_o_buffer, x_o_bufferLength, .int o_textLength, .int o_position, .int o_error, .int o_errorAt, x_o_errorOffset, x_o_data, x_o_draft, x_o_aside, x_o_history, x_o_undoDepth, x_o_numberStart, x_o_nesting, x_o_seen, x_o_toldPlanes, x_o_stack, x_o_facts])), (q_o_buffer, .inl (cy 0, 800, .inl o_buffer))] sz)) 0 0 (va_A [(q_o, .inr (7, [x_o_thrown, .ref q_o_buffer, x_o_bufferLength, .int o_textLength, .int o_position, .int o_error, .int o_errorAt, x_o_errorOffset, x_o_data, x_o_draft, x_o_aside, x_o_history, x_o_undoDepth, x_o_numberStart, x_o_nesting, x_o_seen, x_o_toldPlanes, x_o_stack, x_o_facts])), (q_o_buffer, .inl (cy 0, 800, .inl o_buffer))] sz) := by
  refine kMet (y := yX7_expect) (av := [.ref q_o, .int p1]) (cc := cX7_expect) (maxL := 2) (ret := none) (own := RX7) (Qc := fun A9 => (kQv D [(q_o, .inr (7, [x_o_thrown, .ref q_o_buffer, x_o_bufferLength, .int o_textLength, .int res.1, .int res.2.1, .int res.2.2, x_o_errorOffset, x_o_data, x_o_draft, x_o_aside, x_o_history, x_o_undoDepth, x_o_numberStart, x_o_nesting, x_o_seen, x_o_toldPlanes, x_o_stack, x_o_facts])), (q_o_buffer, .inl (cy 0, 800, .inl o_buffer))] A9)) (by decide) rfl rfl (Nat.le_of_ble_eq_true rfl) ?_
  intro p e s m args below meth c A hx hb hr hts hown hml hlocks hname hE hP hD hA hsz ls hl
  have hK := hE.1
  have hl : lv_has ls 2 [(0, .ref q_o), (1, .int p1)] := hl
  have hS : va_S A s.heap s.heap [] := va_S.rf
  have f_f51 := hts (.fieldLink RX7 51 "PeepBoxModel" "position" "I") (by decide +kernel)
  have f_inX7 : ∀ w ∈ wsX70, w ∈ wsX7_expect := by decide +kernel
  obtain ⟨QQ, hQQ⟩ : ∃ Q9, Q9 = MQ below (kQv D [(q_o, .inr (7, [x_o_thrown, .ref q_o_buffer, x_o_bufferLength, .int o_textLength, .int res.1, .int res.2.1, .int res.2.2, x_o_errorOffset, x_o_data, x_o_draft, x_o_aside, x_o_history, x_o_undoDepth, x_o_numberStart, x_o_nesting, x_o_seen, x_o_toldPlanes, x_o_stack, x_o_facts])), (q_o_buffer, .inl (cy 0, 800, .inl o_buffer))] A) args s 0 0 A := ⟨_, rfl⟩
  rw [← hQQ]
  have main : ∀ (H : Heap) (locs : List Loc) (ls : Array Slot), va_P D vwCl [(q_o, .inr (7, [x_o_thrown, .ref q_o_buffer, x_o_bufferLength, .int o_textLength, .int o_position, .int o_error, .int o_errorAt, x_o_errorOffset, x_o_data, x_o_draft, x_o_aside, x_o_history, x_o_undoDepth, x_o_numberStart, x_o_nesting, x_o_seen, x_o_toldPlanes, x_o_stack, x_o_facts])), (q_o_buffer, .inl (cy 0, 800, .inl o_buffer))] H → va_D A [(q_o, .inr (7, [x_o_thrown, .ref q_o_buffer, x_o_bufferLength, .int o_textLength, .int o_position, .int o_error, .int o_errorAt, x_o_errorOffset, x_o_data, x_o_draft, x_o_aside, x_o_history, x_o_undoDepth, x_o_numberStart, x_o_nesting, x_o_seen, x_o_toldPlanes, x_o_stack, x_o_facts])), (q_o_buffer, .inl (cy 0, 800, .inl o_buffer))] → va_S A s.heap H locs → lv_has ls 2 [(0, .ref q_o), (1, .int p1)] → W p l e ({ frames := 2, cells := 0, slots := 0, locals := 41 } : Room) s m args below meth c H locs 0 0 QQ (F0 m 0 ls []) := by
    intro H locs ls hP hD hS hl
    unfold X7_expect at hF
    refine lv_aload_n hx hb dX7_expect_0 rfl (lv_at hl 0 rfl) ?_
    obtain ⟨r1, h2, hF⟩ := bn1_o hF
    refine kd_i [(q_o, .inr (7, [x_o_thrown, .ref q_o_buffer, x_o_bufferLength, .int o_textLength, .int o_position, .int o_error, .int o_errorAt, x_o_errorOffset, x_o_data, x_o_draft, x_o_aside, x_o_history, x_o_undoDepth, x_o_numberStart, x_o_nesting, x_o_seen, x_o_toldPlanes, x_o_stack, x_o_facts])), (q_o_buffer, .inl (cy 0, 800, .inl o_buffer))] (va_runV (As := []) (rest := []) ⟨hx, hb, hml, hown, hts⟩ (c_X7_isGood q_o H.size x_o_thrown (.ref q_o_buffer) x_o_bufferLength (.int o_textLength) (.int o_position) (.int o_errorAt) x_o_errorOffset x_o_data x_o_draft x_o_aside x_o_history x_o_undoDepth x_o_numberStart x_o_nesting x_o_seen x_o_toldPlanes x_o_stack x_o_facts o_error _ h2) (cwV 0 hts gX7_expect_X7_isGood rfl rfl rfl kd_X7_isGood ⟨Nat.le_of_ble_eq_true rfl, Nat.le_of_ble_eq_true rfl⟩) ⟨kP_blind (EN_ok D cy) D _ _ _, va_recv hK hP (ci := 7) (q0 := 0) rfl rfl, kStart (EN_ok D cy) hE hP hD hS hA [0] rfl rfl _⟩ rfl rfl hl.1 rfl (lv_room (Nat.le_of_ble_eq_true rfl)) dX7_expect_1 ⟨Nat.zero_le _, Nat.zero_le _⟩) hP hD hS hA [0] [1] rfl rfl rfl 2 rfl (by decide +kernel) (fun H locs hP hD hS => ?_)
    refine lv_if_ne (tgt := 8) hx hb dX7_expect_4 (by decide) (fun c3 => ?_) (fun c3 => ?_)
    · have hF := if_n hF c3
      refine lv_aload_n hx hb dX7_expect_8 rfl (lv_at hl 0 rfl) ?_
      obtain ⟨r4, o5, h6, hF⟩ := bn2_o hF
      refine kd_i [(q_o, .inr (7, [x_o_thrown, .ref q_o_buffer, x_o_bufferLength, .int o_textLength, .int o5, .int o_error, .int o_errorAt, x_o_errorOffset, x_o_data, x_o_draft, x_o_aside, x_o_history, x_o_undoDepth, x_o_numberStart, x_o_nesting, x_o_seen, x_o_toldPlanes, x_o_stack, x_o_facts])), (q_o_buffer, .inl (cy 0, 800, .inl o_buffer))] (va_runV (As := []) (rest := []) ⟨hx, hb, hml, hown, hts⟩ (c_X7_ahead q_o q_o_buffer H.size x_o_thrown x_o_bufferLength (.int o_error) (.int o_errorAt) x_o_errorOffset x_o_data x_o_draft x_o_aside x_o_history x_o_undoDepth x_o_numberStart x_o_nesting x_o_seen x_o_toldPlanes x_o_stack x_o_facts o_textLength o_position o_buffer _ h6) (cwV 0 hts gX7_expect_X7_ahead rfl rfl rfl kd_X7_ahead ⟨Nat.le_of_ble_eq_true rfl, Nat.le_of_ble_eq_true rfl⟩) ⟨kP_blind (EN_ok D cy) D _ _ _, va_recv hK hP (ci := 7) (q0 := 0) rfl rfl, kStart (EN_ok D cy) hE hP hD hS hA [0, 1] rfl rfl _⟩ rfl rfl hl.1 rfl (lv_room (Nat.le_of_ble_eq_true rfl)) dX7_expect_9 ⟨Nat.zero_le _, Nat.zero_le _⟩) hP hD hS hA [0, 1] [] rfl rfl rfl 2 rfl (by decide +kernel) (fun H locs hP hD hS => ?_)
      refine lv_iload_n hx hb dX7_expect_12 rfl (lv_at hl 1 rfl) ?_
      refine lv_icmp_ne (tgt := 29) hx hb dX7_expect_13 (by decide) (fun c7 => ?_) (fun c7 => ?_)
      · have hF := if_n hF c7
        refine lv_aload_n hx hb dX7_expect_29 rfl (lv_at hl 0 rfl) ?_
        refine lv_bipush (v := -2) hx hb dX7_expect_30 (by decide) ?_
        refine lv_aload_n hx hb dX7_expect_32 rfl (lv_at hl 0 rfl) ?_
        refine va_get (D := D) (ci := 7) (v := .int o5) (C := RX7) (T := TX7) (N := 19) hx hb hts f_inX7 hown hK hP 0 rfl rfl 4 (by decide) f_f51 (fun _ h9 => h9) rfl dX7_expect_33 ?_
        obtain ⟨o8, o9, h10, hF⟩ := bn2_o hF
        refine kd_v [(q_o, .inr (7, [x_o_thrown, .ref q_o_buffer, x_o_bufferLength, .int o_textLength, .int o5, .int o8, .int o9, x_o_errorOffset, x_o_data, x_o_draft, x_o_aside, x_o_history, x_o_undoDepth, x_o_numberStart, x_o_nesting, x_o_seen, x_o_toldPlanes, x_o_stack, x_o_facts])), (q_o_buffer, .inl (cy 0, 800, .inl o_buffer))] (va_runV (As := [.int (-2 : Int32), .int o5]) (rest := []) ⟨hx, hb, hml, hown, hts⟩ (c_X7_report q_o H.size x_o_thrown (.ref q_o_buffer) x_o_bufferLength (.int o_textLength) (.int o5) x_o_errorOffset x_o_data x_o_draft x_o_aside x_o_history x_o_undoDepth x_o_numberStart x_o_nesting x_o_seen x_o_toldPlanes x_o_stack x_o_facts o_error o_errorAt (-2 : Int32) o5 _ h10) (cwV 2 hts gX7_expect_X7_report rfl rfl rfl kd_X7_report ⟨Nat.le_of_ble_eq_true rfl, Nat.le_of_ble_eq_true rfl⟩) ⟨kP_blind (EN_ok D cy) D _ _ _, va_recv hK hP (ci := 7) (q0 := 0) rfl rfl, kStart (EN_ok D cy) hE hP hD hS hA [0] rfl rfl _⟩ rfl rfl hl.1 rfl (lv_room (Nat.le_of_ble_eq_true rfl)) dX7_expect_36 ⟨Nat.zero_le _, Nat.zero_le _⟩) hP hD hS hA [0] [1] rfl rfl rfl 2 rfl (by decide +kernel) (fun H locs hP hD hS => ?_)
        obtain rfl := so_o hF
        rw [hQQ]
        exact kr_v hx hb hr hlocks hP hD hS dX7_expect_39
      · have hF := if_p hF c7
        refine lv_aload_n hx hb dX7_expect_16 rfl (lv_at hl 0 rfl) ?_
        refine lv_dup hx hb dX7_expect_17 rfl ?_
        refine va_get (D := D) (ci := 7) (v := .int o5) (C := RX7) (T := TX7) (N := 19) hx hb hts f_inX7 hown hK hP 0 rfl rfl 4 (by decide) f_f51 (fun _ h9 => h9) rfl dX7_expect_18 ?_
        refine lv_iconst (v := 1) hx hb dX7_expect_21 (by decide) ?_
        refine lv_iadd hx hb dX7_expect_22 ?_
        refine lv_topi (fun v11 ev11 => ?_)
        have hF := nm_o hF v11 ev11
        refine va_put (D := D) (ci := 7) (v := .int v11) (ty := .int) (C := RX7) (T := TX7) (N := 19) hx hb hts f_inX7 tyX7 tyX7_ok nmX7 hown hK hP hD hS 0 rfl rfl 4 (by decide) f_f51 (fun _ h9 => h9) rfl (by decide +kernel) rfl rfl (Nat.le_of_ble_eq_true rfl) dX7_expect_23 (fun H locs hP hD hS => ?_)
        have hP : va_P D vwCl [(q_o, .inr (7, [x_o_thrown, .ref q_o_buffer, x_o_bufferLength, .int o_textLength, .int v11, .int o_error, .int o_errorAt, x_o_errorOffset, x_o_data, x_o_draft, x_o_aside, x_o_history, x_o_undoDepth, x_o_numberStart, x_o_nesting, x_o_seen, x_o_toldPlanes, x_o_stack, x_o_facts])), (q_o_buffer, .inl (cy 0, 800, .inl o_buffer))] H := hP
        have hD : va_D A [(q_o, .inr (7, [x_o_thrown, .ref q_o_buffer, x_o_bufferLength, .int o_textLength, .int v11, .int o_error, .int o_errorAt, x_o_errorOffset, x_o_data, x_o_draft, x_o_aside, x_o_history, x_o_undoDepth, x_o_numberStart, x_o_nesting, x_o_seen, x_o_toldPlanes, x_o_stack, x_o_facts])), (q_o_buffer, .inl (cy 0, 800, .inl o_buffer))] := hD
        refine lv_goto (tgt := 39) hx hb dX7_expect_26 (by decide) ?_
        obtain rfl := so_o hF
        rw [hQQ]
        exact kr_v hx hb hr hlocks hP hD hS dX7_expect_39
    · have hF := if_p hF c3
      obtain rfl := so_o hF
      rw [hQQ]
      exact kr_v hx hb hr hlocks hP hD hS dX7_expect_7
  exact main s.heap [] ls hP hD hS hl
theorem kd_X7_number : yX7_number.cls = RX7 ∧ yX7_number.cls ≠ "java/lang/invoke/MethodHandle" ∧ yX7_number.cls ≠ "java/lang/invoke/VarHandle" ∧ (parseMethodDescriptor yX7_number.desc).map (fun d => d.parameters.length) = some 2 := by decide +kernel
set_option maxHeartbeats 4000000 in
set_option maxRecDepth 100000 in
theorem c_X7_number {l : Launch} {D : va_G} {cy : Nat → ClassId} (q_o q_o_buffer : Nat) (sz : Nat) (x_o_thrown x_o_bufferLength x_o_errorOffset x_o_data x_o_draft x_o_aside x_o_history x_o_undoDepth x_o_nesting x_o_seen x_o_toldPlanes x_o_stack x_o_facts : Value) (o_textLength : Int32) (o_position : Int32) (o_error : Int32) (o_errorAt : Int32) (o_numberStart : Int32) (o_buffer : Nat → Int32) (p1 : Int32) (p2 : Int32) (res : Int32 × Int32 × Int32 × Int32 × Int32) (hF : X7_number o_textLength o_position o_error o_errorAt o_numberStart o_buffer p1 p2 = some res) : Met l yX7_number wsX7_number ({ frames := 2, cells := 0, slots := 0, locals := 42 } : Room) (kP (EN D cy) D [.ref q_o, .int p1, .int p2] [(q_o, .inr (7, [x_o_thrown, .ref q_o_buffer, x_o_bufferLength, .int o_textLength, .int o_position, .int o_error, .int o_errorAt, x_o_errorOffset, x_o_data, x_o_draft, x_o_aside, x_o_history, x_o_undoDepth, .int o_numberStart, x_o_nesting, x_o_seen, x_o_toldPlanes, x_o_stack, x_o_facts])), (q_o_buffer, .inl (cy 0, 800, .inl o_buffer))] sz) (kQi D res.1 [(q_o, .inr (7, [x_o_thrown, .ref q_o_buffer, x_o_bufferLength, .int o_textLength, .int res.2.1, .int res.2.2.1, .int res.2.2.2.1, x_o_errorOffset, x_o_data, x_o_draft, x_o_aside, x_o_history, x_o_undoDepth, .int res.2.2.2.2, x_o_nesting, x_o_seen, x_o_toldPlanes, x_o_stack, x_o_facts])), (q_o_buffer, .inl (cy 0, 800, .inl o_buffer))] (va_A [(q_o, .inr (7, [x_o_thrown, .ref q_o_buffer, x_o_bufferLength, .int o_textLength, .int o_position, .int o_error, .int o_errorAt, x_o_errorOffset, x_o_data, x_o_draft, x_o_aside, x_o_history, x_o_undoDepth, .int o_numberStart, x_o_nesting, x_o_seen, x_o_toldPlanes, x_o_stack, x_o_facts])), (q_o_buffer, .inl (cy 0, 800, .inl o_buffer))] sz)) 0 0 (va_A [(q_o, .inr (7, [x_o_thrown, .ref q_o_buffer, x_o_bufferLength, .int o_textLength, .int o_position, .int o_error, .int o_errorAt, x_o_errorOffset, x_o_data, x_o_draft, x_o_aside, x_o_history, x_o_undoDepth, .int o_numberStart, x_o_nesting, x_o_seen, x_o_toldPlanes, x_o_stack, x_o_facts])), (q_o_buffer, .inl (cy 0, 800, .inl o_buffer))] sz) := by
  refine kMet (y := yX7_number) (av := [.ref q_o, .int p1, .int p2]) (cc := cX7_number) (maxL := 4) (ret := some .int) (own := RX7) (Qc := fun A9 => (kQi D res.1 [(q_o, .inr (7, [x_o_thrown, .ref q_o_buffer, x_o_bufferLength, .int o_textLength, .int res.2.1, .int res.2.2.1, .int res.2.2.2.1, x_o_errorOffset, x_o_data, x_o_draft, x_o_aside, x_o_history, x_o_undoDepth, .int res.2.2.2.2, x_o_nesting, x_o_seen, x_o_toldPlanes, x_o_stack, x_o_facts])), (q_o_buffer, .inl (cy 0, 800, .inl o_buffer))] A9)) (by decide) rfl rfl (Nat.le_of_ble_eq_true rfl) ?_
  intro p e s m args below meth c A hx hb hr hts hown hml hlocks hname hE hP hD hA hsz ls hl
  have hK := hE.1
  have hl : lv_has ls 4 [(0, .ref q_o), (1, .int p1), (2, .int p2)] := hl
  have hS : va_S A s.heap s.heap [] := va_S.rf
  have f_f51 := hts (.fieldLink RX7 51 "PeepBoxModel" "position" "I") (by decide +kernel)
  have f_inX7 : ∀ w ∈ wsX70, w ∈ wsX7_number := by decide +kernel
  have f_f93 := hts (.fieldLink RX7 93 "PeepBoxModel" "numberStart" "I") (by decide +kernel)
  have f_c96 := hts (.constant RX7 96 (100000000)) (by decide +kernel)
  obtain ⟨QQ, hQQ⟩ : ∃ Q9, Q9 = MQ below (kQi D res.1 [(q_o, .inr (7, [x_o_thrown, .ref q_o_buffer, x_o_bufferLength, .int o_textLength, .int res.2.1, .int res.2.2.1, .int res.2.2.2.1, x_o_errorOffset, x_o_data, x_o_draft, x_o_aside, x_o_history, x_o_undoDepth, .int res.2.2.2.2, x_o_nesting, x_o_seen, x_o_toldPlanes, x_o_stack, x_o_facts])), (q_o_buffer, .inl (cy 0, 800, .inl o_buffer))] A) args s 0 0 A := ⟨_, rfl⟩
  rw [← hQQ]
  have J109 : ∀ (l3 : Int32) (o_position : Int32) (o_error : Int32) (o_errorAt : Int32) (o_numberStart : Int32) (H : Heap) (locs : List Loc) (ls : Array Slot), va_P D vwCl [(q_o, .inr (7, [x_o_thrown, .ref q_o_buffer, x_o_bufferLength, .int o_textLength, .int o_position, .int o_error, .int o_errorAt, x_o_errorOffset, x_o_data, x_o_draft, x_o_aside, x_o_history, x_o_undoDepth, .int o_numberStart, x_o_nesting, x_o_seen, x_o_toldPlanes, x_o_stack, x_o_facts])), (q_o_buffer, .inl (cy 0, 800, .inl o_buffer))] H → va_D A [(q_o, .inr (7, [x_o_thrown, .ref q_o_buffer, x_o_bufferLength, .int o_textLength, .int o_position, .int o_error, .int o_errorAt, x_o_errorOffset, x_o_data, x_o_draft, x_o_aside, x_o_history, x_o_undoDepth, .int o_numberStart, x_o_nesting, x_o_seen, x_o_toldPlanes, x_o_stack, x_o_facts])), (q_o_buffer, .inl (cy 0, 800, .inl o_buffer))] → va_S A s.heap H locs → lv_has ls 4 [(0, .ref q_o), (3, .int l3)] → X7_number_J109 o_textLength o_buffer p1 p2 l3 o_position o_error o_errorAt o_numberStart = some res → W p l e ({ frames := 2, cells := 0, slots := 0, locals := 42 } : Room) s m args below meth c H locs 0 0 QQ (F0 m 109 ls []) := by
    intro l3 o_position o_error o_errorAt o_numberStart H locs ls hP hD hS hl hF
    unfold X7_number_J109 at hF
    refine lv_aload_n hx hb dX7_number_109 rfl (lv_at hl 0 rfl) ?_
    obtain ⟨r1, h2, hF⟩ := bn1_o hF
    refine kd_i [(q_o, .inr (7, [x_o_thrown, .ref q_o_buffer, x_o_bufferLength, .int o_textLength, .int o_position, .int o_error, .int o_errorAt, x_o_errorOffset, x_o_data, x_o_draft, x_o_aside, x_o_history, x_o_undoDepth, .int o_numberStart, x_o_nesting, x_o_seen, x_o_toldPlanes, x_o_stack, x_o_facts])), (q_o_buffer, .inl (cy 0, 800, .inl o_buffer))] (va_runV (As := []) (rest := []) ⟨hx, hb, hml, hown, hts⟩ (c_X7_isGood q_o H.size x_o_thrown (.ref q_o_buffer) x_o_bufferLength (.int o_textLength) (.int o_position) (.int o_errorAt) x_o_errorOffset x_o_data x_o_draft x_o_aside x_o_history x_o_undoDepth (.int o_numberStart) x_o_nesting x_o_seen x_o_toldPlanes x_o_stack x_o_facts o_error _ h2) (cwV 0 hts gX7_number_X7_isGood rfl rfl rfl kd_X7_isGood ⟨Nat.le_of_ble_eq_true rfl, Nat.le_of_ble_eq_true rfl⟩) ⟨kP_blind (EN_ok D cy) D _ _ _, va_recv hK hP (ci := 7) (q0 := 0) rfl rfl, kStart (EN_ok D cy) hE hP hD hS hA [0] rfl rfl _⟩ rfl rfl hl.1 rfl (lv_room (Nat.le_of_ble_eq_true rfl)) dX7_number_110 ⟨Nat.zero_le _, Nat.zero_le _⟩) hP hD hS hA [0] [1] rfl rfl rfl 2 rfl (by decide +kernel) (fun H locs hP hD hS => ?_)
    refine lv_if_eq (tgt := 120) hx hb dX7_number_113 (by decide) (fun c3 => ?_) (fun c3 => ?_)
    · have hF := if_p hF c3
      refine lv_iconst (v := 0) hx hb dX7_number_120 (by decide) ?_
      obtain rfl := so_o hF
      rw [hQQ]
      exact kr_i hx hb hr hlocks hP hD hS dX7_number_121
    · have hF := if_n hF c3
      refine lv_iload_n hx hb dX7_number_116 rfl (lv_at hl 1 rfl) ?_
      refine lv_goto (tgt := 121) hx hb dX7_number_117 (by decide) ?_
      obtain rfl := so_o hF
      rw [hQQ]
      exact kr_i hx hb hr hlocks hP hD hS dX7_number_121
  have J41 : ∀ (n41 : Nat) (l3 : Int32) (o_position : Int32) (o_numberStart : Int32) (H : Heap) (locs : List Loc) (ls : Array Slot), va_P D vwCl [(q_o, .inr (7, [x_o_thrown, .ref q_o_buffer, x_o_bufferLength, .int o_textLength, .int o_position, .int o_error, .int o_errorAt, x_o_errorOffset, x_o_data, x_o_draft, x_o_aside, x_o_history, x_o_undoDepth, .int o_numberStart, x_o_nesting, x_o_seen, x_o_toldPlanes, x_o_stack, x_o_facts])), (q_o_buffer, .inl (cy 0, 800, .inl o_buffer))] H → va_D A [(q_o, .inr (7, [x_o_thrown, .ref q_o_buffer, x_o_bufferLength, .int o_textLength, .int o_position, .int o_error, .int o_errorAt, x_o_errorOffset, x_o_data, x_o_draft, x_o_aside, x_o_history, x_o_undoDepth, .int o_numberStart, x_o_nesting, x_o_seen, x_o_toldPlanes, x_o_stack, x_o_facts])), (q_o_buffer, .inl (cy 0, 800, .inl o_buffer))] → va_S A s.heap H locs → lv_has ls 4 [(0, .ref q_o), (1, .int p1), (2, .int p2), (3, .int l3)] → X7_number_L41 o_textLength o_error o_errorAt o_buffer p1 p2 n41 l3 o_position o_numberStart = some res → W p l e ({ frames := 2, cells := 0, slots := 0, locals := 42 } : Room) s m args below meth c H locs 0 0 QQ (F0 m 41 ls []) := by
    intro n41
    induction n41 with
    | zero =>
      intro l3 o_position o_numberStart H locs ls hP hD hS hl hF
      rw [X7_number_L41] at hF
      cases hF
    | succ n41 ih41 =>
      intro l3 o_position o_numberStart H locs ls hP hD hS hl hF
      rw [X7_number_L41] at hF
      refine lv_aload_n hx hb dX7_number_41 rfl (lv_at hl 0 rfl) ?_
      refine lv_aload_n hx hb dX7_number_42 rfl (lv_at hl 0 rfl) ?_
      refine va_get (D := D) (ci := 7) (v := .int o_position) (C := RX7) (T := TX7) (N := 19) hx hb hts f_inX7 hown hK hP 0 rfl rfl 4 (by decide) f_f51 (fun _ h9 => h9) rfl dX7_number_43 ?_
      obtain ⟨r4, h5, hF⟩ := bn1_o hF
      refine kd_i [(q_o, .inr (7, [x_o_thrown, .ref q_o_buffer, x_o_bufferLength, .int o_textLength, .int o_position, .int o_error, .int o_errorAt, x_o_errorOffset, x_o_data, x_o_draft, x_o_aside, x_o_history, x_o_undoDepth, .int o_numberStart, x_o_nesting, x_o_seen, x_o_toldPlanes, x_o_stack, x_o_facts])), (q_o_buffer, .inl (cy 0, 800, .inl o_buffer))] (va_runV (As := [.int o_position]) (rest := []) ⟨hx, hb, hml, hown, hts⟩ (c_X7_byteAt q_o q_o_buffer H.size x_o_thrown x_o_bufferLength (.int o_position) (.int o_error) (.int o_errorAt) x_o_errorOffset x_o_data x_o_draft x_o_aside x_o_history x_o_undoDepth (.int o_numberStart) x_o_nesting x_o_seen x_o_toldPlanes x_o_stack x_o_facts o_textLength o_buffer o_position _ h5) (cwV 1 hts gX7_number_X7_byteAt rfl rfl rfl kd_X7_byteAt ⟨Nat.le_of_ble_eq_true rfl, Nat.le_of_ble_eq_true rfl⟩) ⟨kP_blind (EN_ok D cy) D _ _ _, va_recv hK hP (ci := 7) (q0 := 0) rfl rfl, kStart (EN_ok D cy) hE hP hD hS hA [0, 1] rfl rfl _⟩ rfl rfl hl.1 rfl (lv_room (Nat.le_of_ble_eq_true rfl)) dX7_number_46 ⟨Nat.zero_le _, Nat.zero_le _⟩) hP hD hS hA [0, 1] [] rfl rfl rfl 2 rfl (by decide +kernel) (fun H locs hP hD hS => ?_)
      obtain ⟨r6, h7, hF⟩ := bn1_o hF
      refine kd_i [(q_o, .inr (7, [x_o_thrown, .ref q_o_buffer, x_o_bufferLength, .int o_textLength, .int o_position, .int o_error, .int o_errorAt, x_o_errorOffset, x_o_data, x_o_draft, x_o_aside, x_o_history, x_o_undoDepth, .int o_numberStart, x_o_nesting, x_o_seen, x_o_toldPlanes, x_o_stack, x_o_facts])), (q_o_buffer, .inl (cy 0, 800, .inl o_buffer))] (va_runS (As := [.int r4]) (rest := []) ⟨hx, hb, hml, hown, hts⟩ (c_X7_isDigit H.size r4 _ h7) (va_cwS 1 hts gX7_number_X7_isDigit rfl rfl rfl kd_X7_isDigit ⟨Nat.le_of_ble_eq_true rfl, Nat.le_of_ble_eq_true rfl⟩) ⟨kP_blind (EN_ok D cy) D _ _ _, kStart (EN_ok D cy) hE hP hD hS hA [] rfl rfl _⟩ rfl rfl hl.1 rfl (lv_room (Nat.le_of_ble_eq_true rfl)) dX7_number_49 ⟨Nat.zero_le _, Nat.zero_le _⟩) hP hD hS hA [] [0, 1] rfl rfl rfl 2 rfl (by decide +kernel) (fun H locs hP hD hS => ?_)
      refine lv_if_eq (tgt := 90) hx hb dX7_number_52 (by decide) (fun c8 => ?_) (fun c8 => ?_)
      · have hF := if_p hF c8
        refine lv_iload_n hx hb dX7_number_90 rfl (lv_at hl 3 rfl) ?_
        refine lv_iload_n hx hb dX7_number_91 rfl (lv_at hl 1 rfl) ?_
        refine lv_iload_n hx hb dX7_number_92 rfl (lv_at hl 2 rfl) ?_
        obtain ⟨r9, h10, hF⟩ := bn1_o hF
        refine kd_i [(q_o, .inr (7, [x_o_thrown, .ref q_o_buffer, x_o_bufferLength, .int o_textLength, .int o_position, .int o_error, .int o_errorAt, x_o_errorOffset, x_o_data, x_o_draft, x_o_aside, x_o_history, x_o_undoDepth, .int o_numberStart, x_o_nesting, x_o_seen, x_o_toldPlanes, x_o_stack, x_o_facts])), (q_o_buffer, .inl (cy 0, 800, .inl o_buffer))] (va_runS (As := [.int l3, .int p1, .int p2]) (rest := []) ⟨hx, hb, hml, hown, hts⟩ (c_X7_in H.size l3 p1 p2 _ h10) (va_cwS 3 hts gX7_number_X7_in rfl rfl rfl kd_X7_in ⟨Nat.le_of_ble_eq_true rfl, Nat.le_of_ble_eq_true rfl⟩) ⟨kP_blind (EN_ok D cy) D _ _ _, kStart (EN_ok D cy) hE hP hD hS hA [] rfl rfl _⟩ rfl rfl hl.1 rfl (lv_room (Nat.le_of_ble_eq_true rfl)) dX7_number_93 ⟨Nat.zero_le _, Nat.zero_le _⟩) hP hD hS hA [] [0, 1] rfl rfl rfl 2 rfl (by decide +kernel) (fun H locs hP hD hS => ?_)
        refine lv_if_ne (tgt := 109) hx hb dX7_number_96 (by decide) (fun c11 => ?_) (fun c11 => ?_)
        · have hF := if_n hF c11
          exact J109 l3 o_position o_error o_errorAt o_numberStart H locs ls hP hD hS (lv_sub hl [0, 3] rfl) hF
        · have hF := if_p hF c11
          refine lv_aload_n hx hb dX7_number_99 rfl (lv_at hl 0 rfl) ?_
          refine lv_bipush (v := -3) hx hb dX7_number_100 (by decide) ?_
          refine lv_aload_n hx hb dX7_number_102 rfl (lv_at hl 0 rfl) ?_
          refine va_get (D := D) (ci := 7) (v := .int o_numberStart) (C := RX7) (T := TX7) (N := 19) hx hb hts f_inX7 hown hK hP 0 rfl rfl 13 (by decide) f_f93 (fun _ h9 => h9) rfl dX7_number_103 ?_
          obtain ⟨o12, o13, h14, hF⟩ := bn2_o hF
          refine kd_v [(q_o, .inr (7, [x_o_thrown, .ref q_o_buffer, x_o_bufferLength, .int o_textLength, .int o_position, .int o12, .int o13, x_o_errorOffset, x_o_data, x_o_draft, x_o_aside, x_o_history, x_o_undoDepth, .int o_numberStart, x_o_nesting, x_o_seen, x_o_toldPlanes, x_o_stack, x_o_facts])), (q_o_buffer, .inl (cy 0, 800, .inl o_buffer))] (va_runV (As := [.int (-3 : Int32), .int o_numberStart]) (rest := []) ⟨hx, hb, hml, hown, hts⟩ (c_X7_report q_o H.size x_o_thrown (.ref q_o_buffer) x_o_bufferLength (.int o_textLength) (.int o_position) x_o_errorOffset x_o_data x_o_draft x_o_aside x_o_history x_o_undoDepth (.int o_numberStart) x_o_nesting x_o_seen x_o_toldPlanes x_o_stack x_o_facts o_error o_errorAt (-3 : Int32) o_numberStart _ h14) (cwV 2 hts gX7_number_X7_report rfl rfl rfl kd_X7_report ⟨Nat.le_of_ble_eq_true rfl, Nat.le_of_ble_eq_true rfl⟩) ⟨kP_blind (EN_ok D cy) D _ _ _, va_recv hK hP (ci := 7) (q0 := 0) rfl rfl, kStart (EN_ok D cy) hE hP hD hS hA [0] rfl rfl _⟩ rfl rfl hl.1 rfl (lv_room (Nat.le_of_ble_eq_true rfl)) dX7_number_106 ⟨Nat.zero_le _, Nat.zero_le _⟩) hP hD hS hA [0] [1] rfl rfl rfl 2 rfl (by decide +kernel) (fun H locs hP hD hS => ?_)
          exact J109 l3 o_position o12 o13 o_numberStart H locs ls hP hD hS (lv_sub hl [0, 3] rfl) hF
      · have hF := if_n hF c8
        refine lv_ldc (v := 100000000) hx hb hown f_c96 dX7_number_55 ?_
        refine lv_bipush (v := 10) hx hb dX7_number_57 (by decide) ?_
        refine lv_iload_n hx hb dX7_number_59 rfl (lv_at hl 3 rfl) ?_
        refine lv_imul hx hb dX7_number_60 ?_
        refine lv_aload_n hx hb dX7_number_61 rfl (lv_at hl 0 rfl) ?_
        refine lv_aload_n hx hb dX7_number_62 rfl (lv_at hl 0 rfl) ?_
        refine va_get (D := D) (ci := 7) (v := .int o_position) (C := RX7) (T := TX7) (N := 19) hx hb hts f_inX7 hown hK hP 0 rfl rfl 4 (by decide) f_f51 (fun _ h9 => h9) rfl dX7_number_63 ?_
        obtain ⟨r15, h16, hF⟩ := bn1_o hF
        refine kd_i [(q_o, .inr (7, [x_o_thrown, .ref q_o_buffer, x_o_bufferLength, .int o_textLength, .int o_position, .int o_error, .int o_errorAt, x_o_errorOffset, x_o_data, x_o_draft, x_o_aside, x_o_history, x_o_undoDepth, .int o_numberStart, x_o_nesting, x_o_seen, x_o_toldPlanes, x_o_stack, x_o_facts])), (q_o_buffer, .inl (cy 0, 800, .inl o_buffer))] (va_runV (As := [.int o_position]) (rest := [.int ((10 : Int32) * l3), .int (100000000 : Int32)]) ⟨hx, hb, hml, hown, hts⟩ (c_X7_byteAt q_o q_o_buffer H.size x_o_thrown x_o_bufferLength (.int o_position) (.int o_error) (.int o_errorAt) x_o_errorOffset x_o_data x_o_draft x_o_aside x_o_history x_o_undoDepth (.int o_numberStart) x_o_nesting x_o_seen x_o_toldPlanes x_o_stack x_o_facts o_textLength o_buffer o_position _ h16) (cwV 1 hts gX7_number_X7_byteAt rfl rfl rfl kd_X7_byteAt ⟨Nat.le_of_ble_eq_true rfl, Nat.le_of_ble_eq_true rfl⟩) ⟨kP_blind (EN_ok D cy) D _ _ _, va_recv hK hP (ci := 7) (q0 := 0) rfl rfl, kStart (EN_ok D cy) hE hP hD hS hA [0, 1] rfl rfl _⟩ rfl rfl hl.1 rfl (lv_room (Nat.le_of_ble_eq_true rfl)) dX7_number_66 ⟨Nat.zero_le _, Nat.zero_le _⟩) hP hD hS hA [0, 1] [] rfl rfl rfl 2 rfl (by decide +kernel) (fun H locs hP hD hS => ?_)
        refine lv_iadd hx hb dX7_number_69 ?_
        refine lv_bipush (v := 48) hx hb dX7_number_70 (by decide) ?_
        refine lv_isub hx hb dX7_number_72 ?_
        obtain ⟨r17, h18, hF⟩ := bn1_o hF
        refine kd_i [(q_o, .inr (7, [x_o_thrown, .ref q_o_buffer, x_o_bufferLength, .int o_textLength, .int o_position, .int o_error, .int o_errorAt, x_o_errorOffset, x_o_data, x_o_draft, x_o_aside, x_o_history, x_o_undoDepth, .int o_numberStart, x_o_nesting, x_o_seen, x_o_toldPlanes, x_o_stack, x_o_facts])), (q_o_buffer, .inl (cy 0, 800, .inl o_buffer))] (va_runS (As := [.int (100000000 : Int32), .int ((((10 : Int32) * l3) + r15) - (48 : Int32))]) (rest := []) ⟨hx, hb, hml, hown, hts⟩ (c_X7_min H.size (100000000 : Int32) ((((10 : Int32) * l3) + r15) - (48 : Int32)) _ h18) (va_cwS 2 hts gX7_number_X7_min rfl rfl rfl kd_X7_min ⟨Nat.le_of_ble_eq_true rfl, Nat.le_of_ble_eq_true rfl⟩) ⟨kP_blind (EN_ok D cy) D _ _ _, kStart (EN_ok D cy) hE hP hD hS hA [] rfl rfl _⟩ rfl rfl hl.1 rfl (lv_room (Nat.le_of_ble_eq_true rfl)) dX7_number_73 ⟨Nat.zero_le _, Nat.zero_le _⟩) hP hD hS hA [] [0, 1] rfl rfl rfl 2 rfl (by decide +kernel) (fun H locs hP hD hS => ?_)
        refine lv_istore_n (lv' := [(3, .int r17), (0, .ref q_o), (1, .int p1), (2, .int p2)]) hx hb dX7_number_76 rfl hl (by decide) rfl (fun ls hl => ?_)
        refine lv_aload_n hx hb dX7_number_77 rfl (lv_at hl 1 rfl) ?_
        refine lv_dup hx hb dX7_number_78 rfl ?_
        refine va_get (D := D) (ci := 7) (v := .int o_position) (C := RX7) (T := TX7) (N := 19) hx hb hts f_inX7 hown hK hP 0 rfl rfl 4 (by decide) f_f51 (fun _ h9 => h9) rfl dX7_number_79 ?_
        refine lv_iconst (v := 1) hx hb dX7_number_82 (by decide) ?_
        refine lv_iadd hx hb dX7_number_83 ?_
        refine lv_topi (fun v19 ev19 => ?_)
        have hF := nm_o hF v19 ev19
        refine va_put (D := D) (ci := 7) (v := .int v19) (ty := .int) (C := RX7) (T := TX7) (N := 19) hx hb hts f_inX7 tyX7 tyX7_ok nmX7 hown hK hP hD hS 0 rfl rfl 4 (by decide) f_f51 (fun _ h9 => h9) rfl (by decide +kernel) rfl rfl (Nat.le_of_ble_eq_true rfl) dX7_number_84 (fun H locs hP hD hS => ?_)
        have hP : va_P D vwCl [(q_o, .inr (7, [x_o_thrown, .ref q_o_buffer, x_o_bufferLength, .int o_textLength, .int v19, .int o_error, .int o_errorAt, x_o_errorOffset, x_o_data, x_o_draft, x_o_aside, x_o_history, x_o_undoDepth, .int o_numberStart, x_o_nesting, x_o_seen, x_o_toldPlanes, x_o_stack, x_o_facts])), (q_o_buffer, .inl (cy 0, 800, .inl o_buffer))] H := hP
        have hD : va_D A [(q_o, .inr (7, [x_o_thrown, .ref q_o_buffer, x_o_bufferLength, .int o_textLength, .int v19, .int o_error, .int o_errorAt, x_o_errorOffset, x_o_data, x_o_draft, x_o_aside, x_o_history, x_o_undoDepth, .int o_numberStart, x_o_nesting, x_o_seen, x_o_toldPlanes, x_o_stack, x_o_facts])), (q_o_buffer, .inl (cy 0, 800, .inl o_buffer))] := hD
        refine lv_goto (tgt := 41) hx hb dX7_number_87 (by decide) ?_
        exact ih41 r17 v19 o_numberStart H locs ls hP hD hS (lv_sub hl [1, 2, 3, 0] rfl) hF
  have main : ∀ (H : Heap) (locs : List Loc) (ls : Array Slot), va_P D vwCl [(q_o, .inr (7, [x_o_thrown, .ref q_o_buffer, x_o_bufferLength, .int o_textLength, .int o_position, .int o_error, .int o_errorAt, x_o_errorOffset, x_o_data, x_o_draft, x_o_aside, x_o_history, x_o_undoDepth, .int o_numberStart, x_o_nesting, x_o_seen, x_o_toldPlanes, x_o_stack, x_o_facts])), (q_o_buffer, .inl (cy 0, 800, .inl o_buffer))] H → va_D A [(q_o, .inr (7, [x_o_thrown, .ref q_o_buffer, x_o_bufferLength, .int o_textLength, .int o_position, .int o_error, .int o_errorAt, x_o_errorOffset, x_o_data, x_o_draft, x_o_aside, x_o_history, x_o_undoDepth, .int o_numberStart, x_o_nesting, x_o_seen, x_o_toldPlanes, x_o_stack, x_o_facts])), (q_o_buffer, .inl (cy 0, 800, .inl o_buffer))] → va_S A s.heap H locs → lv_has ls 4 [(0, .ref q_o), (1, .int p1), (2, .int p2)] → W p l e ({ frames := 2, cells := 0, slots := 0, locals := 42 } : Room) s m args below meth c H locs 0 0 QQ (F0 m 0 ls []) := by
    intro H locs ls hP hD hS hl
    unfold X7_number at hF
    refine lv_aload_n hx hb dX7_number_0 rfl (lv_at hl 0 rfl) ?_
    obtain ⟨r20, h21, hF⟩ := bn1_o hF
    refine kd_i [(q_o, .inr (7, [x_o_thrown, .ref q_o_buffer, x_o_bufferLength, .int o_textLength, .int o_position, .int o_error, .int o_errorAt, x_o_errorOffset, x_o_data, x_o_draft, x_o_aside, x_o_history, x_o_undoDepth, .int o_numberStart, x_o_nesting, x_o_seen, x_o_toldPlanes, x_o_stack, x_o_facts])), (q_o_buffer, .inl (cy 0, 800, .inl o_buffer))] (va_runV (As := []) (rest := []) ⟨hx, hb, hml, hown, hts⟩ (c_X7_isGood q_o H.size x_o_thrown (.ref q_o_buffer) x_o_bufferLength (.int o_textLength) (.int o_position) (.int o_errorAt) x_o_errorOffset x_o_data x_o_draft x_o_aside x_o_history x_o_undoDepth (.int o_numberStart) x_o_nesting x_o_seen x_o_toldPlanes x_o_stack x_o_facts o_error _ h21) (cwV 0 hts gX7_number_X7_isGood rfl rfl rfl kd_X7_isGood ⟨Nat.le_of_ble_eq_true rfl, Nat.le_of_ble_eq_true rfl⟩) ⟨kP_blind (EN_ok D cy) D _ _ _, va_recv hK hP (ci := 7) (q0 := 0) rfl rfl, kStart (EN_ok D cy) hE hP hD hS hA [0] rfl rfl _⟩ rfl rfl hl.1 rfl (lv_room (Nat.le_of_ble_eq_true rfl)) dX7_number_1 ⟨Nat.zero_le _, Nat.zero_le _⟩) hP hD hS hA [0] [1] rfl rfl rfl 2 rfl (by decide +kernel) (fun H locs hP hD hS => ?_)
    refine lv_if_ne (tgt := 9) hx hb dX7_number_4 (by decide) (fun c22 => ?_) (fun c22 => ?_)
    · have hF := if_n hF c22
      refine lv_aload_n hx hb dX7_number_9 rfl (lv_at hl 0 rfl) ?_
      obtain ⟨r23, o24, h25, hF⟩ := bn2_o hF
      refine kd_i [(q_o, .inr (7, [x_o_thrown, .ref q_o_buffer, x_o_bufferLength, .int o_textLength, .int o24, .int o_error, .int o_errorAt, x_o_errorOffset, x_o_data, x_o_draft, x_o_aside, x_o_history, x_o_undoDepth, .int o_numberStart, x_o_nesting, x_o_seen, x_o_toldPlanes, x_o_stack, x_o_facts])), (q_o_buffer, .inl (cy 0, 800, .inl o_buffer))] (va_runV (As := []) (rest := []) ⟨hx, hb, hml, hown, hts⟩ (c_X7_ahead q_o q_o_buffer H.size x_o_thrown x_o_bufferLength (.int o_error) (.int o_errorAt) x_o_errorOffset x_o_data x_o_draft x_o_aside x_o_history x_o_undoDepth (.int o_numberStart) x_o_nesting x_o_seen x_o_toldPlanes x_o_stack x_o_facts o_textLength o_position o_buffer _ h25) (cwV 0 hts gX7_number_X7_ahead rfl rfl rfl kd_X7_ahead ⟨Nat.le_of_ble_eq_true rfl, Nat.le_of_ble_eq_true rfl⟩) ⟨kP_blind (EN_ok D cy) D _ _ _, va_recv hK hP (ci := 7) (q0 := 0) rfl rfl, kStart (EN_ok D cy) hE hP hD hS hA [0, 1] rfl rfl _⟩ rfl rfl hl.1 rfl (lv_room (Nat.le_of_ble_eq_true rfl)) dX7_number_10 ⟨Nat.zero_le _, Nat.zero_le _⟩) hP hD hS hA [0, 1] [] rfl rfl rfl 2 rfl (by decide +kernel) (fun H locs hP hD hS => ?_)
      obtain ⟨r26, h27, hF⟩ := bn1_o hF
      refine kd_i [(q_o, .inr (7, [x_o_thrown, .ref q_o_buffer, x_o_bufferLength, .int o_textLength, .int o24, .int o_error, .int o_errorAt, x_o_errorOffset, x_o_data, x_o_draft, x_o_aside, x_o_history, x_o_undoDepth, .int o_numberStart, x_o_nesting, x_o_seen, x_o_toldPlanes, x_o_stack, x_o_facts])), (q_o_buffer, .inl (cy 0, 800, .inl o_buffer))] (va_runS (As := [.int r23]) (rest := []) ⟨hx, hb, hml, hown, hts⟩ (c_X7_isDigit H.size r23 _ h27) (va_cwS 1 hts gX7_number_X7_isDigit rfl rfl rfl kd_X7_isDigit ⟨Nat.le_of_ble_eq_true rfl, Nat.le_of_ble_eq_true rfl⟩) ⟨kP_blind (EN_ok D cy) D _ _ _, kStart (EN_ok D cy) hE hP hD hS hA [] rfl rfl _⟩ rfl rfl hl.1 rfl (lv_room (Nat.le_of_ble_eq_true rfl)) dX7_number_13 ⟨Nat.zero_le _, Nat.zero_le _⟩) hP hD hS hA [] [0, 1] rfl rfl rfl 2 rfl (by decide +kernel) (fun H locs hP hD hS => ?_)
      refine lv_if_ne (tgt := 31) hx hb dX7_number_16 (by decide) (fun c28 => ?_) (fun c28 => ?_)
      · have hF := if_n hF c28
        refine lv_aload_n hx hb dX7_number_31 rfl (lv_at hl 0 rfl) ?_
        refine lv_aload_n hx hb dX7_number_32 rfl (lv_at hl 0 rfl) ?_
        refine va_get (D := D) (ci := 7) (v := .int o24) (C := RX7) (T := TX7) (N := 19) hx hb hts f_inX7 hown hK hP 0 rfl rfl 4 (by decide) f_f51 (fun _ h9 => h9) rfl dX7_number_33 ?_
        refine va_put (D := D) (ci := 7) (v := .int o24) (ty := .int) (C := RX7) (T := TX7) (N := 19) hx hb hts f_inX7 tyX7 tyX7_ok nmX7 hown hK hP hD hS 0 rfl rfl 13 (by decide) f_f93 (fun _ h9 => h9) rfl (by decide +kernel) rfl rfl (Nat.le_of_ble_eq_true rfl) dX7_number_36 (fun H locs hP hD hS => ?_)
        have hP : va_P D vwCl [(q_o, .inr (7, [x_o_thrown, .ref q_o_buffer, x_o_bufferLength, .int o_textLength, .int o24, .int o_error, .int o_errorAt, x_o_errorOffset, x_o_data, x_o_draft, x_o_aside, x_o_history, x_o_undoDepth, .int o24, x_o_nesting, x_o_seen, x_o_toldPlanes, x_o_stack, x_o_facts])), (q_o_buffer, .inl (cy 0, 800, .inl o_buffer))] H := hP
        have hD : va_D A [(q_o, .inr (7, [x_o_thrown, .ref q_o_buffer, x_o_bufferLength, .int o_textLength, .int o24, .int o_error, .int o_errorAt, x_o_errorOffset, x_o_data, x_o_draft, x_o_aside, x_o_history, x_o_undoDepth, .int o24, x_o_nesting, x_o_seen, x_o_toldPlanes, x_o_stack, x_o_facts])), (q_o_buffer, .inl (cy 0, 800, .inl o_buffer))] := hD
        refine lv_iconst (v := 0) hx hb dX7_number_39 (by decide) ?_
        refine lv_istore_n (lv' := [(3, .int (0 : Int32)), (0, .ref q_o), (1, .int p1), (2, .int p2)]) hx hb dX7_number_40 rfl hl (by decide) rfl (fun ls hl => ?_)
        exact J41 FU (0 : Int32) o24 o24 H locs ls hP hD hS (lv_sub hl [1, 2, 3, 0] rfl) hF
      · have hF := if_p hF c28
        refine lv_aload_n hx hb dX7_number_19 rfl (lv_at hl 0 rfl) ?_
        refine lv_bipush (v := -2) hx hb dX7_number_20 (by decide) ?_
        refine lv_aload_n hx hb dX7_number_22 rfl (lv_at hl 0 rfl) ?_
        refine va_get (D := D) (ci := 7) (v := .int o24) (C := RX7) (T := TX7) (N := 19) hx hb hts f_inX7 hown hK hP 0 rfl rfl 4 (by decide) f_f51 (fun _ h9 => h9) rfl dX7_number_23 ?_
        obtain ⟨o29, o30, h31, hF⟩ := bn2_o hF
        refine kd_v [(q_o, .inr (7, [x_o_thrown, .ref q_o_buffer, x_o_bufferLength, .int o_textLength, .int o24, .int o29, .int o30, x_o_errorOffset, x_o_data, x_o_draft, x_o_aside, x_o_history, x_o_undoDepth, .int o_numberStart, x_o_nesting, x_o_seen, x_o_toldPlanes, x_o_stack, x_o_facts])), (q_o_buffer, .inl (cy 0, 800, .inl o_buffer))] (va_runV (As := [.int (-2 : Int32), .int o24]) (rest := []) ⟨hx, hb, hml, hown, hts⟩ (c_X7_report q_o H.size x_o_thrown (.ref q_o_buffer) x_o_bufferLength (.int o_textLength) (.int o24) x_o_errorOffset x_o_data x_o_draft x_o_aside x_o_history x_o_undoDepth (.int o_numberStart) x_o_nesting x_o_seen x_o_toldPlanes x_o_stack x_o_facts o_error o_errorAt (-2 : Int32) o24 _ h31) (cwV 2 hts gX7_number_X7_report rfl rfl rfl kd_X7_report ⟨Nat.le_of_ble_eq_true rfl, Nat.le_of_ble_eq_true rfl⟩) ⟨kP_blind (EN_ok D cy) D _ _ _, va_recv hK hP (ci := 7) (q0 := 0) rfl rfl, kStart (EN_ok D cy) hE hP hD hS hA [0] rfl rfl _⟩ rfl rfl hl.1 rfl (lv_room (Nat.le_of_ble_eq_true rfl)) dX7_number_26 ⟨Nat.zero_le _, Nat.zero_le _⟩) hP hD hS hA [0] [1] rfl rfl rfl 2 rfl (by decide +kernel) (fun H locs hP hD hS => ?_)
        refine lv_iconst (v := 0) hx hb dX7_number_29 (by decide) ?_
        obtain rfl := so_o hF
        rw [hQQ]
        exact kr_i hx hb hr hlocks hP hD hS dX7_number_30
    · have hF := if_p hF c22
      refine lv_iconst (v := 0) hx hb dX7_number_7 (by decide) ?_
      obtain rfl := so_o hF
      rw [hQQ]
      exact kr_i hx hb hr hlocks hP hD hS dX7_number_8
  exact main s.heap [] ls hP hD hS hl
theorem kd_X7_emit : yX7_emit.cls = RX7 ∧ yX7_emit.cls ≠ "java/lang/invoke/MethodHandle" ∧ yX7_emit.cls ≠ "java/lang/invoke/VarHandle" ∧ (parseMethodDescriptor yX7_emit.desc).map (fun d => d.parameters.length) = some 1 := by decide +kernel
set_option maxHeartbeats 4000000 in
set_option maxRecDepth 100000 in
theorem c_X7_emit {l : Launch} {D : va_G} {cy : Nat → ClassId} (q_o q_o_draft : Nat) (sz : Nat) (x_o_thrown x_o_buffer x_o_bufferLength x_o_textLength x_o_position x_o_errorAt x_o_errorOffset x_o_data x_o_aside x_o_history x_o_undoDepth x_o_numberStart x_o_nesting x_o_seen x_o_toldPlanes x_o_stack x_o_facts : Value) (o_error : Int32) (o_draft : Nat → Int32) (p1 : Int32) (res : (Nat → Int32)) (hF : X7_emit o_error o_draft p1 = some res) : Met l yX7_emit wsX7_emit ({ frames := 1, cells := 0, slots := 0, locals := 20 } : Room) (kP (EN D cy) D [.ref q_o, .int p1] [(q_o, .inr (7, [x_o_thrown, x_o_buffer, x_o_bufferLength, x_o_textLength, x_o_position, .int o_error, x_o_errorAt, x_o_errorOffset, x_o_data, .ref q_o_draft, x_o_aside, x_o_history, x_o_undoDepth, x_o_numberStart, x_o_nesting, x_o_seen, x_o_toldPlanes, x_o_stack, x_o_facts])), (q_o_draft, .inl (cy 0, 2243, .inl o_draft))] sz) (kQv D [(q_o, .inr (7, [x_o_thrown, x_o_buffer, x_o_bufferLength, x_o_textLength, x_o_position, .int o_error, x_o_errorAt, x_o_errorOffset, x_o_data, .ref q_o_draft, x_o_aside, x_o_history, x_o_undoDepth, x_o_numberStart, x_o_nesting, x_o_seen, x_o_toldPlanes, x_o_stack, x_o_facts])), (q_o_draft, .inl (cy 0, 2243, .inl res))] (va_A [(q_o, .inr (7, [x_o_thrown, x_o_buffer, x_o_bufferLength, x_o_textLength, x_o_position, .int o_error, x_o_errorAt, x_o_errorOffset, x_o_data, .ref q_o_draft, x_o_aside, x_o_history, x_o_undoDepth, x_o_numberStart, x_o_nesting, x_o_seen, x_o_toldPlanes, x_o_stack, x_o_facts])), (q_o_draft, .inl (cy 0, 2243, .inl o_draft))] sz)) 0 0 (va_A [(q_o, .inr (7, [x_o_thrown, x_o_buffer, x_o_bufferLength, x_o_textLength, x_o_position, .int o_error, x_o_errorAt, x_o_errorOffset, x_o_data, .ref q_o_draft, x_o_aside, x_o_history, x_o_undoDepth, x_o_numberStart, x_o_nesting, x_o_seen, x_o_toldPlanes, x_o_stack, x_o_facts])), (q_o_draft, .inl (cy 0, 2243, .inl o_draft))] sz) := by
  refine kMet (y := yX7_emit) (av := [.ref q_o, .int p1]) (cc := cX7_emit) (maxL := 2) (ret := none) (own := RX7) (Qc := fun A9 => (kQv D [(q_o, .inr (7, [x_o_thrown, x_o_buffer, x_o_bufferLength, x_o_textLength, x_o_position, .int o_error, x_o_errorAt, x_o_errorOffset, x_o_data, .ref q_o_draft, x_o_aside, x_o_history, x_o_undoDepth, x_o_numberStart, x_o_nesting, x_o_seen, x_o_toldPlanes, x_o_stack, x_o_facts])), (q_o_draft, .inl (cy 0, 2243, .inl res))] A9)) (by decide) rfl rfl (Nat.le_of_ble_eq_true rfl) ?_
  intro p e s m args below meth c A hx hb hr hts hown hml hlocks hname hE hP hD hA hsz ls hl
  have hK := hE.1
  have hl : lv_has ls 2 [(0, .ref q_o), (1, .int p1)] := hl
  have hS : va_S A s.heap s.heap [] := va_S.rf
  have f_f20 := hts (.fieldLink RX7 20 "PeepBoxModel" "draft" "[I") (by decide +kernel)
  have f_inX7 : ∀ w ∈ wsX70, w ∈ wsX7_emit := by decide +kernel
  obtain ⟨QQ, hQQ⟩ : ∃ Q9, Q9 = MQ below (kQv D [(q_o, .inr (7, [x_o_thrown, x_o_buffer, x_o_bufferLength, x_o_textLength, x_o_position, .int o_error, x_o_errorAt, x_o_errorOffset, x_o_data, .ref q_o_draft, x_o_aside, x_o_history, x_o_undoDepth, x_o_numberStart, x_o_nesting, x_o_seen, x_o_toldPlanes, x_o_stack, x_o_facts])), (q_o_draft, .inl (cy 0, 2243, .inl res))] A) args s 0 0 A := ⟨_, rfl⟩
  rw [← hQQ]
  have main : ∀ (H : Heap) (locs : List Loc) (ls : Array Slot), va_P D vwCl [(q_o, .inr (7, [x_o_thrown, x_o_buffer, x_o_bufferLength, x_o_textLength, x_o_position, .int o_error, x_o_errorAt, x_o_errorOffset, x_o_data, .ref q_o_draft, x_o_aside, x_o_history, x_o_undoDepth, x_o_numberStart, x_o_nesting, x_o_seen, x_o_toldPlanes, x_o_stack, x_o_facts])), (q_o_draft, .inl (cy 0, 2243, .inl o_draft))] H → va_D A [(q_o, .inr (7, [x_o_thrown, x_o_buffer, x_o_bufferLength, x_o_textLength, x_o_position, .int o_error, x_o_errorAt, x_o_errorOffset, x_o_data, .ref q_o_draft, x_o_aside, x_o_history, x_o_undoDepth, x_o_numberStart, x_o_nesting, x_o_seen, x_o_toldPlanes, x_o_stack, x_o_facts])), (q_o_draft, .inl (cy 0, 2243, .inl o_draft))] → va_S A s.heap H locs → lv_has ls 2 [(0, .ref q_o), (1, .int p1)] → W p l e ({ frames := 1, cells := 0, slots := 0, locals := 20 } : Room) s m args below meth c H locs 0 0 QQ (F0 m 0 ls []) := by
    intro H locs ls hP hD hS hl
    unfold X7_emit at hF
    refine lv_aload_n hx hb dX7_emit_0 rfl (lv_at hl 0 rfl) ?_
    obtain ⟨r1, h2, hF⟩ := bn1_o hF
    refine kd_i [(q_o, .inr (7, [x_o_thrown, x_o_buffer, x_o_bufferLength, x_o_textLength, x_o_position, .int o_error, x_o_errorAt, x_o_errorOffset, x_o_data, .ref q_o_draft, x_o_aside, x_o_history, x_o_undoDepth, x_o_numberStart, x_o_nesting, x_o_seen, x_o_toldPlanes, x_o_stack, x_o_facts])), (q_o_draft, .inl (cy 0, 2243, .inl o_draft))] (va_runV (As := []) (rest := []) ⟨hx, hb, hml, hown, hts⟩ (c_X7_isGood q_o H.size x_o_thrown x_o_buffer x_o_bufferLength x_o_textLength x_o_position x_o_errorAt x_o_errorOffset x_o_data (.ref q_o_draft) x_o_aside x_o_history x_o_undoDepth x_o_numberStart x_o_nesting x_o_seen x_o_toldPlanes x_o_stack x_o_facts o_error _ h2) (cwV 0 hts gX7_emit_X7_isGood rfl rfl rfl kd_X7_isGood ⟨Nat.le_of_ble_eq_true rfl, Nat.le_of_ble_eq_true rfl⟩) ⟨kP_blind (EN_ok D cy) D _ _ _, va_recv hK hP (ci := 7) (q0 := 0) rfl rfl, kStart (EN_ok D cy) hE hP hD hS hA [0] rfl rfl _⟩ rfl rfl hl.1 rfl (lv_room (Nat.le_of_ble_eq_true rfl)) dX7_emit_1 ⟨Nat.zero_le _, Nat.zero_le _⟩) hP hD hS hA [0] [1] rfl rfl rfl 2 rfl (by decide +kernel) (fun H locs hP hD hS => ?_)
    refine lv_if_ne (tgt := 8) hx hb dX7_emit_4 (by decide) (fun c3 => ?_) (fun c3 => ?_)
    · have hF := if_n hF c3
      refine lv_aload_n hx hb dX7_emit_8 rfl (lv_at hl 0 rfl) ?_
      refine va_get (D := D) (ci := 7) (v := .ref q_o_draft) (C := RX7) (T := TX7) (N := 19) hx hb hts f_inX7 hown hK hP 0 rfl rfl 9 (by decide) f_f20 (fun _ h9 => h9) rfl dX7_emit_9 ?_
      refine lv_sipush (v := 643) hx hb dX7_emit_12 (by decide) ?_
      refine lv_aload_n hx hb dX7_emit_15 rfl (lv_at hl 0 rfl) ?_
      refine va_get (D := D) (ci := 7) (v := .ref q_o_draft) (C := RX7) (T := TX7) (N := 19) hx hb hts f_inX7 hown hK hP 0 rfl rfl 9 (by decide) f_f20 (fun _ h9 => h9) rfl dX7_emit_16 ?_
      refine lv_bipush (v := 9) hx hb dX7_emit_19 (by decide) ?_
      obtain ⟨h4, hF⟩ := ld_o hF
      refine va_iald hx hb hK hP 1 0 rfl rfl h4 dX7_emit_21 ?_
      refine lv_topi (fun v5 ev5 => ?_)
      have hF := hF v5 ev5
      refine lv_iadd hx hb dX7_emit_22 ?_
      refine lv_iload_n hx hb dX7_emit_23 rfl (lv_at hl 1 rfl) ?_
      obtain ⟨h6, hF⟩ := st_o hF
      refine va_iast hx hb hK hP hD hS 1 0 rfl rfl h6 dX7_emit_24 (fun H locs hP hD hS => ?_)
      obtain ⟨b7, eb7⟩ : ∃ y : Nat → Int32, y = (upd o_draft ((643 : Int32) + v5).toNatClampNeg p1) := ⟨_, rfl⟩
      have hF := hF b7 eb7
      have hP : va_P D vwCl [(q_o, .inr (7, [x_o_thrown, x_o_buffer, x_o_bufferLength, x_o_textLength, x_o_position, .int o_error, x_o_errorAt, x_o_errorOffset, x_o_data, .ref q_o_draft, x_o_aside, x_o_history, x_o_undoDepth, x_o_numberStart, x_o_nesting, x_o_seen, x_o_toldPlanes, x_o_stack, x_o_facts])), (q_o_draft, .inl (cy 0, 2243, .inl b7))] H := by rw [eb7]; exact hP
      have hD : va_D A [(q_o, .inr (7, [x_o_thrown, x_o_buffer, x_o_bufferLength, x_o_textLength, x_o_position, .int o_error, x_o_errorAt, x_o_errorOffset, x_o_data, .ref q_o_draft, x_o_aside, x_o_history, x_o_undoDepth, x_o_numberStart, x_o_nesting, x_o_seen, x_o_toldPlanes, x_o_stack, x_o_facts])), (q_o_draft, .inl (cy 0, 2243, .inl b7))] := by rw [eb7]; exact hD
      refine lv_aload_n hx hb dX7_emit_25 rfl (lv_at hl 0 rfl) ?_
      refine va_get (D := D) (ci := 7) (v := .ref q_o_draft) (C := RX7) (T := TX7) (N := 19) hx hb hts f_inX7 hown hK hP 0 rfl rfl 9 (by decide) f_f20 (fun _ h9 => h9) rfl dX7_emit_26 ?_
      refine lv_bipush (v := 9) hx hb dX7_emit_29 (by decide) ?_
      refine lv_dup2_11 hx hb dX7_emit_31 rfl rfl ?_
      obtain ⟨h8, hF⟩ := ld_o hF
      refine va_iald hx hb hK hP 1 0 rfl rfl h8 dX7_emit_32 ?_
      refine lv_topi (fun v9 ev9 => ?_)
      have hF := hF v9 ev9
      refine lv_iconst (v := 1) hx hb dX7_emit_33 (by decide) ?_
      refine lv_iadd hx hb dX7_emit_34 ?_
      obtain ⟨h10, hF⟩ := st_o hF
      refine va_iast hx hb hK hP hD hS 1 0 rfl rfl h10 dX7_emit_35 (fun H locs hP hD hS => ?_)
      obtain ⟨b11, eb11⟩ : ∃ y : Nat → Int32, y = (upd b7 (9 : Int32).toNatClampNeg (v9 + (1 : Int32))) := ⟨_, rfl⟩
      have hF := hF b11 eb11
      have hP : va_P D vwCl [(q_o, .inr (7, [x_o_thrown, x_o_buffer, x_o_bufferLength, x_o_textLength, x_o_position, .int o_error, x_o_errorAt, x_o_errorOffset, x_o_data, .ref q_o_draft, x_o_aside, x_o_history, x_o_undoDepth, x_o_numberStart, x_o_nesting, x_o_seen, x_o_toldPlanes, x_o_stack, x_o_facts])), (q_o_draft, .inl (cy 0, 2243, .inl b11))] H := by rw [eb11]; exact hP
      have hD : va_D A [(q_o, .inr (7, [x_o_thrown, x_o_buffer, x_o_bufferLength, x_o_textLength, x_o_position, .int o_error, x_o_errorAt, x_o_errorOffset, x_o_data, .ref q_o_draft, x_o_aside, x_o_history, x_o_undoDepth, x_o_numberStart, x_o_nesting, x_o_seen, x_o_toldPlanes, x_o_stack, x_o_facts])), (q_o_draft, .inl (cy 0, 2243, .inl b11))] := by rw [eb11]; exact hD
      obtain rfl := so_o hF
      rw [hQQ]
      exact kr_v hx hb hr hlocks hP hD hS dX7_emit_36
    · have hF := if_p hF c3
      obtain rfl := so_o hF
      rw [hQQ]
      exact kr_v hx hb hr hlocks hP hD hS dX7_emit_7
  exact main s.heap [] ls hP hD hS hl
theorem kd_X7_factor : yX7_factor.cls = RX7 ∧ yX7_factor.cls ≠ "java/lang/invoke/MethodHandle" ∧ yX7_factor.cls ≠ "java/lang/invoke/VarHandle" ∧ (parseMethodDescriptor yX7_factor.desc).map (fun d => d.parameters.length) = some 0 := by decide +kernel
theorem kd_X7_term : yX7_term.cls = RX7 ∧ yX7_term.cls ≠ "java/lang/invoke/MethodHandle" ∧ yX7_term.cls ≠ "java/lang/invoke/VarHandle" ∧ (parseMethodDescriptor yX7_term.desc).map (fun d => d.parameters.length) = some 0 := by decide +kernel
theorem kd_X7_readSum : yX7_readSum.cls = RX7 ∧ yX7_readSum.cls ≠ "java/lang/invoke/MethodHandle" ∧ yX7_readSum.cls ≠ "java/lang/invoke/VarHandle" ∧ (parseMethodDescriptor yX7_readSum.desc).map (fun d => d.parameters.length) = some 0 := by decide +kernel
set_option maxHeartbeats 4000000 in
set_option maxRecDepth 100000 in
theorem c_X7_factor {l : Launch} {D : va_G} {cy : Nat → ClassId} (fr lo : Nat) (rs : Int32 → Int32 → Int32 → Int32 → Int32 → Int32 → (Nat → Int32) → (Nat → Int32) → Option (Int32 × Int32 × Int32 × Int32 × Int32 × (Nat → Int32))) (hrs : ∀ (q_o q_o_buffer q_o_draft : Nat) (sz : Nat) (x_o_thrown x_o_bufferLength x_o_errorOffset x_o_data x_o_aside x_o_history x_o_undoDepth x_o_seen x_o_toldPlanes x_o_stack x_o_facts : Value) (o_textLength : Int32) (o_position : Int32) (o_error : Int32) (o_errorAt : Int32) (o_numberStart : Int32) (o_nesting : Int32) (o_buffer : Nat → Int32) (o_draft : Nat → Int32) (res : Int32 × Int32 × Int32 × Int32 × Int32 × (Nat → Int32)), rs o_textLength o_position o_error o_errorAt o_numberStart o_nesting o_buffer o_draft = some res → Met l yX7_readSum wsX7_readSum ({ frames := fr, cells := 0, slots := 0, locals := lo } : Room) (kP (EN D cy) D [.ref q_o] [(q_o, .inr (7, [x_o_thrown, .ref q_o_buffer, x_o_bufferLength, .int o_textLength, .int o_position, .int o_error, .int o_errorAt, x_o_errorOffset, x_o_data, .ref q_o_draft, x_o_aside, x_o_history, x_o_undoDepth, .int o_numberStart, .int o_nesting, x_o_seen, x_o_toldPlanes, x_o_stack, x_o_facts])), (q_o_buffer, .inl (cy 0, 800, .inl o_buffer)), (q_o_draft, .inl (cy 0, 2243, .inl o_draft))] sz) (kQv D [(q_o, .inr (7, [x_o_thrown, .ref q_o_buffer, x_o_bufferLength, .int o_textLength, .int res.1, .int res.2.1, .int res.2.2.1, x_o_errorOffset, x_o_data, .ref q_o_draft, x_o_aside, x_o_history, x_o_undoDepth, .int res.2.2.2.1, .int res.2.2.2.2.1, x_o_seen, x_o_toldPlanes, x_o_stack, x_o_facts])), (q_o_buffer, .inl (cy 0, 800, .inl o_buffer)), (q_o_draft, .inl (cy 0, 2243, .inl res.2.2.2.2.2))] (va_A [(q_o, .inr (7, [x_o_thrown, .ref q_o_buffer, x_o_bufferLength, .int o_textLength, .int o_position, .int o_error, .int o_errorAt, x_o_errorOffset, x_o_data, .ref q_o_draft, x_o_aside, x_o_history, x_o_undoDepth, .int o_numberStart, .int o_nesting, x_o_seen, x_o_toldPlanes, x_o_stack, x_o_facts])), (q_o_buffer, .inl (cy 0, 800, .inl o_buffer)), (q_o_draft, .inl (cy 0, 2243, .inl o_draft))] sz)) 0 0 (va_A [(q_o, .inr (7, [x_o_thrown, .ref q_o_buffer, x_o_bufferLength, .int o_textLength, .int o_position, .int o_error, .int o_errorAt, x_o_errorOffset, x_o_data, .ref q_o_draft, x_o_aside, x_o_history, x_o_undoDepth, .int o_numberStart, .int o_nesting, x_o_seen, x_o_toldPlanes, x_o_stack, x_o_facts])), (q_o_buffer, .inl (cy 0, 800, .inl o_buffer)), (q_o_draft, .inl (cy 0, 2243, .inl o_draft))] sz)) (q_o q_o_buffer q_o_draft : Nat) (sz : Nat) (x_o_thrown x_o_bufferLength x_o_errorOffset x_o_data x_o_aside x_o_history x_o_undoDepth x_o_seen x_o_toldPlanes x_o_stack x_o_facts : Value) (o_textLength : Int32) (o_position : Int32) (o_error : Int32) (o_errorAt : Int32) (o_numberStart : Int32) (o_nesting : Int32) (o_buffer : Nat → Int32) (o_draft : Nat → Int32) (res : Int32 × Int32 × Int32 × Int32 × Int32 × (Nat → Int32)) (hF : X7_factor rs o_textLength o_position o_error o_errorAt o_numberStart o_nesting o_buffer o_draft = some res) : Met l yX7_factor wsX7_factor ({ frames := fr + 5, cells := 0, slots := 0, locals := lo + 123 } : Room) (kP (EN D cy) D [.ref q_o] [(q_o, .inr (7, [x_o_thrown, .ref q_o_buffer, x_o_bufferLength, .int o_textLength, .int o_position, .int o_error, .int o_errorAt, x_o_errorOffset, x_o_data, .ref q_o_draft, x_o_aside, x_o_history, x_o_undoDepth, .int o_numberStart, .int o_nesting, x_o_seen, x_o_toldPlanes, x_o_stack, x_o_facts])), (q_o_buffer, .inl (cy 0, 800, .inl o_buffer)), (q_o_draft, .inl (cy 0, 2243, .inl o_draft))] sz) (kQv D [(q_o, .inr (7, [x_o_thrown, .ref q_o_buffer, x_o_bufferLength, .int o_textLength, .int res.1, .int res.2.1, .int res.2.2.1, x_o_errorOffset, x_o_data, .ref q_o_draft, x_o_aside, x_o_history, x_o_undoDepth, .int res.2.2.2.1, .int res.2.2.2.2.1, x_o_seen, x_o_toldPlanes, x_o_stack, x_o_facts])), (q_o_buffer, .inl (cy 0, 800, .inl o_buffer)), (q_o_draft, .inl (cy 0, 2243, .inl res.2.2.2.2.2))] (va_A [(q_o, .inr (7, [x_o_thrown, .ref q_o_buffer, x_o_bufferLength, .int o_textLength, .int o_position, .int o_error, .int o_errorAt, x_o_errorOffset, x_o_data, .ref q_o_draft, x_o_aside, x_o_history, x_o_undoDepth, .int o_numberStart, .int o_nesting, x_o_seen, x_o_toldPlanes, x_o_stack, x_o_facts])), (q_o_buffer, .inl (cy 0, 800, .inl o_buffer)), (q_o_draft, .inl (cy 0, 2243, .inl o_draft))] sz)) 0 0 (va_A [(q_o, .inr (7, [x_o_thrown, .ref q_o_buffer, x_o_bufferLength, .int o_textLength, .int o_position, .int o_error, .int o_errorAt, x_o_errorOffset, x_o_data, .ref q_o_draft, x_o_aside, x_o_history, x_o_undoDepth, .int o_numberStart, .int o_nesting, x_o_seen, x_o_toldPlanes, x_o_stack, x_o_facts])), (q_o_buffer, .inl (cy 0, 800, .inl o_buffer)), (q_o_draft, .inl (cy 0, 2243, .inl o_draft))] sz) := by
  refine kMet (y := yX7_factor) (av := [.ref q_o]) (cc := cX7_factor) (maxL := 4) (ret := none) (own := RX7) (Qc := fun A9 => (kQv D [(q_o, .inr (7, [x_o_thrown, .ref q_o_buffer, x_o_bufferLength, .int o_textLength, .int res.1, .int res.2.1, .int res.2.2.1, x_o_errorOffset, x_o_data, .ref q_o_draft, x_o_aside, x_o_history, x_o_undoDepth, .int res.2.2.2.1, .int res.2.2.2.2.1, x_o_seen, x_o_toldPlanes, x_o_stack, x_o_facts])), (q_o_buffer, .inl (cy 0, 800, .inl o_buffer)), (q_o_draft, .inl (cy 0, 2243, .inl res.2.2.2.2.2))] A9)) (by decide) rfl rfl (Nat.le_of_ble_eq_true rfl) ?_
  intro p e s m args below meth c A hx hb hr hts hown hml hlocks hname hE hP hD hA hsz ls hl
  have hK := hE.1
  have hl : lv_has ls 4 [(0, .ref q_o)] := hl
  have hS : va_S A s.heap s.heap [] := va_S.rf
  have f_f51 := hts (.fieldLink RX7 51 "PeepBoxModel" "position" "I") (by decide +kernel)
  have f_inX7 : ∀ w ∈ wsX70, w ∈ wsX7_factor := by decide +kernel
  have f_f101 := hts (.fieldLink RX7 101 "PeepBoxModel" "nesting" "I") (by decide +kernel)
  obtain ⟨QQ, hQQ⟩ : ∃ Q9, Q9 = MQ below (kQv D [(q_o, .inr (7, [x_o_thrown, .ref q_o_buffer, x_o_bufferLength, .int o_textLength, .int res.1, .int res.2.1, .int res.2.2.1, x_o_errorOffset, x_o_data, .ref q_o_draft, x_o_aside, x_o_history, x_o_undoDepth, .int res.2.2.2.1, .int res.2.2.2.2.1, x_o_seen, x_o_toldPlanes, x_o_stack, x_o_facts])), (q_o_buffer, .inl (cy 0, 800, .inl o_buffer)), (q_o_draft, .inl (cy 0, 2243, .inl res.2.2.2.2.2))] A) args s 0 0 A := ⟨_, rfl⟩
  rw [← hQQ]
  have J170 : ∀ (l3 : Int32) (k1 : Int32) (o_position : Int32) (o_error : Int32) (o_errorAt : Int32) (o_numberStart : Int32) (H : Heap) (locs : List Loc) (ls : Array Slot), va_P D vwCl [(q_o, .inr (7, [x_o_thrown, .ref q_o_buffer, x_o_bufferLength, .int o_textLength, .int o_position, .int o_error, .int o_errorAt, x_o_errorOffset, x_o_data, .ref q_o_draft, x_o_aside, x_o_history, x_o_undoDepth, .int o_numberStart, .int o_nesting, x_o_seen, x_o_toldPlanes, x_o_stack, x_o_facts])), (q_o_buffer, .inl (cy 0, 800, .inl o_buffer)), (q_o_draft, .inl (cy 0, 2243, .inl o_draft))] H → va_D A [(q_o, .inr (7, [x_o_thrown, .ref q_o_buffer, x_o_bufferLength, .int o_textLength, .int o_position, .int o_error, .int o_errorAt, x_o_errorOffset, x_o_data, .ref q_o_draft, x_o_aside, x_o_history, x_o_undoDepth, .int o_numberStart, .int o_nesting, x_o_seen, x_o_toldPlanes, x_o_stack, x_o_facts])), (q_o_buffer, .inl (cy 0, 800, .inl o_buffer)), (q_o_draft, .inl (cy 0, 2243, .inl o_draft))] → va_S A s.heap H locs → lv_has ls 4 [(0, .ref q_o), (3, .int l3)] → X7_factor_J170 rs o_textLength o_nesting o_buffer o_draft l3 k1 o_position o_error o_errorAt o_numberStart = some res → W p l e ({ frames := fr + 5, cells := 0, slots := 0, locals := lo + 123 } : Room) s m args below meth c H locs 0 0 QQ (F0 m 170 ls [.int k1, .ref q_o]) := by
    intro l3 k1 o_position o_error o_errorAt o_numberStart H locs ls hP hD hS hl hF
    unfold X7_factor_J170 at hF
    obtain ⟨o1, h2, hF⟩ := bn1_o hF
    refine kd_v [(q_o, .inr (7, [x_o_thrown, .ref q_o_buffer, x_o_bufferLength, .int o_textLength, .int o_position, .int o_error, .int o_errorAt, x_o_errorOffset, x_o_data, .ref q_o_draft, x_o_aside, x_o_history, x_o_undoDepth, .int o_numberStart, .int o_nesting, x_o_seen, x_o_toldPlanes, x_o_stack, x_o_facts])), (q_o_buffer, .inl (cy 0, 800, .inl o_buffer)), (q_o_draft, .inl (cy 0, 2243, .inl o1))] (va_runV (As := [.int k1]) (rest := []) ⟨hx, hb, hml, hown, hts⟩ (c_X7_emit q_o q_o_draft H.size x_o_thrown (.ref q_o_buffer) x_o_bufferLength (.int o_textLength) (.int o_position) (.int o_errorAt) x_o_errorOffset x_o_data x_o_aside x_o_history x_o_undoDepth (.int o_numberStart) (.int o_nesting) x_o_seen x_o_toldPlanes x_o_stack x_o_facts o_error o_draft k1 _ h2) (cwV 1 hts gX7_factor_X7_emit rfl rfl rfl kd_X7_emit ⟨by dsimp only; omega, by dsimp only; omega⟩) ⟨kP_blind (EN_ok D cy) D _ _ _, va_recv hK hP (ci := 7) (q0 := 0) rfl rfl, kStart (EN_ok D cy) hE hP hD hS hA [0, 2] rfl rfl _⟩ rfl rfl hl.1 rfl (lv_room (Nat.le_of_ble_eq_true rfl)) dX7_factor_170 ⟨Nat.zero_le _, Nat.zero_le _⟩) hP hD hS hA [0, 2] [1] rfl rfl rfl 3 rfl (by decide +kernel) (fun H locs hP hD hS => ?_)
    refine lv_aload_n hx hb dX7_factor_173 rfl (lv_at hl 0 rfl) ?_
    refine lv_iload_n hx hb dX7_factor_174 rfl (lv_at hl 1 rfl) ?_
    obtain ⟨o3, h4, hF⟩ := bn1_o hF
    refine kd_v [(q_o, .inr (7, [x_o_thrown, .ref q_o_buffer, x_o_bufferLength, .int o_textLength, .int o_position, .int o_error, .int o_errorAt, x_o_errorOffset, x_o_data, .ref q_o_draft, x_o_aside, x_o_history, x_o_undoDepth, .int o_numberStart, .int o_nesting, x_o_seen, x_o_toldPlanes, x_o_stack, x_o_facts])), (q_o_buffer, .inl (cy 0, 800, .inl o_buffer)), (q_o_draft, .inl (cy 0, 2243, .inl o3))] (va_runV (As := [.int l3]) (rest := []) ⟨hx, hb, hml, hown, hts⟩ (c_X7_emit q_o q_o_draft H.size x_o_thrown (.ref q_o_buffer) x_o_bufferLength (.int o_textLength) (.int o_position) (.int o_errorAt) x_o_errorOffset x_o_data x_o_aside x_o_history x_o_undoDepth (.int o_numberStart) (.int o_nesting) x_o_seen x_o_toldPlanes x_o_stack x_o_facts o_error o1 l3 _ h4) (cwV 1 hts gX7_factor_X7_emit rfl rfl rfl kd_X7_emit ⟨by dsimp only; omega, by dsimp only; omega⟩) ⟨kP_blind (EN_ok D cy) D _ _ _, va_recv hK hP (ci := 7) (q0 := 0) rfl rfl, kStart (EN_ok D cy) hE hP hD hS hA [0, 2] rfl rfl _⟩ rfl rfl hl.1 rfl (lv_room (Nat.le_of_ble_eq_true rfl)) dX7_factor_175 ⟨Nat.zero_le _, Nat.zero_le _⟩) hP hD hS hA [0, 2] [1] rfl rfl rfl 3 rfl (by decide +kernel) (fun H locs hP hD hS => ?_)
    obtain rfl := so_o hF
    rw [hQQ]
    exact kr_v hx hb hr hlocks hP hD hS dX7_factor_178
  have J159 : ∀ (l2 : Int32) (k0 : Int32) (o_position : Int32) (o_error : Int32) (o_errorAt : Int32) (o_numberStart : Int32) (H : Heap) (locs : List Loc) (ls : Array Slot), va_P D vwCl [(q_o, .inr (7, [x_o_thrown, .ref q_o_buffer, x_o_bufferLength, .int o_textLength, .int o_position, .int o_error, .int o_errorAt, x_o_errorOffset, x_o_data, .ref q_o_draft, x_o_aside, x_o_history, x_o_undoDepth, .int o_numberStart, .int o_nesting, x_o_seen, x_o_toldPlanes, x_o_stack, x_o_facts])), (q_o_buffer, .inl (cy 0, 800, .inl o_buffer)), (q_o_draft, .inl (cy 0, 2243, .inl o_draft))] H → va_D A [(q_o, .inr (7, [x_o_thrown, .ref q_o_buffer, x_o_bufferLength, .int o_textLength, .int o_position, .int o_error, .int o_errorAt, x_o_errorOffset, x_o_data, .ref q_o_draft, x_o_aside, x_o_history, x_o_undoDepth, .int o_numberStart, .int o_nesting, x_o_seen, x_o_toldPlanes, x_o_stack, x_o_facts])), (q_o_buffer, .inl (cy 0, 800, .inl o_buffer)), (q_o_draft, .inl (cy 0, 2243, .inl o_draft))] → va_S A s.heap H locs → lv_has ls 4 [(0, .ref q_o), (2, .int l2)] → X7_factor_J159 rs o_textLength o_nesting o_buffer o_draft l2 k0 o_position o_error o_errorAt o_numberStart = some res → W p l e ({ frames := fr + 5, cells := 0, slots := 0, locals := lo + 123 } : Room) s m args below meth c H locs 0 0 QQ (F0 m 159 ls [.int k0]) := by
    intro l2 k0 o_position o_error o_errorAt o_numberStart H locs ls hP hD hS hl hF
    unfold X7_factor_J159 at hF
    refine lv_istore_n (lv' := [(3, .int k0), (0, .ref q_o), (2, .int l2)]) hx hb dX7_factor_159 rfl hl (by decide) rfl (fun ls hl => ?_)
    refine lv_aload_n hx hb dX7_factor_160 rfl (lv_at hl 1 rfl) ?_
    refine lv_iload_n hx hb dX7_factor_161 rfl (lv_at hl 2 rfl) ?_
    refine lv_if_ge (tgt := 169) hx hb dX7_factor_162 (by decide) (fun c5 => ?_) (fun c5 => ?_)
    · have hF := if_p hF c5
      refine lv_iconst (v := 1) hx hb dX7_factor_169 (by decide) ?_
      exact J170 k0 (1 : Int32) o_position o_error o_errorAt o_numberStart H locs ls hP hD hS (lv_sub hl [1, 0] rfl) hF
    · have hF := if_n hF c5
      refine lv_iconst (v := 0) hx hb dX7_factor_165 (by decide) ?_
      refine lv_goto (tgt := 170) hx hb dX7_factor_166 (by decide) ?_
      exact J170 k0 (0 : Int32) o_position o_error o_errorAt o_numberStart H locs ls hP hD hS (lv_sub hl [1, 0] rfl) hF
  have J142 : ∀ (k0 : Int32) (o_position : Int32) (H : Heap) (locs : List Loc) (ls : Array Slot), va_P D vwCl [(q_o, .inr (7, [x_o_thrown, .ref q_o_buffer, x_o_bufferLength, .int o_textLength, .int o_position, .int o_error, .int o_errorAt, x_o_errorOffset, x_o_data, .ref q_o_draft, x_o_aside, x_o_history, x_o_undoDepth, .int o_numberStart, .int o_nesting, x_o_seen, x_o_toldPlanes, x_o_stack, x_o_facts])), (q_o_buffer, .inl (cy 0, 800, .inl o_buffer)), (q_o_draft, .inl (cy 0, 2243, .inl o_draft))] H → va_D A [(q_o, .inr (7, [x_o_thrown, .ref q_o_buffer, x_o_bufferLength, .int o_textLength, .int o_position, .int o_error, .int o_errorAt, x_o_errorOffset, x_o_data, .ref q_o_draft, x_o_aside, x_o_history, x_o_undoDepth, .int o_numberStart, .int o_nesting, x_o_seen, x_o_toldPlanes, x_o_stack, x_o_facts])), (q_o_buffer, .inl (cy 0, 800, .inl o_buffer)), (q_o_draft, .inl (cy 0, 2243, .inl o_draft))] → va_S A s.heap H locs → lv_has ls 4 [(0, .ref q_o)] → X7_factor_J142 rs o_textLength o_error o_errorAt o_numberStart o_nesting o_buffer o_draft k0 o_position = some res → W p l e ({ frames := fr + 5, cells := 0, slots := 0, locals := lo + 123 } : Room) s m args below meth c H locs 0 0 QQ (F0 m 142 ls [.int k0]) := by
    intro k0 o_position H locs ls hP hD hS hl hF
    unfold X7_factor_J142 at hF
    refine lv_istore_n (lv' := [(2, .int k0), (0, .ref q_o)]) hx hb dX7_factor_142 rfl hl (by decide) rfl (fun ls hl => ?_)
    refine lv_iload_n hx hb dX7_factor_143 rfl (lv_at hl 0 rfl) ?_
    refine lv_if_ge (tgt := 158) hx hb dX7_factor_144 (by decide) (fun c6 => ?_) (fun c6 => ?_)
    · have hF := if_p hF c6
      refine lv_iload_n hx hb dX7_factor_158 rfl (lv_at hl 0 rfl) ?_
      exact J159 k0 k0 o_position o_error o_errorAt o_numberStart H locs ls hP hD hS (lv_sub hl [1, 0] rfl) hF
    · have hF := if_n hF c6
      refine lv_aload_n hx hb dX7_factor_147 rfl (lv_at hl 1 rfl) ?_
      refine lv_iconst (v := 0) hx hb dX7_factor_148 (by decide) ?_
      refine lv_sipush (v := 9999) hx hb dX7_factor_149 (by decide) ?_
      obtain ⟨r7, o8, o9, o10, o11, h12, hF⟩ := bn5_o hF
      refine kd_i [(q_o, .inr (7, [x_o_thrown, .ref q_o_buffer, x_o_bufferLength, .int o_textLength, .int o8, .int o9, .int o10, x_o_errorOffset, x_o_data, .ref q_o_draft, x_o_aside, x_o_history, x_o_undoDepth, .int o11, .int o_nesting, x_o_seen, x_o_toldPlanes, x_o_stack, x_o_facts])), (q_o_buffer, .inl (cy 0, 800, .inl o_buffer)), (q_o_draft, .inl (cy 0, 2243, .inl o_draft))] (va_runV (As := [.int (0 : Int32), .int (9999 : Int32)]) (rest := []) ⟨hx, hb, hml, hown, hts⟩ (c_X7_number q_o q_o_buffer H.size x_o_thrown x_o_bufferLength x_o_errorOffset x_o_data (.ref q_o_draft) x_o_aside x_o_history x_o_undoDepth (.int o_nesting) x_o_seen x_o_toldPlanes x_o_stack x_o_facts o_textLength o_position o_error o_errorAt o_numberStart o_buffer (0 : Int32) (9999 : Int32) _ h12) (cwV 2 hts gX7_factor_X7_number rfl rfl rfl kd_X7_number ⟨by dsimp only; omega, by dsimp only; omega⟩) ⟨kP_blind (EN_ok D cy) D _ _ _, va_recv hK hP (ci := 7) (q0 := 0) rfl rfl, kStart (EN_ok D cy) hE hP hD hS hA [0, 1] rfl rfl _⟩ rfl rfl hl.1 rfl (lv_room (Nat.le_of_ble_eq_true rfl)) dX7_factor_152 ⟨Nat.zero_le _, Nat.zero_le _⟩) hP hD hS hA [0, 1] [2] rfl rfl rfl 3 rfl (by decide +kernel) (fun H locs hP hD hS => ?_)
      refine lv_goto (tgt := 159) hx hb dX7_factor_155 (by decide) ?_
      exact J159 k0 r7 o8 o9 o10 o11 H locs ls hP hD hS (lv_sub hl [1, 0] rfl) hF
  have J37 : ∀ (o_position : Int32) (o_error : Int32) (o_errorAt : Int32) (H : Heap) (locs : List Loc) (ls : Array Slot), va_P D vwCl [(q_o, .inr (7, [x_o_thrown, .ref q_o_buffer, x_o_bufferLength, .int o_textLength, .int o_position, .int o_error, .int o_errorAt, x_o_errorOffset, x_o_data, .ref q_o_draft, x_o_aside, x_o_history, x_o_undoDepth, .int o_numberStart, .int o_nesting, x_o_seen, x_o_toldPlanes, x_o_stack, x_o_facts])), (q_o_buffer, .inl (cy 0, 800, .inl o_buffer)), (q_o_draft, .inl (cy 0, 2243, .inl o_draft))] H → va_D A [(q_o, .inr (7, [x_o_thrown, .ref q_o_buffer, x_o_bufferLength, .int o_textLength, .int o_position, .int o_error, .int o_errorAt, x_o_errorOffset, x_o_data, .ref q_o_draft, x_o_aside, x_o_history, x_o_undoDepth, .int o_numberStart, .int o_nesting, x_o_seen, x_o_toldPlanes, x_o_stack, x_o_facts])), (q_o_buffer, .inl (cy 0, 800, .inl o_buffer)), (q_o_draft, .inl (cy 0, 2243, .inl o_draft))] → va_S A s.heap H locs → lv_has ls 4 [(0, .ref q_o)] → X7_factor_J37 rs o_textLength o_numberStart o_nesting o_buffer o_draft o_position o_error o_errorAt = some res → W p l e ({ frames := fr + 5, cells := 0, slots := 0, locals := lo + 123 } : Room) s m args below meth c H locs 0 0 QQ (F0 m 37 ls []) := by
    intro o_position o_error o_errorAt H locs ls hP hD hS hl hF
    unfold X7_factor_J37 at hF
    refine lv_aload_n hx hb dX7_factor_37 rfl (lv_at hl 0 rfl) ?_
    refine lv_dup hx hb dX7_factor_38 rfl ?_
    refine va_get (D := D) (ci := 7) (v := .int o_position) (C := RX7) (T := TX7) (N := 19) hx hb hts f_inX7 hown hK hP 0 rfl rfl 4 (by decide) f_f51 (fun _ h9 => h9) rfl dX7_factor_39 ?_
    refine lv_iconst (v := 1) hx hb dX7_factor_42 (by decide) ?_
    refine lv_iadd hx hb dX7_factor_43 ?_
    refine lv_topi (fun v13 ev13 => ?_)
    have hF := nm_o hF v13 ev13
    refine va_put (D := D) (ci := 7) (v := .int v13) (ty := .int) (C := RX7) (T := TX7) (N := 19) hx hb hts f_inX7 tyX7 tyX7_ok nmX7 hown hK hP hD hS 0 rfl rfl 4 (by decide) f_f51 (fun _ h9 => h9) rfl (by decide +kernel) rfl rfl (Nat.le_of_ble_eq_true rfl) dX7_factor_44 (fun H locs hP hD hS => ?_)
    have hP : va_P D vwCl [(q_o, .inr (7, [x_o_thrown, .ref q_o_buffer, x_o_bufferLength, .int o_textLength, .int v13, .int o_error, .int o_errorAt, x_o_errorOffset, x_o_data, .ref q_o_draft, x_o_aside, x_o_history, x_o_undoDepth, .int o_numberStart, .int o_nesting, x_o_seen, x_o_toldPlanes, x_o_stack, x_o_facts])), (q_o_buffer, .inl (cy 0, 800, .inl o_buffer)), (q_o_draft, .inl (cy 0, 2243, .inl o_draft))] H := hP
    have hD : va_D A [(q_o, .inr (7, [x_o_thrown, .ref q_o_buffer, x_o_bufferLength, .int o_textLength, .int v13, .int o_error, .int o_errorAt, x_o_errorOffset, x_o_data, .ref q_o_draft, x_o_aside, x_o_history, x_o_undoDepth, .int o_numberStart, .int o_nesting, x_o_seen, x_o_toldPlanes, x_o_stack, x_o_facts])), (q_o_buffer, .inl (cy 0, 800, .inl o_buffer)), (q_o_draft, .inl (cy 0, 2243, .inl o_draft))] := hD
    refine lv_aload_n hx hb dX7_factor_47 rfl (lv_at hl 0 rfl) ?_
    refine lv_dup hx hb dX7_factor_48 rfl ?_
    refine va_get (D := D) (ci := 7) (v := .int o_nesting) (C := RX7) (T := TX7) (N := 19) hx hb hts f_inX7 hown hK hP 0 rfl rfl 14 (by decide) f_f101 (fun _ h9 => h9) rfl dX7_factor_49 ?_
    refine lv_iconst (v := 1) hx hb dX7_factor_52 (by decide) ?_
    refine lv_iadd hx hb dX7_factor_53 ?_
    refine lv_topi (fun v14 ev14 => ?_)
    have hF := nm_o hF v14 ev14
    refine va_put (D := D) (ci := 7) (v := .int v14) (ty := .int) (C := RX7) (T := TX7) (N := 19) hx hb hts f_inX7 tyX7 tyX7_ok nmX7 hown hK hP hD hS 0 rfl rfl 14 (by decide) f_f101 (fun _ h9 => h9) rfl (by decide +kernel) rfl rfl (Nat.le_of_ble_eq_true rfl) dX7_factor_54 (fun H locs hP hD hS => ?_)
    have hP : va_P D vwCl [(q_o, .inr (7, [x_o_thrown, .ref q_o_buffer, x_o_bufferLength, .int o_textLength, .int v13, .int o_error, .int o_errorAt, x_o_errorOffset, x_o_data, .ref q_o_draft, x_o_aside, x_o_history, x_o_undoDepth, .int o_numberStart, .int v14, x_o_seen, x_o_toldPlanes, x_o_stack, x_o_facts])), (q_o_buffer, .inl (cy 0, 800, .inl o_buffer)), (q_o_draft, .inl (cy 0, 2243, .inl o_draft))] H := hP
    have hD : va_D A [(q_o, .inr (7, [x_o_thrown, .ref q_o_buffer, x_o_bufferLength, .int o_textLength, .int v13, .int o_error, .int o_errorAt, x_o_errorOffset, x_o_data, .ref q_o_draft, x_o_aside, x_o_history, x_o_undoDepth, .int o_numberStart, .int v14, x_o_seen, x_o_toldPlanes, x_o_stack, x_o_facts])), (q_o_buffer, .inl (cy 0, 800, .inl o_buffer)), (q_o_draft, .inl (cy 0, 2243, .inl o_draft))] := hD
    refine lv_aload_n hx hb dX7_factor_57 rfl (lv_at hl 0 rfl) ?_
    obtain ⟨o15, o16, o17, o18, o19, o20, h21, hF⟩ := bn6_o hF
    refine kd_v [(q_o, .inr (7, [x_o_thrown, .ref q_o_buffer, x_o_bufferLength, .int o_textLength, .int o15, .int o16, .int o17, x_o_errorOffset, x_o_data, .ref q_o_draft, x_o_aside, x_o_history, x_o_undoDepth, .int o18, .int o19, x_o_seen, x_o_toldPlanes, x_o_stack, x_o_facts])), (q_o_buffer, .inl (cy 0, 800, .inl o_buffer)), (q_o_draft, .inl (cy 0, 2243, .inl o20))] (va_runV (As := []) (rest := []) ⟨hx, hb, hml, hown, hts⟩ (hrs q_o q_o_buffer q_o_draft H.size x_o_thrown x_o_bufferLength x_o_errorOffset x_o_data x_o_aside x_o_history x_o_undoDepth x_o_seen x_o_toldPlanes x_o_stack x_o_facts o_textLength v13 o_error o_errorAt o_numberStart v14 o_buffer o_draft _ h21) (cwV 0 hts gX7_factor_X7_readSum rfl rfl rfl kd_X7_readSum ⟨by dsimp only; omega, by dsimp only; omega⟩) ⟨kP_blind (EN_ok D cy) D _ _ _, va_recv hK hP (ci := 7) (q0 := 0) rfl rfl, kStart (EN_ok D cy) hE hP hD hS hA [0, 1, 2] rfl rfl _⟩ rfl rfl hl.1 rfl (lv_room (Nat.le_of_ble_eq_true rfl)) dX7_factor_58 ⟨Nat.zero_le _, Nat.zero_le _⟩) hP hD hS hA [0, 1, 2] [] rfl rfl rfl 3 rfl (by decide +kernel) (fun H locs hP hD hS => ?_)
    refine lv_aload_n hx hb dX7_factor_61 rfl (lv_at hl 0 rfl) ?_
    refine lv_bipush (v := 41) hx hb dX7_factor_62 (by decide) ?_
    obtain ⟨o22, o23, o24, h25, hF⟩ := bn3_o hF
    refine kd_v [(q_o, .inr (7, [x_o_thrown, .ref q_o_buffer, x_o_bufferLength, .int o_textLength, .int o22, .int o23, .int o24, x_o_errorOffset, x_o_data, .ref q_o_draft, x_o_aside, x_o_history, x_o_undoDepth, .int o18, .int o19, x_o_seen, x_o_toldPlanes, x_o_stack, x_o_facts])), (q_o_buffer, .inl (cy 0, 800, .inl o_buffer)), (q_o_draft, .inl (cy 0, 2243, .inl o20))] (va_runV (As := [.int (41 : Int32)]) (rest := []) ⟨hx, hb, hml, hown, hts⟩ (c_X7_expect q_o q_o_buffer H.size x_o_thrown x_o_bufferLength x_o_errorOffset x_o_data (.ref q_o_draft) x_o_aside x_o_history x_o_undoDepth (.int o18) (.int o19) x_o_seen x_o_toldPlanes x_o_stack x_o_facts o_textLength o15 o16 o17 o_buffer (41 : Int32) _ h25) (cwV 1 hts gX7_factor_X7_expect rfl rfl rfl kd_X7_expect ⟨by dsimp only; omega, by dsimp only; omega⟩) ⟨kP_blind (EN_ok D cy) D _ _ _, va_recv hK hP (ci := 7) (q0 := 0) rfl rfl, kStart (EN_ok D cy) hE hP hD hS hA [0, 1] rfl rfl _⟩ rfl rfl hl.1 rfl (lv_room (Nat.le_of_ble_eq_true rfl)) dX7_factor_64 ⟨Nat.zero_le _, Nat.zero_le _⟩) hP hD hS hA [0, 1] [2] rfl rfl rfl 3 rfl (by decide +kernel) (fun H locs hP hD hS => ?_)
    refine lv_aload_n hx hb dX7_factor_67 rfl (lv_at hl 0 rfl) ?_
    refine lv_dup hx hb dX7_factor_68 rfl ?_
    refine va_get (D := D) (ci := 7) (v := .int o19) (C := RX7) (T := TX7) (N := 19) hx hb hts f_inX7 hown hK hP 0 rfl rfl 14 (by decide) f_f101 (fun _ h9 => h9) rfl dX7_factor_69 ?_
    refine lv_iconst (v := 1) hx hb dX7_factor_72 (by decide) ?_
    refine lv_isub hx hb dX7_factor_73 ?_
    refine lv_topi (fun v26 ev26 => ?_)
    have hF := nm_o hF v26 ev26
    refine va_put (D := D) (ci := 7) (v := .int v26) (ty := .int) (C := RX7) (T := TX7) (N := 19) hx hb hts f_inX7 tyX7 tyX7_ok nmX7 hown hK hP hD hS 0 rfl rfl 14 (by decide) f_f101 (fun _ h9 => h9) rfl (by decide +kernel) rfl rfl (Nat.le_of_ble_eq_true rfl) dX7_factor_74 (fun H locs hP hD hS => ?_)
    have hP : va_P D vwCl [(q_o, .inr (7, [x_o_thrown, .ref q_o_buffer, x_o_bufferLength, .int o_textLength, .int o22, .int o23, .int o24, x_o_errorOffset, x_o_data, .ref q_o_draft, x_o_aside, x_o_history, x_o_undoDepth, .int o18, .int v26, x_o_seen, x_o_toldPlanes, x_o_stack, x_o_facts])), (q_o_buffer, .inl (cy 0, 800, .inl o_buffer)), (q_o_draft, .inl (cy 0, 2243, .inl o20))] H := hP
    have hD : va_D A [(q_o, .inr (7, [x_o_thrown, .ref q_o_buffer, x_o_bufferLength, .int o_textLength, .int o22, .int o23, .int o24, x_o_errorOffset, x_o_data, .ref q_o_draft, x_o_aside, x_o_history, x_o_undoDepth, .int o18, .int v26, x_o_seen, x_o_toldPlanes, x_o_stack, x_o_facts])), (q_o_buffer, .inl (cy 0, 800, .inl o_buffer)), (q_o_draft, .inl (cy 0, 2243, .inl o20))] := hD
    obtain rfl := so_o hF
    rw [hQQ]
    exact kr_v hx hb hr hlocks hP hD hS dX7_factor_77
  have main : ∀ (H : Heap) (locs : List Loc) (ls : Array Slot), va_P D vwCl [(q_o, .inr (7, [x_o_thrown, .ref q_o_buffer, x_o_bufferLength, .int o_textLength, .int o_position, .int o_error, .int o_errorAt, x_o_errorOffset, x_o_data, .ref q_o_draft, x_o_aside, x_o_history, x_o_undoDepth, .int o_numberStart, .int o_nesting, x_o_seen, x_o_toldPlanes, x_o_stack, x_o_facts])), (q_o_buffer, .inl (cy 0, 800, .inl o_buffer)), (q_o_draft, .inl (cy 0, 2243, .inl o_draft))] H → va_D A [(q_o, .inr (7, [x_o_thrown, .ref q_o_buffer, x_o_bufferLength, .int o_textLength, .int o_position, .int o_error, .int o_errorAt, x_o_errorOffset, x_o_data, .ref q_o_draft, x_o_aside, x_o_history, x_o_undoDepth, .int o_numberStart, .int o_nesting, x_o_seen, x_o_toldPlanes, x_o_stack, x_o_facts])), (q_o_buffer, .inl (cy 0, 800, .inl o_buffer)), (q_o_draft, .inl (cy 0, 2243, .inl o_draft))] → va_S A s.heap H locs → lv_has ls 4 [(0, .ref q_o)] → W p l e ({ frames := fr + 5, cells := 0, slots := 0, locals := lo + 123 } : Room) s m args below meth c H locs 0 0 QQ (F0 m 0 ls []) := by
    intro H locs ls hP hD hS hl
    unfold X7_factor at hF
    refine lv_aload_n hx hb dX7_factor_0 rfl (lv_at hl 0 rfl) ?_
    obtain ⟨r27, h28, hF⟩ := bn1_o hF
    refine kd_i [(q_o, .inr (7, [x_o_thrown, .ref q_o_buffer, x_o_bufferLength, .int o_textLength, .int o_position, .int o_error, .int o_errorAt, x_o_errorOffset, x_o_data, .ref q_o_draft, x_o_aside, x_o_history, x_o_undoDepth, .int o_numberStart, .int o_nesting, x_o_seen, x_o_toldPlanes, x_o_stack, x_o_facts])), (q_o_buffer, .inl (cy 0, 800, .inl o_buffer)), (q_o_draft, .inl (cy 0, 2243, .inl o_draft))] (va_runV (As := []) (rest := []) ⟨hx, hb, hml, hown, hts⟩ (c_X7_isGood q_o H.size x_o_thrown (.ref q_o_buffer) x_o_bufferLength (.int o_textLength) (.int o_position) (.int o_errorAt) x_o_errorOffset x_o_data (.ref q_o_draft) x_o_aside x_o_history x_o_undoDepth (.int o_numberStart) (.int o_nesting) x_o_seen x_o_toldPlanes x_o_stack x_o_facts o_error _ h28) (cwV 0 hts gX7_factor_X7_isGood rfl rfl rfl kd_X7_isGood ⟨by dsimp only; omega, by dsimp only; omega⟩) ⟨kP_blind (EN_ok D cy) D _ _ _, va_recv hK hP (ci := 7) (q0 := 0) rfl rfl, kStart (EN_ok D cy) hE hP hD hS hA [0] rfl rfl _⟩ rfl rfl hl.1 rfl (lv_room (Nat.le_of_ble_eq_true rfl)) dX7_factor_1 ⟨Nat.zero_le _, Nat.zero_le _⟩) hP hD hS hA [0] [1, 2] rfl rfl rfl 3 rfl (by decide +kernel) (fun H locs hP hD hS => ?_)
    refine lv_if_ne (tgt := 8) hx hb dX7_factor_4 (by decide) (fun c29 => ?_) (fun c29 => ?_)
    · have hF := if_n hF c29
      refine lv_aload_n hx hb dX7_factor_8 rfl (lv_at hl 0 rfl) ?_
      obtain ⟨r30, o31, h32, hF⟩ := bn2_o hF
      refine kd_i [(q_o, .inr (7, [x_o_thrown, .ref q_o_buffer, x_o_bufferLength, .int o_textLength, .int o31, .int o_error, .int o_errorAt, x_o_errorOffset, x_o_data, .ref q_o_draft, x_o_aside, x_o_history, x_o_undoDepth, .int o_numberStart, .int o_nesting, x_o_seen, x_o_toldPlanes, x_o_stack, x_o_facts])), (q_o_buffer, .inl (cy 0, 800, .inl o_buffer)), (q_o_draft, .inl (cy 0, 2243, .inl o_draft))] (va_runV (As := []) (rest := []) ⟨hx, hb, hml, hown, hts⟩ (c_X7_ahead q_o q_o_buffer H.size x_o_thrown x_o_bufferLength (.int o_error) (.int o_errorAt) x_o_errorOffset x_o_data (.ref q_o_draft) x_o_aside x_o_history x_o_undoDepth (.int o_numberStart) (.int o_nesting) x_o_seen x_o_toldPlanes x_o_stack x_o_facts o_textLength o_position o_buffer _ h32) (cwV 0 hts gX7_factor_X7_ahead rfl rfl rfl kd_X7_ahead ⟨by dsimp only; omega, by dsimp only; omega⟩) ⟨kP_blind (EN_ok D cy) D _ _ _, va_recv hK hP (ci := 7) (q0 := 0) rfl rfl, kStart (EN_ok D cy) hE hP hD hS hA [0, 1] rfl rfl _⟩ rfl rfl hl.1 rfl (lv_room (Nat.le_of_ble_eq_true rfl)) dX7_factor_9 ⟨Nat.zero_le _, Nat.zero_le _⟩) hP hD hS hA [0, 1] [2] rfl rfl rfl 3 rfl (by decide +kernel) (fun H locs hP hD hS => ?_)
      refine lv_istore_n (lv' := [(1, .int r30), (0, .ref q_o)]) hx hb dX7_factor_12 rfl hl (by decide) rfl (fun ls hl => ?_)
      refine lv_iload_n hx hb dX7_factor_13 rfl (lv_at hl 0 rfl) ?_
      refine lv_bipush (v := 40) hx hb dX7_factor_14 (by decide) ?_
      refine lv_icmp_ne (tgt := 78) hx hb dX7_factor_16 (by decide) (fun c33 => ?_) (fun c33 => ?_)
      · have hF := if_n hF c33
        refine lv_iload_n hx hb dX7_factor_78 rfl (lv_at hl 0 rfl) ?_
        obtain ⟨r34, h35, hF⟩ := bn1_o hF
        refine kd_i [(q_o, .inr (7, [x_o_thrown, .ref q_o_buffer, x_o_bufferLength, .int o_textLength, .int o31, .int o_error, .int o_errorAt, x_o_errorOffset, x_o_data, .ref q_o_draft, x_o_aside, x_o_history, x_o_undoDepth, .int o_numberStart, .int o_nesting, x_o_seen, x_o_toldPlanes, x_o_stack, x_o_facts])), (q_o_buffer, .inl (cy 0, 800, .inl o_buffer)), (q_o_draft, .inl (cy 0, 2243, .inl o_draft))] (va_runS (As := [.int r30]) (rest := []) ⟨hx, hb, hml, hown, hts⟩ (c_X7_isDigit H.size r30 _ h35) (va_cwS 1 hts gX7_factor_X7_isDigit rfl rfl rfl kd_X7_isDigit ⟨by dsimp only; omega, by dsimp only; omega⟩) ⟨kP_blind (EN_ok D cy) D _ _ _, kStart (EN_ok D cy) hE hP hD hS hA [] rfl rfl _⟩ rfl rfl hl.1 rfl (lv_room (Nat.le_of_ble_eq_true rfl)) dX7_factor_79 ⟨Nat.zero_le _, Nat.zero_le _⟩) hP hD hS hA [] [0, 1, 2] rfl rfl rfl 3 rfl (by decide +kernel) (fun H locs hP hD hS => ?_)
        refine lv_if_eq (tgt := 89) hx hb dX7_factor_82 (by decide) (fun c36 => ?_) (fun c36 => ?_)
        · have hF := if_p hF c36
          refine lv_aload_n hx hb dX7_factor_89 rfl (lv_at hl 1 rfl) ?_
          obtain ⟨a37, hRa37, hTa37⟩ := hE.2.2.1 ("PeepBoxModel", 111, "shown", [115, 104, 111, 119, 110]) (by decide +kernel)
          refine va_ldcS hx hb hown hRa37 dX7_factor_90 ?_
          obtain ⟨r38, o39, h40, hF⟩ := bn2_o hF
          refine kd_i [(q_o, .inr (7, [x_o_thrown, .ref q_o_buffer, x_o_bufferLength, .int o_textLength, .int o39, .int o_error, .int o_errorAt, x_o_errorOffset, x_o_data, .ref q_o_draft, x_o_aside, x_o_history, x_o_undoDepth, .int o_numberStart, .int o_nesting, x_o_seen, x_o_toldPlanes, x_o_stack, x_o_facts])), (q_o_buffer, .inl (cy 0, 800, .inl o_buffer)), (q_o_draft, .inl (cy 0, 2243, .inl o_draft))] (va_runV (As := [.ref a37]) (rest := []) ⟨hx, hb, hml, hown, hts⟩ (c_X7_takeWord q_o q_o_buffer H.size x_o_thrown x_o_bufferLength (.int o_errorAt) x_o_errorOffset x_o_data (.ref q_o_draft) x_o_aside x_o_history x_o_undoDepth (.int o_numberStart) (.int o_nesting) x_o_seen x_o_toldPlanes x_o_stack x_o_facts o_textLength o31 o_error o_buffer [115, 104, 111, 119, 110] a37 _ h40) (cwV 1 hts gX7_factor_X7_takeWord rfl rfl rfl kd_X7_takeWord ⟨by dsimp only; omega, by dsimp only; omega⟩) ⟨kP_blind (ES_ok D cy [115, 104, 111, 119, 110] a37) D _ _ _, va_recv hK hP (ci := 7) (q0 := 0) rfl rfl, kStart (ES_ok D cy [115, 104, 111, 119, 110] a37) (show ES D cy [115, 104, 111, 119, 110] a37 A s s.heap from ⟨hE, hTa37⟩) hP hD hS hA [0, 1] rfl rfl _⟩ rfl rfl hl.1 rfl (lv_room (Nat.le_of_ble_eq_true rfl)) dX7_factor_92 ⟨Nat.zero_le _, Nat.zero_le _⟩) hP hD hS hA [0, 1] [2] rfl rfl rfl 3 rfl (by decide +kernel) (fun H locs hP hD hS => ?_)
          refine lv_if_eq (tgt := 102) hx hb dX7_factor_95 (by decide) (fun c41 => ?_) (fun c41 => ?_)
          · have hF := if_p hF c41
            refine lv_aload_n hx hb dX7_factor_102 rfl (lv_at hl 1 rfl) ?_
            obtain ⟨a42, hRa42, hTa42⟩ := hE.2.2.1 ("PeepBoxModel", 117, "kinds", [107, 105, 110, 100, 115]) (by decide +kernel)
            refine va_ldcS hx hb hown hRa42 dX7_factor_103 ?_
            obtain ⟨r43, o44, h45, hF⟩ := bn2_o hF
            refine kd_i [(q_o, .inr (7, [x_o_thrown, .ref q_o_buffer, x_o_bufferLength, .int o_textLength, .int o44, .int o_error, .int o_errorAt, x_o_errorOffset, x_o_data, .ref q_o_draft, x_o_aside, x_o_history, x_o_undoDepth, .int o_numberStart, .int o_nesting, x_o_seen, x_o_toldPlanes, x_o_stack, x_o_facts])), (q_o_buffer, .inl (cy 0, 800, .inl o_buffer)), (q_o_draft, .inl (cy 0, 2243, .inl o_draft))] (va_runV (As := [.ref a42]) (rest := []) ⟨hx, hb, hml, hown, hts⟩ (c_X7_takeWord q_o q_o_buffer H.size x_o_thrown x_o_bufferLength (.int o_errorAt) x_o_errorOffset x_o_data (.ref q_o_draft) x_o_aside x_o_history x_o_undoDepth (.int o_numberStart) (.int o_nesting) x_o_seen x_o_toldPlanes x_o_stack x_o_facts o_textLength o39 o_error o_buffer [107, 105, 110, 100, 115] a42 _ h45) (cwV 1 hts gX7_factor_X7_takeWord rfl rfl rfl kd_X7_takeWord ⟨by dsimp only; omega, by dsimp only; omega⟩) ⟨kP_blind (ES_ok D cy [107, 105, 110, 100, 115] a42) D _ _ _, va_recv hK hP (ci := 7) (q0 := 0) rfl rfl, kStart (ES_ok D cy [107, 105, 110, 100, 115] a42) (show ES D cy [107, 105, 110, 100, 115] a42 A s s.heap from ⟨hE, hTa42⟩) hP hD hS hA [0, 1] rfl rfl _⟩ rfl rfl hl.1 rfl (lv_room (Nat.le_of_ble_eq_true rfl)) dX7_factor_105 ⟨Nat.zero_le _, Nat.zero_le _⟩) hP hD hS hA [0, 1] [2] rfl rfl rfl 3 rfl (by decide +kernel) (fun H locs hP hD hS => ?_)
            refine lv_if_eq (tgt := 115) hx hb dX7_factor_108 (by decide) (fun c46 => ?_) (fun c46 => ?_)
            · have hF := if_p hF c46
              refine lv_aload_n hx hb dX7_factor_115 rfl (lv_at hl 1 rfl) ?_
              obtain ⟨a47, hRa47, hTa47⟩ := hE.2.2.1 ("PeepBoxModel", 119, "depth", [100, 101, 112, 116, 104]) (by decide +kernel)
              refine va_ldcS hx hb hown hRa47 dX7_factor_116 ?_
              obtain ⟨r48, o49, h50, hF⟩ := bn2_o hF
              refine kd_i [(q_o, .inr (7, [x_o_thrown, .ref q_o_buffer, x_o_bufferLength, .int o_textLength, .int o49, .int o_error, .int o_errorAt, x_o_errorOffset, x_o_data, .ref q_o_draft, x_o_aside, x_o_history, x_o_undoDepth, .int o_numberStart, .int o_nesting, x_o_seen, x_o_toldPlanes, x_o_stack, x_o_facts])), (q_o_buffer, .inl (cy 0, 800, .inl o_buffer)), (q_o_draft, .inl (cy 0, 2243, .inl o_draft))] (va_runV (As := [.ref a47]) (rest := []) ⟨hx, hb, hml, hown, hts⟩ (c_X7_takeWord q_o q_o_buffer H.size x_o_thrown x_o_bufferLength (.int o_errorAt) x_o_errorOffset x_o_data (.ref q_o_draft) x_o_aside x_o_history x_o_undoDepth (.int o_numberStart) (.int o_nesting) x_o_seen x_o_toldPlanes x_o_stack x_o_facts o_textLength o44 o_error o_buffer [100, 101, 112, 116, 104] a47 _ h50) (cwV 1 hts gX7_factor_X7_takeWord rfl rfl rfl kd_X7_takeWord ⟨by dsimp only; omega, by dsimp only; omega⟩) ⟨kP_blind (ES_ok D cy [100, 101, 112, 116, 104] a47) D _ _ _, va_recv hK hP (ci := 7) (q0 := 0) rfl rfl, kStart (ES_ok D cy [100, 101, 112, 116, 104] a47) (show ES D cy [100, 101, 112, 116, 104] a47 A s s.heap from ⟨hE, hTa47⟩) hP hD hS hA [0, 1] rfl rfl _⟩ rfl rfl hl.1 rfl (lv_room (Nat.le_of_ble_eq_true rfl)) dX7_factor_118 ⟨Nat.zero_le _, Nat.zero_le _⟩) hP hD hS hA [0, 1] [2] rfl rfl rfl 3 rfl (by decide +kernel) (fun H locs hP hD hS => ?_)
              refine lv_if_eq (tgt := 128) hx hb dX7_factor_121 (by decide) (fun c51 => ?_) (fun c51 => ?_)
              · have hF := if_p hF c51
                refine lv_aload_n hx hb dX7_factor_128 rfl (lv_at hl 1 rfl) ?_
                obtain ⟨a52, hRa52, hTa52⟩ := hE.2.2.1 ("PeepBoxModel", 121, "hole", [104, 111, 108, 101]) (by decide +kernel)
                refine va_ldcS hx hb hown hRa52 dX7_factor_129 ?_
                obtain ⟨r53, o54, h55, hF⟩ := bn2_o hF
                refine kd_i [(q_o, .inr (7, [x_o_thrown, .ref q_o_buffer, x_o_bufferLength, .int o_textLength, .int o54, .int o_error, .int o_errorAt, x_o_errorOffset, x_o_data, .ref q_o_draft, x_o_aside, x_o_history, x_o_undoDepth, .int o_numberStart, .int o_nesting, x_o_seen, x_o_toldPlanes, x_o_stack, x_o_facts])), (q_o_buffer, .inl (cy 0, 800, .inl o_buffer)), (q_o_draft, .inl (cy 0, 2243, .inl o_draft))] (va_runV (As := [.ref a52]) (rest := []) ⟨hx, hb, hml, hown, hts⟩ (c_X7_takeWord q_o q_o_buffer H.size x_o_thrown x_o_bufferLength (.int o_errorAt) x_o_errorOffset x_o_data (.ref q_o_draft) x_o_aside x_o_history x_o_undoDepth (.int o_numberStart) (.int o_nesting) x_o_seen x_o_toldPlanes x_o_stack x_o_facts o_textLength o49 o_error o_buffer [104, 111, 108, 101] a52 _ h55) (cwV 1 hts gX7_factor_X7_takeWord rfl rfl rfl kd_X7_takeWord ⟨by dsimp only; omega, by dsimp only; omega⟩) ⟨kP_blind (ES_ok D cy [104, 111, 108, 101] a52) D _ _ _, va_recv hK hP (ci := 7) (q0 := 0) rfl rfl, kStart (ES_ok D cy [104, 111, 108, 101] a52) (show ES D cy [104, 111, 108, 101] a52 A s s.heap from ⟨hE, hTa52⟩) hP hD hS hA [0, 1] rfl rfl _⟩ rfl rfl hl.1 rfl (lv_room (Nat.le_of_ble_eq_true rfl)) dX7_factor_131 ⟨Nat.zero_le _, Nat.zero_le _⟩) hP hD hS hA [0, 1] [2] rfl rfl rfl 3 rfl (by decide +kernel) (fun H locs hP hD hS => ?_)
                refine lv_if_eq (tgt := 141) hx hb dX7_factor_134 (by decide) (fun c56 => ?_) (fun c56 => ?_)
                · have hF := if_p hF c56
                  refine lv_iconst (v := -1) hx hb dX7_factor_141 (by decide) ?_
                  exact J142 (-1 : Int32) o54 H locs ls hP hD hS (lv_sub hl [1] rfl) hF
                · have hF := if_n hF c56
                  refine lv_iconst (v := 3) hx hb dX7_factor_137 (by decide) ?_
                  refine lv_goto (tgt := 142) hx hb dX7_factor_138 (by decide) ?_
                  exact J142 (3 : Int32) o54 H locs ls hP hD hS (lv_sub hl [1] rfl) hF
              · have hF := if_n hF c51
                refine lv_iconst (v := 2) hx hb dX7_factor_124 (by decide) ?_
                refine lv_goto (tgt := 142) hx hb dX7_factor_125 (by decide) ?_
                exact J142 (2 : Int32) o49 H locs ls hP hD hS (lv_sub hl [1] rfl) hF
            · have hF := if_n hF c46
              refine lv_iconst (v := 1) hx hb dX7_factor_111 (by decide) ?_
              refine lv_goto (tgt := 142) hx hb dX7_factor_112 (by decide) ?_
              exact J142 (1 : Int32) o44 H locs ls hP hD hS (lv_sub hl [1] rfl) hF
          · have hF := if_n hF c41
            refine lv_iconst (v := 0) hx hb dX7_factor_98 (by decide) ?_
            refine lv_goto (tgt := 142) hx hb dX7_factor_99 (by decide) ?_
            exact J142 (0 : Int32) o39 H locs ls hP hD hS (lv_sub hl [1] rfl) hF
        · have hF := if_n hF c36
          refine lv_iconst (v := -1) hx hb dX7_factor_85 (by decide) ?_
          refine lv_goto (tgt := 142) hx hb dX7_factor_86 (by decide) ?_
          exact J142 (-1 : Int32) o31 H locs ls hP hD hS (lv_sub hl [1] rfl) hF
      · have hF := if_p hF c33
        refine lv_aload_n hx hb dX7_factor_19 rfl (lv_at hl 1 rfl) ?_
        refine va_get (D := D) (ci := 7) (v := .int o_nesting) (C := RX7) (T := TX7) (N := 19) hx hb hts f_inX7 hown hK hP 0 rfl rfl 14 (by decide) f_f101 (fun _ h9 => h9) rfl dX7_factor_20 ?_
        refine lv_iconst (v := 4) hx hb dX7_factor_23 (by decide) ?_
        refine lv_icmp_ne (tgt := 37) hx hb dX7_factor_24 (by decide) (fun c57 => ?_) (fun c57 => ?_)
        · have hF := if_n hF c57
          exact J37 o31 o_error o_errorAt H locs ls hP hD hS (lv_sub hl [1] rfl) hF
        · have hF := if_p hF c57
          refine lv_aload_n hx hb dX7_factor_27 rfl (lv_at hl 1 rfl) ?_
          refine lv_bipush (v := -6) hx hb dX7_factor_28 (by decide) ?_
          refine lv_aload_n hx hb dX7_factor_30 rfl (lv_at hl 1 rfl) ?_
          refine va_get (D := D) (ci := 7) (v := .int o31) (C := RX7) (T := TX7) (N := 19) hx hb hts f_inX7 hown hK hP 0 rfl rfl 4 (by decide) f_f51 (fun _ h9 => h9) rfl dX7_factor_31 ?_
          obtain ⟨o58, o59, h60, hF⟩ := bn2_o hF
          refine kd_v [(q_o, .inr (7, [x_o_thrown, .ref q_o_buffer, x_o_bufferLength, .int o_textLength, .int o31, .int o58, .int o59, x_o_errorOffset, x_o_data, .ref q_o_draft, x_o_aside, x_o_history, x_o_undoDepth, .int o_numberStart, .int o_nesting, x_o_seen, x_o_toldPlanes, x_o_stack, x_o_facts])), (q_o_buffer, .inl (cy 0, 800, .inl o_buffer)), (q_o_draft, .inl (cy 0, 2243, .inl o_draft))] (va_runV (As := [.int (-6 : Int32), .int o31]) (rest := []) ⟨hx, hb, hml, hown, hts⟩ (c_X7_report q_o H.size x_o_thrown (.ref q_o_buffer) x_o_bufferLength (.int o_textLength) (.int o31) x_o_errorOffset x_o_data (.ref q_o_draft) x_o_aside x_o_history x_o_undoDepth (.int o_numberStart) (.int o_nesting) x_o_seen x_o_toldPlanes x_o_stack x_o_facts o_error o_errorAt (-6 : Int32) o31 _ h60) (cwV 2 hts gX7_factor_X7_report rfl rfl rfl kd_X7_report ⟨by dsimp only; omega, by dsimp only; omega⟩) ⟨kP_blind (EN_ok D cy) D _ _ _, va_recv hK hP (ci := 7) (q0 := 0) rfl rfl, kStart (EN_ok D cy) hE hP hD hS hA [0] rfl rfl _⟩ rfl rfl hl.1 rfl (lv_room (Nat.le_of_ble_eq_true rfl)) dX7_factor_34 ⟨Nat.zero_le _, Nat.zero_le _⟩) hP hD hS hA [0] [1, 2] rfl rfl rfl 3 rfl (by decide +kernel) (fun H locs hP hD hS => ?_)
          exact J37 o31 o58 o59 H locs ls hP hD hS (lv_sub hl [1] rfl) hF
    · have hF := if_p hF c29
      obtain rfl := so_o hF
      rw [hQQ]
      exact kr_v hx hb hr hlocks hP hD hS dX7_factor_7
  exact main s.heap [] ls hP hD hS hl
