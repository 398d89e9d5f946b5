/-! contracts, written by program (gen.py): X7_readSum X7_readSum X7_once X7_isLine X7_readLine X7_readPlane X7_readHole X7_kind X7_addViewer X7_readViewer -/
set_option maxHeartbeats 4000000 in
set_option maxRecDepth 100000 in
theorem c_X7_term {l : Launch} {D : va_G} {cy : Nat → ClassId} (fr lo : Nat) (f0 : Int32 → Int32 → Int32 → Int32 → Int32 → Int32 → (Nat → Int32) → (Nat → Int32) → Option (Int32 × Int32 × Int32 × Int32 × Int32 × (Nat → Int32))) (hf0 : ∀ (q_o q_o_buffer q_o_draft : Nat) (sz : Nat) (x_o_thrown x_o_bufferLength x_o_errorOffset x_o_data x_o_aside x_o_history x_o_undoDepth x_o_seen x_o_toldPlanes x_o_stack x_o_facts : Value) (o_textLength : Int32) (o_position : Int32) (o_error : Int32) (o_errorAt : Int32) (o_numberStart : Int32) (o_nesting : Int32) (o_buffer : Nat → Int32) (o_draft : Nat → Int32) (res : Int32 × Int32 × Int32 × Int32 × Int32 × (Nat → Int32)), f0 o_textLength o_position o_error o_errorAt o_numberStart o_nesting o_buffer o_draft = some res → Met l yX7_factor wsX7_factor ({ frames := fr, cells := 0, slots := 0, locals := lo } : Room) (kP (EN D cy) D [.ref q_o] [(q_o, .inr (7, [x_o_thrown, .ref q_o_buffer, x_o_bufferLength, .int o_textLength, .int o_position, .int o_error, .int o_errorAt, x_o_errorOffset, x_o_data, .ref q_o_draft, x_o_aside, x_o_history, x_o_undoDepth, .int o_numberStart, .int o_nesting, x_o_seen, x_o_toldPlanes, x_o_stack, x_o_facts])), (q_o_buffer, .inl (cy 0, 800, .inl o_buffer)), (q_o_draft, .inl (cy 0, 2243, .inl o_draft))] sz) (kQv D [(q_o, .inr (7, [x_o_thrown, .ref q_o_buffer, x_o_bufferLength, .int o_textLength, .int res.1, .int res.2.1, .int res.2.2.1, x_o_errorOffset, x_o_data, .ref q_o_draft, x_o_aside, x_o_history, x_o_undoDepth, .int res.2.2.2.1, .int res.2.2.2.2.1, x_o_seen, x_o_toldPlanes, x_o_stack, x_o_facts])), (q_o_buffer, .inl (cy 0, 800, .inl o_buffer)), (q_o_draft, .inl (cy 0, 2243, .inl res.2.2.2.2.2))] (va_A [(q_o, .inr (7, [x_o_thrown, .ref q_o_buffer, x_o_bufferLength, .int o_textLength, .int o_position, .int o_error, .int o_errorAt, x_o_errorOffset, x_o_data, .ref q_o_draft, x_o_aside, x_o_history, x_o_undoDepth, .int o_numberStart, .int o_nesting, x_o_seen, x_o_toldPlanes, x_o_stack, x_o_facts])), (q_o_buffer, .inl (cy 0, 800, .inl o_buffer)), (q_o_draft, .inl (cy 0, 2243, .inl o_draft))] sz)) 0 0 (va_A [(q_o, .inr (7, [x_o_thrown, .ref q_o_buffer, x_o_bufferLength, .int o_textLength, .int o_position, .int o_error, .int o_errorAt, x_o_errorOffset, x_o_data, .ref q_o_draft, x_o_aside, x_o_history, x_o_undoDepth, .int o_numberStart, .int o_nesting, x_o_seen, x_o_toldPlanes, x_o_stack, x_o_facts])), (q_o_buffer, .inl (cy 0, 800, .inl o_buffer)), (q_o_draft, .inl (cy 0, 2243, .inl o_draft))] sz)) (q_o q_o_buffer q_o_draft : Nat) (sz : Nat) (x_o_thrown x_o_bufferLength x_o_errorOffset x_o_data x_o_aside x_o_history x_o_undoDepth x_o_seen x_o_toldPlanes x_o_stack x_o_facts : Value) (o_textLength : Int32) (o_position : Int32) (o_error : Int32) (o_errorAt : Int32) (o_numberStart : Int32) (o_nesting : Int32) (o_buffer : Nat → Int32) (o_draft : Nat → Int32) (res : Int32 × Int32 × Int32 × Int32 × Int32 × (Nat → Int32)) (hF : X7_term f0 o_textLength o_position o_error o_errorAt o_numberStart o_nesting o_buffer o_draft = some res) : Met l yX7_term wsX7_term ({ frames := fr + 6, cells := 0, slots := 0, locals := lo + 146 } : Room) (kP (EN D cy) D [.ref q_o] [(q_o, .inr (7, [x_o_thrown, .ref q_o_buffer, x_o_bufferLength, .int o_textLength, .int o_position, .int o_error, .int o_errorAt, x_o_errorOffset, x_o_data, .ref q_o_draft, x_o_aside, x_o_history, x_o_undoDepth, .int o_numberStart, .int o_nesting, x_o_seen, x_o_toldPlanes, x_o_stack, x_o_facts])), (q_o_buffer, .inl (cy 0, 800, .inl o_buffer)), (q_o_draft, .inl (cy 0, 2243, .inl o_draft))] sz) (kQv D [(q_o, .inr (7, [x_o_thrown, .ref q_o_buffer, x_o_bufferLength, .int o_textLength, .int res.1, .int res.2.1, .int res.2.2.1, x_o_errorOffset, x_o_data, .ref q_o_draft, x_o_aside, x_o_history, x_o_undoDepth, .int res.2.2.2.1, .int res.2.2.2.2.1, x_o_seen, x_o_toldPlanes, x_o_stack, x_o_facts])), (q_o_buffer, .inl (cy 0, 800, .inl o_buffer)), (q_o_draft, .inl (cy 0, 2243, .inl res.2.2.2.2.2))] (va_A [(q_o, .inr (7, [x_o_thrown, .ref q_o_buffer, x_o_bufferLength, .int o_textLength, .int o_position, .int o_error, .int o_errorAt, x_o_errorOffset, x_o_data, .ref q_o_draft, x_o_aside, x_o_history, x_o_undoDepth, .int o_numberStart, .int o_nesting, x_o_seen, x_o_toldPlanes, x_o_stack, x_o_facts])), (q_o_buffer, .inl (cy 0, 800, .inl o_buffer)), (q_o_draft, .inl (cy 0, 2243, .inl o_draft))] sz)) 0 0 (va_A [(q_o, .inr (7, [x_o_thrown, .ref q_o_buffer, x_o_bufferLength, .int o_textLength, .int o_position, .int o_error, .int o_errorAt, x_o_errorOffset, x_o_data, .ref q_o_draft, x_o_aside, x_o_history, x_o_undoDepth, .int o_numberStart, .int o_nesting, x_o_seen, x_o_toldPlanes, x_o_stack, x_o_facts])), (q_o_buffer, .inl (cy 0, 800, .inl o_buffer)), (q_o_draft, .inl (cy 0, 2243, .inl o_draft))] sz) := by
  refine kMet (y := yX7_term) (av := [.ref q_o]) (cc := cX7_term) (maxL := 2) (ret := none) (own := RX7) (Qc := fun A9 => (kQv D [(q_o, .inr (7, [x_o_thrown, .ref q_o_buffer, x_o_bufferLength, .int o_textLength, .int res.1, .int res.2.1, .int res.2.2.1, x_o_errorOffset, x_o_data, .ref q_o_draft, x_o_aside, x_o_history, x_o_undoDepth, .int res.2.2.2.1, .int res.2.2.2.2.1, x_o_seen, x_o_toldPlanes, x_o_stack, x_o_facts])), (q_o_buffer, .inl (cy 0, 800, .inl o_buffer)), (q_o_draft, .inl (cy 0, 2243, .inl res.2.2.2.2.2))] A9)) (by decide) rfl rfl (Nat.le_of_ble_eq_true rfl) ?_
  intro p e s m args below meth c A hx hb hr hts hown hml hlocks hname hE hP hD hA hsz ls hl
  have hK := hE.1
  have hl : lv_has ls 2 [(0, .ref q_o)] := hl
  have hS : va_S A s.heap s.heap [] := va_S.rf
  have f_f51 := hts (.fieldLink RX7 51 "PeepBoxModel" "position" "I") (by decide +kernel)
  have f_inX7 : ∀ w ∈ wsX70, w ∈ wsX7_term := by decide +kernel
  obtain ⟨QQ, hQQ⟩ : ∃ Q9, Q9 = MQ below (kQv D [(q_o, .inr (7, [x_o_thrown, .ref q_o_buffer, x_o_bufferLength, .int o_textLength, .int res.1, .int res.2.1, .int res.2.2.1, x_o_errorOffset, x_o_data, .ref q_o_draft, x_o_aside, x_o_history, x_o_undoDepth, .int res.2.2.2.1, .int res.2.2.2.2.1, x_o_seen, x_o_toldPlanes, x_o_stack, x_o_facts])), (q_o_buffer, .inl (cy 0, 800, .inl o_buffer)), (q_o_draft, .inl (cy 0, 2243, .inl res.2.2.2.2.2))] A) args s 0 0 A := ⟨_, rfl⟩
  rw [← hQQ]
  have J4 : ∀ (n4 : Nat) (o_position : Int32) (o_error : Int32) (o_errorAt : Int32) (o_numberStart : Int32) (o_nesting : Int32) (o_draft : Nat → Int32) (H : Heap) (locs : List Loc) (ls : Array Slot), va_P D vwCl [(q_o, .inr (7, [x_o_thrown, .ref q_o_buffer, x_o_bufferLength, .int o_textLength, .int o_position, .int o_error, .int o_errorAt, x_o_errorOffset, x_o_data, .ref q_o_draft, x_o_aside, x_o_history, x_o_undoDepth, .int o_numberStart, .int o_nesting, x_o_seen, x_o_toldPlanes, x_o_stack, x_o_facts])), (q_o_buffer, .inl (cy 0, 800, .inl o_buffer)), (q_o_draft, .inl (cy 0, 2243, .inl o_draft))] H → va_D A [(q_o, .inr (7, [x_o_thrown, .ref q_o_buffer, x_o_bufferLength, .int o_textLength, .int o_position, .int o_error, .int o_errorAt, x_o_errorOffset, x_o_data, .ref q_o_draft, x_o_aside, x_o_history, x_o_undoDepth, .int o_numberStart, .int o_nesting, x_o_seen, x_o_toldPlanes, x_o_stack, x_o_facts])), (q_o_buffer, .inl (cy 0, 800, .inl o_buffer)), (q_o_draft, .inl (cy 0, 2243, .inl o_draft))] → va_S A s.heap H locs → lv_has ls 2 [(0, .ref q_o)] → X7_term_L4 f0 o_textLength o_buffer n4 o_position o_error o_errorAt o_numberStart o_nesting o_draft = some res → W p l e ({ frames := fr + 6, cells := 0, slots := 0, locals := lo + 146 } : Room) s m args below meth c H locs 0 0 QQ (F0 m 4 ls []) := by
    intro n4
    induction n4 with
    | zero =>
      intro o_position o_error o_errorAt o_numberStart o_nesting o_draft H locs ls hP hD hS hl hF
      rw [X7_term_L4] at hF
      cases hF
    | succ n4 ih4 =>
      have J68 : ∀ (k1 : Int32) (o_position : Int32) (o_error : Int32) (o_errorAt : Int32) (o_numberStart : Int32) (o_nesting : Int32) (o_draft : Nat → Int32) (H : Heap) (locs : List Loc) (ls : Array Slot), va_P D vwCl [(q_o, .inr (7, [x_o_thrown, .ref q_o_buffer, x_o_bufferLength, .int o_textLength, .int o_position, .int o_error, .int o_errorAt, x_o_errorOffset, x_o_data, .ref q_o_draft, x_o_aside, x_o_history, x_o_undoDepth, .int o_numberStart, .int o_nesting, x_o_seen, x_o_toldPlanes, x_o_stack, x_o_facts])), (q_o_buffer, .inl (cy 0, 800, .inl o_buffer)), (q_o_draft, .inl (cy 0, 2243, .inl o_draft))] H → va_D A [(q_o, .inr (7, [x_o_thrown, .ref q_o_buffer, x_o_bufferLength, .int o_textLength, .int o_position, .int o_error, .int o_errorAt, x_o_errorOffset, x_o_data, .ref q_o_draft, x_o_aside, x_o_history, x_o_undoDepth, .int o_numberStart, .int o_nesting, x_o_seen, x_o_toldPlanes, x_o_stack, x_o_facts])), (q_o_buffer, .inl (cy 0, 800, .inl o_buffer)), (q_o_draft, .inl (cy 0, 2243, .inl o_draft))] → va_S A s.heap H locs → lv_has ls 2 [(0, .ref q_o)] → X7_term_J68 f0 o_textLength o_buffer (fun z0 z1 z2 z3 z4 z5 => X7_term_L4 f0 o_textLength o_buffer n4 z0 z1 z2 z3 z4 z5) k1 o_position o_error o_errorAt o_numberStart o_nesting o_draft = some res → W p l e ({ frames := fr + 6, cells := 0, slots := 0, locals := lo + 146 } : Room) s m args below meth c H locs 0 0 QQ (F0 m 68 ls [.int k1, .ref q_o]) := by
        intro k1 o_position o_error o_errorAt o_numberStart o_nesting o_draft H locs ls hP hD hS hl hF
        unfold X7_term_J68 at hF
        obtain ⟨o1, h2, hF⟩ := bn1_o hF
        refine kd_v [(q_o, .inr (7, [x_o_thrown, .ref q_o_buffer, x_o_bufferLength, .int o_textLength, .int o_position, .int o_error, .int o_errorAt, x_o_errorOffset, x_o_data, .ref q_o_draft, x_o_aside, x_o_history, x_o_undoDepth, .int o_numberStart, .int o_nesting, x_o_seen, x_o_toldPlanes, x_o_stack, x_o_facts])), (q_o_buffer, .inl (cy 0, 800, .inl o_buffer)), (q_o_draft, .inl (cy 0, 2243, .inl o1))] (va_runV (As := [.int k1]) (rest := []) ⟨hx, hb, hml, hown, hts⟩ (c_X7_emit q_o q_o_draft H.size x_o_thrown (.ref q_o_buffer) x_o_bufferLength (.int o_textLength) (.int o_position) (.int o_errorAt) x_o_errorOffset x_o_data x_o_aside x_o_history x_o_undoDepth (.int o_numberStart) (.int o_nesting) x_o_seen x_o_toldPlanes x_o_stack x_o_facts o_error o_draft k1 _ h2) (cwV 1 hts gX7_term_X7_emit rfl rfl rfl kd_X7_emit ⟨by dsimp only; omega, by dsimp only; omega⟩) ⟨kP_blind (EN_ok D cy) D _ _ _, va_recv hK hP (ci := 7) (q0 := 0) rfl rfl, kStart (EN_ok D cy) hE hP hD hS hA [0, 2] rfl rfl _⟩ rfl rfl hl.1 rfl (lv_room (Nat.le_of_ble_eq_true rfl)) dX7_term_68 ⟨Nat.zero_le _, Nat.zero_le _⟩) hP hD hS hA [0, 2] [1] rfl rfl rfl 3 rfl (by decide +kernel) (fun H locs hP hD hS => ?_)
        refine lv_goto (tgt := 4) hx hb dX7_term_71 (by decide) ?_
        exact ih4 o_position o_error o_errorAt o_numberStart o_nesting o1 H locs ls hP hD hS (lv_sub hl [0] rfl) hF
      have J43 : ∀ (k0 : Int32) (o_position : Int32) (o_error : Int32) (o_errorAt : Int32) (o_numberStart : Int32) (o_nesting : Int32) (o_draft : Nat → Int32) (H : Heap) (locs : List Loc) (ls : Array Slot), va_P D vwCl [(q_o, .inr (7, [x_o_thrown, .ref q_o_buffer, x_o_bufferLength, .int o_textLength, .int o_position, .int o_error, .int o_errorAt, x_o_errorOffset, x_o_data, .ref q_o_draft, x_o_aside, x_o_history, x_o_undoDepth, .int o_numberStart, .int o_nesting, x_o_seen, x_o_toldPlanes, x_o_stack, x_o_facts])), (q_o_buffer, .inl (cy 0, 800, .inl o_buffer)), (q_o_draft, .inl (cy 0, 2243, .inl o_draft))] H → va_D A [(q_o, .inr (7, [x_o_thrown, .ref q_o_buffer, x_o_bufferLength, .int o_textLength, .int o_position, .int o_error, .int o_errorAt, x_o_errorOffset, x_o_data, .ref q_o_draft, x_o_aside, x_o_history, x_o_undoDepth, .int o_numberStart, .int o_nesting, x_o_seen, x_o_toldPlanes, x_o_stack, x_o_facts])), (q_o_buffer, .inl (cy 0, 800, .inl o_buffer)), (q_o_draft, .inl (cy 0, 2243, .inl o_draft))] → va_S A s.heap H locs → lv_has ls 2 [(0, .ref q_o)] → X7_term_J43 f0 o_textLength o_buffer (fun z0 z1 z2 z3 z4 z5 => X7_term_L4 f0 o_textLength o_buffer n4 z0 z1 z2 z3 z4 z5) k0 o_position o_error o_errorAt o_numberStart o_nesting o_draft = some res → W p l e ({ frames := fr + 6, cells := 0, slots := 0, locals := lo + 146 } : Room) s m args below meth c H locs 0 0 QQ (F0 m 43 ls [.int k0]) := by
        intro k0 o_position o_error o_errorAt o_numberStart o_nesting o_draft H locs ls hP hD hS hl hF
        unfold X7_term_J43 at hF
        refine lv_istore_n (lv' := [(1, .int k0), (0, .ref q_o)]) hx hb dX7_term_43 rfl hl (by decide) rfl (fun ls hl => ?_)
        refine lv_aload_n hx hb dX7_term_44 rfl (lv_at hl 1 rfl) ?_
        refine lv_dup hx hb dX7_term_45 rfl ?_
        refine va_get (D := D) (ci := 7) (v := .int o_position) (C := RX7) (T := TX7) (N := 19) hx hb hts f_inX7 hown hK hP 0 rfl rfl 4 (by decide) f_f51 (fun _ h9 => h9) rfl dX7_term_46 ?_
        refine lv_iconst (v := 1) hx hb dX7_term_49 (by decide) ?_
        refine lv_iadd hx hb dX7_term_50 ?_
        refine lv_topi (fun v3 ev3 => ?_)
        have hF := nm_o hF v3 ev3
        refine va_put (D := D) (ci := 7) (v := .int v3) (ty := .int) (C := RX7) (T := TX7) (N := 19) hx hb hts f_inX7 tyX7 tyX7_ok nmX7 hown hK hP hD hS 0 rfl rfl 4 (by decide) f_f51 (fun _ h9 => h9) rfl (by decide +kernel) rfl rfl (Nat.le_of_ble_eq_true rfl) dX7_term_51 (fun H locs hP hD hS => ?_)
        have hP : va_P D vwCl [(q_o, .inr (7, [x_o_thrown, .ref q_o_buffer, x_o_bufferLength, .int o_textLength, .int v3, .int o_error, .int o_errorAt, x_o_errorOffset, x_o_data, .ref q_o_draft, x_o_aside, x_o_history, x_o_undoDepth, .int o_numberStart, .int o_nesting, x_o_seen, x_o_toldPlanes, x_o_stack, x_o_facts])), (q_o_buffer, .inl (cy 0, 800, .inl o_buffer)), (q_o_draft, .inl (cy 0, 2243, .inl o_draft))] H := hP
        have hD : va_D A [(q_o, .inr (7, [x_o_thrown, .ref q_o_buffer, x_o_bufferLength, .int o_textLength, .int v3, .int o_error, .int o_errorAt, x_o_errorOffset, x_o_data, .ref q_o_draft, x_o_aside, x_o_history, x_o_undoDepth, .int o_numberStart, .int o_nesting, x_o_seen, x_o_toldPlanes, x_o_stack, x_o_facts])), (q_o_buffer, .inl (cy 0, 800, .inl o_buffer)), (q_o_draft, .inl (cy 0, 2243, .inl o_draft))] := hD
        refine lv_aload_n hx hb dX7_term_54 rfl (lv_at hl 1 rfl) ?_
        obtain ⟨o4, o5, o6, o7, o8, o9, h10, hF⟩ := bn6_o hF
        refine kd_v [(q_o, .inr (7, [x_o_thrown, .ref q_o_buffer, x_o_bufferLength, .int o_textLength, .int o4, .int o5, .int o6, x_o_errorOffset, x_o_data, .ref q_o_draft, x_o_aside, x_o_history, x_o_undoDepth, .int o7, .int o8, x_o_seen, x_o_toldPlanes, x_o_stack, x_o_facts])), (q_o_buffer, .inl (cy 0, 800, .inl o_buffer)), (q_o_draft, .inl (cy 0, 2243, .inl o9))] (va_runV (As := []) (rest := []) ⟨hx, hb, hml, hown, hts⟩ (hf0 q_o q_o_buffer q_o_draft H.size x_o_thrown x_o_bufferLength x_o_errorOffset x_o_data x_o_aside x_o_history x_o_undoDepth x_o_seen x_o_toldPlanes x_o_stack x_o_facts o_textLength v3 o_error o_errorAt o_numberStart o_nesting o_buffer o_draft _ h10) (cwV 0 hts gX7_term_X7_factor rfl rfl rfl kd_X7_factor ⟨by dsimp only; omega, by dsimp only; omega⟩) ⟨kP_blind (EN_ok D cy) D _ _ _, va_recv hK hP (ci := 7) (q0 := 0) rfl rfl, kStart (EN_ok D cy) hE hP hD hS hA [0, 1, 2] rfl rfl _⟩ rfl rfl hl.1 rfl (lv_room (Nat.le_of_ble_eq_true rfl)) dX7_term_55 ⟨Nat.zero_le _, Nat.zero_le _⟩) hP hD hS hA [0, 1, 2] [] rfl rfl rfl 3 rfl (by decide +kernel) (fun H locs hP hD hS => ?_)
        refine lv_aload_n hx hb dX7_term_58 rfl (lv_at hl 1 rfl) ?_
        refine lv_iload_n hx hb dX7_term_59 rfl (lv_at hl 0 rfl) ?_
        refine lv_if_eq (tgt := 67) hx hb dX7_term_60 (by decide) (fun c11 => ?_) (fun c11 => ?_)
        · have hF := if_p hF c11
          refine lv_iconst (v := 5) hx hb dX7_term_67 (by decide) ?_
          exact J68 (5 : Int32) o4 o5 o6 o7 o8 o9 H locs ls hP hD hS (lv_sub hl [1] rfl) hF
        · have hF := if_n hF c11
          refine lv_iconst (v := 4) hx hb dX7_term_63 (by decide) ?_
          refine lv_goto (tgt := 68) hx hb dX7_term_64 (by decide) ?_
          exact J68 (4 : Int32) o4 o5 o6 o7 o8 o9 H locs ls hP hD hS (lv_sub hl [1] rfl) hF
      have J29 : ∀ (o_position : Int32) (o_error : Int32) (o_errorAt : Int32) (o_numberStart : Int32) (o_nesting : Int32) (o_draft : Nat → Int32) (H : Heap) (locs : List Loc) (ls : Array Slot), va_P D vwCl [(q_o, .inr (7, [x_o_thrown, .ref q_o_buffer, x_o_bufferLength, .int o_textLength, .int o_position, .int o_error, .int o_errorAt, x_o_errorOffset, x_o_data, .ref q_o_draft, x_o_aside, x_o_history, x_o_undoDepth, .int o_numberStart, .int o_nesting, x_o_seen, x_o_toldPlanes, x_o_stack, x_o_facts])), (q_o_buffer, .inl (cy 0, 800, .inl o_buffer)), (q_o_draft, .inl (cy 0, 2243, .inl o_draft))] H → va_D A [(q_o, .inr (7, [x_o_thrown, .ref q_o_buffer, x_o_bufferLength, .int o_textLength, .int o_position, .int o_error, .int o_errorAt, x_o_errorOffset, x_o_data, .ref q_o_draft, x_o_aside, x_o_history, x_o_undoDepth, .int o_numberStart, .int o_nesting, x_o_seen, x_o_toldPlanes, x_o_stack, x_o_facts])), (q_o_buffer, .inl (cy 0, 800, .inl o_buffer)), (q_o_draft, .inl (cy 0, 2243, .inl o_draft))] → va_S A s.heap H locs → lv_has ls 2 [(0, .ref q_o)] → X7_term_J29 f0 o_textLength o_buffer (fun z0 z1 z2 z3 z4 z5 => X7_term_L4 f0 o_textLength o_buffer n4 z0 z1 z2 z3 z4 z5) o_position o_error o_errorAt o_numberStart o_nesting o_draft = some res → W p l e ({ frames := fr + 6, cells := 0, slots := 0, locals := lo + 146 } : Room) s m args below meth c H locs 0 0 QQ (F0 m 29 ls []) := by
        intro o_position o_error o_errorAt o_numberStart o_nesting o_draft H locs ls hP hD hS hl hF
        unfold X7_term_J29 at hF
        refine lv_aload_n hx hb dX7_term_29 rfl (lv_at hl 0 rfl) ?_
        obtain ⟨r12, o13, h14, hF⟩ := bn2_o hF
        refine kd_i [(q_o, .inr (7, [x_o_thrown, .ref q_o_buffer, x_o_bufferLength, .int o_textLength, .int o13, .int o_error, .int o_errorAt, x_o_errorOffset, x_o_data, .ref q_o_draft, x_o_aside, x_o_history, x_o_undoDepth, .int o_numberStart, .int o_nesting, x_o_seen, x_o_toldPlanes, x_o_stack, x_o_facts])), (q_o_buffer, .inl (cy 0, 800, .inl o_buffer)), (q_o_draft, .inl (cy 0, 2243, .inl o_draft))] (va_runV (As := []) (rest := []) ⟨hx, hb, hml, hown, hts⟩ (c_X7_ahead q_o q_o_buffer H.size x_o_thrown x_o_bufferLength (.int o_error) (.int o_errorAt) x_o_errorOffset x_o_data (.ref q_o_draft) x_o_aside x_o_history x_o_undoDepth (.int o_numberStart) (.int o_nesting) x_o_seen x_o_toldPlanes x_o_stack x_o_facts o_textLength o_position o_buffer _ h14) (cwV 0 hts gX7_term_X7_ahead rfl rfl rfl kd_X7_ahead ⟨by dsimp only; omega, by dsimp only; omega⟩) ⟨kP_blind (EN_ok D cy) D _ _ _, va_recv hK hP (ci := 7) (q0 := 0) rfl rfl, kStart (EN_ok D cy) hE hP hD hS hA [0, 1] rfl rfl _⟩ rfl rfl hl.1 rfl (lv_room (Nat.le_of_ble_eq_true rfl)) dX7_term_30 ⟨Nat.zero_le _, Nat.zero_le _⟩) hP hD hS hA [0, 1] [2] rfl rfl rfl 3 rfl (by decide +kernel) (fun H locs hP hD hS => ?_)
        refine lv_bipush (v := 42) hx hb dX7_term_33 (by decide) ?_
        refine lv_icmp_ne (tgt := 42) hx hb dX7_term_35 (by decide) (fun c15 => ?_) (fun c15 => ?_)
        · have hF := if_n hF c15
          refine lv_iconst (v := 0) hx hb dX7_term_42 (by decide) ?_
          exact J43 (0 : Int32) o13 o_error o_errorAt o_numberStart o_nesting o_draft H locs ls hP hD hS (lv_sub hl [0] rfl) hF
        · have hF := if_p hF c15
          refine lv_iconst (v := 1) hx hb dX7_term_38 (by decide) ?_
          refine lv_goto (tgt := 43) hx hb dX7_term_39 (by decide) ?_
          exact J43 (1 : Int32) o13 o_error o_errorAt o_numberStart o_nesting o_draft H locs ls hP hD hS (lv_sub hl [0] rfl) hF
      intro o_position o_error o_errorAt o_numberStart o_nesting o_draft H locs ls hP hD hS hl hF
      rw [X7_term_L4] at hF
      refine lv_aload_n hx hb dX7_term_4 rfl (lv_at hl 0 rfl) ?_
      obtain ⟨r16, h17, hF⟩ := bn1_o hF
      refine kd_i [(q_o, .inr (7, [x_o_thrown, .ref q_o_buffer, x_o_bufferLength, .int o_textLength, .int o_position, .int o_error, .int o_errorAt, x_o_errorOffset, x_o_data, .ref q_o_draft, x_o_aside, x_o_history, x_o_undoDepth, .int o_numberStart, .int o_nesting, x_o_seen, x_o_toldPlanes, x_o_stack, x_o_facts])), (q_o_buffer, .inl (cy 0, 800, .inl o_buffer)), (q_o_draft, .inl (cy 0, 2243, .inl o_draft))] (va_runV (As := []) (rest := []) ⟨hx, hb, hml, hown, hts⟩ (c_X7_isGood q_o H.size x_o_thrown (.ref q_o_buffer) x_o_bufferLength (.int o_textLength) (.int o_position) (.int o_errorAt) x_o_errorOffset x_o_data (.ref q_o_draft) x_o_aside x_o_history x_o_undoDepth (.int o_numberStart) (.int o_nesting) x_o_seen x_o_toldPlanes x_o_stack x_o_facts o_error _ h17) (cwV 0 hts gX7_term_X7_isGood rfl rfl rfl kd_X7_isGood ⟨by dsimp only; omega, by dsimp only; omega⟩) ⟨kP_blind (EN_ok D cy) D _ _ _, va_recv hK hP (ci := 7) (q0 := 0) rfl rfl, kStart (EN_ok D cy) hE hP hD hS hA [0] rfl rfl _⟩ rfl rfl hl.1 rfl (lv_room (Nat.le_of_ble_eq_true rfl)) dX7_term_5 ⟨Nat.zero_le _, Nat.zero_le _⟩) hP hD hS hA [0] [1, 2] rfl rfl rfl 3 rfl (by decide +kernel) (fun H locs hP hD hS => ?_)
      refine lv_if_eq (tgt := 74) hx hb dX7_term_8 (by decide) (fun c18 => ?_) (fun c18 => ?_)
      · have hF := if_p hF c18
        obtain rfl := so_o hF
        rw [hQQ]
        exact kr_v hx hb hr hlocks hP hD hS dX7_term_74
      · have hF := if_n hF c18
        refine lv_aload_n hx hb dX7_term_11 rfl (lv_at hl 0 rfl) ?_
        obtain ⟨r19, o20, h21, hF⟩ := bn2_o hF
        refine kd_i [(q_o, .inr (7, [x_o_thrown, .ref q_o_buffer, x_o_bufferLength, .int o_textLength, .int o20, .int o_error, .int o_errorAt, x_o_errorOffset, x_o_data, .ref q_o_draft, x_o_aside, x_o_history, x_o_undoDepth, .int o_numberStart, .int o_nesting, x_o_seen, x_o_toldPlanes, x_o_stack, x_o_facts])), (q_o_buffer, .inl (cy 0, 800, .inl o_buffer)), (q_o_draft, .inl (cy 0, 2243, .inl o_draft))] (va_runV (As := []) (rest := []) ⟨hx, hb, hml, hown, hts⟩ (c_X7_ahead q_o q_o_buffer H.size x_o_thrown x_o_bufferLength (.int o_error) (.int o_errorAt) x_o_errorOffset x_o_data (.ref q_o_draft) x_o_aside x_o_history x_o_undoDepth (.int o_numberStart) (.int o_nesting) x_o_seen x_o_toldPlanes x_o_stack x_o_facts o_textLength o_position o_buffer _ h21) (cwV 0 hts gX7_term_X7_ahead rfl rfl rfl kd_X7_ahead ⟨by dsimp only; omega, by dsimp only; omega⟩) ⟨kP_blind (EN_ok D cy) D _ _ _, va_recv hK hP (ci := 7) (q0 := 0) rfl rfl, kStart (EN_ok D cy) hE hP hD hS hA [0, 1] rfl rfl _⟩ rfl rfl hl.1 rfl (lv_room (Nat.le_of_ble_eq_true rfl)) dX7_term_12 ⟨Nat.zero_le _, Nat.zero_le _⟩) hP hD hS hA [0, 1] [2] rfl rfl rfl 3 rfl (by decide +kernel) (fun H locs hP hD hS => ?_)
        refine lv_bipush (v := 42) hx hb dX7_term_15 (by decide) ?_
        refine lv_icmp_eq (tgt := 29) hx hb dX7_term_17 (by decide) (fun c22 => ?_) (fun c22 => ?_)
        · have hF := if_p hF c22
          exact J29 o20 o_error o_errorAt o_numberStart o_nesting o_draft H locs ls hP hD hS (lv_sub hl [0] rfl) hF
        · have hF := if_n hF c22
          refine lv_aload_n hx hb dX7_term_20 rfl (lv_at hl 0 rfl) ?_
          obtain ⟨r23, o24, h25, hF⟩ := bn2_o hF
          refine kd_i [(q_o, .inr (7, [x_o_thrown, .ref q_o_buffer, x_o_bufferLength, .int o_textLength, .int o24, .int o_error, .int o_errorAt, x_o_errorOffset, x_o_data, .ref q_o_draft, x_o_aside, x_o_history, x_o_undoDepth, .int o_numberStart, .int o_nesting, x_o_seen, x_o_toldPlanes, x_o_stack, x_o_facts])), (q_o_buffer, .inl (cy 0, 800, .inl o_buffer)), (q_o_draft, .inl (cy 0, 2243, .inl o_draft))] (va_runV (As := []) (rest := []) ⟨hx, hb, hml, hown, hts⟩ (c_X7_ahead q_o q_o_buffer H.size x_o_thrown x_o_bufferLength (.int o_error) (.int o_errorAt) x_o_errorOffset x_o_data (.ref q_o_draft) x_o_aside x_o_history x_o_undoDepth (.int o_numberStart) (.int o_nesting) x_o_seen x_o_toldPlanes x_o_stack x_o_facts o_textLength o20 o_buffer _ h25) (cwV 0 hts gX7_term_X7_ahead rfl rfl rfl kd_X7_ahead ⟨by dsimp only; omega, by dsimp only; omega⟩) ⟨kP_blind (EN_ok D cy) D _ _ _, va_recv hK hP (ci := 7) (q0 := 0) rfl rfl, kStart (EN_ok D cy) hE hP hD hS hA [0, 1] rfl rfl _⟩ rfl rfl hl.1 rfl (lv_room (Nat.le_of_ble_eq_true rfl)) dX7_term_21 ⟨Nat.zero_le _, Nat.zero_le _⟩) hP hD hS hA [0, 1] [2] rfl rfl rfl 3 rfl (by decide +kernel) (fun H locs hP hD hS => ?_)
          refine lv_bipush (v := 47) hx hb dX7_term_24 (by decide) ?_
          refine lv_icmp_ne (tgt := 74) hx hb dX7_term_26 (by decide) (fun c26 => ?_) (fun c26 => ?_)
          · have hF := if_n hF c26
            obtain rfl := so_o hF
            rw [hQQ]
            exact kr_v hx hb hr hlocks hP hD hS dX7_term_74
          · have hF := if_p hF c26
            exact J29 o24 o_error o_errorAt o_numberStart o_nesting o_draft H locs ls hP hD hS (lv_sub hl [0] rfl) hF
  have main : ∀ (H : Heap) (locs : List Loc) (ls : Array Slot), va_P D vwCl [(q_o, .inr (7, [x_o_thrown, .ref q_o_buffer, x_o_bufferLength, .int o_textLength, .int o_position, .int o_error, .int o_errorAt, x_o_errorOffset, x_o_data, .ref q_o_draft, x_o_aside, x_o_history, x_o_undoDepth, .int o_numberStart, .int o_nesting, x_o_seen, x_o_toldPlanes, x_o_stack, x_o_facts])), (q_o_buffer, .inl (cy 0, 800, .inl o_buffer)), (q_o_draft, .inl (cy 0, 2243, .inl o_draft))] H → va_D A [(q_o, .inr (7, [x_o_thrown, .ref q_o_buffer, x_o_bufferLength, .int o_textLength, .int o_position, .int o_error, .int o_errorAt, x_o_errorOffset, x_o_data, .ref q_o_draft, x_o_aside, x_o_history, x_o_undoDepth, .int o_numberStart, .int o_nesting, x_o_seen, x_o_toldPlanes, x_o_stack, x_o_facts])), (q_o_buffer, .inl (cy 0, 800, .inl o_buffer)), (q_o_draft, .inl (cy 0, 2243, .inl o_draft))] → va_S A s.heap H locs → lv_has ls 2 [(0, .ref q_o)] → W p l e ({ frames := fr + 6, cells := 0, slots := 0, locals := lo + 146 } : Room) s m args below meth c H locs 0 0 QQ (F0 m 0 ls []) := by
    intro H locs ls hP hD hS hl
    unfold X7_term at hF
    refine lv_aload_n hx hb dX7_term_0 rfl (lv_at hl 0 rfl) ?_
    obtain ⟨o27, o28, o29, o30, o31, o32, h33, hF⟩ := bn6_o hF
    refine kd_v [(q_o, .inr (7, [x_o_thrown, .ref q_o_buffer, x_o_bufferLength, .int o_textLength, .int o27, .int o28, .int o29, x_o_errorOffset, x_o_data, .ref q_o_draft, x_o_aside, x_o_history, x_o_undoDepth, .int o30, .int o31, x_o_seen, x_o_toldPlanes, x_o_stack, x_o_facts])), (q_o_buffer, .inl (cy 0, 800, .inl o_buffer)), (q_o_draft, .inl (cy 0, 2243, .inl o32))] (va_runV (As := []) (rest := []) ⟨hx, hb, hml, hown, hts⟩ (hf0 q_o q_o_buffer q_o_draft H.size x_o_thrown x_o_bufferLength x_o_errorOffset x_o_data x_o_aside x_o_history x_o_undoDepth x_o_seen x_o_toldPlanes x_o_stack x_o_facts o_textLength o_position o_error o_errorAt o_numberStart o_nesting o_buffer o_draft _ h33) (cwV 0 hts gX7_term_X7_factor rfl rfl rfl kd_X7_factor ⟨by dsimp only; omega, by dsimp only; omega⟩) ⟨kP_blind (EN_ok D cy) D _ _ _, va_recv hK hP (ci := 7) (q0 := 0) rfl rfl, kStart (EN_ok D cy) hE hP hD hS hA [0, 1, 2] rfl rfl _⟩ rfl rfl hl.1 rfl (lv_room (Nat.le_of_ble_eq_true rfl)) dX7_term_1 ⟨Nat.zero_le _, Nat.zero_le _⟩) hP hD hS hA [0, 1, 2] [] rfl rfl rfl 3 rfl (by decide +kernel) (fun H locs hP hD hS => ?_)
    exact J4 FU o27 o28 o29 o30 o31 o32 H locs ls hP hD hS (lv_sub hl [0] rfl) hF
  exact main s.heap [] ls hP hD hS hl
set_option maxHeartbeats 4000000 in
set_option maxRecDepth 100000 in
theorem b_X7_readSum {l : Launch} {D : va_G} {cy : Nat → ClassId} (fr lo : Nat) (f1 : Int32 → Int32 → Int32 → Int32 → Int32 → Int32 → (Nat → Int32) → (Nat → Int32) → Option (Int32 × Int32 × Int32 × Int32 × Int32 × (Nat → Int32))) (hf1 : ∀ (q_o q_o_buffer q_o_draft : Nat) (sz : Nat) (x_o_thrown x_o_bufferLength x_o_errorOffset x_o_data x_o_aside x_o_history x_o_undoDepth x_o_seen x_o_toldPlanes x_o_stack x_o_facts : Value) (o_textLength : Int32) (o_position : Int32) (o_error : Int32) (o_errorAt : Int32) (o_numberStart : Int32) (o_nesting : Int32) (o_buffer : Nat → Int32) (o_draft : Nat → Int32) (res : Int32 × Int32 × Int32 × Int32 × Int32 × (Nat → Int32)), f1 o_textLength o_position o_error o_errorAt o_numberStart o_nesting o_buffer o_draft = some res → Met l yX7_term wsX7_term ({ frames := fr, cells := 0, slots := 0, locals := lo } : Room) (kP (EN D cy) D [.ref q_o] [(q_o, .inr (7, [x_o_thrown, .ref q_o_buffer, x_o_bufferLength, .int o_textLength, .int o_position, .int o_error, .int o_errorAt, x_o_errorOffset, x_o_data, .ref q_o_draft, x_o_aside, x_o_history, x_o_undoDepth, .int o_numberStart, .int o_nesting, x_o_seen, x_o_toldPlanes, x_o_stack, x_o_facts])), (q_o_buffer, .inl (cy 0, 800, .inl o_buffer)), (q_o_draft, .inl (cy 0, 2243, .inl o_draft))] sz) (kQv D [(q_o, .inr (7, [x_o_thrown, .ref q_o_buffer, x_o_bufferLength, .int o_textLength, .int res.1, .int res.2.1, .int res.2.2.1, x_o_errorOffset, x_o_data, .ref q_o_draft, x_o_aside, x_o_history, x_o_undoDepth, .int res.2.2.2.1, .int res.2.2.2.2.1, x_o_seen, x_o_toldPlanes, x_o_stack, x_o_facts])), (q_o_buffer, .inl (cy 0, 800, .inl o_buffer)), (q_o_draft, .inl (cy 0, 2243, .inl res.2.2.2.2.2))] (va_A [(q_o, .inr (7, [x_o_thrown, .ref q_o_buffer, x_o_bufferLength, .int o_textLength, .int o_position, .int o_error, .int o_errorAt, x_o_errorOffset, x_o_data, .ref q_o_draft, x_o_aside, x_o_history, x_o_undoDepth, .int o_numberStart, .int o_nesting, x_o_seen, x_o_toldPlanes, x_o_stack, x_o_facts])), (q_o_buffer, .inl (cy 0, 800, .inl o_buffer)), (q_o_draft, .inl (cy 0, 2243, .inl o_draft))] sz)) 0 0 (va_A [(q_o, .inr (7, [x_o_thrown, .ref q_o_buffer, x_o_bufferLength, .int o_textLength, .int o_position, .int o_error, .int o_errorAt, x_o_errorOffset, x_o_data, .ref q_o_draft, x_o_aside, x_o_history, x_o_undoDepth, .int o_numberStart, .int o_nesting, x_o_seen, x_o_toldPlanes, x_o_stack, x_o_facts])), (q_o_buffer, .inl (cy 0, 800, .inl o_buffer)), (q_o_draft, .inl (cy 0, 2243, .inl o_draft))] sz)) (q_o q_o_buffer q_o_draft : Nat) (sz : Nat) (x_o_thrown x_o_bufferLength x_o_errorOffset x_o_data x_o_aside x_o_history x_o_undoDepth x_o_seen x_o_toldPlanes x_o_stack x_o_facts : Value) (o_textLength : Int32) (o_position : Int32) (o_error : Int32) (o_errorAt : Int32) (o_numberStart : Int32) (o_nesting : Int32) (o_buffer : Nat → Int32) (o_draft : Nat → Int32) (res : Int32 × Int32 × Int32 × Int32 × Int32 × (Nat → Int32)) (hF : X7_readSum_b f1 o_textLength o_position o_error o_errorAt o_numberStart o_nesting o_buffer o_draft = some res) : Met l yX7_readSum wsX7_readSum ({ frames := fr + 7, cells := 0, slots := 0, locals := lo + 167 } : Room) (kP (EN D cy) D [.ref q_o] [(q_o, .inr (7, [x_o_thrown, .ref q_o_buffer, x_o_bufferLength, .int o_textLength, .int o_position, .int o_error, .int o_errorAt, x_o_errorOffset, x_o_data, .ref q_o_draft, x_o_aside, x_o_history, x_o_undoDepth, .int o_numberStart, .int o_nesting, x_o_seen, x_o_toldPlanes, x_o_stack, x_o_facts])), (q_o_buffer, .inl (cy 0, 800, .inl o_buffer)), (q_o_draft, .inl (cy 0, 2243, .inl o_draft))] sz) (kQv D [(q_o, .inr (7, [x_o_thrown, .ref q_o_buffer, x_o_bufferLength, .int o_textLength, .int res.1, .int res.2.1, .int res.2.2.1, x_o_errorOffset, x_o_data, .ref q_o_draft, x_o_aside, x_o_history, x_o_undoDepth, .int res.2.2.2.1, .int res.2.2.2.2.1, x_o_seen, x_o_toldPlanes, x_o_stack, x_o_facts])), (q_o_buffer, .inl (cy 0, 800, .inl o_buffer)), (q_o_draft, .inl (cy 0, 2243, .inl res.2.2.2.2.2))] (va_A [(q_o, .inr (7, [x_o_thrown, .ref q_o_buffer, x_o_bufferLength, .int o_textLength, .int o_position, .int o_error, .int o_errorAt, x_o_errorOffset, x_o_data, .ref q_o_draft, x_o_aside, x_o_history, x_o_undoDepth, .int o_numberStart, .int o_nesting, x_o_seen, x_o_toldPlanes, x_o_stack, x_o_facts])), (q_o_buffer, .inl (cy 0, 800, .inl o_buffer)), (q_o_draft, .inl (cy 0, 2243, .inl o_draft))] sz)) 0 0 (va_A [(q_o, .inr (7, [x_o_thrown, .ref q_o_buffer, x_o_bufferLength, .int o_textLength, .int o_position, .int o_error, .int o_errorAt, x_o_errorOffset, x_o_data, .ref q_o_draft, x_o_aside, x_o_history, x_o_undoDepth, .int o_numberStart, .int o_nesting, x_o_seen, x_o_toldPlanes, x_o_stack, x_o_facts])), (q_o_buffer, .inl (cy 0, 800, .inl o_buffer)), (q_o_draft, .inl (cy 0, 2243, .inl o_draft))] sz) := by
  refine kMet (y := yX7_readSum) (av := [.ref q_o]) (cc := cX7_readSum) (maxL := 2) (ret := none) (own := RX7) (Qc := fun A9 => (kQv D [(q_o, .inr (7, [x_o_thrown, .ref q_o_buffer, x_o_bufferLength, .int o_textLength, .int res.1, .int res.2.1, .int res.2.2.1, x_o_errorOffset, x_o_data, .ref q_o_draft, x_o_aside, x_o_history, x_o_undoDepth, .int res.2.2.2.1, .int res.2.2.2.2.1, x_o_seen, x_o_toldPlanes, x_o_stack, x_o_facts])), (q_o_buffer, .inl (cy 0, 800, .inl o_buffer)), (q_o_draft, .inl (cy 0, 2243, .inl res.2.2.2.2.2))] A9)) (by decide) rfl rfl (Nat.le_of_ble_eq_true rfl) ?_
  intro p e s m args below meth c A hx hb hr hts hown hml hlocks hname hE hP hD hA hsz ls hl
  have hK := hE.1
  have hl : lv_has ls 2 [(0, .ref q_o)] := hl
  have hS : va_S A s.heap s.heap [] := va_S.rf
  have f_f51 := hts (.fieldLink RX7 51 "PeepBoxModel" "position" "I") (by decide +kernel)
  have f_inX7 : ∀ w ∈ wsX70, w ∈ wsX7_readSum := by decide +kernel
  obtain ⟨QQ, hQQ⟩ : ∃ Q9, Q9 = MQ below (kQv D [(q_o, .inr (7, [x_o_thrown, .ref q_o_buffer, x_o_bufferLength, .int o_textLength, .int res.1, .int res.2.1, .int res.2.2.1, x_o_errorOffset, x_o_data, .ref q_o_draft, x_o_aside, x_o_history, x_o_undoDepth, .int res.2.2.2.1, .int res.2.2.2.2.1, x_o_seen, x_o_toldPlanes, x_o_stack, x_o_facts])), (q_o_buffer, .inl (cy 0, 800, .inl o_buffer)), (q_o_draft, .inl (cy 0, 2243, .inl res.2.2.2.2.2))] A) args s 0 0 A := ⟨_, rfl⟩
  rw [← hQQ]
  have J4 : ∀ (n4 : Nat) (o_position : Int32) (o_error : Int32) (o_errorAt : Int32) (o_numberStart : Int32) (o_nesting : Int32) (o_draft : Nat → Int32) (H : Heap) (locs : List Loc) (ls : Array Slot), va_P D vwCl [(q_o, .inr (7, [x_o_thrown, .ref q_o_buffer, x_o_bufferLength, .int o_textLength, .int o_position, .int o_error, .int o_errorAt, x_o_errorOffset, x_o_data, .ref q_o_draft, x_o_aside, x_o_history, x_o_undoDepth, .int o_numberStart, .int o_nesting, x_o_seen, x_o_toldPlanes, x_o_stack, x_o_facts])), (q_o_buffer, .inl (cy 0, 800, .inl o_buffer)), (q_o_draft, .inl (cy 0, 2243, .inl o_draft))] H → va_D A [(q_o, .inr (7, [x_o_thrown, .ref q_o_buffer, x_o_bufferLength, .int o_textLength, .int o_position, .int o_error, .int o_errorAt, x_o_errorOffset, x_o_data, .ref q_o_draft, x_o_aside, x_o_history, x_o_undoDepth, .int o_numberStart, .int o_nesting, x_o_seen, x_o_toldPlanes, x_o_stack, x_o_facts])), (q_o_buffer, .inl (cy 0, 800, .inl o_buffer)), (q_o_draft, .inl (cy 0, 2243, .inl o_draft))] → va_S A s.heap H locs → lv_has ls 2 [(0, .ref q_o)] → X7_readSum_L4 f1 o_textLength o_buffer n4 o_position o_error o_errorAt o_numberStart o_nesting o_draft = some res → W p l e ({ frames := fr + 7, cells := 0, slots := 0, locals := lo + 167 } : Room) s m args below meth c H locs 0 0 QQ (F0 m 4 ls []) := by
    intro n4
    induction n4 with
    | zero =>
      intro o_position o_error o_errorAt o_numberStart o_nesting o_draft H locs ls hP hD hS hl hF
      rw [X7_readSum_L4] at hF
      cases hF
    | succ n4 ih4 =>
      have J68 : ∀ (k1 : Int32) (o_position : Int32) (o_error : Int32) (o_errorAt : Int32) (o_numberStart : Int32) (o_nesting : Int32) (o_draft : Nat → Int32) (H : Heap) (locs : List Loc) (ls : Array Slot), va_P D vwCl [(q_o, .inr (7, [x_o_thrown, .ref q_o_buffer, x_o_bufferLength, .int o_textLength, .int o_position, .int o_error, .int o_errorAt, x_o_errorOffset, x_o_data, .ref q_o_draft, x_o_aside, x_o_history, x_o_undoDepth, .int o_numberStart, .int o_nesting, x_o_seen, x_o_toldPlanes, x_o_stack, x_o_facts])), (q_o_buffer, .inl (cy 0, 800, .inl o_buffer)), (q_o_draft, .inl (cy 0, 2243, .inl o_draft))] H → va_D A [(q_o, .inr (7, [x_o_thrown, .ref q_o_buffer, x_o_bufferLength, .int o_textLength, .int o_position, .int o_error, .int o_errorAt, x_o_errorOffset, x_o_data, .ref q_o_draft, x_o_aside, x_o_history, x_o_undoDepth, .int o_numberStart, .int o_nesting, x_o_seen, x_o_toldPlanes, x_o_stack, x_o_facts])), (q_o_buffer, .inl (cy 0, 800, .inl o_buffer)), (q_o_draft, .inl (cy 0, 2243, .inl o_draft))] → va_S A s.heap H locs → lv_has ls 2 [(0, .ref q_o)] → X7_readSum_J68 f1 o_textLength o_buffer (fun z0 z1 z2 z3 z4 z5 => X7_readSum_L4 f1 o_textLength o_buffer n4 z0 z1 z2 z3 z4 z5) k1 o_position o_error o_errorAt o_numberStart o_nesting o_draft = some res → W p l e ({ frames := fr + 7, cells := 0, slots := 0, locals := lo + 167 } : Room) s m args below meth c H locs 0 0 QQ (F0 m 68 ls [.int k1, .ref q_o]) := by
        intro k1 o_position o_error o_errorAt o_numberStart o_nesting o_draft H locs ls hP hD hS hl hF
        unfold X7_readSum_J68 at hF
        obtain ⟨o1, h2, hF⟩ := bn1_o hF
        refine kd_v [(q_o, .inr (7, [x_o_thrown, .ref q_o_buffer, x_o_bufferLength, .int o_textLength, .int o_position, .int o_error, .int o_errorAt, x_o_errorOffset, x_o_data, .ref q_o_draft, x_o_aside, x_o_history, x_o_undoDepth, .int o_numberStart, .int o_nesting, x_o_seen, x_o_toldPlanes, x_o_stack, x_o_facts])), (q_o_buffer, .inl (cy 0, 800, .inl o_buffer)), (q_o_draft, .inl (cy 0, 2243, .inl o1))] (va_runV (As := [.int k1]) (rest := []) ⟨hx, hb, hml, hown, hts⟩ (c_X7_emit q_o q_o_draft H.size x_o_thrown (.ref q_o_buffer) x_o_bufferLength (.int o_textLength) (.int o_position) (.int o_errorAt) x_o_errorOffset x_o_data x_o_aside x_o_history x_o_undoDepth (.int o_numberStart) (.int o_nesting) x_o_seen x_o_toldPlanes x_o_stack x_o_facts o_error o_draft k1 _ h2) (cwV 1 hts gX7_readSum_X7_emit rfl rfl rfl kd_X7_emit ⟨by dsimp only; omega, by dsimp only; omega⟩) ⟨kP_blind (EN_ok D cy) D _ _ _, va_recv hK hP (ci := 7) (q0 := 0) rfl rfl, kStart (EN_ok D cy) hE hP hD hS hA [0, 2] rfl rfl _⟩ rfl rfl hl.1 rfl (lv_room (Nat.le_of_ble_eq_true rfl)) dX7_readSum_68 ⟨Nat.zero_le _, Nat.zero_le _⟩) hP hD hS hA [0, 2] [1] rfl rfl rfl 3 rfl (by decide +kernel) (fun H locs hP hD hS => ?_)
        refine lv_goto (tgt := 4) hx hb dX7_readSum_71 (by decide) ?_
        exact ih4 o_position o_error o_errorAt o_numberStart o_nesting o1 H locs ls hP hD hS (lv_sub hl [0] rfl) hF
      have J43 : ∀ (k0 : Int32) (o_position : Int32) (o_error : Int32) (o_errorAt : Int32) (o_numberStart : Int32) (o_nesting : Int32) (o_draft : Nat → Int32) (H : Heap) (locs : List Loc) (ls : Array Slot), va_P D vwCl [(q_o, .inr (7, [x_o_thrown, .ref q_o_buffer, x_o_bufferLength, .int o_textLength, .int o_position, .int o_error, .int o_errorAt, x_o_errorOffset, x_o_data, .ref q_o_draft, x_o_aside, x_o_history, x_o_undoDepth, .int o_numberStart, .int o_nesting, x_o_seen, x_o_toldPlanes, x_o_stack, x_o_facts])), (q_o_buffer, .inl (cy 0, 800, .inl o_buffer)), (q_o_draft, .inl (cy 0, 2243, .inl o_draft))] H → va_D A [(q_o, .inr (7, [x_o_thrown, .ref q_o_buffer, x_o_bufferLength, .int o_textLength, .int o_position, .int o_error, .int o_errorAt, x_o_errorOffset, x_o_data, .ref q_o_draft, x_o_aside, x_o_history, x_o_undoDepth, .int o_numberStart, .int o_nesting, x_o_seen, x_o_toldPlanes, x_o_stack, x_o_facts])), (q_o_buffer, .inl (cy 0, 800, .inl o_buffer)), (q_o_draft, .inl (cy 0, 2243, .inl o_draft))] → va_S A s.heap H locs → lv_has ls 2 [(0, .ref q_o)] → X7_readSum_J43 f1 o_textLength o_buffer (fun z0 z1 z2 z3 z4 z5 => X7_readSum_L4 f1 o_textLength o_buffer n4 z0 z1 z2 z3 z4 z5) k0 o_position o_error o_errorAt o_numberStart o_nesting o_draft = some res → W p l e ({ frames := fr + 7, cells := 0, slots := 0, locals := lo + 167 } : Room) s m args below meth c H locs 0 0 QQ (F0 m 43 ls [.int k0]) := by
        intro k0 o_position o_error o_errorAt o_numberStart o_nesting o_draft H locs ls hP hD hS hl hF
        unfold X7_readSum_J43 at hF
        refine lv_istore_n (lv' := [(1, .int k0), (0, .ref q_o)]) hx hb dX7_readSum_43 rfl hl (by decide) rfl (fun ls hl => ?_)
        refine lv_aload_n hx hb dX7_readSum_44 rfl (lv_at hl 1 rfl) ?_
        refine lv_dup hx hb dX7_readSum_45 rfl ?_
        refine va_get (D := D) (ci := 7) (v := .int o_position) (C := RX7) (T := TX7) (N := 19) hx hb hts f_inX7 hown hK hP 0 rfl rfl 4 (by decide) f_f51 (fun _ h9 => h9) rfl dX7_readSum_46 ?_
        refine lv_iconst (v := 1) hx hb dX7_readSum_49 (by decide) ?_
        refine lv_iadd hx hb dX7_readSum_50 ?_
        refine lv_topi (fun v3 ev3 => ?_)
        have hF := nm_o hF v3 ev3
        refine va_put (D := D) (ci := 7) (v := .int v3) (ty := .int) (C := RX7) (T := TX7) (N := 19) hx hb hts f_inX7 tyX7 tyX7_ok nmX7 hown hK hP hD hS 0 rfl rfl 4 (by decide) f_f51 (fun _ h9 => h9) rfl (by decide +kernel) rfl rfl (Nat.le_of_ble_eq_true rfl) dX7_readSum_51 (fun H locs hP hD hS => ?_)
        have hP : va_P D vwCl [(q_o, .inr (7, [x_o_thrown, .ref q_o_buffer, x_o_bufferLength, .int o_textLength, .int v3, .int o_error, .int o_errorAt, x_o_errorOffset, x_o_data, .ref q_o_draft, x_o_aside, x_o_history, x_o_undoDepth, .int o_numberStart, .int o_nesting, x_o_seen, x_o_toldPlanes, x_o_stack, x_o_facts])), (q_o_buffer, .inl (cy 0, 800, .inl o_buffer)), (q_o_draft, .inl (cy 0, 2243, .inl o_draft))] H := hP
        have hD : va_D A [(q_o, .inr (7, [x_o_thrown, .ref q_o_buffer, x_o_bufferLength, .int o_textLength, .int v3, .int o_error, .int o_errorAt, x_o_errorOffset, x_o_data, .ref q_o_draft, x_o_aside, x_o_history, x_o_undoDepth, .int o_numberStart, .int o_nesting, x_o_seen, x_o_toldPlanes, x_o_stack, x_o_facts])), (q_o_buffer, .inl (cy 0, 800, .inl o_buffer)), (q_o_draft, .inl (cy 0, 2243, .inl o_draft))] := hD
        refine lv_aload_n hx hb dX7_readSum_54 rfl (lv_at hl 1 rfl) ?_
        obtain ⟨o4, o5, o6, o7, o8, o9, h10, hF⟩ := bn6_o hF
        refine kd_v [(q_o, .inr (7, [x_o_thrown, .ref q_o_buffer, x_o_bufferLength, .int o_textLength, .int o4, .int o5, .int o6, x_o_errorOffset, x_o_data, .ref q_o_draft, x_o_aside, x_o_history, x_o_undoDepth, .int o7, .int o8, x_o_seen, x_o_toldPlanes, x_o_stack, x_o_facts])), (q_o_buffer, .inl (cy 0, 800, .inl o_buffer)), (q_o_draft, .inl (cy 0, 2243, .inl o9))] (va_runV (As := []) (rest := []) ⟨hx, hb, hml, hown, hts⟩ (hf1 q_o q_o_buffer q_o_draft H.size x_o_thrown x_o_bufferLength x_o_errorOffset x_o_data x_o_aside x_o_history x_o_undoDepth x_o_seen x_o_toldPlanes x_o_stack x_o_facts o_textLength v3 o_error o_errorAt o_numberStart o_nesting o_buffer o_draft _ h10) (cwV 0 hts gX7_readSum_X7_term rfl rfl rfl kd_X7_term ⟨by dsimp only; omega, by dsimp only; omega⟩) ⟨kP_blind (EN_ok D cy) D _ _ _, va_recv hK hP (ci := 7) (q0 := 0) rfl rfl, kStart (EN_ok D cy) hE hP hD hS hA [0, 1, 2] rfl rfl _⟩ rfl rfl hl.1 rfl (lv_room (Nat.le_of_ble_eq_true rfl)) dX7_readSum_55 ⟨Nat.zero_le _, Nat.zero_le _⟩) hP hD hS hA [0, 1, 2] [] rfl rfl rfl 3 rfl (by decide +kernel) (fun H locs hP hD hS => ?_)
        refine lv_aload_n hx hb dX7_readSum_58 rfl (lv_at hl 1 rfl) ?_
        refine lv_iload_n hx hb dX7_readSum_59 rfl (lv_at hl 0 rfl) ?_
        refine lv_if_eq (tgt := 67) hx hb dX7_readSum_60 (by decide) (fun c11 => ?_) (fun c11 => ?_)
        · have hF := if_p hF c11
          refine lv_iconst (v := 3) hx hb dX7_readSum_67 (by decide) ?_
          exact J68 (3 : Int32) o4 o5 o6 o7 o8 o9 H locs ls hP hD hS (lv_sub hl [1] rfl) hF
        · have hF := if_n hF c11
          refine lv_iconst (v := 2) hx hb dX7_readSum_63 (by decide) ?_
          refine lv_goto (tgt := 68) hx hb dX7_readSum_64 (by decide) ?_
          exact J68 (2 : Int32) o4 o5 o6 o7 o8 o9 H locs ls hP hD hS (lv_sub hl [1] rfl) hF
      have J29 : ∀ (o_position : Int32) (o_error : Int32) (o_errorAt : Int32) (o_numberStart : Int32) (o_nesting : Int32) (o_draft : Nat → Int32) (H : Heap) (locs : List Loc) (ls : Array Slot), va_P D vwCl [(q_o, .inr (7, [x_o_thrown, .ref q_o_buffer, x_o_bufferLength, .int o_textLength, .int o_position, .int o_error, .int o_errorAt, x_o_errorOffset, x_o_data, .ref q_o_draft, x_o_aside, x_o_history, x_o_undoDepth, .int o_numberStart, .int o_nesting, x_o_seen, x_o_toldPlanes, x_o_stack, x_o_facts])), (q_o_buffer, .inl (cy 0, 800, .inl o_buffer)), (q_o_draft, .inl (cy 0, 2243, .inl o_draft))] H → va_D A [(q_o, .inr (7, [x_o_thrown, .ref q_o_buffer, x_o_bufferLength, .int o_textLength, .int o_position, .int o_error, .int o_errorAt, x_o_errorOffset, x_o_data, .ref q_o_draft, x_o_aside, x_o_history, x_o_undoDepth, .int o_numberStart, .int o_nesting, x_o_seen, x_o_toldPlanes, x_o_stack, x_o_facts])), (q_o_buffer, .inl (cy 0, 800, .inl o_buffer)), (q_o_draft, .inl (cy 0, 2243, .inl o_draft))] → va_S A s.heap H locs → lv_has ls 2 [(0, .ref q_o)] → X7_readSum_J29 f1 o_textLength o_buffer (fun z0 z1 z2 z3 z4 z5 => X7_readSum_L4 f1 o_textLength o_buffer n4 z0 z1 z2 z3 z4 z5) o_position o_error o_errorAt o_numberStart o_nesting o_draft = some res → W p l e ({ frames := fr + 7, cells := 0, slots := 0, locals := lo + 167 } : Room) s m args below meth c H locs 0 0 QQ (F0 m 29 ls []) := by
        intro o_position o_error o_errorAt o_numberStart o_nesting o_draft H locs ls hP hD hS hl hF
        unfold X7_readSum_J29 at hF
        refine lv_aload_n hx hb dX7_readSum_29 rfl (lv_at hl 0 rfl) ?_
        obtain ⟨r12, o13, h14, hF⟩ := bn2_o hF
        refine kd_i [(q_o, .inr (7, [x_o_thrown, .ref q_o_buffer, x_o_bufferLength, .int o_textLength, .int o13, .int o_error, .int o_errorAt, x_o_errorOffset, x_o_data, .ref q_o_draft, x_o_aside, x_o_history, x_o_undoDepth, .int o_numberStart, .int o_nesting, x_o_seen, x_o_toldPlanes, x_o_stack, x_o_facts])), (q_o_buffer, .inl (cy 0, 800, .inl o_buffer)), (q_o_draft, .inl (cy 0, 2243, .inl o_draft))] (va_runV (As := []) (rest := []) ⟨hx, hb, hml, hown, hts⟩ (c_X7_ahead q_o q_o_buffer H.size x_o_thrown x_o_bufferLength (.int o_error) (.int o_errorAt) x_o_errorOffset x_o_data (.ref q_o_draft) x_o_aside x_o_history x_o_undoDepth (.int o_numberStart) (.int o_nesting) x_o_seen x_o_toldPlanes x_o_stack x_o_facts o_textLength o_position o_buffer _ h14) (cwV 0 hts gX7_readSum_X7_ahead rfl rfl rfl kd_X7_ahead ⟨by dsimp only; omega, by dsimp only; omega⟩) ⟨kP_blind (EN_ok D cy) D _ _ _, va_recv hK hP (ci := 7) (q0 := 0) rfl rfl, kStart (EN_ok D cy) hE hP hD hS hA [0, 1] rfl rfl _⟩ rfl rfl hl.1 rfl (lv_room (Nat.le_of_ble_eq_true rfl)) dX7_readSum_30 ⟨Nat.zero_le _, Nat.zero_le _⟩) hP hD hS hA [0, 1] [2] rfl rfl rfl 3 rfl (by decide +kernel) (fun H locs hP hD hS => ?_)
        refine lv_bipush (v := 43) hx hb dX7_readSum_33 (by decide) ?_
        refine lv_icmp_ne (tgt := 42) hx hb dX7_readSum_35 (by decide) (fun c15 => ?_) (fun c15 => ?_)
        · have hF := if_n hF c15
          refine lv_iconst (v := 0) hx hb dX7_readSum_42 (by decide) ?_
          exact J43 (0 : Int32) o13 o_error o_errorAt o_numberStart o_nesting o_draft H locs ls hP hD hS (lv_sub hl [0] rfl) hF
        · have hF := if_p hF c15
          refine lv_iconst (v := 1) hx hb dX7_readSum_38 (by decide) ?_
          refine lv_goto (tgt := 43) hx hb dX7_readSum_39 (by decide) ?_
          exact J43 (1 : Int32) o13 o_error o_errorAt o_numberStart o_nesting o_draft H locs ls hP hD hS (lv_sub hl [0] rfl) hF
      intro o_position o_error o_errorAt o_numberStart o_nesting o_draft H locs ls hP hD hS hl hF
      rw [X7_readSum_L4] at hF
      refine lv_aload_n hx hb dX7_readSum_4 rfl (lv_at hl 0 rfl) ?_
      obtain ⟨r16, h17, hF⟩ := bn1_o hF
      refine kd_i [(q_o, .inr (7, [x_o_thrown, .ref q_o_buffer, x_o_bufferLength, .int o_textLength, .int o_position, .int o_error, .int o_errorAt, x_o_errorOffset, x_o_data, .ref q_o_draft, x_o_aside, x_o_history, x_o_undoDepth, .int o_numberStart, .int o_nesting, x_o_seen, x_o_toldPlanes, x_o_stack, x_o_facts])), (q_o_buffer, .inl (cy 0, 800, .inl o_buffer)), (q_o_draft, .inl (cy 0, 2243, .inl o_draft))] (va_runV (As := []) (rest := []) ⟨hx, hb, hml, hown, hts⟩ (c_X7_isGood q_o H.size x_o_thrown (.ref q_o_buffer) x_o_bufferLength (.int o_textLength) (.int o_position) (.int o_errorAt) x_o_errorOffset x_o_data (.ref q_o_draft) x_o_aside x_o_history x_o_undoDepth (.int o_numberStart) (.int o_nesting) x_o_seen x_o_toldPlanes x_o_stack x_o_facts o_error _ h17) (cwV 0 hts gX7_readSum_X7_isGood rfl rfl rfl kd_X7_isGood ⟨by dsimp only; omega, by dsimp only; omega⟩) ⟨kP_blind (EN_ok D cy) D _ _ _, va_recv hK hP (ci := 7) (q0 := 0) rfl rfl, kStart (EN_ok D cy) hE hP hD hS hA [0] rfl rfl _⟩ rfl rfl hl.1 rfl (lv_room (Nat.le_of_ble_eq_true rfl)) dX7_readSum_5 ⟨Nat.zero_le _, Nat.zero_le _⟩) hP hD hS hA [0] [1, 2] rfl rfl rfl 3 rfl (by decide +kernel) (fun H locs hP hD hS => ?_)
      refine lv_if_eq (tgt := 74) hx hb dX7_readSum_8 (by decide) (fun c18 => ?_) (fun c18 => ?_)
      · have hF := if_p hF c18
        obtain rfl := so_o hF
        rw [hQQ]
        exact kr_v hx hb hr hlocks hP hD hS dX7_readSum_74
      · have hF := if_n hF c18
        refine lv_aload_n hx hb dX7_readSum_11 rfl (lv_at hl 0 rfl) ?_
        obtain ⟨r19, o20, h21, hF⟩ := bn2_o hF
        refine kd_i [(q_o, .inr (7, [x_o_thrown, .ref q_o_buffer, x_o_bufferLength, .int o_textLength, .int o20, .int o_error, .int o_errorAt, x_o_errorOffset, x_o_data, .ref q_o_draft, x_o_aside, x_o_history, x_o_undoDepth, .int o_numberStart, .int o_nesting, x_o_seen, x_o_toldPlanes, x_o_stack, x_o_facts])), (q_o_buffer, .inl (cy 0, 800, .inl o_buffer)), (q_o_draft, .inl (cy 0, 2243, .inl o_draft))] (va_runV (As := []) (rest := []) ⟨hx, hb, hml, hown, hts⟩ (c_X7_ahead q_o q_o_buffer H.size x_o_thrown x_o_bufferLength (.int o_error) (.int o_errorAt) x_o_errorOffset x_o_data (.ref q_o_draft) x_o_aside x_o_history x_o_undoDepth (.int o_numberStart) (.int o_nesting) x_o_seen x_o_toldPlanes x_o_stack x_o_facts o_textLength o_position o_buffer _ h21) (cwV 0 hts gX7_readSum_X7_ahead rfl rfl rfl kd_X7_ahead ⟨by dsimp only; omega, by dsimp only; omega⟩) ⟨kP_blind (EN_ok D cy) D _ _ _, va_recv hK hP (ci := 7) (q0 := 0) rfl rfl, kStart (EN_ok D cy) hE hP hD hS hA [0, 1] rfl rfl _⟩ rfl rfl hl.1 rfl (lv_room (Nat.le_of_ble_eq_true rfl)) dX7_readSum_12 ⟨Nat.zero_le _, Nat.zero_le _⟩) hP hD hS hA [0, 1] [2] rfl rfl rfl 3 rfl (by decide +kernel) (fun H locs hP hD hS => ?_)
        refine lv_bipush (v := 43) hx hb dX7_readSum_15 (by decide) ?_
        refine lv_icmp_eq (tgt := 29) hx hb dX7_readSum_17 (by decide) (fun c22 => ?_) (fun c22 => ?_)
        · have hF := if_p hF c22
          exact J29 o20 o_error o_errorAt o_numberStart o_nesting o_draft H locs ls hP hD hS (lv_sub hl [0] rfl) hF
        · have hF := if_n hF c22
          refine lv_aload_n hx hb dX7_readSum_20 rfl (lv_at hl 0 rfl) ?_
          obtain ⟨r23, o24, h25, hF⟩ := bn2_o hF
          refine kd_i [(q_o, .inr (7, [x_o_thrown, .ref q_o_buffer, x_o_bufferLength, .int o_textLength, .int o24, .int o_error, .int o_errorAt, x_o_errorOffset, x_o_data, .ref q_o_draft, x_o_aside, x_o_history, x_o_undoDepth, .int o_numberStart, .int o_nesting, x_o_seen, x_o_toldPlanes, x_o_stack, x_o_facts])), (q_o_buffer, .inl (cy 0, 800, .inl o_buffer)), (q_o_draft, .inl (cy 0, 2243, .inl o_draft))] (va_runV (As := []) (rest := []) ⟨hx, hb, hml, hown, hts⟩ (c_X7_ahead q_o q_o_buffer H.size x_o_thrown x_o_bufferLength (.int o_error) (.int o_errorAt) x_o_errorOffset x_o_data (.ref q_o_draft) x_o_aside x_o_history x_o_undoDepth (.int o_numberStart) (.int o_nesting) x_o_seen x_o_toldPlanes x_o_stack x_o_facts o_textLength o20 o_buffer _ h25) (cwV 0 hts gX7_readSum_X7_ahead rfl rfl rfl kd_X7_ahead ⟨by dsimp only; omega, by dsimp only; omega⟩) ⟨kP_blind (EN_ok D cy) D _ _ _, va_recv hK hP (ci := 7) (q0 := 0) rfl rfl, kStart (EN_ok D cy) hE hP hD hS hA [0, 1] rfl rfl _⟩ rfl rfl hl.1 rfl (lv_room (Nat.le_of_ble_eq_true rfl)) dX7_readSum_21 ⟨Nat.zero_le _, Nat.zero_le _⟩) hP hD hS hA [0, 1] [2] rfl rfl rfl 3 rfl (by decide +kernel) (fun H locs hP hD hS => ?_)
          refine lv_bipush (v := 45) hx hb dX7_readSum_24 (by decide) ?_
          refine lv_icmp_ne (tgt := 74) hx hb dX7_readSum_26 (by decide) (fun c26 => ?_) (fun c26 => ?_)
          · have hF := if_n hF c26
            obtain rfl := so_o hF
            rw [hQQ]
            exact kr_v hx hb hr hlocks hP hD hS dX7_readSum_74
          · have hF := if_p hF c26
            exact J29 o24 o_error o_errorAt o_numberStart o_nesting o_draft H locs ls hP hD hS (lv_sub hl [0] rfl) hF
  have main : ∀ (H : Heap) (locs : List Loc) (ls : Array Slot), va_P D vwCl [(q_o, .inr (7, [x_o_thrown, .ref q_o_buffer, x_o_bufferLength, .int o_textLength, .int o_position, .int o_error, .int o_errorAt, x_o_errorOffset, x_o_data, .ref q_o_draft, x_o_aside, x_o_history, x_o_undoDepth, .int o_numberStart, .int o_nesting, x_o_seen, x_o_toldPlanes, x_o_stack, x_o_facts])), (q_o_buffer, .inl (cy 0, 800, .inl o_buffer)), (q_o_draft, .inl (cy 0, 2243, .inl o_draft))] H → va_D A [(q_o, .inr (7, [x_o_thrown, .ref q_o_buffer, x_o_bufferLength, .int o_textLength, .int o_position, .int o_error, .int o_errorAt, x_o_errorOffset, x_o_data, .ref q_o_draft, x_o_aside, x_o_history, x_o_undoDepth, .int o_numberStart, .int o_nesting, x_o_seen, x_o_toldPlanes, x_o_stack, x_o_facts])), (q_o_buffer, .inl (cy 0, 800, .inl o_buffer)), (q_o_draft, .inl (cy 0, 2243, .inl o_draft))] → va_S A s.heap H locs → lv_has ls 2 [(0, .ref q_o)] → W p l e ({ frames := fr + 7, cells := 0, slots := 0, locals := lo + 167 } : Room) s m args below meth c H locs 0 0 QQ (F0 m 0 ls []) := by
    intro H locs ls hP hD hS hl
    unfold X7_readSum_b at hF
    refine lv_aload_n hx hb dX7_readSum_0 rfl (lv_at hl 0 rfl) ?_
    obtain ⟨o27, o28, o29, o30, o31, o32, h33, hF⟩ := bn6_o hF
    refine kd_v [(q_o, .inr (7, [x_o_thrown, .ref q_o_buffer, x_o_bufferLength, .int o_textLength, .int o27, .int o28, .int o29, x_o_errorOffset, x_o_data, .ref q_o_draft, x_o_aside, x_o_history, x_o_undoDepth, .int o30, .int o31, x_o_seen, x_o_toldPlanes, x_o_stack, x_o_facts])), (q_o_buffer, .inl (cy 0, 800, .inl o_buffer)), (q_o_draft, .inl (cy 0, 2243, .inl o32))] (va_runV (As := []) (rest := []) ⟨hx, hb, hml, hown, hts⟩ (hf1 q_o q_o_buffer q_o_draft H.size x_o_thrown x_o_bufferLength x_o_errorOffset x_o_data x_o_aside x_o_history x_o_undoDepth x_o_seen x_o_toldPlanes x_o_stack x_o_facts o_textLength o_position o_error o_errorAt o_numberStart o_nesting o_buffer o_draft _ h33) (cwV 0 hts gX7_readSum_X7_term rfl rfl rfl kd_X7_term ⟨by dsimp only; omega, by dsimp only; omega⟩) ⟨kP_blind (EN_ok D cy) D _ _ _, va_recv hK hP (ci := 7) (q0 := 0) rfl rfl, kStart (EN_ok D cy) hE hP hD hS hA [0, 1, 2] rfl rfl _⟩ rfl rfl hl.1 rfl (lv_room (Nat.le_of_ble_eq_true rfl)) dX7_readSum_1 ⟨Nat.zero_le _, Nat.zero_le _⟩) hP hD hS hA [0, 1, 2] [] rfl rfl rfl 3 rfl (by decide +kernel) (fun H locs hP hD hS => ?_)
    exact J4 FU o27 o28 o29 o30 o31 o32 H locs ls hP hD hS (lv_sub hl [0] rfl) hF
  exact main s.heap [] ls hP hD hS hl
set_option maxHeartbeats 4000000 in
theorem c_X7_readSum {l : Launch} {D : va_G} {cy : Nat → ClassId} : ∀ (d : Nat), ∀ (q_o q_o_buffer q_o_draft : Nat) (sz : Nat) (x_o_thrown x_o_bufferLength x_o_errorOffset x_o_data x_o_aside x_o_history x_o_undoDepth x_o_seen x_o_toldPlanes x_o_stack x_o_facts : Value) (o_textLength : Int32) (o_position : Int32) (o_error : Int32) (o_errorAt : Int32) (o_numberStart : Int32) (o_nesting : Int32) (o_buffer : Nat → Int32) (o_draft : Nat → Int32) (res : Int32 × Int32 × Int32 × Int32 × Int32 × (Nat → Int32)), X7_readSum d o_textLength o_position o_error o_errorAt o_numberStart o_nesting o_buffer o_draft = some res → Met l yX7_readSum wsX7_readSum ({ frames := 18 * d, cells := 0, slots := 0, locals := 436 * d } : Room) (kP (EN D cy) D [.ref q_o] [(q_o, .inr (7, [x_o_thrown, .ref q_o_buffer, x_o_bufferLength, .int o_textLength, .int o_position, .int o_error, .int o_errorAt, x_o_errorOffset, x_o_data, .ref q_o_draft, x_o_aside, x_o_history, x_o_undoDepth, .int o_numberStart, .int o_nesting, x_o_seen, x_o_toldPlanes, x_o_stack, x_o_facts])), (q_o_buffer, .inl (cy 0, 800, .inl o_buffer)), (q_o_draft, .inl (cy 0, 2243, .inl o_draft))] sz) (kQv D [(q_o, .inr (7, [x_o_thrown, .ref q_o_buffer, x_o_bufferLength, .int o_textLength, .int res.1, .int res.2.1, .int res.2.2.1, x_o_errorOffset, x_o_data, .ref q_o_draft, x_o_aside, x_o_history, x_o_undoDepth, .int res.2.2.2.1, .int res.2.2.2.2.1, x_o_seen, x_o_toldPlanes, x_o_stack, x_o_facts])), (q_o_buffer, .inl (cy 0, 800, .inl o_buffer)), (q_o_draft, .inl (cy 0, 2243, .inl res.2.2.2.2.2))] (va_A [(q_o, .inr (7, [x_o_thrown, .ref q_o_buffer, x_o_bufferLength, .int o_textLength, .int o_position, .int o_error, .int o_errorAt, x_o_errorOffset, x_o_data, .ref q_o_draft, x_o_aside, x_o_history, x_o_undoDepth, .int o_numberStart, .int o_nesting, x_o_seen, x_o_toldPlanes, x_o_stack, x_o_facts])), (q_o_buffer, .inl (cy 0, 800, .inl o_buffer)), (q_o_draft, .inl (cy 0, 2243, .inl o_draft))] sz)) 0 0 (va_A [(q_o, .inr (7, [x_o_thrown, .ref q_o_buffer, x_o_bufferLength, .int o_textLength, .int o_position, .int o_error, .int o_errorAt, x_o_errorOffset, x_o_data, .ref q_o_draft, x_o_aside, x_o_history, x_o_undoDepth, .int o_numberStart, .int o_nesting, x_o_seen, x_o_toldPlanes, x_o_stack, x_o_facts])), (q_o_buffer, .inl (cy 0, 800, .inl o_buffer)), (q_o_draft, .inl (cy 0, 2243, .inl o_draft))] sz) := by
  intro d
  induction d with
  | zero =>
    intros
    rename_i hF
    cases hF
  | succ d ih =>
    intro q_o q_o_buffer q_o_draft sz x_o_thrown x_o_bufferLength x_o_errorOffset x_o_data x_o_aside x_o_history x_o_undoDepth x_o_seen x_o_toldPlanes x_o_stack x_o_facts o_textLength o_position o_error o_errorAt o_numberStart o_nesting o_buffer o_draft res hF
    have h9 := b_X7_readSum _ _ (X7_term (X7_factor (X7_readSum d))) (fun q_o q_o_buffer q_o_draft sz x_o_thrown x_o_bufferLength x_o_errorOffset x_o_data x_o_aside x_o_history x_o_undoDepth x_o_seen x_o_toldPlanes x_o_stack x_o_facts o_textLength o_position o_error o_errorAt o_numberStart o_nesting o_buffer o_draft res hF => c_X7_term _ _ (X7_factor (X7_readSum d)) (fun q_o q_o_buffer q_o_draft sz x_o_thrown x_o_bufferLength x_o_errorOffset x_o_data x_o_aside x_o_history x_o_undoDepth x_o_seen x_o_toldPlanes x_o_stack x_o_facts o_textLength o_position o_error o_errorAt o_numberStart o_nesting o_buffer o_draft res hF => c_X7_factor _ _ (X7_readSum d) ih q_o q_o_buffer q_o_draft sz x_o_thrown x_o_bufferLength x_o_errorOffset x_o_data x_o_aside x_o_history x_o_undoDepth x_o_seen x_o_toldPlanes x_o_stack x_o_facts o_textLength o_position o_error o_errorAt o_numberStart o_nesting o_buffer o_draft res hF) q_o q_o_buffer q_o_draft sz x_o_thrown x_o_bufferLength x_o_errorOffset x_o_data x_o_aside x_o_history x_o_undoDepth x_o_seen x_o_toldPlanes x_o_stack x_o_facts o_textLength o_position o_error o_errorAt o_numberStart o_nesting o_buffer o_draft res hF) q_o q_o_buffer q_o_draft sz x_o_thrown x_o_bufferLength x_o_errorOffset x_o_data x_o_aside x_o_history x_o_undoDepth x_o_seen x_o_toldPlanes x_o_stack x_o_facts o_textLength o_position o_error o_errorAt o_numberStart o_nesting o_buffer o_draft res hF
    exact h9
theorem kd_X7_once : yX7_once.cls = RX7 ∧ yX7_once.cls ≠ "java/lang/invoke/MethodHandle" ∧ yX7_once.cls ≠ "java/lang/invoke/VarHandle" ∧ (parseMethodDescriptor yX7_once.desc).map (fun d => d.parameters.length) = some 2 := by decide +kernel
set_option maxHeartbeats 4000000 in
set_option maxRecDepth 100000 in
theorem c_X7_once {l : Launch} {D : va_G} {cy : Nat → ClassId} (q_o : Nat) (sz : Nat) (x_o_thrown x_o_buffer x_o_bufferLength x_o_textLength x_o_position x_o_errorOffset x_o_data x_o_draft x_o_aside x_o_history x_o_undoDepth x_o_numberStart x_o_nesting x_o_toldPlanes x_o_stack x_o_facts : Value) (o_error : Int32) (o_errorAt : Int32) (o_seen : Int32) (p1 : Int32) (p2 : Int32) (res : Int32 × Int32 × Int32) (hF : X7_once o_error o_errorAt o_seen p1 p2 = some res) : Met l yX7_once wsX7_once ({ frames := 1, cells := 0, slots := 0, locals := 22 } : Room) (kP (EN D cy) D [.ref q_o, .int p1, .int p2] [(q_o, .inr (7, [x_o_thrown, x_o_buffer, x_o_bufferLength, x_o_textLength, x_o_position, .int o_error, .int o_errorAt, x_o_errorOffset, x_o_data, x_o_draft, x_o_aside, x_o_history, x_o_undoDepth, x_o_numberStart, x_o_nesting, .int o_seen, x_o_toldPlanes, x_o_stack, x_o_facts]))] sz) (kQv D [(q_o, .inr (7, [x_o_thrown, x_o_buffer, x_o_bufferLength, x_o_textLength, x_o_position, .int res.1, .int res.2.1, x_o_errorOffset, x_o_data, x_o_draft, x_o_aside, x_o_history, x_o_undoDepth, x_o_numberStart, x_o_nesting, .int res.2.2, x_o_toldPlanes, x_o_stack, x_o_facts]))] (va_A [(q_o, .inr (7, [x_o_thrown, x_o_buffer, x_o_bufferLength, x_o_textLength, x_o_position, .int o_error, .int o_errorAt, x_o_errorOffset, x_o_data, x_o_draft, x_o_aside, x_o_history, x_o_undoDepth, x_o_numberStart, x_o_nesting, .int o_seen, x_o_toldPlanes, x_o_stack, x_o_facts]))] sz)) 0 0 (va_A [(q_o, .inr (7, [x_o_thrown, x_o_buffer, x_o_bufferLength, x_o_textLength, x_o_position, .int o_error, .int o_errorAt, x_o_errorOffset, x_o_data, x_o_draft, x_o_aside, x_o_history, x_o_undoDepth, x_o_numberStart, x_o_nesting, .int o_seen, x_o_toldPlanes, x_o_stack, x_o_facts]))] sz) := by
  refine kMet (y := yX7_once) (av := [.ref q_o, .int p1, .int p2]) (cc := cX7_once) (maxL := 3) (ret := none) (own := RX7) (Qc := fun A9 => (kQv D [(q_o, .inr (7, [x_o_thrown, x_o_buffer, x_o_bufferLength, x_o_textLength, x_o_position, .int res.1, .int res.2.1, x_o_errorOffset, x_o_data, x_o_draft, x_o_aside, x_o_history, x_o_undoDepth, x_o_numberStart, x_o_nesting, .int res.2.2, x_o_toldPlanes, x_o_stack, x_o_facts]))] A9)) (by decide) rfl rfl (Nat.le_of_ble_eq_true rfl) ?_
  intro p e s m args below meth c A hx hb hr hts hown hml hlocks hname hE hP hD hA hsz ls hl
  have hK := hE.1
  have hl : lv_has ls 3 [(0, .ref q_o), (1, .int p1), (2, .int p2)] := hl
  have hS : va_S A s.heap s.heap [] := va_S.rf
  have f_f135 := hts (.fieldLink RX7 135 "PeepBoxModel" "seen" "I") (by decide +kernel)
  have f_inX7 : ∀ w ∈ wsX70, w ∈ wsX7_once := by decide +kernel
  obtain ⟨QQ, hQQ⟩ : ∃ Q9, Q9 = MQ below (kQv D [(q_o, .inr (7, [x_o_thrown, x_o_buffer, x_o_bufferLength, x_o_textLength, x_o_position, .int res.1, .int res.2.1, x_o_errorOffset, x_o_data, x_o_draft, x_o_aside, x_o_history, x_o_undoDepth, x_o_numberStart, x_o_nesting, .int res.2.2, x_o_toldPlanes, x_o_stack, x_o_facts]))] A) args s 0 0 A := ⟨_, rfl⟩
  rw [← hQQ]
  have J19 : ∀ (o_error : Int32) (o_errorAt : Int32) (H : Heap) (locs : List Loc) (ls : Array Slot), va_P D vwCl [(q_o, .inr (7, [x_o_thrown, x_o_buffer, x_o_bufferLength, x_o_textLength, x_o_position, .int o_error, .int o_errorAt, x_o_errorOffset, x_o_data, x_o_draft, x_o_aside, x_o_history, x_o_undoDepth, x_o_numberStart, x_o_nesting, .int o_seen, x_o_toldPlanes, x_o_stack, x_o_facts]))] H → va_D A [(q_o, .inr (7, [x_o_thrown, x_o_buffer, x_o_bufferLength, x_o_textLength, x_o_position, .int o_error, .int o_errorAt, x_o_errorOffset, x_o_data, x_o_draft, x_o_aside, x_o_history, x_o_undoDepth, x_o_numberStart, x_o_nesting, .int o_seen, x_o_toldPlanes, x_o_stack, x_o_facts]))] → va_S A s.heap H locs → lv_has ls 3 [(0, .ref q_o), (1, .int p1)] → X7_once_J19 o_seen p1 p2 o_error o_errorAt = some res → W p l e ({ frames := 1, cells := 0, slots := 0, locals := 22 } : Room) s m args below meth c H locs 0 0 QQ (F0 m 19 ls []) := by
    intro o_error o_errorAt H locs ls hP hD hS hl hF
    unfold X7_once_J19 at hF
    refine lv_aload_n hx hb dX7_once_19 rfl (lv_at hl 0 rfl) ?_
    refine lv_dup hx hb dX7_once_20 rfl ?_
    refine va_get (D := D) (ci := 7) (v := .int o_seen) (C := RX7) (T := TX7) (N := 19) hx hb hts f_inX7 hown hK hP 0 rfl rfl 15 (by decide) f_f135 (fun _ h9 => h9) rfl dX7_once_21 ?_
    refine lv_iconst (v := 1) hx hb dX7_once_24 (by decide) ?_
    refine lv_iload_n hx hb dX7_once_25 rfl (lv_at hl 1 rfl) ?_
    refine lv_ishl hx hb dX7_once_26 ?_
    refine lv_ior hx hb dX7_once_27 ?_
    refine lv_topi (fun v1 ev1 => ?_)
    have hF := nm_o hF v1 ev1
    refine va_put (D := D) (ci := 7) (v := .int v1) (ty := .int) (C := RX7) (T := TX7) (N := 19) hx hb hts f_inX7 tyX7 tyX7_ok nmX7 hown hK hP hD hS 0 rfl rfl 15 (by decide) f_f135 (fun _ h9 => h9) rfl (by decide +kernel) rfl rfl (Nat.le_of_ble_eq_true rfl) dX7_once_28 (fun H locs hP hD hS => ?_)
    have hP : va_P D vwCl [(q_o, .inr (7, [x_o_thrown, x_o_buffer, x_o_bufferLength, x_o_textLength, x_o_position, .int o_error, .int o_errorAt, x_o_errorOffset, x_o_data, x_o_draft, x_o_aside, x_o_history, x_o_undoDepth, x_o_numberStart, x_o_nesting, .int v1, x_o_toldPlanes, x_o_stack, x_o_facts]))] H := hP
    have hD : va_D A [(q_o, .inr (7, [x_o_thrown, x_o_buffer, x_o_bufferLength, x_o_textLength, x_o_position, .int o_error, .int o_errorAt, x_o_errorOffset, x_o_data, x_o_draft, x_o_aside, x_o_history, x_o_undoDepth, x_o_numberStart, x_o_nesting, .int v1, x_o_toldPlanes, x_o_stack, x_o_facts]))] := hD
    obtain rfl := so_o hF
    rw [hQQ]
    exact kr_v hx hb hr hlocks hP hD hS dX7_once_31
  have main : ∀ (H : Heap) (locs : List Loc) (ls : Array Slot), va_P D vwCl [(q_o, .inr (7, [x_o_thrown, x_o_buffer, x_o_bufferLength, x_o_textLength, x_o_position, .int o_error, .int o_errorAt, x_o_errorOffset, x_o_data, x_o_draft, x_o_aside, x_o_history, x_o_undoDepth, x_o_numberStart, x_o_nesting, .int o_seen, x_o_toldPlanes, x_o_stack, x_o_facts]))] H → va_D A [(q_o, .inr (7, [x_o_thrown, x_o_buffer, x_o_bufferLength, x_o_textLength, x_o_position, .int o_error, .int o_errorAt, x_o_errorOffset, x_o_data, x_o_draft, x_o_aside, x_o_history, x_o_undoDepth, x_o_numberStart, x_o_nesting, .int o_seen, x_o_toldPlanes, x_o_stack, x_o_facts]))] → va_S A s.heap H locs → lv_has ls 3 [(0, .ref q_o), (1, .int p1), (2, .int p2)] → W p l e ({ frames := 1, cells := 0, slots := 0, locals := 22 } : Room) s m args below meth c H locs 0 0 QQ (F0 m 0 ls []) := by
    intro H locs ls hP hD hS hl
    unfold X7_once at hF
    refine lv_aload_n hx hb dX7_once_0 rfl (lv_at hl 0 rfl) ?_
    refine va_get (D := D) (ci := 7) (v := .int o_seen) (C := RX7) (T := TX7) (N := 19) hx hb hts f_inX7 hown hK hP 0 rfl rfl 15 (by decide) f_f135 (fun _ h9 => h9) rfl dX7_once_1 ?_
    refine lv_iload_n hx hb dX7_once_4 rfl (lv_at hl 1 rfl) ?_
    refine lv_ishr hx hb dX7_once_5 ?_
    refine lv_iconst (v := 1) hx hb dX7_once_6 (by decide) ?_
    refine lv_iand hx hb dX7_once_7 ?_
    refine lv_iconst (v := 1) hx hb dX7_once_8 (by decide) ?_
    refine lv_icmp_ne (tgt := 19) hx hb dX7_once_9 (by decide) (fun c2 => ?_) (fun c2 => ?_)
    · have hF := if_n hF c2
      exact J19 o_error o_errorAt H locs ls hP hD hS (lv_sub hl [0, 1] rfl) hF
    · have hF := if_p hF c2
      refine lv_aload_n hx hb dX7_once_12 rfl (lv_at hl 0 rfl) ?_
      refine lv_bipush (v := -2) hx hb dX7_once_13 (by decide) ?_
      refine lv_iload_n hx hb dX7_once_15 rfl (lv_at hl 2 rfl) ?_
      obtain ⟨o3, o4, h5, hF⟩ := bn2_o hF
      refine kd_v [(q_o, .inr (7, [x_o_thrown, x_o_buffer, x_o_bufferLength, x_o_textLength, x_o_position, .int o3, .int o4, x_o_errorOffset, x_o_data, x_o_draft, x_o_aside, x_o_history, x_o_undoDepth, x_o_numberStart, x_o_nesting, .int o_seen, x_o_toldPlanes, x_o_stack, x_o_facts]))] (va_runV (As := [.int (-2 : Int32), .int p2]) (rest := []) ⟨hx, hb, hml, hown, hts⟩ (c_X7_report q_o H.size x_o_thrown x_o_buffer x_o_bufferLength x_o_textLength x_o_position x_o_errorOffset x_o_data x_o_draft x_o_aside x_o_history x_o_undoDepth x_o_numberStart x_o_nesting (.int o_seen) x_o_toldPlanes x_o_stack x_o_facts o_error o_errorAt (-2 : Int32) p2 _ h5) (cwV 2 hts gX7_once_X7_report rfl rfl rfl kd_X7_report ⟨Nat.le_of_ble_eq_true rfl, Nat.le_of_ble_eq_true rfl⟩) ⟨kP_blind (EN_ok D cy) D _ _ _, va_recv hK hP (ci := 7) (q0 := 0) rfl rfl, kStart (EN_ok D cy) hE hP hD hS hA [0] rfl rfl _⟩ rfl rfl hl.1 rfl (lv_room (Nat.le_of_ble_eq_true rfl)) dX7_once_16 ⟨Nat.zero_le _, Nat.zero_le _⟩) hP hD hS hA [0] [] rfl rfl rfl 1 rfl (by decide +kernel) (fun H locs hP hD hS => ?_)
      exact J19 o3 o4 H locs ls hP hD hS (lv_sub hl [0, 1] rfl) hF
  exact main s.heap [] ls hP hD hS hl
theorem kd_X7_isLine : yX7_isLine.cls ≠ "java/lang/invoke/MethodHandle" ∧ yX7_isLine.cls ≠ "java/lang/invoke/VarHandle" ∧ (parseMethodDescriptor yX7_isLine.desc).map (fun d => d.parameters.length) = some 1 := by decide +kernel
set_option maxHeartbeats 4000000 in
set_option maxRecDepth 100000 in
theorem c_X7_isLine {l : Launch} {D : va_G} {cy : Nat → ClassId} (sz : Nat) (p0 : Int32) (res : Int32) (hF : X7_isLine p0 = some res) : Met l yX7_isLine wsX7_isLine ({ frames := 1, cells := 0, slots := 0, locals := 22 } : Room) (kP (EN D cy) D [.int p0] [] sz) (kQi D res [] (va_A [] sz)) 0 0 (va_A [] sz) := by
  refine kMet (y := yX7_isLine) (av := [.int p0]) (cc := cX7_isLine) (maxL := 1) (ret := some .boolean) (own := RX7) (Qc := fun A9 => (kQi D res [] A9)) (by decide) rfl rfl (Nat.le_of_ble_eq_true rfl) ?_
  intro p e s m args below meth c A hx hb hr hts hown hml hlocks hname hE hP hD hA hsz ls hl
  have hK := hE.1
  have hl : lv_has ls 1 [(0, .int p0)] := hl
  have hS : va_S A s.heap s.heap [] := va_S.rf
  obtain ⟨QQ, hQQ⟩ : ∃ Q9, Q9 = MQ below (kQi D res [] A) args s 0 0 A := ⟨_, rfl⟩
  rw [← hQQ]
  have J17 : ∀ (H : Heap) (locs : List Loc) (ls : Array Slot), va_P D vwCl [] H → va_D A [] → va_S A s.heap H locs → lv_has ls 1 [] → X7_isLine_J17 p0 = some res → W p l e ({ frames := 1, cells := 0, slots := 0, locals := 22 } : Room) s m args below meth c H locs 0 0 QQ (F0 m 17 ls []) := by
    intro  H locs ls hP hD hS hl hF
    unfold X7_isLine_J17 at hF
    refine lv_iconst (v := 1) hx hb dX7_isLine_17 (by decide) ?_
    refine lv_goto (tgt := 22) hx hb dX7_isLine_18 (by decide) ?_
    obtain rfl := so_o hF
    rw [hQQ]
    exact kr_z (v := (1 : Int32)) hx hb hr hlocks rfl hP hD hS dX7_isLine_22
  have main : ∀ (H : Heap) (locs : List Loc) (ls : Array Slot), va_P D vwCl [] H → va_D A [] → va_S A s.heap H locs → lv_has ls 1 [(0, .int p0)] → W p l e ({ frames := 1, cells := 0, slots := 0, locals := 22 } : Room) s m args below meth c H locs 0 0 QQ (F0 m 0 ls []) := by
    intro H locs ls hP hD hS hl
    unfold X7_isLine at hF
    refine lv_iload_n hx hb dX7_isLine_0 rfl (lv_at hl 0 rfl) ?_
    refine lv_bipush (v := 46) hx hb dX7_isLine_1 (by decide) ?_
    refine lv_icmp_eq (tgt := 17) hx hb dX7_isLine_3 (by decide) (fun c1 => ?_) (fun c1 => ?_)
    · have hF := if_p hF c1
      exact J17  H locs ls hP hD hS (lv_sub hl [] rfl) hF
    · have hF := if_n hF c1
      refine lv_iload_n hx hb dX7_isLine_6 rfl (lv_at hl 0 rfl) ?_
      refine lv_bipush (v := 97) hx hb dX7_isLine_7 (by decide) ?_
      refine lv_bipush (v := 122) hx hb dX7_isLine_9 (by decide) ?_
      obtain ⟨r2, h3, hF⟩ := bn1_o hF
      refine kd_i [] (va_runS (As := [.int p0, .int (97 : Int32), .int (122 : Int32)]) (rest := []) ⟨hx, hb, hml, hown, hts⟩ (c_X7_in H.size p0 (97 : Int32) (122 : Int32) _ h3) (va_cwS 3 hts gX7_isLine_X7_in rfl rfl rfl kd_X7_in ⟨Nat.le_of_ble_eq_true rfl, Nat.le_of_ble_eq_true rfl⟩) ⟨kP_blind (EN_ok D cy) D _ _ _, kStart (EN_ok D cy) hE hP hD hS hA [] rfl rfl _⟩ rfl rfl hl.1 rfl (lv_room (Nat.le_of_ble_eq_true rfl)) dX7_isLine_11 ⟨Nat.zero_le _, Nat.zero_le _⟩) hP hD hS hA [] [] rfl rfl rfl 0 rfl (by decide +kernel) (fun H locs hP hD hS => ?_)
      refine lv_if_eq (tgt := 21) hx hb dX7_isLine_14 (by decide) (fun c4 => ?_) (fun c4 => ?_)
      · have hF := if_p hF c4
        refine lv_iconst (v := 0) hx hb dX7_isLine_21 (by decide) ?_
        obtain rfl := so_o hF
        rw [hQQ]
        exact kr_z (v := (0 : Int32)) hx hb hr hlocks rfl hP hD hS dX7_isLine_22
      · have hF := if_n hF c4
        exact J17  H locs ls hP hD hS (lv_sub hl [] rfl) hF
  exact main s.heap [] ls hP hD hS hl
theorem kd_X7_readLine : yX7_readLine.cls = RX7 ∧ yX7_readLine.cls ≠ "java/lang/invoke/MethodHandle" ∧ yX7_readLine.cls ≠ "java/lang/invoke/VarHandle" ∧ (parseMethodDescriptor yX7_readLine.desc).map (fun d => d.parameters.length) = some 2 := by decide +kernel
set_option maxHeartbeats 4000000 in
set_option maxRecDepth 100000 in
theorem c_X7_readLine {l : Launch} {D : va_G} {cy : Nat → ClassId} (q_o q_o_buffer q_o_draft : Nat) (sz : Nat) (x_o_thrown x_o_bufferLength x_o_errorOffset x_o_data x_o_aside x_o_history x_o_undoDepth x_o_numberStart x_o_nesting x_o_seen x_o_toldPlanes x_o_stack x_o_facts : Value) (o_textLength : Int32) (o_position : Int32) (o_error : Int32) (o_errorAt : Int32) (o_buffer : Nat → Int32) (o_draft : Nat → Int32) (p1 : Int32) (p2 : Int32) (res : Int32 × Int32 × Int32 × (Nat → Int32)) (hF : X7_readLine o_textLength o_position o_error o_errorAt o_buffer o_draft p1 p2 = some res) : Met l yX7_readLine wsX7_readLine ({ frames := 2, cells := 0, slots := 0, locals := 42 } : Room) (kP (EN D cy) D [.ref q_o, .int p1, .int p2] [(q_o, .inr (7, [x_o_thrown, .ref q_o_buffer, x_o_bufferLength, .int o_textLength, .int o_position, .int o_error, .int o_errorAt, x_o_errorOffset, x_o_data, .ref q_o_draft, x_o_aside, x_o_history, x_o_undoDepth, x_o_numberStart, x_o_nesting, x_o_seen, x_o_toldPlanes, x_o_stack, x_o_facts])), (q_o_buffer, .inl (cy 0, 800, .inl o_buffer)), (q_o_draft, .inl (cy 0, 2243, .inl o_draft))] sz) (kQv D [(q_o, .inr (7, [x_o_thrown, .ref q_o_buffer, x_o_bufferLength, .int o_textLength, .int res.1, .int res.2.1, .int res.2.2.1, x_o_errorOffset, x_o_data, .ref q_o_draft, x_o_aside, x_o_history, x_o_undoDepth, x_o_numberStart, x_o_nesting, x_o_seen, x_o_toldPlanes, x_o_stack, x_o_facts])), (q_o_buffer, .inl (cy 0, 800, .inl o_buffer)), (q_o_draft, .inl (cy 0, 2243, .inl res.2.2.2))] (va_A [(q_o, .inr (7, [x_o_thrown, .ref q_o_buffer, x_o_bufferLength, .int o_textLength, .int o_position, .int o_error, .int o_errorAt, x_o_errorOffset, x_o_data, .ref q_o_draft, x_o_aside, x_o_history, x_o_undoDepth, x_o_numberStart, x_o_nesting, x_o_seen, x_o_toldPlanes, x_o_stack, x_o_facts])), (q_o_buffer, .inl (cy 0, 800, .inl o_buffer)), (q_o_draft, .inl (cy 0, 2243, .inl o_draft))] sz)) 0 0 (va_A [(q_o, .inr (7, [x_o_thrown, .ref q_o_buffer, x_o_bufferLength, .int o_textLength, .int o_position, .int o_error, .int o_errorAt, x_o_errorOffset, x_o_data, .ref q_o_draft, x_o_aside, x_o_history, x_o_undoDepth, x_o_numberStart, x_o_nesting, x_o_seen, x_o_toldPlanes, x_o_stack, x_o_facts])), (q_o_buffer, .inl (cy 0, 800, .inl o_buffer)), (q_o_draft, .inl (cy 0, 2243, .inl o_draft))] sz) := by
  refine kMet (y := yX7_readLine) (av := [.ref q_o, .int p1, .int p2]) (cc := cX7_readLine) (maxL := 8) (ret := none) (own := RX7) (Qc := fun A9 => (kQv D [(q_o, .inr (7, [x_o_thrown, .ref q_o_buffer, x_o_bufferLength, .int o_textLength, .int res.1, .int res.2.1, .int res.2.2.1, x_o_errorOffset, x_o_data, .ref q_o_draft, x_o_aside, x_o_history, x_o_undoDepth, x_o_numberStart, x_o_nesting, x_o_seen, x_o_toldPlanes, x_o_stack, x_o_facts])), (q_o_buffer, .inl (cy 0, 800, .inl o_buffer)), (q_o_draft, .inl (cy 0, 2243, .inl res.2.2.2))] A9)) (by decide) rfl rfl (Nat.le_of_ble_eq_true rfl) ?_
  intro p e s m args below meth c A hx hb hr hts hown hml hlocks hname hE hP hD hA hsz ls hl
  have hK := hE.1
  have hl : lv_has ls 8 [(0, .ref q_o), (1, .int p1), (2, .int p2)] := hl
  have hS : va_S A s.heap s.heap [] := va_S.rf
  have f_f51 := hts (.fieldLink RX7 51 "PeepBoxModel" "position" "I") (by decide +kernel)
  have f_inX7 : ∀ w ∈ wsX70, w ∈ wsX7_readLine := by decide +kernel
  have f_f20 := hts (.fieldLink RX7 20 "PeepBoxModel" "draft" "[I") (by decide +kernel)
  obtain ⟨QQ, hQQ⟩ : ∃ Q9, Q9 = MQ below (kQv D [(q_o, .inr (7, [x_o_thrown, .ref q_o_buffer, x_o_bufferLength, .int o_textLength, .int res.1, .int res.2.1, .int res.2.2.1, x_o_errorOffset, x_o_data, .ref q_o_draft, x_o_aside, x_o_history, x_o_undoDepth, x_o_numberStart, x_o_nesting, x_o_seen, x_o_toldPlanes, x_o_stack, x_o_facts])), (q_o_buffer, .inl (cy 0, 800, .inl o_buffer)), (q_o_draft, .inl (cy 0, 2243, .inl res.2.2.2))] A) args s 0 0 A := ⟨_, rfl⟩
  rw [← hQQ]
  have J177 : ∀ (l3 : Int32) (l4 : Int32) (o_position : Int32) (o_error : Int32) (o_errorAt : Int32) (o_draft : Nat → Int32) (H : Heap) (locs : List Loc) (ls : Array Slot), va_P D vwCl [(q_o, .inr (7, [x_o_thrown, .ref q_o_buffer, x_o_bufferLength, .int o_textLength, .int o_position, .int o_error, .int o_errorAt, x_o_errorOffset, x_o_data, .ref q_o_draft, x_o_aside, x_o_history, x_o_undoDepth, x_o_numberStart, x_o_nesting, x_o_seen, x_o_toldPlanes, x_o_stack, x_o_facts])), (q_o_buffer, .inl (cy 0, 800, .inl o_buffer)), (q_o_draft, .inl (cy 0, 2243, .inl o_draft))] H → va_D A [(q_o, .inr (7, [x_o_thrown, .ref q_o_buffer, x_o_bufferLength, .int o_textLength, .int o_position, .int o_error, .int o_errorAt, x_o_errorOffset, x_o_data, .ref q_o_draft, x_o_aside, x_o_history, x_o_undoDepth, x_o_numberStart, x_o_nesting, x_o_seen, x_o_toldPlanes, x_o_stack, x_o_facts])), (q_o_buffer, .inl (cy 0, 800, .inl o_buffer)), (q_o_draft, .inl (cy 0, 2243, .inl o_draft))] → va_S A s.heap H locs → lv_has ls 8 [(0, .ref q_o), (3, .int l3), (4, .int l4)] → X7_readLine_J177 o_textLength o_buffer p1 p2 l3 l4 o_position o_error o_errorAt o_draft = some res → W p l e ({ frames := 2, cells := 0, slots := 0, locals := 42 } : Room) s m args below meth c H locs 0 0 QQ (F0 m 177 ls []) := by
    intro l3 l4 o_position o_error o_errorAt o_draft H locs ls hP hD hS hl hF
    unfold X7_readLine_J177 at hF
    refine lv_aload_n hx hb dX7_readLine_177 rfl (lv_at hl 0 rfl) ?_
    refine lv_iload_n hx hb dX7_readLine_178 rfl (lv_at hl 1 rfl) ?_
    refine lv_iload hx hb dX7_readLine_179 (lv_at hl 2 rfl) ?_
    refine lv_iadd hx hb dX7_readLine_181 ?_
    refine lv_topi (fun v1 ev1 => ?_)
    have hF := nm_o hF v1 ev1
    refine va_put (D := D) (ci := 7) (v := .int v1) (ty := .int) (C := RX7) (T := TX7) (N := 19) hx hb hts f_inX7 tyX7 tyX7_ok nmX7 hown hK hP hD hS 0 rfl rfl 4 (by decide) f_f51 (fun _ h9 => h9) rfl (by decide +kernel) rfl rfl (Nat.le_of_ble_eq_true rfl) dX7_readLine_182 (fun H locs hP hD hS => ?_)
    have hP : va_P D vwCl [(q_o, .inr (7, [x_o_thrown, .ref q_o_buffer, x_o_bufferLength, .int o_textLength, .int v1, .int o_error, .int o_errorAt, x_o_errorOffset, x_o_data, .ref q_o_draft, x_o_aside, x_o_history, x_o_undoDepth, x_o_numberStart, x_o_nesting, x_o_seen, x_o_toldPlanes, x_o_stack, x_o_facts])), (q_o_buffer, .inl (cy 0, 800, .inl o_buffer)), (q_o_draft, .inl (cy 0, 2243, .inl o_draft))] H := hP
    have hD : va_D A [(q_o, .inr (7, [x_o_thrown, .ref q_o_buffer, x_o_bufferLength, .int o_textLength, .int v1, .int o_error, .int o_errorAt, x_o_errorOffset, x_o_data, .ref q_o_draft, x_o_aside, x_o_history, x_o_undoDepth, x_o_numberStart, x_o_nesting, x_o_seen, x_o_toldPlanes, x_o_stack, x_o_facts])), (q_o_buffer, .inl (cy 0, 800, .inl o_buffer)), (q_o_draft, .inl (cy 0, 2243, .inl o_draft))] := hD
    obtain rfl := so_o hF
    rw [hQQ]
    exact kr_v hx hb hr hlocks hP hD hS dX7_readLine_185
  have J82 : ∀ (n82 : Nat) (l3 : Int32) (l4 : Int32) (l5 : Int32) (l6 : Int32) (o_position : Int32) (o_error : Int32) (o_errorAt : Int32) (o_draft : Nat → Int32) (H : Heap) (locs : List Loc) (ls : Array Slot), va_P D vwCl [(q_o, .inr (7, [x_o_thrown, .ref q_o_buffer, x_o_bufferLength, .int o_textLength, .int o_position, .int o_error, .int o_errorAt, x_o_errorOffset, x_o_data, .ref q_o_draft, x_o_aside, x_o_history, x_o_undoDepth, x_o_numberStart, x_o_nesting, x_o_seen, x_o_toldPlanes, x_o_stack, x_o_facts])), (q_o_buffer, .inl (cy 0, 800, .inl o_buffer)), (q_o_draft, .inl (cy 0, 2243, .inl o_draft))] H → va_D A [(q_o, .inr (7, [x_o_thrown, .ref q_o_buffer, x_o_bufferLength, .int o_textLength, .int o_position, .int o_error, .int o_errorAt, x_o_errorOffset, x_o_data, .ref q_o_draft, x_o_aside, x_o_history, x_o_undoDepth, x_o_numberStart, x_o_nesting, x_o_seen, x_o_toldPlanes, x_o_stack, x_o_facts])), (q_o_buffer, .inl (cy 0, 800, .inl o_buffer)), (q_o_draft, .inl (cy 0, 2243, .inl o_draft))] → va_S A s.heap H locs → lv_has ls 8 [(0, .ref q_o), (1, .int p1), (2, .int p2), (3, .int l3), (4, .int l4), (5, .int l5), (6, .int l6)] → X7_readLine_L82 o_textLength o_buffer p1 p2 n82 l3 l4 l5 l6 o_position o_error o_errorAt o_draft = some res → W p l e ({ frames := 2, cells := 0, slots := 0, locals := 42 } : Room) s m args below meth c H locs 0 0 QQ (F0 m 82 ls []) := by
    intro n82
    induction n82 with
    | zero =>
      intro l3 l4 l5 l6 o_position o_error o_errorAt o_draft H locs ls hP hD hS hl hF
      rw [X7_readLine_L82] at hF
      cases hF
    | succ n82 ih82 =>
      have J170 : ∀ (l3 : Int32) (l4 : Int32) (l5 : Int32) (l6 : Int32) (k1 : Int32) (k2 : Int32) (o_position : Int32) (o_error : Int32) (o_errorAt : Int32) (o_draft : Nat → Int32) (H : Heap) (locs : List Loc) (ls : Array Slot), va_P D vwCl [(q_o, .inr (7, [x_o_thrown, .ref q_o_buffer, x_o_bufferLength, .int o_textLength, .int o_position, .int o_error, .int o_errorAt, x_o_errorOffset, x_o_data, .ref q_o_draft, x_o_aside, x_o_history, x_o_undoDepth, x_o_numberStart, x_o_nesting, x_o_seen, x_o_toldPlanes, x_o_stack, x_o_facts])), (q_o_buffer, .inl (cy 0, 800, .inl o_buffer)), (q_o_draft, .inl (cy 0, 2243, .inl o_draft))] H → va_D A [(q_o, .inr (7, [x_o_thrown, .ref q_o_buffer, x_o_bufferLength, .int o_textLength, .int o_position, .int o_error, .int o_errorAt, x_o_errorOffset, x_o_data, .ref q_o_draft, x_o_aside, x_o_history, x_o_undoDepth, x_o_numberStart, x_o_nesting, x_o_seen, x_o_toldPlanes, x_o_stack, x_o_facts])), (q_o_buffer, .inl (cy 0, 800, .inl o_buffer)), (q_o_draft, .inl (cy 0, 2243, .inl o_draft))] → va_S A s.heap H locs → lv_has ls 8 [(0, .ref q_o), (1, .int p1), (2, .int p2), (3, .int l3), (4, .int l4), (5, .int l5), (6, .int l6)] → X7_readLine_J170 o_textLength o_buffer p1 p2 (fun z0 z1 z2 z3 z4 z5 z6 z7 => X7_readLine_L82 o_textLength o_buffer p1 p2 n82 z0 z1 z2 z3 z4 z5 z6 z7) l3 l4 l5 l6 k1 k2 o_position o_error o_errorAt o_draft = some res → W p l e ({ frames := 2, cells := 0, slots := 0, locals := 42 } : Room) s m args below meth c H locs 0 0 QQ (F0 m 170 ls [.int k2, .int k1, .ref q_o_draft]) := by
        intro l3 l4 l5 l6 k1 k2 o_position o_error o_errorAt o_draft H locs ls hP hD hS hl hF
        unfold X7_readLine_J170 at hF
        obtain ⟨h2, hF⟩ := st_o hF
        refine va_iast hx hb hK hP hD hS 2 0 rfl rfl h2 dX7_readLine_170 (fun H locs hP hD hS => ?_)
        obtain ⟨b3, eb3⟩ : ∃ y : Nat → Int32, y = (upd o_draft k1.toNatClampNeg k2) := ⟨_, rfl⟩
        have hF := hF b3 eb3
        have hP : va_P D vwCl [(q_o, .inr (7, [x_o_thrown, .ref q_o_buffer, x_o_bufferLength, .int o_textLength, .int o_position, .int o_error, .int o_errorAt, x_o_errorOffset, x_o_data, .ref q_o_draft, x_o_aside, x_o_history, x_o_undoDepth, x_o_numberStart, x_o_nesting, x_o_seen, x_o_toldPlanes, x_o_stack, x_o_facts])), (q_o_buffer, .inl (cy 0, 800, .inl o_buffer)), (q_o_draft, .inl (cy 0, 2243, .inl b3))] H := by rw [eb3]; exact hP
        have hD : va_D A [(q_o, .inr (7, [x_o_thrown, .ref q_o_buffer, x_o_bufferLength, .int o_textLength, .int o_position, .int o_error, .int o_errorAt, x_o_errorOffset, x_o_data, .ref q_o_draft, x_o_aside, x_o_history, x_o_undoDepth, x_o_numberStart, x_o_nesting, x_o_seen, x_o_toldPlanes, x_o_stack, x_o_facts])), (q_o_buffer, .inl (cy 0, 800, .inl o_buffer)), (q_o_draft, .inl (cy 0, 2243, .inl b3))] := by rw [eb3]; exact hD
        obtain ⟨v4, ev4⟩ : ∃ y : Int32, y = l6 + (1 : Int32) := ⟨_, rfl⟩
        have hF := nm_o hF v4 ev4
        refine lv_iinc (v := v4) (lv' := [(6, .int v4), (0, .ref q_o), (1, .int p1), (2, .int p2), (3, .int l3), (4, .int l4), (5, .int l5)]) hx hb dX7_readLine_171 hl (k := 6) rfl (by rw [ev4]; rfl) (by decide) rfl (fun ls hl => ?_)
        refine lv_goto (tgt := 82) hx hb dX7_readLine_174 (by decide) ?_
        exact ih82 l3 l4 l5 v4 o_position o_error o_errorAt b3 H locs ls hP hD hS (lv_sub hl [1, 2, 3, 4, 5, 6, 0] rfl) hF
      have J135 : ∀ (l3 : Int32) (l4 : Int32) (l5 : Int32) (l6 : Int32) (l7 : Int32) (o_position : Int32) (o_error : Int32) (o_errorAt : Int32) (o_draft : Nat → Int32) (H : Heap) (locs : List Loc) (ls : Array Slot), va_P D vwCl [(q_o, .inr (7, [x_o_thrown, .ref q_o_buffer, x_o_bufferLength, .int o_textLength, .int o_position, .int o_error, .int o_errorAt, x_o_errorOffset, x_o_data, .ref q_o_draft, x_o_aside, x_o_history, x_o_undoDepth, x_o_numberStart, x_o_nesting, x_o_seen, x_o_toldPlanes, x_o_stack, x_o_facts])), (q_o_buffer, .inl (cy 0, 800, .inl o_buffer)), (q_o_draft, .inl (cy 0, 2243, .inl o_draft))] H → va_D A [(q_o, .inr (7, [x_o_thrown, .ref q_o_buffer, x_o_bufferLength, .int o_textLength, .int o_position, .int o_error, .int o_errorAt, x_o_errorOffset, x_o_data, .ref q_o_draft, x_o_aside, x_o_history, x_o_undoDepth, x_o_numberStart, x_o_nesting, x_o_seen, x_o_toldPlanes, x_o_stack, x_o_facts])), (q_o_buffer, .inl (cy 0, 800, .inl o_buffer)), (q_o_draft, .inl (cy 0, 2243, .inl o_draft))] → va_S A s.heap H locs → lv_has ls 8 [(0, .ref q_o), (1, .int p1), (2, .int p2), (3, .int l3), (4, .int l4), (5, .int l5), (6, .int l6), (7, .int l7)] → X7_readLine_J135 o_textLength o_buffer p1 p2 (fun z0 z1 z2 z3 z4 z5 z6 z7 => X7_readLine_L82 o_textLength o_buffer p1 p2 n82 z0 z1 z2 z3 z4 z5 z6 z7) l3 l4 l5 l6 l7 o_position o_error o_errorAt o_draft = some res → W p l e ({ frames := 2, cells := 0, slots := 0, locals := 42 } : Room) s m args below meth c H locs 0 0 QQ (F0 m 135 ls []) := by
        intro l3 l4 l5 l6 l7 o_position o_error o_errorAt o_draft H locs ls hP hD hS hl hF
        unfold X7_readLine_J135 at hF
        refine lv_aload_n hx hb dX7_readLine_135 rfl (lv_at hl 0 rfl) ?_
        refine va_get (D := D) (ci := 7) (v := .ref q_o_draft) (C := RX7) (T := TX7) (N := 19) hx hb hts f_inX7 hown hK hP 0 rfl rfl 9 (by decide) f_f20 (fun _ h9 => h9) rfl dX7_readLine_136 ?_
        refine lv_bipush (v := 15) hx hb dX7_readLine_139 (by decide) ?_
        refine lv_bipush (v := 96) hx hb dX7_readLine_141 (by decide) ?_
        refine lv_iload_n hx hb dX7_readLine_143 rfl (lv_at hl 1 rfl) ?_
        refine lv_imul hx hb dX7_readLine_144 ?_
        refine lv_iadd hx hb dX7_readLine_145 ?_
        refine lv_iload hx hb dX7_readLine_146 (lv_at hl 5 rfl) ?_
        refine lv_iload_n hx hb dX7_readLine_148 rfl (lv_at hl 2 rfl) ?_
        refine lv_imul hx hb dX7_readLine_149 ?_
        refine lv_iadd hx hb dX7_readLine_150 ?_
        refine lv_iload hx hb dX7_readLine_151 (lv_at hl 6 rfl) ?_
        refine lv_iadd hx hb dX7_readLine_153 ?_
        refine lv_iload hx hb dX7_readLine_154 (lv_at hl 7 rfl) ?_
        refine lv_bipush (v := 46) hx hb dX7_readLine_156 (by decide) ?_
        refine lv_icmp_ne (tgt := 165) hx hb dX7_readLine_158 (by decide) (fun c5 => ?_) (fun c5 => ?_)
        · have hF := if_n hF c5
          refine lv_iload hx hb dX7_readLine_165 (lv_at hl 7 rfl) ?_
          refine lv_bipush (v := 97) hx hb dX7_readLine_167 (by decide) ?_
          refine lv_isub hx hb dX7_readLine_169 ?_
          exact J170 l3 l4 l5 l6 ((((15 : Int32) + ((96 : Int32) * p1)) + (l5 * p2)) + l6) (l7 - (97 : Int32)) o_position o_error o_errorAt o_draft H locs ls hP hD hS (lv_sub hl [0, 1, 2, 3, 4, 5, 6] rfl) hF
        · have hF := if_p hF c5
          refine lv_iconst (v := -1) hx hb dX7_readLine_161 (by decide) ?_
          refine lv_goto (tgt := 170) hx hb dX7_readLine_162 (by decide) ?_
          exact J170 l3 l4 l5 l6 ((((15 : Int32) + ((96 : Int32) * p1)) + (l5 * p2)) + l6) (-1 : Int32) o_position o_error o_errorAt o_draft H locs ls hP hD hS (lv_sub hl [0, 1, 2, 3, 4, 5, 6] rfl) hF
      intro l3 l4 l5 l6 o_position o_error o_errorAt o_draft H locs ls hP hD hS hl hF
      rw [X7_readLine_L82] at hF
      refine lv_iload hx hb dX7_readLine_82 (lv_at hl 6 rfl) ?_
      refine lv_iload hx hb dX7_readLine_84 (lv_at hl 5 rfl) ?_
      refine lv_icmp_ge (tgt := 177) hx hb dX7_readLine_86 (by decide) (fun c6 => ?_) (fun c6 => ?_)
      · have hF := if_p hF c6
        exact J177 l3 l4 o_position o_error o_errorAt o_draft H locs ls hP hD hS (lv_sub hl [0, 3, 4] rfl) hF
      · have hF := if_n hF c6
        refine lv_aload_n hx hb dX7_readLine_89 rfl (lv_at hl 0 rfl) ?_
        obtain ⟨r7, h8, hF⟩ := bn1_o hF
        refine kd_i [(q_o, .inr (7, [x_o_thrown, .ref q_o_buffer, x_o_bufferLength, .int o_textLength, .int o_position, .int o_error, .int o_errorAt, x_o_errorOffset, x_o_data, .ref q_o_draft, x_o_aside, x_o_history, x_o_undoDepth, x_o_numberStart, x_o_nesting, x_o_seen, x_o_toldPlanes, x_o_stack, x_o_facts])), (q_o_buffer, .inl (cy 0, 800, .inl o_buffer)), (q_o_draft, .inl (cy 0, 2243, .inl o_draft))] (va_runV (As := []) (rest := []) ⟨hx, hb, hml, hown, hts⟩ (c_X7_isGood q_o H.size x_o_thrown (.ref q_o_buffer) x_o_bufferLength (.int o_textLength) (.int o_position) (.int o_errorAt) x_o_errorOffset x_o_data (.ref q_o_draft) x_o_aside x_o_history x_o_undoDepth x_o_numberStart x_o_nesting x_o_seen x_o_toldPlanes x_o_stack x_o_facts o_error _ h8) (cwV 0 hts gX7_readLine_X7_isGood rfl rfl rfl kd_X7_isGood ⟨Nat.le_of_ble_eq_true rfl, Nat.le_of_ble_eq_true rfl⟩) ⟨kP_blind (EN_ok D cy) D _ _ _, va_recv hK hP (ci := 7) (q0 := 0) rfl rfl, kStart (EN_ok D cy) hE hP hD hS hA [0] rfl rfl _⟩ rfl rfl hl.1 rfl (lv_room (Nat.le_of_ble_eq_true rfl)) dX7_readLine_90 ⟨Nat.zero_le _, Nat.zero_le _⟩) hP hD hS hA [0] [1, 2] rfl rfl rfl 3 rfl (by decide +kernel) (fun H locs hP hD hS => ?_)
        refine lv_if_eq (tgt := 177) hx hb dX7_readLine_93 (by decide) (fun c9 => ?_) (fun c9 => ?_)
        · have hF := if_p hF c9
          exact J177 l3 l4 o_position o_error o_errorAt o_draft H locs ls hP hD hS (lv_sub hl [0, 3, 4] rfl) hF
        · have hF := if_n hF c9
          refine lv_aload_n hx hb dX7_readLine_96 rfl (lv_at hl 0 rfl) ?_
          refine lv_iload_n hx hb dX7_readLine_97 rfl (lv_at hl 3 rfl) ?_
          refine lv_iload hx hb dX7_readLine_98 (lv_at hl 6 rfl) ?_
          refine lv_iadd hx hb dX7_readLine_100 ?_
          obtain ⟨r10, h11, hF⟩ := bn1_o hF
          refine kd_i [(q_o, .inr (7, [x_o_thrown, .ref q_o_buffer, x_o_bufferLength, .int o_textLength, .int o_position, .int o_error, .int o_errorAt, x_o_errorOffset, x_o_data, .ref q_o_draft, x_o_aside, x_o_history, x_o_undoDepth, x_o_numberStart, x_o_nesting, x_o_seen, x_o_toldPlanes, x_o_stack, x_o_facts])), (q_o_buffer, .inl (cy 0, 800, .inl o_buffer)), (q_o_draft, .inl (cy 0, 2243, .inl o_draft))] (va_runV (As := [.int (l3 + l6)]) (rest := []) ⟨hx, hb, hml, hown, hts⟩ (c_X7_byteAt q_o q_o_buffer H.size x_o_thrown x_o_bufferLength (.int o_position) (.int o_error) (.int o_errorAt) x_o_errorOffset x_o_data (.ref q_o_draft) x_o_aside x_o_history x_o_undoDepth x_o_numberStart x_o_nesting x_o_seen x_o_toldPlanes x_o_stack x_o_facts o_textLength o_buffer (l3 + l6) _ h11) (cwV 1 hts gX7_readLine_X7_byteAt rfl rfl rfl kd_X7_byteAt ⟨Nat.le_of_ble_eq_true rfl, Nat.le_of_ble_eq_true rfl⟩) ⟨kP_blind (EN_ok D cy) D _ _ _, va_recv hK hP (ci := 7) (q0 := 0) rfl rfl, kStart (EN_ok D cy) hE hP hD hS hA [0, 1] rfl rfl _⟩ rfl rfl hl.1 rfl (lv_room (Nat.le_of_ble_eq_true rfl)) dX7_readLine_101 ⟨Nat.zero_le _, Nat.zero_le _⟩) hP hD hS hA [0, 1] [2] rfl rfl rfl 3 rfl (by decide +kernel) (fun H locs hP hD hS => ?_)
          refine lv_istore (lv' := [(7, .int r10), (0, .ref q_o), (1, .int p1), (2, .int p2), (3, .int l3), (4, .int l4), (5, .int l5), (6, .int l6)]) hx hb dX7_readLine_104 hl (by decide) rfl (fun ls hl => ?_)
          refine lv_iload hx hb dX7_readLine_106 (lv_at hl 0 rfl) ?_
          refine lv_bipush (v := 46) hx hb dX7_readLine_108 (by decide) ?_
          refine lv_icmp_ne (tgt := 135) hx hb dX7_readLine_110 (by decide) (fun c12 => ?_) (fun c12 => ?_)
          · have hF := if_n hF c12
            exact J135 l3 l4 l5 l6 r10 o_position o_error o_errorAt o_draft H locs ls hP hD hS (lv_sub hl [1, 2, 3, 4, 5, 6, 7, 0] rfl) hF
          · have hF := if_p hF c12
            refine lv_iload_n hx hb dX7_readLine_113 rfl (lv_at hl 2 rfl) ?_
            refine lv_aload_n hx hb dX7_readLine_114 rfl (lv_at hl 1 rfl) ?_
            refine va_get (D := D) (ci := 7) (v := .ref q_o_draft) (C := RX7) (T := TX7) (N := 19) hx hb hts f_inX7 hown hK hP 0 rfl rfl 9 (by decide) f_f20 (fun _ h9 => h9) rfl dX7_readLine_115 ?_
            refine lv_iconst (v := 2) hx hb dX7_readLine_118 (by decide) ?_
            obtain ⟨h13, hF⟩ := ld_o hF
            refine va_iald hx hb hK hP 2 0 rfl rfl h13 dX7_readLine_119 ?_
            refine lv_topi (fun v14 ev14 => ?_)
            have hF := hF v14 ev14
            refine lv_iconst (v := 1) hx hb dX7_readLine_120 (by decide) ?_
            refine lv_isub hx hb dX7_readLine_121 ?_
            refine lv_icmp_ne (tgt := 135) hx hb dX7_readLine_122 (by decide) (fun c15 => ?_) (fun c15 => ?_)
            · have hF := if_n hF c15
              exact J135 l3 l4 l5 l6 r10 o_position o_error o_errorAt o_draft H locs ls hP hD hS (lv_sub hl [1, 2, 3, 4, 5, 6, 7, 0] rfl) hF
            · have hF := if_p hF c15
              refine lv_aload_n hx hb dX7_readLine_125 rfl (lv_at hl 1 rfl) ?_
              refine lv_bipush (v := -4) hx hb dX7_readLine_126 (by decide) ?_
              refine lv_iload_n hx hb dX7_readLine_128 rfl (lv_at hl 4 rfl) ?_
              refine lv_iload hx hb dX7_readLine_129 (lv_at hl 7 rfl) ?_
              refine lv_iadd hx hb dX7_readLine_131 ?_
              obtain ⟨o16, o17, h18, hF⟩ := bn2_o hF
              refine kd_v [(q_o, .inr (7, [x_o_thrown, .ref q_o_buffer, x_o_bufferLength, .int o_textLength, .int o_position, .int o16, .int o17, x_o_errorOffset, x_o_data, .ref q_o_draft, x_o_aside, x_o_history, x_o_undoDepth, x_o_numberStart, x_o_nesting, x_o_seen, x_o_toldPlanes, x_o_stack, x_o_facts])), (q_o_buffer, .inl (cy 0, 800, .inl o_buffer)), (q_o_draft, .inl (cy 0, 2243, .inl o_draft))] (va_runV (As := [.int (-4 : Int32), .int (l3 + l6)]) (rest := []) ⟨hx, hb, hml, hown, hts⟩ (c_X7_report q_o H.size x_o_thrown (.ref q_o_buffer) x_o_bufferLength (.int o_textLength) (.int o_position) x_o_errorOffset x_o_data (.ref q_o_draft) x_o_aside x_o_history x_o_undoDepth x_o_numberStart x_o_nesting x_o_seen x_o_toldPlanes x_o_stack x_o_facts o_error o_errorAt (-4 : Int32) (l3 + l6) _ h18) (cwV 2 hts gX7_readLine_X7_report rfl rfl rfl kd_X7_report ⟨Nat.le_of_ble_eq_true rfl, Nat.le_of_ble_eq_true rfl⟩) ⟨kP_blind (EN_ok D cy) D _ _ _, va_recv hK hP (ci := 7) (q0 := 0) rfl rfl, kStart (EN_ok D cy) hE hP hD hS hA [0] rfl rfl _⟩ rfl rfl hl.1 rfl (lv_room (Nat.le_of_ble_eq_true rfl)) dX7_readLine_132 ⟨Nat.zero_le _, Nat.zero_le _⟩) hP hD hS hA [0] [1, 2] rfl rfl rfl 3 rfl (by decide +kernel) (fun H locs hP hD hS => ?_)
              exact J135 l3 l4 l5 l6 r10 o_position o16 o17 o_draft H locs ls hP hD hS (lv_sub hl [1, 2, 3, 4, 5, 6, 7, 0] rfl) hF
  have J79 : ∀ (l3 : Int32) (l4 : Int32) (l5 : Int32) (o_position : Int32) (o_error : Int32) (o_errorAt : Int32) (H : Heap) (locs : List Loc) (ls : Array Slot), va_P D vwCl [(q_o, .inr (7, [x_o_thrown, .ref q_o_buffer, x_o_bufferLength, .int o_textLength, .int o_position, .int o_error, .int o_errorAt, x_o_errorOffset, x_o_data, .ref q_o_draft, x_o_aside, x_o_history, x_o_undoDepth, x_o_numberStart, x_o_nesting, x_o_seen, x_o_toldPlanes, x_o_stack, x_o_facts])), (q_o_buffer, .inl (cy 0, 800, .inl o_buffer)), (q_o_draft, .inl (cy 0, 2243, .inl o_draft))] H → va_D A [(q_o, .inr (7, [x_o_thrown, .ref q_o_buffer, x_o_bufferLength, .int o_textLength, .int o_position, .int o_error, .int o_errorAt, x_o_errorOffset, x_o_data, .ref q_o_draft, x_o_aside, x_o_history, x_o_undoDepth, x_o_numberStart, x_o_nesting, x_o_seen, x_o_toldPlanes, x_o_stack, x_o_facts])), (q_o_buffer, .inl (cy 0, 800, .inl o_buffer)), (q_o_draft, .inl (cy 0, 2243, .inl o_draft))] → va_S A s.heap H locs → lv_has ls 8 [(0, .ref q_o), (1, .int p1), (2, .int p2), (3, .int l3), (4, .int l4), (5, .int l5)] → X7_readLine_J79 o_textLength o_buffer o_draft p1 p2 l3 l4 l5 o_position o_error o_errorAt = some res → W p l e ({ frames := 2, cells := 0, slots := 0, locals := 42 } : Room) s m args below meth c H locs 0 0 QQ (F0 m 79 ls []) := by
    intro l3 l4 l5 o_position o_error o_errorAt H locs ls hP hD hS hl hF
    unfold X7_readLine_J79 at hF
    refine lv_iconst (v := 0) hx hb dX7_readLine_79 (by decide) ?_
    refine lv_istore (lv' := [(6, .int (0 : Int32)), (0, .ref q_o), (1, .int p1), (2, .int p2), (3, .int l3), (4, .int l4), (5, .int l5)]) hx hb dX7_readLine_80 hl (by decide) rfl (fun ls hl => ?_)
    exact J82 FU l3 l4 l5 (0 : Int32) o_position o_error o_errorAt o_draft H locs ls hP hD hS (lv_sub hl [1, 2, 3, 4, 5, 6, 0] rfl) hF
  have J45 : ∀ (n45 : Nat) (l3 : Int32) (l4 : Int32) (l5 : Int32) (o_position : Int32) (H : Heap) (locs : List Loc) (ls : Array Slot), va_P D vwCl [(q_o, .inr (7, [x_o_thrown, .ref q_o_buffer, x_o_bufferLength, .int o_textLength, .int o_position, .int o_error, .int o_errorAt, x_o_errorOffset, x_o_data, .ref q_o_draft, x_o_aside, x_o_history, x_o_undoDepth, x_o_numberStart, x_o_nesting, x_o_seen, x_o_toldPlanes, x_o_stack, x_o_facts])), (q_o_buffer, .inl (cy 0, 800, .inl o_buffer)), (q_o_draft, .inl (cy 0, 2243, .inl o_draft))] H → va_D A [(q_o, .inr (7, [x_o_thrown, .ref q_o_buffer, x_o_bufferLength, .int o_textLength, .int o_position, .int o_error, .int o_errorAt, x_o_errorOffset, x_o_data, .ref q_o_draft, x_o_aside, x_o_history, x_o_undoDepth, x_o_numberStart, x_o_nesting, x_o_seen, x_o_toldPlanes, x_o_stack, x_o_facts])), (q_o_buffer, .inl (cy 0, 800, .inl o_buffer)), (q_o_draft, .inl (cy 0, 2243, .inl o_draft))] → va_S A s.heap H locs → lv_has ls 8 [(0, .ref q_o), (1, .int p1), (2, .int p2), (3, .int l3), (4, .int l4), (5, .int l5)] → X7_readLine_L45 o_textLength o_error o_errorAt o_buffer o_draft p1 p2 n45 l3 l4 l5 o_position = some res → W p l e ({ frames := 2, cells := 0, slots := 0, locals := 42 } : Room) s m args below meth c H locs 0 0 QQ (F0 m 45 ls []) := by
    intro n45
    induction n45 with
    | zero =>
      intro l3 l4 l5 o_position H locs ls hP hD hS hl hF
      rw [X7_readLine_L45] at hF
      cases hF
    | succ n45 ih45 =>
      intro l3 l4 l5 o_position H locs ls hP hD hS hl hF
      rw [X7_readLine_L45] at hF
      refine lv_aload_n hx hb dX7_readLine_45 rfl (lv_at hl 0 rfl) ?_
      refine lv_iload_n hx hb dX7_readLine_46 rfl (lv_at hl 3 rfl) ?_
      refine lv_iload hx hb dX7_readLine_47 (lv_at hl 4 rfl) ?_
      refine lv_iadd hx hb dX7_readLine_49 ?_
      obtain ⟨r19, h20, hF⟩ := bn1_o hF
      refine kd_i [(q_o, .inr (7, [x_o_thrown, .ref q_o_buffer, x_o_bufferLength, .int o_textLength, .int o_position, .int o_error, .int o_errorAt, x_o_errorOffset, x_o_data, .ref q_o_draft, x_o_aside, x_o_history, x_o_undoDepth, x_o_numberStart, x_o_nesting, x_o_seen, x_o_toldPlanes, x_o_stack, x_o_facts])), (q_o_buffer, .inl (cy 0, 800, .inl o_buffer)), (q_o_draft, .inl (cy 0, 2243, .inl o_draft))] (va_runV (As := [.int (l3 + l4)]) (rest := []) ⟨hx, hb, hml, hown, hts⟩ (c_X7_byteAt q_o q_o_buffer H.size x_o_thrown x_o_bufferLength (.int o_position) (.int o_error) (.int o_errorAt) x_o_errorOffset x_o_data (.ref q_o_draft) x_o_aside x_o_history x_o_undoDepth x_o_numberStart x_o_nesting x_o_seen x_o_toldPlanes x_o_stack x_o_facts o_textLength o_buffer (l3 + l4) _ h20) (cwV 1 hts gX7_readLine_X7_byteAt rfl rfl rfl kd_X7_byteAt ⟨Nat.le_of_ble_eq_true rfl, Nat.le_of_ble_eq_true rfl⟩) ⟨kP_blind (EN_ok D cy) D _ _ _, va_recv hK hP (ci := 7) (q0 := 0) rfl rfl, kStart (EN_ok D cy) hE hP hD hS hA [0, 1] rfl rfl _⟩ rfl rfl hl.1 rfl (lv_room (Nat.le_of_ble_eq_true rfl)) dX7_readLine_50 ⟨Nat.zero_le _, Nat.zero_le _⟩) hP hD hS hA [0, 1] [2] rfl rfl rfl 3 rfl (by decide +kernel) (fun H locs hP hD hS => ?_)
      obtain ⟨r21, h22, hF⟩ := bn1_o hF
      refine kd_i [(q_o, .inr (7, [x_o_thrown, .ref q_o_buffer, x_o_bufferLength, .int o_textLength, .int o_position, .int o_error, .int o_errorAt, x_o_errorOffset, x_o_data, .ref q_o_draft, x_o_aside, x_o_history, x_o_undoDepth, x_o_numberStart, x_o_nesting, x_o_seen, x_o_toldPlanes, x_o_stack, x_o_facts])), (q_o_buffer, .inl (cy 0, 800, .inl o_buffer)), (q_o_draft, .inl (cy 0, 2243, .inl o_draft))] (va_runS (As := [.int r19]) (rest := []) ⟨hx, hb, hml, hown, hts⟩ (c_X7_isLine H.size r19 _ h22) (va_cwS 1 hts gX7_readLine_X7_isLine rfl rfl rfl kd_X7_isLine ⟨Nat.le_of_ble_eq_true rfl, Nat.le_of_ble_eq_true rfl⟩) ⟨kP_blind (EN_ok D cy) D _ _ _, kStart (EN_ok D cy) hE hP hD hS hA [] rfl rfl _⟩ rfl rfl hl.1 rfl (lv_room (Nat.le_of_ble_eq_true rfl)) dX7_readLine_53 ⟨Nat.zero_le _, Nat.zero_le _⟩) hP hD hS hA [] [0, 1, 2] rfl rfl rfl 3 rfl (by decide +kernel) (fun H locs hP hD hS => ?_)
      refine lv_if_eq (tgt := 65) hx hb dX7_readLine_56 (by decide) (fun c23 => ?_) (fun c23 => ?_)
      · have hF := if_p hF c23
        refine lv_iload hx hb dX7_readLine_65 (lv_at hl 4 rfl) ?_
        refine lv_iload hx hb dX7_readLine_67 (lv_at hl 5 rfl) ?_
        refine lv_icmp_eq (tgt := 79) hx hb dX7_readLine_69 (by decide) (fun c24 => ?_) (fun c24 => ?_)
        · have hF := if_p hF c24
          exact J79 l3 l4 l5 o_position o_error o_errorAt H locs ls hP hD hS (lv_sub hl [0, 1, 2, 3, 4, 5] rfl) hF
        · have hF := if_n hF c24
          refine lv_aload_n hx hb dX7_readLine_72 rfl (lv_at hl 0 rfl) ?_
          refine lv_bipush (v := -4) hx hb dX7_readLine_73 (by decide) ?_
          refine lv_iload_n hx hb dX7_readLine_75 rfl (lv_at hl 3 rfl) ?_
          obtain ⟨o25, o26, h27, hF⟩ := bn2_o hF
          refine kd_v [(q_o, .inr (7, [x_o_thrown, .ref q_o_buffer, x_o_bufferLength, .int o_textLength, .int o_position, .int o25, .int o26, x_o_errorOffset, x_o_data, .ref q_o_draft, x_o_aside, x_o_history, x_o_undoDepth, x_o_numberStart, x_o_nesting, x_o_seen, x_o_toldPlanes, x_o_stack, x_o_facts])), (q_o_buffer, .inl (cy 0, 800, .inl o_buffer)), (q_o_draft, .inl (cy 0, 2243, .inl o_draft))] (va_runV (As := [.int (-4 : Int32), .int l3]) (rest := []) ⟨hx, hb, hml, hown, hts⟩ (c_X7_report q_o H.size x_o_thrown (.ref q_o_buffer) x_o_bufferLength (.int o_textLength) (.int o_position) x_o_errorOffset x_o_data (.ref q_o_draft) x_o_aside x_o_history x_o_undoDepth x_o_numberStart x_o_nesting x_o_seen x_o_toldPlanes x_o_stack x_o_facts o_error o_errorAt (-4 : Int32) l3 _ h27) (cwV 2 hts gX7_readLine_X7_report rfl rfl rfl kd_X7_report ⟨Nat.le_of_ble_eq_true rfl, Nat.le_of_ble_eq_true rfl⟩) ⟨kP_blind (EN_ok D cy) D _ _ _, va_recv hK hP (ci := 7) (q0 := 0) rfl rfl, kStart (EN_ok D cy) hE hP hD hS hA [0] rfl rfl _⟩ rfl rfl hl.1 rfl (lv_room (Nat.le_of_ble_eq_true rfl)) dX7_readLine_76 ⟨Nat.zero_le _, Nat.zero_le _⟩) hP hD hS hA [0] [1, 2] rfl rfl rfl 3 rfl (by decide +kernel) (fun H locs hP hD hS => ?_)
          exact J79 l3 l4 l5 o_position o25 o26 H locs ls hP hD hS (lv_sub hl [0, 1, 2, 3, 4, 5] rfl) hF
      · have hF := if_n hF c23
        obtain ⟨v28, ev28⟩ : ∃ y : Int32, y = l4 + (1 : Int32) := ⟨_, rfl⟩
        have hF := nm_o hF v28 ev28
        refine lv_iinc (v := v28) (lv' := [(4, .int v28), (0, .ref q_o), (1, .int p1), (2, .int p2), (3, .int l3), (5, .int l5)]) hx hb dX7_readLine_59 hl (k := 4) rfl (by rw [ev28]; rfl) (by decide) rfl (fun ls hl => ?_)
        refine lv_goto (tgt := 45) hx hb dX7_readLine_62 (by decide) ?_
        exact ih45 l3 v28 l5 o_position H locs ls hP hD hS (lv_sub hl [1, 2, 3, 4, 0, 5] rfl) hF
  have main : ∀ (H : Heap) (locs : List Loc) (ls : Array Slot), va_P D vwCl [(q_o, .inr (7, [x_o_thrown, .ref q_o_buffer, x_o_bufferLength, .int o_textLength, .int o_position, .int o_error, .int o_errorAt, x_o_errorOffset, x_o_data, .ref q_o_draft, x_o_aside, x_o_history, x_o_undoDepth, x_o_numberStart, x_o_nesting, x_o_seen, x_o_toldPlanes, x_o_stack, x_o_facts])), (q_o_buffer, .inl (cy 0, 800, .inl o_buffer)), (q_o_draft, .inl (cy 0, 2243, .inl o_draft))] H → va_D A [(q_o, .inr (7, [x_o_thrown, .ref q_o_buffer, x_o_bufferLength, .int o_textLength, .int o_position, .int o_error, .int o_errorAt, x_o_errorOffset, x_o_data, .ref q_o_draft, x_o_aside, x_o_history, x_o_undoDepth, x_o_numberStart, x_o_nesting, x_o_seen, x_o_toldPlanes, x_o_stack, x_o_facts])), (q_o_buffer, .inl (cy 0, 800, .inl o_buffer)), (q_o_draft, .inl (cy 0, 2243, .inl o_draft))] → va_S A s.heap H locs → lv_has ls 8 [(0, .ref q_o), (1, .int p1), (2, .int p2)] → W p l e ({ frames := 2, cells := 0, slots := 0, locals := 42 } : Room) s m args below meth c H locs 0 0 QQ (F0 m 0 ls []) := by
    intro H locs ls hP hD hS hl
    unfold X7_readLine at hF
    refine lv_aload_n hx hb dX7_readLine_0 rfl (lv_at hl 0 rfl) ?_
    obtain ⟨r29, h30, hF⟩ := bn1_o hF
    refine kd_i [(q_o, .inr (7, [x_o_thrown, .ref q_o_buffer, x_o_bufferLength, .int o_textLength, .int o_position, .int o_error, .int o_errorAt, x_o_errorOffset, x_o_data, .ref q_o_draft, x_o_aside, x_o_history, x_o_undoDepth, x_o_numberStart, x_o_nesting, x_o_seen, x_o_toldPlanes, x_o_stack, x_o_facts])), (q_o_buffer, .inl (cy 0, 800, .inl o_buffer)), (q_o_draft, .inl (cy 0, 2243, .inl o_draft))] (va_runV (As := []) (rest := []) ⟨hx, hb, hml, hown, hts⟩ (c_X7_isGood q_o H.size x_o_thrown (.ref q_o_buffer) x_o_bufferLength (.int o_textLength) (.int o_position) (.int o_errorAt) x_o_errorOffset x_o_data (.ref q_o_draft) x_o_aside x_o_history x_o_undoDepth x_o_numberStart x_o_nesting x_o_seen x_o_toldPlanes x_o_stack x_o_facts o_error _ h30) (cwV 0 hts gX7_readLine_X7_isGood rfl rfl rfl kd_X7_isGood ⟨Nat.le_of_ble_eq_true rfl, Nat.le_of_ble_eq_true rfl⟩) ⟨kP_blind (EN_ok D cy) D _ _ _, va_recv hK hP (ci := 7) (q0 := 0) rfl rfl, kStart (EN_ok D cy) hE hP hD hS hA [0] rfl rfl _⟩ rfl rfl hl.1 rfl (lv_room (Nat.le_of_ble_eq_true rfl)) dX7_readLine_1 ⟨Nat.zero_le _, Nat.zero_le _⟩) hP hD hS hA [0] [1, 2] rfl rfl rfl 3 rfl (by decide +kernel) (fun H locs hP hD hS => ?_)
    refine lv_if_ne (tgt := 8) hx hb dX7_readLine_4 (by decide) (fun c31 => ?_) (fun c31 => ?_)
    · have hF := if_n hF c31
      refine lv_aload_n hx hb dX7_readLine_8 rfl (lv_at hl 0 rfl) ?_
      obtain ⟨r32, o33, h34, hF⟩ := bn2_o hF
      refine kd_i [(q_o, .inr (7, [x_o_thrown, .ref q_o_buffer, x_o_bufferLength, .int o_textLength, .int o33, .int o_error, .int o_errorAt, x_o_errorOffset, x_o_data, .ref q_o_draft, x_o_aside, x_o_history, x_o_undoDepth, x_o_numberStart, x_o_nesting, x_o_seen, x_o_toldPlanes, x_o_stack, x_o_facts])), (q_o_buffer, .inl (cy 0, 800, .inl o_buffer)), (q_o_draft, .inl (cy 0, 2243, .inl o_draft))] (va_runV (As := []) (rest := []) ⟨hx, hb, hml, hown, hts⟩ (c_X7_ahead q_o q_o_buffer H.size x_o_thrown x_o_bufferLength (.int o_error) (.int o_errorAt) x_o_errorOffset x_o_data (.ref q_o_draft) x_o_aside x_o_history x_o_undoDepth x_o_numberStart x_o_nesting x_o_seen x_o_toldPlanes x_o_stack x_o_facts o_textLength o_position o_buffer _ h34) (cwV 0 hts gX7_readLine_X7_ahead rfl rfl rfl kd_X7_ahead ⟨Nat.le_of_ble_eq_true rfl, Nat.le_of_ble_eq_true rfl⟩) ⟨kP_blind (EN_ok D cy) D _ _ _, va_recv hK hP (ci := 7) (q0 := 0) rfl rfl, kStart (EN_ok D cy) hE hP hD hS hA [0, 1] rfl rfl _⟩ rfl rfl hl.1 rfl (lv_room (Nat.le_of_ble_eq_true rfl)) dX7_readLine_9 ⟨Nat.zero_le _, Nat.zero_le _⟩) hP hD hS hA [0, 1] [2] rfl rfl rfl 3 rfl (by decide +kernel) (fun H locs hP hD hS => ?_)
      obtain ⟨r35, h36, hF⟩ := bn1_o hF
      refine kd_i [(q_o, .inr (7, [x_o_thrown, .ref q_o_buffer, x_o_bufferLength, .int o_textLength, .int o33, .int o_error, .int o_errorAt, x_o_errorOffset, x_o_data, .ref q_o_draft, x_o_aside, x_o_history, x_o_undoDepth, x_o_numberStart, x_o_nesting, x_o_seen, x_o_toldPlanes, x_o_stack, x_o_facts])), (q_o_buffer, .inl (cy 0, 800, .inl o_buffer)), (q_o_draft, .inl (cy 0, 2243, .inl o_draft))] (va_runS (As := [.int r32]) (rest := []) ⟨hx, hb, hml, hown, hts⟩ (c_X7_isLine H.size r32 _ h36) (va_cwS 1 hts gX7_readLine_X7_isLine rfl rfl rfl kd_X7_isLine ⟨Nat.le_of_ble_eq_true rfl, Nat.le_of_ble_eq_true rfl⟩) ⟨kP_blind (EN_ok D cy) D _ _ _, kStart (EN_ok D cy) hE hP hD hS hA [] rfl rfl _⟩ rfl rfl hl.1 rfl (lv_room (Nat.le_of_ble_eq_true rfl)) dX7_readLine_12 ⟨Nat.zero_le _, Nat.zero_le _⟩) hP hD hS hA [] [0, 1, 2] rfl rfl rfl 3 rfl (by decide +kernel) (fun H locs hP hD hS => ?_)
      refine lv_if_ne (tgt := 29) hx hb dX7_readLine_15 (by decide) (fun c37 => ?_) (fun c37 => ?_)
      · have hF := if_n hF c37
        refine lv_aload_n hx hb dX7_readLine_29 rfl (lv_at hl 0 rfl) ?_
        refine va_get (D := D) (ci := 7) (v := .int o33) (C := RX7) (T := TX7) (N := 19) hx hb hts f_inX7 hown hK hP 0 rfl rfl 4 (by decide) f_f51 (fun _ h9 => h9) rfl dX7_readLine_30 ?_
        refine lv_istore_n (lv' := [(3, .int o33), (0, .ref q_o), (1, .int p1), (2, .int p2)]) hx hb dX7_readLine_33 rfl hl (by decide) rfl (fun ls hl => ?_)
        refine lv_iconst (v := 0) hx hb dX7_readLine_34 (by decide) ?_
        refine lv_istore (lv' := [(4, .int (0 : Int32)), (3, .int o33), (0, .ref q_o), (1, .int p1), (2, .int p2)]) hx hb dX7_readLine_35 hl (by decide) rfl (fun ls hl => ?_)
        refine lv_aload_n hx hb dX7_readLine_37 rfl (lv_at hl 2 rfl) ?_
        refine va_get (D := D) (ci := 7) (v := .ref q_o_draft) (C := RX7) (T := TX7) (N := 19) hx hb hts f_inX7 hown hK hP 0 rfl rfl 9 (by decide) f_f20 (fun _ h9 => h9) rfl dX7_readLine_38 ?_
        refine lv_iconst (v := 0) hx hb dX7_readLine_41 (by decide) ?_
        obtain ⟨h38, hF⟩ := ld_o hF
        refine va_iald hx hb hK hP 2 0 rfl rfl h38 dX7_readLine_42 ?_
        refine lv_topi (fun v39 ev39 => ?_)
        have hF := hF v39 ev39
        refine lv_istore (lv' := [(5, .int v39), (4, .int (0 : Int32)), (3, .int o33), (0, .ref q_o), (1, .int p1), (2, .int p2)]) hx hb dX7_readLine_43 hl (by decide) rfl (fun ls hl => ?_)
        exact J45 FU o33 (0 : Int32) v39 o33 H locs ls hP hD hS (lv_sub hl [3, 4, 5, 2, 1, 0] rfl) hF
      · have hF := if_p hF c37
        refine lv_aload_n hx hb dX7_readLine_18 rfl (lv_at hl 0 rfl) ?_
        refine lv_bipush (v := -2) hx hb dX7_readLine_19 (by decide) ?_
        refine lv_aload_n hx hb dX7_readLine_21 rfl (lv_at hl 0 rfl) ?_
        refine va_get (D := D) (ci := 7) (v := .int o33) (C := RX7) (T := TX7) (N := 19) hx hb hts f_inX7 hown hK hP 0 rfl rfl 4 (by decide) f_f51 (fun _ h9 => h9) rfl dX7_readLine_22 ?_
        obtain ⟨o40, o41, h42, hF⟩ := bn2_o hF
        refine kd_v [(q_o, .inr (7, [x_o_thrown, .ref q_o_buffer, x_o_bufferLength, .int o_textLength, .int o33, .int o40, .int o41, x_o_errorOffset, x_o_data, .ref q_o_draft, x_o_aside, x_o_history, x_o_undoDepth, x_o_numberStart, x_o_nesting, x_o_seen, x_o_toldPlanes, x_o_stack, x_o_facts])), (q_o_buffer, .inl (cy 0, 800, .inl o_buffer)), (q_o_draft, .inl (cy 0, 2243, .inl o_draft))] (va_runV (As := [.int (-2 : Int32), .int o33]) (rest := []) ⟨hx, hb, hml, hown, hts⟩ (c_X7_report q_o H.size x_o_thrown (.ref q_o_buffer) x_o_bufferLength (.int o_textLength) (.int o33) x_o_errorOffset x_o_data (.ref q_o_draft) x_o_aside x_o_history x_o_undoDepth x_o_numberStart x_o_nesting x_o_seen x_o_toldPlanes x_o_stack x_o_facts o_error o_errorAt (-2 : Int32) o33 _ h42) (cwV 2 hts gX7_readLine_X7_report rfl rfl rfl kd_X7_report ⟨Nat.le_of_ble_eq_true rfl, Nat.le_of_ble_eq_true rfl⟩) ⟨kP_blind (EN_ok D cy) D _ _ _, va_recv hK hP (ci := 7) (q0 := 0) rfl rfl, kStart (EN_ok D cy) hE hP hD hS hA [0] rfl rfl _⟩ rfl rfl hl.1 rfl (lv_room (Nat.le_of_ble_eq_true rfl)) dX7_readLine_25 ⟨Nat.zero_le _, Nat.zero_le _⟩) hP hD hS hA [0] [1, 2] rfl rfl rfl 3 rfl (by decide +kernel) (fun H locs hP hD hS => ?_)
        obtain rfl := so_o hF
        rw [hQQ]
        exact kr_v hx hb hr hlocks hP hD hS dX7_readLine_28
    · have hF := if_p hF c31
      obtain rfl := so_o hF
      rw [hQQ]
      exact kr_v hx hb hr hlocks hP hD hS dX7_readLine_7
  exact main s.heap [] ls hP hD hS hl
theorem kd_X7_readPlane : yX7_readPlane.cls = RX7 ∧ yX7_readPlane.cls ≠ "java/lang/invoke/MethodHandle" ∧ yX7_readPlane.cls ≠ "java/lang/invoke/VarHandle" ∧ (parseMethodDescriptor yX7_readPlane.desc).map (fun d => d.parameters.length) = some 1 := by decide +kernel
set_option maxHeartbeats 4000000 in
set_option maxRecDepth 100000 in
theorem c_X7_readPlane {l : Launch} {D : va_G} {cy : Nat → ClassId} (q_o q_o_buffer q_o_draft : Nat) (sz : Nat) (x_o_thrown x_o_bufferLength x_o_errorOffset x_o_data x_o_aside x_o_history x_o_undoDepth x_o_numberStart x_o_nesting x_o_seen x_o_stack x_o_facts : Value) (o_textLength : Int32) (o_position : Int32) (o_error : Int32) (o_errorAt : Int32) (o_toldPlanes : Int32) (o_buffer : Nat → Int32) (o_draft : Nat → Int32) (p1 : Int32) (res : Int32 × Int32 × Int32 × Int32 × (Nat → Int32)) (hF : X7_readPlane o_textLength o_position o_error o_errorAt o_toldPlanes o_buffer o_draft p1 = some res) : Met l yX7_readPlane wsX7_readPlane ({ frames := 3, cells := 0, slots := 0, locals := 69 } : Room) (kP (EN D cy) D [.ref q_o, .int p1] [(q_o, .inr (7, [x_o_thrown, .ref q_o_buffer, x_o_bufferLength, .int o_textLength, .int o_position, .int o_error, .int o_errorAt, x_o_errorOffset, x_o_data, .ref q_o_draft, x_o_aside, x_o_history, x_o_undoDepth, x_o_numberStart, x_o_nesting, x_o_seen, .int o_toldPlanes, x_o_stack, x_o_facts])), (q_o_buffer, .inl (cy 0, 800, .inl o_buffer)), (q_o_draft, .inl (cy 0, 2243, .inl o_draft))] sz) (kQv D [(q_o, .inr (7, [x_o_thrown, .ref q_o_buffer, x_o_bufferLength, .int o_textLength, .int res.1, .int res.2.1, .int res.2.2.1, x_o_errorOffset, x_o_data, .ref q_o_draft, x_o_aside, x_o_history, x_o_undoDepth, x_o_numberStart, x_o_nesting, x_o_seen, .int res.2.2.2.1, x_o_stack, x_o_facts])), (q_o_buffer, .inl (cy 0, 800, .inl o_buffer)), (q_o_draft, .inl (cy 0, 2243, .inl res.2.2.2.2))] (va_A [(q_o, .inr (7, [x_o_thrown, .ref q_o_buffer, x_o_bufferLength, .int o_textLength, .int o_position, .int o_error, .int o_errorAt, x_o_errorOffset, x_o_data, .ref q_o_draft, x_o_aside, x_o_history, x_o_undoDepth, x_o_numberStart, x_o_nesting, x_o_seen, .int o_toldPlanes, x_o_stack, x_o_facts])), (q_o_buffer, .inl (cy 0, 800, .inl o_buffer)), (q_o_draft, .inl (cy 0, 2243, .inl o_draft))] sz)) 0 0 (va_A [(q_o, .inr (7, [x_o_thrown, .ref q_o_buffer, x_o_bufferLength, .int o_textLength, .int o_position, .int o_error, .int o_errorAt, x_o_errorOffset, x_o_data, .ref q_o_draft, x_o_aside, x_o_history, x_o_undoDepth, x_o_numberStart, x_o_nesting, x_o_seen, .int o_toldPlanes, x_o_stack, x_o_facts])), (q_o_buffer, .inl (cy 0, 800, .inl o_buffer)), (q_o_draft, .inl (cy 0, 2243, .inl o_draft))] sz) := by
  refine kMet (y := yX7_readPlane) (av := [.ref q_o, .int p1]) (cc := cX7_readPlane) (maxL := 3) (ret := none) (own := RX7) (Qc := fun A9 => (kQv D [(q_o, .inr (7, [x_o_thrown, .ref q_o_buffer, x_o_bufferLength, .int o_textLength, .int res.1, .int res.2.1, .int res.2.2.1, x_o_errorOffset, x_o_data, .ref q_o_draft, x_o_aside, x_o_history, x_o_undoDepth, x_o_numberStart, x_o_nesting, x_o_seen, .int res.2.2.2.1, x_o_stack, x_o_facts])), (q_o_buffer, .inl (cy 0, 800, .inl o_buffer)), (q_o_draft, .inl (cy 0, 2243, .inl res.2.2.2.2))] A9)) (by decide) rfl rfl (Nat.le_of_ble_eq_true rfl) ?_
  intro p e s m args below meth c A hx hb hr hts hown hml hlocks hname hE hP hD hA hsz ls hl
  have hK := hE.1
  have hl : lv_has ls 3 [(0, .ref q_o), (1, .int p1)] := hl
  have hS : va_S A s.heap s.heap [] := va_S.rf
  have f_f20 := hts (.fieldLink RX7 20 "PeepBoxModel" "draft" "[I") (by decide +kernel)
  have f_inX7 : ∀ w ∈ wsX70, w ∈ wsX7_readPlane := by decide +kernel
  have f_f141 := hts (.fieldLink RX7 141 "PeepBoxModel" "toldPlanes" "I") (by decide +kernel)
  obtain ⟨QQ, hQQ⟩ : ∃ Q9, Q9 = MQ below (kQv D [(q_o, .inr (7, [x_o_thrown, .ref q_o_buffer, x_o_bufferLength, .int o_textLength, .int res.1, .int res.2.1, .int res.2.2.1, x_o_errorOffset, x_o_data, .ref q_o_draft, x_o_aside, x_o_history, x_o_undoDepth, x_o_numberStart, x_o_nesting, x_o_seen, .int res.2.2.2.1, x_o_stack, x_o_facts])), (q_o_buffer, .inl (cy 0, 800, .inl o_buffer)), (q_o_draft, .inl (cy 0, 2243, .inl res.2.2.2.2))] A) args s 0 0 A := ⟨_, rfl⟩
  rw [← hQQ]
  have J22 : ∀ (n22 : Nat) (l2 : Int32) (o_position : Int32) (o_error : Int32) (o_errorAt : Int32) (o_draft : Nat → Int32) (H : Heap) (locs : List Loc) (ls : Array Slot), va_P D vwCl [(q_o, .inr (7, [x_o_thrown, .ref q_o_buffer, x_o_bufferLength, .int o_textLength, .int o_position, .int o_error, .int o_errorAt, x_o_errorOffset, x_o_data, .ref q_o_draft, x_o_aside, x_o_history, x_o_undoDepth, x_o_numberStart, x_o_nesting, x_o_seen, .int o_toldPlanes, x_o_stack, x_o_facts])), (q_o_buffer, .inl (cy 0, 800, .inl o_buffer)), (q_o_draft, .inl (cy 0, 2243, .inl o_draft))] H → va_D A [(q_o, .inr (7, [x_o_thrown, .ref q_o_buffer, x_o_bufferLength, .int o_textLength, .int o_position, .int o_error, .int o_errorAt, x_o_errorOffset, x_o_data, .ref q_o_draft, x_o_aside, x_o_history, x_o_undoDepth, x_o_numberStart, x_o_nesting, x_o_seen, .int o_toldPlanes, x_o_stack, x_o_facts])), (q_o_buffer, .inl (cy 0, 800, .inl o_buffer)), (q_o_draft, .inl (cy 0, 2243, .inl o_draft))] → va_S A s.heap H locs → lv_has ls 3 [(0, .ref q_o), (2, .int l2)] → X7_readPlane_L22 o_textLength o_toldPlanes o_buffer p1 n22 l2 o_position o_error o_errorAt o_draft = some res → W p l e ({ frames := 3, cells := 0, slots := 0, locals := 69 } : Room) s m args below meth c H locs 0 0 QQ (F0 m 22 ls []) := by
    intro n22
    induction n22 with
    | zero =>
      intro l2 o_position o_error o_errorAt o_draft H locs ls hP hD hS hl hF
      rw [X7_readPlane_L22] at hF
      cases hF
    | succ n22 ih22 =>
      intro l2 o_position o_error o_errorAt o_draft H locs ls hP hD hS hl hF
      rw [X7_readPlane_L22] at hF
      refine lv_iload_n hx hb dX7_readPlane_22 rfl (lv_at hl 1 rfl) ?_
      refine lv_aload_n hx hb dX7_readPlane_23 rfl (lv_at hl 0 rfl) ?_
      refine va_get (D := D) (ci := 7) (v := .ref q_o_draft) (C := RX7) (T := TX7) (N := 19) hx hb hts f_inX7 hown hK hP 0 rfl rfl 9 (by decide) f_f20 (fun _ h9 => h9) rfl dX7_readPlane_24 ?_
      refine lv_iconst (v := 1) hx hb dX7_readPlane_27 (by decide) ?_
      obtain ⟨h1, hF⟩ := ld_o hF
      refine va_iald hx hb hK hP 2 0 rfl rfl h1 dX7_readPlane_28 ?_
      refine lv_topi (fun v2 ev2 => ?_)
      have hF := hF v2 ev2
      refine lv_icmp_ge (tgt := 47) hx hb dX7_readPlane_29 (by decide) (fun c3 => ?_) (fun c3 => ?_)
      · have hF := if_p hF c3
        refine lv_aload_n hx hb dX7_readPlane_47 rfl (lv_at hl 0 rfl) ?_
        refine lv_dup hx hb dX7_readPlane_48 rfl ?_
        refine va_get (D := D) (ci := 7) (v := .int o_toldPlanes) (C := RX7) (T := TX7) (N := 19) hx hb hts f_inX7 hown hK hP 0 rfl rfl 16 (by decide) f_f141 (fun _ h9 => h9) rfl dX7_readPlane_49 ?_
        refine lv_iconst (v := 1) hx hb dX7_readPlane_52 (by decide) ?_
        refine lv_iadd hx hb dX7_readPlane_53 ?_
        refine lv_topi (fun v4 ev4 => ?_)
        have hF := nm_o hF v4 ev4
        refine va_put (D := D) (ci := 7) (v := .int v4) (ty := .int) (C := RX7) (T := TX7) (N := 19) hx hb hts f_inX7 tyX7 tyX7_ok nmX7 hown hK hP hD hS 0 rfl rfl 16 (by decide) f_f141 (fun _ h9 => h9) rfl (by decide +kernel) rfl rfl (Nat.le_of_ble_eq_true rfl) dX7_readPlane_54 (fun H locs hP hD hS => ?_)
        have hP : va_P D vwCl [(q_o, .inr (7, [x_o_thrown, .ref q_o_buffer, x_o_bufferLength, .int o_textLength, .int o_position, .int o_error, .int o_errorAt, x_o_errorOffset, x_o_data, .ref q_o_draft, x_o_aside, x_o_history, x_o_undoDepth, x_o_numberStart, x_o_nesting, x_o_seen, .int v4, x_o_stack, x_o_facts])), (q_o_buffer, .inl (cy 0, 800, .inl o_buffer)), (q_o_draft, .inl (cy 0, 2243, .inl o_draft))] H := hP
        have hD : va_D A [(q_o, .inr (7, [x_o_thrown, .ref q_o_buffer, x_o_bufferLength, .int o_textLength, .int o_position, .int o_error, .int o_errorAt, x_o_errorOffset, x_o_data, .ref q_o_draft, x_o_aside, x_o_history, x_o_undoDepth, x_o_numberStart, x_o_nesting, x_o_seen, .int v4, x_o_stack, x_o_facts])), (q_o_buffer, .inl (cy 0, 800, .inl o_buffer)), (q_o_draft, .inl (cy 0, 2243, .inl o_draft))] := hD
        obtain rfl := so_o hF
        rw [hQQ]
        exact kr_v hx hb hr hlocks hP hD hS dX7_readPlane_57
      · have hF := if_n hF c3
        refine lv_aload_n hx hb dX7_readPlane_32 rfl (lv_at hl 0 rfl) ?_
        refine lv_aload_n hx hb dX7_readPlane_33 rfl (lv_at hl 0 rfl) ?_
        refine va_get (D := D) (ci := 7) (v := .int o_toldPlanes) (C := RX7) (T := TX7) (N := 19) hx hb hts f_inX7 hown hK hP 0 rfl rfl 16 (by decide) f_f141 (fun _ h9 => h9) rfl dX7_readPlane_34 ?_
        refine lv_iload_n hx hb dX7_readPlane_37 rfl (lv_at hl 1 rfl) ?_
        obtain ⟨o5, o6, o7, o8, h9, hF⟩ := bn4_o hF
        refine kd_v [(q_o, .inr (7, [x_o_thrown, .ref q_o_buffer, x_o_bufferLength, .int o_textLength, .int o5, .int o6, .int o7, x_o_errorOffset, x_o_data, .ref q_o_draft, x_o_aside, x_o_history, x_o_undoDepth, x_o_numberStart, x_o_nesting, x_o_seen, .int o_toldPlanes, x_o_stack, x_o_facts])), (q_o_buffer, .inl (cy 0, 800, .inl o_buffer)), (q_o_draft, .inl (cy 0, 2243, .inl o8))] (va_runV (As := [.int o_toldPlanes, .int l2]) (rest := []) ⟨hx, hb, hml, hown, hts⟩ (c_X7_readLine q_o q_o_buffer q_o_draft H.size x_o_thrown x_o_bufferLength x_o_errorOffset x_o_data x_o_aside x_o_history x_o_undoDepth x_o_numberStart x_o_nesting x_o_seen (.int o_toldPlanes) x_o_stack x_o_facts o_textLength o_position o_error o_errorAt o_buffer o_draft o_toldPlanes l2 _ h9) (cwV 2 hts gX7_readPlane_X7_readLine rfl rfl rfl kd_X7_readLine ⟨Nat.le_of_ble_eq_true rfl, Nat.le_of_ble_eq_true rfl⟩) ⟨kP_blind (EN_ok D cy) D _ _ _, va_recv hK hP (ci := 7) (q0 := 0) rfl rfl, kStart (EN_ok D cy) hE hP hD hS hA [0, 1, 2] rfl rfl _⟩ rfl rfl hl.1 rfl (lv_room (Nat.le_of_ble_eq_true rfl)) dX7_readPlane_38 ⟨Nat.zero_le _, Nat.zero_le _⟩) hP hD hS hA [0, 1, 2] [] rfl rfl rfl 3 rfl (by decide +kernel) (fun H locs hP hD hS => ?_)
        obtain ⟨v10, ev10⟩ : ∃ y : Int32, y = l2 + (1 : Int32) := ⟨_, rfl⟩
        have hF := nm_o hF v10 ev10
        refine lv_iinc (v := v10) (lv' := [(2, .int v10), (0, .ref q_o)]) hx hb dX7_readPlane_41 hl (k := 1) rfl (by rw [ev10]; rfl) (by decide) rfl (fun ls hl => ?_)
        refine lv_goto (tgt := 22) hx hb dX7_readPlane_44 (by decide) ?_
        exact ih22 v10 o5 o6 o7 o8 H locs ls hP hD hS (lv_sub hl [1, 0] rfl) hF
  have J20 : ∀ (o_error : Int32) (o_errorAt : Int32) (H : Heap) (locs : List Loc) (ls : Array Slot), va_P D vwCl [(q_o, .inr (7, [x_o_thrown, .ref q_o_buffer, x_o_bufferLength, .int o_textLength, .int o_position, .int o_error, .int o_errorAt, x_o_errorOffset, x_o_data, .ref q_o_draft, x_o_aside, x_o_history, x_o_undoDepth, x_o_numberStart, x_o_nesting, x_o_seen, .int o_toldPlanes, x_o_stack, x_o_facts])), (q_o_buffer, .inl (cy 0, 800, .inl o_buffer)), (q_o_draft, .inl (cy 0, 2243, .inl o_draft))] H → va_D A [(q_o, .inr (7, [x_o_thrown, .ref q_o_buffer, x_o_bufferLength, .int o_textLength, .int o_position, .int o_error, .int o_errorAt, x_o_errorOffset, x_o_data, .ref q_o_draft, x_o_aside, x_o_history, x_o_undoDepth, x_o_numberStart, x_o_nesting, x_o_seen, .int o_toldPlanes, x_o_stack, x_o_facts])), (q_o_buffer, .inl (cy 0, 800, .inl o_buffer)), (q_o_draft, .inl (cy 0, 2243, .inl o_draft))] → va_S A s.heap H locs → lv_has ls 3 [(0, .ref q_o)] → X7_readPlane_J20 o_textLength o_position o_toldPlanes o_buffer o_draft p1 o_error o_errorAt = some res → W p l e ({ frames := 3, cells := 0, slots := 0, locals := 69 } : Room) s m args below meth c H locs 0 0 QQ (F0 m 20 ls []) := by
    intro o_error o_errorAt H locs ls hP hD hS hl hF
    unfold X7_readPlane_J20 at hF
    refine lv_iconst (v := 0) hx hb dX7_readPlane_20 (by decide) ?_
    refine lv_istore_n (lv' := [(2, .int (0 : Int32)), (0, .ref q_o)]) hx hb dX7_readPlane_21 rfl hl (by decide) rfl (fun ls hl => ?_)
    exact J22 FU (0 : Int32) o_position o_error o_errorAt o_draft H locs ls hP hD hS (lv_sub hl [1, 0] rfl) hF
  have main : ∀ (H : Heap) (locs : List Loc) (ls : Array Slot), va_P D vwCl [(q_o, .inr (7, [x_o_thrown, .ref q_o_buffer, x_o_bufferLength, .int o_textLength, .int o_position, .int o_error, .int o_errorAt, x_o_errorOffset, x_o_data, .ref q_o_draft, x_o_aside, x_o_history, x_o_undoDepth, x_o_numberStart, x_o_nesting, x_o_seen, .int o_toldPlanes, x_o_stack, x_o_facts])), (q_o_buffer, .inl (cy 0, 800, .inl o_buffer)), (q_o_draft, .inl (cy 0, 2243, .inl o_draft))] H → va_D A [(q_o, .inr (7, [x_o_thrown, .ref q_o_buffer, x_o_bufferLength, .int o_textLength, .int o_position, .int o_error, .int o_errorAt, x_o_errorOffset, x_o_data, .ref q_o_draft, x_o_aside, x_o_history, x_o_undoDepth, x_o_numberStart, x_o_nesting, x_o_seen, .int o_toldPlanes, x_o_stack, x_o_facts])), (q_o_buffer, .inl (cy 0, 800, .inl o_buffer)), (q_o_draft, .inl (cy 0, 2243, .inl o_draft))] → va_S A s.heap H locs → lv_has ls 3 [(0, .ref q_o), (1, .int p1)] → W p l e ({ frames := 3, cells := 0, slots := 0, locals := 69 } : Room) s m args below meth c H locs 0 0 QQ (F0 m 0 ls []) := by
    intro H locs ls hP hD hS hl
    unfold X7_readPlane at hF
    refine lv_aload_n hx hb dX7_readPlane_0 rfl (lv_at hl 0 rfl) ?_
    refine va_get (D := D) (ci := 7) (v := .int o_toldPlanes) (C := RX7) (T := TX7) (N := 19) hx hb hts f_inX7 hown hK hP 0 rfl rfl 16 (by decide) f_f141 (fun _ h9 => h9) rfl dX7_readPlane_1 ?_
    refine lv_aload_n hx hb dX7_readPlane_4 rfl (lv_at hl 0 rfl) ?_
    refine va_get (D := D) (ci := 7) (v := .ref q_o_draft) (C := RX7) (T := TX7) (N := 19) hx hb hts f_inX7 hown hK hP 0 rfl rfl 9 (by decide) f_f20 (fun _ h9 => h9) rfl dX7_readPlane_5 ?_
    refine lv_iconst (v := 2) hx hb dX7_readPlane_8 (by decide) ?_
    obtain ⟨h11, hF⟩ := ld_o hF
    refine va_iald hx hb hK hP 2 0 rfl rfl h11 dX7_readPlane_9 ?_
    refine lv_topi (fun v12 ev12 => ?_)
    have hF := hF v12 ev12
    refine lv_icmp_ne (tgt := 20) hx hb dX7_readPlane_10 (by decide) (fun c13 => ?_) (fun c13 => ?_)
    · have hF := if_n hF c13
      exact J20 o_error o_errorAt H locs ls hP hD hS (lv_sub hl [0] rfl) hF
    · have hF := if_p hF c13
      refine lv_aload_n hx hb dX7_readPlane_13 rfl (lv_at hl 0 rfl) ?_
      refine lv_bipush (v := -5) hx hb dX7_readPlane_14 (by decide) ?_
      refine lv_iload_n hx hb dX7_readPlane_16 rfl (lv_at hl 1 rfl) ?_
      obtain ⟨o14, o15, h16, hF⟩ := bn2_o hF
      refine kd_v [(q_o, .inr (7, [x_o_thrown, .ref q_o_buffer, x_o_bufferLength, .int o_textLength, .int o_position, .int o14, .int o15, x_o_errorOffset, x_o_data, .ref q_o_draft, x_o_aside, x_o_history, x_o_undoDepth, x_o_numberStart, x_o_nesting, x_o_seen, .int o_toldPlanes, x_o_stack, x_o_facts])), (q_o_buffer, .inl (cy 0, 800, .inl o_buffer)), (q_o_draft, .inl (cy 0, 2243, .inl o_draft))] (va_runV (As := [.int (-5 : Int32), .int p1]) (rest := []) ⟨hx, hb, hml, hown, hts⟩ (c_X7_report q_o H.size x_o_thrown (.ref q_o_buffer) x_o_bufferLength (.int o_textLength) (.int o_position) x_o_errorOffset x_o_data (.ref q_o_draft) x_o_aside x_o_history x_o_undoDepth x_o_numberStart x_o_nesting x_o_seen (.int o_toldPlanes) x_o_stack x_o_facts o_error o_errorAt (-5 : Int32) p1 _ h16) (cwV 2 hts gX7_readPlane_X7_report rfl rfl rfl kd_X7_report ⟨Nat.le_of_ble_eq_true rfl, Nat.le_of_ble_eq_true rfl⟩) ⟨kP_blind (EN_ok D cy) D _ _ _, va_recv hK hP (ci := 7) (q0 := 0) rfl rfl, kStart (EN_ok D cy) hE hP hD hS hA [0] rfl rfl _⟩ rfl rfl hl.1 rfl (lv_room (Nat.le_of_ble_eq_true rfl)) dX7_readPlane_17 ⟨Nat.zero_le _, Nat.zero_le _⟩) hP hD hS hA [0] [1, 2] rfl rfl rfl 3 rfl (by decide +kernel) (fun H locs hP hD hS => ?_)
      exact J20 o14 o15 H locs ls hP hD hS (lv_sub hl [0] rfl) hF
  exact main s.heap [] ls hP hD hS hl
theorem kd_X7_readHole : yX7_readHole.cls = RX7 ∧ yX7_readHole.cls ≠ "java/lang/invoke/MethodHandle" ∧ yX7_readHole.cls ≠ "java/lang/invoke/VarHandle" ∧ (parseMethodDescriptor yX7_readHole.desc).map (fun d => d.parameters.length) = some 1 := by decide +kernel
set_option maxHeartbeats 4000000 in
set_option maxRecDepth 100000 in
theorem c_X7_readHole {l : Launch} {D : va_G} {cy : Nat → ClassId} (q_o q_o_buffer q_o_draft : Nat) (sz : Nat) (x_o_thrown x_o_bufferLength x_o_errorOffset x_o_data x_o_aside x_o_history x_o_undoDepth x_o_nesting x_o_seen x_o_toldPlanes x_o_stack x_o_facts : Value) (o_textLength : Int32) (o_position : Int32) (o_error : Int32) (o_errorAt : Int32) (o_numberStart : Int32) (o_buffer : Nat → Int32) (o_draft : Nat → Int32) (p1 : Int32) (res : Int32 × Int32 × Int32 × Int32 × (Nat → Int32)) (hF : X7_readHole o_textLength o_position o_error o_errorAt o_numberStart o_buffer o_draft p1 = some res) : Met l yX7_readHole wsX7_readHole ({ frames := 3, cells := 0, slots := 0, locals := 65 } : Room) (kP (EN D cy) D [.ref q_o, .int p1] [(q_o, .inr (7, [x_o_thrown, .ref q_o_buffer, x_o_bufferLength, .int o_textLength, .int o_position, .int o_error, .int o_errorAt, x_o_errorOffset, x_o_data, .ref q_o_draft, x_o_aside, x_o_history, x_o_undoDepth, .int o_numberStart, x_o_nesting, x_o_seen, x_o_toldPlanes, x_o_stack, x_o_facts])), (q_o_buffer, .inl (cy 0, 800, .inl o_buffer)), (q_o_draft, .inl (cy 0, 2243, .inl o_draft))] sz) (kQv D [(q_o, .inr (7, [x_o_thrown, .ref q_o_buffer, x_o_bufferLength, .int o_textLength, .int res.1, .int res.2.1, .int res.2.2.1, x_o_errorOffset, x_o_data, .ref q_o_draft, x_o_aside, x_o_history, x_o_undoDepth, .int res.2.2.2.1, x_o_nesting, x_o_seen, x_o_toldPlanes, x_o_stack, x_o_facts])), (q_o_buffer, .inl (cy 0, 800, .inl o_buffer)), (q_o_draft, .inl (cy 0, 2243, .inl res.2.2.2.2))] (va_A [(q_o, .inr (7, [x_o_thrown, .ref q_o_buffer, x_o_bufferLength, .int o_textLength, .int o_position, .int o_error, .int o_errorAt, x_o_errorOffset, x_o_data, .ref q_o_draft, x_o_aside, x_o_history, x_o_undoDepth, .int o_numberStart, x_o_nesting, x_o_seen, x_o_toldPlanes, x_o_stack, x_o_facts])), (q_o_buffer, .inl (cy 0, 800, .inl o_buffer)), (q_o_draft, .inl (cy 0, 2243, .inl o_draft))] sz)) 0 0 (va_A [(q_o, .inr (7, [x_o_thrown, .ref q_o_buffer, x_o_bufferLength, .int o_textLength, .int o_position, .int o_error, .int o_errorAt, x_o_errorOffset, x_o_data, .ref q_o_draft, x_o_aside, x_o_history, x_o_undoDepth, .int o_numberStart, x_o_nesting, x_o_seen, x_o_toldPlanes, x_o_stack, x_o_facts])), (q_o_buffer, .inl (cy 0, 800, .inl o_buffer)), (q_o_draft, .inl (cy 0, 2243, .inl o_draft))] sz) := by
  refine kMet (y := yX7_readHole) (av := [.ref q_o, .int p1]) (cc := cX7_readHole) (maxL := 4) (ret := none) (own := RX7) (Qc := fun A9 => (kQv D [(q_o, .inr (7, [x_o_thrown, .ref q_o_buffer, x_o_bufferLength, .int o_textLength, .int res.1, .int res.2.1, .int res.2.2.1, x_o_errorOffset, x_o_data, .ref q_o_draft, x_o_aside, x_o_history, x_o_undoDepth, .int res.2.2.2.1, x_o_nesting, x_o_seen, x_o_toldPlanes, x_o_stack, x_o_facts])), (q_o_buffer, .inl (cy 0, 800, .inl o_buffer)), (q_o_draft, .inl (cy 0, 2243, .inl res.2.2.2.2))] A9)) (by decide) rfl rfl (Nat.le_of_ble_eq_true rfl) ?_
  intro p e s m args below meth c A hx hb hr hts hown hml hlocks hname hE hP hD hA hsz ls hl
  have hK := hE.1
  have hl : lv_has ls 4 [(0, .ref q_o), (1, .int p1)] := hl
  have hS : va_S A s.heap s.heap [] := va_S.rf
  have f_f20 := hts (.fieldLink RX7 20 "PeepBoxModel" "draft" "[I") (by decide +kernel)
  have f_inX7 : ∀ w ∈ wsX70, w ∈ wsX7_readHole := by decide +kernel
  obtain ⟨QQ, hQQ⟩ : ∃ Q9, Q9 = MQ below (kQv D [(q_o, .inr (7, [x_o_thrown, .ref q_o_buffer, x_o_bufferLength, .int o_textLength, .int res.1, .int res.2.1, .int res.2.2.1, x_o_errorOffset, x_o_data, .ref q_o_draft, x_o_aside, x_o_history, x_o_undoDepth, .int res.2.2.2.1, x_o_nesting, x_o_seen, x_o_toldPlanes, x_o_stack, x_o_facts])), (q_o_buffer, .inl (cy 0, 800, .inl o_buffer)), (q_o_draft, .inl (cy 0, 2243, .inl res.2.2.2.2))] A) args s 0 0 A := ⟨_, rfl⟩
  rw [← hQQ]
  have J17 : ∀ (o_error : Int32) (o_errorAt : Int32) (H : Heap) (locs : List Loc) (ls : Array Slot), va_P D vwCl [(q_o, .inr (7, [x_o_thrown, .ref q_o_buffer, x_o_bufferLength, .int o_textLength, .int o_position, .int o_error, .int o_errorAt, x_o_errorOffset, x_o_data, .ref q_o_draft, x_o_aside, x_o_history, x_o_undoDepth, .int o_numberStart, x_o_nesting, x_o_seen, x_o_toldPlanes, x_o_stack, x_o_facts])), (q_o_buffer, .inl (cy 0, 800, .inl o_buffer)), (q_o_draft, .inl (cy 0, 2243, .inl o_draft))] H → va_D A [(q_o, .inr (7, [x_o_thrown, .ref q_o_buffer, x_o_bufferLength, .int o_textLength, .int o_position, .int o_error, .int o_errorAt, x_o_errorOffset, x_o_data, .ref q_o_draft, x_o_aside, x_o_history, x_o_undoDepth, .int o_numberStart, x_o_nesting, x_o_seen, x_o_toldPlanes, x_o_stack, x_o_facts])), (q_o_buffer, .inl (cy 0, 800, .inl o_buffer)), (q_o_draft, .inl (cy 0, 2243, .inl o_draft))] → va_S A s.heap H locs → lv_has ls 4 [(0, .ref q_o)] → X7_readHole_J17 o_textLength o_position o_numberStart o_buffer o_draft p1 o_error o_errorAt = some res → W p l e ({ frames := 3, cells := 0, slots := 0, locals := 65 } : Room) s m args below meth c H locs 0 0 QQ (F0 m 17 ls []) := by
    intro o_error o_errorAt H locs ls hP hD hS hl hF
    unfold X7_readHole_J17 at hF
    refine lv_aload_n hx hb dX7_readHole_17 rfl (lv_at hl 0 rfl) ?_
    refine lv_iconst (v := 0) hx hb dX7_readHole_18 (by decide) ?_
    refine lv_aload_n hx hb dX7_readHole_19 rfl (lv_at hl 0 rfl) ?_
    refine va_get (D := D) (ci := 7) (v := .ref q_o_draft) (C := RX7) (T := TX7) (N := 19) hx hb hts f_inX7 hown hK hP 0 rfl rfl 9 (by decide) f_f20 (fun _ h9 => h9) rfl dX7_readHole_20 ?_
    refine lv_iconst (v := 0) hx hb dX7_readHole_23 (by decide) ?_
    obtain ⟨h1, hF⟩ := ld_o hF
    refine va_iald hx hb hK hP 2 0 rfl rfl h1 dX7_readHole_24 ?_
    refine lv_topi (fun v2 ev2 => ?_)
    have hF := hF v2 ev2
    refine lv_iconst (v := 1) hx hb dX7_readHole_25 (by decide) ?_
    refine lv_isub hx hb dX7_readHole_26 ?_
    obtain ⟨r3, o4, o5, o6, o7, h8, hF⟩ := bn5_o hF
    refine kd_i [(q_o, .inr (7, [x_o_thrown, .ref q_o_buffer, x_o_bufferLength, .int o_textLength, .int o4, .int o5, .int o6, x_o_errorOffset, x_o_data, .ref q_o_draft, x_o_aside, x_o_history, x_o_undoDepth, .int o7, x_o_nesting, x_o_seen, x_o_toldPlanes, x_o_stack, x_o_facts])), (q_o_buffer, .inl (cy 0, 800, .inl o_buffer)), (q_o_draft, .inl (cy 0, 2243, .inl o_draft))] (va_runV (As := [.int (0 : Int32), .int (v2 - (1 : Int32))]) (rest := []) ⟨hx, hb, hml, hown, hts⟩ (c_X7_number q_o q_o_buffer H.size x_o_thrown x_o_bufferLength x_o_errorOffset x_o_data (.ref q_o_draft) x_o_aside x_o_history x_o_undoDepth x_o_nesting x_o_seen x_o_toldPlanes x_o_stack x_o_facts o_textLength o_position o_error o_errorAt o_numberStart o_buffer (0 : Int32) (v2 - (1 : Int32)) _ h8) (cwV 2 hts gX7_readHole_X7_number rfl rfl rfl kd_X7_number ⟨Nat.le_of_ble_eq_true rfl, Nat.le_of_ble_eq_true rfl⟩) ⟨kP_blind (EN_ok D cy) D _ _ _, va_recv hK hP (ci := 7) (q0 := 0) rfl rfl, kStart (EN_ok D cy) hE hP hD hS hA [0, 1] rfl rfl _⟩ rfl rfl hl.1 rfl (lv_room (Nat.le_of_ble_eq_true rfl)) dX7_readHole_27 ⟨Nat.zero_le _, Nat.zero_le _⟩) hP hD hS hA [0, 1] [2] rfl rfl rfl 3 rfl (by decide +kernel) (fun H locs hP hD hS => ?_)
    refine lv_istore_n (lv' := [(2, .int r3), (0, .ref q_o)]) hx hb dX7_readHole_30 rfl hl (by decide) rfl (fun ls hl => ?_)
    refine lv_aload_n hx hb dX7_readHole_31 rfl (lv_at hl 1 rfl) ?_
    refine lv_iconst (v := 0) hx hb dX7_readHole_32 (by decide) ?_
    refine lv_aload_n hx hb dX7_readHole_33 rfl (lv_at hl 1 rfl) ?_
    refine va_get (D := D) (ci := 7) (v := .ref q_o_draft) (C := RX7) (T := TX7) (N := 19) hx hb hts f_inX7 hown hK hP 0 rfl rfl 9 (by decide) f_f20 (fun _ h9 => h9) rfl dX7_readHole_34 ?_
    refine lv_iconst (v := 1) hx hb dX7_readHole_37 (by decide) ?_
    obtain ⟨h9, hF⟩ := ld_o hF
    refine va_iald hx hb hK hP 2 0 rfl rfl h9 dX7_readHole_38 ?_
    refine lv_topi (fun v10 ev10 => ?_)
    have hF := hF v10 ev10
    refine lv_iconst (v := 1) hx hb dX7_readHole_39 (by decide) ?_
    refine lv_isub hx hb dX7_readHole_40 ?_
    obtain ⟨r11, o12, o13, o14, o15, h16, hF⟩ := bn5_o hF
    refine kd_i [(q_o, .inr (7, [x_o_thrown, .ref q_o_buffer, x_o_bufferLength, .int o_textLength, .int o12, .int o13, .int o14, x_o_errorOffset, x_o_data, .ref q_o_draft, x_o_aside, x_o_history, x_o_undoDepth, .int o15, x_o_nesting, x_o_seen, x_o_toldPlanes, x_o_stack, x_o_facts])), (q_o_buffer, .inl (cy 0, 800, .inl o_buffer)), (q_o_draft, .inl (cy 0, 2243, .inl o_draft))] (va_runV (As := [.int (0 : Int32), .int (v10 - (1 : Int32))]) (rest := []) ⟨hx, hb, hml, hown, hts⟩ (c_X7_number q_o q_o_buffer H.size x_o_thrown x_o_bufferLength x_o_errorOffset x_o_data (.ref q_o_draft) x_o_aside x_o_history x_o_undoDepth x_o_nesting x_o_seen x_o_toldPlanes x_o_stack x_o_facts o_textLength o4 o5 o6 o7 o_buffer (0 : Int32) (v10 - (1 : Int32)) _ h16) (cwV 2 hts gX7_readHole_X7_number rfl rfl rfl kd_X7_number ⟨Nat.le_of_ble_eq_true rfl, Nat.le_of_ble_eq_true rfl⟩) ⟨kP_blind (EN_ok D cy) D _ _ _, va_recv hK hP (ci := 7) (q0 := 0) rfl rfl, kStart (EN_ok D cy) hE hP hD hS hA [0, 1] rfl rfl _⟩ rfl rfl hl.1 rfl (lv_room (Nat.le_of_ble_eq_true rfl)) dX7_readHole_41 ⟨Nat.zero_le _, Nat.zero_le _⟩) hP hD hS hA [0, 1] [2] rfl rfl rfl 3 rfl (by decide +kernel) (fun H locs hP hD hS => ?_)
    refine lv_istore_n (lv' := [(3, .int r11), (2, .int r3), (0, .ref q_o)]) hx hb dX7_readHole_44 rfl hl (by decide) rfl (fun ls hl => ?_)
    refine lv_aload_n hx hb dX7_readHole_45 rfl (lv_at hl 2 rfl) ?_
    obtain ⟨r17, h18, hF⟩ := bn1_o hF
    refine kd_i [(q_o, .inr (7, [x_o_thrown, .ref q_o_buffer, x_o_bufferLength, .int o_textLength, .int o12, .int o13, .int o14, x_o_errorOffset, x_o_data, .ref q_o_draft, x_o_aside, x_o_history, x_o_undoDepth, .int o15, x_o_nesting, x_o_seen, x_o_toldPlanes, x_o_stack, x_o_facts])), (q_o_buffer, .inl (cy 0, 800, .inl o_buffer)), (q_o_draft, .inl (cy 0, 2243, .inl o_draft))] (va_runV (As := []) (rest := []) ⟨hx, hb, hml, hown, hts⟩ (c_X7_isGood q_o H.size x_o_thrown (.ref q_o_buffer) x_o_bufferLength (.int o_textLength) (.int o12) (.int o14) x_o_errorOffset x_o_data (.ref q_o_draft) x_o_aside x_o_history x_o_undoDepth (.int o15) x_o_nesting x_o_seen x_o_toldPlanes x_o_stack x_o_facts o13 _ h18) (cwV 0 hts gX7_readHole_X7_isGood rfl rfl rfl kd_X7_isGood ⟨Nat.le_of_ble_eq_true rfl, Nat.le_of_ble_eq_true rfl⟩) ⟨kP_blind (EN_ok D cy) D _ _ _, va_recv hK hP (ci := 7) (q0 := 0) rfl rfl, kStart (EN_ok D cy) hE hP hD hS hA [0] rfl rfl _⟩ rfl rfl hl.1 rfl (lv_room (Nat.le_of_ble_eq_true rfl)) dX7_readHole_46 ⟨Nat.zero_le _, Nat.zero_le _⟩) hP hD hS hA [0] [1, 2] rfl rfl rfl 3 rfl (by decide +kernel) (fun H locs hP hD hS => ?_)
    refine lv_if_ne (tgt := 53) hx hb dX7_readHole_49 (by decide) (fun c19 => ?_) (fun c19 => ?_)
    · have hF := if_n hF c19
      refine lv_aload_n hx hb dX7_readHole_53 rfl (lv_at hl 2 rfl) ?_
      refine va_get (D := D) (ci := 7) (v := .ref q_o_draft) (C := RX7) (T := TX7) (N := 19) hx hb hts f_inX7 hown hK hP 0 rfl rfl 9 (by decide) f_f20 (fun _ h9 => h9) rfl dX7_readHole_54 ?_
      refine lv_sipush (v := 495) hx hb dX7_readHole_57 (by decide) ?_
      refine lv_iconst (v := 2) hx hb dX7_readHole_60 (by decide) ?_
      refine lv_aload_n hx hb dX7_readHole_61 rfl (lv_at hl 2 rfl) ?_
      refine va_get (D := D) (ci := 7) (v := .ref q_o_draft) (C := RX7) (T := TX7) (N := 19) hx hb hts f_inX7 hown hK hP 0 rfl rfl 9 (by decide) f_f20 (fun _ h9 => h9) rfl dX7_readHole_62 ?_
      refine lv_iconst (v := 3) hx hb dX7_readHole_65 (by decide) ?_
      obtain ⟨h20, hF⟩ := ld_o hF
      refine va_iald hx hb hK hP 2 0 rfl rfl h20 dX7_readHole_66 ?_
      refine lv_topi (fun v21 ev21 => ?_)
      have hF := hF v21 ev21
      refine lv_imul hx hb dX7_readHole_67 ?_
      refine lv_iadd hx hb dX7_readHole_68 ?_
      refine lv_iload_n hx hb dX7_readHole_69 rfl (lv_at hl 1 rfl) ?_
      obtain ⟨h22, hF⟩ := st_o hF
      refine va_iast hx hb hK hP hD hS 2 0 rfl rfl h22 dX7_readHole_70 (fun H locs hP hD hS => ?_)
      obtain ⟨b23, eb23⟩ : ∃ y : Nat → Int32, y = (upd o_draft ((495 : Int32) + ((2 : Int32) * v21)).toNatClampNeg r3) := ⟨_, rfl⟩
      have hF := hF b23 eb23
      have hP : va_P D vwCl [(q_o, .inr (7, [x_o_thrown, .ref q_o_buffer, x_o_bufferLength, .int o_textLength, .int o12, .int o13, .int o14, x_o_errorOffset, x_o_data, .ref q_o_draft, x_o_aside, x_o_history, x_o_undoDepth, .int o15, x_o_nesting, x_o_seen, x_o_toldPlanes, x_o_stack, x_o_facts])), (q_o_buffer, .inl (cy 0, 800, .inl o_buffer)), (q_o_draft, .inl (cy 0, 2243, .inl b23))] H := by rw [eb23]; exact hP
      have hD : va_D A [(q_o, .inr (7, [x_o_thrown, .ref q_o_buffer, x_o_bufferLength, .int o_textLength, .int o12, .int o13, .int o14, x_o_errorOffset, x_o_data, .ref q_o_draft, x_o_aside, x_o_history, x_o_undoDepth, .int o15, x_o_nesting, x_o_seen, x_o_toldPlanes, x_o_stack, x_o_facts])), (q_o_buffer, .inl (cy 0, 800, .inl o_buffer)), (q_o_draft, .inl (cy 0, 2243, .inl b23))] := by rw [eb23]; exact hD
      refine lv_aload_n hx hb dX7_readHole_71 rfl (lv_at hl 2 rfl) ?_
      refine va_get (D := D) (ci := 7) (v := .ref q_o_draft) (C := RX7) (T := TX7) (N := 19) hx hb hts f_inX7 hown hK hP 0 rfl rfl 9 (by decide) f_f20 (fun _ h9 => h9) rfl dX7_readHole_72 ?_
      refine lv_sipush (v := 495) hx hb dX7_readHole_75 (by decide) ?_
      refine lv_iconst (v := 2) hx hb dX7_readHole_78 (by decide) ?_
      refine lv_aload_n hx hb dX7_readHole_79 rfl (lv_at hl 2 rfl) ?_
      refine va_get (D := D) (ci := 7) (v := .ref q_o_draft) (C := RX7) (T := TX7) (N := 19) hx hb hts f_inX7 hown hK hP 0 rfl rfl 9 (by decide) f_f20 (fun _ h9 => h9) rfl dX7_readHole_80 ?_
      refine lv_iconst (v := 3) hx hb dX7_readHole_83 (by decide) ?_
      obtain ⟨h24, hF⟩ := ld_o hF
      refine va_iald hx hb hK hP 2 0 rfl rfl h24 dX7_readHole_84 ?_
      refine lv_topi (fun v25 ev25 => ?_)
      have hF := hF v25 ev25
      refine lv_imul hx hb dX7_readHole_85 ?_
      refine lv_iadd hx hb dX7_readHole_86 ?_
      refine lv_iconst (v := 1) hx hb dX7_readHole_87 (by decide) ?_
      refine lv_iadd hx hb dX7_readHole_88 ?_
      refine lv_iload_n hx hb dX7_readHole_89 rfl (lv_at hl 0 rfl) ?_
      obtain ⟨h26, hF⟩ := st_o hF
      refine va_iast hx hb hK hP hD hS 2 0 rfl rfl h26 dX7_readHole_90 (fun H locs hP hD hS => ?_)
      obtain ⟨b27, eb27⟩ : ∃ y : Nat → Int32, y = (upd b23 (((495 : Int32) + ((2 : Int32) * v25)) + (1 : Int32)).toNatClampNeg r11) := ⟨_, rfl⟩
      have hF := hF b27 eb27
      have hP : va_P D vwCl [(q_o, .inr (7, [x_o_thrown, .ref q_o_buffer, x_o_bufferLength, .int o_textLength, .int o12, .int o13, .int o14, x_o_errorOffset, x_o_data, .ref q_o_draft, x_o_aside, x_o_history, x_o_undoDepth, .int o15, x_o_nesting, x_o_seen, x_o_toldPlanes, x_o_stack, x_o_facts])), (q_o_buffer, .inl (cy 0, 800, .inl o_buffer)), (q_o_draft, .inl (cy 0, 2243, .inl b27))] H := by rw [eb27]; exact hP
      have hD : va_D A [(q_o, .inr (7, [x_o_thrown, .ref q_o_buffer, x_o_bufferLength, .int o_textLength, .int o12, .int o13, .int o14, x_o_errorOffset, x_o_data, .ref q_o_draft, x_o_aside, x_o_history, x_o_undoDepth, .int o15, x_o_nesting, x_o_seen, x_o_toldPlanes, x_o_stack, x_o_facts])), (q_o_buffer, .inl (cy 0, 800, .inl o_buffer)), (q_o_draft, .inl (cy 0, 2243, .inl b27))] := by rw [eb27]; exact hD
      refine lv_aload_n hx hb dX7_readHole_91 rfl (lv_at hl 2 rfl) ?_
      refine va_get (D := D) (ci := 7) (v := .ref q_o_draft) (C := RX7) (T := TX7) (N := 19) hx hb hts f_inX7 hown hK hP 0 rfl rfl 9 (by decide) f_f20 (fun _ h9 => h9) rfl dX7_readHole_92 ?_
      refine lv_iconst (v := 3) hx hb dX7_readHole_95 (by decide) ?_
      refine lv_dup2_11 hx hb dX7_readHole_96 rfl rfl ?_
      obtain ⟨h28, hF⟩ := ld_o hF
      refine va_iald hx hb hK hP 2 0 rfl rfl h28 dX7_readHole_97 ?_
      refine lv_topi (fun v29 ev29 => ?_)
      have hF := hF v29 ev29
      refine lv_iconst (v := 1) hx hb dX7_readHole_98 (by decide) ?_
      refine lv_iadd hx hb dX7_readHole_99 ?_
      obtain ⟨h30, hF⟩ := st_o hF
      refine va_iast hx hb hK hP hD hS 2 0 rfl rfl h30 dX7_readHole_100 (fun H locs hP hD hS => ?_)
      obtain ⟨b31, eb31⟩ : ∃ y : Nat → Int32, y = (upd b27 (3 : Int32).toNatClampNeg (v29 + (1 : Int32))) := ⟨_, rfl⟩
      have hF := hF b31 eb31
      have hP : va_P D vwCl [(q_o, .inr (7, [x_o_thrown, .ref q_o_buffer, x_o_bufferLength, .int o_textLength, .int o12, .int o13, .int o14, x_o_errorOffset, x_o_data, .ref q_o_draft, x_o_aside, x_o_history, x_o_undoDepth, .int o15, x_o_nesting, x_o_seen, x_o_toldPlanes, x_o_stack, x_o_facts])), (q_o_buffer, .inl (cy 0, 800, .inl o_buffer)), (q_o_draft, .inl (cy 0, 2243, .inl b31))] H := by rw [eb31]; exact hP
      have hD : va_D A [(q_o, .inr (7, [x_o_thrown, .ref q_o_buffer, x_o_bufferLength, .int o_textLength, .int o12, .int o13, .int o14, x_o_errorOffset, x_o_data, .ref q_o_draft, x_o_aside, x_o_history, x_o_undoDepth, .int o15, x_o_nesting, x_o_seen, x_o_toldPlanes, x_o_stack, x_o_facts])), (q_o_buffer, .inl (cy 0, 800, .inl o_buffer)), (q_o_draft, .inl (cy 0, 2243, .inl b31))] := by rw [eb31]; exact hD
      obtain rfl := so_o hF
      rw [hQQ]
      exact kr_v hx hb hr hlocks hP hD hS dX7_readHole_101
    · have hF := if_p hF c19
      obtain rfl := so_o hF
      rw [hQQ]
      exact kr_v hx hb hr hlocks hP hD hS dX7_readHole_52
  have main : ∀ (H : Heap) (locs : List Loc) (ls : Array Slot), va_P D vwCl [(q_o, .inr (7, [x_o_thrown, .ref q_o_buffer, x_o_bufferLength, .int o_textLength, .int o_position, .int o_error, .int o_errorAt, x_o_errorOffset, x_o_data, .ref q_o_draft, x_o_aside, x_o_history, x_o_undoDepth, .int o_numberStart, x_o_nesting, x_o_seen, x_o_toldPlanes, x_o_stack, x_o_facts])), (q_o_buffer, .inl (cy 0, 800, .inl o_buffer)), (q_o_draft, .inl (cy 0, 2243, .inl o_draft))] H → va_D A [(q_o, .inr (7, [x_o_thrown, .ref q_o_buffer, x_o_bufferLength, .int o_textLength, .int o_position, .int o_error, .int o_errorAt, x_o_errorOffset, x_o_data, .ref q_o_draft, x_o_aside, x_o_history, x_o_undoDepth, .int o_numberStart, x_o_nesting, x_o_seen, x_o_toldPlanes, x_o_stack, x_o_facts])), (q_o_buffer, .inl (cy 0, 800, .inl o_buffer)), (q_o_draft, .inl (cy 0, 2243, .inl o_draft))] → va_S A s.heap H locs → lv_has ls 4 [(0, .ref q_o), (1, .int p1)] → W p l e ({ frames := 3, cells := 0, slots := 0, locals := 65 } : Room) s m args below meth c H locs 0 0 QQ (F0 m 0 ls []) := by
    intro H locs ls hP hD hS hl
    unfold X7_readHole at hF
    refine lv_aload_n hx hb dX7_readHole_0 rfl (lv_at hl 0 rfl) ?_
    refine va_get (D := D) (ci := 7) (v := .ref q_o_draft) (C := RX7) (T := TX7) (N := 19) hx hb hts f_inX7 hown hK hP 0 rfl rfl 9 (by decide) f_f20 (fun _ h9 => h9) rfl dX7_readHole_1 ?_
    refine lv_iconst (v := 3) hx hb dX7_readHole_4 (by decide) ?_
    obtain ⟨h32, hF⟩ := ld_o hF
    refine va_iald hx hb hK hP 2 0 rfl rfl h32 dX7_readHole_5 ?_
    refine lv_topi (fun v33 ev33 => ?_)
    have hF := hF v33 ev33
    refine lv_iconst (v := 4) hx hb dX7_readHole_6 (by decide) ?_
    refine lv_icmp_ne (tgt := 17) hx hb dX7_readHole_7 (by decide) (fun c34 => ?_) (fun c34 => ?_)
    · have hF := if_n hF c34
      exact J17 o_error o_errorAt H locs ls hP hD hS (lv_sub hl [0] rfl) hF
    · have hF := if_p hF c34
      refine lv_aload_n hx hb dX7_readHole_10 rfl (lv_at hl 0 rfl) ?_
      refine lv_bipush (v := -5) hx hb dX7_readHole_11 (by decide) ?_
      refine lv_iload_n hx hb dX7_readHole_13 rfl (lv_at hl 1 rfl) ?_
      obtain ⟨o35, o36, h37, hF⟩ := bn2_o hF
      refine kd_v [(q_o, .inr (7, [x_o_thrown, .ref q_o_buffer, x_o_bufferLength, .int o_textLength, .int o_position, .int o35, .int o36, x_o_errorOffset, x_o_data, .ref q_o_draft, x_o_aside, x_o_history, x_o_undoDepth, .int o_numberStart, x_o_nesting, x_o_seen, x_o_toldPlanes, x_o_stack, x_o_facts])), (q_o_buffer, .inl (cy 0, 800, .inl o_buffer)), (q_o_draft, .inl (cy 0, 2243, .inl o_draft))] (va_runV (As := [.int (-5 : Int32), .int p1]) (rest := []) ⟨hx, hb, hml, hown, hts⟩ (c_X7_report q_o H.size x_o_thrown (.ref q_o_buffer) x_o_bufferLength (.int o_textLength) (.int o_position) x_o_errorOffset x_o_data (.ref q_o_draft) x_o_aside x_o_history x_o_undoDepth (.int o_numberStart) x_o_nesting x_o_seen x_o_toldPlanes x_o_stack x_o_facts o_error o_errorAt (-5 : Int32) p1 _ h37) (cwV 2 hts gX7_readHole_X7_report rfl rfl rfl kd_X7_report ⟨Nat.le_of_ble_eq_true rfl, Nat.le_of_ble_eq_true rfl⟩) ⟨kP_blind (EN_ok D cy) D _ _ _, va_recv hK hP (ci := 7) (q0 := 0) rfl rfl, kStart (EN_ok D cy) hE hP hD hS hA [0] rfl rfl _⟩ rfl rfl hl.1 rfl (lv_room (Nat.le_of_ble_eq_true rfl)) dX7_readHole_14 ⟨Nat.zero_le _, Nat.zero_le _⟩) hP hD hS hA [0] [1, 2] rfl rfl rfl 3 rfl (by decide +kernel) (fun H locs hP hD hS => ?_)
      exact J17 o35 o36 H locs ls hP hD hS (lv_sub hl [0] rfl) hF
  exact main s.heap [] ls hP hD hS hl
theorem kd_X7_kind : yX7_kind.cls = RX7 ∧ yX7_kind.cls ≠ "java/lang/invoke/MethodHandle" ∧ yX7_kind.cls ≠ "java/lang/invoke/VarHandle" ∧ (parseMethodDescriptor yX7_kind.desc).map (fun d => d.parameters.length) = some 0 := by decide +kernel
set_option maxHeartbeats 4000000 in
set_option maxRecDepth 100000 in
theorem c_X7_kind {l : Launch} {D : va_G} {cy : Nat → ClassId} (q_o q_o_buffer : Nat) (sz : Nat) (x_o_thrown x_o_bufferLength x_o_errorOffset x_o_data x_o_draft x_o_aside x_o_history x_o_undoDepth x_o_numberStart x_o_nesting x_o_seen x_o_toldPlanes x_o_stack x_o_facts : Value) (o_textLength : Int32) (o_position : Int32) (o_error : Int32) (o_errorAt : Int32) (o_buffer : Nat → Int32) (res : Int32 × Int32 × Int32 × Int32) (hF : X7_kind o_textLength o_position o_error o_errorAt o_buffer = some res) : Met l yX7_kind wsX7_kind ({ frames := 2, cells := 0, slots := 0, locals := 41 } : Room) (kP (EN D cy) D [.ref q_o] [(q_o, .inr (7, [x_o_thrown, .ref q_o_buffer, x_o_bufferLength, .int o_textLength, .int o_position, .int o_error, .int o_errorAt, x_o_errorOffset, x_o_data, x_o_draft, x_o_aside, x_o_history, x_o_undoDepth, x_o_numberStart, x_o_nesting, x_o_seen, x_o_toldPlanes, x_o_stack, x_o_facts])), (q_o_buffer, .inl (cy 0, 800, .inl o_buffer))] sz) (kQi D res.1 [(q_o, .inr (7, [x_o_thrown, .ref q_o_buffer, x_o_bufferLength, .int o_textLength, .int res.2.1, .int res.2.2.1, .int res.2.2.2, x_o_errorOffset, x_o_data, x_o_draft, x_o_aside, x_o_history, x_o_undoDepth, x_o_numberStart, x_o_nesting, x_o_seen, x_o_toldPlanes, x_o_stack, x_o_facts])), (q_o_buffer, .inl (cy 0, 800, .inl o_buffer))] (va_A [(q_o, .inr (7, [x_o_thrown, .ref q_o_buffer, x_o_bufferLength, .int o_textLength, .int o_position, .int o_error, .int o_errorAt, x_o_errorOffset, x_o_data, x_o_draft, x_o_aside, x_o_history, x_o_undoDepth, x_o_numberStart, x_o_nesting, x_o_seen, x_o_toldPlanes, x_o_stack, x_o_facts])), (q_o_buffer, .inl (cy 0, 800, .inl o_buffer))] sz)) 0 0 (va_A [(q_o, .inr (7, [x_o_thrown, .ref q_o_buffer, x_o_bufferLength, .int o_textLength, .int o_position, .int o_error, .int o_errorAt, x_o_errorOffset, x_o_data, x_o_draft, x_o_aside, x_o_history, x_o_undoDepth, x_o_numberStart, x_o_nesting, x_o_seen, x_o_toldPlanes, x_o_stack, x_o_facts])), (q_o_buffer, .inl (cy 0, 800, .inl o_buffer))] sz) := by
  refine kMet (y := yX7_kind) (av := [.ref q_o]) (cc := cX7_kind) (maxL := 4) (ret := some .int) (own := RX7) (Qc := fun A9 => (kQi D res.1 [(q_o, .inr (7, [x_o_thrown, .ref q_o_buffer, x_o_bufferLength, .int o_textLength, .int res.2.1, .int res.2.2.1, .int res.2.2.2, x_o_errorOffset, x_o_data, x_o_draft, x_o_aside, x_o_history, x_o_undoDepth, x_o_numberStart, x_o_nesting, x_o_seen, x_o_toldPlanes, x_o_stack, x_o_facts])), (q_o_buffer, .inl (cy 0, 800, .inl o_buffer))] A9)) (by decide) rfl rfl (Nat.le_of_ble_eq_true rfl) ?_
  intro p e s m args below meth c A hx hb hr hts hown hml hlocks hname hE hP hD hA hsz ls hl
  have hK := hE.1
  have hl : lv_has ls 4 [(0, .ref q_o)] := hl
  have hS : va_S A s.heap s.heap [] := va_S.rf
  have f_f51 := hts (.fieldLink RX7 51 "PeepBoxModel" "position" "I") (by decide +kernel)
  have f_inX7 : ∀ w ∈ wsX70, w ∈ wsX7_kind := by decide +kernel
  obtain ⟨QQ, hQQ⟩ : ∃ Q9, Q9 = MQ below (kQi D res.1 [(q_o, .inr (7, [x_o_thrown, .ref q_o_buffer, x_o_bufferLength, .int o_textLength, .int res.2.1, .int res.2.2.1, .int res.2.2.2, x_o_errorOffset, x_o_data, x_o_draft, x_o_aside, x_o_history, x_o_undoDepth, x_o_numberStart, x_o_nesting, x_o_seen, x_o_toldPlanes, x_o_stack, x_o_facts])), (q_o_buffer, .inl (cy 0, 800, .inl o_buffer))] A) args s 0 0 A := ⟨_, rfl⟩
  rw [← hQQ]
  have J67 : ∀ (l1 : Int32) (l2 : Int32) (o_position : Int32) (o_error : Int32) (o_errorAt : Int32) (H : Heap) (locs : List Loc) (ls : Array Slot), va_P D vwCl [(q_o, .inr (7, [x_o_thrown, .ref q_o_buffer, x_o_bufferLength, .int o_textLength, .int o_position, .int o_error, .int o_errorAt, x_o_errorOffset, x_o_data, x_o_draft, x_o_aside, x_o_history, x_o_undoDepth, x_o_numberStart, x_o_nesting, x_o_seen, x_o_toldPlanes, x_o_stack, x_o_facts])), (q_o_buffer, .inl (cy 0, 800, .inl o_buffer))] H → va_D A [(q_o, .inr (7, [x_o_thrown, .ref q_o_buffer, x_o_bufferLength, .int o_textLength, .int o_position, .int o_error, .int o_errorAt, x_o_errorOffset, x_o_data, x_o_draft, x_o_aside, x_o_history, x_o_undoDepth, x_o_numberStart, x_o_nesting, x_o_seen, x_o_toldPlanes, x_o_stack, x_o_facts])), (q_o_buffer, .inl (cy 0, 800, .inl o_buffer))] → va_S A s.heap H locs → lv_has ls 4 [(0, .ref q_o), (1, .int l1), (2, .int l2)] → X7_kind_J67 o_textLength o_buffer l1 l2 o_position o_error o_errorAt = some res → W p l e ({ frames := 2, cells := 0, slots := 0, locals := 41 } : Room) s m args below meth c H locs 0 0 QQ (F0 m 67 ls []) := by
    intro l1 l2 o_position o_error o_errorAt H locs ls hP hD hS hl hF
    unfold X7_kind_J67 at hF
    refine lv_aload_n hx hb dX7_kind_67 rfl (lv_at hl 0 rfl) ?_
    refine lv_dup hx hb dX7_kind_68 rfl ?_
    refine va_get (D := D) (ci := 7) (v := .int o_position) (C := RX7) (T := TX7) (N := 19) hx hb hts f_inX7 hown hK hP 0 rfl rfl 4 (by decide) f_f51 (fun _ h9 => h9) rfl dX7_kind_69 ?_
    refine lv_iload_n hx hb dX7_kind_72 rfl (lv_at hl 2 rfl) ?_
    refine lv_iadd hx hb dX7_kind_73 ?_
    refine lv_topi (fun v1 ev1 => ?_)
    have hF := nm_o hF v1 ev1
    refine va_put (D := D) (ci := 7) (v := .int v1) (ty := .int) (C := RX7) (T := TX7) (N := 19) hx hb hts f_inX7 tyX7 tyX7_ok nmX7 hown hK hP hD hS 0 rfl rfl 4 (by decide) f_f51 (fun _ h9 => h9) rfl (by decide +kernel) rfl rfl (Nat.le_of_ble_eq_true rfl) dX7_kind_74 (fun H locs hP hD hS => ?_)
    have hP : va_P D vwCl [(q_o, .inr (7, [x_o_thrown, .ref q_o_buffer, x_o_bufferLength, .int o_textLength, .int v1, .int o_error, .int o_errorAt, x_o_errorOffset, x_o_data, x_o_draft, x_o_aside, x_o_history, x_o_undoDepth, x_o_numberStart, x_o_nesting, x_o_seen, x_o_toldPlanes, x_o_stack, x_o_facts])), (q_o_buffer, .inl (cy 0, 800, .inl o_buffer))] H := hP
    have hD : va_D A [(q_o, .inr (7, [x_o_thrown, .ref q_o_buffer, x_o_bufferLength, .int o_textLength, .int v1, .int o_error, .int o_errorAt, x_o_errorOffset, x_o_data, x_o_draft, x_o_aside, x_o_history, x_o_undoDepth, x_o_numberStart, x_o_nesting, x_o_seen, x_o_toldPlanes, x_o_stack, x_o_facts])), (q_o_buffer, .inl (cy 0, 800, .inl o_buffer))] := hD
    refine lv_aload_n hx hb dX7_kind_77 rfl (lv_at hl 0 rfl) ?_
    obtain ⟨r2, h3, hF⟩ := bn1_o hF
    refine kd_i [(q_o, .inr (7, [x_o_thrown, .ref q_o_buffer, x_o_bufferLength, .int o_textLength, .int v1, .int o_error, .int o_errorAt, x_o_errorOffset, x_o_data, x_o_draft, x_o_aside, x_o_history, x_o_undoDepth, x_o_numberStart, x_o_nesting, x_o_seen, x_o_toldPlanes, x_o_stack, x_o_facts])), (q_o_buffer, .inl (cy 0, 800, .inl o_buffer))] (va_runV (As := []) (rest := []) ⟨hx, hb, hml, hown, hts⟩ (c_X7_isGood q_o H.size x_o_thrown (.ref q_o_buffer) x_o_bufferLength (.int o_textLength) (.int v1) (.int o_errorAt) x_o_errorOffset x_o_data x_o_draft x_o_aside x_o_history x_o_undoDepth x_o_numberStart x_o_nesting x_o_seen x_o_toldPlanes x_o_stack x_o_facts o_error _ h3) (cwV 0 hts gX7_kind_X7_isGood rfl rfl rfl kd_X7_isGood ⟨Nat.le_of_ble_eq_true rfl, Nat.le_of_ble_eq_true rfl⟩) ⟨kP_blind (EN_ok D cy) D _ _ _, va_recv hK hP (ci := 7) (q0 := 0) rfl rfl, kStart (EN_ok D cy) hE hP hD hS hA [0] rfl rfl _⟩ rfl rfl hl.1 rfl (lv_room (Nat.le_of_ble_eq_true rfl)) dX7_kind_78 ⟨Nat.zero_le _, Nat.zero_le _⟩) hP hD hS hA [0] [1] rfl rfl rfl 2 rfl (by decide +kernel) (fun H locs hP hD hS => ?_)
    refine lv_if_eq (tgt := 91) hx hb dX7_kind_81 (by decide) (fun c4 => ?_) (fun c4 => ?_)
    · have hF := if_p hF c4
      refine lv_iconst (v := 0) hx hb dX7_kind_91 (by decide) ?_
      obtain rfl := so_o hF
      rw [hQQ]
      exact kr_i hx hb hr hlocks hP hD hS dX7_kind_92
    · have hF := if_n hF c4
      refine lv_iload_n hx hb dX7_kind_84 rfl (lv_at hl 1 rfl) ?_
      refine lv_bipush (v := 97) hx hb dX7_kind_85 (by decide) ?_
      refine lv_isub hx hb dX7_kind_87 ?_
      refine lv_goto (tgt := 92) hx hb dX7_kind_88 (by decide) ?_
      obtain rfl := so_o hF
      rw [hQQ]
      exact kr_i hx hb hr hlocks hP hD hS dX7_kind_92
  have J55 : ∀ (l1 : Int32) (l2 : Int32) (l3 : Int32) (o_position : Int32) (o_error : Int32) (o_errorAt : Int32) (H : Heap) (locs : List Loc) (ls : Array Slot), va_P D vwCl [(q_o, .inr (7, [x_o_thrown, .ref q_o_buffer, x_o_bufferLength, .int o_textLength, .int o_position, .int o_error, .int o_errorAt, x_o_errorOffset, x_o_data, x_o_draft, x_o_aside, x_o_history, x_o_undoDepth, x_o_numberStart, x_o_nesting, x_o_seen, x_o_toldPlanes, x_o_stack, x_o_facts])), (q_o_buffer, .inl (cy 0, 800, .inl o_buffer))] H → va_D A [(q_o, .inr (7, [x_o_thrown, .ref q_o_buffer, x_o_bufferLength, .int o_textLength, .int o_position, .int o_error, .int o_errorAt, x_o_errorOffset, x_o_data, x_o_draft, x_o_aside, x_o_history, x_o_undoDepth, x_o_numberStart, x_o_nesting, x_o_seen, x_o_toldPlanes, x_o_stack, x_o_facts])), (q_o_buffer, .inl (cy 0, 800, .inl o_buffer))] → va_S A s.heap H locs → lv_has ls 4 [(0, .ref q_o), (1, .int l1), (2, .int l2), (3, .int l3)] → X7_kind_J55 o_textLength o_buffer l1 l2 l3 o_position o_error o_errorAt = some res → W p l e ({ frames := 2, cells := 0, slots := 0, locals := 41 } : Room) s m args below meth c H locs 0 0 QQ (F0 m 55 ls []) := by
    intro l1 l2 l3 o_position o_error o_errorAt H locs ls hP hD hS hl hF
    unfold X7_kind_J55 at hF
    refine lv_iload_n hx hb dX7_kind_55 rfl (lv_at hl 2 rfl) ?_
    refine lv_iconst (v := 1) hx hb dX7_kind_56 (by decide) ?_
    refine lv_icmp_le (tgt := 67) hx hb dX7_kind_57 (by decide) (fun c5 => ?_) (fun c5 => ?_)
    · have hF := if_p hF c5
      exact J67 l1 l2 o_position o_error o_errorAt H locs ls hP hD hS (lv_sub hl [0, 1, 2] rfl) hF
    · have hF := if_n hF c5
      refine lv_aload_n hx hb dX7_kind_60 rfl (lv_at hl 0 rfl) ?_
      refine lv_bipush (v := -3) hx hb dX7_kind_61 (by decide) ?_
      refine lv_iload_n hx hb dX7_kind_63 rfl (lv_at hl 3 rfl) ?_
      obtain ⟨o6, o7, h8, hF⟩ := bn2_o hF
      refine kd_v [(q_o, .inr (7, [x_o_thrown, .ref q_o_buffer, x_o_bufferLength, .int o_textLength, .int o_position, .int o6, .int o7, x_o_errorOffset, x_o_data, x_o_draft, x_o_aside, x_o_history, x_o_undoDepth, x_o_numberStart, x_o_nesting, x_o_seen, x_o_toldPlanes, x_o_stack, x_o_facts])), (q_o_buffer, .inl (cy 0, 800, .inl o_buffer))] (va_runV (As := [.int (-3 : Int32), .int l3]) (rest := []) ⟨hx, hb, hml, hown, hts⟩ (c_X7_report q_o H.size x_o_thrown (.ref q_o_buffer) x_o_bufferLength (.int o_textLength) (.int o_position) x_o_errorOffset x_o_data x_o_draft x_o_aside x_o_history x_o_undoDepth x_o_numberStart x_o_nesting x_o_seen x_o_toldPlanes x_o_stack x_o_facts o_error o_errorAt (-3 : Int32) l3 _ h8) (cwV 2 hts gX7_kind_X7_report rfl rfl rfl kd_X7_report ⟨Nat.le_of_ble_eq_true rfl, Nat.le_of_ble_eq_true rfl⟩) ⟨kP_blind (EN_ok D cy) D _ _ _, va_recv hK hP (ci := 7) (q0 := 0) rfl rfl, kStart (EN_ok D cy) hE hP hD hS hA [0] rfl rfl _⟩ rfl rfl hl.1 rfl (lv_room (Nat.le_of_ble_eq_true rfl)) dX7_kind_64 ⟨Nat.zero_le _, Nat.zero_le _⟩) hP hD hS hA [0] [1] rfl rfl rfl 2 rfl (by decide +kernel) (fun H locs hP hD hS => ?_)
      exact J67 l1 l2 o_position o6 o7 H locs ls hP hD hS (lv_sub hl [0, 1, 2] rfl) hF
  have J21 : ∀ (n21 : Nat) (l1 : Int32) (l2 : Int32) (l3 : Int32) (o_position : Int32) (H : Heap) (locs : List Loc) (ls : Array Slot), va_P D vwCl [(q_o, .inr (7, [x_o_thrown, .ref q_o_buffer, x_o_bufferLength, .int o_textLength, .int o_position, .int o_error, .int o_errorAt, x_o_errorOffset, x_o_data, x_o_draft, x_o_aside, x_o_history, x_o_undoDepth, x_o_numberStart, x_o_nesting, x_o_seen, x_o_toldPlanes, x_o_stack, x_o_facts])), (q_o_buffer, .inl (cy 0, 800, .inl o_buffer))] H → va_D A [(q_o, .inr (7, [x_o_thrown, .ref q_o_buffer, x_o_bufferLength, .int o_textLength, .int o_position, .int o_error, .int o_errorAt, x_o_errorOffset, x_o_data, x_o_draft, x_o_aside, x_o_history, x_o_undoDepth, x_o_numberStart, x_o_nesting, x_o_seen, x_o_toldPlanes, x_o_stack, x_o_facts])), (q_o_buffer, .inl (cy 0, 800, .inl o_buffer))] → va_S A s.heap H locs → lv_has ls 4 [(0, .ref q_o), (1, .int l1), (2, .int l2), (3, .int l3)] → X7_kind_L21 o_textLength o_error o_errorAt o_buffer n21 l1 l2 l3 o_position = some res → W p l e ({ frames := 2, cells := 0, slots := 0, locals := 41 } : Room) s m args below meth c H locs 0 0 QQ (F0 m 21 ls []) := by
    intro n21
    induction n21 with
    | zero =>
      intro l1 l2 l3 o_position H locs ls hP hD hS hl hF
      rw [X7_kind_L21] at hF
      cases hF
    | succ n21 ih21 =>
      intro l1 l2 l3 o_position H locs ls hP hD hS hl hF
      rw [X7_kind_L21] at hF
      refine lv_aload_n hx hb dX7_kind_21 rfl (lv_at hl 0 rfl) ?_
      refine lv_iload_n hx hb dX7_kind_22 rfl (lv_at hl 3 rfl) ?_
      refine lv_iload_n hx hb dX7_kind_23 rfl (lv_at hl 2 rfl) ?_
      refine lv_iadd hx hb dX7_kind_24 ?_
      obtain ⟨r9, h10, hF⟩ := bn1_o hF
      refine kd_i [(q_o, .inr (7, [x_o_thrown, .ref q_o_buffer, x_o_bufferLength, .int o_textLength, .int o_position, .int o_error, .int o_errorAt, x_o_errorOffset, x_o_data, x_o_draft, x_o_aside, x_o_history, x_o_undoDepth, x_o_numberStart, x_o_nesting, x_o_seen, x_o_toldPlanes, x_o_stack, x_o_facts])), (q_o_buffer, .inl (cy 0, 800, .inl o_buffer))] (va_runV (As := [.int (l3 + l2)]) (rest := []) ⟨hx, hb, hml, hown, hts⟩ (c_X7_byteAt q_o q_o_buffer H.size x_o_thrown x_o_bufferLength (.int o_position) (.int o_error) (.int o_errorAt) x_o_errorOffset x_o_data x_o_draft x_o_aside x_o_history x_o_undoDepth x_o_numberStart x_o_nesting x_o_seen x_o_toldPlanes x_o_stack x_o_facts o_textLength o_buffer (l3 + l2) _ h10) (cwV 1 hts gX7_kind_X7_byteAt rfl rfl rfl kd_X7_byteAt ⟨Nat.le_of_ble_eq_true rfl, Nat.le_of_ble_eq_true rfl⟩) ⟨kP_blind (EN_ok D cy) D _ _ _, va_recv hK hP (ci := 7) (q0 := 0) rfl rfl, kStart (EN_ok D cy) hE hP hD hS hA [0, 1] rfl rfl _⟩ rfl rfl hl.1 rfl (lv_room (Nat.le_of_ble_eq_true rfl)) dX7_kind_25 ⟨Nat.zero_le _, Nat.zero_le _⟩) hP hD hS hA [0, 1] [] rfl rfl rfl 2 rfl (by decide +kernel) (fun H locs hP hD hS => ?_)
      refine lv_bipush (v := 97) hx hb dX7_kind_28 (by decide) ?_
      refine lv_bipush (v := 122) hx hb dX7_kind_30 (by decide) ?_
      obtain ⟨r11, h12, hF⟩ := bn1_o hF
      refine kd_i [(q_o, .inr (7, [x_o_thrown, .ref q_o_buffer, x_o_bufferLength, .int o_textLength, .int o_position, .int o_error, .int o_errorAt, x_o_errorOffset, x_o_data, x_o_draft, x_o_aside, x_o_history, x_o_undoDepth, x_o_numberStart, x_o_nesting, x_o_seen, x_o_toldPlanes, x_o_stack, x_o_facts])), (q_o_buffer, .inl (cy 0, 800, .inl o_buffer))] (va_runS (As := [.int r9, .int (97 : Int32), .int (122 : Int32)]) (rest := []) ⟨hx, hb, hml, hown, hts⟩ (c_X7_in H.size r9 (97 : Int32) (122 : Int32) _ h12) (va_cwS 3 hts gX7_kind_X7_in rfl rfl rfl kd_X7_in ⟨Nat.le_of_ble_eq_true rfl, Nat.le_of_ble_eq_true rfl⟩) ⟨kP_blind (EN_ok D cy) D _ _ _, kStart (EN_ok D cy) hE hP hD hS hA [] rfl rfl _⟩ rfl rfl hl.1 rfl (lv_room (Nat.le_of_ble_eq_true rfl)) dX7_kind_32 ⟨Nat.zero_le _, Nat.zero_le _⟩) hP hD hS hA [] [0, 1] rfl rfl rfl 2 rfl (by decide +kernel) (fun H locs hP hD hS => ?_)
      refine lv_if_eq (tgt := 44) hx hb dX7_kind_35 (by decide) (fun c13 => ?_) (fun c13 => ?_)
      · have hF := if_p hF c13
        refine lv_iload_n hx hb dX7_kind_44 rfl (lv_at hl 2 rfl) ?_
        refine lv_if_ne (tgt := 55) hx hb dX7_kind_45 (by decide) (fun c14 => ?_) (fun c14 => ?_)
        · have hF := if_n hF c14
          exact J55 l1 l2 l3 o_position o_error o_errorAt H locs ls hP hD hS (lv_sub hl [0, 1, 2, 3] rfl) hF
        · have hF := if_p hF c14
          refine lv_aload_n hx hb dX7_kind_48 rfl (lv_at hl 0 rfl) ?_
          refine lv_bipush (v := -2) hx hb dX7_kind_49 (by decide) ?_
          refine lv_iload_n hx hb dX7_kind_51 rfl (lv_at hl 3 rfl) ?_
          obtain ⟨o15, o16, h17, hF⟩ := bn2_o hF
          refine kd_v [(q_o, .inr (7, [x_o_thrown, .ref q_o_buffer, x_o_bufferLength, .int o_textLength, .int o_position, .int o15, .int o16, x_o_errorOffset, x_o_data, x_o_draft, x_o_aside, x_o_history, x_o_undoDepth, x_o_numberStart, x_o_nesting, x_o_seen, x_o_toldPlanes, x_o_stack, x_o_facts])), (q_o_buffer, .inl (cy 0, 800, .inl o_buffer))] (va_runV (As := [.int (-2 : Int32), .int l3]) (rest := []) ⟨hx, hb, hml, hown, hts⟩ (c_X7_report q_o H.size x_o_thrown (.ref q_o_buffer) x_o_bufferLength (.int o_textLength) (.int o_position) x_o_errorOffset x_o_data x_o_draft x_o_aside x_o_history x_o_undoDepth x_o_numberStart x_o_nesting x_o_seen x_o_toldPlanes x_o_stack x_o_facts o_error o_errorAt (-2 : Int32) l3 _ h17) (cwV 2 hts gX7_kind_X7_report rfl rfl rfl kd_X7_report ⟨Nat.le_of_ble_eq_true rfl, Nat.le_of_ble_eq_true rfl⟩) ⟨kP_blind (EN_ok D cy) D _ _ _, va_recv hK hP (ci := 7) (q0 := 0) rfl rfl, kStart (EN_ok D cy) hE hP hD hS hA [0] rfl rfl _⟩ rfl rfl hl.1 rfl (lv_room (Nat.le_of_ble_eq_true rfl)) dX7_kind_52 ⟨Nat.zero_le _, Nat.zero_le _⟩) hP hD hS hA [0] [1] rfl rfl rfl 2 rfl (by decide +kernel) (fun H locs hP hD hS => ?_)
          exact J55 l1 l2 l3 o_position o15 o16 H locs ls hP hD hS (lv_sub hl [0, 1, 2, 3] rfl) hF
      · have hF := if_n hF c13
        obtain ⟨v18, ev18⟩ : ∃ y : Int32, y = l2 + (1 : Int32) := ⟨_, rfl⟩
        have hF := nm_o hF v18 ev18
        refine lv_iinc (v := v18) (lv' := [(2, .int v18), (0, .ref q_o), (1, .int l1), (3, .int l3)]) hx hb dX7_kind_38 hl (k := 2) rfl (by rw [ev18]; rfl) (by decide) rfl (fun ls hl => ?_)
        refine lv_goto (tgt := 21) hx hb dX7_kind_41 (by decide) ?_
        exact ih21 l1 v18 l3 o_position H locs ls hP hD hS (lv_sub hl [1, 2, 0, 3] rfl) hF
  have main : ∀ (H : Heap) (locs : List Loc) (ls : Array Slot), va_P D vwCl [(q_o, .inr (7, [x_o_thrown, .ref q_o_buffer, x_o_bufferLength, .int o_textLength, .int o_position, .int o_error, .int o_errorAt, x_o_errorOffset, x_o_data, x_o_draft, x_o_aside, x_o_history, x_o_undoDepth, x_o_numberStart, x_o_nesting, x_o_seen, x_o_toldPlanes, x_o_stack, x_o_facts])), (q_o_buffer, .inl (cy 0, 800, .inl o_buffer))] H → va_D A [(q_o, .inr (7, [x_o_thrown, .ref q_o_buffer, x_o_bufferLength, .int o_textLength, .int o_position, .int o_error, .int o_errorAt, x_o_errorOffset, x_o_data, x_o_draft, x_o_aside, x_o_history, x_o_undoDepth, x_o_numberStart, x_o_nesting, x_o_seen, x_o_toldPlanes, x_o_stack, x_o_facts])), (q_o_buffer, .inl (cy 0, 800, .inl o_buffer))] → va_S A s.heap H locs → lv_has ls 4 [(0, .ref q_o)] → W p l e ({ frames := 2, cells := 0, slots := 0, locals := 41 } : Room) s m args below meth c H locs 0 0 QQ (F0 m 0 ls []) := by
    intro H locs ls hP hD hS hl
    unfold X7_kind at hF
    refine lv_aload_n hx hb dX7_kind_0 rfl (lv_at hl 0 rfl) ?_
    obtain ⟨r19, h20, hF⟩ := bn1_o hF
    refine kd_i [(q_o, .inr (7, [x_o_thrown, .ref q_o_buffer, x_o_bufferLength, .int o_textLength, .int o_position, .int o_error, .int o_errorAt, x_o_errorOffset, x_o_data, x_o_draft, x_o_aside, x_o_history, x_o_undoDepth, x_o_numberStart, x_o_nesting, x_o_seen, x_o_toldPlanes, x_o_stack, x_o_facts])), (q_o_buffer, .inl (cy 0, 800, .inl o_buffer))] (va_runV (As := []) (rest := []) ⟨hx, hb, hml, hown, hts⟩ (c_X7_isGood q_o H.size x_o_thrown (.ref q_o_buffer) x_o_bufferLength (.int o_textLength) (.int o_position) (.int o_errorAt) x_o_errorOffset x_o_data x_o_draft x_o_aside x_o_history x_o_undoDepth x_o_numberStart x_o_nesting x_o_seen x_o_toldPlanes x_o_stack x_o_facts o_error _ h20) (cwV 0 hts gX7_kind_X7_isGood rfl rfl rfl kd_X7_isGood ⟨Nat.le_of_ble_eq_true rfl, Nat.le_of_ble_eq_true rfl⟩) ⟨kP_blind (EN_ok D cy) D _ _ _, va_recv hK hP (ci := 7) (q0 := 0) rfl rfl, kStart (EN_ok D cy) hE hP hD hS hA [0] rfl rfl _⟩ rfl rfl hl.1 rfl (lv_room (Nat.le_of_ble_eq_true rfl)) dX7_kind_1 ⟨Nat.zero_le _, Nat.zero_le _⟩) hP hD hS hA [0] [1] rfl rfl rfl 2 rfl (by decide +kernel) (fun H locs hP hD hS => ?_)
    refine lv_if_ne (tgt := 9) hx hb dX7_kind_4 (by decide) (fun c21 => ?_) (fun c21 => ?_)
    · have hF := if_n hF c21
      refine lv_aload_n hx hb dX7_kind_9 rfl (lv_at hl 0 rfl) ?_
      obtain ⟨r22, o23, h24, hF⟩ := bn2_o hF
      refine kd_i [(q_o, .inr (7, [x_o_thrown, .ref q_o_buffer, x_o_bufferLength, .int o_textLength, .int o23, .int o_error, .int o_errorAt, x_o_errorOffset, x_o_data, x_o_draft, x_o_aside, x_o_history, x_o_undoDepth, x_o_numberStart, x_o_nesting, x_o_seen, x_o_toldPlanes, x_o_stack, x_o_facts])), (q_o_buffer, .inl (cy 0, 800, .inl o_buffer))] (va_runV (As := []) (rest := []) ⟨hx, hb, hml, hown, hts⟩ (c_X7_ahead q_o q_o_buffer H.size x_o_thrown x_o_bufferLength (.int o_error) (.int o_errorAt) x_o_errorOffset x_o_data x_o_draft x_o_aside x_o_history x_o_undoDepth x_o_numberStart x_o_nesting x_o_seen x_o_toldPlanes x_o_stack x_o_facts o_textLength o_position o_buffer _ h24) (cwV 0 hts gX7_kind_X7_ahead rfl rfl rfl kd_X7_ahead ⟨Nat.le_of_ble_eq_true rfl, Nat.le_of_ble_eq_true rfl⟩) ⟨kP_blind (EN_ok D cy) D _ _ _, va_recv hK hP (ci := 7) (q0 := 0) rfl rfl, kStart (EN_ok D cy) hE hP hD hS hA [0, 1] rfl rfl _⟩ rfl rfl hl.1 rfl (lv_room (Nat.le_of_ble_eq_true rfl)) dX7_kind_10 ⟨Nat.zero_le _, Nat.zero_le _⟩) hP hD hS hA [0, 1] [] rfl rfl rfl 2 rfl (by decide +kernel) (fun H locs hP hD hS => ?_)
      refine lv_istore_n (lv' := [(1, .int r22), (0, .ref q_o)]) hx hb dX7_kind_13 rfl hl (by decide) rfl (fun ls hl => ?_)
      refine lv_iconst (v := 0) hx hb dX7_kind_14 (by decide) ?_
      refine lv_istore_n (lv' := [(2, .int (0 : Int32)), (1, .int r22), (0, .ref q_o)]) hx hb dX7_kind_15 rfl hl (by decide) rfl (fun ls hl => ?_)
      refine lv_aload_n hx hb dX7_kind_16 rfl (lv_at hl 2 rfl) ?_
      refine va_get (D := D) (ci := 7) (v := .int o23) (C := RX7) (T := TX7) (N := 19) hx hb hts f_inX7 hown hK hP 0 rfl rfl 4 (by decide) f_f51 (fun _ h9 => h9) rfl dX7_kind_17 ?_
      refine lv_istore_n (lv' := [(3, .int o23), (2, .int (0 : Int32)), (1, .int r22), (0, .ref q_o)]) hx hb dX7_kind_20 rfl hl (by decide) rfl (fun ls hl => ?_)
      exact J21 FU r22 (0 : Int32) o23 o23 H locs ls hP hD hS (lv_sub hl [3, 2, 1, 0] rfl) hF
    · have hF := if_p hF c21
      refine lv_iconst (v := 0) hx hb dX7_kind_7 (by decide) ?_
      obtain rfl := so_o hF
      rw [hQQ]
      exact kr_i hx hb hr hlocks hP hD hS dX7_kind_8
  exact main s.heap [] ls hP hD hS hl
theorem kd_X7_addViewer : yX7_addViewer.cls ≠ "java/lang/invoke/MethodHandle" ∧ yX7_addViewer.cls ≠ "java/lang/invoke/VarHandle" ∧ (parseMethodDescriptor yX7_addViewer.desc).map (fun d => d.parameters.length) = some 4 := by decide +kernel
set_option maxHeartbeats 4000000 in
set_option maxRecDepth 100000 in
theorem c_X7_addViewer {l : Launch} {D : va_G} {cy : Nat → ClassId} (n_o : Nat) (q_o : Nat) (sz : Nat) (o : Nat → Int32) (p1 : Int32) (p2 : Int32) (p3 : Int32) (res : (Nat → Int32)) (hF : X7_addViewer n_o o p1 p2 p3 = some res) : Met l yX7_addViewer wsX7_addViewer ({ frames := 0, cells := 0, slots := 0, locals := 0 } : Room) (kP (EN D cy) D [.ref q_o, .int p1, .int p2, .int p3] [(q_o, .inl (cy 0, n_o, .inl o))] sz) (kQv D [(q_o, .inl (cy 0, n_o, .inl res))] (va_A [(q_o, .inl (cy 0, n_o, .inl o))] sz)) 0 0 (va_A [(q_o, .inl (cy 0, n_o, .inl o))] sz) := by
  refine kMet (y := yX7_addViewer) (av := [.ref q_o, .int p1, .int p2, .int p3]) (cc := cX7_addViewer) (maxL := 5) (ret := none) (own := RX7) (Qc := fun A9 => (kQv D [(q_o, .inl (cy 0, n_o, .inl res))] A9)) (by decide) rfl rfl (Nat.le_of_ble_eq_true rfl) ?_
  intro p e s m args below meth c A hx hb hr hts hown hml hlocks hname hE hP hD hA hsz ls hl
  have hK := hE.1
  have hl : lv_has ls 5 [(0, .ref q_o), (1, .int p1), (2, .int p2), (3, .int p3)] := hl
  have hS : va_S A s.heap s.heap [] := va_S.rf
  obtain ⟨QQ, hQQ⟩ : ∃ Q9, Q9 = MQ below (kQv D [(q_o, .inl (cy 0, n_o, .inl res))] A) args s 0 0 A := ⟨_, rfl⟩
  rw [← hQQ]
  have main : ∀ (H : Heap) (locs : List Loc) (ls : Array Slot), va_P D vwCl [(q_o, .inl (cy 0, n_o, .inl o))] H → va_D A [(q_o, .inl (cy 0, n_o, .inl o))] → va_S A s.heap H locs → lv_has ls 5 [(0, .ref q_o), (1, .int p1), (2, .int p2), (3, .int p3)] → W p l e ({ frames := 0, cells := 0, slots := 0, locals := 0 } : Room) s m args below meth c H locs 0 0 QQ (F0 m 0 ls []) := by
    intro H locs ls hP hD hS hl
    unfold X7_addViewer at hF
    refine lv_sipush (v := 503) hx hb dX7_addViewer_0 (by decide) ?_
    refine lv_bipush (v := 7) hx hb dX7_addViewer_3 (by decide) ?_
    refine lv_aload_n hx hb dX7_addViewer_5 rfl (lv_at hl 0 rfl) ?_
    refine lv_bipush (v := 7) hx hb dX7_addViewer_6 (by decide) ?_
    obtain ⟨h1, hF⟩ := ld_o hF
    refine va_iald hx hb hK hP 0 0 rfl rfl h1 dX7_addViewer_8 ?_
    refine lv_topi (fun v2 ev2 => ?_)
    have hF := hF v2 ev2
    refine lv_imul hx hb dX7_addViewer_9 ?_
    refine lv_iadd hx hb dX7_addViewer_10 ?_
    refine lv_topi (fun v3 ev3 => ?_)
    have hF := nm_o hF v3 ev3
    refine lv_istore (lv' := [(4, .int v3), (0, .ref q_o), (1, .int p1), (2, .int p2), (3, .int p3)]) hx hb dX7_addViewer_11 hl (by decide) rfl (fun ls hl => ?_)
    refine lv_aload_n hx hb dX7_addViewer_13 rfl (lv_at hl 1 rfl) ?_
    refine lv_iload hx hb dX7_addViewer_14 (lv_at hl 0 rfl) ?_
    refine lv_iconst (v := 0) hx hb dX7_addViewer_16 (by decide) ?_
    refine lv_iadd hx hb dX7_addViewer_17 ?_
    refine lv_iload_n hx hb dX7_addViewer_18 rfl (lv_at hl 2 rfl) ?_
    obtain ⟨h4, hF⟩ := st_o hF
    refine va_iast hx hb hK hP hD hS 0 0 rfl rfl h4 dX7_addViewer_19 (fun H locs hP hD hS => ?_)
    obtain ⟨b5, eb5⟩ : ∃ y : Nat → Int32, y = (upd o (v3 + (0 : Int32)).toNatClampNeg p1) := ⟨_, rfl⟩
    have hF := hF b5 eb5
    have hP : va_P D vwCl [(q_o, .inl (cy 0, n_o, .inl b5))] H := by rw [eb5]; exact hP
    have hD : va_D A [(q_o, .inl (cy 0, n_o, .inl b5))] := by rw [eb5]; exact hD
    refine lv_aload_n hx hb dX7_addViewer_20 rfl (lv_at hl 1 rfl) ?_
    refine lv_iload hx hb dX7_addViewer_21 (lv_at hl 0 rfl) ?_
    refine lv_iconst (v := 1) hx hb dX7_addViewer_23 (by decide) ?_
    refine lv_iadd hx hb dX7_addViewer_24 ?_
    refine lv_iload_n hx hb dX7_addViewer_25 rfl (lv_at hl 3 rfl) ?_
    obtain ⟨h6, hF⟩ := st_o hF
    refine va_iast hx hb hK hP hD hS 0 0 rfl rfl h6 dX7_addViewer_26 (fun H locs hP hD hS => ?_)
    obtain ⟨b7, eb7⟩ : ∃ y : Nat → Int32, y = (upd b5 (v3 + (1 : Int32)).toNatClampNeg p2) := ⟨_, rfl⟩
    have hF := hF b7 eb7
    have hP : va_P D vwCl [(q_o, .inl (cy 0, n_o, .inl b7))] H := by rw [eb7]; exact hP
    have hD : va_D A [(q_o, .inl (cy 0, n_o, .inl b7))] := by rw [eb7]; exact hD
    refine lv_aload_n hx hb dX7_addViewer_27 rfl (lv_at hl 1 rfl) ?_
    refine lv_iload hx hb dX7_addViewer_28 (lv_at hl 0 rfl) ?_
    refine lv_iconst (v := 2) hx hb dX7_addViewer_30 (by decide) ?_
    refine lv_iadd hx hb dX7_addViewer_31 ?_
    refine lv_iload_n hx hb dX7_addViewer_32 rfl (lv_at hl 4 rfl) ?_
    obtain ⟨h8, hF⟩ := st_o hF
    refine va_iast hx hb hK hP hD hS 0 0 rfl rfl h8 dX7_addViewer_33 (fun H locs hP hD hS => ?_)
    obtain ⟨b9, eb9⟩ : ∃ y : Nat → Int32, y = (upd b7 (v3 + (2 : Int32)).toNatClampNeg p3) := ⟨_, rfl⟩
    have hF := hF b9 eb9
    have hP : va_P D vwCl [(q_o, .inl (cy 0, n_o, .inl b9))] H := by rw [eb9]; exact hP
    have hD : va_D A [(q_o, .inl (cy 0, n_o, .inl b9))] := by rw [eb9]; exact hD
    refine lv_aload_n hx hb dX7_addViewer_34 rfl (lv_at hl 1 rfl) ?_
    refine lv_iload hx hb dX7_addViewer_35 (lv_at hl 0 rfl) ?_
    refine lv_iconst (v := 3) hx hb dX7_addViewer_37 (by decide) ?_
    refine lv_iadd hx hb dX7_addViewer_38 ?_
    refine lv_iconst (v := 0) hx hb dX7_addViewer_39 (by decide) ?_
    obtain ⟨h10, hF⟩ := st_o hF
    refine va_iast hx hb hK hP hD hS 0 0 rfl rfl h10 dX7_addViewer_40 (fun H locs hP hD hS => ?_)
    obtain ⟨b11, eb11⟩ : ∃ y : Nat → Int32, y = (upd b9 (v3 + (3 : Int32)).toNatClampNeg (0 : Int32)) := ⟨_, rfl⟩
    have hF := hF b11 eb11
    have hP : va_P D vwCl [(q_o, .inl (cy 0, n_o, .inl b11))] H := by rw [eb11]; exact hP
    have hD : va_D A [(q_o, .inl (cy 0, n_o, .inl b11))] := by rw [eb11]; exact hD
    refine lv_aload_n hx hb dX7_addViewer_41 rfl (lv_at hl 1 rfl) ?_
    refine lv_iload hx hb dX7_addViewer_42 (lv_at hl 0 rfl) ?_
    refine lv_iconst (v := 4) hx hb dX7_addViewer_44 (by decide) ?_
    refine lv_iadd hx hb dX7_addViewer_45 ?_
    refine lv_iconst (v := -1) hx hb dX7_addViewer_46 (by decide) ?_
    obtain ⟨h12, hF⟩ := st_o hF
    refine va_iast hx hb hK hP hD hS 0 0 rfl rfl h12 dX7_addViewer_47 (fun H locs hP hD hS => ?_)
    obtain ⟨b13, eb13⟩ : ∃ y : Nat → Int32, y = (upd b11 (v3 + (4 : Int32)).toNatClampNeg (-1 : Int32)) := ⟨_, rfl⟩
    have hF := hF b13 eb13
    have hP : va_P D vwCl [(q_o, .inl (cy 0, n_o, .inl b13))] H := by rw [eb13]; exact hP
    have hD : va_D A [(q_o, .inl (cy 0, n_o, .inl b13))] := by rw [eb13]; exact hD
    refine lv_aload_n hx hb dX7_addViewer_48 rfl (lv_at hl 1 rfl) ?_
    refine lv_iload hx hb dX7_addViewer_49 (lv_at hl 0 rfl) ?_
    refine lv_iconst (v := 5) hx hb dX7_addViewer_51 (by decide) ?_
    refine lv_iadd hx hb dX7_addViewer_52 ?_
    refine lv_iconst (v := 0) hx hb dX7_addViewer_53 (by decide) ?_
    obtain ⟨h14, hF⟩ := st_o hF
    refine va_iast hx hb hK hP hD hS 0 0 rfl rfl h14 dX7_addViewer_54 (fun H locs hP hD hS => ?_)
    obtain ⟨b15, eb15⟩ : ∃ y : Nat → Int32, y = (upd b13 (v3 + (5 : Int32)).toNatClampNeg (0 : Int32)) := ⟨_, rfl⟩
    have hF := hF b15 eb15
    have hP : va_P D vwCl [(q_o, .inl (cy 0, n_o, .inl b15))] H := by rw [eb15]; exact hP
    have hD : va_D A [(q_o, .inl (cy 0, n_o, .inl b15))] := by rw [eb15]; exact hD
    refine lv_aload_n hx hb dX7_addViewer_55 rfl (lv_at hl 1 rfl) ?_
    refine lv_iload hx hb dX7_addViewer_56 (lv_at hl 0 rfl) ?_
    refine lv_bipush (v := 6) hx hb dX7_addViewer_58 (by decide) ?_
    refine lv_iadd hx hb dX7_addViewer_60 ?_
    refine lv_iconst (v := 0) hx hb dX7_addViewer_61 (by decide) ?_
    obtain ⟨h16, hF⟩ := st_o hF
    refine va_iast hx hb hK hP hD hS 0 0 rfl rfl h16 dX7_addViewer_62 (fun H locs hP hD hS => ?_)
    obtain ⟨b17, eb17⟩ : ∃ y : Nat → Int32, y = (upd b15 (v3 + (6 : Int32)).toNatClampNeg (0 : Int32)) := ⟨_, rfl⟩
    have hF := hF b17 eb17
    have hP : va_P D vwCl [(q_o, .inl (cy 0, n_o, .inl b17))] H := by rw [eb17]; exact hP
    have hD : va_D A [(q_o, .inl (cy 0, n_o, .inl b17))] := by rw [eb17]; exact hD
    refine lv_aload_n hx hb dX7_addViewer_63 rfl (lv_at hl 1 rfl) ?_
    refine lv_bipush (v := 7) hx hb dX7_addViewer_64 (by decide) ?_
    refine lv_dup2_11 hx hb dX7_addViewer_66 rfl rfl ?_
    obtain ⟨h18, hF⟩ := ld_o hF
    refine va_iald hx hb hK hP 0 0 rfl rfl h18 dX7_addViewer_67 ?_
    refine lv_topi (fun v19 ev19 => ?_)
    have hF := hF v19 ev19
    refine lv_iconst (v := 1) hx hb dX7_addViewer_68 (by decide) ?_
    refine lv_iadd hx hb dX7_addViewer_69 ?_
    obtain ⟨h20, hF⟩ := st_o hF
    refine va_iast hx hb hK hP hD hS 0 0 rfl rfl h20 dX7_addViewer_70 (fun H locs hP hD hS => ?_)
    obtain ⟨b21, eb21⟩ : ∃ y : Nat → Int32, y = (upd b17 (7 : Int32).toNatClampNeg (v19 + (1 : Int32))) := ⟨_, rfl⟩
    have hF := hF b21 eb21
    have hP : va_P D vwCl [(q_o, .inl (cy 0, n_o, .inl b21))] H := by rw [eb21]; exact hP
    have hD : va_D A [(q_o, .inl (cy 0, n_o, .inl b21))] := by rw [eb21]; exact hD
    obtain rfl := so_o hF
    rw [hQQ]
    exact kr_v hx hb hr hlocks hP hD hS dX7_addViewer_71
  exact main s.heap [] ls hP hD hS hl
theorem kd_X7_readViewer : yX7_readViewer.cls = RX7 ∧ yX7_readViewer.cls ≠ "java/lang/invoke/MethodHandle" ∧ yX7_readViewer.cls ≠ "java/lang/invoke/VarHandle" ∧ (parseMethodDescriptor yX7_readViewer.desc).map (fun d => d.parameters.length) = some 1 := by decide +kernel
set_option maxHeartbeats 4000000 in
set_option maxRecDepth 100000 in
theorem c_X7_readViewer {l : Launch} {D : va_G} {cy : Nat → ClassId} (q_o q_o_buffer q_o_draft : Nat) (sz : Nat) (x_o_thrown x_o_bufferLength x_o_errorOffset x_o_data x_o_aside x_o_history x_o_undoDepth x_o_nesting x_o_seen x_o_toldPlanes x_o_stack x_o_facts : Value) (o_textLength : Int32) (o_position : Int32) (o_error : Int32) (o_errorAt : Int32) (o_numberStart : Int32) (o_buffer : Nat → Int32) (o_draft : Nat → Int32) (p1 : Int32) (res : Int32 × Int32 × Int32 × Int32 × (Nat → Int32)) (hF : X7_readViewer o_textLength o_position o_error o_errorAt o_numberStart o_buffer o_draft p1 = some res) : Met l yX7_readViewer wsX7_readViewer ({ frames := 3, cells := 0, slots := 0, locals := 65 } : Room) (kP (EN D cy) D [.ref q_o, .int p1] [(q_o, .inr (7, [x_o_thrown, .ref q_o_buffer, x_o_bufferLength, .int o_textLength, .int o_position, .int o_error, .int o_errorAt, x_o_errorOffset, x_o_data, .ref q_o_draft, x_o_aside, x_o_history, x_o_undoDepth, .int o_numberStart, x_o_nesting, x_o_seen, x_o_toldPlanes, x_o_stack, x_o_facts])), (q_o_buffer, .inl (cy 0, 800, .inl o_buffer)), (q_o_draft, .inl (cy 0, 2243, .inl o_draft))] sz) (kQv D [(q_o, .inr (7, [x_o_thrown, .ref q_o_buffer, x_o_bufferLength, .int o_textLength, .int res.1, .int res.2.1, .int res.2.2.1, x_o_errorOffset, x_o_data, .ref q_o_draft, x_o_aside, x_o_history, x_o_undoDepth, .int res.2.2.2.1, x_o_nesting, x_o_seen, x_o_toldPlanes, x_o_stack, x_o_facts])), (q_o_buffer, .inl (cy 0, 800, .inl o_buffer)), (q_o_draft, .inl (cy 0, 2243, .inl res.2.2.2.2))] (va_A [(q_o, .inr (7, [x_o_thrown, .ref q_o_buffer, x_o_bufferLength, .int o_textLength, .int o_position, .int o_error, .int o_errorAt, x_o_errorOffset, x_o_data, .ref q_o_draft, x_o_aside, x_o_history, x_o_undoDepth, .int o_numberStart, x_o_nesting, x_o_seen, x_o_toldPlanes, x_o_stack, x_o_facts])), (q_o_buffer, .inl (cy 0, 800, .inl o_buffer)), (q_o_draft, .inl (cy 0, 2243, .inl o_draft))] sz)) 0 0 (va_A [(q_o, .inr (7, [x_o_thrown, .ref q_o_buffer, x_o_bufferLength, .int o_textLength, .int o_position, .int o_error, .int o_errorAt, x_o_errorOffset, x_o_data, .ref q_o_draft, x_o_aside, x_o_history, x_o_undoDepth, .int o_numberStart, x_o_nesting, x_o_seen, x_o_toldPlanes, x_o_stack, x_o_facts])), (q_o_buffer, .inl (cy 0, 800, .inl o_buffer)), (q_o_draft, .inl (cy 0, 2243, .inl o_draft))] sz) := by
  refine kMet (y := yX7_readViewer) (av := [.ref q_o, .int p1]) (cc := cX7_readViewer) (maxL := 5) (ret := none) (own := RX7) (Qc := fun A9 => (kQv D [(q_o, .inr (7, [x_o_thrown, .ref q_o_buffer, x_o_bufferLength, .int o_textLength, .int res.1, .int res.2.1, .int res.2.2.1, x_o_errorOffset, x_o_data, .ref q_o_draft, x_o_aside, x_o_history, x_o_undoDepth, .int res.2.2.2.1, x_o_nesting, x_o_seen, x_o_toldPlanes, x_o_stack, x_o_facts])), (q_o_buffer, .inl (cy 0, 800, .inl o_buffer)), (q_o_draft, .inl (cy 0, 2243, .inl res.2.2.2.2))] A9)) (by decide) rfl rfl (Nat.le_of_ble_eq_true rfl) ?_
  intro p e s m args below meth c A hx hb hr hts hown hml hlocks hname hE hP hD hA hsz ls hl
  have hK := hE.1
  have hl : lv_has ls 5 [(0, .ref q_o), (1, .int p1)] := hl
  have hS : va_S A s.heap s.heap [] := va_S.rf
  have f_f20 := hts (.fieldLink RX7 20 "PeepBoxModel" "draft" "[I") (by decide +kernel)
  have f_inX7 : ∀ w ∈ wsX70, w ∈ wsX7_readViewer := by decide +kernel
  obtain ⟨QQ, hQQ⟩ : ∃ Q9, Q9 = MQ below (kQv D [(q_o, .inr (7, [x_o_thrown, .ref q_o_buffer, x_o_bufferLength, .int o_textLength, .int res.1, .int res.2.1, .int res.2.2.1, x_o_errorOffset, x_o_data, .ref q_o_draft, x_o_aside, x_o_history, x_o_undoDepth, .int res.2.2.2.1, x_o_nesting, x_o_seen, x_o_toldPlanes, x_o_stack, x_o_facts])), (q_o_buffer, .inl (cy 0, 800, .inl o_buffer)), (q_o_draft, .inl (cy 0, 2243, .inl res.2.2.2.2))] A) args s 0 0 A := ⟨_, rfl⟩
  rw [← hQQ]
  have J19 : ∀ (o_error : Int32) (o_errorAt : Int32) (H : Heap) (locs : List Loc) (ls : Array Slot), va_P D vwCl [(q_o, .inr (7, [x_o_thrown, .ref q_o_buffer, x_o_bufferLength, .int o_textLength, .int o_position, .int o_error, .int o_errorAt, x_o_errorOffset, x_o_data, .ref q_o_draft, x_o_aside, x_o_history, x_o_undoDepth, .int o_numberStart, x_o_nesting, x_o_seen, x_o_toldPlanes, x_o_stack, x_o_facts])), (q_o_buffer, .inl (cy 0, 800, .inl o_buffer)), (q_o_draft, .inl (cy 0, 2243, .inl o_draft))] H → va_D A [(q_o, .inr (7, [x_o_thrown, .ref q_o_buffer, x_o_bufferLength, .int o_textLength, .int o_position, .int o_error, .int o_errorAt, x_o_errorOffset, x_o_data, .ref q_o_draft, x_o_aside, x_o_history, x_o_undoDepth, .int o_numberStart, x_o_nesting, x_o_seen, x_o_toldPlanes, x_o_stack, x_o_facts])), (q_o_buffer, .inl (cy 0, 800, .inl o_buffer)), (q_o_draft, .inl (cy 0, 2243, .inl o_draft))] → va_S A s.heap H locs → lv_has ls 5 [(0, .ref q_o)] → X7_readViewer_J19 o_textLength o_position o_numberStart o_buffer o_draft p1 o_error o_errorAt = some res → W p l e ({ frames := 3, cells := 0, slots := 0, locals := 65 } : Room) s m args below meth c H locs 0 0 QQ (F0 m 19 ls []) := by
    intro o_error o_errorAt H locs ls hP hD hS hl hF
    unfold X7_readViewer_J19 at hF
    refine lv_aload_n hx hb dX7_readViewer_19 rfl (lv_at hl 0 rfl) ?_
    refine lv_iconst (v := 0) hx hb dX7_readViewer_20 (by decide) ?_
    refine lv_bipush (v := 9) hx hb dX7_readViewer_21 (by decide) ?_
    obtain ⟨r1, o2, o3, o4, o5, h6, hF⟩ := bn5_o hF
    refine kd_i [(q_o, .inr (7, [x_o_thrown, .ref q_o_buffer, x_o_bufferLength, .int o_textLength, .int o2, .int o3, .int o4, x_o_errorOffset, x_o_data, .ref q_o_draft, x_o_aside, x_o_history, x_o_undoDepth, .int o5, x_o_nesting, x_o_seen, x_o_toldPlanes, x_o_stack, x_o_facts])), (q_o_buffer, .inl (cy 0, 800, .inl o_buffer)), (q_o_draft, .inl (cy 0, 2243, .inl o_draft))] (va_runV (As := [.int (0 : Int32), .int (9 : Int32)]) (rest := []) ⟨hx, hb, hml, hown, hts⟩ (c_X7_number q_o q_o_buffer H.size x_o_thrown x_o_bufferLength x_o_errorOffset x_o_data (.ref q_o_draft) x_o_aside x_o_history x_o_undoDepth x_o_nesting x_o_seen x_o_toldPlanes x_o_stack x_o_facts o_textLength o_position o_error o_errorAt o_numberStart o_buffer (0 : Int32) (9 : Int32) _ h6) (cwV 2 hts gX7_readViewer_X7_number rfl rfl rfl kd_X7_number ⟨Nat.le_of_ble_eq_true rfl, Nat.le_of_ble_eq_true rfl⟩) ⟨kP_blind (EN_ok D cy) D _ _ _, va_recv hK hP (ci := 7) (q0 := 0) rfl rfl, kStart (EN_ok D cy) hE hP hD hS hA [0, 1] rfl rfl _⟩ rfl rfl hl.1 rfl (lv_room (Nat.le_of_ble_eq_true rfl)) dX7_readViewer_23 ⟨Nat.zero_le _, Nat.zero_le _⟩) hP hD hS hA [0, 1] [2] rfl rfl rfl 3 rfl (by decide +kernel) (fun H locs hP hD hS => ?_)
    refine lv_istore_n (lv' := [(2, .int r1), (0, .ref q_o)]) hx hb dX7_readViewer_26 rfl hl (by decide) rfl (fun ls hl => ?_)
    refine lv_aload_n hx hb dX7_readViewer_27 rfl (lv_at hl 1 rfl) ?_
    obtain ⟨r7, o8, o9, o10, h11, hF⟩ := bn4_o hF
    refine kd_i [(q_o, .inr (7, [x_o_thrown, .ref q_o_buffer, x_o_bufferLength, .int o_textLength, .int o8, .int o9, .int o10, x_o_errorOffset, x_o_data, .ref q_o_draft, x_o_aside, x_o_history, x_o_undoDepth, .int o5, x_o_nesting, x_o_seen, x_o_toldPlanes, x_o_stack, x_o_facts])), (q_o_buffer, .inl (cy 0, 800, .inl o_buffer)), (q_o_draft, .inl (cy 0, 2243, .inl o_draft))] (va_runV (As := []) (rest := []) ⟨hx, hb, hml, hown, hts⟩ (c_X7_kind q_o q_o_buffer H.size x_o_thrown x_o_bufferLength x_o_errorOffset x_o_data (.ref q_o_draft) x_o_aside x_o_history x_o_undoDepth (.int o5) x_o_nesting x_o_seen x_o_toldPlanes x_o_stack x_o_facts o_textLength o2 o3 o4 o_buffer _ h11) (cwV 0 hts gX7_readViewer_X7_kind rfl rfl rfl kd_X7_kind ⟨Nat.le_of_ble_eq_true rfl, Nat.le_of_ble_eq_true rfl⟩) ⟨kP_blind (EN_ok D cy) D _ _ _, va_recv hK hP (ci := 7) (q0 := 0) rfl rfl, kStart (EN_ok D cy) hE hP hD hS hA [0, 1] rfl rfl _⟩ rfl rfl hl.1 rfl (lv_room (Nat.le_of_ble_eq_true rfl)) dX7_readViewer_28 ⟨Nat.zero_le _, Nat.zero_le _⟩) hP hD hS hA [0, 1] [2] rfl rfl rfl 3 rfl (by decide +kernel) (fun H locs hP hD hS => ?_)
    refine lv_istore_n (lv' := [(3, .int r7), (2, .int r1), (0, .ref q_o)]) hx hb dX7_readViewer_31 rfl hl (by decide) rfl (fun ls hl => ?_)
    refine lv_aload_n hx hb dX7_readViewer_32 rfl (lv_at hl 2 rfl) ?_
    refine lv_iconst (v := 0) hx hb dX7_readViewer_33 (by decide) ?_
    refine lv_sipush (v := 999) hx hb dX7_readViewer_34 (by decide) ?_
    obtain ⟨r12, o13, o14, o15, o16, h17, hF⟩ := bn5_o hF
    refine kd_i [(q_o, .inr (7, [x_o_thrown, .ref q_o_buffer, x_o_bufferLength, .int o_textLength, .int o13, .int o14, .int o15, x_o_errorOffset, x_o_data, .ref q_o_draft, x_o_aside, x_o_history, x_o_undoDepth, .int o16, x_o_nesting, x_o_seen, x_o_toldPlanes, x_o_stack, x_o_facts])), (q_o_buffer, .inl (cy 0, 800, .inl o_buffer)), (q_o_draft, .inl (cy 0, 2243, .inl o_draft))] (va_runV (As := [.int (0 : Int32), .int (999 : Int32)]) (rest := []) ⟨hx, hb, hml, hown, hts⟩ (c_X7_number q_o q_o_buffer H.size x_o_thrown x_o_bufferLength x_o_errorOffset x_o_data (.ref q_o_draft) x_o_aside x_o_history x_o_undoDepth x_o_nesting x_o_seen x_o_toldPlanes x_o_stack x_o_facts o_textLength o8 o9 o10 o5 o_buffer (0 : Int32) (999 : Int32) _ h17) (cwV 2 hts gX7_readViewer_X7_number rfl rfl rfl kd_X7_number ⟨Nat.le_of_ble_eq_true rfl, Nat.le_of_ble_eq_true rfl⟩) ⟨kP_blind (EN_ok D cy) D _ _ _, va_recv hK hP (ci := 7) (q0 := 0) rfl rfl, kStart (EN_ok D cy) hE hP hD hS hA [0, 1] rfl rfl _⟩ rfl rfl hl.1 rfl (lv_room (Nat.le_of_ble_eq_true rfl)) dX7_readViewer_37 ⟨Nat.zero_le _, Nat.zero_le _⟩) hP hD hS hA [0, 1] [2] rfl rfl rfl 3 rfl (by decide +kernel) (fun H locs hP hD hS => ?_)
    refine lv_istore (lv' := [(4, .int r12), (3, .int r7), (2, .int r1), (0, .ref q_o)]) hx hb dX7_readViewer_40 hl (by decide) rfl (fun ls hl => ?_)
    refine lv_aload_n hx hb dX7_readViewer_42 rfl (lv_at hl 3 rfl) ?_
    obtain ⟨r18, h19, hF⟩ := bn1_o hF
    refine kd_i [(q_o, .inr (7, [x_o_thrown, .ref q_o_buffer, x_o_bufferLength, .int o_textLength, .int o13, .int o14, .int o15, x_o_errorOffset, x_o_data, .ref q_o_draft, x_o_aside, x_o_history, x_o_undoDepth, .int o16, x_o_nesting, x_o_seen, x_o_toldPlanes, x_o_stack, x_o_facts])), (q_o_buffer, .inl (cy 0, 800, .inl o_buffer)), (q_o_draft, .inl (cy 0, 2243, .inl o_draft))] (va_runV (As := []) (rest := []) ⟨hx, hb, hml, hown, hts⟩ (c_X7_isGood q_o H.size x_o_thrown (.ref q_o_buffer) x_o_bufferLength (.int o_textLength) (.int o13) (.int o15) x_o_errorOffset x_o_data (.ref q_o_draft) x_o_aside x_o_history x_o_undoDepth (.int o16) x_o_nesting x_o_seen x_o_toldPlanes x_o_stack x_o_facts o14 _ h19) (cwV 0 hts gX7_readViewer_X7_isGood rfl rfl rfl kd_X7_isGood ⟨Nat.le_of_ble_eq_true rfl, Nat.le_of_ble_eq_true rfl⟩) ⟨kP_blind (EN_ok D cy) D _ _ _, va_recv hK hP (ci := 7) (q0 := 0) rfl rfl, kStart (EN_ok D cy) hE hP hD hS hA [0] rfl rfl _⟩ rfl rfl hl.1 rfl (lv_room (Nat.le_of_ble_eq_true rfl)) dX7_readViewer_43 ⟨Nat.zero_le _, Nat.zero_le _⟩) hP hD hS hA [0] [1, 2] rfl rfl rfl 3 rfl (by decide +kernel) (fun H locs hP hD hS => ?_)
    refine lv_if_eq (tgt := 60) hx hb dX7_readViewer_46 (by decide) (fun c20 => ?_) (fun c20 => ?_)
    · have hF := if_p hF c20
      obtain rfl := so_o hF
      rw [hQQ]
      exact kr_v hx hb hr hlocks hP hD hS dX7_readViewer_60
    · have hF := if_n hF c20
      refine lv_aload_n hx hb dX7_readViewer_49 rfl (lv_at hl 3 rfl) ?_
      refine va_get (D := D) (ci := 7) (v := .ref q_o_draft) (C := RX7) (T := TX7) (N := 19) hx hb hts f_inX7 hown hK hP 0 rfl rfl 9 (by decide) f_f20 (fun _ h9 => h9) rfl dX7_readViewer_50 ?_
      refine lv_iload_n hx hb dX7_readViewer_53 rfl (lv_at hl 2 rfl) ?_
      refine lv_iload_n hx hb dX7_readViewer_54 rfl (lv_at hl 1 rfl) ?_
      refine lv_iload hx hb dX7_readViewer_55 (lv_at hl 0 rfl) ?_
      obtain ⟨o21, h22, hF⟩ := bn1_o hF
      refine kd_v [(q_o, .inr (7, [x_o_thrown, .ref q_o_buffer, x_o_bufferLength, .int o_textLength, .int o13, .int o14, .int o15, x_o_errorOffset, x_o_data, .ref q_o_draft, x_o_aside, x_o_history, x_o_undoDepth, .int o16, x_o_nesting, x_o_seen, x_o_toldPlanes, x_o_stack, x_o_facts])), (q_o_buffer, .inl (cy 0, 800, .inl o_buffer)), (q_o_draft, .inl (cy 0, 2243, .inl o21))] (va_runS (As := [.ref q_o_draft, .int r1, .int r7, .int r12]) (rest := []) ⟨hx, hb, hml, hown, hts⟩ (c_X7_addViewer 2243 q_o_draft H.size o_draft r1 r7 r12 _ h22) (va_cwS 4 hts gX7_readViewer_X7_addViewer rfl rfl rfl kd_X7_addViewer ⟨Nat.le_of_ble_eq_true rfl, Nat.le_of_ble_eq_true rfl⟩) ⟨kP_blind (EN_ok D cy) D _ _ _, kStart (EN_ok D cy) hE hP hD hS hA [2] rfl rfl _⟩ rfl rfl hl.1 rfl (lv_room (Nat.le_of_ble_eq_true rfl)) dX7_readViewer_57 ⟨Nat.zero_le _, Nat.zero_le _⟩) hP hD hS hA [2] [0, 1] rfl rfl rfl 3 rfl (by decide +kernel) (fun H locs hP hD hS => ?_)
      obtain rfl := so_o hF
      rw [hQQ]
      exact kr_v hx hb hr hlocks hP hD hS dX7_readViewer_60
  have main : ∀ (H : Heap) (locs : List Loc) (ls : Array Slot), va_P D vwCl [(q_o, .inr (7, [x_o_thrown, .ref q_o_buffer, x_o_bufferLength, .int o_textLength, .int o_position, .int o_error, .int o_errorAt, x_o_errorOffset, x_o_data, .ref q_o_draft, x_o_aside, x_o_history, x_o_undoDepth, .int o_numberStart, x_o_nesting, x_o_seen, x_o_toldPlanes, x_o_stack, x_o_facts])), (q_o_buffer, .inl (cy 0, 800, .inl o_buffer)), (q_o_draft, .inl (cy 0, 2243, .inl o_draft))] H → va_D A [(q_o, .inr (7, [x_o_thrown, .ref q_o_buffer, x_o_bufferLength, .int o_textLength, .int o_position, .int o_error, .int o_errorAt, x_o_errorOffset, x_o_data, .ref q_o_draft, x_o_aside, x_o_history, x_o_undoDepth, .int o_numberStart, x_o_nesting, x_o_seen, x_o_toldPlanes, x_o_stack, x_o_facts])), (q_o_buffer, .inl (cy 0, 800, .inl o_buffer)), (q_o_draft, .inl (cy 0, 2243, .inl o_draft))] → va_S A s.heap H locs → lv_has ls 5 [(0, .ref q_o), (1, .int p1)] → W p l e ({ frames := 3, cells := 0, slots := 0, locals := 65 } : Room) s m args below meth c H locs 0 0 QQ (F0 m 0 ls []) := by
    intro H locs ls hP hD hS hl
    unfold X7_readViewer at hF
    refine lv_aload_n hx hb dX7_readViewer_0 rfl (lv_at hl 0 rfl) ?_
    refine va_get (D := D) (ci := 7) (v := .ref q_o_draft) (C := RX7) (T := TX7) (N := 19) hx hb hts f_inX7 hown hK hP 0 rfl rfl 9 (by decide) f_f20 (fun _ h9 => h9) rfl dX7_readViewer_1 ?_
    refine lv_bipush (v := 7) hx hb dX7_readViewer_4 (by decide) ?_
    obtain ⟨h23, hF⟩ := ld_o hF
    refine va_iald hx hb hK hP 2 0 rfl rfl h23 dX7_readViewer_6 ?_
    refine lv_topi (fun v24 ev24 => ?_)
    have hF := hF v24 ev24
    refine lv_bipush (v := 20) hx hb dX7_readViewer_7 (by decide) ?_
    refine lv_icmp_ne (tgt := 19) hx hb dX7_readViewer_9 (by decide) (fun c25 => ?_) (fun c25 => ?_)
    · have hF := if_n hF c25
      exact J19 o_error o_errorAt H locs ls hP hD hS (lv_sub hl [0] rfl) hF
    · have hF := if_p hF c25
      refine lv_aload_n hx hb dX7_readViewer_12 rfl (lv_at hl 0 rfl) ?_
      refine lv_bipush (v := -5) hx hb dX7_readViewer_13 (by decide) ?_
      refine lv_iload_n hx hb dX7_readViewer_15 rfl (lv_at hl 1 rfl) ?_
      obtain ⟨o26, o27, h28, hF⟩ := bn2_o hF
      refine kd_v [(q_o, .inr (7, [x_o_thrown, .ref q_o_buffer, x_o_bufferLength, .int o_textLength, .int o_position, .int o26, .int o27, x_o_errorOffset, x_o_data, .ref q_o_draft, x_o_aside, x_o_history, x_o_undoDepth, .int o_numberStart, x_o_nesting, x_o_seen, x_o_toldPlanes, x_o_stack, x_o_facts])), (q_o_buffer, .inl (cy 0, 800, .inl o_buffer)), (q_o_draft, .inl (cy 0, 2243, .inl o_draft))] (va_runV (As := [.int (-5 : Int32), .int p1]) (rest := []) ⟨hx, hb, hml, hown, hts⟩ (c_X7_report q_o H.size x_o_thrown (.ref q_o_buffer) x_o_bufferLength (.int o_textLength) (.int o_position) x_o_errorOffset x_o_data (.ref q_o_draft) x_o_aside x_o_history x_o_undoDepth (.int o_numberStart) x_o_nesting x_o_seen x_o_toldPlanes x_o_stack x_o_facts o_error o_errorAt (-5 : Int32) p1 _ h28) (cwV 2 hts gX7_readViewer_X7_report rfl rfl rfl kd_X7_report ⟨Nat.le_of_ble_eq_true rfl, Nat.le_of_ble_eq_true rfl⟩) ⟨kP_blind (EN_ok D cy) D _ _ _, va_recv hK hP (ci := 7) (q0 := 0) rfl rfl, kStart (EN_ok D cy) hE hP hD hS hA [0] rfl rfl _⟩ rfl rfl hl.1 rfl (lv_room (Nat.le_of_ble_eq_true rfl)) dX7_readViewer_16 ⟨Nat.zero_le _, Nat.zero_le _⟩) hP hD hS hA [0] [1, 2] rfl rfl rfl 3 rfl (by decide +kernel) (fun H locs hP hD hS => ?_)
      exact J19 o26 o27 H locs ls hP hD hS (lv_sub hl [0] rfl) hF
  exact main s.heap [] ls hP hD hS hl
