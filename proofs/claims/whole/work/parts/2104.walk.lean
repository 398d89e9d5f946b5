/-! contracts, written by program (gen.py): X7_operate X7_priceOf X7_of X7_set X7_canUse X7_lookerAt X7_inState X7_paidInAll X7_look X7_choose X7_tick X7_freeHoles -/
theorem kd_X7_operate : yX7_operate.cls ≠ "java/lang/invoke/MethodHandle" ∧ yX7_operate.cls ≠ "java/lang/invoke/VarHandle" ∧ (parseMethodDescriptor yX7_operate.desc).map (fun d => d.parameters.length) = some 3 := by decide +kernel
set_option maxHeartbeats 4000000 in
set_option maxRecDepth 100000 in
theorem c_X7_operate {l : Launch} {D : va_G} {cy : Nat → ClassId} (sz : Nat) (p0 : Int32) (p1 : Int64) (p3 : Int64) (res : Int64) (hF : X7_operate p0 p1 p3 = some res) : Met l yX7_operate wsX7_operate ({ frames := 1, cells := 0, slots := 0, locals := 21 } : Room) (kP (EN D cy) D [.int p0, .long p1, .long p3] [] sz) (kQl D res [] (va_A [] sz)) 0 0 (va_A [] sz) := by
  refine kMet (y := yX7_operate) (av := [.int p0, .long p1, .long p3]) (cc := cX7_operate) (maxL := 5) (ret := some .long) (own := RX7) (Qc := fun A9 => (kQl D res [] A9)) (by decide) rfl rfl (Nat.le_of_ble_eq_true rfl) ?_
  intro p e s m args below meth c A hx hb hr hts hown hml hlocks hname hE hP hD hA hsz ls hl
  have hK := hE.1
  have hl : lv_has ls 5 [(0, .int p0), (1, .long p1), (3, .long p3)] := hl
  have hS : va_S A s.heap s.heap [] := va_S.rf
  obtain ⟨QQ, hQQ⟩ : ∃ Q9, Q9 = MQ below (kQl D res [] A) args s 0 0 A := ⟨_, rfl⟩
  rw [← hQQ]
  have J47 : ∀ (k0 : Int64) (H : Heap) (locs : List Loc) (ls : Array Slot), va_P D vwCl [] H → va_D A [] → va_S A s.heap H locs → lv_has ls 5 [] → X7_operate_J47 p0 p1 p3 k0 = some res → W p l e ({ frames := 1, cells := 0, slots := 0, locals := 21 } : Room) s m args below meth c H locs 0 0 QQ (F0 m 47 ls [.long k0]) := by
    intro k0 H locs ls hP hD hS hl hF
    unfold X7_operate_J47 at hF
    obtain ⟨r1, h2, hF⟩ := bn1_o hF
    refine kd_l [] (va_runS (As := [.long k0]) (rest := []) ⟨hx, hb, hml, hown, hts⟩ (c_X7_limited H.size k0 _ h2) (va_cwS 1 hts gX7_operate_X7_limited rfl rfl rfl kd_X7_limited ⟨Nat.le_of_ble_eq_true rfl, Nat.le_of_ble_eq_true rfl⟩) ⟨kP_blind (EN_ok D cy) D _ _ _, kStart (EN_ok D cy) hE hP hD hS hA [] rfl rfl _⟩ rfl rfl hl.1 rfl (lv_room (Nat.le_of_ble_eq_true rfl)) dX7_operate_47 ⟨Nat.zero_le _, Nat.zero_le _⟩) hP hD hS hA [] [] rfl rfl rfl 0 rfl (by decide +kernel) (fun H locs hP hD hS => ?_)
    obtain rfl := so_o hF
    rw [hQQ]
    exact kr_l hx hb hr hlocks hP hD hS dX7_operate_50
  have main : ∀ (H : Heap) (locs : List Loc) (ls : Array Slot), va_P D vwCl [] H → va_D A [] → va_S A s.heap H locs → lv_has ls 5 [(0, .int p0), (1, .long p1), (3, .long p3)] → W p l e ({ frames := 1, cells := 0, slots := 0, locals := 21 } : Room) s m args below meth c H locs 0 0 QQ (F0 m 0 ls []) := by
    intro H locs ls hP hD hS hl
    unfold X7_operate at hF
    refine lv_iload_n hx hb dX7_operate_0 rfl (lv_at hl 0 rfl) ?_
    refine lv_iconst (v := 5) hx hb dX7_operate_1 (by decide) ?_
    refine lv_icmp_ne (tgt := 22) hx hb dX7_operate_2 (by decide) (fun c3 => ?_) (fun c3 => ?_)
    · have hF := if_n hF c3
      refine lv_iload_n hx hb dX7_operate_22 rfl (lv_at hl 0 rfl) ?_
      refine lv_iconst (v := 2) hx hb dX7_operate_23 (by decide) ?_
      refine lv_icmp_ne (tgt := 33) hx hb dX7_operate_24 (by decide) (fun c4 => ?_) (fun c4 => ?_)
      · have hF := if_n hF c4
        refine lv_iload_n hx hb dX7_operate_33 rfl (lv_at hl 0 rfl) ?_
        refine lv_iconst (v := 3) hx hb dX7_operate_34 (by decide) ?_
        refine lv_icmp_ne (tgt := 44) hx hb dX7_operate_35 (by decide) (fun c5 => ?_) (fun c5 => ?_)
        · have hF := if_n hF c5
          refine lv_lload_n hx hb dX7_operate_44 rfl (lv_at hl 1 rfl) ?_
          refine lv_lload_n hx hb dX7_operate_45 rfl (lv_at hl 2 rfl) ?_
          refine lv_lmul hx hb dX7_operate_46 ?_
          exact J47 (p1 * p3) H locs ls hP hD hS (lv_sub hl [] rfl) hF
        · have hF := if_p hF c5
          refine lv_lload_n hx hb dX7_operate_38 rfl (lv_at hl 1 rfl) ?_
          refine lv_lload_n hx hb dX7_operate_39 rfl (lv_at hl 2 rfl) ?_
          refine lv_lsub hx hb dX7_operate_40 ?_
          refine lv_goto (tgt := 47) hx hb dX7_operate_41 (by decide) ?_
          exact J47 (p1 - p3) H locs ls hP hD hS (lv_sub hl [] rfl) hF
      · have hF := if_p hF c4
        refine lv_lload_n hx hb dX7_operate_27 rfl (lv_at hl 1 rfl) ?_
        refine lv_lload_n hx hb dX7_operate_28 rfl (lv_at hl 2 rfl) ?_
        refine lv_ladd hx hb dX7_operate_29 ?_
        refine lv_goto (tgt := 47) hx hb dX7_operate_30 (by decide) ?_
        exact J47 (p1 + p3) H locs ls hP hD hS (lv_sub hl [] rfl) hF
    · have hF := if_p hF c3
      refine lv_lload_n hx hb dX7_operate_5 rfl (lv_at hl 2 rfl) ?_
      refine lv_lconst (v := 0) hx hb dX7_operate_6 (by decide) ?_
      refine W.lcmp hx hb dX7_operate_7 ?_
      refine lv_if_ne (tgt := 15) hx hb dX7_operate_8 (by decide) (fun c6 => ?_) (fun c6 => ?_)
      · have hF := if_n hF c6
        refine lv_lload_n hx hb dX7_operate_15 rfl (lv_at hl 1 rfl) ?_
        refine lv_lload_n hx hb dX7_operate_16 rfl (lv_at hl 2 rfl) ?_
        obtain ⟨h7, hF⟩ := ck_o hF
        refine lv_ldiv hx hb dX7_operate_17 h7 ?_
        obtain ⟨r8, h9, hF⟩ := bn1_o hF
        refine kd_l [] (va_runS (As := [.long (p1 / p3)]) (rest := []) ⟨hx, hb, hml, hown, hts⟩ (c_X7_limited H.size (p1 / p3) _ h9) (va_cwS 1 hts gX7_operate_X7_limited rfl rfl rfl kd_X7_limited ⟨Nat.le_of_ble_eq_true rfl, Nat.le_of_ble_eq_true rfl⟩) ⟨kP_blind (EN_ok D cy) D _ _ _, kStart (EN_ok D cy) hE hP hD hS hA [] rfl rfl _⟩ rfl rfl hl.1 rfl (lv_room (Nat.le_of_ble_eq_true rfl)) dX7_operate_18 ⟨Nat.zero_le _, Nat.zero_le _⟩) hP hD hS hA [] [] rfl rfl rfl 0 rfl (by decide +kernel) (fun H locs hP hD hS => ?_)
        obtain rfl := so_o hF
        rw [hQQ]
        exact kr_l hx hb hr hlocks hP hD hS dX7_operate_21
      · have hF := if_p hF c6
        refine lv_lconst (v := 0) hx hb dX7_operate_11 (by decide) ?_
        refine lv_goto (tgt := 21) hx hb dX7_operate_12 (by decide) ?_
        obtain rfl := so_o hF
        rw [hQQ]
        exact kr_l hx hb hr hlocks hP hD hS dX7_operate_21
  exact main s.heap [] ls hP hD hS hl
theorem kd_X7_priceOf : yX7_priceOf.cls = RX7 ∧ yX7_priceOf.cls ≠ "java/lang/invoke/MethodHandle" ∧ yX7_priceOf.cls ≠ "java/lang/invoke/VarHandle" ∧ (parseMethodDescriptor yX7_priceOf.desc).map (fun d => d.parameters.length) = some 2 := by decide +kernel
set_option maxHeartbeats 4000000 in
set_option maxRecDepth 100000 in
theorem c_X7_priceOf {l : Launch} {D : va_G} {cy : Nat → ClassId} (q_o q_o_data q_o_stack q_o_facts : Nat) (sz : Nat) (x_o_thrown x_o_buffer x_o_bufferLength x_o_textLength x_o_position x_o_error x_o_errorAt x_o_errorOffset x_o_draft x_o_aside x_o_history x_o_undoDepth x_o_numberStart x_o_nesting x_o_seen x_o_toldPlanes : Value) (o_data : Nat → Int32) (o_stack : Nat → Int64) (o_facts : Nat → Int32) (p1 : Int32) (p2 : Int32) (res : Int32 × (Nat → Int64) × (Nat → Int32)) (hF : X7_priceOf o_data o_stack o_facts p1 p2 = some res) : Met l yX7_priceOf wsX7_priceOf ({ frames := 5, cells := 0, slots := 0, locals := 114 } : Room) (kP (EN D cy) D [.ref q_o, .int p1, .int p2] [(q_o, .inr (7, [x_o_thrown, x_o_buffer, x_o_bufferLength, x_o_textLength, x_o_position, x_o_error, x_o_errorAt, x_o_errorOffset, .ref q_o_data, x_o_draft, x_o_aside, x_o_history, x_o_undoDepth, x_o_numberStart, x_o_nesting, x_o_seen, x_o_toldPlanes, .ref q_o_stack, .ref q_o_facts])), (q_o_data, .inl (cy 0, 2243, .inl o_data)), (q_o_stack, .inl (cy 2, 1600, .inr (.inl o_stack))), (q_o_facts, .inl (cy 0, 4, .inl o_facts))] sz) (kQi D res.1 [(q_o, .inr (7, [x_o_thrown, x_o_buffer, x_o_bufferLength, x_o_textLength, x_o_position, x_o_error, x_o_errorAt, x_o_errorOffset, .ref q_o_data, x_o_draft, x_o_aside, x_o_history, x_o_undoDepth, x_o_numberStart, x_o_nesting, x_o_seen, x_o_toldPlanes, .ref q_o_stack, .ref q_o_facts])), (q_o_data, .inl (cy 0, 2243, .inl o_data)), (q_o_stack, .inl (cy 2, 1600, .inr (.inl res.2.1))), (q_o_facts, .inl (cy 0, 4, .inl res.2.2))] (va_A [(q_o, .inr (7, [x_o_thrown, x_o_buffer, x_o_bufferLength, x_o_textLength, x_o_position, x_o_error, x_o_errorAt, x_o_errorOffset, .ref q_o_data, x_o_draft, x_o_aside, x_o_history, x_o_undoDepth, x_o_numberStart, x_o_nesting, x_o_seen, x_o_toldPlanes, .ref q_o_stack, .ref q_o_facts])), (q_o_data, .inl (cy 0, 2243, .inl o_data)), (q_o_stack, .inl (cy 2, 1600, .inr (.inl o_stack))), (q_o_facts, .inl (cy 0, 4, .inl o_facts))] sz)) 0 0 (va_A [(q_o, .inr (7, [x_o_thrown, x_o_buffer, x_o_bufferLength, x_o_textLength, x_o_position, x_o_error, x_o_errorAt, x_o_errorOffset, .ref q_o_data, x_o_draft, x_o_aside, x_o_history, x_o_undoDepth, x_o_numberStart, x_o_nesting, x_o_seen, x_o_toldPlanes, .ref q_o_stack, .ref q_o_facts])), (q_o_data, .inl (cy 0, 2243, .inl o_data)), (q_o_stack, .inl (cy 2, 1600, .inr (.inl o_stack))), (q_o_facts, .inl (cy 0, 4, .inl o_facts))] sz) := by
  refine kMet (y := yX7_priceOf) (av := [.ref q_o, .int p1, .int p2]) (cc := cX7_priceOf) (maxL := 6) (ret := some .int) (own := RX7) (Qc := fun A9 => (kQi D res.1 [(q_o, .inr (7, [x_o_thrown, x_o_buffer, x_o_bufferLength, x_o_textLength, x_o_position, x_o_error, x_o_errorAt, x_o_errorOffset, .ref q_o_data, x_o_draft, x_o_aside, x_o_history, x_o_undoDepth, x_o_numberStart, x_o_nesting, x_o_seen, x_o_toldPlanes, .ref q_o_stack, .ref q_o_facts])), (q_o_data, .inl (cy 0, 2243, .inl o_data)), (q_o_stack, .inl (cy 2, 1600, .inr (.inl res.2.1))), (q_o_facts, .inl (cy 0, 4, .inl res.2.2))] A9)) (by decide) rfl rfl (Nat.le_of_ble_eq_true rfl) ?_
  intro p e s m args below meth c A hx hb hr hts hown hml hlocks hname hE hP hD hA hsz ls hl
  have hK := hE.1
  have hl : lv_has ls 6 [(0, .ref q_o), (1, .int p1), (2, .int p2)] := hl
  have hS : va_S A s.heap s.heap [] := va_S.rf
  have f_f17 := hts (.fieldLink RX7 17 "PeepBoxModel" "data" "[I") (by decide +kernel)
  have f_inX7 : ∀ w ∈ wsX70, w ∈ wsX7_priceOf := by decide +kernel
  have f_f31 := hts (.fieldLink RX7 31 "PeepBoxModel" "stack" "[J") (by decide +kernel)
  have f_f35 := hts (.fieldLink RX7 35 "PeepBoxModel" "facts" "[I") (by decide +kernel)
  obtain ⟨QQ, hQQ⟩ : ∃ Q9, Q9 = MQ below (kQi D res.1 [(q_o, .inr (7, [x_o_thrown, x_o_buffer, x_o_bufferLength, x_o_textLength, x_o_position, x_o_error, x_o_errorAt, x_o_errorOffset, .ref q_o_data, x_o_draft, x_o_aside, x_o_history, x_o_undoDepth, x_o_numberStart, x_o_nesting, x_o_seen, x_o_toldPlanes, .ref q_o_stack, .ref q_o_facts])), (q_o_data, .inl (cy 0, 2243, .inl o_data)), (q_o_stack, .inl (cy 2, 1600, .inr (.inl res.2.1))), (q_o_facts, .inl (cy 0, 4, .inl res.2.2))] A) args s 0 0 A := ⟨_, rfl⟩
  rw [← hQQ]
  have J72 : ∀ (n72 : Nat) (l3 : Int32) (l4 : Int32) (o_stack : Nat → Int64) (o_facts : Nat → Int32) (H : Heap) (locs : List Loc) (ls : Array Slot), va_P D vwCl [(q_o, .inr (7, [x_o_thrown, x_o_buffer, x_o_bufferLength, x_o_textLength, x_o_position, x_o_error, x_o_errorAt, x_o_errorOffset, .ref q_o_data, x_o_draft, x_o_aside, x_o_history, x_o_undoDepth, x_o_numberStart, x_o_nesting, x_o_seen, x_o_toldPlanes, .ref q_o_stack, .ref q_o_facts])), (q_o_data, .inl (cy 0, 2243, .inl o_data)), (q_o_stack, .inl (cy 2, 1600, .inr (.inl o_stack))), (q_o_facts, .inl (cy 0, 4, .inl o_facts))] H → va_D A [(q_o, .inr (7, [x_o_thrown, x_o_buffer, x_o_bufferLength, x_o_textLength, x_o_position, x_o_error, x_o_errorAt, x_o_errorOffset, .ref q_o_data, x_o_draft, x_o_aside, x_o_history, x_o_undoDepth, x_o_numberStart, x_o_nesting, x_o_seen, x_o_toldPlanes, .ref q_o_stack, .ref q_o_facts])), (q_o_data, .inl (cy 0, 2243, .inl o_data)), (q_o_stack, .inl (cy 2, 1600, .inr (.inl o_stack))), (q_o_facts, .inl (cy 0, 4, .inl o_facts))] → va_S A s.heap H locs → lv_has ls 6 [(0, .ref q_o), (3, .int l3), (4, .int l4)] → X7_priceOf_L72 o_data p1 p2 n72 l3 l4 o_stack o_facts = some res → W p l e ({ frames := 5, cells := 0, slots := 0, locals := 114 } : Room) s m args below meth c H locs 0 0 QQ (F0 m 72 ls []) := by
    intro n72
    induction n72 with
    | zero =>
      intro l3 l4 o_stack o_facts H locs ls hP hD hS hl hF
      rw [X7_priceOf_L72] at hF
      cases hF
    | succ n72 ih72 =>
      have J185 : ∀ (l3 : Int32) (l4 : Int32) (o_stack : Nat → Int64) (o_facts : Nat → Int32) (H : Heap) (locs : List Loc) (ls : Array Slot), va_P D vwCl [(q_o, .inr (7, [x_o_thrown, x_o_buffer, x_o_bufferLength, x_o_textLength, x_o_position, x_o_error, x_o_errorAt, x_o_errorOffset, .ref q_o_data, x_o_draft, x_o_aside, x_o_history, x_o_undoDepth, x_o_numberStart, x_o_nesting, x_o_seen, x_o_toldPlanes, .ref q_o_stack, .ref q_o_facts])), (q_o_data, .inl (cy 0, 2243, .inl o_data)), (q_o_stack, .inl (cy 2, 1600, .inr (.inl o_stack))), (q_o_facts, .inl (cy 0, 4, .inl o_facts))] H → va_D A [(q_o, .inr (7, [x_o_thrown, x_o_buffer, x_o_bufferLength, x_o_textLength, x_o_position, x_o_error, x_o_errorAt, x_o_errorOffset, .ref q_o_data, x_o_draft, x_o_aside, x_o_history, x_o_undoDepth, x_o_numberStart, x_o_nesting, x_o_seen, x_o_toldPlanes, .ref q_o_stack, .ref q_o_facts])), (q_o_data, .inl (cy 0, 2243, .inl o_data)), (q_o_stack, .inl (cy 2, 1600, .inr (.inl o_stack))), (q_o_facts, .inl (cy 0, 4, .inl o_facts))] → va_S A s.heap H locs → lv_has ls 6 [(0, .ref q_o), (3, .int l3), (4, .int l4)] → X7_priceOf_J185 o_data p1 p2 (fun z0 z1 z2 z3 => X7_priceOf_L72 o_data p1 p2 n72 z0 z1 z2 z3) l3 l4 o_stack o_facts = some res → W p l e ({ frames := 5, cells := 0, slots := 0, locals := 114 } : Room) s m args below meth c H locs 0 0 QQ (F0 m 185 ls []) := by
        intro l3 l4 o_stack o_facts H locs ls hP hD hS hl hF
        unfold X7_priceOf_J185 at hF
        obtain ⟨v1, ev1⟩ : ∃ y : Int32, y = l4 + (1 : Int32) := ⟨_, rfl⟩
        have hF := nm_o hF v1 ev1
        refine lv_iinc (v := v1) (lv' := [(4, .int v1), (0, .ref q_o), (3, .int l3)]) hx hb dX7_priceOf_185 hl (k := 2) rfl (by rw [ev1]; rfl) (by decide) rfl (fun ls hl => ?_)
        refine lv_goto (tgt := 72) hx hb dX7_priceOf_188 (by decide) ?_
        exact ih72 l3 v1 o_stack o_facts H locs ls hP hD hS (lv_sub hl [1, 2, 0] rfl) hF
      have J148 : ∀ (l3 : Int32) (l4 : Int32) (k1 : Int32) (k2 : Int64) (o_stack : Nat → Int64) (o_facts : Nat → Int32) (H : Heap) (locs : List Loc) (ls : Array Slot), va_P D vwCl [(q_o, .inr (7, [x_o_thrown, x_o_buffer, x_o_bufferLength, x_o_textLength, x_o_position, x_o_error, x_o_errorAt, x_o_errorOffset, .ref q_o_data, x_o_draft, x_o_aside, x_o_history, x_o_undoDepth, x_o_numberStart, x_o_nesting, x_o_seen, x_o_toldPlanes, .ref q_o_stack, .ref q_o_facts])), (q_o_data, .inl (cy 0, 2243, .inl o_data)), (q_o_stack, .inl (cy 2, 1600, .inr (.inl o_stack))), (q_o_facts, .inl (cy 0, 4, .inl o_facts))] H → va_D A [(q_o, .inr (7, [x_o_thrown, x_o_buffer, x_o_bufferLength, x_o_textLength, x_o_position, x_o_error, x_o_errorAt, x_o_errorOffset, .ref q_o_data, x_o_draft, x_o_aside, x_o_history, x_o_undoDepth, x_o_numberStart, x_o_nesting, x_o_seen, x_o_toldPlanes, .ref q_o_stack, .ref q_o_facts])), (q_o_data, .inl (cy 0, 2243, .inl o_data)), (q_o_stack, .inl (cy 2, 1600, .inr (.inl o_stack))), (q_o_facts, .inl (cy 0, 4, .inl o_facts))] → va_S A s.heap H locs → lv_has ls 6 [(0, .ref q_o), (3, .int l3), (4, .int l4)] → X7_priceOf_J148 o_data p1 p2 (fun z0 z1 z2 z3 => X7_priceOf_L72 o_data p1 p2 n72 z0 z1 z2 z3) l3 l4 k1 k2 o_stack o_facts = some res → W p l e ({ frames := 5, cells := 0, slots := 0, locals := 114 } : Room) s m args below meth c H locs 0 0 QQ (F0 m 148 ls [.long k2, .int k1, .ref q_o_stack]) := by
        intro l3 l4 k1 k2 o_stack o_facts H locs ls hP hD hS hl hF
        unfold X7_priceOf_J148 at hF
        obtain ⟨h2, hF⟩ := st_o hF
        refine va_last hx hb hK hP hD hS 2 2 rfl rfl h2 dX7_priceOf_148 (fun H locs hP hD hS => ?_)
        obtain ⟨b3, eb3⟩ : ∃ y : Nat → Int64, y = (vp_updL o_stack k1.toNatClampNeg k2) := ⟨_, rfl⟩
        have hF := hF b3 eb3
        have hP : va_P D vwCl [(q_o, .inr (7, [x_o_thrown, x_o_buffer, x_o_bufferLength, x_o_textLength, x_o_position, x_o_error, x_o_errorAt, x_o_errorOffset, .ref q_o_data, x_o_draft, x_o_aside, x_o_history, x_o_undoDepth, x_o_numberStart, x_o_nesting, x_o_seen, x_o_toldPlanes, .ref q_o_stack, .ref q_o_facts])), (q_o_data, .inl (cy 0, 2243, .inl o_data)), (q_o_stack, .inl (cy 2, 1600, .inr (.inl b3))), (q_o_facts, .inl (cy 0, 4, .inl o_facts))] H := by rw [eb3]; exact hP
        have hD : va_D A [(q_o, .inr (7, [x_o_thrown, x_o_buffer, x_o_bufferLength, x_o_textLength, x_o_position, x_o_error, x_o_errorAt, x_o_errorOffset, .ref q_o_data, x_o_draft, x_o_aside, x_o_history, x_o_undoDepth, x_o_numberStart, x_o_nesting, x_o_seen, x_o_toldPlanes, .ref q_o_stack, .ref q_o_facts])), (q_o_data, .inl (cy 0, 2243, .inl o_data)), (q_o_stack, .inl (cy 2, 1600, .inr (.inl b3))), (q_o_facts, .inl (cy 0, 4, .inl o_facts))] := by rw [eb3]; exact hD
        obtain ⟨v4, ev4⟩ : ∃ y : Int32, y = l3 + (1 : Int32) := ⟨_, rfl⟩
        have hF := nm_o hF v4 ev4
        refine lv_iinc (v := v4) (lv' := [(3, .int v4), (0, .ref q_o), (4, .int l4)]) hx hb dX7_priceOf_149 hl (k := 1) rfl (by rw [ev4]; rfl) (by decide) rfl (fun ls hl => ?_)
        refine lv_goto (tgt := 185) hx hb dX7_priceOf_152 (by decide) ?_
        exact J185 v4 l4 b3 o_facts H locs ls hP hD hS (lv_sub hl [1, 0, 2] rfl) hF
      intro l3 l4 o_stack o_facts H locs ls hP hD hS hl hF
      rw [X7_priceOf_L72] at hF
      refine lv_iload hx hb dX7_priceOf_72 (lv_at hl 2 rfl) ?_
      refine lv_aload_n hx hb dX7_priceOf_74 rfl (lv_at hl 0 rfl) ?_
      refine va_get (D := D) (ci := 7) (v := .ref q_o_data) (C := RX7) (T := TX7) (N := 19) hx hb hts f_inX7 hown hK hP 0 rfl rfl 8 (by decide) f_f17 (fun _ h9 => h9) rfl dX7_priceOf_75 ?_
      refine lv_bipush (v := 9) hx hb dX7_priceOf_78 (by decide) ?_
      obtain ⟨h5, hF⟩ := ld_o hF
      refine va_iald hx hb hK hP 1 0 rfl rfl h5 dX7_priceOf_80 ?_
      refine lv_topi (fun v6 ev6 => ?_)
      have hF := hF v6 ev6
      refine lv_icmp_ge (tgt := 191) hx hb dX7_priceOf_81 (by decide) (fun c7 => ?_) (fun c7 => ?_)
      · have hF := if_p hF c7
        refine lv_iconst (v := 0) hx hb dX7_priceOf_191 (by decide) ?_
        refine lv_sipush (v := 999) hx hb dX7_priceOf_192 (by decide) ?_
        refine lv_aload_n hx hb dX7_priceOf_195 rfl (lv_at hl 0 rfl) ?_
        refine va_get (D := D) (ci := 7) (v := .ref q_o_stack) (C := RX7) (T := TX7) (N := 19) hx hb hts f_inX7 hown hK hP 0 rfl rfl 17 (by decide) f_f31 (fun _ h9 => h9) rfl dX7_priceOf_196 ?_
        refine lv_iconst (v := 0) hx hb dX7_priceOf_199 (by decide) ?_
        obtain ⟨h8, hF⟩ := ld_o hF
        refine va_lald hx hb hK hP 2 2 rfl rfl h8 dX7_priceOf_200 ?_
        refine lv_topl (fun v9 ev9 => ?_)
        have hF := hF v9 ev9
        refine lv_l2i hx hb dX7_priceOf_201 rfl ?_
        obtain ⟨r10, h11, hF⟩ := bn1_o hF
        refine kd_i [(q_o, .inr (7, [x_o_thrown, x_o_buffer, x_o_bufferLength, x_o_textLength, x_o_position, x_o_error, x_o_errorAt, x_o_errorOffset, .ref q_o_data, x_o_draft, x_o_aside, x_o_history, x_o_undoDepth, x_o_numberStart, x_o_nesting, x_o_seen, x_o_toldPlanes, .ref q_o_stack, .ref q_o_facts])), (q_o_data, .inl (cy 0, 2243, .inl o_data)), (q_o_stack, .inl (cy 2, 1600, .inr (.inl o_stack))), (q_o_facts, .inl (cy 0, 4, .inl o_facts))] (va_runS (As := [.int (999 : Int32), .int v9.toInt32]) (rest := [.int (0 : Int32)]) ⟨hx, hb, hml, hown, hts⟩ (c_X7_min H.size (999 : Int32) v9.toInt32 _ h11) (va_cwS 2 hts gX7_priceOf_X7_min rfl rfl rfl kd_X7_min ⟨Nat.le_of_ble_eq_true rfl, Nat.le_of_ble_eq_true rfl⟩) ⟨kP_blind (EN_ok D cy) D _ _ _, kStart (EN_ok D cy) hE hP hD hS hA [] rfl rfl _⟩ rfl rfl hl.1 rfl (lv_room (Nat.le_of_ble_eq_true rfl)) dX7_priceOf_202 ⟨Nat.zero_le _, Nat.zero_le _⟩) hP hD hS hA [] [0, 1, 2, 3] rfl rfl rfl 4 rfl (by decide +kernel) (fun H locs hP hD hS => ?_)
        obtain ⟨r12, h13, hF⟩ := bn1_o hF
        refine kd_i [(q_o, .inr (7, [x_o_thrown, x_o_buffer, x_o_bufferLength, x_o_textLength, x_o_position, x_o_error, x_o_errorAt, x_o_errorOffset, .ref q_o_data, x_o_draft, x_o_aside, x_o_history, x_o_undoDepth, x_o_numberStart, x_o_nesting, x_o_seen, x_o_toldPlanes, .ref q_o_stack, .ref q_o_facts])), (q_o_data, .inl (cy 0, 2243, .inl o_data)), (q_o_stack, .inl (cy 2, 1600, .inr (.inl o_stack))), (q_o_facts, .inl (cy 0, 4, .inl o_facts))] (va_runS (As := [.int (0 : Int32), .int r10]) (rest := []) ⟨hx, hb, hml, hown, hts⟩ (c_X7_max H.size (0 : Int32) r10 _ h13) (va_cwS 2 hts gX7_priceOf_X7_max rfl rfl rfl kd_X7_max ⟨Nat.le_of_ble_eq_true rfl, Nat.le_of_ble_eq_true rfl⟩) ⟨kP_blind (EN_ok D cy) D _ _ _, kStart (EN_ok D cy) hE hP hD hS hA [] rfl rfl _⟩ rfl rfl hl.1 rfl (lv_room (Nat.le_of_ble_eq_true rfl)) dX7_priceOf_205 ⟨Nat.zero_le _, Nat.zero_le _⟩) hP hD hS hA [] [0, 1, 2, 3] rfl rfl rfl 4 rfl (by decide +kernel) (fun H locs hP hD hS => ?_)
        obtain rfl := so_o hF
        rw [hQQ]
        exact kr_i hx hb hr hlocks hP hD hS dX7_priceOf_208
      · have hF := if_n hF c7
        refine lv_aload_n hx hb dX7_priceOf_84 rfl (lv_at hl 0 rfl) ?_
        refine va_get (D := D) (ci := 7) (v := .ref q_o_data) (C := RX7) (T := TX7) (N := 19) hx hb hts f_inX7 hown hK hP 0 rfl rfl 8 (by decide) f_f17 (fun _ h9 => h9) rfl dX7_priceOf_85 ?_
        refine lv_sipush (v := 643) hx hb dX7_priceOf_88 (by decide) ?_
        refine lv_iload hx hb dX7_priceOf_91 (lv_at hl 2 rfl) ?_
        refine lv_iadd hx hb dX7_priceOf_93 ?_
        obtain ⟨h14, hF⟩ := ld_o hF
        refine va_iald hx hb hK hP 1 0 rfl rfl h14 dX7_priceOf_94 ?_
        refine lv_topi (fun v15 ev15 => ?_)
        have hF := hF v15 ev15
        refine lv_istore (lv' := [(5, .int v15), (0, .ref q_o), (3, .int l3), (4, .int l4)]) hx hb dX7_priceOf_95 hl (by decide) rfl (fun ls hl => ?_)
        refine lv_iload hx hb dX7_priceOf_97 (lv_at hl 0 rfl) ?_
        refine lv_iconst (v := 1) hx hb dX7_priceOf_99 (by decide) ?_
        refine lv_icmp_gt (tgt := 155) hx hb dX7_priceOf_100 (by decide) (fun c16 => ?_) (fun c16 => ?_)
        · have hF := if_p hF c16
          obtain ⟨v17, ev17⟩ : ∃ y : Int32, y = l3 + (-1 : Int32) := ⟨_, rfl⟩
          have hF := nm_o hF v17 ev17
          refine lv_iinc (v := v17) (lv' := [(3, .int v17), (5, .int v15), (0, .ref q_o), (4, .int l4)]) hx hb dX7_priceOf_155 hl (k := 2) rfl (by rw [ev17]; rfl) (by decide) rfl (fun ls hl => ?_)
          refine lv_aload_n hx hb dX7_priceOf_158 rfl (lv_at hl 2 rfl) ?_
          refine va_get (D := D) (ci := 7) (v := .ref q_o_stack) (C := RX7) (T := TX7) (N := 19) hx hb hts f_inX7 hown hK hP 0 rfl rfl 17 (by decide) f_f31 (fun _ h9 => h9) rfl dX7_priceOf_159 ?_
          refine lv_iload_n hx hb dX7_priceOf_162 rfl (lv_at hl 0 rfl) ?_
          refine lv_iconst (v := 1) hx hb dX7_priceOf_163 (by decide) ?_
          refine lv_isub hx hb dX7_priceOf_164 ?_
          refine lv_iload hx hb dX7_priceOf_165 (lv_at hl 1 rfl) ?_
          refine lv_aload_n hx hb dX7_priceOf_167 rfl (lv_at hl 2 rfl) ?_
          refine va_get (D := D) (ci := 7) (v := .ref q_o_stack) (C := RX7) (T := TX7) (N := 19) hx hb hts f_inX7 hown hK hP 0 rfl rfl 17 (by decide) f_f31 (fun _ h9 => h9) rfl dX7_priceOf_168 ?_
          refine lv_iload_n hx hb dX7_priceOf_171 rfl (lv_at hl 0 rfl) ?_
          refine lv_iconst (v := 1) hx hb dX7_priceOf_172 (by decide) ?_
          refine lv_isub hx hb dX7_priceOf_173 ?_
          obtain ⟨h18, hF⟩ := ld_o hF
          refine va_lald hx hb hK hP 2 2 rfl rfl h18 dX7_priceOf_174 ?_
          refine lv_topl (fun v19 ev19 => ?_)
          have hF := hF v19 ev19
          refine lv_aload_n hx hb dX7_priceOf_175 rfl (lv_at hl 2 rfl) ?_
          refine va_get (D := D) (ci := 7) (v := .ref q_o_stack) (C := RX7) (T := TX7) (N := 19) hx hb hts f_inX7 hown hK hP 0 rfl rfl 17 (by decide) f_f31 (fun _ h9 => h9) rfl dX7_priceOf_176 ?_
          refine lv_iload_n hx hb dX7_priceOf_179 rfl (lv_at hl 0 rfl) ?_
          obtain ⟨h20, hF⟩ := ld_o hF
          refine va_lald hx hb hK hP 2 2 rfl rfl h20 dX7_priceOf_180 ?_
          refine lv_topl (fun v21 ev21 => ?_)
          have hF := hF v21 ev21
          obtain ⟨r22, h23, hF⟩ := bn1_o hF
          refine kd_l [(q_o, .inr (7, [x_o_thrown, x_o_buffer, x_o_bufferLength, x_o_textLength, x_o_position, x_o_error, x_o_errorAt, x_o_errorOffset, .ref q_o_data, x_o_draft, x_o_aside, x_o_history, x_o_undoDepth, x_o_numberStart, x_o_nesting, x_o_seen, x_o_toldPlanes, .ref q_o_stack, .ref q_o_facts])), (q_o_data, .inl (cy 0, 2243, .inl o_data)), (q_o_stack, .inl (cy 2, 1600, .inr (.inl o_stack))), (q_o_facts, .inl (cy 0, 4, .inl o_facts))] (va_runS (As := [.int v15, .long v19, .long v21]) (rest := [.int (v17 - (1 : Int32)), .ref q_o_stack]) ⟨hx, hb, hml, hown, hts⟩ (c_X7_operate H.size v15 v19 v21 _ h23) (va_cwS 3 hts gX7_priceOf_X7_operate rfl rfl rfl kd_X7_operate ⟨Nat.le_of_ble_eq_true rfl, Nat.le_of_ble_eq_true rfl⟩) ⟨kP_blind (EN_ok D cy) D _ _ _, kStart (EN_ok D cy) hE hP hD hS hA [] rfl rfl _⟩ rfl rfl hl.1 rfl (lv_room (Nat.le_of_ble_eq_true rfl)) dX7_priceOf_181 ⟨Nat.zero_le _, Nat.zero_le _⟩) hP hD hS hA [] [0, 1, 2, 3] rfl rfl rfl 4 rfl (by decide +kernel) (fun H locs hP hD hS => ?_)
          obtain ⟨h24, hF⟩ := st_o hF
          refine va_last hx hb hK hP hD hS 2 2 rfl rfl h24 dX7_priceOf_184 (fun H locs hP hD hS => ?_)
          obtain ⟨b25, eb25⟩ : ∃ y : Nat → Int64, y = (vp_updL o_stack (v17 - (1 : Int32)).toNatClampNeg r22) := ⟨_, rfl⟩
          have hF := hF b25 eb25
          have hP : va_P D vwCl [(q_o, .inr (7, [x_o_thrown, x_o_buffer, x_o_bufferLength, x_o_textLength, x_o_position, x_o_error, x_o_errorAt, x_o_errorOffset, .ref q_o_data, x_o_draft, x_o_aside, x_o_history, x_o_undoDepth, x_o_numberStart, x_o_nesting, x_o_seen, x_o_toldPlanes, .ref q_o_stack, .ref q_o_facts])), (q_o_data, .inl (cy 0, 2243, .inl o_data)), (q_o_stack, .inl (cy 2, 1600, .inr (.inl b25))), (q_o_facts, .inl (cy 0, 4, .inl o_facts))] H := by rw [eb25]; exact hP
          have hD : va_D A [(q_o, .inr (7, [x_o_thrown, x_o_buffer, x_o_bufferLength, x_o_textLength, x_o_position, x_o_error, x_o_errorAt, x_o_errorOffset, .ref q_o_data, x_o_draft, x_o_aside, x_o_history, x_o_undoDepth, x_o_numberStart, x_o_nesting, x_o_seen, x_o_toldPlanes, .ref q_o_stack, .ref q_o_facts])), (q_o_data, .inl (cy 0, 2243, .inl o_data)), (q_o_stack, .inl (cy 2, 1600, .inr (.inl b25))), (q_o_facts, .inl (cy 0, 4, .inl o_facts))] := by rw [eb25]; exact hD
          exact J185 v17 l4 b25 o_facts H locs ls hP hD hS (lv_sub hl [2, 0, 3] rfl) hF
        · have hF := if_n hF c16
          obtain ⟨v26, ev26⟩ : ∃ y : Int32, y = l4 + (1 : Int32) := ⟨_, rfl⟩
          have hF := nm_o hF v26 ev26
          refine lv_iinc (v := v26) (lv' := [(4, .int v26), (5, .int v15), (0, .ref q_o), (3, .int l3)]) hx hb dX7_priceOf_103 hl (k := 3) rfl (by rw [ev26]; rfl) (by decide) rfl (fun ls hl => ?_)
          refine lv_aload_n hx hb dX7_priceOf_106 rfl (lv_at hl 2 rfl) ?_
          refine va_get (D := D) (ci := 7) (v := .ref q_o_stack) (C := RX7) (T := TX7) (N := 19) hx hb hts f_inX7 hown hK hP 0 rfl rfl 17 (by decide) f_f31 (fun _ h9 => h9) rfl dX7_priceOf_107 ?_
          refine lv_iload_n hx hb dX7_priceOf_110 rfl (lv_at hl 3 rfl) ?_
          refine lv_iload hx hb dX7_priceOf_111 (lv_at hl 1 rfl) ?_
          refine lv_if_ne (tgt := 131) hx hb dX7_priceOf_113 (by decide) (fun c27 => ?_) (fun c27 => ?_)
          · have hF := if_n hF c27
            refine lv_aload_n hx hb dX7_priceOf_131 rfl (lv_at hl 2 rfl) ?_
            refine va_get (D := D) (ci := 7) (v := .ref q_o_facts) (C := RX7) (T := TX7) (N := 19) hx hb hts f_inX7 hown hK hP 0 rfl rfl 18 (by decide) f_f35 (fun _ h9 => h9) rfl dX7_priceOf_132 ?_
            refine lv_aload_n hx hb dX7_priceOf_135 rfl (lv_at hl 2 rfl) ?_
            refine va_get (D := D) (ci := 7) (v := .ref q_o_data) (C := RX7) (T := TX7) (N := 19) hx hb hts f_inX7 hown hK hP 0 rfl rfl 8 (by decide) f_f17 (fun _ h9 => h9) rfl dX7_priceOf_136 ?_
            refine lv_sipush (v := 643) hx hb dX7_priceOf_139 (by decide) ?_
            refine lv_iload hx hb dX7_priceOf_142 (lv_at hl 0 rfl) ?_
            refine lv_iadd hx hb dX7_priceOf_144 ?_
            obtain ⟨h28, hF⟩ := ld_o hF
            refine va_iald hx hb hK hP 1 0 rfl rfl h28 dX7_priceOf_145 ?_
            refine lv_topi (fun v29 ev29 => ?_)
            have hF := hF v29 ev29
            obtain ⟨h30, hF⟩ := ld_o hF
            refine va_iald hx hb hK hP 3 0 rfl rfl h30 dX7_priceOf_146 ?_
            refine lv_topi (fun v31 ev31 => ?_)
            have hF := hF v31 ev31
            refine lv_i2l hx hb dX7_priceOf_147 rfl ?_
            exact J148 l3 v26 l3 v31.toInt64 o_stack o_facts H locs ls hP hD hS (lv_sub hl [2, 3, 0] rfl) hF
          · have hF := if_p hF c27
            refine lv_aload_n hx hb dX7_priceOf_116 rfl (lv_at hl 2 rfl) ?_
            refine va_get (D := D) (ci := 7) (v := .ref q_o_data) (C := RX7) (T := TX7) (N := 19) hx hb hts f_inX7 hown hK hP 0 rfl rfl 8 (by decide) f_f17 (fun _ h9 => h9) rfl dX7_priceOf_117 ?_
            refine lv_sipush (v := 643) hx hb dX7_priceOf_120 (by decide) ?_
            refine lv_iload hx hb dX7_priceOf_123 (lv_at hl 0 rfl) ?_
            refine lv_iadd hx hb dX7_priceOf_125 ?_
            obtain ⟨h32, hF⟩ := ld_o hF
            refine va_iald hx hb hK hP 1 0 rfl rfl h32 dX7_priceOf_126 ?_
            refine lv_topi (fun v33 ev33 => ?_)
            have hF := hF v33 ev33
            refine lv_i2l hx hb dX7_priceOf_127 rfl ?_
            refine lv_goto (tgt := 148) hx hb dX7_priceOf_128 (by decide) ?_
            exact J148 l3 v26 l3 v33.toInt64 o_stack o_facts H locs ls hP hD hS (lv_sub hl [2, 3, 0] rfl) hF
  have main : ∀ (H : Heap) (locs : List Loc) (ls : Array Slot), va_P D vwCl [(q_o, .inr (7, [x_o_thrown, x_o_buffer, x_o_bufferLength, x_o_textLength, x_o_position, x_o_error, x_o_errorAt, x_o_errorOffset, .ref q_o_data, x_o_draft, x_o_aside, x_o_history, x_o_undoDepth, x_o_numberStart, x_o_nesting, x_o_seen, x_o_toldPlanes, .ref q_o_stack, .ref q_o_facts])), (q_o_data, .inl (cy 0, 2243, .inl o_data)), (q_o_stack, .inl (cy 2, 1600, .inr (.inl o_stack))), (q_o_facts, .inl (cy 0, 4, .inl o_facts))] H → va_D A [(q_o, .inr (7, [x_o_thrown, x_o_buffer, x_o_bufferLength, x_o_textLength, x_o_position, x_o_error, x_o_errorAt, x_o_errorOffset, .ref q_o_data, x_o_draft, x_o_aside, x_o_history, x_o_undoDepth, x_o_numberStart, x_o_nesting, x_o_seen, x_o_toldPlanes, .ref q_o_stack, .ref q_o_facts])), (q_o_data, .inl (cy 0, 2243, .inl o_data)), (q_o_stack, .inl (cy 2, 1600, .inr (.inl o_stack))), (q_o_facts, .inl (cy 0, 4, .inl o_facts))] → va_S A s.heap H locs → lv_has ls 6 [(0, .ref q_o), (1, .int p1), (2, .int p2)] → W p l e ({ frames := 5, cells := 0, slots := 0, locals := 114 } : Room) s m args below meth c H locs 0 0 QQ (F0 m 0 ls []) := by
    intro H locs ls hP hD hS hl
    unfold X7_priceOf at hF
    refine lv_aload_n hx hb dX7_priceOf_0 rfl (lv_at hl 0 rfl) ?_
    refine va_get (D := D) (ci := 7) (v := .ref q_o_facts) (C := RX7) (T := TX7) (N := 19) hx hb hts f_inX7 hown hK hP 0 rfl rfl 18 (by decide) f_f35 (fun _ h9 => h9) rfl dX7_priceOf_1 ?_
    refine lv_iconst (v := 0) hx hb dX7_priceOf_4 (by decide) ?_
    refine lv_aload_n hx hb dX7_priceOf_5 rfl (lv_at hl 0 rfl) ?_
    refine lv_iload_n hx hb dX7_priceOf_6 rfl (lv_at hl 2 rfl) ?_
    refine lv_iload_n hx hb dX7_priceOf_7 rfl (lv_at hl 1 rfl) ?_
    obtain ⟨r34, h35, hF⟩ := bn1_o hF
    refine kd_i [(q_o, .inr (7, [x_o_thrown, x_o_buffer, x_o_bufferLength, x_o_textLength, x_o_position, x_o_error, x_o_errorAt, x_o_errorOffset, .ref q_o_data, x_o_draft, x_o_aside, x_o_history, x_o_undoDepth, x_o_numberStart, x_o_nesting, x_o_seen, x_o_toldPlanes, .ref q_o_stack, .ref q_o_facts])), (q_o_data, .inl (cy 0, 2243, .inl o_data)), (q_o_stack, .inl (cy 2, 1600, .inr (.inl o_stack))), (q_o_facts, .inl (cy 0, 4, .inl o_facts))] (va_runV (As := [.int p2, .int p1]) (rest := [.int (0 : Int32), .ref q_o_facts]) ⟨hx, hb, hml, hown, hts⟩ (c_X7_showing q_o q_o_data H.size x_o_thrown x_o_buffer x_o_bufferLength x_o_textLength x_o_position x_o_error x_o_errorAt x_o_errorOffset x_o_draft x_o_aside x_o_history x_o_undoDepth x_o_numberStart x_o_nesting x_o_seen x_o_toldPlanes (.ref q_o_stack) (.ref q_o_facts) o_data p2 p1 _ h35) (cwV 2 hts gX7_priceOf_X7_showing rfl rfl rfl kd_X7_showing ⟨Nat.le_of_ble_eq_true rfl, Nat.le_of_ble_eq_true rfl⟩) ⟨kP_blind (EN_ok D cy) D _ _ _, va_recv hK hP (ci := 7) (q0 := 0) rfl rfl, kStart (EN_ok D cy) hE hP hD hS hA [0, 1] rfl rfl _⟩ rfl rfl hl.1 rfl (lv_room (Nat.le_of_ble_eq_true rfl)) dX7_priceOf_8 ⟨Nat.zero_le _, Nat.zero_le _⟩) hP hD hS hA [0, 1] [2, 3] rfl rfl rfl 4 rfl (by decide +kernel) (fun H locs hP hD hS => ?_)
    obtain ⟨h36, hF⟩ := st_o hF
    refine va_iast hx hb hK hP hD hS 3 0 rfl rfl h36 dX7_priceOf_11 (fun H locs hP hD hS => ?_)
    obtain ⟨b37, eb37⟩ : ∃ y : Nat → Int32, y = (upd o_facts (0 : Int32).toNatClampNeg r34) := ⟨_, rfl⟩
    have hF := hF b37 eb37
    have hP : va_P D vwCl [(q_o, .inr (7, [x_o_thrown, x_o_buffer, x_o_bufferLength, x_o_textLength, x_o_position, x_o_error, x_o_errorAt, x_o_errorOffset, .ref q_o_data, x_o_draft, x_o_aside, x_o_history, x_o_undoDepth, x_o_numberStart, x_o_nesting, x_o_seen, x_o_toldPlanes, .ref q_o_stack, .ref q_o_facts])), (q_o_data, .inl (cy 0, 2243, .inl o_data)), (q_o_stack, .inl (cy 2, 1600, .inr (.inl o_stack))), (q_o_facts, .inl (cy 0, 4, .inl b37))] H := by rw [eb37]; exact hP
    have hD : va_D A [(q_o, .inr (7, [x_o_thrown, x_o_buffer, x_o_bufferLength, x_o_textLength, x_o_position, x_o_error, x_o_errorAt, x_o_errorOffset, .ref q_o_data, x_o_draft, x_o_aside, x_o_history, x_o_undoDepth, x_o_numberStart, x_o_nesting, x_o_seen, x_o_toldPlanes, .ref q_o_stack, .ref q_o_facts])), (q_o_data, .inl (cy 0, 2243, .inl o_data)), (q_o_stack, .inl (cy 2, 1600, .inr (.inl o_stack))), (q_o_facts, .inl (cy 0, 4, .inl b37))] := by rw [eb37]; exact hD
    refine lv_aload_n hx hb dX7_priceOf_12 rfl (lv_at hl 0 rfl) ?_
    refine va_get (D := D) (ci := 7) (v := .ref q_o_data) (C := RX7) (T := TX7) (N := 19) hx hb hts f_inX7 hown hK hP 0 rfl rfl 8 (by decide) f_f17 (fun _ h9 => h9) rfl dX7_priceOf_13 ?_
    refine lv_bipush (v := 8) hx hb dX7_priceOf_16 (by decide) ?_
    obtain ⟨h38, hF⟩ := ld_o hF
    refine va_iald hx hb hK hP 1 0 rfl rfl h38 dX7_priceOf_18 ?_
    refine lv_topi (fun v39 ev39 => ?_)
    have hF := hF v39 ev39
    refine lv_if_ne (tgt := 31) hx hb dX7_priceOf_19 (by decide) (fun c40 => ?_) (fun c40 => ?_)
    · have hF := if_n hF c40
      refine lv_aload_n hx hb dX7_priceOf_31 rfl (lv_at hl 0 rfl) ?_
      refine va_get (D := D) (ci := 7) (v := .ref q_o_facts) (C := RX7) (T := TX7) (N := 19) hx hb hts f_inX7 hown hK hP 0 rfl rfl 18 (by decide) f_f35 (fun _ h9 => h9) rfl dX7_priceOf_32 ?_
      refine lv_iconst (v := 1) hx hb dX7_priceOf_35 (by decide) ?_
      refine lv_aload_n hx hb dX7_priceOf_36 rfl (lv_at hl 0 rfl) ?_
      refine lv_iload_n hx hb dX7_priceOf_37 rfl (lv_at hl 2 rfl) ?_
      obtain ⟨r41, h42, hF⟩ := bn1_o hF
      refine kd_i [(q_o, .inr (7, [x_o_thrown, x_o_buffer, x_o_bufferLength, x_o_textLength, x_o_position, x_o_error, x_o_errorAt, x_o_errorOffset, .ref q_o_data, x_o_draft, x_o_aside, x_o_history, x_o_undoDepth, x_o_numberStart, x_o_nesting, x_o_seen, x_o_toldPlanes, .ref q_o_stack, .ref q_o_facts])), (q_o_data, .inl (cy 0, 2243, .inl o_data)), (q_o_stack, .inl (cy 2, 1600, .inr (.inl o_stack))), (q_o_facts, .inl (cy 0, 4, .inl b37))] (va_runV (As := [.int p2]) (rest := [.int (1 : Int32), .ref q_o_facts]) ⟨hx, hb, hml, hown, hts⟩ (c_X7_kindsOf q_o q_o_data H.size x_o_thrown x_o_buffer x_o_bufferLength x_o_textLength x_o_position x_o_error x_o_errorAt x_o_errorOffset x_o_draft x_o_aside x_o_history x_o_undoDepth x_o_numberStart x_o_nesting x_o_seen x_o_toldPlanes (.ref q_o_stack) (.ref q_o_facts) o_data p2 _ h42) (cwV 1 hts gX7_priceOf_X7_kindsOf rfl rfl rfl kd_X7_kindsOf ⟨Nat.le_of_ble_eq_true rfl, Nat.le_of_ble_eq_true rfl⟩) ⟨kP_blind (EN_ok D cy) D _ _ _, va_recv hK hP (ci := 7) (q0 := 0) rfl rfl, kStart (EN_ok D cy) hE hP hD hS hA [0, 1] rfl rfl _⟩ rfl rfl hl.1 rfl (lv_room (Nat.le_of_ble_eq_true rfl)) dX7_priceOf_38 ⟨Nat.zero_le _, Nat.zero_le _⟩) hP hD hS hA [0, 1] [2, 3] rfl rfl rfl 4 rfl (by decide +kernel) (fun H locs hP hD hS => ?_)
      obtain ⟨h43, hF⟩ := st_o hF
      refine va_iast hx hb hK hP hD hS 3 0 rfl rfl h43 dX7_priceOf_41 (fun H locs hP hD hS => ?_)
      obtain ⟨b44, eb44⟩ : ∃ y : Nat → Int32, y = (upd b37 (1 : Int32).toNatClampNeg r41) := ⟨_, rfl⟩
      have hF := hF b44 eb44
      have hP : va_P D vwCl [(q_o, .inr (7, [x_o_thrown, x_o_buffer, x_o_bufferLength, x_o_textLength, x_o_position, x_o_error, x_o_errorAt, x_o_errorOffset, .ref q_o_data, x_o_draft, x_o_aside, x_o_history, x_o_undoDepth, x_o_numberStart, x_o_nesting, x_o_seen, x_o_toldPlanes, .ref q_o_stack, .ref q_o_facts])), (q_o_data, .inl (cy 0, 2243, .inl o_data)), (q_o_stack, .inl (cy 2, 1600, .inr (.inl o_stack))), (q_o_facts, .inl (cy 0, 4, .inl b44))] H := by rw [eb44]; exact hP
      have hD : va_D A [(q_o, .inr (7, [x_o_thrown, x_o_buffer, x_o_bufferLength, x_o_textLength, x_o_position, x_o_error, x_o_errorAt, x_o_errorOffset, .ref q_o_data, x_o_draft, x_o_aside, x_o_history, x_o_undoDepth, x_o_numberStart, x_o_nesting, x_o_seen, x_o_toldPlanes, .ref q_o_stack, .ref q_o_facts])), (q_o_data, .inl (cy 0, 2243, .inl o_data)), (q_o_stack, .inl (cy 2, 1600, .inr (.inl o_stack))), (q_o_facts, .inl (cy 0, 4, .inl b44))] := by rw [eb44]; exact hD
      refine lv_aload_n hx hb dX7_priceOf_42 rfl (lv_at hl 0 rfl) ?_
      refine va_get (D := D) (ci := 7) (v := .ref q_o_facts) (C := RX7) (T := TX7) (N := 19) hx hb hts f_inX7 hown hK hP 0 rfl rfl 18 (by decide) f_f35 (fun _ h9 => h9) rfl dX7_priceOf_43 ?_
      refine lv_iconst (v := 2) hx hb dX7_priceOf_46 (by decide) ?_
      refine lv_aload_n hx hb dX7_priceOf_47 rfl (lv_at hl 0 rfl) ?_
      refine lv_iload_n hx hb dX7_priceOf_48 rfl (lv_at hl 2 rfl) ?_
      obtain ⟨r45, h46, hF⟩ := bn1_o hF
      refine kd_i [(q_o, .inr (7, [x_o_thrown, x_o_buffer, x_o_bufferLength, x_o_textLength, x_o_position, x_o_error, x_o_errorAt, x_o_errorOffset, .ref q_o_data, x_o_draft, x_o_aside, x_o_history, x_o_undoDepth, x_o_numberStart, x_o_nesting, x_o_seen, x_o_toldPlanes, .ref q_o_stack, .ref q_o_facts])), (q_o_data, .inl (cy 0, 2243, .inl o_data)), (q_o_stack, .inl (cy 2, 1600, .inr (.inl o_stack))), (q_o_facts, .inl (cy 0, 4, .inl b44))] (va_runV (As := [.int p2]) (rest := [.int (2 : Int32), .ref q_o_facts]) ⟨hx, hb, hml, hown, hts⟩ (c_X7_depthOf q_o q_o_data H.size x_o_thrown x_o_buffer x_o_bufferLength x_o_textLength x_o_position x_o_error x_o_errorAt x_o_errorOffset x_o_draft x_o_aside x_o_history x_o_undoDepth x_o_numberStart x_o_nesting x_o_seen x_o_toldPlanes (.ref q_o_stack) (.ref q_o_facts) o_data p2 _ h46) (cwV 1 hts gX7_priceOf_X7_depthOf rfl rfl rfl kd_X7_depthOf ⟨Nat.le_of_ble_eq_true rfl, Nat.le_of_ble_eq_true rfl⟩) ⟨kP_blind (EN_ok D cy) D _ _ _, va_recv hK hP (ci := 7) (q0 := 0) rfl rfl, kStart (EN_ok D cy) hE hP hD hS hA [0, 1] rfl rfl _⟩ rfl rfl hl.1 rfl (lv_room (Nat.le_of_ble_eq_true rfl)) dX7_priceOf_49 ⟨Nat.zero_le _, Nat.zero_le _⟩) hP hD hS hA [0, 1] [2, 3] rfl rfl rfl 4 rfl (by decide +kernel) (fun H locs hP hD hS => ?_)
      obtain ⟨h47, hF⟩ := st_o hF
      refine va_iast hx hb hK hP hD hS 3 0 rfl rfl h47 dX7_priceOf_52 (fun H locs hP hD hS => ?_)
      obtain ⟨b48, eb48⟩ : ∃ y : Nat → Int32, y = (upd b44 (2 : Int32).toNatClampNeg r45) := ⟨_, rfl⟩
      have hF := hF b48 eb48
      have hP : va_P D vwCl [(q_o, .inr (7, [x_o_thrown, x_o_buffer, x_o_bufferLength, x_o_textLength, x_o_position, x_o_error, x_o_errorAt, x_o_errorOffset, .ref q_o_data, x_o_draft, x_o_aside, x_o_history, x_o_undoDepth, x_o_numberStart, x_o_nesting, x_o_seen, x_o_toldPlanes, .ref q_o_stack, .ref q_o_facts])), (q_o_data, .inl (cy 0, 2243, .inl o_data)), (q_o_stack, .inl (cy 2, 1600, .inr (.inl o_stack))), (q_o_facts, .inl (cy 0, 4, .inl b48))] H := by rw [eb48]; exact hP
      have hD : va_D A [(q_o, .inr (7, [x_o_thrown, x_o_buffer, x_o_bufferLength, x_o_textLength, x_o_position, x_o_error, x_o_errorAt, x_o_errorOffset, .ref q_o_data, x_o_draft, x_o_aside, x_o_history, x_o_undoDepth, x_o_numberStart, x_o_nesting, x_o_seen, x_o_toldPlanes, .ref q_o_stack, .ref q_o_facts])), (q_o_data, .inl (cy 0, 2243, .inl o_data)), (q_o_stack, .inl (cy 2, 1600, .inr (.inl o_stack))), (q_o_facts, .inl (cy 0, 4, .inl b48))] := by rw [eb48]; exact hD
      refine lv_aload_n hx hb dX7_priceOf_53 rfl (lv_at hl 0 rfl) ?_
      refine va_get (D := D) (ci := 7) (v := .ref q_o_facts) (C := RX7) (T := TX7) (N := 19) hx hb hts f_inX7 hown hK hP 0 rfl rfl 18 (by decide) f_f35 (fun _ h9 => h9) rfl dX7_priceOf_54 ?_
      refine lv_iconst (v := 3) hx hb dX7_priceOf_57 (by decide) ?_
      refine lv_iload_n hx hb dX7_priceOf_58 rfl (lv_at hl 2 rfl) ?_
      obtain ⟨h49, hF⟩ := st_o hF
      refine va_iast hx hb hK hP hD hS 3 0 rfl rfl h49 dX7_priceOf_59 (fun H locs hP hD hS => ?_)
      obtain ⟨b50, eb50⟩ : ∃ y : Nat → Int32, y = (upd b48 (3 : Int32).toNatClampNeg p2) := ⟨_, rfl⟩
      have hF := hF b50 eb50
      have hP : va_P D vwCl [(q_o, .inr (7, [x_o_thrown, x_o_buffer, x_o_bufferLength, x_o_textLength, x_o_position, x_o_error, x_o_errorAt, x_o_errorOffset, .ref q_o_data, x_o_draft, x_o_aside, x_o_history, x_o_undoDepth, x_o_numberStart, x_o_nesting, x_o_seen, x_o_toldPlanes, .ref q_o_stack, .ref q_o_facts])), (q_o_data, .inl (cy 0, 2243, .inl o_data)), (q_o_stack, .inl (cy 2, 1600, .inr (.inl o_stack))), (q_o_facts, .inl (cy 0, 4, .inl b50))] H := by rw [eb50]; exact hP
      have hD : va_D A [(q_o, .inr (7, [x_o_thrown, x_o_buffer, x_o_bufferLength, x_o_textLength, x_o_position, x_o_error, x_o_errorAt, x_o_errorOffset, .ref q_o_data, x_o_draft, x_o_aside, x_o_history, x_o_undoDepth, x_o_numberStart, x_o_nesting, x_o_seen, x_o_toldPlanes, .ref q_o_stack, .ref q_o_facts])), (q_o_data, .inl (cy 0, 2243, .inl o_data)), (q_o_stack, .inl (cy 2, 1600, .inr (.inl o_stack))), (q_o_facts, .inl (cy 0, 4, .inl b50))] := by rw [eb50]; exact hD
      refine lv_iconst (v := 0) hx hb dX7_priceOf_60 (by decide) ?_
      refine lv_istore_n (lv' := [(3, .int (0 : Int32)), (0, .ref q_o), (1, .int p1), (2, .int p2)]) hx hb dX7_priceOf_61 rfl hl (by decide) rfl (fun ls hl => ?_)
      refine lv_aload_n hx hb dX7_priceOf_62 rfl (lv_at hl 1 rfl) ?_
      refine va_get (D := D) (ci := 7) (v := .ref q_o_stack) (C := RX7) (T := TX7) (N := 19) hx hb hts f_inX7 hown hK hP 0 rfl rfl 17 (by decide) f_f31 (fun _ h9 => h9) rfl dX7_priceOf_63 ?_
      refine lv_iconst (v := 0) hx hb dX7_priceOf_66 (by decide) ?_
      refine lv_lconst (v := 0) hx hb dX7_priceOf_67 (by decide) ?_
      obtain ⟨h51, hF⟩ := st_o hF
      refine va_last hx hb hK hP hD hS 2 2 rfl rfl h51 dX7_priceOf_68 (fun H locs hP hD hS => ?_)
      obtain ⟨b52, eb52⟩ : ∃ y : Nat → Int64, y = (vp_updL o_stack (0 : Int32).toNatClampNeg (0 : Int64)) := ⟨_, rfl⟩
      have hF := hF b52 eb52
      have hP : va_P D vwCl [(q_o, .inr (7, [x_o_thrown, x_o_buffer, x_o_bufferLength, x_o_textLength, x_o_position, x_o_error, x_o_errorAt, x_o_errorOffset, .ref q_o_data, x_o_draft, x_o_aside, x_o_history, x_o_undoDepth, x_o_numberStart, x_o_nesting, x_o_seen, x_o_toldPlanes, .ref q_o_stack, .ref q_o_facts])), (q_o_data, .inl (cy 0, 2243, .inl o_data)), (q_o_stack, .inl (cy 2, 1600, .inr (.inl b52))), (q_o_facts, .inl (cy 0, 4, .inl b50))] H := by rw [eb52]; exact hP
      have hD : va_D A [(q_o, .inr (7, [x_o_thrown, x_o_buffer, x_o_bufferLength, x_o_textLength, x_o_position, x_o_error, x_o_errorAt, x_o_errorOffset, .ref q_o_data, x_o_draft, x_o_aside, x_o_history, x_o_undoDepth, x_o_numberStart, x_o_nesting, x_o_seen, x_o_toldPlanes, .ref q_o_stack, .ref q_o_facts])), (q_o_data, .inl (cy 0, 2243, .inl o_data)), (q_o_stack, .inl (cy 2, 1600, .inr (.inl b52))), (q_o_facts, .inl (cy 0, 4, .inl b50))] := by rw [eb52]; exact hD
      refine lv_iconst (v := 0) hx hb dX7_priceOf_69 (by decide) ?_
      refine lv_istore (lv' := [(4, .int (0 : Int32)), (3, .int (0 : Int32)), (0, .ref q_o), (1, .int p1), (2, .int p2)]) hx hb dX7_priceOf_70 hl (by decide) rfl (fun ls hl => ?_)
      exact J72 FU (0 : Int32) (0 : Int32) b52 b50 H locs ls hP hD hS (lv_sub hl [2, 1, 0] rfl) hF
    · have hF := if_p hF c40
      refine lv_iconst (v := 1) hx hb dX7_priceOf_22 (by decide) ?_
      refine lv_aload_n hx hb dX7_priceOf_23 rfl (lv_at hl 0 rfl) ?_
      refine va_get (D := D) (ci := 7) (v := .ref q_o_facts) (C := RX7) (T := TX7) (N := 19) hx hb hts f_inX7 hown hK hP 0 rfl rfl 18 (by decide) f_f35 (fun _ h9 => h9) rfl dX7_priceOf_24 ?_
      refine lv_iconst (v := 0) hx hb dX7_priceOf_27 (by decide) ?_
      obtain ⟨h53, hF⟩ := ld_o hF
      refine va_iald hx hb hK hP 3 0 rfl rfl h53 dX7_priceOf_28 ?_
      refine lv_topi (fun v54 ev54 => ?_)
      have hF := hF v54 ev54
      refine lv_iadd hx hb dX7_priceOf_29 ?_
      obtain rfl := so_o hF
      rw [hQQ]
      exact kr_i hx hb hr hlocks hP hD hS dX7_priceOf_30
  exact main s.heap [] ls hP hD hS hl
theorem kd_X7_of : yX7_of.cls = RX7 ∧ yX7_of.cls ≠ "java/lang/invoke/MethodHandle" ∧ yX7_of.cls ≠ "java/lang/invoke/VarHandle" ∧ (parseMethodDescriptor yX7_of.desc).map (fun d => d.parameters.length) = some 2 := by decide +kernel
set_option maxHeartbeats 4000000 in
set_option maxRecDepth 100000 in
theorem c_X7_of {l : Launch} {D : va_G} {cy : Nat → ClassId} (q_o q_o_data : Nat) (sz : Nat) (x_o_thrown x_o_buffer x_o_bufferLength x_o_textLength x_o_position x_o_error x_o_errorAt x_o_errorOffset x_o_draft x_o_aside x_o_history x_o_undoDepth x_o_numberStart x_o_nesting x_o_seen x_o_toldPlanes x_o_stack x_o_facts : Value) (o_data : Nat → Int32) (p1 : Int32) (p2 : Int32) (res : Int32) (hF : X7_of o_data p1 p2 = some res) : Met l yX7_of wsX7_of ({ frames := 0, cells := 0, slots := 0, locals := 0 } : Room) (kP (EN D cy) D [.ref q_o, .int p1, .int p2] [(q_o, .inr (7, [x_o_thrown, x_o_buffer, x_o_bufferLength, x_o_textLength, x_o_position, x_o_error, x_o_errorAt, x_o_errorOffset, .ref q_o_data, x_o_draft, x_o_aside, x_o_history, x_o_undoDepth, x_o_numberStart, x_o_nesting, x_o_seen, x_o_toldPlanes, x_o_stack, x_o_facts])), (q_o_data, .inl (cy 0, 2243, .inl o_data))] sz) (kQi D res [(q_o, .inr (7, [x_o_thrown, x_o_buffer, x_o_bufferLength, x_o_textLength, x_o_position, x_o_error, x_o_errorAt, x_o_errorOffset, .ref q_o_data, x_o_draft, x_o_aside, x_o_history, x_o_undoDepth, x_o_numberStart, x_o_nesting, x_o_seen, x_o_toldPlanes, x_o_stack, x_o_facts])), (q_o_data, .inl (cy 0, 2243, .inl o_data))] (va_A [(q_o, .inr (7, [x_o_thrown, x_o_buffer, x_o_bufferLength, x_o_textLength, x_o_position, x_o_error, x_o_errorAt, x_o_errorOffset, .ref q_o_data, x_o_draft, x_o_aside, x_o_history, x_o_undoDepth, x_o_numberStart, x_o_nesting, x_o_seen, x_o_toldPlanes, x_o_stack, x_o_facts])), (q_o_data, .inl (cy 0, 2243, .inl o_data))] sz)) 0 0 (va_A [(q_o, .inr (7, [x_o_thrown, x_o_buffer, x_o_bufferLength, x_o_textLength, x_o_position, x_o_error, x_o_errorAt, x_o_errorOffset, .ref q_o_data, x_o_draft, x_o_aside, x_o_history, x_o_undoDepth, x_o_numberStart, x_o_nesting, x_o_seen, x_o_toldPlanes, x_o_stack, x_o_facts])), (q_o_data, .inl (cy 0, 2243, .inl o_data))] sz) := by
  refine kMet (y := yX7_of) (av := [.ref q_o, .int p1, .int p2]) (cc := cX7_of) (maxL := 3) (ret := some .int) (own := RX7) (Qc := fun A9 => (kQi D res [(q_o, .inr (7, [x_o_thrown, x_o_buffer, x_o_bufferLength, x_o_textLength, x_o_position, x_o_error, x_o_errorAt, x_o_errorOffset, .ref q_o_data, x_o_draft, x_o_aside, x_o_history, x_o_undoDepth, x_o_numberStart, x_o_nesting, x_o_seen, x_o_toldPlanes, x_o_stack, x_o_facts])), (q_o_data, .inl (cy 0, 2243, .inl o_data))] A9)) (by decide) rfl rfl (Nat.le_of_ble_eq_true rfl) ?_
  intro p e s m args below meth c A hx hb hr hts hown hml hlocks hname hE hP hD hA hsz ls hl
  have hK := hE.1
  have hl : lv_has ls 3 [(0, .ref q_o), (1, .int p1), (2, .int p2)] := hl
  have hS : va_S A s.heap s.heap [] := va_S.rf
  have f_f17 := hts (.fieldLink RX7 17 "PeepBoxModel" "data" "[I") (by decide +kernel)
  have f_inX7 : ∀ w ∈ wsX70, w ∈ wsX7_of := by decide +kernel
  obtain ⟨QQ, hQQ⟩ : ∃ Q9, Q9 = MQ below (kQi D res [(q_o, .inr (7, [x_o_thrown, x_o_buffer, x_o_bufferLength, x_o_textLength, x_o_position, x_o_error, x_o_errorAt, x_o_errorOffset, .ref q_o_data, x_o_draft, x_o_aside, x_o_history, x_o_undoDepth, x_o_numberStart, x_o_nesting, x_o_seen, x_o_toldPlanes, x_o_stack, x_o_facts])), (q_o_data, .inl (cy 0, 2243, .inl o_data))] A) args s 0 0 A := ⟨_, rfl⟩
  rw [← hQQ]
  have main : ∀ (H : Heap) (locs : List Loc) (ls : Array Slot), va_P D vwCl [(q_o, .inr (7, [x_o_thrown, x_o_buffer, x_o_bufferLength, x_o_textLength, x_o_position, x_o_error, x_o_errorAt, x_o_errorOffset, .ref q_o_data, x_o_draft, x_o_aside, x_o_history, x_o_undoDepth, x_o_numberStart, x_o_nesting, x_o_seen, x_o_toldPlanes, x_o_stack, x_o_facts])), (q_o_data, .inl (cy 0, 2243, .inl o_data))] H → va_D A [(q_o, .inr (7, [x_o_thrown, x_o_buffer, x_o_bufferLength, x_o_textLength, x_o_position, x_o_error, x_o_errorAt, x_o_errorOffset, .ref q_o_data, x_o_draft, x_o_aside, x_o_history, x_o_undoDepth, x_o_numberStart, x_o_nesting, x_o_seen, x_o_toldPlanes, x_o_stack, x_o_facts])), (q_o_data, .inl (cy 0, 2243, .inl o_data))] → va_S A s.heap H locs → lv_has ls 3 [(0, .ref q_o), (1, .int p1), (2, .int p2)] → W p l e ({ frames := 0, cells := 0, slots := 0, locals := 0 } : Room) s m args below meth c H locs 0 0 QQ (F0 m 0 ls []) := by
    intro H locs ls hP hD hS hl
    unfold X7_of at hF
    refine lv_aload_n hx hb dX7_of_0 rfl (lv_at hl 0 rfl) ?_
    refine va_get (D := D) (ci := 7) (v := .ref q_o_data) (C := RX7) (T := TX7) (N := 19) hx hb hts f_inX7 hown hK hP 0 rfl rfl 8 (by decide) f_f17 (fun _ h9 => h9) rfl dX7_of_1 ?_
    refine lv_sipush (v := 503) hx hb dX7_of_4 (by decide) ?_
    refine lv_bipush (v := 7) hx hb dX7_of_7 (by decide) ?_
    refine lv_iload_n hx hb dX7_of_9 rfl (lv_at hl 1 rfl) ?_
    refine lv_imul hx hb dX7_of_10 ?_
    refine lv_iadd hx hb dX7_of_11 ?_
    refine lv_iload_n hx hb dX7_of_12 rfl (lv_at hl 2 rfl) ?_
    refine lv_iadd hx hb dX7_of_13 ?_
    obtain ⟨h1, hF⟩ := ld_o hF
    refine va_iald hx hb hK hP 1 0 rfl rfl h1 dX7_of_14 ?_
    refine lv_topi (fun v2 ev2 => ?_)
    have hF := hF v2 ev2
    obtain rfl := so_o hF
    rw [hQQ]
    exact kr_i hx hb hr hlocks hP hD hS dX7_of_15
  exact main s.heap [] ls hP hD hS hl
theorem kd_X7_set : yX7_set.cls = RX7 ∧ yX7_set.cls ≠ "java/lang/invoke/MethodHandle" ∧ yX7_set.cls ≠ "java/lang/invoke/VarHandle" ∧ (parseMethodDescriptor yX7_set.desc).map (fun d => d.parameters.length) = some 3 := by decide +kernel
set_option maxHeartbeats 4000000 in
set_option maxRecDepth 100000 in
theorem c_X7_set {l : Launch} {D : va_G} {cy : Nat → ClassId} (q_o q_o_data : Nat) (sz : Nat) (x_o_thrown x_o_buffer x_o_bufferLength x_o_textLength x_o_position x_o_error x_o_errorAt x_o_errorOffset x_o_draft x_o_aside x_o_history x_o_undoDepth x_o_numberStart x_o_nesting x_o_seen x_o_toldPlanes x_o_stack x_o_facts : Value) (o_data : Nat → Int32) (p1 : Int32) (p2 : Int32) (p3 : Int32) (res : (Nat → Int32)) (hF : X7_set o_data p1 p2 p3 = some res) : Met l yX7_set wsX7_set ({ frames := 0, cells := 0, slots := 0, locals := 0 } : Room) (kP (EN D cy) D [.ref q_o, .int p1, .int p2, .int p3] [(q_o, .inr (7, [x_o_thrown, x_o_buffer, x_o_bufferLength, x_o_textLength, x_o_position, x_o_error, x_o_errorAt, x_o_errorOffset, .ref q_o_data, x_o_draft, x_o_aside, x_o_history, x_o_undoDepth, x_o_numberStart, x_o_nesting, x_o_seen, x_o_toldPlanes, x_o_stack, x_o_facts])), (q_o_data, .inl (cy 0, 2243, .inl o_data))] sz) (kQv D [(q_o, .inr (7, [x_o_thrown, x_o_buffer, x_o_bufferLength, x_o_textLength, x_o_position, x_o_error, x_o_errorAt, x_o_errorOffset, .ref q_o_data, x_o_draft, x_o_aside, x_o_history, x_o_undoDepth, x_o_numberStart, x_o_nesting, x_o_seen, x_o_toldPlanes, x_o_stack, x_o_facts])), (q_o_data, .inl (cy 0, 2243, .inl res))] (va_A [(q_o, .inr (7, [x_o_thrown, x_o_buffer, x_o_bufferLength, x_o_textLength, x_o_position, x_o_error, x_o_errorAt, x_o_errorOffset, .ref q_o_data, x_o_draft, x_o_aside, x_o_history, x_o_undoDepth, x_o_numberStart, x_o_nesting, x_o_seen, x_o_toldPlanes, x_o_stack, x_o_facts])), (q_o_data, .inl (cy 0, 2243, .inl o_data))] sz)) 0 0 (va_A [(q_o, .inr (7, [x_o_thrown, x_o_buffer, x_o_bufferLength, x_o_textLength, x_o_position, x_o_error, x_o_errorAt, x_o_errorOffset, .ref q_o_data, x_o_draft, x_o_aside, x_o_history, x_o_undoDepth, x_o_numberStart, x_o_nesting, x_o_seen, x_o_toldPlanes, x_o_stack, x_o_facts])), (q_o_data, .inl (cy 0, 2243, .inl o_data))] sz) := by
  refine kMet (y := yX7_set) (av := [.ref q_o, .int p1, .int p2, .int p3]) (cc := cX7_set) (maxL := 4) (ret := none) (own := RX7) (Qc := fun A9 => (kQv D [(q_o, .inr (7, [x_o_thrown, x_o_buffer, x_o_bufferLength, x_o_textLength, x_o_position, x_o_error, x_o_errorAt, x_o_errorOffset, .ref q_o_data, x_o_draft, x_o_aside, x_o_history, x_o_undoDepth, x_o_numberStart, x_o_nesting, x_o_seen, x_o_toldPlanes, x_o_stack, x_o_facts])), (q_o_data, .inl (cy 0, 2243, .inl res))] A9)) (by decide) rfl rfl (Nat.le_of_ble_eq_true rfl) ?_
  intro p e s m args below meth c A hx hb hr hts hown hml hlocks hname hE hP hD hA hsz ls hl
  have hK := hE.1
  have hl : lv_has ls 4 [(0, .ref q_o), (1, .int p1), (2, .int p2), (3, .int p3)] := hl
  have hS : va_S A s.heap s.heap [] := va_S.rf
  have f_f17 := hts (.fieldLink RX7 17 "PeepBoxModel" "data" "[I") (by decide +kernel)
  have f_inX7 : ∀ w ∈ wsX70, w ∈ wsX7_set := by decide +kernel
  obtain ⟨QQ, hQQ⟩ : ∃ Q9, Q9 = MQ below (kQv D [(q_o, .inr (7, [x_o_thrown, x_o_buffer, x_o_bufferLength, x_o_textLength, x_o_position, x_o_error, x_o_errorAt, x_o_errorOffset, .ref q_o_data, x_o_draft, x_o_aside, x_o_history, x_o_undoDepth, x_o_numberStart, x_o_nesting, x_o_seen, x_o_toldPlanes, x_o_stack, x_o_facts])), (q_o_data, .inl (cy 0, 2243, .inl res))] A) args s 0 0 A := ⟨_, rfl⟩
  rw [← hQQ]
  have main : ∀ (H : Heap) (locs : List Loc) (ls : Array Slot), va_P D vwCl [(q_o, .inr (7, [x_o_thrown, x_o_buffer, x_o_bufferLength, x_o_textLength, x_o_position, x_o_error, x_o_errorAt, x_o_errorOffset, .ref q_o_data, x_o_draft, x_o_aside, x_o_history, x_o_undoDepth, x_o_numberStart, x_o_nesting, x_o_seen, x_o_toldPlanes, x_o_stack, x_o_facts])), (q_o_data, .inl (cy 0, 2243, .inl o_data))] H → va_D A [(q_o, .inr (7, [x_o_thrown, x_o_buffer, x_o_bufferLength, x_o_textLength, x_o_position, x_o_error, x_o_errorAt, x_o_errorOffset, .ref q_o_data, x_o_draft, x_o_aside, x_o_history, x_o_undoDepth, x_o_numberStart, x_o_nesting, x_o_seen, x_o_toldPlanes, x_o_stack, x_o_facts])), (q_o_data, .inl (cy 0, 2243, .inl o_data))] → va_S A s.heap H locs → lv_has ls 4 [(0, .ref q_o), (1, .int p1), (2, .int p2), (3, .int p3)] → W p l e ({ frames := 0, cells := 0, slots := 0, locals := 0 } : Room) s m args below meth c H locs 0 0 QQ (F0 m 0 ls []) := by
    intro H locs ls hP hD hS hl
    unfold X7_set at hF
    refine lv_aload_n hx hb dX7_set_0 rfl (lv_at hl 0 rfl) ?_
    refine va_get (D := D) (ci := 7) (v := .ref q_o_data) (C := RX7) (T := TX7) (N := 19) hx hb hts f_inX7 hown hK hP 0 rfl rfl 8 (by decide) f_f17 (fun _ h9 => h9) rfl dX7_set_1 ?_
    refine lv_sipush (v := 503) hx hb dX7_set_4 (by decide) ?_
    refine lv_bipush (v := 7) hx hb dX7_set_7 (by decide) ?_
    refine lv_iload_n hx hb dX7_set_9 rfl (lv_at hl 1 rfl) ?_
    refine lv_imul hx hb dX7_set_10 ?_
    refine lv_iadd hx hb dX7_set_11 ?_
    refine lv_iload_n hx hb dX7_set_12 rfl (lv_at hl 2 rfl) ?_
    refine lv_iadd hx hb dX7_set_13 ?_
    refine lv_iload_n hx hb dX7_set_14 rfl (lv_at hl 3 rfl) ?_
    obtain ⟨h1, hF⟩ := st_o hF
    refine va_iast hx hb hK hP hD hS 1 0 rfl rfl h1 dX7_set_15 (fun H locs hP hD hS => ?_)
    obtain ⟨b2, eb2⟩ : ∃ y : Nat → Int32, y = (upd o_data (((503 : Int32) + ((7 : Int32) * p1)) + p2).toNatClampNeg p3) := ⟨_, rfl⟩
    have hF := hF b2 eb2
    have hP : va_P D vwCl [(q_o, .inr (7, [x_o_thrown, x_o_buffer, x_o_bufferLength, x_o_textLength, x_o_position, x_o_error, x_o_errorAt, x_o_errorOffset, .ref q_o_data, x_o_draft, x_o_aside, x_o_history, x_o_undoDepth, x_o_numberStart, x_o_nesting, x_o_seen, x_o_toldPlanes, x_o_stack, x_o_facts])), (q_o_data, .inl (cy 0, 2243, .inl b2))] H := by rw [eb2]; exact hP
    have hD : va_D A [(q_o, .inr (7, [x_o_thrown, x_o_buffer, x_o_bufferLength, x_o_textLength, x_o_position, x_o_error, x_o_errorAt, x_o_errorOffset, .ref q_o_data, x_o_draft, x_o_aside, x_o_history, x_o_undoDepth, x_o_numberStart, x_o_nesting, x_o_seen, x_o_toldPlanes, x_o_stack, x_o_facts])), (q_o_data, .inl (cy 0, 2243, .inl b2))] := by rw [eb2]; exact hD
    obtain rfl := so_o hF
    rw [hQQ]
    exact kr_v hx hb hr hlocks hP hD hS dX7_set_16
  exact main s.heap [] ls hP hD hS hl
theorem kd_X7_canUse : yX7_canUse.cls = RX7 ∧ yX7_canUse.cls ≠ "java/lang/invoke/MethodHandle" ∧ yX7_canUse.cls ≠ "java/lang/invoke/VarHandle" ∧ (parseMethodDescriptor yX7_canUse.desc).map (fun d => d.parameters.length) = some 2 := by decide +kernel
set_option maxHeartbeats 4000000 in
set_option maxRecDepth 100000 in
theorem c_X7_canUse {l : Launch} {D : va_G} {cy : Nat → ClassId} (q_o q_o_data : Nat) (sz : Nat) (x_o_thrown x_o_buffer x_o_bufferLength x_o_textLength x_o_position x_o_error x_o_errorAt x_o_errorOffset x_o_draft x_o_aside x_o_history x_o_undoDepth x_o_numberStart x_o_nesting x_o_seen x_o_toldPlanes x_o_stack x_o_facts : Value) (o_data : Nat → Int32) (p1 : Int32) (p2 : Int32) (res : Int32) (hF : X7_canUse o_data p1 p2 = some res) : Met l yX7_canUse wsX7_canUse ({ frames := 1, cells := 0, slots := 0, locals := 30 } : Room) (kP (EN D cy) D [.ref q_o, .int p1, .int p2] [(q_o, .inr (7, [x_o_thrown, x_o_buffer, x_o_bufferLength, x_o_textLength, x_o_position, x_o_error, x_o_errorAt, x_o_errorOffset, .ref q_o_data, x_o_draft, x_o_aside, x_o_history, x_o_undoDepth, x_o_numberStart, x_o_nesting, x_o_seen, x_o_toldPlanes, x_o_stack, x_o_facts])), (q_o_data, .inl (cy 0, 2243, .inl o_data))] sz) (kQi D res [(q_o, .inr (7, [x_o_thrown, x_o_buffer, x_o_bufferLength, x_o_textLength, x_o_position, x_o_error, x_o_errorAt, x_o_errorOffset, .ref q_o_data, x_o_draft, x_o_aside, x_o_history, x_o_undoDepth, x_o_numberStart, x_o_nesting, x_o_seen, x_o_toldPlanes, x_o_stack, x_o_facts])), (q_o_data, .inl (cy 0, 2243, .inl o_data))] (va_A [(q_o, .inr (7, [x_o_thrown, x_o_buffer, x_o_bufferLength, x_o_textLength, x_o_position, x_o_error, x_o_errorAt, x_o_errorOffset, .ref q_o_data, x_o_draft, x_o_aside, x_o_history, x_o_undoDepth, x_o_numberStart, x_o_nesting, x_o_seen, x_o_toldPlanes, x_o_stack, x_o_facts])), (q_o_data, .inl (cy 0, 2243, .inl o_data))] sz)) 0 0 (va_A [(q_o, .inr (7, [x_o_thrown, x_o_buffer, x_o_bufferLength, x_o_textLength, x_o_position, x_o_error, x_o_errorAt, x_o_errorOffset, .ref q_o_data, x_o_draft, x_o_aside, x_o_history, x_o_undoDepth, x_o_numberStart, x_o_nesting, x_o_seen, x_o_toldPlanes, x_o_stack, x_o_facts])), (q_o_data, .inl (cy 0, 2243, .inl o_data))] sz) := by
  refine kMet (y := yX7_canUse) (av := [.ref q_o, .int p1, .int p2]) (cc := cX7_canUse) (maxL := 3) (ret := some .boolean) (own := RX7) (Qc := fun A9 => (kQi D res [(q_o, .inr (7, [x_o_thrown, x_o_buffer, x_o_bufferLength, x_o_textLength, x_o_position, x_o_error, x_o_errorAt, x_o_errorOffset, .ref q_o_data, x_o_draft, x_o_aside, x_o_history, x_o_undoDepth, x_o_numberStart, x_o_nesting, x_o_seen, x_o_toldPlanes, x_o_stack, x_o_facts])), (q_o_data, .inl (cy 0, 2243, .inl o_data))] A9)) (by decide) rfl rfl (Nat.le_of_ble_eq_true rfl) ?_
  intro p e s m args below meth c A hx hb hr hts hown hml hlocks hname hE hP hD hA hsz ls hl
  have hK := hE.1
  have hl : lv_has ls 3 [(0, .ref q_o), (1, .int p1), (2, .int p2)] := hl
  have hS : va_S A s.heap s.heap [] := va_S.rf
  have f_f17 := hts (.fieldLink RX7 17 "PeepBoxModel" "data" "[I") (by decide +kernel)
  have f_inX7 : ∀ w ∈ wsX70, w ∈ wsX7_canUse := by decide +kernel
  have f_m242 := hts (.methodLink RX7 242 Lib.Math.abs.name) (by decide +kernel)
  have f_s_va_mabs := hts (.static Lib.Math.abs.name) (by decide +kernel)
  have f_iMath := hts (.initialized "java/lang/Math") (by decide +kernel)
  have f_k_va_mabs := hts (.code Lib.Math.abs.name Lib.Math.abs.code 1 (some .int)) (by decide +kernel)
  obtain ⟨QQ, hQQ⟩ : ∃ Q9, Q9 = MQ below (kQi D res [(q_o, .inr (7, [x_o_thrown, x_o_buffer, x_o_bufferLength, x_o_textLength, x_o_position, x_o_error, x_o_errorAt, x_o_errorOffset, .ref q_o_data, x_o_draft, x_o_aside, x_o_history, x_o_undoDepth, x_o_numberStart, x_o_nesting, x_o_seen, x_o_toldPlanes, x_o_stack, x_o_facts])), (q_o_data, .inl (cy 0, 2243, .inl o_data))] A) args s 0 0 A := ⟨_, rfl⟩
  rw [← hQQ]
  have main : ∀ (H : Heap) (locs : List Loc) (ls : Array Slot), va_P D vwCl [(q_o, .inr (7, [x_o_thrown, x_o_buffer, x_o_bufferLength, x_o_textLength, x_o_position, x_o_error, x_o_errorAt, x_o_errorOffset, .ref q_o_data, x_o_draft, x_o_aside, x_o_history, x_o_undoDepth, x_o_numberStart, x_o_nesting, x_o_seen, x_o_toldPlanes, x_o_stack, x_o_facts])), (q_o_data, .inl (cy 0, 2243, .inl o_data))] H → va_D A [(q_o, .inr (7, [x_o_thrown, x_o_buffer, x_o_bufferLength, x_o_textLength, x_o_position, x_o_error, x_o_errorAt, x_o_errorOffset, .ref q_o_data, x_o_draft, x_o_aside, x_o_history, x_o_undoDepth, x_o_numberStart, x_o_nesting, x_o_seen, x_o_toldPlanes, x_o_stack, x_o_facts])), (q_o_data, .inl (cy 0, 2243, .inl o_data))] → va_S A s.heap H locs → lv_has ls 3 [(0, .ref q_o), (1, .int p1), (2, .int p2)] → W p l e ({ frames := 1, cells := 0, slots := 0, locals := 30 } : Room) s m args below meth c H locs 0 0 QQ (F0 m 0 ls []) := by
    intro H locs ls hP hD hS hl
    unfold X7_canUse at hF
    refine lv_aload_n hx hb dX7_canUse_0 rfl (lv_at hl 0 rfl) ?_
    refine lv_iload_n hx hb dX7_canUse_1 rfl (lv_at hl 1 rfl) ?_
    refine lv_iconst (v := 0) hx hb dX7_canUse_2 (by decide) ?_
    obtain ⟨r1, h2, hF⟩ := bn1_o hF
    refine kd_i [(q_o, .inr (7, [x_o_thrown, x_o_buffer, x_o_bufferLength, x_o_textLength, x_o_position, x_o_error, x_o_errorAt, x_o_errorOffset, .ref q_o_data, x_o_draft, x_o_aside, x_o_history, x_o_undoDepth, x_o_numberStart, x_o_nesting, x_o_seen, x_o_toldPlanes, x_o_stack, x_o_facts])), (q_o_data, .inl (cy 0, 2243, .inl o_data))] (va_runV (As := [.int p1, .int (0 : Int32)]) (rest := []) ⟨hx, hb, hml, hown, hts⟩ (c_X7_of q_o q_o_data H.size x_o_thrown x_o_buffer x_o_bufferLength x_o_textLength x_o_position x_o_error x_o_errorAt x_o_errorOffset x_o_draft x_o_aside x_o_history x_o_undoDepth x_o_numberStart x_o_nesting x_o_seen x_o_toldPlanes x_o_stack x_o_facts o_data p1 (0 : Int32) _ h2) (cwV 2 hts gX7_canUse_X7_of rfl rfl rfl kd_X7_of ⟨Nat.le_of_ble_eq_true rfl, Nat.le_of_ble_eq_true rfl⟩) ⟨kP_blind (EN_ok D cy) D _ _ _, va_recv hK hP (ci := 7) (q0 := 0) rfl rfl, kStart (EN_ok D cy) hE hP hD hS hA [0, 1] rfl rfl _⟩ rfl rfl hl.1 rfl (lv_room (Nat.le_of_ble_eq_true rfl)) dX7_canUse_3 ⟨Nat.zero_le _, Nat.zero_le _⟩) hP hD hS hA [0, 1] [] rfl rfl rfl 2 rfl (by decide +kernel) (fun H locs hP hD hS => ?_)
    refine lv_aload_n hx hb dX7_canUse_6 rfl (lv_at hl 0 rfl) ?_
    refine va_get (D := D) (ci := 7) (v := .ref q_o_data) (C := RX7) (T := TX7) (N := 19) hx hb hts f_inX7 hown hK hP 0 rfl rfl 8 (by decide) f_f17 (fun _ h9 => h9) rfl dX7_canUse_7 ?_
    refine lv_iconst (v := 1) hx hb dX7_canUse_10 (by decide) ?_
    obtain ⟨h3, hF⟩ := ld_o hF
    refine va_iald hx hb hK hP 1 0 rfl rfl h3 dX7_canUse_11 ?_
    refine lv_topi (fun v4 ev4 => ?_)
    have hF := hF v4 ev4
    refine lv_iconst (v := 1) hx hb dX7_canUse_12 (by decide) ?_
    refine lv_isub hx hb dX7_canUse_13 ?_
    refine lv_aload_n hx hb dX7_canUse_14 rfl (lv_at hl 0 rfl) ?_
    refine lv_iload_n hx hb dX7_canUse_15 rfl (lv_at hl 2 rfl) ?_
    obtain ⟨r5, h6, hF⟩ := bn1_o hF
    refine kd_i [(q_o, .inr (7, [x_o_thrown, x_o_buffer, x_o_bufferLength, x_o_textLength, x_o_position, x_o_error, x_o_errorAt, x_o_errorOffset, .ref q_o_data, x_o_draft, x_o_aside, x_o_history, x_o_undoDepth, x_o_numberStart, x_o_nesting, x_o_seen, x_o_toldPlanes, x_o_stack, x_o_facts])), (q_o_data, .inl (cy 0, 2243, .inl o_data))] (va_runV (As := [.int p2]) (rest := [.int (v4 - (1 : Int32)), .int r1]) ⟨hx, hb, hml, hown, hts⟩ (c_X7_holeY q_o q_o_data H.size x_o_thrown x_o_buffer x_o_bufferLength x_o_textLength x_o_position x_o_error x_o_errorAt x_o_errorOffset x_o_draft x_o_aside x_o_history x_o_undoDepth x_o_numberStart x_o_nesting x_o_seen x_o_toldPlanes x_o_stack x_o_facts o_data p2 _ h6) (cwV 1 hts gX7_canUse_X7_holeY rfl rfl rfl kd_X7_holeY ⟨Nat.le_of_ble_eq_true rfl, Nat.le_of_ble_eq_true rfl⟩) ⟨kP_blind (EN_ok D cy) D _ _ _, va_recv hK hP (ci := 7) (q0 := 0) rfl rfl, kStart (EN_ok D cy) hE hP hD hS hA [0, 1] rfl rfl _⟩ rfl rfl hl.1 rfl (lv_room (Nat.le_of_ble_eq_true rfl)) dX7_canUse_16 ⟨Nat.zero_le _, Nat.zero_le _⟩) hP hD hS hA [0, 1] [] rfl rfl rfl 2 rfl (by decide +kernel) (fun H locs hP hD hS => ?_)
    refine lv_isub hx hb dX7_canUse_19 ?_
    refine lv_isub hx hb dX7_canUse_20 ?_
    refine va_mabs hx hb (by rw [hml]; exact hl.1.symm) hown f_m242 f_s_va_mabs f_iMath f_k_va_mabs (Nat.le_of_ble_eq_true rfl) (Nat.le_of_ble_eq_true rfl) (Nat.zero_le _) (Nat.zero_le _) dX7_canUse_21 ?_
    refine lv_topi (fun v7 ev7 => ?_)
    have hF := nm_o hF v7 ev7
    refine lv_aload_n hx hb dX7_canUse_24 rfl (lv_at hl 0 rfl) ?_
    refine va_get (D := D) (ci := 7) (v := .ref q_o_data) (C := RX7) (T := TX7) (N := 19) hx hb hts f_inX7 hown hK hP 0 rfl rfl 8 (by decide) f_f17 (fun _ h9 => h9) rfl dX7_canUse_25 ?_
    refine lv_iconst (v := 4) hx hb dX7_canUse_28 (by decide) ?_
    obtain ⟨h8, hF⟩ := ld_o hF
    refine va_iald hx hb hK hP 1 0 rfl rfl h8 dX7_canUse_29 ?_
    refine lv_topi (fun v9 ev9 => ?_)
    have hF := hF v9 ev9
    refine lv_icmp_gt (tgt := 37) hx hb dX7_canUse_30 (by decide) (fun c10 => ?_) (fun c10 => ?_)
    · have hF := if_p hF c10
      refine lv_iconst (v := 0) hx hb dX7_canUse_37 (by decide) ?_
      obtain rfl := so_o hF
      rw [hQQ]
      exact kr_z (v := (0 : Int32)) hx hb hr hlocks rfl hP hD hS dX7_canUse_38
    · have hF := if_n hF c10
      refine lv_iconst (v := 1) hx hb dX7_canUse_33 (by decide) ?_
      refine lv_goto (tgt := 38) hx hb dX7_canUse_34 (by decide) ?_
      obtain rfl := so_o hF
      rw [hQQ]
      exact kr_z (v := (1 : Int32)) hx hb hr hlocks rfl hP hD hS dX7_canUse_38
  exact main s.heap [] ls hP hD hS hl
theorem kd_X7_lookerAt : yX7_lookerAt.cls = RX7 ∧ yX7_lookerAt.cls ≠ "java/lang/invoke/MethodHandle" ∧ yX7_lookerAt.cls ≠ "java/lang/invoke/VarHandle" ∧ (parseMethodDescriptor yX7_lookerAt.desc).map (fun d => d.parameters.length) = some 1 := by decide +kernel
set_option maxHeartbeats 4000000 in
set_option maxRecDepth 100000 in
theorem c_X7_lookerAt {l : Launch} {D : va_G} {cy : Nat → ClassId} (q_o q_o_data : Nat) (sz : Nat) (x_o_thrown x_o_buffer x_o_bufferLength x_o_textLength x_o_position x_o_error x_o_errorAt x_o_errorOffset x_o_draft x_o_aside x_o_history x_o_undoDepth x_o_numberStart x_o_nesting x_o_seen x_o_toldPlanes x_o_stack x_o_facts : Value) (o_data : Nat → Int32) (p1 : Int32) (res : Int32) (hF : X7_lookerAt o_data p1 = some res) : Met l yX7_lookerAt wsX7_lookerAt ({ frames := 1, cells := 0, slots := 0, locals := 22 } : Room) (kP (EN D cy) D [.ref q_o, .int p1] [(q_o, .inr (7, [x_o_thrown, x_o_buffer, x_o_bufferLength, x_o_textLength, x_o_position, x_o_error, x_o_errorAt, x_o_errorOffset, .ref q_o_data, x_o_draft, x_o_aside, x_o_history, x_o_undoDepth, x_o_numberStart, x_o_nesting, x_o_seen, x_o_toldPlanes, x_o_stack, x_o_facts])), (q_o_data, .inl (cy 0, 2243, .inl o_data))] sz) (kQi D res [(q_o, .inr (7, [x_o_thrown, x_o_buffer, x_o_bufferLength, x_o_textLength, x_o_position, x_o_error, x_o_errorAt, x_o_errorOffset, .ref q_o_data, x_o_draft, x_o_aside, x_o_history, x_o_undoDepth, x_o_numberStart, x_o_nesting, x_o_seen, x_o_toldPlanes, x_o_stack, x_o_facts])), (q_o_data, .inl (cy 0, 2243, .inl o_data))] (va_A [(q_o, .inr (7, [x_o_thrown, x_o_buffer, x_o_bufferLength, x_o_textLength, x_o_position, x_o_error, x_o_errorAt, x_o_errorOffset, .ref q_o_data, x_o_draft, x_o_aside, x_o_history, x_o_undoDepth, x_o_numberStart, x_o_nesting, x_o_seen, x_o_toldPlanes, x_o_stack, x_o_facts])), (q_o_data, .inl (cy 0, 2243, .inl o_data))] sz)) 0 0 (va_A [(q_o, .inr (7, [x_o_thrown, x_o_buffer, x_o_bufferLength, x_o_textLength, x_o_position, x_o_error, x_o_errorAt, x_o_errorOffset, .ref q_o_data, x_o_draft, x_o_aside, x_o_history, x_o_undoDepth, x_o_numberStart, x_o_nesting, x_o_seen, x_o_toldPlanes, x_o_stack, x_o_facts])), (q_o_data, .inl (cy 0, 2243, .inl o_data))] sz) := by
  refine kMet (y := yX7_lookerAt) (av := [.ref q_o, .int p1]) (cc := cX7_lookerAt) (maxL := 3) (ret := some .int) (own := RX7) (Qc := fun A9 => (kQi D res [(q_o, .inr (7, [x_o_thrown, x_o_buffer, x_o_bufferLength, x_o_textLength, x_o_position, x_o_error, x_o_errorAt, x_o_errorOffset, .ref q_o_data, x_o_draft, x_o_aside, x_o_history, x_o_undoDepth, x_o_numberStart, x_o_nesting, x_o_seen, x_o_toldPlanes, x_o_stack, x_o_facts])), (q_o_data, .inl (cy 0, 2243, .inl o_data))] A9)) (by decide) rfl rfl (Nat.le_of_ble_eq_true rfl) ?_
  intro p e s m args below meth c A hx hb hr hts hown hml hlocks hname hE hP hD hA hsz ls hl
  have hK := hE.1
  have hl : lv_has ls 3 [(0, .ref q_o), (1, .int p1)] := hl
  have hS : va_S A s.heap s.heap [] := va_S.rf
  have f_f17 := hts (.fieldLink RX7 17 "PeepBoxModel" "data" "[I") (by decide +kernel)
  have f_inX7 : ∀ w ∈ wsX70, w ∈ wsX7_lookerAt := by decide +kernel
  obtain ⟨QQ, hQQ⟩ : ∃ Q9, Q9 = MQ below (kQi D res [(q_o, .inr (7, [x_o_thrown, x_o_buffer, x_o_bufferLength, x_o_textLength, x_o_position, x_o_error, x_o_errorAt, x_o_errorOffset, .ref q_o_data, x_o_draft, x_o_aside, x_o_history, x_o_undoDepth, x_o_numberStart, x_o_nesting, x_o_seen, x_o_toldPlanes, x_o_stack, x_o_facts])), (q_o_data, .inl (cy 0, 2243, .inl o_data))] A) args s 0 0 A := ⟨_, rfl⟩
  rw [← hQQ]
  have J2 : ∀ (n2 : Nat) (l2 : Int32) (H : Heap) (locs : List Loc) (ls : Array Slot), va_P D vwCl [(q_o, .inr (7, [x_o_thrown, x_o_buffer, x_o_bufferLength, x_o_textLength, x_o_position, x_o_error, x_o_errorAt, x_o_errorOffset, .ref q_o_data, x_o_draft, x_o_aside, x_o_history, x_o_undoDepth, x_o_numberStart, x_o_nesting, x_o_seen, x_o_toldPlanes, x_o_stack, x_o_facts])), (q_o_data, .inl (cy 0, 2243, .inl o_data))] H → va_D A [(q_o, .inr (7, [x_o_thrown, x_o_buffer, x_o_bufferLength, x_o_textLength, x_o_position, x_o_error, x_o_errorAt, x_o_errorOffset, .ref q_o_data, x_o_draft, x_o_aside, x_o_history, x_o_undoDepth, x_o_numberStart, x_o_nesting, x_o_seen, x_o_toldPlanes, x_o_stack, x_o_facts])), (q_o_data, .inl (cy 0, 2243, .inl o_data))] → va_S A s.heap H locs → lv_has ls 3 [(0, .ref q_o), (1, .int p1), (2, .int l2)] → X7_lookerAt_L2 o_data p1 n2 l2 = some res → W p l e ({ frames := 1, cells := 0, slots := 0, locals := 22 } : Room) s m args below meth c H locs 0 0 QQ (F0 m 2 ls []) := by
    intro n2
    induction n2 with
    | zero =>
      intro l2 H locs ls hP hD hS hl hF
      rw [X7_lookerAt_L2] at hF
      cases hF
    | succ n2 ih2 =>
      have J35 : ∀ (l2 : Int32) (H : Heap) (locs : List Loc) (ls : Array Slot), va_P D vwCl [(q_o, .inr (7, [x_o_thrown, x_o_buffer, x_o_bufferLength, x_o_textLength, x_o_position, x_o_error, x_o_errorAt, x_o_errorOffset, .ref q_o_data, x_o_draft, x_o_aside, x_o_history, x_o_undoDepth, x_o_numberStart, x_o_nesting, x_o_seen, x_o_toldPlanes, x_o_stack, x_o_facts])), (q_o_data, .inl (cy 0, 2243, .inl o_data))] H → va_D A [(q_o, .inr (7, [x_o_thrown, x_o_buffer, x_o_bufferLength, x_o_textLength, x_o_position, x_o_error, x_o_errorAt, x_o_errorOffset, .ref q_o_data, x_o_draft, x_o_aside, x_o_history, x_o_undoDepth, x_o_numberStart, x_o_nesting, x_o_seen, x_o_toldPlanes, x_o_stack, x_o_facts])), (q_o_data, .inl (cy 0, 2243, .inl o_data))] → va_S A s.heap H locs → lv_has ls 3 [(0, .ref q_o), (1, .int p1), (2, .int l2)] → X7_lookerAt_J35 o_data p1 (fun z0 => X7_lookerAt_L2 o_data p1 n2 z0) l2 = some res → W p l e ({ frames := 1, cells := 0, slots := 0, locals := 22 } : Room) s m args below meth c H locs 0 0 QQ (F0 m 35 ls []) := by
        intro l2 H locs ls hP hD hS hl hF
        unfold X7_lookerAt_J35 at hF
        obtain ⟨v1, ev1⟩ : ∃ y : Int32, y = l2 + (1 : Int32) := ⟨_, rfl⟩
        have hF := nm_o hF v1 ev1
        refine lv_iinc (v := v1) (lv' := [(2, .int v1), (0, .ref q_o), (1, .int p1)]) hx hb dX7_lookerAt_35 hl (k := 2) rfl (by rw [ev1]; rfl) (by decide) rfl (fun ls hl => ?_)
        refine lv_goto (tgt := 2) hx hb dX7_lookerAt_38 (by decide) ?_
        exact ih2 v1 H locs ls hP hD hS (lv_sub hl [1, 2, 0] rfl) hF
      intro l2 H locs ls hP hD hS hl hF
      rw [X7_lookerAt_L2] at hF
      refine lv_iload_n hx hb dX7_lookerAt_2 rfl (lv_at hl 2 rfl) ?_
      refine lv_aload_n hx hb dX7_lookerAt_3 rfl (lv_at hl 0 rfl) ?_
      refine va_get (D := D) (ci := 7) (v := .ref q_o_data) (C := RX7) (T := TX7) (N := 19) hx hb hts f_inX7 hown hK hP 0 rfl rfl 8 (by decide) f_f17 (fun _ h9 => h9) rfl dX7_lookerAt_4 ?_
      refine lv_bipush (v := 7) hx hb dX7_lookerAt_7 (by decide) ?_
      obtain ⟨h2, hF⟩ := ld_o hF
      refine va_iald hx hb hK hP 1 0 rfl rfl h2 dX7_lookerAt_9 ?_
      refine lv_topi (fun v3 ev3 => ?_)
      have hF := hF v3 ev3
      refine lv_icmp_ge (tgt := 41) hx hb dX7_lookerAt_10 (by decide) (fun c4 => ?_) (fun c4 => ?_)
      · have hF := if_p hF c4
        refine lv_iconst (v := -1) hx hb dX7_lookerAt_41 (by decide) ?_
        obtain rfl := so_o hF
        rw [hQQ]
        exact kr_i hx hb hr hlocks hP hD hS dX7_lookerAt_42
      · have hF := if_n hF c4
        refine lv_aload_n hx hb dX7_lookerAt_13 rfl (lv_at hl 0 rfl) ?_
        refine lv_iload_n hx hb dX7_lookerAt_14 rfl (lv_at hl 2 rfl) ?_
        refine lv_iconst (v := 3) hx hb dX7_lookerAt_15 (by decide) ?_
        obtain ⟨r5, h6, hF⟩ := bn1_o hF
        refine kd_i [(q_o, .inr (7, [x_o_thrown, x_o_buffer, x_o_bufferLength, x_o_textLength, x_o_position, x_o_error, x_o_errorAt, x_o_errorOffset, .ref q_o_data, x_o_draft, x_o_aside, x_o_history, x_o_undoDepth, x_o_numberStart, x_o_nesting, x_o_seen, x_o_toldPlanes, x_o_stack, x_o_facts])), (q_o_data, .inl (cy 0, 2243, .inl o_data))] (va_runV (As := [.int l2, .int (3 : Int32)]) (rest := []) ⟨hx, hb, hml, hown, hts⟩ (c_X7_of q_o q_o_data H.size x_o_thrown x_o_buffer x_o_bufferLength x_o_textLength x_o_position x_o_error x_o_errorAt x_o_errorOffset x_o_draft x_o_aside x_o_history x_o_undoDepth x_o_numberStart x_o_nesting x_o_seen x_o_toldPlanes x_o_stack x_o_facts o_data l2 (3 : Int32) _ h6) (cwV 2 hts gX7_lookerAt_X7_of rfl rfl rfl kd_X7_of ⟨Nat.le_of_ble_eq_true rfl, Nat.le_of_ble_eq_true rfl⟩) ⟨kP_blind (EN_ok D cy) D _ _ _, va_recv hK hP (ci := 7) (q0 := 0) rfl rfl, kStart (EN_ok D cy) hE hP hD hS hA [0, 1] rfl rfl _⟩ rfl rfl hl.1 rfl (lv_room (Nat.le_of_ble_eq_true rfl)) dX7_lookerAt_16 ⟨Nat.zero_le _, Nat.zero_le _⟩) hP hD hS hA [0, 1] [] rfl rfl rfl 2 rfl (by decide +kernel) (fun H locs hP hD hS => ?_)
        refine lv_iconst (v := 1) hx hb dX7_lookerAt_19 (by decide) ?_
        refine lv_icmp_ne (tgt := 35) hx hb dX7_lookerAt_20 (by decide) (fun c7 => ?_) (fun c7 => ?_)
        · have hF := if_n hF c7
          exact J35 l2 H locs ls hP hD hS (lv_sub hl [0, 1, 2] rfl) hF
        · have hF := if_p hF c7
          refine lv_aload_n hx hb dX7_lookerAt_23 rfl (lv_at hl 0 rfl) ?_
          refine lv_iload_n hx hb dX7_lookerAt_24 rfl (lv_at hl 2 rfl) ?_
          refine lv_iconst (v := 4) hx hb dX7_lookerAt_25 (by decide) ?_
          obtain ⟨r8, h9, hF⟩ := bn1_o hF
          refine kd_i [(q_o, .inr (7, [x_o_thrown, x_o_buffer, x_o_bufferLength, x_o_textLength, x_o_position, x_o_error, x_o_errorAt, x_o_errorOffset, .ref q_o_data, x_o_draft, x_o_aside, x_o_history, x_o_undoDepth, x_o_numberStart, x_o_nesting, x_o_seen, x_o_toldPlanes, x_o_stack, x_o_facts])), (q_o_data, .inl (cy 0, 2243, .inl o_data))] (va_runV (As := [.int l2, .int (4 : Int32)]) (rest := []) ⟨hx, hb, hml, hown, hts⟩ (c_X7_of q_o q_o_data H.size x_o_thrown x_o_buffer x_o_bufferLength x_o_textLength x_o_position x_o_error x_o_errorAt x_o_errorOffset x_o_draft x_o_aside x_o_history x_o_undoDepth x_o_numberStart x_o_nesting x_o_seen x_o_toldPlanes x_o_stack x_o_facts o_data l2 (4 : Int32) _ h9) (cwV 2 hts gX7_lookerAt_X7_of rfl rfl rfl kd_X7_of ⟨Nat.le_of_ble_eq_true rfl, Nat.le_of_ble_eq_true rfl⟩) ⟨kP_blind (EN_ok D cy) D _ _ _, va_recv hK hP (ci := 7) (q0 := 0) rfl rfl, kStart (EN_ok D cy) hE hP hD hS hA [0, 1] rfl rfl _⟩ rfl rfl hl.1 rfl (lv_room (Nat.le_of_ble_eq_true rfl)) dX7_lookerAt_26 ⟨Nat.zero_le _, Nat.zero_le _⟩) hP hD hS hA [0, 1] [] rfl rfl rfl 2 rfl (by decide +kernel) (fun H locs hP hD hS => ?_)
          refine lv_iload_n hx hb dX7_lookerAt_29 rfl (lv_at hl 1 rfl) ?_
          refine lv_icmp_ne (tgt := 35) hx hb dX7_lookerAt_30 (by decide) (fun c10 => ?_) (fun c10 => ?_)
          · have hF := if_n hF c10
            exact J35 l2 H locs ls hP hD hS (lv_sub hl [0, 1, 2] rfl) hF
          · have hF := if_p hF c10
            refine lv_iload_n hx hb dX7_lookerAt_33 rfl (lv_at hl 2 rfl) ?_
            obtain rfl := so_o hF
            rw [hQQ]
            exact kr_i hx hb hr hlocks hP hD hS dX7_lookerAt_34
  have main : ∀ (H : Heap) (locs : List Loc) (ls : Array Slot), va_P D vwCl [(q_o, .inr (7, [x_o_thrown, x_o_buffer, x_o_bufferLength, x_o_textLength, x_o_position, x_o_error, x_o_errorAt, x_o_errorOffset, .ref q_o_data, x_o_draft, x_o_aside, x_o_history, x_o_undoDepth, x_o_numberStart, x_o_nesting, x_o_seen, x_o_toldPlanes, x_o_stack, x_o_facts])), (q_o_data, .inl (cy 0, 2243, .inl o_data))] H → va_D A [(q_o, .inr (7, [x_o_thrown, x_o_buffer, x_o_bufferLength, x_o_textLength, x_o_position, x_o_error, x_o_errorAt, x_o_errorOffset, .ref q_o_data, x_o_draft, x_o_aside, x_o_history, x_o_undoDepth, x_o_numberStart, x_o_nesting, x_o_seen, x_o_toldPlanes, x_o_stack, x_o_facts])), (q_o_data, .inl (cy 0, 2243, .inl o_data))] → va_S A s.heap H locs → lv_has ls 3 [(0, .ref q_o), (1, .int p1)] → W p l e ({ frames := 1, cells := 0, slots := 0, locals := 22 } : Room) s m args below meth c H locs 0 0 QQ (F0 m 0 ls []) := by
    intro H locs ls hP hD hS hl
    unfold X7_lookerAt at hF
    refine lv_iconst (v := 0) hx hb dX7_lookerAt_0 (by decide) ?_
    refine lv_istore_n (lv' := [(2, .int (0 : Int32)), (0, .ref q_o), (1, .int p1)]) hx hb dX7_lookerAt_1 rfl hl (by decide) rfl (fun ls hl => ?_)
    exact J2 FU (0 : Int32) H locs ls hP hD hS (lv_sub hl [1, 2, 0] rfl) hF
  exact main s.heap [] ls hP hD hS hl
theorem kd_X7_inState : yX7_inState.cls = RX7 ∧ yX7_inState.cls ≠ "java/lang/invoke/MethodHandle" ∧ yX7_inState.cls ≠ "java/lang/invoke/VarHandle" ∧ (parseMethodDescriptor yX7_inState.desc).map (fun d => d.parameters.length) = some 1 := by decide +kernel
set_option maxHeartbeats 4000000 in
set_option maxRecDepth 100000 in
theorem c_X7_inState {l : Launch} {D : va_G} {cy : Nat → ClassId} (q_o q_o_data : Nat) (sz : Nat) (x_o_thrown x_o_buffer x_o_bufferLength x_o_textLength x_o_position x_o_error x_o_errorAt x_o_errorOffset x_o_draft x_o_aside x_o_history x_o_undoDepth x_o_numberStart x_o_nesting x_o_seen x_o_toldPlanes x_o_stack x_o_facts : Value) (o_data : Nat → Int32) (p1 : Int32) (res : Int32) (hF : X7_inState o_data p1 = some res) : Met l yX7_inState wsX7_inState ({ frames := 1, cells := 0, slots := 0, locals := 22 } : Room) (kP (EN D cy) D [.ref q_o, .int p1] [(q_o, .inr (7, [x_o_thrown, x_o_buffer, x_o_bufferLength, x_o_textLength, x_o_position, x_o_error, x_o_errorAt, x_o_errorOffset, .ref q_o_data, x_o_draft, x_o_aside, x_o_history, x_o_undoDepth, x_o_numberStart, x_o_nesting, x_o_seen, x_o_toldPlanes, x_o_stack, x_o_facts])), (q_o_data, .inl (cy 0, 2243, .inl o_data))] sz) (kQi D res [(q_o, .inr (7, [x_o_thrown, x_o_buffer, x_o_bufferLength, x_o_textLength, x_o_position, x_o_error, x_o_errorAt, x_o_errorOffset, .ref q_o_data, x_o_draft, x_o_aside, x_o_history, x_o_undoDepth, x_o_numberStart, x_o_nesting, x_o_seen, x_o_toldPlanes, x_o_stack, x_o_facts])), (q_o_data, .inl (cy 0, 2243, .inl o_data))] (va_A [(q_o, .inr (7, [x_o_thrown, x_o_buffer, x_o_bufferLength, x_o_textLength, x_o_position, x_o_error, x_o_errorAt, x_o_errorOffset, .ref q_o_data, x_o_draft, x_o_aside, x_o_history, x_o_undoDepth, x_o_numberStart, x_o_nesting, x_o_seen, x_o_toldPlanes, x_o_stack, x_o_facts])), (q_o_data, .inl (cy 0, 2243, .inl o_data))] sz)) 0 0 (va_A [(q_o, .inr (7, [x_o_thrown, x_o_buffer, x_o_bufferLength, x_o_textLength, x_o_position, x_o_error, x_o_errorAt, x_o_errorOffset, .ref q_o_data, x_o_draft, x_o_aside, x_o_history, x_o_undoDepth, x_o_numberStart, x_o_nesting, x_o_seen, x_o_toldPlanes, x_o_stack, x_o_facts])), (q_o_data, .inl (cy 0, 2243, .inl o_data))] sz) := by
  refine kMet (y := yX7_inState) (av := [.ref q_o, .int p1]) (cc := cX7_inState) (maxL := 4) (ret := some .int) (own := RX7) (Qc := fun A9 => (kQi D res [(q_o, .inr (7, [x_o_thrown, x_o_buffer, x_o_bufferLength, x_o_textLength, x_o_position, x_o_error, x_o_errorAt, x_o_errorOffset, .ref q_o_data, x_o_draft, x_o_aside, x_o_history, x_o_undoDepth, x_o_numberStart, x_o_nesting, x_o_seen, x_o_toldPlanes, x_o_stack, x_o_facts])), (q_o_data, .inl (cy 0, 2243, .inl o_data))] A9)) (by decide) rfl rfl (Nat.le_of_ble_eq_true rfl) ?_
  intro p e s m args below meth c A hx hb hr hts hown hml hlocks hname hE hP hD hA hsz ls hl
  have hK := hE.1
  have hl : lv_has ls 4 [(0, .ref q_o), (1, .int p1)] := hl
  have hS : va_S A s.heap s.heap [] := va_S.rf
  have f_f17 := hts (.fieldLink RX7 17 "PeepBoxModel" "data" "[I") (by decide +kernel)
  have f_inX7 : ∀ w ∈ wsX70, w ∈ wsX7_inState := by decide +kernel
  obtain ⟨QQ, hQQ⟩ : ∃ Q9, Q9 = MQ below (kQi D res [(q_o, .inr (7, [x_o_thrown, x_o_buffer, x_o_bufferLength, x_o_textLength, x_o_position, x_o_error, x_o_errorAt, x_o_errorOffset, .ref q_o_data, x_o_draft, x_o_aside, x_o_history, x_o_undoDepth, x_o_numberStart, x_o_nesting, x_o_seen, x_o_toldPlanes, x_o_stack, x_o_facts])), (q_o_data, .inl (cy 0, 2243, .inl o_data))] A) args s 0 0 A := ⟨_, rfl⟩
  rw [← hQQ]
  have J4 : ∀ (n4 : Nat) (l2 : Int32) (l3 : Int32) (H : Heap) (locs : List Loc) (ls : Array Slot), va_P D vwCl [(q_o, .inr (7, [x_o_thrown, x_o_buffer, x_o_bufferLength, x_o_textLength, x_o_position, x_o_error, x_o_errorAt, x_o_errorOffset, .ref q_o_data, x_o_draft, x_o_aside, x_o_history, x_o_undoDepth, x_o_numberStart, x_o_nesting, x_o_seen, x_o_toldPlanes, x_o_stack, x_o_facts])), (q_o_data, .inl (cy 0, 2243, .inl o_data))] H → va_D A [(q_o, .inr (7, [x_o_thrown, x_o_buffer, x_o_bufferLength, x_o_textLength, x_o_position, x_o_error, x_o_errorAt, x_o_errorOffset, .ref q_o_data, x_o_draft, x_o_aside, x_o_history, x_o_undoDepth, x_o_numberStart, x_o_nesting, x_o_seen, x_o_toldPlanes, x_o_stack, x_o_facts])), (q_o_data, .inl (cy 0, 2243, .inl o_data))] → va_S A s.heap H locs → lv_has ls 4 [(0, .ref q_o), (1, .int p1), (2, .int l2), (3, .int l3)] → X7_inState_L4 o_data p1 n4 l2 l3 = some res → W p l e ({ frames := 1, cells := 0, slots := 0, locals := 22 } : Room) s m args below meth c H locs 0 0 QQ (F0 m 4 ls []) := by
    intro n4
    induction n4 with
    | zero =>
      intro l2 l3 H locs ls hP hD hS hl hF
      rw [X7_inState_L4] at hF
      cases hF
    | succ n4 ih4 =>
      have J31 : ∀ (l3 : Int32) (k0 : Int32) (k1 : Int32) (H : Heap) (locs : List Loc) (ls : Array Slot), va_P D vwCl [(q_o, .inr (7, [x_o_thrown, x_o_buffer, x_o_bufferLength, x_o_textLength, x_o_position, x_o_error, x_o_errorAt, x_o_errorOffset, .ref q_o_data, x_o_draft, x_o_aside, x_o_history, x_o_undoDepth, x_o_numberStart, x_o_nesting, x_o_seen, x_o_toldPlanes, x_o_stack, x_o_facts])), (q_o_data, .inl (cy 0, 2243, .inl o_data))] H → va_D A [(q_o, .inr (7, [x_o_thrown, x_o_buffer, x_o_bufferLength, x_o_textLength, x_o_position, x_o_error, x_o_errorAt, x_o_errorOffset, .ref q_o_data, x_o_draft, x_o_aside, x_o_history, x_o_undoDepth, x_o_numberStart, x_o_nesting, x_o_seen, x_o_toldPlanes, x_o_stack, x_o_facts])), (q_o_data, .inl (cy 0, 2243, .inl o_data))] → va_S A s.heap H locs → lv_has ls 4 [(0, .ref q_o), (1, .int p1), (3, .int l3)] → X7_inState_J31 o_data p1 (fun z0 z1 => X7_inState_L4 o_data p1 n4 z0 z1) l3 k0 k1 = some res → W p l e ({ frames := 1, cells := 0, slots := 0, locals := 22 } : Room) s m args below meth c H locs 0 0 QQ (F0 m 31 ls [.int k1, .int k0]) := by
        intro l3 k0 k1 H locs ls hP hD hS hl hF
        unfold X7_inState_J31 at hF
        refine lv_iadd hx hb dX7_inState_31 ?_
        refine lv_topi (fun v1 ev1 => ?_)
        have hF := nm_o hF v1 ev1
        refine lv_istore_n (lv' := [(2, .int v1), (0, .ref q_o), (1, .int p1), (3, .int l3)]) hx hb dX7_inState_32 rfl hl (by decide) rfl (fun ls hl => ?_)
        obtain ⟨v2, ev2⟩ : ∃ y : Int32, y = l3 + (1 : Int32) := ⟨_, rfl⟩
        have hF := nm_o hF v2 ev2
        refine lv_iinc (v := v2) (lv' := [(3, .int v2), (2, .int v1), (0, .ref q_o), (1, .int p1)]) hx hb dX7_inState_33 hl (k := 3) rfl (by rw [ev2]; rfl) (by decide) rfl (fun ls hl => ?_)
        refine lv_goto (tgt := 4) hx hb dX7_inState_36 (by decide) ?_
        exact ih4 v1 v2 H locs ls hP hD hS (lv_sub hl [2, 3, 1, 0] rfl) hF
      intro l2 l3 H locs ls hP hD hS hl hF
      rw [X7_inState_L4] at hF
      refine lv_iload_n hx hb dX7_inState_4 rfl (lv_at hl 3 rfl) ?_
      refine lv_aload_n hx hb dX7_inState_5 rfl (lv_at hl 0 rfl) ?_
      refine va_get (D := D) (ci := 7) (v := .ref q_o_data) (C := RX7) (T := TX7) (N := 19) hx hb hts f_inX7 hown hK hP 0 rfl rfl 8 (by decide) f_f17 (fun _ h9 => h9) rfl dX7_inState_6 ?_
      refine lv_bipush (v := 7) hx hb dX7_inState_9 (by decide) ?_
      obtain ⟨h3, hF⟩ := ld_o hF
      refine va_iald hx hb hK hP 1 0 rfl rfl h3 dX7_inState_11 ?_
      refine lv_topi (fun v4 ev4 => ?_)
      have hF := hF v4 ev4
      refine lv_icmp_ge (tgt := 39) hx hb dX7_inState_12 (by decide) (fun c5 => ?_) (fun c5 => ?_)
      · have hF := if_p hF c5
        refine lv_iload_n hx hb dX7_inState_39 rfl (lv_at hl 2 rfl) ?_
        obtain rfl := so_o hF
        rw [hQQ]
        exact kr_i hx hb hr hlocks hP hD hS dX7_inState_40
      · have hF := if_n hF c5
        refine lv_iload_n hx hb dX7_inState_15 rfl (lv_at hl 2 rfl) ?_
        refine lv_aload_n hx hb dX7_inState_16 rfl (lv_at hl 0 rfl) ?_
        refine lv_iload_n hx hb dX7_inState_17 rfl (lv_at hl 3 rfl) ?_
        refine lv_iconst (v := 3) hx hb dX7_inState_18 (by decide) ?_
        obtain ⟨r6, h7, hF⟩ := bn1_o hF
        refine kd_i [(q_o, .inr (7, [x_o_thrown, x_o_buffer, x_o_bufferLength, x_o_textLength, x_o_position, x_o_error, x_o_errorAt, x_o_errorOffset, .ref q_o_data, x_o_draft, x_o_aside, x_o_history, x_o_undoDepth, x_o_numberStart, x_o_nesting, x_o_seen, x_o_toldPlanes, x_o_stack, x_o_facts])), (q_o_data, .inl (cy 0, 2243, .inl o_data))] (va_runV (As := [.int l3, .int (3 : Int32)]) (rest := [.int l2]) ⟨hx, hb, hml, hown, hts⟩ (c_X7_of q_o q_o_data H.size x_o_thrown x_o_buffer x_o_bufferLength x_o_textLength x_o_position x_o_error x_o_errorAt x_o_errorOffset x_o_draft x_o_aside x_o_history x_o_undoDepth x_o_numberStart x_o_nesting x_o_seen x_o_toldPlanes x_o_stack x_o_facts o_data l3 (3 : Int32) _ h7) (cwV 2 hts gX7_inState_X7_of rfl rfl rfl kd_X7_of ⟨Nat.le_of_ble_eq_true rfl, Nat.le_of_ble_eq_true rfl⟩) ⟨kP_blind (EN_ok D cy) D _ _ _, va_recv hK hP (ci := 7) (q0 := 0) rfl rfl, kStart (EN_ok D cy) hE hP hD hS hA [0, 1] rfl rfl _⟩ rfl rfl hl.1 rfl (lv_room (Nat.le_of_ble_eq_true rfl)) dX7_inState_19 ⟨Nat.zero_le _, Nat.zero_le _⟩) hP hD hS hA [0, 1] [] rfl rfl rfl 2 rfl (by decide +kernel) (fun H locs hP hD hS => ?_)
        refine lv_iload_n hx hb dX7_inState_22 rfl (lv_at hl 1 rfl) ?_
        refine lv_icmp_ne (tgt := 30) hx hb dX7_inState_23 (by decide) (fun c8 => ?_) (fun c8 => ?_)
        · have hF := if_n hF c8
          refine lv_iconst (v := 0) hx hb dX7_inState_30 (by decide) ?_
          exact J31 l3 l2 (0 : Int32) H locs ls hP hD hS (lv_sub hl [0, 1, 3] rfl) hF
        · have hF := if_p hF c8
          refine lv_iconst (v := 1) hx hb dX7_inState_26 (by decide) ?_
          refine lv_goto (tgt := 31) hx hb dX7_inState_27 (by decide) ?_
          exact J31 l3 l2 (1 : Int32) H locs ls hP hD hS (lv_sub hl [0, 1, 3] rfl) hF
  have main : ∀ (H : Heap) (locs : List Loc) (ls : Array Slot), va_P D vwCl [(q_o, .inr (7, [x_o_thrown, x_o_buffer, x_o_bufferLength, x_o_textLength, x_o_position, x_o_error, x_o_errorAt, x_o_errorOffset, .ref q_o_data, x_o_draft, x_o_aside, x_o_history, x_o_undoDepth, x_o_numberStart, x_o_nesting, x_o_seen, x_o_toldPlanes, x_o_stack, x_o_facts])), (q_o_data, .inl (cy 0, 2243, .inl o_data))] H → va_D A [(q_o, .inr (7, [x_o_thrown, x_o_buffer, x_o_bufferLength, x_o_textLength, x_o_position, x_o_error, x_o_errorAt, x_o_errorOffset, .ref q_o_data, x_o_draft, x_o_aside, x_o_history, x_o_undoDepth, x_o_numberStart, x_o_nesting, x_o_seen, x_o_toldPlanes, x_o_stack, x_o_facts])), (q_o_data, .inl (cy 0, 2243, .inl o_data))] → va_S A s.heap H locs → lv_has ls 4 [(0, .ref q_o), (1, .int p1)] → W p l e ({ frames := 1, cells := 0, slots := 0, locals := 22 } : Room) s m args below meth c H locs 0 0 QQ (F0 m 0 ls []) := by
    intro H locs ls hP hD hS hl
    unfold X7_inState at hF
    refine lv_iconst (v := 0) hx hb dX7_inState_0 (by decide) ?_
    refine lv_istore_n (lv' := [(2, .int (0 : Int32)), (0, .ref q_o), (1, .int p1)]) hx hb dX7_inState_1 rfl hl (by decide) rfl (fun ls hl => ?_)
    refine lv_iconst (v := 0) hx hb dX7_inState_2 (by decide) ?_
    refine lv_istore_n (lv' := [(3, .int (0 : Int32)), (2, .int (0 : Int32)), (0, .ref q_o), (1, .int p1)]) hx hb dX7_inState_3 rfl hl (by decide) rfl (fun ls hl => ?_)
    exact J4 FU (0 : Int32) (0 : Int32) H locs ls hP hD hS (lv_sub hl [2, 3, 1, 0] rfl) hF
  exact main s.heap [] ls hP hD hS hl
theorem kd_X7_paidInAll : yX7_paidInAll.cls = RX7 ∧ yX7_paidInAll.cls ≠ "java/lang/invoke/MethodHandle" ∧ yX7_paidInAll.cls ≠ "java/lang/invoke/VarHandle" ∧ (parseMethodDescriptor yX7_paidInAll.desc).map (fun d => d.parameters.length) = some 0 := by decide +kernel
set_option maxHeartbeats 4000000 in
set_option maxRecDepth 100000 in
theorem c_X7_paidInAll {l : Launch} {D : va_G} {cy : Nat → ClassId} (q_o q_o_data : Nat) (sz : Nat) (x_o_thrown x_o_buffer x_o_bufferLength x_o_textLength x_o_position x_o_error x_o_errorAt x_o_errorOffset x_o_draft x_o_aside x_o_history x_o_undoDepth x_o_numberStart x_o_nesting x_o_seen x_o_toldPlanes x_o_stack x_o_facts : Value) (o_data : Nat → Int32) (res : Int32) (hF : X7_paidInAll o_data = some res) : Met l yX7_paidInAll wsX7_paidInAll ({ frames := 1, cells := 0, slots := 0, locals := 22 } : Room) (kP (EN D cy) D [.ref q_o] [(q_o, .inr (7, [x_o_thrown, x_o_buffer, x_o_bufferLength, x_o_textLength, x_o_position, x_o_error, x_o_errorAt, x_o_errorOffset, .ref q_o_data, x_o_draft, x_o_aside, x_o_history, x_o_undoDepth, x_o_numberStart, x_o_nesting, x_o_seen, x_o_toldPlanes, x_o_stack, x_o_facts])), (q_o_data, .inl (cy 0, 2243, .inl o_data))] sz) (kQi D res [(q_o, .inr (7, [x_o_thrown, x_o_buffer, x_o_bufferLength, x_o_textLength, x_o_position, x_o_error, x_o_errorAt, x_o_errorOffset, .ref q_o_data, x_o_draft, x_o_aside, x_o_history, x_o_undoDepth, x_o_numberStart, x_o_nesting, x_o_seen, x_o_toldPlanes, x_o_stack, x_o_facts])), (q_o_data, .inl (cy 0, 2243, .inl o_data))] (va_A [(q_o, .inr (7, [x_o_thrown, x_o_buffer, x_o_bufferLength, x_o_textLength, x_o_position, x_o_error, x_o_errorAt, x_o_errorOffset, .ref q_o_data, x_o_draft, x_o_aside, x_o_history, x_o_undoDepth, x_o_numberStart, x_o_nesting, x_o_seen, x_o_toldPlanes, x_o_stack, x_o_facts])), (q_o_data, .inl (cy 0, 2243, .inl o_data))] sz)) 0 0 (va_A [(q_o, .inr (7, [x_o_thrown, x_o_buffer, x_o_bufferLength, x_o_textLength, x_o_position, x_o_error, x_o_errorAt, x_o_errorOffset, .ref q_o_data, x_o_draft, x_o_aside, x_o_history, x_o_undoDepth, x_o_numberStart, x_o_nesting, x_o_seen, x_o_toldPlanes, x_o_stack, x_o_facts])), (q_o_data, .inl (cy 0, 2243, .inl o_data))] sz) := by
  refine kMet (y := yX7_paidInAll) (av := [.ref q_o]) (cc := cX7_paidInAll) (maxL := 3) (ret := some .int) (own := RX7) (Qc := fun A9 => (kQi D res [(q_o, .inr (7, [x_o_thrown, x_o_buffer, x_o_bufferLength, x_o_textLength, x_o_position, x_o_error, x_o_errorAt, x_o_errorOffset, .ref q_o_data, x_o_draft, x_o_aside, x_o_history, x_o_undoDepth, x_o_numberStart, x_o_nesting, x_o_seen, x_o_toldPlanes, x_o_stack, x_o_facts])), (q_o_data, .inl (cy 0, 2243, .inl o_data))] A9)) (by decide) rfl rfl (Nat.le_of_ble_eq_true rfl) ?_
  intro p e s m args below meth c A hx hb hr hts hown hml hlocks hname hE hP hD hA hsz ls hl
  have hK := hE.1
  have hl : lv_has ls 3 [(0, .ref q_o)] := hl
  have hS : va_S A s.heap s.heap [] := va_S.rf
  have f_f17 := hts (.fieldLink RX7 17 "PeepBoxModel" "data" "[I") (by decide +kernel)
  have f_inX7 : ∀ w ∈ wsX70, w ∈ wsX7_paidInAll := by decide +kernel
  obtain ⟨QQ, hQQ⟩ : ∃ Q9, Q9 = MQ below (kQi D res [(q_o, .inr (7, [x_o_thrown, x_o_buffer, x_o_bufferLength, x_o_textLength, x_o_position, x_o_error, x_o_errorAt, x_o_errorOffset, .ref q_o_data, x_o_draft, x_o_aside, x_o_history, x_o_undoDepth, x_o_numberStart, x_o_nesting, x_o_seen, x_o_toldPlanes, x_o_stack, x_o_facts])), (q_o_data, .inl (cy 0, 2243, .inl o_data))] A) args s 0 0 A := ⟨_, rfl⟩
  rw [← hQQ]
  have J4 : ∀ (n4 : Nat) (l1 : Int32) (l2 : Int32) (H : Heap) (locs : List Loc) (ls : Array Slot), va_P D vwCl [(q_o, .inr (7, [x_o_thrown, x_o_buffer, x_o_bufferLength, x_o_textLength, x_o_position, x_o_error, x_o_errorAt, x_o_errorOffset, .ref q_o_data, x_o_draft, x_o_aside, x_o_history, x_o_undoDepth, x_o_numberStart, x_o_nesting, x_o_seen, x_o_toldPlanes, x_o_stack, x_o_facts])), (q_o_data, .inl (cy 0, 2243, .inl o_data))] H → va_D A [(q_o, .inr (7, [x_o_thrown, x_o_buffer, x_o_bufferLength, x_o_textLength, x_o_position, x_o_error, x_o_errorAt, x_o_errorOffset, .ref q_o_data, x_o_draft, x_o_aside, x_o_history, x_o_undoDepth, x_o_numberStart, x_o_nesting, x_o_seen, x_o_toldPlanes, x_o_stack, x_o_facts])), (q_o_data, .inl (cy 0, 2243, .inl o_data))] → va_S A s.heap H locs → lv_has ls 3 [(0, .ref q_o), (1, .int l1), (2, .int l2)] → X7_paidInAll_L4 o_data n4 l1 l2 = some res → W p l e ({ frames := 1, cells := 0, slots := 0, locals := 22 } : Room) s m args below meth c H locs 0 0 QQ (F0 m 4 ls []) := by
    intro n4
    induction n4 with
    | zero =>
      intro l1 l2 H locs ls hP hD hS hl hF
      rw [X7_paidInAll_L4] at hF
      cases hF
    | succ n4 ih4 =>
      intro l1 l2 H locs ls hP hD hS hl hF
      rw [X7_paidInAll_L4] at hF
      refine lv_iload_n hx hb dX7_paidInAll_4 rfl (lv_at hl 2 rfl) ?_
      refine lv_aload_n hx hb dX7_paidInAll_5 rfl (lv_at hl 0 rfl) ?_
      refine va_get (D := D) (ci := 7) (v := .ref q_o_data) (C := RX7) (T := TX7) (N := 19) hx hb hts f_inX7 hown hK hP 0 rfl rfl 8 (by decide) f_f17 (fun _ h9 => h9) rfl dX7_paidInAll_6 ?_
      refine lv_bipush (v := 7) hx hb dX7_paidInAll_9 (by decide) ?_
      obtain ⟨h1, hF⟩ := ld_o hF
      refine va_iald hx hb hK hP 1 0 rfl rfl h1 dX7_paidInAll_11 ?_
      refine lv_topi (fun v2 ev2 => ?_)
      have hF := hF v2 ev2
      refine lv_icmp_ge (tgt := 31) hx hb dX7_paidInAll_12 (by decide) (fun c3 => ?_) (fun c3 => ?_)
      · have hF := if_p hF c3
        refine lv_iload_n hx hb dX7_paidInAll_31 rfl (lv_at hl 1 rfl) ?_
        obtain rfl := so_o hF
        rw [hQQ]
        exact kr_i hx hb hr hlocks hP hD hS dX7_paidInAll_32
      · have hF := if_n hF c3
        refine lv_iload_n hx hb dX7_paidInAll_15 rfl (lv_at hl 1 rfl) ?_
        refine lv_aload_n hx hb dX7_paidInAll_16 rfl (lv_at hl 0 rfl) ?_
        refine lv_iload_n hx hb dX7_paidInAll_17 rfl (lv_at hl 2 rfl) ?_
        refine lv_bipush (v := 6) hx hb dX7_paidInAll_18 (by decide) ?_
        obtain ⟨r4, h5, hF⟩ := bn1_o hF
        refine kd_i [(q_o, .inr (7, [x_o_thrown, x_o_buffer, x_o_bufferLength, x_o_textLength, x_o_position, x_o_error, x_o_errorAt, x_o_errorOffset, .ref q_o_data, x_o_draft, x_o_aside, x_o_history, x_o_undoDepth, x_o_numberStart, x_o_nesting, x_o_seen, x_o_toldPlanes, x_o_stack, x_o_facts])), (q_o_data, .inl (cy 0, 2243, .inl o_data))] (va_runV (As := [.int l2, .int (6 : Int32)]) (rest := [.int l1]) ⟨hx, hb, hml, hown, hts⟩ (c_X7_of q_o q_o_data H.size x_o_thrown x_o_buffer x_o_bufferLength x_o_textLength x_o_position x_o_error x_o_errorAt x_o_errorOffset x_o_draft x_o_aside x_o_history x_o_undoDepth x_o_numberStart x_o_nesting x_o_seen x_o_toldPlanes x_o_stack x_o_facts o_data l2 (6 : Int32) _ h5) (cwV 2 hts gX7_paidInAll_X7_of rfl rfl rfl kd_X7_of ⟨Nat.le_of_ble_eq_true rfl, Nat.le_of_ble_eq_true rfl⟩) ⟨kP_blind (EN_ok D cy) D _ _ _, va_recv hK hP (ci := 7) (q0 := 0) rfl rfl, kStart (EN_ok D cy) hE hP hD hS hA [0, 1] rfl rfl _⟩ rfl rfl hl.1 rfl (lv_room (Nat.le_of_ble_eq_true rfl)) dX7_paidInAll_20 ⟨Nat.zero_le _, Nat.zero_le _⟩) hP hD hS hA [0, 1] [] rfl rfl rfl 2 rfl (by decide +kernel) (fun H locs hP hD hS => ?_)
        refine lv_iadd hx hb dX7_paidInAll_23 ?_
        refine lv_topi (fun v6 ev6 => ?_)
        have hF := nm_o hF v6 ev6
        refine lv_istore_n (lv' := [(1, .int v6), (0, .ref q_o), (2, .int l2)]) hx hb dX7_paidInAll_24 rfl hl (by decide) rfl (fun ls hl => ?_)
        obtain ⟨v7, ev7⟩ : ∃ y : Int32, y = l2 + (1 : Int32) := ⟨_, rfl⟩
        have hF := nm_o hF v7 ev7
        refine lv_iinc (v := v7) (lv' := [(2, .int v7), (1, .int v6), (0, .ref q_o)]) hx hb dX7_paidInAll_25 hl (k := 2) rfl (by rw [ev7]; rfl) (by decide) rfl (fun ls hl => ?_)
        refine lv_goto (tgt := 4) hx hb dX7_paidInAll_28 (by decide) ?_
        exact ih4 v6 v7 H locs ls hP hD hS (lv_sub hl [2, 1, 0] rfl) hF
  have main : ∀ (H : Heap) (locs : List Loc) (ls : Array Slot), va_P D vwCl [(q_o, .inr (7, [x_o_thrown, x_o_buffer, x_o_bufferLength, x_o_textLength, x_o_position, x_o_error, x_o_errorAt, x_o_errorOffset, .ref q_o_data, x_o_draft, x_o_aside, x_o_history, x_o_undoDepth, x_o_numberStart, x_o_nesting, x_o_seen, x_o_toldPlanes, x_o_stack, x_o_facts])), (q_o_data, .inl (cy 0, 2243, .inl o_data))] H → va_D A [(q_o, .inr (7, [x_o_thrown, x_o_buffer, x_o_bufferLength, x_o_textLength, x_o_position, x_o_error, x_o_errorAt, x_o_errorOffset, .ref q_o_data, x_o_draft, x_o_aside, x_o_history, x_o_undoDepth, x_o_numberStart, x_o_nesting, x_o_seen, x_o_toldPlanes, x_o_stack, x_o_facts])), (q_o_data, .inl (cy 0, 2243, .inl o_data))] → va_S A s.heap H locs → lv_has ls 3 [(0, .ref q_o)] → W p l e ({ frames := 1, cells := 0, slots := 0, locals := 22 } : Room) s m args below meth c H locs 0 0 QQ (F0 m 0 ls []) := by
    intro H locs ls hP hD hS hl
    unfold X7_paidInAll at hF
    refine lv_iconst (v := 0) hx hb dX7_paidInAll_0 (by decide) ?_
    refine lv_istore_n (lv' := [(1, .int (0 : Int32)), (0, .ref q_o)]) hx hb dX7_paidInAll_1 rfl hl (by decide) rfl (fun ls hl => ?_)
    refine lv_iconst (v := 0) hx hb dX7_paidInAll_2 (by decide) ?_
    refine lv_istore_n (lv' := [(2, .int (0 : Int32)), (1, .int (0 : Int32)), (0, .ref q_o)]) hx hb dX7_paidInAll_3 rfl hl (by decide) rfl (fun ls hl => ?_)
    exact J4 FU (0 : Int32) (0 : Int32) H locs ls hP hD hS (lv_sub hl [2, 1, 0] rfl) hF
  exact main s.heap [] ls hP hD hS hl
theorem kd_X7_look : yX7_look.cls = RX7 ∧ yX7_look.cls ≠ "java/lang/invoke/MethodHandle" ∧ yX7_look.cls ≠ "java/lang/invoke/VarHandle" ∧ (parseMethodDescriptor yX7_look.desc).map (fun d => d.parameters.length) = some 1 := by decide +kernel
set_option maxHeartbeats 4000000 in
set_option maxRecDepth 100000 in
theorem c_X7_look {l : Launch} {D : va_G} {cy : Nat → ClassId} (q_o q_o_data q_o_stack q_o_facts : Nat) (sz : Nat) (x_o_thrown x_o_buffer x_o_bufferLength x_o_textLength x_o_position x_o_error x_o_errorAt x_o_errorOffset x_o_draft x_o_aside x_o_history x_o_undoDepth x_o_numberStart x_o_nesting x_o_seen x_o_toldPlanes : Value) (o_data : Nat → Int32) (o_stack : Nat → Int64) (o_facts : Nat → Int32) (p1 : Int32) (res : (Nat → Int32) × (Nat → Int64) × (Nat → Int32)) (hF : X7_look o_data o_stack o_facts p1 = some res) : Met l yX7_look wsX7_look ({ frames := 6, cells := 0, slots := 0, locals := 139 } : Room) (kP (EN D cy) D [.ref q_o, .int p1] [(q_o, .inr (7, [x_o_thrown, x_o_buffer, x_o_bufferLength, x_o_textLength, x_o_position, x_o_error, x_o_errorAt, x_o_errorOffset, .ref q_o_data, x_o_draft, x_o_aside, x_o_history, x_o_undoDepth, x_o_numberStart, x_o_nesting, x_o_seen, x_o_toldPlanes, .ref q_o_stack, .ref q_o_facts])), (q_o_data, .inl (cy 0, 2243, .inl o_data)), (q_o_stack, .inl (cy 2, 1600, .inr (.inl o_stack))), (q_o_facts, .inl (cy 0, 4, .inl o_facts))] sz) (kQv D [(q_o, .inr (7, [x_o_thrown, x_o_buffer, x_o_bufferLength, x_o_textLength, x_o_position, x_o_error, x_o_errorAt, x_o_errorOffset, .ref q_o_data, x_o_draft, x_o_aside, x_o_history, x_o_undoDepth, x_o_numberStart, x_o_nesting, x_o_seen, x_o_toldPlanes, .ref q_o_stack, .ref q_o_facts])), (q_o_data, .inl (cy 0, 2243, .inl res.1)), (q_o_stack, .inl (cy 2, 1600, .inr (.inl res.2.1))), (q_o_facts, .inl (cy 0, 4, .inl res.2.2))] (va_A [(q_o, .inr (7, [x_o_thrown, x_o_buffer, x_o_bufferLength, x_o_textLength, x_o_position, x_o_error, x_o_errorAt, x_o_errorOffset, .ref q_o_data, x_o_draft, x_o_aside, x_o_history, x_o_undoDepth, x_o_numberStart, x_o_nesting, x_o_seen, x_o_toldPlanes, .ref q_o_stack, .ref q_o_facts])), (q_o_data, .inl (cy 0, 2243, .inl o_data)), (q_o_stack, .inl (cy 2, 1600, .inr (.inl o_stack))), (q_o_facts, .inl (cy 0, 4, .inl o_facts))] sz)) 0 0 (va_A [(q_o, .inr (7, [x_o_thrown, x_o_buffer, x_o_bufferLength, x_o_textLength, x_o_position, x_o_error, x_o_errorAt, x_o_errorOffset, .ref q_o_data, x_o_draft, x_o_aside, x_o_history, x_o_undoDepth, x_o_numberStart, x_o_nesting, x_o_seen, x_o_toldPlanes, .ref q_o_stack, .ref q_o_facts])), (q_o_data, .inl (cy 0, 2243, .inl o_data)), (q_o_stack, .inl (cy 2, 1600, .inr (.inl o_stack))), (q_o_facts, .inl (cy 0, 4, .inl o_facts))] sz) := by
  refine kMet (y := yX7_look) (av := [.ref q_o, .int p1]) (cc := cX7_look) (maxL := 3) (ret := none) (own := RX7) (Qc := fun A9 => (kQv D [(q_o, .inr (7, [x_o_thrown, x_o_buffer, x_o_bufferLength, x_o_textLength, x_o_position, x_o_error, x_o_errorAt, x_o_errorOffset, .ref q_o_data, x_o_draft, x_o_aside, x_o_history, x_o_undoDepth, x_o_numberStart, x_o_nesting, x_o_seen, x_o_toldPlanes, .ref q_o_stack, .ref q_o_facts])), (q_o_data, .inl (cy 0, 2243, .inl res.1)), (q_o_stack, .inl (cy 2, 1600, .inr (.inl res.2.1))), (q_o_facts, .inl (cy 0, 4, .inl res.2.2))] A9)) (by decide) rfl rfl (Nat.le_of_ble_eq_true rfl) ?_
  intro p e s m args below meth c A hx hb hr hts hown hml hlocks hname hE hP hD hA hsz ls hl
  have hK := hE.1
  have hl : lv_has ls 3 [(0, .ref q_o), (1, .int p1)] := hl
  have hS : va_S A s.heap s.heap [] := va_S.rf
  obtain ⟨QQ, hQQ⟩ : ∃ Q9, Q9 = MQ below (kQv D [(q_o, .inr (7, [x_o_thrown, x_o_buffer, x_o_bufferLength, x_o_textLength, x_o_position, x_o_error, x_o_errorAt, x_o_errorOffset, .ref q_o_data, x_o_draft, x_o_aside, x_o_history, x_o_undoDepth, x_o_numberStart, x_o_nesting, x_o_seen, x_o_toldPlanes, .ref q_o_stack, .ref q_o_facts])), (q_o_data, .inl (cy 0, 2243, .inl res.1)), (q_o_stack, .inl (cy 2, 1600, .inr (.inl res.2.1))), (q_o_facts, .inl (cy 0, 4, .inl res.2.2))] A) args s 0 0 A := ⟨_, rfl⟩
  rw [← hQQ]
  have main : ∀ (H : Heap) (locs : List Loc) (ls : Array Slot), va_P D vwCl [(q_o, .inr (7, [x_o_thrown, x_o_buffer, x_o_bufferLength, x_o_textLength, x_o_position, x_o_error, x_o_errorAt, x_o_errorOffset, .ref q_o_data, x_o_draft, x_o_aside, x_o_history, x_o_undoDepth, x_o_numberStart, x_o_nesting, x_o_seen, x_o_toldPlanes, .ref q_o_stack, .ref q_o_facts])), (q_o_data, .inl (cy 0, 2243, .inl o_data)), (q_o_stack, .inl (cy 2, 1600, .inr (.inl o_stack))), (q_o_facts, .inl (cy 0, 4, .inl o_facts))] H → va_D A [(q_o, .inr (7, [x_o_thrown, x_o_buffer, x_o_bufferLength, x_o_textLength, x_o_position, x_o_error, x_o_errorAt, x_o_errorOffset, .ref q_o_data, x_o_draft, x_o_aside, x_o_history, x_o_undoDepth, x_o_numberStart, x_o_nesting, x_o_seen, x_o_toldPlanes, .ref q_o_stack, .ref q_o_facts])), (q_o_data, .inl (cy 0, 2243, .inl o_data)), (q_o_stack, .inl (cy 2, 1600, .inr (.inl o_stack))), (q_o_facts, .inl (cy 0, 4, .inl o_facts))] → va_S A s.heap H locs → lv_has ls 3 [(0, .ref q_o), (1, .int p1)] → W p l e ({ frames := 6, cells := 0, slots := 0, locals := 139 } : Room) s m args below meth c H locs 0 0 QQ (F0 m 0 ls []) := by
    intro H locs ls hP hD hS hl
    unfold X7_look at hF
    refine lv_aload_n hx hb dX7_look_0 rfl (lv_at hl 0 rfl) ?_
    refine lv_iload_n hx hb dX7_look_1 rfl (lv_at hl 1 rfl) ?_
    refine lv_iconst (v := 5) hx hb dX7_look_2 (by decide) ?_
    refine lv_aload_n hx hb dX7_look_3 rfl (lv_at hl 0 rfl) ?_
    refine lv_iload_n hx hb dX7_look_4 rfl (lv_at hl 1 rfl) ?_
    refine lv_iconst (v := 5) hx hb dX7_look_5 (by decide) ?_
    obtain ⟨r1, h2, hF⟩ := bn1_o hF
    refine kd_i [(q_o, .inr (7, [x_o_thrown, x_o_buffer, x_o_bufferLength, x_o_textLength, x_o_position, x_o_error, x_o_errorAt, x_o_errorOffset, .ref q_o_data, x_o_draft, x_o_aside, x_o_history, x_o_undoDepth, x_o_numberStart, x_o_nesting, x_o_seen, x_o_toldPlanes, .ref q_o_stack, .ref q_o_facts])), (q_o_data, .inl (cy 0, 2243, .inl o_data)), (q_o_stack, .inl (cy 2, 1600, .inr (.inl o_stack))), (q_o_facts, .inl (cy 0, 4, .inl o_facts))] (va_runV (As := [.int p1, .int (5 : Int32)]) (rest := [.int (5 : Int32), .int p1, .ref q_o]) ⟨hx, hb, hml, hown, hts⟩ (c_X7_of q_o q_o_data H.size x_o_thrown x_o_buffer x_o_bufferLength x_o_textLength x_o_position x_o_error x_o_errorAt x_o_errorOffset x_o_draft x_o_aside x_o_history x_o_undoDepth x_o_numberStart x_o_nesting x_o_seen x_o_toldPlanes (.ref q_o_stack) (.ref q_o_facts) o_data p1 (5 : Int32) _ h2) (cwV 2 hts gX7_look_X7_of rfl rfl rfl kd_X7_of ⟨Nat.le_of_ble_eq_true rfl, Nat.le_of_ble_eq_true rfl⟩) ⟨kP_blind (EN_ok D cy) D _ _ _, va_recv hK hP (ci := 7) (q0 := 0) rfl rfl, kStart (EN_ok D cy) hE hP hD hS hA [0, 1] rfl rfl _⟩ rfl rfl hl.1 rfl (lv_room (Nat.le_of_ble_eq_true rfl)) dX7_look_6 ⟨Nat.zero_le _, Nat.zero_le _⟩) hP hD hS hA [0, 1] [2, 3] rfl rfl rfl 4 rfl (by decide +kernel) (fun H locs hP hD hS => ?_)
    refine lv_iconst (v := 1) hx hb dX7_look_9 (by decide) ?_
    refine lv_isub hx hb dX7_look_10 ?_
    obtain ⟨o3, h4, hF⟩ := bn1_o hF
    refine kd_v [(q_o, .inr (7, [x_o_thrown, x_o_buffer, x_o_bufferLength, x_o_textLength, x_o_position, x_o_error, x_o_errorAt, x_o_errorOffset, .ref q_o_data, x_o_draft, x_o_aside, x_o_history, x_o_undoDepth, x_o_numberStart, x_o_nesting, x_o_seen, x_o_toldPlanes, .ref q_o_stack, .ref q_o_facts])), (q_o_data, .inl (cy 0, 2243, .inl o3)), (q_o_stack, .inl (cy 2, 1600, .inr (.inl o_stack))), (q_o_facts, .inl (cy 0, 4, .inl o_facts))] (va_runV (As := [.int p1, .int (5 : Int32), .int (r1 - (1 : Int32))]) (rest := []) ⟨hx, hb, hml, hown, hts⟩ (c_X7_set q_o q_o_data H.size x_o_thrown x_o_buffer x_o_bufferLength x_o_textLength x_o_position x_o_error x_o_errorAt x_o_errorOffset x_o_draft x_o_aside x_o_history x_o_undoDepth x_o_numberStart x_o_nesting x_o_seen x_o_toldPlanes (.ref q_o_stack) (.ref q_o_facts) o_data p1 (5 : Int32) (r1 - (1 : Int32)) _ h4) (cwV 3 hts gX7_look_X7_set rfl rfl rfl kd_X7_set ⟨Nat.le_of_ble_eq_true rfl, Nat.le_of_ble_eq_true rfl⟩) ⟨kP_blind (EN_ok D cy) D _ _ _, va_recv hK hP (ci := 7) (q0 := 0) rfl rfl, kStart (EN_ok D cy) hE hP hD hS hA [0, 1] rfl rfl _⟩ rfl rfl hl.1 rfl (lv_room (Nat.le_of_ble_eq_true rfl)) dX7_look_11 ⟨Nat.zero_le _, Nat.zero_le _⟩) hP hD hS hA [0, 1] [2, 3] rfl rfl rfl 4 rfl (by decide +kernel) (fun H locs hP hD hS => ?_)
    refine lv_aload_n hx hb dX7_look_14 rfl (lv_at hl 0 rfl) ?_
    refine lv_iload_n hx hb dX7_look_15 rfl (lv_at hl 1 rfl) ?_
    refine lv_iconst (v := 5) hx hb dX7_look_16 (by decide) ?_
    obtain ⟨r5, h6, hF⟩ := bn1_o hF
    refine kd_i [(q_o, .inr (7, [x_o_thrown, x_o_buffer, x_o_bufferLength, x_o_textLength, x_o_position, x_o_error, x_o_errorAt, x_o_errorOffset, .ref q_o_data, x_o_draft, x_o_aside, x_o_history, x_o_undoDepth, x_o_numberStart, x_o_nesting, x_o_seen, x_o_toldPlanes, .ref q_o_stack, .ref q_o_facts])), (q_o_data, .inl (cy 0, 2243, .inl o3)), (q_o_stack, .inl (cy 2, 1600, .inr (.inl o_stack))), (q_o_facts, .inl (cy 0, 4, .inl o_facts))] (va_runV (As := [.int p1, .int (5 : Int32)]) (rest := []) ⟨hx, hb, hml, hown, hts⟩ (c_X7_of q_o q_o_data H.size x_o_thrown x_o_buffer x_o_bufferLength x_o_textLength x_o_position x_o_error x_o_errorAt x_o_errorOffset x_o_draft x_o_aside x_o_history x_o_undoDepth x_o_numberStart x_o_nesting x_o_seen x_o_toldPlanes (.ref q_o_stack) (.ref q_o_facts) o3 p1 (5 : Int32) _ h6) (cwV 2 hts gX7_look_X7_of rfl rfl rfl kd_X7_of ⟨Nat.le_of_ble_eq_true rfl, Nat.le_of_ble_eq_true rfl⟩) ⟨kP_blind (EN_ok D cy) D _ _ _, va_recv hK hP (ci := 7) (q0 := 0) rfl rfl, kStart (EN_ok D cy) hE hP hD hS hA [0, 1] rfl rfl _⟩ rfl rfl hl.1 rfl (lv_room (Nat.le_of_ble_eq_true rfl)) dX7_look_17 ⟨Nat.zero_le _, Nat.zero_le _⟩) hP hD hS hA [0, 1] [2, 3] rfl rfl rfl 4 rfl (by decide +kernel) (fun H locs hP hD hS => ?_)
    refine lv_if_le (tgt := 24) hx hb dX7_look_20 (by decide) (fun c7 => ?_) (fun c7 => ?_)
    · have hF := if_p hF c7
      refine lv_aload_n hx hb dX7_look_24 rfl (lv_at hl 0 rfl) ?_
      refine lv_iload_n hx hb dX7_look_25 rfl (lv_at hl 1 rfl) ?_
      refine lv_iconst (v := 2) hx hb dX7_look_26 (by decide) ?_
      obtain ⟨r8, h9, hF⟩ := bn1_o hF
      refine kd_i [(q_o, .inr (7, [x_o_thrown, x_o_buffer, x_o_bufferLength, x_o_textLength, x_o_position, x_o_error, x_o_errorAt, x_o_errorOffset, .ref q_o_data, x_o_draft, x_o_aside, x_o_history, x_o_undoDepth, x_o_numberStart, x_o_nesting, x_o_seen, x_o_toldPlanes, .ref q_o_stack, .ref q_o_facts])), (q_o_data, .inl (cy 0, 2243, .inl o3)), (q_o_stack, .inl (cy 2, 1600, .inr (.inl o_stack))), (q_o_facts, .inl (cy 0, 4, .inl o_facts))] (va_runV (As := [.int p1, .int (2 : Int32)]) (rest := []) ⟨hx, hb, hml, hown, hts⟩ (c_X7_of q_o q_o_data H.size x_o_thrown x_o_buffer x_o_bufferLength x_o_textLength x_o_position x_o_error x_o_errorAt x_o_errorOffset x_o_draft x_o_aside x_o_history x_o_undoDepth x_o_numberStart x_o_nesting x_o_seen x_o_toldPlanes (.ref q_o_stack) (.ref q_o_facts) o3 p1 (2 : Int32) _ h9) (cwV 2 hts gX7_look_X7_of rfl rfl rfl kd_X7_of ⟨Nat.le_of_ble_eq_true rfl, Nat.le_of_ble_eq_true rfl⟩) ⟨kP_blind (EN_ok D cy) D _ _ _, va_recv hK hP (ci := 7) (q0 := 0) rfl rfl, kStart (EN_ok D cy) hE hP hD hS hA [0, 1] rfl rfl _⟩ rfl rfl hl.1 rfl (lv_room (Nat.le_of_ble_eq_true rfl)) dX7_look_27 ⟨Nat.zero_le _, Nat.zero_le _⟩) hP hD hS hA [0, 1] [2, 3] rfl rfl rfl 4 rfl (by decide +kernel) (fun H locs hP hD hS => ?_)
      refine lv_aload_n hx hb dX7_look_30 rfl (lv_at hl 0 rfl) ?_
      refine lv_aload_n hx hb dX7_look_31 rfl (lv_at hl 0 rfl) ?_
      refine lv_iload_n hx hb dX7_look_32 rfl (lv_at hl 1 rfl) ?_
      refine lv_iconst (v := 1) hx hb dX7_look_33 (by decide) ?_
      obtain ⟨r10, h11, hF⟩ := bn1_o hF
      refine kd_i [(q_o, .inr (7, [x_o_thrown, x_o_buffer, x_o_bufferLength, x_o_textLength, x_o_position, x_o_error, x_o_errorAt, x_o_errorOffset, .ref q_o_data, x_o_draft, x_o_aside, x_o_history, x_o_undoDepth, x_o_numberStart, x_o_nesting, x_o_seen, x_o_toldPlanes, .ref q_o_stack, .ref q_o_facts])), (q_o_data, .inl (cy 0, 2243, .inl o3)), (q_o_stack, .inl (cy 2, 1600, .inr (.inl o_stack))), (q_o_facts, .inl (cy 0, 4, .inl o_facts))] (va_runV (As := [.int p1, .int (1 : Int32)]) (rest := [.ref q_o, .int r8]) ⟨hx, hb, hml, hown, hts⟩ (c_X7_of q_o q_o_data H.size x_o_thrown x_o_buffer x_o_bufferLength x_o_textLength x_o_position x_o_error x_o_errorAt x_o_errorOffset x_o_draft x_o_aside x_o_history x_o_undoDepth x_o_numberStart x_o_nesting x_o_seen x_o_toldPlanes (.ref q_o_stack) (.ref q_o_facts) o3 p1 (1 : Int32) _ h11) (cwV 2 hts gX7_look_X7_of rfl rfl rfl kd_X7_of ⟨Nat.le_of_ble_eq_true rfl, Nat.le_of_ble_eq_true rfl⟩) ⟨kP_blind (EN_ok D cy) D _ _ _, va_recv hK hP (ci := 7) (q0 := 0) rfl rfl, kStart (EN_ok D cy) hE hP hD hS hA [0, 1] rfl rfl _⟩ rfl rfl hl.1 rfl (lv_room (Nat.le_of_ble_eq_true rfl)) dX7_look_34 ⟨Nat.zero_le _, Nat.zero_le _⟩) hP hD hS hA [0, 1] [2, 3] rfl rfl rfl 4 rfl (by decide +kernel) (fun H locs hP hD hS => ?_)
      refine lv_aload_n hx hb dX7_look_37 rfl (lv_at hl 0 rfl) ?_
      refine lv_iload_n hx hb dX7_look_38 rfl (lv_at hl 1 rfl) ?_
      refine lv_iconst (v := 4) hx hb dX7_look_39 (by decide) ?_
      obtain ⟨r12, h13, hF⟩ := bn1_o hF
      refine kd_i [(q_o, .inr (7, [x_o_thrown, x_o_buffer, x_o_bufferLength, x_o_textLength, x_o_position, x_o_error, x_o_errorAt, x_o_errorOffset, .ref q_o_data, x_o_draft, x_o_aside, x_o_history, x_o_undoDepth, x_o_numberStart, x_o_nesting, x_o_seen, x_o_toldPlanes, .ref q_o_stack, .ref q_o_facts])), (q_o_data, .inl (cy 0, 2243, .inl o3)), (q_o_stack, .inl (cy 2, 1600, .inr (.inl o_stack))), (q_o_facts, .inl (cy 0, 4, .inl o_facts))] (va_runV (As := [.int p1, .int (4 : Int32)]) (rest := [.int r10, .ref q_o, .int r8]) ⟨hx, hb, hml, hown, hts⟩ (c_X7_of q_o q_o_data H.size x_o_thrown x_o_buffer x_o_bufferLength x_o_textLength x_o_position x_o_error x_o_errorAt x_o_errorOffset x_o_draft x_o_aside x_o_history x_o_undoDepth x_o_numberStart x_o_nesting x_o_seen x_o_toldPlanes (.ref q_o_stack) (.ref q_o_facts) o3 p1 (4 : Int32) _ h13) (cwV 2 hts gX7_look_X7_of rfl rfl rfl kd_X7_of ⟨Nat.le_of_ble_eq_true rfl, Nat.le_of_ble_eq_true rfl⟩) ⟨kP_blind (EN_ok D cy) D _ _ _, va_recv hK hP (ci := 7) (q0 := 0) rfl rfl, kStart (EN_ok D cy) hE hP hD hS hA [0, 1] rfl rfl _⟩ rfl rfl hl.1 rfl (lv_room (Nat.le_of_ble_eq_true rfl)) dX7_look_40 ⟨Nat.zero_le _, Nat.zero_le _⟩) hP hD hS hA [0, 1] [2, 3] rfl rfl rfl 4 rfl (by decide +kernel) (fun H locs hP hD hS => ?_)
      obtain ⟨r14, o15, o16, h17, hF⟩ := bn3_o hF
      refine kd_i [(q_o, .inr (7, [x_o_thrown, x_o_buffer, x_o_bufferLength, x_o_textLength, x_o_position, x_o_error, x_o_errorAt, x_o_errorOffset, .ref q_o_data, x_o_draft, x_o_aside, x_o_history, x_o_undoDepth, x_o_numberStart, x_o_nesting, x_o_seen, x_o_toldPlanes, .ref q_o_stack, .ref q_o_facts])), (q_o_data, .inl (cy 0, 2243, .inl o3)), (q_o_stack, .inl (cy 2, 1600, .inr (.inl o15))), (q_o_facts, .inl (cy 0, 4, .inl o16))] (va_runV (As := [.int r10, .int r12]) (rest := [.int r8]) ⟨hx, hb, hml, hown, hts⟩ (c_X7_priceOf q_o q_o_data q_o_stack q_o_facts H.size x_o_thrown x_o_buffer x_o_bufferLength x_o_textLength x_o_position x_o_error x_o_errorAt x_o_errorOffset x_o_draft x_o_aside x_o_history x_o_undoDepth x_o_numberStart x_o_nesting x_o_seen x_o_toldPlanes o3 o_stack o_facts r10 r12 _ h17) (cwV 2 hts gX7_look_X7_priceOf rfl rfl rfl kd_X7_priceOf ⟨Nat.le_of_ble_eq_true rfl, Nat.le_of_ble_eq_true rfl⟩) ⟨kP_blind (EN_ok D cy) D _ _ _, va_recv hK hP (ci := 7) (q0 := 0) rfl rfl, kStart (EN_ok D cy) hE hP hD hS hA [0, 1, 2, 3] rfl rfl _⟩ rfl rfl hl.1 rfl (lv_room (Nat.le_of_ble_eq_true rfl)) dX7_look_43 ⟨Nat.zero_le _, Nat.zero_le _⟩) hP hD hS hA [0, 1, 2, 3] [] rfl rfl rfl 4 rfl (by decide +kernel) (fun H locs hP hD hS => ?_)
      obtain ⟨r18, h19, hF⟩ := bn1_o hF
      refine kd_i [(q_o, .inr (7, [x_o_thrown, x_o_buffer, x_o_bufferLength, x_o_textLength, x_o_position, x_o_error, x_o_errorAt, x_o_errorOffset, .ref q_o_data, x_o_draft, x_o_aside, x_o_history, x_o_undoDepth, x_o_numberStart, x_o_nesting, x_o_seen, x_o_toldPlanes, .ref q_o_stack, .ref q_o_facts])), (q_o_data, .inl (cy 0, 2243, .inl o3)), (q_o_stack, .inl (cy 2, 1600, .inr (.inl o15))), (q_o_facts, .inl (cy 0, 4, .inl o16))] (va_runS (As := [.int r8, .int r14]) (rest := []) ⟨hx, hb, hml, hown, hts⟩ (c_X7_min H.size r8 r14 _ h19) (va_cwS 2 hts gX7_look_X7_min rfl rfl rfl kd_X7_min ⟨Nat.le_of_ble_eq_true rfl, Nat.le_of_ble_eq_true rfl⟩) ⟨kP_blind (EN_ok D cy) D _ _ _, kStart (EN_ok D cy) hE hP hD hS hA [] rfl rfl _⟩ rfl rfl hl.1 rfl (lv_room (Nat.le_of_ble_eq_true rfl)) dX7_look_46 ⟨Nat.zero_le _, Nat.zero_le _⟩) hP hD hS hA [] [0, 1, 2, 3] rfl rfl rfl 4 rfl (by decide +kernel) (fun H locs hP hD hS => ?_)
      refine lv_istore_n (lv' := [(2, .int r18), (0, .ref q_o), (1, .int p1)]) hx hb dX7_look_49 rfl hl (by decide) rfl (fun ls hl => ?_)
      refine lv_aload_n hx hb dX7_look_50 rfl (lv_at hl 1 rfl) ?_
      refine lv_iload_n hx hb dX7_look_51 rfl (lv_at hl 2 rfl) ?_
      refine lv_iconst (v := 2) hx hb dX7_look_52 (by decide) ?_
      refine lv_aload_n hx hb dX7_look_53 rfl (lv_at hl 1 rfl) ?_
      refine lv_iload_n hx hb dX7_look_54 rfl (lv_at hl 2 rfl) ?_
      refine lv_iconst (v := 2) hx hb dX7_look_55 (by decide) ?_
      obtain ⟨r20, h21, hF⟩ := bn1_o hF
      refine kd_i [(q_o, .inr (7, [x_o_thrown, x_o_buffer, x_o_bufferLength, x_o_textLength, x_o_position, x_o_error, x_o_errorAt, x_o_errorOffset, .ref q_o_data, x_o_draft, x_o_aside, x_o_history, x_o_undoDepth, x_o_numberStart, x_o_nesting, x_o_seen, x_o_toldPlanes, .ref q_o_stack, .ref q_o_facts])), (q_o_data, .inl (cy 0, 2243, .inl o3)), (q_o_stack, .inl (cy 2, 1600, .inr (.inl o15))), (q_o_facts, .inl (cy 0, 4, .inl o16))] (va_runV (As := [.int p1, .int (2 : Int32)]) (rest := [.int (2 : Int32), .int p1, .ref q_o]) ⟨hx, hb, hml, hown, hts⟩ (c_X7_of q_o q_o_data H.size x_o_thrown x_o_buffer x_o_bufferLength x_o_textLength x_o_position x_o_error x_o_errorAt x_o_errorOffset x_o_draft x_o_aside x_o_history x_o_undoDepth x_o_numberStart x_o_nesting x_o_seen x_o_toldPlanes (.ref q_o_stack) (.ref q_o_facts) o3 p1 (2 : Int32) _ h21) (cwV 2 hts gX7_look_X7_of rfl rfl rfl kd_X7_of ⟨Nat.le_of_ble_eq_true rfl, Nat.le_of_ble_eq_true rfl⟩) ⟨kP_blind (EN_ok D cy) D _ _ _, va_recv hK hP (ci := 7) (q0 := 0) rfl rfl, kStart (EN_ok D cy) hE hP hD hS hA [0, 1] rfl rfl _⟩ rfl rfl hl.1 rfl (lv_room (Nat.le_of_ble_eq_true rfl)) dX7_look_56 ⟨Nat.zero_le _, Nat.zero_le _⟩) hP hD hS hA [0, 1] [2, 3] rfl rfl rfl 4 rfl (by decide +kernel) (fun H locs hP hD hS => ?_)
      refine lv_iload_n hx hb dX7_look_59 rfl (lv_at hl 0 rfl) ?_
      refine lv_isub hx hb dX7_look_60 ?_
      obtain ⟨o22, h23, hF⟩ := bn1_o hF
      refine kd_v [(q_o, .inr (7, [x_o_thrown, x_o_buffer, x_o_bufferLength, x_o_textLength, x_o_position, x_o_error, x_o_errorAt, x_o_errorOffset, .ref q_o_data, x_o_draft, x_o_aside, x_o_history, x_o_undoDepth, x_o_numberStart, x_o_nesting, x_o_seen, x_o_toldPlanes, .ref q_o_stack, .ref q_o_facts])), (q_o_data, .inl (cy 0, 2243, .inl o22)), (q_o_stack, .inl (cy 2, 1600, .inr (.inl o15))), (q_o_facts, .inl (cy 0, 4, .inl o16))] (va_runV (As := [.int p1, .int (2 : Int32), .int (r20 - r18)]) (rest := []) ⟨hx, hb, hml, hown, hts⟩ (c_X7_set q_o q_o_data H.size x_o_thrown x_o_buffer x_o_bufferLength x_o_textLength x_o_position x_o_error x_o_errorAt x_o_errorOffset x_o_draft x_o_aside x_o_history x_o_undoDepth x_o_numberStart x_o_nesting x_o_seen x_o_toldPlanes (.ref q_o_stack) (.ref q_o_facts) o3 p1 (2 : Int32) (r20 - r18) _ h23) (cwV 3 hts gX7_look_X7_set rfl rfl rfl kd_X7_set ⟨Nat.le_of_ble_eq_true rfl, Nat.le_of_ble_eq_true rfl⟩) ⟨kP_blind (EN_ok D cy) D _ _ _, va_recv hK hP (ci := 7) (q0 := 0) rfl rfl, kStart (EN_ok D cy) hE hP hD hS hA [0, 1] rfl rfl _⟩ rfl rfl hl.1 rfl (lv_room (Nat.le_of_ble_eq_true rfl)) dX7_look_61 ⟨Nat.zero_le _, Nat.zero_le _⟩) hP hD hS hA [0, 1] [2, 3] rfl rfl rfl 4 rfl (by decide +kernel) (fun H locs hP hD hS => ?_)
      refine lv_aload_n hx hb dX7_look_64 rfl (lv_at hl 1 rfl) ?_
      refine lv_iload_n hx hb dX7_look_65 rfl (lv_at hl 2 rfl) ?_
      refine lv_bipush (v := 6) hx hb dX7_look_66 (by decide) ?_
      refine lv_iload_n hx hb dX7_look_68 rfl (lv_at hl 0 rfl) ?_
      obtain ⟨o24, h25, hF⟩ := bn1_o hF
      refine kd_v [(q_o, .inr (7, [x_o_thrown, x_o_buffer, x_o_bufferLength, x_o_textLength, x_o_position, x_o_error, x_o_errorAt, x_o_errorOffset, .ref q_o_data, x_o_draft, x_o_aside, x_o_history, x_o_undoDepth, x_o_numberStart, x_o_nesting, x_o_seen, x_o_toldPlanes, .ref q_o_stack, .ref q_o_facts])), (q_o_data, .inl (cy 0, 2243, .inl o24)), (q_o_stack, .inl (cy 2, 1600, .inr (.inl o15))), (q_o_facts, .inl (cy 0, 4, .inl o16))] (va_runV (As := [.int p1, .int (6 : Int32), .int r18]) (rest := []) ⟨hx, hb, hml, hown, hts⟩ (c_X7_set q_o q_o_data H.size x_o_thrown x_o_buffer x_o_bufferLength x_o_textLength x_o_position x_o_error x_o_errorAt x_o_errorOffset x_o_draft x_o_aside x_o_history x_o_undoDepth x_o_numberStart x_o_nesting x_o_seen x_o_toldPlanes (.ref q_o_stack) (.ref q_o_facts) o22 p1 (6 : Int32) r18 _ h25) (cwV 3 hts gX7_look_X7_set rfl rfl rfl kd_X7_set ⟨Nat.le_of_ble_eq_true rfl, Nat.le_of_ble_eq_true rfl⟩) ⟨kP_blind (EN_ok D cy) D _ _ _, va_recv hK hP (ci := 7) (q0 := 0) rfl rfl, kStart (EN_ok D cy) hE hP hD hS hA [0, 1] rfl rfl _⟩ rfl rfl hl.1 rfl (lv_room (Nat.le_of_ble_eq_true rfl)) dX7_look_69 ⟨Nat.zero_le _, Nat.zero_le _⟩) hP hD hS hA [0, 1] [2, 3] rfl rfl rfl 4 rfl (by decide +kernel) (fun H locs hP hD hS => ?_)
      refine lv_aload_n hx hb dX7_look_72 rfl (lv_at hl 1 rfl) ?_
      refine lv_iload_n hx hb dX7_look_73 rfl (lv_at hl 2 rfl) ?_
      refine lv_iconst (v := 3) hx hb dX7_look_74 (by decide) ?_
      refine lv_iconst (v := 2) hx hb dX7_look_75 (by decide) ?_
      obtain ⟨o26, h27, hF⟩ := bn1_o hF
      refine kd_v [(q_o, .inr (7, [x_o_thrown, x_o_buffer, x_o_bufferLength, x_o_textLength, x_o_position, x_o_error, x_o_errorAt, x_o_errorOffset, .ref q_o_data, x_o_draft, x_o_aside, x_o_history, x_o_undoDepth, x_o_numberStart, x_o_nesting, x_o_seen, x_o_toldPlanes, .ref q_o_stack, .ref q_o_facts])), (q_o_data, .inl (cy 0, 2243, .inl o26)), (q_o_stack, .inl (cy 2, 1600, .inr (.inl o15))), (q_o_facts, .inl (cy 0, 4, .inl o16))] (va_runV (As := [.int p1, .int (3 : Int32), .int (2 : Int32)]) (rest := []) ⟨hx, hb, hml, hown, hts⟩ (c_X7_set q_o q_o_data H.size x_o_thrown x_o_buffer x_o_bufferLength x_o_textLength x_o_position x_o_error x_o_errorAt x_o_errorOffset x_o_draft x_o_aside x_o_history x_o_undoDepth x_o_numberStart x_o_nesting x_o_seen x_o_toldPlanes (.ref q_o_stack) (.ref q_o_facts) o24 p1 (3 : Int32) (2 : Int32) _ h27) (cwV 3 hts gX7_look_X7_set rfl rfl rfl kd_X7_set ⟨Nat.le_of_ble_eq_true rfl, Nat.le_of_ble_eq_true rfl⟩) ⟨kP_blind (EN_ok D cy) D _ _ _, va_recv hK hP (ci := 7) (q0 := 0) rfl rfl, kStart (EN_ok D cy) hE hP hD hS hA [0, 1] rfl rfl _⟩ rfl rfl hl.1 rfl (lv_room (Nat.le_of_ble_eq_true rfl)) dX7_look_76 ⟨Nat.zero_le _, Nat.zero_le _⟩) hP hD hS hA [0, 1] [2, 3] rfl rfl rfl 4 rfl (by decide +kernel) (fun H locs hP hD hS => ?_)
      refine lv_aload_n hx hb dX7_look_79 rfl (lv_at hl 1 rfl) ?_
      refine lv_iload_n hx hb dX7_look_80 rfl (lv_at hl 2 rfl) ?_
      refine lv_iconst (v := 4) hx hb dX7_look_81 (by decide) ?_
      refine lv_iconst (v := -1) hx hb dX7_look_82 (by decide) ?_
      obtain ⟨o28, h29, hF⟩ := bn1_o hF
      refine kd_v [(q_o, .inr (7, [x_o_thrown, x_o_buffer, x_o_bufferLength, x_o_textLength, x_o_position, x_o_error, x_o_errorAt, x_o_errorOffset, .ref q_o_data, x_o_draft, x_o_aside, x_o_history, x_o_undoDepth, x_o_numberStart, x_o_nesting, x_o_seen, x_o_toldPlanes, .ref q_o_stack, .ref q_o_facts])), (q_o_data, .inl (cy 0, 2243, .inl o28)), (q_o_stack, .inl (cy 2, 1600, .inr (.inl o15))), (q_o_facts, .inl (cy 0, 4, .inl o16))] (va_runV (As := [.int p1, .int (4 : Int32), .int (-1 : Int32)]) (rest := []) ⟨hx, hb, hml, hown, hts⟩ (c_X7_set q_o q_o_data H.size x_o_thrown x_o_buffer x_o_bufferLength x_o_textLength x_o_position x_o_error x_o_errorAt x_o_errorOffset x_o_draft x_o_aside x_o_history x_o_undoDepth x_o_numberStart x_o_nesting x_o_seen x_o_toldPlanes (.ref q_o_stack) (.ref q_o_facts) o26 p1 (4 : Int32) (-1 : Int32) _ h29) (cwV 3 hts gX7_look_X7_set rfl rfl rfl kd_X7_set ⟨Nat.le_of_ble_eq_true rfl, Nat.le_of_ble_eq_true rfl⟩) ⟨kP_blind (EN_ok D cy) D _ _ _, va_recv hK hP (ci := 7) (q0 := 0) rfl rfl, kStart (EN_ok D cy) hE hP hD hS hA [0, 1] rfl rfl _⟩ rfl rfl hl.1 rfl (lv_room (Nat.le_of_ble_eq_true rfl)) dX7_look_83 ⟨Nat.zero_le _, Nat.zero_le _⟩) hP hD hS hA [0, 1] [2, 3] rfl rfl rfl 4 rfl (by decide +kernel) (fun H locs hP hD hS => ?_)
      obtain rfl := so_o hF
      rw [hQQ]
      exact kr_v hx hb hr hlocks hP hD hS dX7_look_86
    · have hF := if_n hF c7
      obtain rfl := so_o hF
      rw [hQQ]
      exact kr_v hx hb hr hlocks hP hD hS dX7_look_23
  exact main s.heap [] ls hP hD hS hl
theorem kd_X7_choose : yX7_choose.cls = RX7 ∧ yX7_choose.cls ≠ "java/lang/invoke/MethodHandle" ∧ yX7_choose.cls ≠ "java/lang/invoke/VarHandle" ∧ (parseMethodDescriptor yX7_choose.desc).map (fun d => d.parameters.length) = some 1 := by decide +kernel
set_option maxHeartbeats 4000000 in
set_option maxRecDepth 100000 in
theorem c_X7_choose {l : Launch} {D : va_G} {cy : Nat → ClassId} (q_o q_o_data q_o_stack q_o_facts : Nat) (sz : Nat) (x_o_thrown x_o_buffer x_o_bufferLength x_o_textLength x_o_position x_o_error x_o_errorAt x_o_errorOffset x_o_draft x_o_aside x_o_history x_o_undoDepth x_o_numberStart x_o_nesting x_o_seen x_o_toldPlanes : Value) (o_data : Nat → Int32) (o_stack : Nat → Int64) (o_facts : Nat → Int32) (p1 : Int32) (res : (Nat → Int32) × (Nat → Int64) × (Nat → Int32)) (hF : X7_choose o_data o_stack o_facts p1 = some res) : Met l yX7_choose wsX7_choose ({ frames := 6, cells := 0, slots := 0, locals := 139 } : Room) (kP (EN D cy) D [.ref q_o, .int p1] [(q_o, .inr (7, [x_o_thrown, x_o_buffer, x_o_bufferLength, x_o_textLength, x_o_position, x_o_error, x_o_errorAt, x_o_errorOffset, .ref q_o_data, x_o_draft, x_o_aside, x_o_history, x_o_undoDepth, x_o_numberStart, x_o_nesting, x_o_seen, x_o_toldPlanes, .ref q_o_stack, .ref q_o_facts])), (q_o_data, .inl (cy 0, 2243, .inl o_data)), (q_o_stack, .inl (cy 2, 1600, .inr (.inl o_stack))), (q_o_facts, .inl (cy 0, 4, .inl o_facts))] sz) (kQv D [(q_o, .inr (7, [x_o_thrown, x_o_buffer, x_o_bufferLength, x_o_textLength, x_o_position, x_o_error, x_o_errorAt, x_o_errorOffset, .ref q_o_data, x_o_draft, x_o_aside, x_o_history, x_o_undoDepth, x_o_numberStart, x_o_nesting, x_o_seen, x_o_toldPlanes, .ref q_o_stack, .ref q_o_facts])), (q_o_data, .inl (cy 0, 2243, .inl res.1)), (q_o_stack, .inl (cy 2, 1600, .inr (.inl res.2.1))), (q_o_facts, .inl (cy 0, 4, .inl res.2.2))] (va_A [(q_o, .inr (7, [x_o_thrown, x_o_buffer, x_o_bufferLength, x_o_textLength, x_o_position, x_o_error, x_o_errorAt, x_o_errorOffset, .ref q_o_data, x_o_draft, x_o_aside, x_o_history, x_o_undoDepth, x_o_numberStart, x_o_nesting, x_o_seen, x_o_toldPlanes, .ref q_o_stack, .ref q_o_facts])), (q_o_data, .inl (cy 0, 2243, .inl o_data)), (q_o_stack, .inl (cy 2, 1600, .inr (.inl o_stack))), (q_o_facts, .inl (cy 0, 4, .inl o_facts))] sz)) 0 0 (va_A [(q_o, .inr (7, [x_o_thrown, x_o_buffer, x_o_bufferLength, x_o_textLength, x_o_position, x_o_error, x_o_errorAt, x_o_errorOffset, .ref q_o_data, x_o_draft, x_o_aside, x_o_history, x_o_undoDepth, x_o_numberStart, x_o_nesting, x_o_seen, x_o_toldPlanes, .ref q_o_stack, .ref q_o_facts])), (q_o_data, .inl (cy 0, 2243, .inl o_data)), (q_o_stack, .inl (cy 2, 1600, .inr (.inl o_stack))), (q_o_facts, .inl (cy 0, 4, .inl o_facts))] sz) := by
  refine kMet (y := yX7_choose) (av := [.ref q_o, .int p1]) (cc := cX7_choose) (maxL := 7) (ret := none) (own := RX7) (Qc := fun A9 => (kQv D [(q_o, .inr (7, [x_o_thrown, x_o_buffer, x_o_bufferLength, x_o_textLength, x_o_position, x_o_error, x_o_errorAt, x_o_errorOffset, .ref q_o_data, x_o_draft, x_o_aside, x_o_history, x_o_undoDepth, x_o_numberStart, x_o_nesting, x_o_seen, x_o_toldPlanes, .ref q_o_stack, .ref q_o_facts])), (q_o_data, .inl (cy 0, 2243, .inl res.1)), (q_o_stack, .inl (cy 2, 1600, .inr (.inl res.2.1))), (q_o_facts, .inl (cy 0, 4, .inl res.2.2))] A9)) (by decide) rfl rfl (Nat.le_of_ble_eq_true rfl) ?_
  intro p e s m args below meth c A hx hb hr hts hown hml hlocks hname hE hP hD hA hsz ls hl
  have hK := hE.1
  have hl : lv_has ls 7 [(0, .ref q_o), (1, .int p1)] := hl
  have hS : va_S A s.heap s.heap [] := va_S.rf
  have f_f17 := hts (.fieldLink RX7 17 "PeepBoxModel" "data" "[I") (by decide +kernel)
  have f_inX7 : ∀ w ∈ wsX70, w ∈ wsX7_choose := by decide +kernel
  obtain ⟨QQ, hQQ⟩ : ∃ Q9, Q9 = MQ below (kQv D [(q_o, .inr (7, [x_o_thrown, x_o_buffer, x_o_bufferLength, x_o_textLength, x_o_position, x_o_error, x_o_errorAt, x_o_errorOffset, .ref q_o_data, x_o_draft, x_o_aside, x_o_history, x_o_undoDepth, x_o_numberStart, x_o_nesting, x_o_seen, x_o_toldPlanes, .ref q_o_stack, .ref q_o_facts])), (q_o_data, .inl (cy 0, 2243, .inl res.1)), (q_o_stack, .inl (cy 2, 1600, .inr (.inl res.2.1))), (q_o_facts, .inl (cy 0, 4, .inl res.2.2))] A) args s 0 0 A := ⟨_, rfl⟩
  rw [← hQQ]
  have J120 : ∀ (l2 : Int32) (o_data : Nat → Int32) (o_stack : Nat → Int64) (o_facts : Nat → Int32) (H : Heap) (locs : List Loc) (ls : Array Slot), va_P D vwCl [(q_o, .inr (7, [x_o_thrown, x_o_buffer, x_o_bufferLength, x_o_textLength, x_o_position, x_o_error, x_o_errorAt, x_o_errorOffset, .ref q_o_data, x_o_draft, x_o_aside, x_o_history, x_o_undoDepth, x_o_numberStart, x_o_nesting, x_o_seen, x_o_toldPlanes, .ref q_o_stack, .ref q_o_facts])), (q_o_data, .inl (cy 0, 2243, .inl o_data)), (q_o_stack, .inl (cy 2, 1600, .inr (.inl o_stack))), (q_o_facts, .inl (cy 0, 4, .inl o_facts))] H → va_D A [(q_o, .inr (7, [x_o_thrown, x_o_buffer, x_o_bufferLength, x_o_textLength, x_o_position, x_o_error, x_o_errorAt, x_o_errorOffset, .ref q_o_data, x_o_draft, x_o_aside, x_o_history, x_o_undoDepth, x_o_numberStart, x_o_nesting, x_o_seen, x_o_toldPlanes, .ref q_o_stack, .ref q_o_facts])), (q_o_data, .inl (cy 0, 2243, .inl o_data)), (q_o_stack, .inl (cy 2, 1600, .inr (.inl o_stack))), (q_o_facts, .inl (cy 0, 4, .inl o_facts))] → va_S A s.heap H locs → lv_has ls 7 [(0, .ref q_o), (1, .int p1), (2, .int l2)] → X7_choose_J120 p1 l2 o_data o_stack o_facts = some res → W p l e ({ frames := 6, cells := 0, slots := 0, locals := 139 } : Room) s m args below meth c H locs 0 0 QQ (F0 m 120 ls []) := by
    intro l2 o_data o_stack o_facts H locs ls hP hD hS hl hF
    unfold X7_choose_J120 at hF
    refine lv_iload_n hx hb dX7_choose_120 rfl (lv_at hl 2 rfl) ?_
    refine lv_iconst (v := -1) hx hb dX7_choose_121 (by decide) ?_
    refine lv_icmp_ne (tgt := 126) hx hb dX7_choose_122 (by decide) (fun c1 => ?_) (fun c1 => ?_)
    · have hF := if_n hF c1
      refine lv_aload_n hx hb dX7_choose_126 rfl (lv_at hl 0 rfl) ?_
      refine lv_iload_n hx hb dX7_choose_127 rfl (lv_at hl 1 rfl) ?_
      refine lv_iconst (v := 3) hx hb dX7_choose_128 (by decide) ?_
      refine lv_iconst (v := 1) hx hb dX7_choose_129 (by decide) ?_
      obtain ⟨o2, h3, hF⟩ := bn1_o hF
      refine kd_v [(q_o, .inr (7, [x_o_thrown, x_o_buffer, x_o_bufferLength, x_o_textLength, x_o_position, x_o_error, x_o_errorAt, x_o_errorOffset, .ref q_o_data, x_o_draft, x_o_aside, x_o_history, x_o_undoDepth, x_o_numberStart, x_o_nesting, x_o_seen, x_o_toldPlanes, .ref q_o_stack, .ref q_o_facts])), (q_o_data, .inl (cy 0, 2243, .inl o2)), (q_o_stack, .inl (cy 2, 1600, .inr (.inl o_stack))), (q_o_facts, .inl (cy 0, 4, .inl o_facts))] (va_runV (As := [.int p1, .int (3 : Int32), .int (1 : Int32)]) (rest := []) ⟨hx, hb, hml, hown, hts⟩ (c_X7_set q_o q_o_data H.size x_o_thrown x_o_buffer x_o_bufferLength x_o_textLength x_o_position x_o_error x_o_errorAt x_o_errorOffset x_o_draft x_o_aside x_o_history x_o_undoDepth x_o_numberStart x_o_nesting x_o_seen x_o_toldPlanes (.ref q_o_stack) (.ref q_o_facts) o_data p1 (3 : Int32) (1 : Int32) _ h3) (cwV 3 hts gX7_choose_X7_set rfl rfl rfl kd_X7_set ⟨Nat.le_of_ble_eq_true rfl, Nat.le_of_ble_eq_true rfl⟩) ⟨kP_blind (EN_ok D cy) D _ _ _, va_recv hK hP (ci := 7) (q0 := 0) rfl rfl, kStart (EN_ok D cy) hE hP hD hS hA [0, 1] rfl rfl _⟩ rfl rfl hl.1 rfl (lv_room (Nat.le_of_ble_eq_true rfl)) dX7_choose_130 ⟨Nat.zero_le _, Nat.zero_le _⟩) hP hD hS hA [0, 1] [2, 3] rfl rfl rfl 4 rfl (by decide +kernel) (fun H locs hP hD hS => ?_)
      refine lv_aload_n hx hb dX7_choose_133 rfl (lv_at hl 0 rfl) ?_
      refine lv_iload_n hx hb dX7_choose_134 rfl (lv_at hl 1 rfl) ?_
      refine lv_iconst (v := 4) hx hb dX7_choose_135 (by decide) ?_
      refine lv_iload_n hx hb dX7_choose_136 rfl (lv_at hl 2 rfl) ?_
      obtain ⟨o4, h5, hF⟩ := bn1_o hF
      refine kd_v [(q_o, .inr (7, [x_o_thrown, x_o_buffer, x_o_bufferLength, x_o_textLength, x_o_position, x_o_error, x_o_errorAt, x_o_errorOffset, .ref q_o_data, x_o_draft, x_o_aside, x_o_history, x_o_undoDepth, x_o_numberStart, x_o_nesting, x_o_seen, x_o_toldPlanes, .ref q_o_stack, .ref q_o_facts])), (q_o_data, .inl (cy 0, 2243, .inl o4)), (q_o_stack, .inl (cy 2, 1600, .inr (.inl o_stack))), (q_o_facts, .inl (cy 0, 4, .inl o_facts))] (va_runV (As := [.int p1, .int (4 : Int32), .int l2]) (rest := []) ⟨hx, hb, hml, hown, hts⟩ (c_X7_set q_o q_o_data H.size x_o_thrown x_o_buffer x_o_bufferLength x_o_textLength x_o_position x_o_error x_o_errorAt x_o_errorOffset x_o_draft x_o_aside x_o_history x_o_undoDepth x_o_numberStart x_o_nesting x_o_seen x_o_toldPlanes (.ref q_o_stack) (.ref q_o_facts) o2 p1 (4 : Int32) l2 _ h5) (cwV 3 hts gX7_choose_X7_set rfl rfl rfl kd_X7_set ⟨Nat.le_of_ble_eq_true rfl, Nat.le_of_ble_eq_true rfl⟩) ⟨kP_blind (EN_ok D cy) D _ _ _, va_recv hK hP (ci := 7) (q0 := 0) rfl rfl, kStart (EN_ok D cy) hE hP hD hS hA [0, 1] rfl rfl _⟩ rfl rfl hl.1 rfl (lv_room (Nat.le_of_ble_eq_true rfl)) dX7_choose_137 ⟨Nat.zero_le _, Nat.zero_le _⟩) hP hD hS hA [0, 1] [2, 3] rfl rfl rfl 4 rfl (by decide +kernel) (fun H locs hP hD hS => ?_)
      refine lv_aload_n hx hb dX7_choose_140 rfl (lv_at hl 0 rfl) ?_
      refine lv_iload_n hx hb dX7_choose_141 rfl (lv_at hl 1 rfl) ?_
      refine lv_iconst (v := 5) hx hb dX7_choose_142 (by decide) ?_
      refine lv_aload_n hx hb dX7_choose_143 rfl (lv_at hl 0 rfl) ?_
      refine va_get (D := D) (ci := 7) (v := .ref q_o_data) (C := RX7) (T := TX7) (N := 19) hx hb hts f_inX7 hown hK hP 0 rfl rfl 8 (by decide) f_f17 (fun _ h9 => h9) rfl dX7_choose_144 ?_
      refine lv_iconst (v := 5) hx hb dX7_choose_147 (by decide) ?_
      obtain ⟨h6, hF⟩ := ld_o hF
      refine va_iald hx hb hK hP 1 0 rfl rfl h6 dX7_choose_148 ?_
      refine lv_topi (fun v7 ev7 => ?_)
      have hF := hF v7 ev7
      obtain ⟨o8, h9, hF⟩ := bn1_o hF
      refine kd_v [(q_o, .inr (7, [x_o_thrown, x_o_buffer, x_o_bufferLength, x_o_textLength, x_o_position, x_o_error, x_o_errorAt, x_o_errorOffset, .ref q_o_data, x_o_draft, x_o_aside, x_o_history, x_o_undoDepth, x_o_numberStart, x_o_nesting, x_o_seen, x_o_toldPlanes, .ref q_o_stack, .ref q_o_facts])), (q_o_data, .inl (cy 0, 2243, .inl o8)), (q_o_stack, .inl (cy 2, 1600, .inr (.inl o_stack))), (q_o_facts, .inl (cy 0, 4, .inl o_facts))] (va_runV (As := [.int p1, .int (5 : Int32), .int v7]) (rest := []) ⟨hx, hb, hml, hown, hts⟩ (c_X7_set q_o q_o_data H.size x_o_thrown x_o_buffer x_o_bufferLength x_o_textLength x_o_position x_o_error x_o_errorAt x_o_errorOffset x_o_draft x_o_aside x_o_history x_o_undoDepth x_o_numberStart x_o_nesting x_o_seen x_o_toldPlanes (.ref q_o_stack) (.ref q_o_facts) o4 p1 (5 : Int32) v7 _ h9) (cwV 3 hts gX7_choose_X7_set rfl rfl rfl kd_X7_set ⟨Nat.le_of_ble_eq_true rfl, Nat.le_of_ble_eq_true rfl⟩) ⟨kP_blind (EN_ok D cy) D _ _ _, va_recv hK hP (ci := 7) (q0 := 0) rfl rfl, kStart (EN_ok D cy) hE hP hD hS hA [0, 1] rfl rfl _⟩ rfl rfl hl.1 rfl (lv_room (Nat.le_of_ble_eq_true rfl)) dX7_choose_149 ⟨Nat.zero_le _, Nat.zero_le _⟩) hP hD hS hA [0, 1] [2, 3] rfl rfl rfl 4 rfl (by decide +kernel) (fun H locs hP hD hS => ?_)
      obtain rfl := so_o hF
      rw [hQQ]
      exact kr_v hx hb hr hlocks hP hD hS dX7_choose_152
    · have hF := if_p hF c1
      obtain rfl := so_o hF
      rw [hQQ]
      exact kr_v hx hb hr hlocks hP hD hS dX7_choose_125
  have J10 : ∀ (n10 : Nat) (l2 : Int32) (l3 : Int32) (l4 : Int32) (l5 : Int32) (o_stack : Nat → Int64) (o_facts : Nat → Int32) (H : Heap) (locs : List Loc) (ls : Array Slot), va_P D vwCl [(q_o, .inr (7, [x_o_thrown, x_o_buffer, x_o_bufferLength, x_o_textLength, x_o_position, x_o_error, x_o_errorAt, x_o_errorOffset, .ref q_o_data, x_o_draft, x_o_aside, x_o_history, x_o_undoDepth, x_o_numberStart, x_o_nesting, x_o_seen, x_o_toldPlanes, .ref q_o_stack, .ref q_o_facts])), (q_o_data, .inl (cy 0, 2243, .inl o_data)), (q_o_stack, .inl (cy 2, 1600, .inr (.inl o_stack))), (q_o_facts, .inl (cy 0, 4, .inl o_facts))] H → va_D A [(q_o, .inr (7, [x_o_thrown, x_o_buffer, x_o_bufferLength, x_o_textLength, x_o_position, x_o_error, x_o_errorAt, x_o_errorOffset, .ref q_o_data, x_o_draft, x_o_aside, x_o_history, x_o_undoDepth, x_o_numberStart, x_o_nesting, x_o_seen, x_o_toldPlanes, .ref q_o_stack, .ref q_o_facts])), (q_o_data, .inl (cy 0, 2243, .inl o_data)), (q_o_stack, .inl (cy 2, 1600, .inr (.inl o_stack))), (q_o_facts, .inl (cy 0, 4, .inl o_facts))] → va_S A s.heap H locs → lv_has ls 7 [(0, .ref q_o), (1, .int p1), (2, .int l2), (3, .int l3), (4, .int l4), (5, .int l5)] → X7_choose_L10 o_data p1 n10 l2 l3 l4 l5 o_stack o_facts = some res → W p l e ({ frames := 6, cells := 0, slots := 0, locals := 139 } : Room) s m args below meth c H locs 0 0 QQ (F0 m 10 ls []) := by
    intro n10
    induction n10 with
    | zero =>
      intro l2 l3 l4 l5 o_stack o_facts H locs ls hP hD hS hl hF
      rw [X7_choose_L10] at hF
      cases hF
    | succ n10 ih10 =>
      have J102 : ∀ (l2 : Int32) (l3 : Int32) (l4 : Int32) (l5 : Int32) (o_stack : Nat → Int64) (o_facts : Nat → Int32) (H : Heap) (locs : List Loc) (ls : Array Slot), va_P D vwCl [(q_o, .inr (7, [x_o_thrown, x_o_buffer, x_o_bufferLength, x_o_textLength, x_o_position, x_o_error, x_o_errorAt, x_o_errorOffset, .ref q_o_data, x_o_draft, x_o_aside, x_o_history, x_o_undoDepth, x_o_numberStart, x_o_nesting, x_o_seen, x_o_toldPlanes, .ref q_o_stack, .ref q_o_facts])), (q_o_data, .inl (cy 0, 2243, .inl o_data)), (q_o_stack, .inl (cy 2, 1600, .inr (.inl o_stack))), (q_o_facts, .inl (cy 0, 4, .inl o_facts))] H → va_D A [(q_o, .inr (7, [x_o_thrown, x_o_buffer, x_o_bufferLength, x_o_textLength, x_o_position, x_o_error, x_o_errorAt, x_o_errorOffset, .ref q_o_data, x_o_draft, x_o_aside, x_o_history, x_o_undoDepth, x_o_numberStart, x_o_nesting, x_o_seen, x_o_toldPlanes, .ref q_o_stack, .ref q_o_facts])), (q_o_data, .inl (cy 0, 2243, .inl o_data)), (q_o_stack, .inl (cy 2, 1600, .inr (.inl o_stack))), (q_o_facts, .inl (cy 0, 4, .inl o_facts))] → va_S A s.heap H locs → lv_has ls 7 [(0, .ref q_o), (1, .int p1), (2, .int l2), (3, .int l3), (4, .int l4), (5, .int l5)] → X7_choose_J102 o_data p1 (fun z0 z1 z2 z3 z4 z5 => X7_choose_L10 o_data p1 n10 z0 z1 z2 z3 z4 z5) l2 l3 l4 l5 o_stack o_facts = some res → W p l e ({ frames := 6, cells := 0, slots := 0, locals := 139 } : Room) s m args below meth c H locs 0 0 QQ (F0 m 102 ls []) := by
        intro l2 l3 l4 l5 o_stack o_facts H locs ls hP hD hS hl hF
        unfold X7_choose_J102 at hF
        obtain ⟨v10, ev10⟩ : ∃ y : Int32, y = l5 + (1 : Int32) := ⟨_, rfl⟩
        have hF := nm_o hF v10 ev10
        refine lv_iinc (v := v10) (lv' := [(5, .int v10), (0, .ref q_o), (1, .int p1), (2, .int l2), (3, .int l3), (4, .int l4)]) hx hb dX7_choose_102 hl (k := 5) rfl (by rw [ev10]; rfl) (by decide) rfl (fun ls hl => ?_)
        refine lv_goto (tgt := 10) hx hb dX7_choose_105 (by decide) ?_
        exact ih10 l2 l3 l4 v10 o_stack o_facts H locs ls hP hD hS (lv_sub hl [1, 2, 3, 4, 5, 0] rfl) hF
      have J96 : ∀ (l4 : Int32) (l5 : Int32) (l6 : Int32) (o_stack : Nat → Int64) (o_facts : Nat → Int32) (H : Heap) (locs : List Loc) (ls : Array Slot), va_P D vwCl [(q_o, .inr (7, [x_o_thrown, x_o_buffer, x_o_bufferLength, x_o_textLength, x_o_position, x_o_error, x_o_errorAt, x_o_errorOffset, .ref q_o_data, x_o_draft, x_o_aside, x_o_history, x_o_undoDepth, x_o_numberStart, x_o_nesting, x_o_seen, x_o_toldPlanes, .ref q_o_stack, .ref q_o_facts])), (q_o_data, .inl (cy 0, 2243, .inl o_data)), (q_o_stack, .inl (cy 2, 1600, .inr (.inl o_stack))), (q_o_facts, .inl (cy 0, 4, .inl o_facts))] H → va_D A [(q_o, .inr (7, [x_o_thrown, x_o_buffer, x_o_bufferLength, x_o_textLength, x_o_position, x_o_error, x_o_errorAt, x_o_errorOffset, .ref q_o_data, x_o_draft, x_o_aside, x_o_history, x_o_undoDepth, x_o_numberStart, x_o_nesting, x_o_seen, x_o_toldPlanes, .ref q_o_stack, .ref q_o_facts])), (q_o_data, .inl (cy 0, 2243, .inl o_data)), (q_o_stack, .inl (cy 2, 1600, .inr (.inl o_stack))), (q_o_facts, .inl (cy 0, 4, .inl o_facts))] → va_S A s.heap H locs → lv_has ls 7 [(0, .ref q_o), (1, .int p1), (4, .int l4), (5, .int l5), (6, .int l6)] → X7_choose_J96 o_data p1 (fun z0 z1 z2 z3 z4 z5 => X7_choose_L10 o_data p1 n10 z0 z1 z2 z3 z4 z5) l4 l5 l6 o_stack o_facts = some res → W p l e ({ frames := 6, cells := 0, slots := 0, locals := 139 } : Room) s m args below meth c H locs 0 0 QQ (F0 m 96 ls []) := by
        intro l4 l5 l6 o_stack o_facts H locs ls hP hD hS hl hF
        unfold X7_choose_J96 at hF
        refine lv_iload hx hb dX7_choose_96 (lv_at hl 3 rfl) ?_
        refine lv_istore_n (lv' := [(2, .int l5), (0, .ref q_o), (1, .int p1), (4, .int l4), (5, .int l5), (6, .int l6)]) hx hb dX7_choose_98 rfl hl (by decide) rfl (fun ls hl => ?_)
        refine lv_iload hx hb dX7_choose_99 (lv_at hl 5 rfl) ?_
        refine lv_istore_n (lv' := [(3, .int l6), (2, .int l5), (0, .ref q_o), (1, .int p1), (4, .int l4), (5, .int l5), (6, .int l6)]) hx hb dX7_choose_101 rfl hl (by decide) rfl (fun ls hl => ?_)
        exact J102 l5 l6 l4 l5 o_stack o_facts H locs ls hP hD hS (lv_sub hl [2, 3, 1, 0, 4, 5] rfl) hF
      intro l2 l3 l4 l5 o_stack o_facts H locs ls hP hD hS hl hF
      rw [X7_choose_L10] at hF
      refine lv_iload hx hb dX7_choose_10 (lv_at hl 5 rfl) ?_
      refine lv_aload_n hx hb dX7_choose_12 rfl (lv_at hl 0 rfl) ?_
      refine va_get (D := D) (ci := 7) (v := .ref q_o_data) (C := RX7) (T := TX7) (N := 19) hx hb hts f_inX7 hown hK hP 0 rfl rfl 8 (by decide) f_f17 (fun _ h9 => h9) rfl dX7_choose_13 ?_
      refine lv_iconst (v := 3) hx hb dX7_choose_16 (by decide) ?_
      obtain ⟨h11, hF⟩ := ld_o hF
      refine va_iald hx hb hK hP 1 0 rfl rfl h11 dX7_choose_17 ?_
      refine lv_topi (fun v12 ev12 => ?_)
      have hF := hF v12 ev12
      refine lv_icmp_ge (tgt := 108) hx hb dX7_choose_18 (by decide) (fun c13 => ?_) (fun c13 => ?_)
      · have hF := if_p hF c13
        refine lv_iload hx hb dX7_choose_108 (lv_at hl 4 rfl) ?_
        refine lv_if_ne (tgt := 120) hx hb dX7_choose_110 (by decide) (fun c14 => ?_) (fun c14 => ?_)
        · have hF := if_n hF c14
          exact J120 l2 o_data o_stack o_facts H locs ls hP hD hS (lv_sub hl [0, 1, 2] rfl) hF
        · have hF := if_p hF c14
          refine lv_aload_n hx hb dX7_choose_113 rfl (lv_at hl 0 rfl) ?_
          refine lv_iload_n hx hb dX7_choose_114 rfl (lv_at hl 1 rfl) ?_
          refine lv_iconst (v := 3) hx hb dX7_choose_115 (by decide) ?_
          refine lv_iconst (v := 3) hx hb dX7_choose_116 (by decide) ?_
          obtain ⟨o15, h16, hF⟩ := bn1_o hF
          refine kd_v [(q_o, .inr (7, [x_o_thrown, x_o_buffer, x_o_bufferLength, x_o_textLength, x_o_position, x_o_error, x_o_errorAt, x_o_errorOffset, .ref q_o_data, x_o_draft, x_o_aside, x_o_history, x_o_undoDepth, x_o_numberStart, x_o_nesting, x_o_seen, x_o_toldPlanes, .ref q_o_stack, .ref q_o_facts])), (q_o_data, .inl (cy 0, 2243, .inl o15)), (q_o_stack, .inl (cy 2, 1600, .inr (.inl o_stack))), (q_o_facts, .inl (cy 0, 4, .inl o_facts))] (va_runV (As := [.int p1, .int (3 : Int32), .int (3 : Int32)]) (rest := []) ⟨hx, hb, hml, hown, hts⟩ (c_X7_set q_o q_o_data H.size x_o_thrown x_o_buffer x_o_bufferLength x_o_textLength x_o_position x_o_error x_o_errorAt x_o_errorOffset x_o_draft x_o_aside x_o_history x_o_undoDepth x_o_numberStart x_o_nesting x_o_seen x_o_toldPlanes (.ref q_o_stack) (.ref q_o_facts) o_data p1 (3 : Int32) (3 : Int32) _ h16) (cwV 3 hts gX7_choose_X7_set rfl rfl rfl kd_X7_set ⟨Nat.le_of_ble_eq_true rfl, Nat.le_of_ble_eq_true rfl⟩) ⟨kP_blind (EN_ok D cy) D _ _ _, va_recv hK hP (ci := 7) (q0 := 0) rfl rfl, kStart (EN_ok D cy) hE hP hD hS hA [0, 1] rfl rfl _⟩ rfl rfl hl.1 rfl (lv_room (Nat.le_of_ble_eq_true rfl)) dX7_choose_117 ⟨Nat.zero_le _, Nat.zero_le _⟩) hP hD hS hA [0, 1] [2, 3] rfl rfl rfl 4 rfl (by decide +kernel) (fun H locs hP hD hS => ?_)
          exact J120 l2 o15 o_stack o_facts H locs ls hP hD hS (lv_sub hl [0, 1, 2] rfl) hF
      · have hF := if_n hF c13
        refine lv_aload_n hx hb dX7_choose_21 rfl (lv_at hl 0 rfl) ?_
        refine lv_iload_n hx hb dX7_choose_22 rfl (lv_at hl 1 rfl) ?_
        refine lv_iload hx hb dX7_choose_23 (lv_at hl 5 rfl) ?_
        obtain ⟨r17, h18, hF⟩ := bn1_o hF
        refine kd_i [(q_o, .inr (7, [x_o_thrown, x_o_buffer, x_o_bufferLength, x_o_textLength, x_o_position, x_o_error, x_o_errorAt, x_o_errorOffset, .ref q_o_data, x_o_draft, x_o_aside, x_o_history, x_o_undoDepth, x_o_numberStart, x_o_nesting, x_o_seen, x_o_toldPlanes, .ref q_o_stack, .ref q_o_facts])), (q_o_data, .inl (cy 0, 2243, .inl o_data)), (q_o_stack, .inl (cy 2, 1600, .inr (.inl o_stack))), (q_o_facts, .inl (cy 0, 4, .inl o_facts))] (va_runV (As := [.int p1, .int l5]) (rest := []) ⟨hx, hb, hml, hown, hts⟩ (c_X7_canUse q_o q_o_data H.size x_o_thrown x_o_buffer x_o_bufferLength x_o_textLength x_o_position x_o_error x_o_errorAt x_o_errorOffset x_o_draft x_o_aside x_o_history x_o_undoDepth x_o_numberStart x_o_nesting x_o_seen x_o_toldPlanes (.ref q_o_stack) (.ref q_o_facts) o_data p1 l5 _ h18) (cwV 2 hts gX7_choose_X7_canUse rfl rfl rfl kd_X7_canUse ⟨Nat.le_of_ble_eq_true rfl, Nat.le_of_ble_eq_true rfl⟩) ⟨kP_blind (EN_ok D cy) D _ _ _, va_recv hK hP (ci := 7) (q0 := 0) rfl rfl, kStart (EN_ok D cy) hE hP hD hS hA [0, 1] rfl rfl _⟩ rfl rfl hl.1 rfl (lv_room (Nat.le_of_ble_eq_true rfl)) dX7_choose_25 ⟨Nat.zero_le _, Nat.zero_le _⟩) hP hD hS hA [0, 1] [2, 3] rfl rfl rfl 4 rfl (by decide +kernel) (fun H locs hP hD hS => ?_)
        refine lv_if_eq (tgt := 102) hx hb dX7_choose_28 (by decide) (fun c19 => ?_) (fun c19 => ?_)
        · have hF := if_p hF c19
          exact J102 l2 l3 l4 l5 o_stack o_facts H locs ls hP hD hS (lv_sub hl [0, 1, 2, 3, 4, 5] rfl) hF
        · have hF := if_n hF c19
          refine lv_aload_n hx hb dX7_choose_31 rfl (lv_at hl 0 rfl) ?_
          refine lv_aload_n hx hb dX7_choose_32 rfl (lv_at hl 0 rfl) ?_
          refine lv_iload_n hx hb dX7_choose_33 rfl (lv_at hl 1 rfl) ?_
          refine lv_iconst (v := 1) hx hb dX7_choose_34 (by decide) ?_
          obtain ⟨r20, h21, hF⟩ := bn1_o hF
          refine kd_i [(q_o, .inr (7, [x_o_thrown, x_o_buffer, x_o_bufferLength, x_o_textLength, x_o_position, x_o_error, x_o_errorAt, x_o_errorOffset, .ref q_o_data, x_o_draft, x_o_aside, x_o_history, x_o_undoDepth, x_o_numberStart, x_o_nesting, x_o_seen, x_o_toldPlanes, .ref q_o_stack, .ref q_o_facts])), (q_o_data, .inl (cy 0, 2243, .inl o_data)), (q_o_stack, .inl (cy 2, 1600, .inr (.inl o_stack))), (q_o_facts, .inl (cy 0, 4, .inl o_facts))] (va_runV (As := [.int p1, .int (1 : Int32)]) (rest := [.ref q_o]) ⟨hx, hb, hml, hown, hts⟩ (c_X7_of q_o q_o_data H.size x_o_thrown x_o_buffer x_o_bufferLength x_o_textLength x_o_position x_o_error x_o_errorAt x_o_errorOffset x_o_draft x_o_aside x_o_history x_o_undoDepth x_o_numberStart x_o_nesting x_o_seen x_o_toldPlanes (.ref q_o_stack) (.ref q_o_facts) o_data p1 (1 : Int32) _ h21) (cwV 2 hts gX7_choose_X7_of rfl rfl rfl kd_X7_of ⟨Nat.le_of_ble_eq_true rfl, Nat.le_of_ble_eq_true rfl⟩) ⟨kP_blind (EN_ok D cy) D _ _ _, va_recv hK hP (ci := 7) (q0 := 0) rfl rfl, kStart (EN_ok D cy) hE hP hD hS hA [0, 1] rfl rfl _⟩ rfl rfl hl.1 rfl (lv_room (Nat.le_of_ble_eq_true rfl)) dX7_choose_35 ⟨Nat.zero_le _, Nat.zero_le _⟩) hP hD hS hA [0, 1] [2, 3] rfl rfl rfl 4 rfl (by decide +kernel) (fun H locs hP hD hS => ?_)
          refine lv_iload hx hb dX7_choose_38 (lv_at hl 5 rfl) ?_
          obtain ⟨r22, o23, o24, h25, hF⟩ := bn3_o hF
          refine kd_i [(q_o, .inr (7, [x_o_thrown, x_o_buffer, x_o_bufferLength, x_o_textLength, x_o_position, x_o_error, x_o_errorAt, x_o_errorOffset, .ref q_o_data, x_o_draft, x_o_aside, x_o_history, x_o_undoDepth, x_o_numberStart, x_o_nesting, x_o_seen, x_o_toldPlanes, .ref q_o_stack, .ref q_o_facts])), (q_o_data, .inl (cy 0, 2243, .inl o_data)), (q_o_stack, .inl (cy 2, 1600, .inr (.inl o23))), (q_o_facts, .inl (cy 0, 4, .inl o24))] (va_runV (As := [.int r20, .int l5]) (rest := []) ⟨hx, hb, hml, hown, hts⟩ (c_X7_priceOf q_o q_o_data q_o_stack q_o_facts H.size x_o_thrown x_o_buffer x_o_bufferLength x_o_textLength x_o_position x_o_error x_o_errorAt x_o_errorOffset x_o_draft x_o_aside x_o_history x_o_undoDepth x_o_numberStart x_o_nesting x_o_seen x_o_toldPlanes o_data o_stack o_facts r20 l5 _ h25) (cwV 2 hts gX7_choose_X7_priceOf rfl rfl rfl kd_X7_priceOf ⟨Nat.le_of_ble_eq_true rfl, Nat.le_of_ble_eq_true rfl⟩) ⟨kP_blind (EN_ok D cy) D _ _ _, va_recv hK hP (ci := 7) (q0 := 0) rfl rfl, kStart (EN_ok D cy) hE hP hD hS hA [0, 1, 2, 3] rfl rfl _⟩ rfl rfl hl.1 rfl (lv_room (Nat.le_of_ble_eq_true rfl)) dX7_choose_40 ⟨Nat.zero_le _, Nat.zero_le _⟩) hP hD hS hA [0, 1, 2, 3] [] rfl rfl rfl 4 rfl (by decide +kernel) (fun H locs hP hD hS => ?_)
          refine lv_aload_n hx hb dX7_choose_43 rfl (lv_at hl 0 rfl) ?_
          refine lv_iload_n hx hb dX7_choose_44 rfl (lv_at hl 1 rfl) ?_
          refine lv_iconst (v := 2) hx hb dX7_choose_45 (by decide) ?_
          obtain ⟨r26, h27, hF⟩ := bn1_o hF
          refine kd_i [(q_o, .inr (7, [x_o_thrown, x_o_buffer, x_o_bufferLength, x_o_textLength, x_o_position, x_o_error, x_o_errorAt, x_o_errorOffset, .ref q_o_data, x_o_draft, x_o_aside, x_o_history, x_o_undoDepth, x_o_numberStart, x_o_nesting, x_o_seen, x_o_toldPlanes, .ref q_o_stack, .ref q_o_facts])), (q_o_data, .inl (cy 0, 2243, .inl o_data)), (q_o_stack, .inl (cy 2, 1600, .inr (.inl o23))), (q_o_facts, .inl (cy 0, 4, .inl o24))] (va_runV (As := [.int p1, .int (2 : Int32)]) (rest := [.int r22]) ⟨hx, hb, hml, hown, hts⟩ (c_X7_of q_o q_o_data H.size x_o_thrown x_o_buffer x_o_bufferLength x_o_textLength x_o_position x_o_error x_o_errorAt x_o_errorOffset x_o_draft x_o_aside x_o_history x_o_undoDepth x_o_numberStart x_o_nesting x_o_seen x_o_toldPlanes (.ref q_o_stack) (.ref q_o_facts) o_data p1 (2 : Int32) _ h27) (cwV 2 hts gX7_choose_X7_of rfl rfl rfl kd_X7_of ⟨Nat.le_of_ble_eq_true rfl, Nat.le_of_ble_eq_true rfl⟩) ⟨kP_blind (EN_ok D cy) D _ _ _, va_recv hK hP (ci := 7) (q0 := 0) rfl rfl, kStart (EN_ok D cy) hE hP hD hS hA [0, 1] rfl rfl _⟩ rfl rfl hl.1 rfl (lv_room (Nat.le_of_ble_eq_true rfl)) dX7_choose_46 ⟨Nat.zero_le _, Nat.zero_le _⟩) hP hD hS hA [0, 1] [2, 3] rfl rfl rfl 4 rfl (by decide +kernel) (fun H locs hP hD hS => ?_)
          refine lv_icmp_le (tgt := 55) hx hb dX7_choose_49 (by decide) (fun c28 => ?_) (fun c28 => ?_)
          · have hF := if_p hF c28
            refine lv_iconst (v := 1) hx hb dX7_choose_55 (by decide) ?_
            refine lv_istore (lv' := [(4, .int (1 : Int32)), (0, .ref q_o), (1, .int p1), (2, .int l2), (3, .int l3), (5, .int l5)]) hx hb dX7_choose_56 hl (by decide) rfl (fun ls hl => ?_)
            refine lv_aload_n hx hb dX7_choose_58 rfl (lv_at hl 1 rfl) ?_
            refine lv_iload hx hb dX7_choose_59 (lv_at hl 5 rfl) ?_
            refine lv_aload_n hx hb dX7_choose_61 rfl (lv_at hl 1 rfl) ?_
            refine lv_iload_n hx hb dX7_choose_62 rfl (lv_at hl 2 rfl) ?_
            refine lv_iconst (v := 1) hx hb dX7_choose_63 (by decide) ?_
            obtain ⟨r29, h30, hF⟩ := bn1_o hF
            refine kd_i [(q_o, .inr (7, [x_o_thrown, x_o_buffer, x_o_bufferLength, x_o_textLength, x_o_position, x_o_error, x_o_errorAt, x_o_errorOffset, .ref q_o_data, x_o_draft, x_o_aside, x_o_history, x_o_undoDepth, x_o_numberStart, x_o_nesting, x_o_seen, x_o_toldPlanes, .ref q_o_stack, .ref q_o_facts])), (q_o_data, .inl (cy 0, 2243, .inl o_data)), (q_o_stack, .inl (cy 2, 1600, .inr (.inl o23))), (q_o_facts, .inl (cy 0, 4, .inl o24))] (va_runV (As := [.int p1, .int (1 : Int32)]) (rest := [.int l5, .ref q_o]) ⟨hx, hb, hml, hown, hts⟩ (c_X7_of q_o q_o_data H.size x_o_thrown x_o_buffer x_o_bufferLength x_o_textLength x_o_position x_o_error x_o_errorAt x_o_errorOffset x_o_draft x_o_aside x_o_history x_o_undoDepth x_o_numberStart x_o_nesting x_o_seen x_o_toldPlanes (.ref q_o_stack) (.ref q_o_facts) o_data p1 (1 : Int32) _ h30) (cwV 2 hts gX7_choose_X7_of rfl rfl rfl kd_X7_of ⟨Nat.le_of_ble_eq_true rfl, Nat.le_of_ble_eq_true rfl⟩) ⟨kP_blind (EN_ok D cy) D _ _ _, va_recv hK hP (ci := 7) (q0 := 0) rfl rfl, kStart (EN_ok D cy) hE hP hD hS hA [0, 1] rfl rfl _⟩ rfl rfl hl.1 rfl (lv_room (Nat.le_of_ble_eq_true rfl)) dX7_choose_64 ⟨Nat.zero_le _, Nat.zero_le _⟩) hP hD hS hA [0, 1] [2, 3] rfl rfl rfl 4 rfl (by decide +kernel) (fun H locs hP hD hS => ?_)
            obtain ⟨r31, h32, hF⟩ := bn1_o hF
            refine kd_i [(q_o, .inr (7, [x_o_thrown, x_o_buffer, x_o_bufferLength, x_o_textLength, x_o_position, x_o_error, x_o_errorAt, x_o_errorOffset, .ref q_o_data, x_o_draft, x_o_aside, x_o_history, x_o_undoDepth, x_o_numberStart, x_o_nesting, x_o_seen, x_o_toldPlanes, .ref q_o_stack, .ref q_o_facts])), (q_o_data, .inl (cy 0, 2243, .inl o_data)), (q_o_stack, .inl (cy 2, 1600, .inr (.inl o23))), (q_o_facts, .inl (cy 0, 4, .inl o24))] (va_runV (As := [.int l5, .int r29]) (rest := []) ⟨hx, hb, hml, hown, hts⟩ (c_X7_showing q_o q_o_data H.size x_o_thrown x_o_buffer x_o_bufferLength x_o_textLength x_o_position x_o_error x_o_errorAt x_o_errorOffset x_o_draft x_o_aside x_o_history x_o_undoDepth x_o_numberStart x_o_nesting x_o_seen x_o_toldPlanes (.ref q_o_stack) (.ref q_o_facts) o_data l5 r29 _ h32) (cwV 2 hts gX7_choose_X7_showing rfl rfl rfl kd_X7_showing ⟨Nat.le_of_ble_eq_true rfl, Nat.le_of_ble_eq_true rfl⟩) ⟨kP_blind (EN_ok D cy) D _ _ _, va_recv hK hP (ci := 7) (q0 := 0) rfl rfl, kStart (EN_ok D cy) hE hP hD hS hA [0, 1] rfl rfl _⟩ rfl rfl hl.1 rfl (lv_room (Nat.le_of_ble_eq_true rfl)) dX7_choose_67 ⟨Nat.zero_le _, Nat.zero_le _⟩) hP hD hS hA [0, 1] [2, 3] rfl rfl rfl 4 rfl (by decide +kernel) (fun H locs hP hD hS => ?_)
            refine lv_istore (lv' := [(6, .int r31), (4, .int (1 : Int32)), (0, .ref q_o), (1, .int p1), (2, .int l2), (3, .int l3), (5, .int l5)]) hx hb dX7_choose_70 hl (by decide) rfl (fun ls hl => ?_)
            refine lv_aload_n hx hb dX7_choose_72 rfl (lv_at hl 2 rfl) ?_
            refine lv_iload hx hb dX7_choose_73 (lv_at hl 6 rfl) ?_
            obtain ⟨r33, h34, hF⟩ := bn1_o hF
            refine kd_i [(q_o, .inr (7, [x_o_thrown, x_o_buffer, x_o_bufferLength, x_o_textLength, x_o_position, x_o_error, x_o_errorAt, x_o_errorOffset, .ref q_o_data, x_o_draft, x_o_aside, x_o_history, x_o_undoDepth, x_o_numberStart, x_o_nesting, x_o_seen, x_o_toldPlanes, .ref q_o_stack, .ref q_o_facts])), (q_o_data, .inl (cy 0, 2243, .inl o_data)), (q_o_stack, .inl (cy 2, 1600, .inr (.inl o23))), (q_o_facts, .inl (cy 0, 4, .inl o24))] (va_runV (As := [.int l5]) (rest := []) ⟨hx, hb, hml, hown, hts⟩ (c_X7_lookerAt q_o q_o_data H.size x_o_thrown x_o_buffer x_o_bufferLength x_o_textLength x_o_position x_o_error x_o_errorAt x_o_errorOffset x_o_draft x_o_aside x_o_history x_o_undoDepth x_o_numberStart x_o_nesting x_o_seen x_o_toldPlanes (.ref q_o_stack) (.ref q_o_facts) o_data l5 _ h34) (cwV 1 hts gX7_choose_X7_lookerAt rfl rfl rfl kd_X7_lookerAt ⟨Nat.le_of_ble_eq_true rfl, Nat.le_of_ble_eq_true rfl⟩) ⟨kP_blind (EN_ok D cy) D _ _ _, va_recv hK hP (ci := 7) (q0 := 0) rfl rfl, kStart (EN_ok D cy) hE hP hD hS hA [0, 1] rfl rfl _⟩ rfl rfl hl.1 rfl (lv_room (Nat.le_of_ble_eq_true rfl)) dX7_choose_75 ⟨Nat.zero_le _, Nat.zero_le _⟩) hP hD hS hA [0, 1] [2, 3] rfl rfl rfl 4 rfl (by decide +kernel) (fun H locs hP hD hS => ?_)
            refine lv_iconst (v := -1) hx hb dX7_choose_78 (by decide) ?_
            refine lv_icmp_ne (tgt := 102) hx hb dX7_choose_79 (by decide) (fun c35 => ?_) (fun c35 => ?_)
            · have hF := if_n hF c35
              exact J102 l2 l3 (1 : Int32) l5 o23 o24 H locs ls hP hD hS (lv_sub hl [2, 3, 4, 5, 1, 6] rfl) hF
            · have hF := if_p hF c35
              refine lv_iload_n hx hb dX7_choose_82 rfl (lv_at hl 4 rfl) ?_
              refine lv_iconst (v := -1) hx hb dX7_choose_83 (by decide) ?_
              refine lv_icmp_eq (tgt := 96) hx hb dX7_choose_84 (by decide) (fun c36 => ?_) (fun c36 => ?_)
              · have hF := if_p hF c36
                exact J96 (1 : Int32) l5 r31 o23 o24 H locs ls hP hD hS (lv_sub hl [2, 3, 1, 6, 0] rfl) hF
              · have hF := if_n hF c36
                refine lv_iload hx hb dX7_choose_87 (lv_at hl 0 rfl) ?_
                refine lv_iload_n hx hb dX7_choose_89 rfl (lv_at hl 5 rfl) ?_
                refine lv_icmp_gt (tgt := 96) hx hb dX7_choose_90 (by decide) (fun c37 => ?_) (fun c37 => ?_)
                · have hF := if_p hF c37
                  exact J96 (1 : Int32) l5 r31 o23 o24 H locs ls hP hD hS (lv_sub hl [2, 3, 1, 6, 0] rfl) hF
                · have hF := if_n hF c37
                  refine lv_goto (tgt := 102) hx hb dX7_choose_93 (by decide) ?_
                  exact J102 l2 l3 (1 : Int32) l5 o23 o24 H locs ls hP hD hS (lv_sub hl [2, 3, 4, 5, 1, 6] rfl) hF
          · have hF := if_n hF c28
            refine lv_goto (tgt := 102) hx hb dX7_choose_52 (by decide) ?_
            exact J102 l2 l3 l4 l5 o23 o24 H locs ls hP hD hS (lv_sub hl [0, 1, 2, 3, 4, 5] rfl) hF
  have main : ∀ (H : Heap) (locs : List Loc) (ls : Array Slot), va_P D vwCl [(q_o, .inr (7, [x_o_thrown, x_o_buffer, x_o_bufferLength, x_o_textLength, x_o_position, x_o_error, x_o_errorAt, x_o_errorOffset, .ref q_o_data, x_o_draft, x_o_aside, x_o_history, x_o_undoDepth, x_o_numberStart, x_o_nesting, x_o_seen, x_o_toldPlanes, .ref q_o_stack, .ref q_o_facts])), (q_o_data, .inl (cy 0, 2243, .inl o_data)), (q_o_stack, .inl (cy 2, 1600, .inr (.inl o_stack))), (q_o_facts, .inl (cy 0, 4, .inl o_facts))] H → va_D A [(q_o, .inr (7, [x_o_thrown, x_o_buffer, x_o_bufferLength, x_o_textLength, x_o_position, x_o_error, x_o_errorAt, x_o_errorOffset, .ref q_o_data, x_o_draft, x_o_aside, x_o_history, x_o_undoDepth, x_o_numberStart, x_o_nesting, x_o_seen, x_o_toldPlanes, .ref q_o_stack, .ref q_o_facts])), (q_o_data, .inl (cy 0, 2243, .inl o_data)), (q_o_stack, .inl (cy 2, 1600, .inr (.inl o_stack))), (q_o_facts, .inl (cy 0, 4, .inl o_facts))] → va_S A s.heap H locs → lv_has ls 7 [(0, .ref q_o), (1, .int p1)] → W p l e ({ frames := 6, cells := 0, slots := 0, locals := 139 } : Room) s m args below meth c H locs 0 0 QQ (F0 m 0 ls []) := by
    intro H locs ls hP hD hS hl
    unfold X7_choose at hF
    refine lv_iconst (v := -1) hx hb dX7_choose_0 (by decide) ?_
    refine lv_istore_n (lv' := [(2, .int (-1 : Int32)), (0, .ref q_o), (1, .int p1)]) hx hb dX7_choose_1 rfl hl (by decide) rfl (fun ls hl => ?_)
    refine lv_iconst (v := 0) hx hb dX7_choose_2 (by decide) ?_
    refine lv_istore_n (lv' := [(3, .int (0 : Int32)), (2, .int (-1 : Int32)), (0, .ref q_o), (1, .int p1)]) hx hb dX7_choose_3 rfl hl (by decide) rfl (fun ls hl => ?_)
    refine lv_iconst (v := 0) hx hb dX7_choose_4 (by decide) ?_
    refine lv_istore (lv' := [(4, .int (0 : Int32)), (3, .int (0 : Int32)), (2, .int (-1 : Int32)), (0, .ref q_o), (1, .int p1)]) hx hb dX7_choose_5 hl (by decide) rfl (fun ls hl => ?_)
    refine lv_iconst (v := 0) hx hb dX7_choose_7 (by decide) ?_
    refine lv_istore (lv' := [(5, .int (0 : Int32)), (4, .int (0 : Int32)), (3, .int (0 : Int32)), (2, .int (-1 : Int32)), (0, .ref q_o), (1, .int p1)]) hx hb dX7_choose_8 hl (by decide) rfl (fun ls hl => ?_)
    exact J10 FU (-1 : Int32) (0 : Int32) (0 : Int32) (0 : Int32) o_stack o_facts H locs ls hP hD hS (lv_sub hl [4, 5, 3, 2, 1, 0] rfl) hF
  exact main s.heap [] ls hP hD hS hl
theorem kd_X7_tick : yX7_tick.cls = RX7 ∧ yX7_tick.cls ≠ "java/lang/invoke/MethodHandle" ∧ yX7_tick.cls ≠ "java/lang/invoke/VarHandle" ∧ (parseMethodDescriptor yX7_tick.desc).map (fun d => d.parameters.length) = some 0 := by decide +kernel
set_option maxHeartbeats 4000000 in
set_option maxRecDepth 100000 in
theorem c_X7_tick {l : Launch} {D : va_G} {cy : Nat → ClassId} (q_o q_o_data q_o_stack q_o_facts : Nat) (sz : Nat) (x_o_thrown x_o_buffer x_o_bufferLength x_o_textLength x_o_position x_o_error x_o_errorAt x_o_errorOffset x_o_draft x_o_aside x_o_history x_o_undoDepth x_o_numberStart x_o_nesting x_o_seen x_o_toldPlanes : Value) (o_data : Nat → Int32) (o_stack : Nat → Int64) (o_facts : Nat → Int32) (res : (Nat → Int32) × (Nat → Int64) × (Nat → Int32)) (hF : X7_tick o_data o_stack o_facts = some res) : Met l yX7_tick wsX7_tick ({ frames := 7, cells := 0, slots := 0, locals := 165 } : Room) (kP (EN D cy) D [.ref q_o] [(q_o, .inr (7, [x_o_thrown, x_o_buffer, x_o_bufferLength, x_o_textLength, x_o_position, x_o_error, x_o_errorAt, x_o_errorOffset, .ref q_o_data, x_o_draft, x_o_aside, x_o_history, x_o_undoDepth, x_o_numberStart, x_o_nesting, x_o_seen, x_o_toldPlanes, .ref q_o_stack, .ref q_o_facts])), (q_o_data, .inl (cy 0, 2243, .inl o_data)), (q_o_stack, .inl (cy 2, 1600, .inr (.inl o_stack))), (q_o_facts, .inl (cy 0, 4, .inl o_facts))] sz) (kQv D [(q_o, .inr (7, [x_o_thrown, x_o_buffer, x_o_bufferLength, x_o_textLength, x_o_position, x_o_error, x_o_errorAt, x_o_errorOffset, .ref q_o_data, x_o_draft, x_o_aside, x_o_history, x_o_undoDepth, x_o_numberStart, x_o_nesting, x_o_seen, x_o_toldPlanes, .ref q_o_stack, .ref q_o_facts])), (q_o_data, .inl (cy 0, 2243, .inl res.1)), (q_o_stack, .inl (cy 2, 1600, .inr (.inl res.2.1))), (q_o_facts, .inl (cy 0, 4, .inl res.2.2))] (va_A [(q_o, .inr (7, [x_o_thrown, x_o_buffer, x_o_bufferLength, x_o_textLength, x_o_position, x_o_error, x_o_errorAt, x_o_errorOffset, .ref q_o_data, x_o_draft, x_o_aside, x_o_history, x_o_undoDepth, x_o_numberStart, x_o_nesting, x_o_seen, x_o_toldPlanes, .ref q_o_stack, .ref q_o_facts])), (q_o_data, .inl (cy 0, 2243, .inl o_data)), (q_o_stack, .inl (cy 2, 1600, .inr (.inl o_stack))), (q_o_facts, .inl (cy 0, 4, .inl o_facts))] sz)) 0 0 (va_A [(q_o, .inr (7, [x_o_thrown, x_o_buffer, x_o_bufferLength, x_o_textLength, x_o_position, x_o_error, x_o_errorAt, x_o_errorOffset, .ref q_o_data, x_o_draft, x_o_aside, x_o_history, x_o_undoDepth, x_o_numberStart, x_o_nesting, x_o_seen, x_o_toldPlanes, .ref q_o_stack, .ref q_o_facts])), (q_o_data, .inl (cy 0, 2243, .inl o_data)), (q_o_stack, .inl (cy 2, 1600, .inr (.inl o_stack))), (q_o_facts, .inl (cy 0, 4, .inl o_facts))] sz) := by
  refine kMet (y := yX7_tick) (av := [.ref q_o]) (cc := cX7_tick) (maxL := 2) (ret := none) (own := RX7) (Qc := fun A9 => (kQv D [(q_o, .inr (7, [x_o_thrown, x_o_buffer, x_o_bufferLength, x_o_textLength, x_o_position, x_o_error, x_o_errorAt, x_o_errorOffset, .ref q_o_data, x_o_draft, x_o_aside, x_o_history, x_o_undoDepth, x_o_numberStart, x_o_nesting, x_o_seen, x_o_toldPlanes, .ref q_o_stack, .ref q_o_facts])), (q_o_data, .inl (cy 0, 2243, .inl res.1)), (q_o_stack, .inl (cy 2, 1600, .inr (.inl res.2.1))), (q_o_facts, .inl (cy 0, 4, .inl res.2.2))] A9)) (by decide) rfl rfl (Nat.le_of_ble_eq_true rfl) ?_
  intro p e s m args below meth c A hx hb hr hts hown hml hlocks hname hE hP hD hA hsz ls hl
  have hK := hE.1
  have hl : lv_has ls 2 [(0, .ref q_o)] := hl
  have hS : va_S A s.heap s.heap [] := va_S.rf
  have f_f17 := hts (.fieldLink RX7 17 "PeepBoxModel" "data" "[I") (by decide +kernel)
  have f_inX7 : ∀ w ∈ wsX70, w ∈ wsX7_tick := by decide +kernel
  obtain ⟨QQ, hQQ⟩ : ∃ Q9, Q9 = MQ below (kQv D [(q_o, .inr (7, [x_o_thrown, x_o_buffer, x_o_bufferLength, x_o_textLength, x_o_position, x_o_error, x_o_errorAt, x_o_errorOffset, .ref q_o_data, x_o_draft, x_o_aside, x_o_history, x_o_undoDepth, x_o_numberStart, x_o_nesting, x_o_seen, x_o_toldPlanes, .ref q_o_stack, .ref q_o_facts])), (q_o_data, .inl (cy 0, 2243, .inl res.1)), (q_o_stack, .inl (cy 2, 1600, .inr (.inl res.2.1))), (q_o_facts, .inl (cy 0, 4, .inl res.2.2))] A) args s 0 0 A := ⟨_, rfl⟩
  rw [← hQQ]
  have J36 : ∀ (n36 : Nat) (l1 : Int32) (o_data : Nat → Int32) (o_stack : Nat → Int64) (o_facts : Nat → Int32) (H : Heap) (locs : List Loc) (ls : Array Slot), va_P D vwCl [(q_o, .inr (7, [x_o_thrown, x_o_buffer, x_o_bufferLength, x_o_textLength, x_o_position, x_o_error, x_o_errorAt, x_o_errorOffset, .ref q_o_data, x_o_draft, x_o_aside, x_o_history, x_o_undoDepth, x_o_numberStart, x_o_nesting, x_o_seen, x_o_toldPlanes, .ref q_o_stack, .ref q_o_facts])), (q_o_data, .inl (cy 0, 2243, .inl o_data)), (q_o_stack, .inl (cy 2, 1600, .inr (.inl o_stack))), (q_o_facts, .inl (cy 0, 4, .inl o_facts))] H → va_D A [(q_o, .inr (7, [x_o_thrown, x_o_buffer, x_o_bufferLength, x_o_textLength, x_o_position, x_o_error, x_o_errorAt, x_o_errorOffset, .ref q_o_data, x_o_draft, x_o_aside, x_o_history, x_o_undoDepth, x_o_numberStart, x_o_nesting, x_o_seen, x_o_toldPlanes, .ref q_o_stack, .ref q_o_facts])), (q_o_data, .inl (cy 0, 2243, .inl o_data)), (q_o_stack, .inl (cy 2, 1600, .inr (.inl o_stack))), (q_o_facts, .inl (cy 0, 4, .inl o_facts))] → va_S A s.heap H locs → lv_has ls 2 [(0, .ref q_o), (1, .int l1)] → X7_tick_L36  n36 l1 o_data o_stack o_facts = some res → W p l e ({ frames := 7, cells := 0, slots := 0, locals := 165 } : Room) s m args below meth c H locs 0 0 QQ (F0 m 36 ls []) := by
    intro n36
    induction n36 with
    | zero =>
      intro l1 o_data o_stack o_facts H locs ls hP hD hS hl hF
      rw [X7_tick_L36] at hF
      cases hF
    | succ n36 ih36 =>
      have J61 : ∀ (l1 : Int32) (o_data : Nat → Int32) (o_stack : Nat → Int64) (o_facts : Nat → Int32) (H : Heap) (locs : List Loc) (ls : Array Slot), va_P D vwCl [(q_o, .inr (7, [x_o_thrown, x_o_buffer, x_o_bufferLength, x_o_textLength, x_o_position, x_o_error, x_o_errorAt, x_o_errorOffset, .ref q_o_data, x_o_draft, x_o_aside, x_o_history, x_o_undoDepth, x_o_numberStart, x_o_nesting, x_o_seen, x_o_toldPlanes, .ref q_o_stack, .ref q_o_facts])), (q_o_data, .inl (cy 0, 2243, .inl o_data)), (q_o_stack, .inl (cy 2, 1600, .inr (.inl o_stack))), (q_o_facts, .inl (cy 0, 4, .inl o_facts))] H → va_D A [(q_o, .inr (7, [x_o_thrown, x_o_buffer, x_o_bufferLength, x_o_textLength, x_o_position, x_o_error, x_o_errorAt, x_o_errorOffset, .ref q_o_data, x_o_draft, x_o_aside, x_o_history, x_o_undoDepth, x_o_numberStart, x_o_nesting, x_o_seen, x_o_toldPlanes, .ref q_o_stack, .ref q_o_facts])), (q_o_data, .inl (cy 0, 2243, .inl o_data)), (q_o_stack, .inl (cy 2, 1600, .inr (.inl o_stack))), (q_o_facts, .inl (cy 0, 4, .inl o_facts))] → va_S A s.heap H locs → lv_has ls 2 [(0, .ref q_o), (1, .int l1)] → X7_tick_J61  (fun z0 z1 z2 z3 => X7_tick_L36  n36 z0 z1 z2 z3) l1 o_data o_stack o_facts = some res → W p l e ({ frames := 7, cells := 0, slots := 0, locals := 165 } : Room) s m args below meth c H locs 0 0 QQ (F0 m 61 ls []) := by
        intro l1 o_data o_stack o_facts H locs ls hP hD hS hl hF
        unfold X7_tick_J61 at hF
        obtain ⟨v1, ev1⟩ : ∃ y : Int32, y = l1 + (1 : Int32) := ⟨_, rfl⟩
        have hF := nm_o hF v1 ev1
        refine lv_iinc (v := v1) (lv' := [(1, .int v1), (0, .ref q_o)]) hx hb dX7_tick_61 hl (k := 1) rfl (by rw [ev1]; rfl) (by decide) rfl (fun ls hl => ?_)
        refine lv_goto (tgt := 36) hx hb dX7_tick_64 (by decide) ?_
        exact ih36 v1 o_data o_stack o_facts H locs ls hP hD hS (lv_sub hl [1, 0] rfl) hF
      intro l1 o_data o_stack o_facts H locs ls hP hD hS hl hF
      rw [X7_tick_L36] at hF
      refine lv_iload_n hx hb dX7_tick_36 rfl (lv_at hl 1 rfl) ?_
      refine lv_aload_n hx hb dX7_tick_37 rfl (lv_at hl 0 rfl) ?_
      refine va_get (D := D) (ci := 7) (v := .ref q_o_data) (C := RX7) (T := TX7) (N := 19) hx hb hts f_inX7 hown hK hP 0 rfl rfl 8 (by decide) f_f17 (fun _ h9 => h9) rfl dX7_tick_38 ?_
      refine lv_bipush (v := 7) hx hb dX7_tick_41 (by decide) ?_
      obtain ⟨h2, hF⟩ := ld_o hF
      refine va_iald hx hb hK hP 1 0 rfl rfl h2 dX7_tick_43 ?_
      refine lv_topi (fun v3 ev3 => ?_)
      have hF := hF v3 ev3
      refine lv_icmp_ge (tgt := 67) hx hb dX7_tick_44 (by decide) (fun c4 => ?_) (fun c4 => ?_)
      · have hF := if_p hF c4
        refine lv_aload_n hx hb dX7_tick_67 rfl (lv_at hl 0 rfl) ?_
        refine va_get (D := D) (ci := 7) (v := .ref q_o_data) (C := RX7) (T := TX7) (N := 19) hx hb hts f_inX7 hown hK hP 0 rfl rfl 8 (by decide) f_f17 (fun _ h9 => h9) rfl dX7_tick_68 ?_
        refine lv_bipush (v := 6) hx hb dX7_tick_71 (by decide) ?_
        refine lv_dup2_11 hx hb dX7_tick_73 rfl rfl ?_
        obtain ⟨h5, hF⟩ := ld_o hF
        refine va_iald hx hb hK hP 1 0 rfl rfl h5 dX7_tick_74 ?_
        refine lv_topi (fun v6 ev6 => ?_)
        have hF := hF v6 ev6
        refine lv_iconst (v := 1) hx hb dX7_tick_75 (by decide) ?_
        refine lv_iadd hx hb dX7_tick_76 ?_
        obtain ⟨h7, hF⟩ := st_o hF
        refine va_iast hx hb hK hP hD hS 1 0 rfl rfl h7 dX7_tick_77 (fun H locs hP hD hS => ?_)
        obtain ⟨b8, eb8⟩ : ∃ y : Nat → Int32, y = (upd o_data (6 : Int32).toNatClampNeg (v6 + (1 : Int32))) := ⟨_, rfl⟩
        have hF := hF b8 eb8
        have hP : va_P D vwCl [(q_o, .inr (7, [x_o_thrown, x_o_buffer, x_o_bufferLength, x_o_textLength, x_o_position, x_o_error, x_o_errorAt, x_o_errorOffset, .ref q_o_data, x_o_draft, x_o_aside, x_o_history, x_o_undoDepth, x_o_numberStart, x_o_nesting, x_o_seen, x_o_toldPlanes, .ref q_o_stack, .ref q_o_facts])), (q_o_data, .inl (cy 0, 2243, .inl b8)), (q_o_stack, .inl (cy 2, 1600, .inr (.inl o_stack))), (q_o_facts, .inl (cy 0, 4, .inl o_facts))] H := by rw [eb8]; exact hP
        have hD : va_D A [(q_o, .inr (7, [x_o_thrown, x_o_buffer, x_o_bufferLength, x_o_textLength, x_o_position, x_o_error, x_o_errorAt, x_o_errorOffset, .ref q_o_data, x_o_draft, x_o_aside, x_o_history, x_o_undoDepth, x_o_numberStart, x_o_nesting, x_o_seen, x_o_toldPlanes, .ref q_o_stack, .ref q_o_facts])), (q_o_data, .inl (cy 0, 2243, .inl b8)), (q_o_stack, .inl (cy 2, 1600, .inr (.inl o_stack))), (q_o_facts, .inl (cy 0, 4, .inl o_facts))] := by rw [eb8]; exact hD
        obtain rfl := so_o hF
        rw [hQQ]
        exact kr_v hx hb hr hlocks hP hD hS dX7_tick_78
      · have hF := if_n hF c4
        refine lv_aload_n hx hb dX7_tick_47 rfl (lv_at hl 0 rfl) ?_
        refine lv_iload_n hx hb dX7_tick_48 rfl (lv_at hl 1 rfl) ?_
        refine lv_iconst (v := 3) hx hb dX7_tick_49 (by decide) ?_
        obtain ⟨r9, h10, hF⟩ := bn1_o hF
        refine kd_i [(q_o, .inr (7, [x_o_thrown, x_o_buffer, x_o_bufferLength, x_o_textLength, x_o_position, x_o_error, x_o_errorAt, x_o_errorOffset, .ref q_o_data, x_o_draft, x_o_aside, x_o_history, x_o_undoDepth, x_o_numberStart, x_o_nesting, x_o_seen, x_o_toldPlanes, .ref q_o_stack, .ref q_o_facts])), (q_o_data, .inl (cy 0, 2243, .inl o_data)), (q_o_stack, .inl (cy 2, 1600, .inr (.inl o_stack))), (q_o_facts, .inl (cy 0, 4, .inl o_facts))] (va_runV (As := [.int l1, .int (3 : Int32)]) (rest := []) ⟨hx, hb, hml, hown, hts⟩ (c_X7_of q_o q_o_data H.size x_o_thrown x_o_buffer x_o_bufferLength x_o_textLength x_o_position x_o_error x_o_errorAt x_o_errorOffset x_o_draft x_o_aside x_o_history x_o_undoDepth x_o_numberStart x_o_nesting x_o_seen x_o_toldPlanes (.ref q_o_stack) (.ref q_o_facts) o_data l1 (3 : Int32) _ h10) (cwV 2 hts gX7_tick_X7_of rfl rfl rfl kd_X7_of ⟨Nat.le_of_ble_eq_true rfl, Nat.le_of_ble_eq_true rfl⟩) ⟨kP_blind (EN_ok D cy) D _ _ _, va_recv hK hP (ci := 7) (q0 := 0) rfl rfl, kStart (EN_ok D cy) hE hP hD hS hA [0, 1] rfl rfl _⟩ rfl rfl hl.1 rfl (lv_room (Nat.le_of_ble_eq_true rfl)) dX7_tick_50 ⟨Nat.zero_le _, Nat.zero_le _⟩) hP hD hS hA [0, 1] [2, 3] rfl rfl rfl 4 rfl (by decide +kernel) (fun H locs hP hD hS => ?_)
        refine lv_if_ne (tgt := 61) hx hb dX7_tick_53 (by decide) (fun c11 => ?_) (fun c11 => ?_)
        · have hF := if_n hF c11
          exact J61 l1 o_data o_stack o_facts H locs ls hP hD hS (lv_sub hl [0, 1] rfl) hF
        · have hF := if_p hF c11
          refine lv_aload_n hx hb dX7_tick_56 rfl (lv_at hl 0 rfl) ?_
          refine lv_iload_n hx hb dX7_tick_57 rfl (lv_at hl 1 rfl) ?_
          obtain ⟨o12, o13, o14, h15, hF⟩ := bn3_o hF
          refine kd_v [(q_o, .inr (7, [x_o_thrown, x_o_buffer, x_o_bufferLength, x_o_textLength, x_o_position, x_o_error, x_o_errorAt, x_o_errorOffset, .ref q_o_data, x_o_draft, x_o_aside, x_o_history, x_o_undoDepth, x_o_numberStart, x_o_nesting, x_o_seen, x_o_toldPlanes, .ref q_o_stack, .ref q_o_facts])), (q_o_data, .inl (cy 0, 2243, .inl o12)), (q_o_stack, .inl (cy 2, 1600, .inr (.inl o13))), (q_o_facts, .inl (cy 0, 4, .inl o14))] (va_runV (As := [.int l1]) (rest := []) ⟨hx, hb, hml, hown, hts⟩ (c_X7_choose q_o q_o_data q_o_stack q_o_facts H.size x_o_thrown x_o_buffer x_o_bufferLength x_o_textLength x_o_position x_o_error x_o_errorAt x_o_errorOffset x_o_draft x_o_aside x_o_history x_o_undoDepth x_o_numberStart x_o_nesting x_o_seen x_o_toldPlanes o_data o_stack o_facts l1 _ h15) (cwV 1 hts gX7_tick_X7_choose rfl rfl rfl kd_X7_choose ⟨Nat.le_of_ble_eq_true rfl, Nat.le_of_ble_eq_true rfl⟩) ⟨kP_blind (EN_ok D cy) D _ _ _, va_recv hK hP (ci := 7) (q0 := 0) rfl rfl, kStart (EN_ok D cy) hE hP hD hS hA [0, 1, 2, 3] rfl rfl _⟩ rfl rfl hl.1 rfl (lv_room (Nat.le_of_ble_eq_true rfl)) dX7_tick_58 ⟨Nat.zero_le _, Nat.zero_le _⟩) hP hD hS hA [0, 1, 2, 3] [] rfl rfl rfl 4 rfl (by decide +kernel) (fun H locs hP hD hS => ?_)
          exact J61 l1 o12 o13 o14 H locs ls hP hD hS (lv_sub hl [0, 1] rfl) hF
  have J2 : ∀ (n2 : Nat) (l1 : Int32) (o_data : Nat → Int32) (o_stack : Nat → Int64) (o_facts : Nat → Int32) (H : Heap) (locs : List Loc) (ls : Array Slot), va_P D vwCl [(q_o, .inr (7, [x_o_thrown, x_o_buffer, x_o_bufferLength, x_o_textLength, x_o_position, x_o_error, x_o_errorAt, x_o_errorOffset, .ref q_o_data, x_o_draft, x_o_aside, x_o_history, x_o_undoDepth, x_o_numberStart, x_o_nesting, x_o_seen, x_o_toldPlanes, .ref q_o_stack, .ref q_o_facts])), (q_o_data, .inl (cy 0, 2243, .inl o_data)), (q_o_stack, .inl (cy 2, 1600, .inr (.inl o_stack))), (q_o_facts, .inl (cy 0, 4, .inl o_facts))] H → va_D A [(q_o, .inr (7, [x_o_thrown, x_o_buffer, x_o_bufferLength, x_o_textLength, x_o_position, x_o_error, x_o_errorAt, x_o_errorOffset, .ref q_o_data, x_o_draft, x_o_aside, x_o_history, x_o_undoDepth, x_o_numberStart, x_o_nesting, x_o_seen, x_o_toldPlanes, .ref q_o_stack, .ref q_o_facts])), (q_o_data, .inl (cy 0, 2243, .inl o_data)), (q_o_stack, .inl (cy 2, 1600, .inr (.inl o_stack))), (q_o_facts, .inl (cy 0, 4, .inl o_facts))] → va_S A s.heap H locs → lv_has ls 2 [(0, .ref q_o), (1, .int l1)] → X7_tick_L2  n2 l1 o_data o_stack o_facts = some res → W p l e ({ frames := 7, cells := 0, slots := 0, locals := 165 } : Room) s m args below meth c H locs 0 0 QQ (F0 m 2 ls []) := by
    intro n2
    induction n2 with
    | zero =>
      intro l1 o_data o_stack o_facts H locs ls hP hD hS hl hF
      rw [X7_tick_L2] at hF
      cases hF
    | succ n2 ih2 =>
      have J28 : ∀ (l1 : Int32) (o_data : Nat → Int32) (o_stack : Nat → Int64) (o_facts : Nat → Int32) (H : Heap) (locs : List Loc) (ls : Array Slot), va_P D vwCl [(q_o, .inr (7, [x_o_thrown, x_o_buffer, x_o_bufferLength, x_o_textLength, x_o_position, x_o_error, x_o_errorAt, x_o_errorOffset, .ref q_o_data, x_o_draft, x_o_aside, x_o_history, x_o_undoDepth, x_o_numberStart, x_o_nesting, x_o_seen, x_o_toldPlanes, .ref q_o_stack, .ref q_o_facts])), (q_o_data, .inl (cy 0, 2243, .inl o_data)), (q_o_stack, .inl (cy 2, 1600, .inr (.inl o_stack))), (q_o_facts, .inl (cy 0, 4, .inl o_facts))] H → va_D A [(q_o, .inr (7, [x_o_thrown, x_o_buffer, x_o_bufferLength, x_o_textLength, x_o_position, x_o_error, x_o_errorAt, x_o_errorOffset, .ref q_o_data, x_o_draft, x_o_aside, x_o_history, x_o_undoDepth, x_o_numberStart, x_o_nesting, x_o_seen, x_o_toldPlanes, .ref q_o_stack, .ref q_o_facts])), (q_o_data, .inl (cy 0, 2243, .inl o_data)), (q_o_stack, .inl (cy 2, 1600, .inr (.inl o_stack))), (q_o_facts, .inl (cy 0, 4, .inl o_facts))] → va_S A s.heap H locs → lv_has ls 2 [(0, .ref q_o), (1, .int l1)] → X7_tick_J28  (fun z0 z1 z2 z3 => X7_tick_L2  n2 z0 z1 z2 z3) l1 o_data o_stack o_facts = some res → W p l e ({ frames := 7, cells := 0, slots := 0, locals := 165 } : Room) s m args below meth c H locs 0 0 QQ (F0 m 28 ls []) := by
        intro l1 o_data o_stack o_facts H locs ls hP hD hS hl hF
        unfold X7_tick_J28 at hF
        obtain ⟨v16, ev16⟩ : ∃ y : Int32, y = l1 + (1 : Int32) := ⟨_, rfl⟩
        have hF := nm_o hF v16 ev16
        refine lv_iinc (v := v16) (lv' := [(1, .int v16), (0, .ref q_o)]) hx hb dX7_tick_28 hl (k := 1) rfl (by rw [ev16]; rfl) (by decide) rfl (fun ls hl => ?_)
        refine lv_goto (tgt := 2) hx hb dX7_tick_31 (by decide) ?_
        exact ih2 v16 o_data o_stack o_facts H locs ls hP hD hS (lv_sub hl [1, 0] rfl) hF
      intro l1 o_data o_stack o_facts H locs ls hP hD hS hl hF
      rw [X7_tick_L2] at hF
      refine lv_iload_n hx hb dX7_tick_2 rfl (lv_at hl 1 rfl) ?_
      refine lv_aload_n hx hb dX7_tick_3 rfl (lv_at hl 0 rfl) ?_
      refine va_get (D := D) (ci := 7) (v := .ref q_o_data) (C := RX7) (T := TX7) (N := 19) hx hb hts f_inX7 hown hK hP 0 rfl rfl 8 (by decide) f_f17 (fun _ h9 => h9) rfl dX7_tick_4 ?_
      refine lv_bipush (v := 7) hx hb dX7_tick_7 (by decide) ?_
      obtain ⟨h17, hF⟩ := ld_o hF
      refine va_iald hx hb hK hP 1 0 rfl rfl h17 dX7_tick_9 ?_
      refine lv_topi (fun v18 ev18 => ?_)
      have hF := hF v18 ev18
      refine lv_icmp_ge (tgt := 34) hx hb dX7_tick_10 (by decide) (fun c19 => ?_) (fun c19 => ?_)
      · have hF := if_p hF c19
        refine lv_iconst (v := 0) hx hb dX7_tick_34 (by decide) ?_
        refine lv_istore_n (lv' := [(1, .int (0 : Int32)), (0, .ref q_o)]) hx hb dX7_tick_35 rfl hl (by decide) rfl (fun ls hl => ?_)
        exact J36 FU (0 : Int32) o_data o_stack o_facts H locs ls hP hD hS (lv_sub hl [1, 0] rfl) hF
      · have hF := if_n hF c19
        refine lv_aload_n hx hb dX7_tick_13 rfl (lv_at hl 0 rfl) ?_
        refine lv_iload_n hx hb dX7_tick_14 rfl (lv_at hl 1 rfl) ?_
        refine lv_iconst (v := 3) hx hb dX7_tick_15 (by decide) ?_
        obtain ⟨r20, h21, hF⟩ := bn1_o hF
        refine kd_i [(q_o, .inr (7, [x_o_thrown, x_o_buffer, x_o_bufferLength, x_o_textLength, x_o_position, x_o_error, x_o_errorAt, x_o_errorOffset, .ref q_o_data, x_o_draft, x_o_aside, x_o_history, x_o_undoDepth, x_o_numberStart, x_o_nesting, x_o_seen, x_o_toldPlanes, .ref q_o_stack, .ref q_o_facts])), (q_o_data, .inl (cy 0, 2243, .inl o_data)), (q_o_stack, .inl (cy 2, 1600, .inr (.inl o_stack))), (q_o_facts, .inl (cy 0, 4, .inl o_facts))] (va_runV (As := [.int l1, .int (3 : Int32)]) (rest := []) ⟨hx, hb, hml, hown, hts⟩ (c_X7_of q_o q_o_data H.size x_o_thrown x_o_buffer x_o_bufferLength x_o_textLength x_o_position x_o_error x_o_errorAt x_o_errorOffset x_o_draft x_o_aside x_o_history x_o_undoDepth x_o_numberStart x_o_nesting x_o_seen x_o_toldPlanes (.ref q_o_stack) (.ref q_o_facts) o_data l1 (3 : Int32) _ h21) (cwV 2 hts gX7_tick_X7_of rfl rfl rfl kd_X7_of ⟨Nat.le_of_ble_eq_true rfl, Nat.le_of_ble_eq_true rfl⟩) ⟨kP_blind (EN_ok D cy) D _ _ _, va_recv hK hP (ci := 7) (q0 := 0) rfl rfl, kStart (EN_ok D cy) hE hP hD hS hA [0, 1] rfl rfl _⟩ rfl rfl hl.1 rfl (lv_room (Nat.le_of_ble_eq_true rfl)) dX7_tick_16 ⟨Nat.zero_le _, Nat.zero_le _⟩) hP hD hS hA [0, 1] [2, 3] rfl rfl rfl 4 rfl (by decide +kernel) (fun H locs hP hD hS => ?_)
        refine lv_iconst (v := 1) hx hb dX7_tick_19 (by decide) ?_
        refine lv_icmp_ne (tgt := 28) hx hb dX7_tick_20 (by decide) (fun c22 => ?_) (fun c22 => ?_)
        · have hF := if_n hF c22
          exact J28 l1 o_data o_stack o_facts H locs ls hP hD hS (lv_sub hl [0, 1] rfl) hF
        · have hF := if_p hF c22
          refine lv_aload_n hx hb dX7_tick_23 rfl (lv_at hl 0 rfl) ?_
          refine lv_iload_n hx hb dX7_tick_24 rfl (lv_at hl 1 rfl) ?_
          obtain ⟨o23, o24, o25, h26, hF⟩ := bn3_o hF
          refine kd_v [(q_o, .inr (7, [x_o_thrown, x_o_buffer, x_o_bufferLength, x_o_textLength, x_o_position, x_o_error, x_o_errorAt, x_o_errorOffset, .ref q_o_data, x_o_draft, x_o_aside, x_o_history, x_o_undoDepth, x_o_numberStart, x_o_nesting, x_o_seen, x_o_toldPlanes, .ref q_o_stack, .ref q_o_facts])), (q_o_data, .inl (cy 0, 2243, .inl o23)), (q_o_stack, .inl (cy 2, 1600, .inr (.inl o24))), (q_o_facts, .inl (cy 0, 4, .inl o25))] (va_runV (As := [.int l1]) (rest := []) ⟨hx, hb, hml, hown, hts⟩ (c_X7_look q_o q_o_data q_o_stack q_o_facts H.size x_o_thrown x_o_buffer x_o_bufferLength x_o_textLength x_o_position x_o_error x_o_errorAt x_o_errorOffset x_o_draft x_o_aside x_o_history x_o_undoDepth x_o_numberStart x_o_nesting x_o_seen x_o_toldPlanes o_data o_stack o_facts l1 _ h26) (cwV 1 hts gX7_tick_X7_look rfl rfl rfl kd_X7_look ⟨Nat.le_of_ble_eq_true rfl, Nat.le_of_ble_eq_true rfl⟩) ⟨kP_blind (EN_ok D cy) D _ _ _, va_recv hK hP (ci := 7) (q0 := 0) rfl rfl, kStart (EN_ok D cy) hE hP hD hS hA [0, 1, 2, 3] rfl rfl _⟩ rfl rfl hl.1 rfl (lv_room (Nat.le_of_ble_eq_true rfl)) dX7_tick_25 ⟨Nat.zero_le _, Nat.zero_le _⟩) hP hD hS hA [0, 1, 2, 3] [] rfl rfl rfl 4 rfl (by decide +kernel) (fun H locs hP hD hS => ?_)
          exact J28 l1 o23 o24 o25 H locs ls hP hD hS (lv_sub hl [0, 1] rfl) hF
  have main : ∀ (H : Heap) (locs : List Loc) (ls : Array Slot), va_P D vwCl [(q_o, .inr (7, [x_o_thrown, x_o_buffer, x_o_bufferLength, x_o_textLength, x_o_position, x_o_error, x_o_errorAt, x_o_errorOffset, .ref q_o_data, x_o_draft, x_o_aside, x_o_history, x_o_undoDepth, x_o_numberStart, x_o_nesting, x_o_seen, x_o_toldPlanes, .ref q_o_stack, .ref q_o_facts])), (q_o_data, .inl (cy 0, 2243, .inl o_data)), (q_o_stack, .inl (cy 2, 1600, .inr (.inl o_stack))), (q_o_facts, .inl (cy 0, 4, .inl o_facts))] H → va_D A [(q_o, .inr (7, [x_o_thrown, x_o_buffer, x_o_bufferLength, x_o_textLength, x_o_position, x_o_error, x_o_errorAt, x_o_errorOffset, .ref q_o_data, x_o_draft, x_o_aside, x_o_history, x_o_undoDepth, x_o_numberStart, x_o_nesting, x_o_seen, x_o_toldPlanes, .ref q_o_stack, .ref q_o_facts])), (q_o_data, .inl (cy 0, 2243, .inl o_data)), (q_o_stack, .inl (cy 2, 1600, .inr (.inl o_stack))), (q_o_facts, .inl (cy 0, 4, .inl o_facts))] → va_S A s.heap H locs → lv_has ls 2 [(0, .ref q_o)] → W p l e ({ frames := 7, cells := 0, slots := 0, locals := 165 } : Room) s m args below meth c H locs 0 0 QQ (F0 m 0 ls []) := by
    intro H locs ls hP hD hS hl
    unfold X7_tick at hF
    refine lv_iconst (v := 0) hx hb dX7_tick_0 (by decide) ?_
    refine lv_istore_n (lv' := [(1, .int (0 : Int32)), (0, .ref q_o)]) hx hb dX7_tick_1 rfl hl (by decide) rfl (fun ls hl => ?_)
    exact J2 FU (0 : Int32) o_data o_stack o_facts H locs ls hP hD hS (lv_sub hl [1, 0] rfl) hF
  exact main s.heap [] ls hP hD hS hl
theorem kd_X7_freeHoles : yX7_freeHoles.cls = RX7 ∧ yX7_freeHoles.cls ≠ "java/lang/invoke/MethodHandle" ∧ yX7_freeHoles.cls ≠ "java/lang/invoke/VarHandle" ∧ (parseMethodDescriptor yX7_freeHoles.desc).map (fun d => d.parameters.length) = some 0 := by decide +kernel
set_option maxHeartbeats 4000000 in
set_option maxRecDepth 100000 in
theorem c_X7_freeHoles {l : Launch} {D : va_G} {cy : Nat → ClassId} (q_o q_o_data : Nat) (sz : Nat) (x_o_thrown x_o_buffer x_o_bufferLength x_o_textLength x_o_position x_o_error x_o_errorAt x_o_errorOffset x_o_draft x_o_aside x_o_history x_o_undoDepth x_o_numberStart x_o_nesting x_o_seen x_o_toldPlanes x_o_stack x_o_facts : Value) (o_data : Nat → Int32) (res : Int32) (hF : X7_freeHoles o_data = some res) : Met l yX7_freeHoles wsX7_freeHoles ({ frames := 2, cells := 0, slots := 0, locals := 44 } : Room) (kP (EN D cy) D [.ref q_o] [(q_o, .inr (7, [x_o_thrown, x_o_buffer, x_o_bufferLength, x_o_textLength, x_o_position, x_o_error, x_o_errorAt, x_o_errorOffset, .ref q_o_data, x_o_draft, x_o_aside, x_o_history, x_o_undoDepth, x_o_numberStart, x_o_nesting, x_o_seen, x_o_toldPlanes, x_o_stack, x_o_facts])), (q_o_data, .inl (cy 0, 2243, .inl o_data))] sz) (kQi D res [(q_o, .inr (7, [x_o_thrown, x_o_buffer, x_o_bufferLength, x_o_textLength, x_o_position, x_o_error, x_o_errorAt, x_o_errorOffset, .ref q_o_data, x_o_draft, x_o_aside, x_o_history, x_o_undoDepth, x_o_numberStart, x_o_nesting, x_o_seen, x_o_toldPlanes, x_o_stack, x_o_facts])), (q_o_data, .inl (cy 0, 2243, .inl o_data))] (va_A [(q_o, .inr (7, [x_o_thrown, x_o_buffer, x_o_bufferLength, x_o_textLength, x_o_position, x_o_error, x_o_errorAt, x_o_errorOffset, .ref q_o_data, x_o_draft, x_o_aside, x_o_history, x_o_undoDepth, x_o_numberStart, x_o_nesting, x_o_seen, x_o_toldPlanes, x_o_stack, x_o_facts])), (q_o_data, .inl (cy 0, 2243, .inl o_data))] sz)) 0 0 (va_A [(q_o, .inr (7, [x_o_thrown, x_o_buffer, x_o_bufferLength, x_o_textLength, x_o_position, x_o_error, x_o_errorAt, x_o_errorOffset, .ref q_o_data, x_o_draft, x_o_aside, x_o_history, x_o_undoDepth, x_o_numberStart, x_o_nesting, x_o_seen, x_o_toldPlanes, x_o_stack, x_o_facts])), (q_o_data, .inl (cy 0, 2243, .inl o_data))] sz) := by
  refine kMet (y := yX7_freeHoles) (av := [.ref q_o]) (cc := cX7_freeHoles) (maxL := 3) (ret := some .int) (own := RX7) (Qc := fun A9 => (kQi D res [(q_o, .inr (7, [x_o_thrown, x_o_buffer, x_o_bufferLength, x_o_textLength, x_o_position, x_o_error, x_o_errorAt, x_o_errorOffset, .ref q_o_data, x_o_draft, x_o_aside, x_o_history, x_o_undoDepth, x_o_numberStart, x_o_nesting, x_o_seen, x_o_toldPlanes, x_o_stack, x_o_facts])), (q_o_data, .inl (cy 0, 2243, .inl o_data))] A9)) (by decide) rfl rfl (Nat.le_of_ble_eq_true rfl) ?_
  intro p e s m args below meth c A hx hb hr hts hown hml hlocks hname hE hP hD hA hsz ls hl
  have hK := hE.1
  have hl : lv_has ls 3 [(0, .ref q_o)] := hl
  have hS : va_S A s.heap s.heap [] := va_S.rf
  have f_f17 := hts (.fieldLink RX7 17 "PeepBoxModel" "data" "[I") (by decide +kernel)
  have f_inX7 : ∀ w ∈ wsX70, w ∈ wsX7_freeHoles := by decide +kernel
  obtain ⟨QQ, hQQ⟩ : ∃ Q9, Q9 = MQ below (kQi D res [(q_o, .inr (7, [x_o_thrown, x_o_buffer, x_o_bufferLength, x_o_textLength, x_o_position, x_o_error, x_o_errorAt, x_o_errorOffset, .ref q_o_data, x_o_draft, x_o_aside, x_o_history, x_o_undoDepth, x_o_numberStart, x_o_nesting, x_o_seen, x_o_toldPlanes, x_o_stack, x_o_facts])), (q_o_data, .inl (cy 0, 2243, .inl o_data))] A) args s 0 0 A := ⟨_, rfl⟩
  rw [← hQQ]
  have J4 : ∀ (n4 : Nat) (l1 : Int32) (l2 : Int32) (H : Heap) (locs : List Loc) (ls : Array Slot), va_P D vwCl [(q_o, .inr (7, [x_o_thrown, x_o_buffer, x_o_bufferLength, x_o_textLength, x_o_position, x_o_error, x_o_errorAt, x_o_errorOffset, .ref q_o_data, x_o_draft, x_o_aside, x_o_history, x_o_undoDepth, x_o_numberStart, x_o_nesting, x_o_seen, x_o_toldPlanes, x_o_stack, x_o_facts])), (q_o_data, .inl (cy 0, 2243, .inl o_data))] H → va_D A [(q_o, .inr (7, [x_o_thrown, x_o_buffer, x_o_bufferLength, x_o_textLength, x_o_position, x_o_error, x_o_errorAt, x_o_errorOffset, .ref q_o_data, x_o_draft, x_o_aside, x_o_history, x_o_undoDepth, x_o_numberStart, x_o_nesting, x_o_seen, x_o_toldPlanes, x_o_stack, x_o_facts])), (q_o_data, .inl (cy 0, 2243, .inl o_data))] → va_S A s.heap H locs → lv_has ls 3 [(0, .ref q_o), (1, .int l1), (2, .int l2)] → X7_freeHoles_L4 o_data n4 l1 l2 = some res → W p l e ({ frames := 2, cells := 0, slots := 0, locals := 44 } : Room) s m args below meth c H locs 0 0 QQ (F0 m 4 ls []) := by
    intro n4
    induction n4 with
    | zero =>
      intro l1 l2 H locs ls hP hD hS hl hF
      rw [X7_freeHoles_L4] at hF
      cases hF
    | succ n4 ih4 =>
      have J29 : ∀ (l2 : Int32) (k0 : Int32) (k1 : Int32) (H : Heap) (locs : List Loc) (ls : Array Slot), va_P D vwCl [(q_o, .inr (7, [x_o_thrown, x_o_buffer, x_o_bufferLength, x_o_textLength, x_o_position, x_o_error, x_o_errorAt, x_o_errorOffset, .ref q_o_data, x_o_draft, x_o_aside, x_o_history, x_o_undoDepth, x_o_numberStart, x_o_nesting, x_o_seen, x_o_toldPlanes, x_o_stack, x_o_facts])), (q_o_data, .inl (cy 0, 2243, .inl o_data))] H → va_D A [(q_o, .inr (7, [x_o_thrown, x_o_buffer, x_o_bufferLength, x_o_textLength, x_o_position, x_o_error, x_o_errorAt, x_o_errorOffset, .ref q_o_data, x_o_draft, x_o_aside, x_o_history, x_o_undoDepth, x_o_numberStart, x_o_nesting, x_o_seen, x_o_toldPlanes, x_o_stack, x_o_facts])), (q_o_data, .inl (cy 0, 2243, .inl o_data))] → va_S A s.heap H locs → lv_has ls 3 [(0, .ref q_o), (2, .int l2)] → X7_freeHoles_J29 o_data (fun z0 z1 => X7_freeHoles_L4 o_data n4 z0 z1) l2 k0 k1 = some res → W p l e ({ frames := 2, cells := 0, slots := 0, locals := 44 } : Room) s m args below meth c H locs 0 0 QQ (F0 m 29 ls [.int k1, .int k0]) := by
        intro l2 k0 k1 H locs ls hP hD hS hl hF
        unfold X7_freeHoles_J29 at hF
        refine lv_iadd hx hb dX7_freeHoles_29 ?_
        refine lv_topi (fun v1 ev1 => ?_)
        have hF := nm_o hF v1 ev1
        refine lv_istore_n (lv' := [(1, .int v1), (0, .ref q_o), (2, .int l2)]) hx hb dX7_freeHoles_30 rfl hl (by decide) rfl (fun ls hl => ?_)
        obtain ⟨v2, ev2⟩ : ∃ y : Int32, y = l2 + (1 : Int32) := ⟨_, rfl⟩
        have hF := nm_o hF v2 ev2
        refine lv_iinc (v := v2) (lv' := [(2, .int v2), (1, .int v1), (0, .ref q_o)]) hx hb dX7_freeHoles_31 hl (k := 2) rfl (by rw [ev2]; rfl) (by decide) rfl (fun ls hl => ?_)
        refine lv_goto (tgt := 4) hx hb dX7_freeHoles_34 (by decide) ?_
        exact ih4 v1 v2 H locs ls hP hD hS (lv_sub hl [2, 1, 0] rfl) hF
      intro l1 l2 H locs ls hP hD hS hl hF
      rw [X7_freeHoles_L4] at hF
      refine lv_iload_n hx hb dX7_freeHoles_4 rfl (lv_at hl 2 rfl) ?_
      refine lv_aload_n hx hb dX7_freeHoles_5 rfl (lv_at hl 0 rfl) ?_
      refine va_get (D := D) (ci := 7) (v := .ref q_o_data) (C := RX7) (T := TX7) (N := 19) hx hb hts f_inX7 hown hK hP 0 rfl rfl 8 (by decide) f_f17 (fun _ h9 => h9) rfl dX7_freeHoles_6 ?_
      refine lv_iconst (v := 3) hx hb dX7_freeHoles_9 (by decide) ?_
      obtain ⟨h3, hF⟩ := ld_o hF
      refine va_iald hx hb hK hP 1 0 rfl rfl h3 dX7_freeHoles_10 ?_
      refine lv_topi (fun v4 ev4 => ?_)
      have hF := hF v4 ev4
      refine lv_icmp_ge (tgt := 37) hx hb dX7_freeHoles_11 (by decide) (fun c5 => ?_) (fun c5 => ?_)
      · have hF := if_p hF c5
        refine lv_iload_n hx hb dX7_freeHoles_37 rfl (lv_at hl 1 rfl) ?_
        obtain rfl := so_o hF
        rw [hQQ]
        exact kr_i hx hb hr hlocks hP hD hS dX7_freeHoles_38
      · have hF := if_n hF c5
        refine lv_iload_n hx hb dX7_freeHoles_14 rfl (lv_at hl 1 rfl) ?_
        refine lv_aload_n hx hb dX7_freeHoles_15 rfl (lv_at hl 0 rfl) ?_
        refine lv_iload_n hx hb dX7_freeHoles_16 rfl (lv_at hl 2 rfl) ?_
        obtain ⟨r6, h7, hF⟩ := bn1_o hF
        refine kd_i [(q_o, .inr (7, [x_o_thrown, x_o_buffer, x_o_bufferLength, x_o_textLength, x_o_position, x_o_error, x_o_errorAt, x_o_errorOffset, .ref q_o_data, x_o_draft, x_o_aside, x_o_history, x_o_undoDepth, x_o_numberStart, x_o_nesting, x_o_seen, x_o_toldPlanes, x_o_stack, x_o_facts])), (q_o_data, .inl (cy 0, 2243, .inl o_data))] (va_runV (As := [.int l2]) (rest := [.int l1]) ⟨hx, hb, hml, hown, hts⟩ (c_X7_lookerAt q_o q_o_data H.size x_o_thrown x_o_buffer x_o_bufferLength x_o_textLength x_o_position x_o_error x_o_errorAt x_o_errorOffset x_o_draft x_o_aside x_o_history x_o_undoDepth x_o_numberStart x_o_nesting x_o_seen x_o_toldPlanes x_o_stack x_o_facts o_data l2 _ h7) (cwV 1 hts gX7_freeHoles_X7_lookerAt rfl rfl rfl kd_X7_lookerAt ⟨Nat.le_of_ble_eq_true rfl, Nat.le_of_ble_eq_true rfl⟩) ⟨kP_blind (EN_ok D cy) D _ _ _, va_recv hK hP (ci := 7) (q0 := 0) rfl rfl, kStart (EN_ok D cy) hE hP hD hS hA [0, 1] rfl rfl _⟩ rfl rfl hl.1 rfl (lv_room (Nat.le_of_ble_eq_true rfl)) dX7_freeHoles_17 ⟨Nat.zero_le _, Nat.zero_le _⟩) hP hD hS hA [0, 1] [] rfl rfl rfl 2 rfl (by decide +kernel) (fun H locs hP hD hS => ?_)
        refine lv_iconst (v := -1) hx hb dX7_freeHoles_20 (by decide) ?_
        refine lv_icmp_ne (tgt := 28) hx hb dX7_freeHoles_21 (by decide) (fun c8 => ?_) (fun c8 => ?_)
        · have hF := if_n hF c8
          refine lv_iconst (v := 0) hx hb dX7_freeHoles_28 (by decide) ?_
          exact J29 l2 l1 (0 : Int32) H locs ls hP hD hS (lv_sub hl [0, 2] rfl) hF
        · have hF := if_p hF c8
          refine lv_iconst (v := 1) hx hb dX7_freeHoles_24 (by decide) ?_
          refine lv_goto (tgt := 29) hx hb dX7_freeHoles_25 (by decide) ?_
          exact J29 l2 l1 (1 : Int32) H locs ls hP hD hS (lv_sub hl [0, 2] rfl) hF
  have main : ∀ (H : Heap) (locs : List Loc) (ls : Array Slot), va_P D vwCl [(q_o, .inr (7, [x_o_thrown, x_o_buffer, x_o_bufferLength, x_o_textLength, x_o_position, x_o_error, x_o_errorAt, x_o_errorOffset, .ref q_o_data, x_o_draft, x_o_aside, x_o_history, x_o_undoDepth, x_o_numberStart, x_o_nesting, x_o_seen, x_o_toldPlanes, x_o_stack, x_o_facts])), (q_o_data, .inl (cy 0, 2243, .inl o_data))] H → va_D A [(q_o, .inr (7, [x_o_thrown, x_o_buffer, x_o_bufferLength, x_o_textLength, x_o_position, x_o_error, x_o_errorAt, x_o_errorOffset, .ref q_o_data, x_o_draft, x_o_aside, x_o_history, x_o_undoDepth, x_o_numberStart, x_o_nesting, x_o_seen, x_o_toldPlanes, x_o_stack, x_o_facts])), (q_o_data, .inl (cy 0, 2243, .inl o_data))] → va_S A s.heap H locs → lv_has ls 3 [(0, .ref q_o)] → W p l e ({ frames := 2, cells := 0, slots := 0, locals := 44 } : Room) s m args below meth c H locs 0 0 QQ (F0 m 0 ls []) := by
    intro H locs ls hP hD hS hl
    unfold X7_freeHoles at hF
    refine lv_iconst (v := 0) hx hb dX7_freeHoles_0 (by decide) ?_
    refine lv_istore_n (lv' := [(1, .int (0 : Int32)), (0, .ref q_o)]) hx hb dX7_freeHoles_1 rfl hl (by decide) rfl (fun ls hl => ?_)
    refine lv_iconst (v := 0) hx hb dX7_freeHoles_2 (by decide) ?_
    refine lv_istore_n (lv' := [(2, .int (0 : Int32)), (1, .int (0 : Int32)), (0, .ref q_o)]) hx hb dX7_freeHoles_3 rfl hl (by decide) rfl (fun ls hl => ?_)
    exact J4 FU (0 : Int32) (0 : Int32) H locs ls hP hD hS (lv_sub hl [2, 1, 0] rfl) hF
  exact main s.heap [] ls hP hD hS hl
