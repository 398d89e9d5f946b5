/-! contracts, written by program (gen.py): X1_allPaid X6_limited X2_combine X2_operand X2_value X5_priceFor X1_lookOn X1_beginLook X1_choose X1_tick X3_hasRoomFor X3_put X3_begin X3_peek X3_isLetter X3_takesWord X3_fail -/
theorem kd_X1_allPaid : yX1_allPaid.cls = RX1 ∧ yX1_allPaid.cls ≠ "java/lang/invoke/MethodHandle" ∧ yX1_allPaid.cls ≠ "java/lang/invoke/VarHandle" ∧ (parseMethodDescriptor yX1_allPaid.desc).map (fun d => d.parameters.length) = some 0 := by decide +kernel
set_option maxHeartbeats 4000000 in
set_option maxRecDepth 100000 in
theorem c_X1_allPaid {l : Launch} {D : va_G} {cy : Nat → ClassId} (q_o q_o_facts : Nat) (sz : Nat) (x_o_lookLength x_o_time x_o_lookers : Value) (o_viewers : Int32) (o_facts : Nat → Int32) (res : Int32) (hF : X1_allPaid o_viewers o_facts = some res) : Met l yX1_allPaid wsX1_allPaid ({ frames := 1, cells := 0, slots := 0, locals := 22 } : Room) (kP (EN D cy) D [.ref q_o] [(q_o, .inr (1, [.int o_viewers, x_o_lookLength, x_o_time, x_o_lookers, .ref q_o_facts])), (q_o_facts, .inl (cy 0, 140, .inl o_facts))] sz) (kQi D res [(q_o, .inr (1, [.int o_viewers, x_o_lookLength, x_o_time, x_o_lookers, .ref q_o_facts])), (q_o_facts, .inl (cy 0, 140, .inl o_facts))] (va_A [(q_o, .inr (1, [.int o_viewers, x_o_lookLength, x_o_time, x_o_lookers, .ref q_o_facts])), (q_o_facts, .inl (cy 0, 140, .inl o_facts))] sz)) 0 0 (va_A [(q_o, .inr (1, [.int o_viewers, x_o_lookLength, x_o_time, x_o_lookers, .ref q_o_facts])), (q_o_facts, .inl (cy 0, 140, .inl o_facts))] sz) := by
  refine kMet (y := yX1_allPaid) (av := [.ref q_o]) (cc := cX1_allPaid) (maxL := 3) (ret := some .int) (own := RX1) (Qc := fun A9 => (kQi D res [(q_o, .inr (1, [.int o_viewers, x_o_lookLength, x_o_time, x_o_lookers, .ref q_o_facts])), (q_o_facts, .inl (cy 0, 140, .inl o_facts))] A9)) (by decide) rfl rfl (Nat.le_of_ble_eq_true rfl) ?_
  intro p e s m args below meth c A hx hb hr hts hown hml hlocks hname hE hP hD hA hsz ls hl
  have hK := hE.1
  have hl : lv_has ls 3 [(0, .ref q_o)] := hl
  have hS : va_S A s.heap s.heap [] := va_S.rf
  have f_f9 := hts (.fieldLink RX1 9 "PeepBox$Crowd" "viewers" "I") (by decide +kernel)
  have f_inX1 : ∀ w ∈ wsX10, w ∈ wsX1_allPaid := by decide +kernel
  obtain ⟨QQ, hQQ⟩ : ∃ Q9, Q9 = MQ below (kQi D res [(q_o, .inr (1, [.int o_viewers, x_o_lookLength, x_o_time, x_o_lookers, .ref q_o_facts])), (q_o_facts, .inl (cy 0, 140, .inl o_facts))] A) args s 0 0 A := ⟨_, rfl⟩
  rw [← hQQ]
  have J4 : ∀ (n4 : Nat) (l1 : Int32) (l2 : Int32) (H : Heap) (locs : List Loc) (ls : Array Slot), va_P D vwCl [(q_o, .inr (1, [.int o_viewers, x_o_lookLength, x_o_time, x_o_lookers, .ref q_o_facts])), (q_o_facts, .inl (cy 0, 140, .inl o_facts))] H → va_D A [(q_o, .inr (1, [.int o_viewers, x_o_lookLength, x_o_time, x_o_lookers, .ref q_o_facts])), (q_o_facts, .inl (cy 0, 140, .inl o_facts))] → va_S A s.heap H locs → lv_has ls 3 [(0, .ref q_o), (1, .int l1), (2, .int l2)] → X1_allPaid_L4 o_viewers o_facts n4 l1 l2 = some res → W p l e ({ frames := 1, cells := 0, slots := 0, locals := 22 } : Room) s m args below meth c H locs 0 0 QQ (F0 m 4 ls []) := by
    intro n4
    induction n4 with
    | zero =>
      intro l1 l2 H locs ls hP hD hS hl hF
      rw [X1_allPaid_L4] at hF
      cases hF
    | succ n4 ih4 =>
      intro l1 l2 H locs ls hP hD hS hl hF
      rw [X1_allPaid_L4] at hF
      refine lv_iload_n hx hb dX1_allPaid_4 rfl (lv_at hl 2 rfl) ?_
      refine lv_aload_n hx hb dX1_allPaid_5 rfl (lv_at hl 0 rfl) ?_
      refine va_get (D := D) (ci := 1) (v := .int o_viewers) (C := RX1) (T := TX1) (N := 5) hx hb hts f_inX1 hown hK hP 0 rfl rfl 0 (by decide) f_f9 (fun _ h9 => h9) rfl dX1_allPaid_6 ?_
      refine lv_icmp_ge (tgt := 28) hx hb dX1_allPaid_9 (by decide) (fun c1 => ?_) (fun c1 => ?_)
      · have hF := if_p hF c1
        refine lv_iload_n hx hb dX1_allPaid_28 rfl (lv_at hl 1 rfl) ?_
        obtain rfl := so_o hF
        rw [hQQ]
        exact kr_i hx hb hr hlocks hP hD hS dX1_allPaid_29
      · have hF := if_n hF c1
        refine lv_iload_n hx hb dX1_allPaid_12 rfl (lv_at hl 1 rfl) ?_
        refine lv_aload_n hx hb dX1_allPaid_13 rfl (lv_at hl 0 rfl) ?_
        refine lv_iload_n hx hb dX1_allPaid_14 rfl (lv_at hl 2 rfl) ?_
        refine lv_bipush (v := 6) hx hb dX1_allPaid_15 (by decide) ?_
        obtain ⟨r2, h3, hF⟩ := bn1_o hF
        refine kd_i [(q_o, .inr (1, [.int o_viewers, x_o_lookLength, x_o_time, x_o_lookers, .ref q_o_facts])), (q_o_facts, .inl (cy 0, 140, .inl o_facts))] (va_runV (As := [.int l2, .int (6 : Int32)]) (rest := [.int l1]) ⟨hx, hb, hml, hown, hts⟩ (c_X1_fact q_o q_o_facts H.size (.int o_viewers) x_o_lookLength x_o_time x_o_lookers o_facts l2 (6 : Int32) _ h3) (cwV 2 hts gX1_allPaid_X1_fact rfl rfl rfl kd_X1_fact ⟨Nat.le_of_ble_eq_true rfl, Nat.le_of_ble_eq_true rfl⟩) ⟨kP_blind (EN_ok D cy) D _ _ _, va_recv hK hP (ci := 1) (q0 := 0) rfl rfl, kStart (EN_ok D cy) hE hP hD hS hA [0, 1] rfl rfl _⟩ rfl rfl hl.1 rfl (lv_room (Nat.le_of_ble_eq_true rfl)) dX1_allPaid_17 ⟨Nat.zero_le _, Nat.zero_le _⟩) hP hD hS hA [0, 1] [] rfl rfl rfl 2 rfl (by decide +kernel) (fun H locs hP hD hS => ?_)
        refine lv_iadd hx hb dX1_allPaid_20 ?_
        refine lv_topi (fun v4 ev4 => ?_)
        have hF := nm_o hF v4 ev4
        refine lv_istore_n (lv' := [(1, .int v4), (0, .ref q_o), (2, .int l2)]) hx hb dX1_allPaid_21 rfl hl (by decide) rfl (fun ls hl => ?_)
        obtain ⟨v5, ev5⟩ : ∃ y : Int32, y = l2 + (1 : Int32) := ⟨_, rfl⟩
        have hF := nm_o hF v5 ev5
        refine lv_iinc (v := v5) (lv' := [(2, .int v5), (1, .int v4), (0, .ref q_o)]) hx hb dX1_allPaid_22 hl (k := 2) rfl (by rw [ev5]; rfl) (by decide) rfl (fun ls hl => ?_)
        refine lv_goto (tgt := 4) hx hb dX1_allPaid_25 (by decide) ?_
        exact ih4 v4 v5 H locs ls hP hD hS (lv_sub hl [2, 1, 0] rfl) hF
  have main : ∀ (H : Heap) (locs : List Loc) (ls : Array Slot), va_P D vwCl [(q_o, .inr (1, [.int o_viewers, x_o_lookLength, x_o_time, x_o_lookers, .ref q_o_facts])), (q_o_facts, .inl (cy 0, 140, .inl o_facts))] H → va_D A [(q_o, .inr (1, [.int o_viewers, x_o_lookLength, x_o_time, x_o_lookers, .ref q_o_facts])), (q_o_facts, .inl (cy 0, 140, .inl o_facts))] → va_S A s.heap H locs → lv_has ls 3 [(0, .ref q_o)] → W p l e ({ frames := 1, cells := 0, slots := 0, locals := 22 } : Room) s m args below meth c H locs 0 0 QQ (F0 m 0 ls []) := by
    intro H locs ls hP hD hS hl
    unfold X1_allPaid at hF
    refine lv_iconst (v := 0) hx hb dX1_allPaid_0 (by decide) ?_
    refine lv_istore_n (lv' := [(1, .int (0 : Int32)), (0, .ref q_o)]) hx hb dX1_allPaid_1 rfl hl (by decide) rfl (fun ls hl => ?_)
    refine lv_iconst (v := 0) hx hb dX1_allPaid_2 (by decide) ?_
    refine lv_istore_n (lv' := [(2, .int (0 : Int32)), (1, .int (0 : Int32)), (0, .ref q_o)]) hx hb dX1_allPaid_3 rfl hl (by decide) rfl (fun ls hl => ?_)
    exact J4 FU (0 : Int32) (0 : Int32) H locs ls hP hD hS (lv_sub hl [2, 1, 0] rfl) hF
  exact main s.heap [] ls hP hD hS hl
theorem kd_X6_limited : yX6_limited.cls ≠ "java/lang/invoke/MethodHandle" ∧ yX6_limited.cls ≠ "java/lang/invoke/VarHandle" ∧ (parseMethodDescriptor yX6_limited.desc).map (fun d => d.parameters.length) = some 3 := by decide +kernel
set_option maxHeartbeats 4000000 in
set_option maxRecDepth 100000 in
theorem c_X6_limited {l : Launch} {D : va_G} {cy : Nat → ClassId} (sz : Nat) (p0 : Int64) (p2 : Int32) (p3 : Int32) (res : Int32) (hF : X6_limited p0 p2 p3 = some res) : Met l yX6_limited wsX6_limited ({ frames := 1, cells := 0, slots := 0, locals := 30 } : Room) (kP (EN D cy) D [.long p0, .int p2, .int p3] [] sz) (kQi D res [] (va_A [] sz)) 0 0 (va_A [] sz) := by
  refine kMet (y := yX6_limited) (av := [.long p0, .int p2, .int p3]) (cc := cX6_limited) (maxL := 4) (ret := some .int) (own := RX6) (Qc := fun A9 => (kQi D res [] A9)) (by decide) rfl rfl (Nat.le_of_ble_eq_true rfl) ?_
  intro p e s m args below meth c A hx hb hr hts hown hml hlocks hname hE hP hD hA hsz ls hl
  have hK := hE.1
  have hl : lv_has ls 4 [(0, .long p0), (2, .int p2), (3, .int p3)] := hl
  have hS : va_S A s.heap s.heap [] := va_S.rf
  have f_m281 := hts (.methodLink RX6 281 Lib.MathLoose.min_long.x) (by decide +kernel)
  have f_s_va_mmin_long := hts (.static Lib.MathLoose.min_long.x) (by decide +kernel)
  have f_iMath := hts (.initialized "java/lang/Math") (by decide +kernel)
  have f_k_va_mmin_long := hts (.code Lib.MathLoose.min_long.x Lib.MathLoose.min_long.code 4 (some .long)) (by decide +kernel)
  have f_m284 := hts (.methodLink RX6 284 Lib.MathLoose.max_long.x) (by decide +kernel)
  have f_s_va_mmax_long := hts (.static Lib.MathLoose.max_long.x) (by decide +kernel)
  have f_k_va_mmax_long := hts (.code Lib.MathLoose.max_long.x Lib.MathLoose.max_long.code 4 (some .long)) (by decide +kernel)
  obtain ⟨QQ, hQQ⟩ : ∃ Q9, Q9 = MQ below (kQi D res [] A) args s 0 0 A := ⟨_, rfl⟩
  rw [← hQQ]
  have main : ∀ (H : Heap) (locs : List Loc) (ls : Array Slot), va_P D vwCl [] H → va_D A [] → va_S A s.heap H locs → lv_has ls 4 [(0, .long p0), (2, .int p2), (3, .int p3)] → W p l e ({ frames := 1, cells := 0, slots := 0, locals := 30 } : Room) s m args below meth c H locs 0 0 QQ (F0 m 0 ls []) := by
    intro H locs ls hP hD hS hl
    unfold X6_limited at hF
    refine lv_iload_n hx hb dX6_limited_0 rfl (lv_at hl 1 rfl) ?_
    refine lv_i2l hx hb dX6_limited_1 rfl ?_
    refine lv_iload_n hx hb dX6_limited_2 rfl (lv_at hl 2 rfl) ?_
    refine lv_i2l hx hb dX6_limited_3 rfl ?_
    refine lv_lload_n hx hb dX6_limited_4 rfl (lv_at hl 0 rfl) ?_
    refine va_mmin_long hx hb (by rw [hml]; exact hl.1.symm) hown f_m281 f_s_va_mmin_long f_iMath f_k_va_mmin_long (Nat.le_of_ble_eq_true rfl) (Nat.le_of_ble_eq_true rfl) (Nat.zero_le _) (Nat.zero_le _) dX6_limited_5 ?_
    refine lv_topl (fun v1 ev1 => ?_)
    have hF := nm_o hF v1 ev1
    refine va_mmax_long hx hb (by rw [hml]; exact hl.1.symm) hown f_m284 f_s_va_mmax_long f_iMath f_k_va_mmax_long (Nat.le_of_ble_eq_true rfl) (Nat.le_of_ble_eq_true rfl) (Nat.zero_le _) (Nat.zero_le _) dX6_limited_8 ?_
    refine lv_topl (fun v2 ev2 => ?_)
    have hF := nm_o hF v2 ev2
    refine lv_l2i hx hb dX6_limited_11 rfl ?_
    obtain rfl := so_o hF
    rw [hQQ]
    exact kr_i hx hb hr hlocks hP hD hS dX6_limited_12
  exact main s.heap [] ls hP hD hS hl
theorem kd_X2_combine : yX2_combine.cls ≠ "java/lang/invoke/MethodHandle" ∧ yX2_combine.cls ≠ "java/lang/invoke/VarHandle" ∧ (parseMethodDescriptor yX2_combine.desc).map (fun d => d.parameters.length) = some 3 := by decide +kernel
set_option maxHeartbeats 4000000 in
set_option maxRecDepth 100000 in
theorem c_X2_combine {l : Launch} {D : va_G} {cy : Nat → ClassId} (sz : Nat) (p0 : Int32) (p1 : Int64) (p3 : Int64) (res : Int32) (hF : X2_combine p0 p1 p3 = some res) : Met l yX2_combine wsX2_combine ({ frames := 2, cells := 0, slots := 0, locals := 53 } : Room) (kP (EN D cy) D [.int p0, .long p1, .long p3] [] sz) (kQi D res [] (va_A [] sz)) 0 0 (va_A [] sz) := by
  refine kMet (y := yX2_combine) (av := [.int p0, .long p1, .long p3]) (cc := cX2_combine) (maxL := 5) (ret := some .int) (own := RX2) (Qc := fun A9 => (kQi D res [] A9)) (by decide) rfl rfl (Nat.le_of_ble_eq_true rfl) ?_
  intro p e s m args below meth c A hx hb hr hts hown hml hlocks hname hE hP hD hA hsz ls hl
  have hK := hE.1
  have hl : lv_has ls 5 [(0, .int p0), (1, .long p1), (3, .long p3)] := hl
  have hS : va_S A s.heap s.heap [] := va_S.rf
  have f_c46 := hts (.constant RX2 46 (-1000000)) (by decide +kernel)
  have f_c47 := hts (.constant RX2 47 (1000000)) (by decide +kernel)
  have f_iRX6 := hts (.initialized RX6) (by decide +kernel)
  have f_stX6_limited := hts (.static yX6_limited) (by decide +kernel)
  have f_stX6_quotient := hts (.static yX6_quotient) (by decide +kernel)
  obtain ⟨QQ, hQQ⟩ : ∃ Q9, Q9 = MQ below (kQi D res [] A) args s 0 0 A := ⟨_, rfl⟩
  rw [← hQQ]
  have main : ∀ (H : Heap) (locs : List Loc) (ls : Array Slot), va_P D vwCl [] H → va_D A [] → va_S A s.heap H locs → lv_has ls 5 [(0, .int p0), (1, .long p1), (3, .long p3)] → W p l e ({ frames := 2, cells := 0, slots := 0, locals := 53 } : Room) s m args below meth c H locs 0 0 QQ (F0 m 0 ls []) := by
    intro H locs ls hP hD hS hl
    unfold X2_combine at hF
    refine lv_iload_n hx hb dX2_combine_0 rfl (lv_at hl 0 rfl) ?_
    by_cases c1 : p0 = 42
    · have hF := if_p hF c1
      refine lv_tableIn (off := 53) (tgt := 54) hx hb dX2_combine_1 (by rw [c1]; decide) (by rw [c1]; decide) (by rw [c1]; rfl) (by decide) ?_
      refine lv_lload_n hx hb dX2_combine_54 rfl (lv_at hl 1 rfl) ?_
      refine lv_lload_n hx hb dX2_combine_55 rfl (lv_at hl 2 rfl) ?_
      refine lv_lmul hx hb dX2_combine_56 ?_
      refine lv_ldc (v := -1000000) hx hb hown f_c46 dX2_combine_57 ?_
      refine lv_ldc (v := 1000000) hx hb hown f_c47 dX2_combine_59 ?_
      obtain ⟨r2, h3, hF⟩ := bn1_o hF
      refine kd_i [] (va_runSN (As := [.long (p1 * p3), .int (-1000000 : Int32), .int (1000000 : Int32)]) (rest := []) ⟨hx, hb, hml, hown, hts⟩ (c_X6_limited H.size (p1 * p3) (-1000000 : Int32) (1000000 : Int32) _ h3) ⟨va_cnB 3 hts gX2_combine_X6_limited_n48 rfl rfl rfl (hE.2.1 (RX2, 48, yX6_limited, "PeepBox") (List.mem_of_getElem? (i := 5) rfl)) f_iRX6 kd_X6_limited ⟨Nat.le_of_ble_eq_true rfl, Nat.le_of_ble_eq_true rfl⟩, f_stX6_limited, trivial⟩ ⟨kP_blind (EN_ok D cy) D _ _ _, kStart (EN_ok D cy) hE hP hD hS hA [] rfl rfl _⟩ rfl rfl hl.1 rfl (lv_room (Nat.le_of_ble_eq_true rfl)) dX2_combine_61 ⟨Nat.zero_le _, Nat.zero_le _⟩) hP hD hS hA [] [] rfl rfl rfl 0 rfl (by decide +kernel) (fun H locs hP hD hS => ?_)
      obtain rfl := so_o hF
      rw [hQQ]
      exact kr_i hx hb hr hlocks hP hD hS dX2_combine_64
    have hF := if_n hF c1
    by_cases c4 : p0 = 43
    · have hF := if_p hF c4
      refine lv_tableIn (off := 31) (tgt := 32) hx hb dX2_combine_1 (by rw [c4]; decide) (by rw [c4]; decide) (by rw [c4]; rfl) (by decide) ?_
      refine lv_lload_n hx hb dX2_combine_32 rfl (lv_at hl 1 rfl) ?_
      refine lv_lload_n hx hb dX2_combine_33 rfl (lv_at hl 2 rfl) ?_
      refine lv_ladd hx hb dX2_combine_34 ?_
      refine lv_ldc (v := -1000000) hx hb hown f_c46 dX2_combine_35 ?_
      refine lv_ldc (v := 1000000) hx hb hown f_c47 dX2_combine_37 ?_
      obtain ⟨r5, h6, hF⟩ := bn1_o hF
      refine kd_i [] (va_runSN (As := [.long (p1 + p3), .int (-1000000 : Int32), .int (1000000 : Int32)]) (rest := []) ⟨hx, hb, hml, hown, hts⟩ (c_X6_limited H.size (p1 + p3) (-1000000 : Int32) (1000000 : Int32) _ h6) ⟨va_cnB 3 hts gX2_combine_X6_limited_n48 rfl rfl rfl (hE.2.1 (RX2, 48, yX6_limited, "PeepBox") (List.mem_of_getElem? (i := 5) rfl)) f_iRX6 kd_X6_limited ⟨Nat.le_of_ble_eq_true rfl, Nat.le_of_ble_eq_true rfl⟩, f_stX6_limited, trivial⟩ ⟨kP_blind (EN_ok D cy) D _ _ _, kStart (EN_ok D cy) hE hP hD hS hA [] rfl rfl _⟩ rfl rfl hl.1 rfl (lv_room (Nat.le_of_ble_eq_true rfl)) dX2_combine_39 ⟨Nat.zero_le _, Nat.zero_le _⟩) hP hD hS hA [] [] rfl rfl rfl 0 rfl (by decide +kernel) (fun H locs hP hD hS => ?_)
      obtain rfl := so_o hF
      rw [hQQ]
      exact kr_i hx hb hr hlocks hP hD hS dX2_combine_42
    have hF := if_n hF c4
    by_cases c7 : p0 = 44
    · have hF := if_p hF c7
      refine lv_tableIn (off := 64) (tgt := 65) hx hb dX2_combine_1 (by rw [c7]; decide) (by rw [c7]; decide) (by rw [c7]; rfl) (by decide) ?_
      refine lv_lload_n hx hb dX2_combine_65 rfl (lv_at hl 1 rfl) ?_
      refine lv_lload_n hx hb dX2_combine_66 rfl (lv_at hl 2 rfl) ?_
      obtain ⟨r8, h9, hF⟩ := bn1_o hF
      refine kd_l [] (va_runSN (As := [.long p1, .long p3]) (rest := []) ⟨hx, hb, hml, hown, hts⟩ (c_X6_quotient H.size p1 p3 _ h9) ⟨va_cnB 2 hts gX2_combine_X6_quotient_n52 rfl rfl rfl (hE.2.1 (RX2, 52, yX6_quotient, "PeepBox") (List.mem_of_getElem? (i := 6) rfl)) f_iRX6 kd_X6_quotient ⟨Nat.le_of_ble_eq_true rfl, Nat.le_of_ble_eq_true rfl⟩, f_stX6_quotient, trivial⟩ ⟨kP_blind (EN_ok D cy) D _ _ _, kStart (EN_ok D cy) hE hP hD hS hA [] rfl rfl _⟩ rfl rfl hl.1 rfl (lv_room (Nat.le_of_ble_eq_true rfl)) dX2_combine_67 ⟨Nat.zero_le _, Nat.zero_le _⟩) hP hD hS hA [] [] rfl rfl rfl 0 rfl (by decide +kernel) (fun H locs hP hD hS => ?_)
      refine lv_ldc (v := -1000000) hx hb hown f_c46 dX2_combine_70 ?_
      refine lv_ldc (v := 1000000) hx hb hown f_c47 dX2_combine_72 ?_
      obtain ⟨r10, h11, hF⟩ := bn1_o hF
      refine kd_i [] (va_runSN (As := [.long r8, .int (-1000000 : Int32), .int (1000000 : Int32)]) (rest := []) ⟨hx, hb, hml, hown, hts⟩ (c_X6_limited H.size r8 (-1000000 : Int32) (1000000 : Int32) _ h11) ⟨va_cnB 3 hts gX2_combine_X6_limited_n48 rfl rfl rfl (hE.2.1 (RX2, 48, yX6_limited, "PeepBox") (List.mem_of_getElem? (i := 5) rfl)) f_iRX6 kd_X6_limited ⟨Nat.le_of_ble_eq_true rfl, Nat.le_of_ble_eq_true rfl⟩, f_stX6_limited, trivial⟩ ⟨kP_blind (EN_ok D cy) D _ _ _, kStart (EN_ok D cy) hE hP hD hS hA [] rfl rfl _⟩ rfl rfl hl.1 rfl (lv_room (Nat.le_of_ble_eq_true rfl)) dX2_combine_74 ⟨Nat.zero_le _, Nat.zero_le _⟩) hP hD hS hA [] [] rfl rfl rfl 0 rfl (by decide +kernel) (fun H locs hP hD hS => ?_)
      obtain rfl := so_o hF
      rw [hQQ]
      exact kr_i hx hb hr hlocks hP hD hS dX2_combine_77
    have hF := if_n hF c7
    by_cases c12 : p0 = 45
    · have hF := if_p hF c12
      refine lv_tableIn (off := 42) (tgt := 43) hx hb dX2_combine_1 (by rw [c12]; decide) (by rw [c12]; decide) (by rw [c12]; rfl) (by decide) ?_
      refine lv_lload_n hx hb dX2_combine_43 rfl (lv_at hl 1 rfl) ?_
      refine lv_lload_n hx hb dX2_combine_44 rfl (lv_at hl 2 rfl) ?_
      refine lv_lsub hx hb dX2_combine_45 ?_
      refine lv_ldc (v := -1000000) hx hb hown f_c46 dX2_combine_46 ?_
      refine lv_ldc (v := 1000000) hx hb hown f_c47 dX2_combine_48 ?_
      obtain ⟨r13, h14, hF⟩ := bn1_o hF
      refine kd_i [] (va_runSN (As := [.long (p1 - p3), .int (-1000000 : Int32), .int (1000000 : Int32)]) (rest := []) ⟨hx, hb, hml, hown, hts⟩ (c_X6_limited H.size (p1 - p3) (-1000000 : Int32) (1000000 : Int32) _ h14) ⟨va_cnB 3 hts gX2_combine_X6_limited_n48 rfl rfl rfl (hE.2.1 (RX2, 48, yX6_limited, "PeepBox") (List.mem_of_getElem? (i := 5) rfl)) f_iRX6 kd_X6_limited ⟨Nat.le_of_ble_eq_true rfl, Nat.le_of_ble_eq_true rfl⟩, f_stX6_limited, trivial⟩ ⟨kP_blind (EN_ok D cy) D _ _ _, kStart (EN_ok D cy) hE hP hD hS hA [] rfl rfl _⟩ rfl rfl hl.1 rfl (lv_room (Nat.le_of_ble_eq_true rfl)) dX2_combine_50 ⟨Nat.zero_le _, Nat.zero_le _⟩) hP hD hS hA [] [] rfl rfl rfl 0 rfl (by decide +kernel) (fun H locs hP hD hS => ?_)
      obtain rfl := so_o hF
      rw [hQQ]
      exact kr_i hx hb hr hlocks hP hD hS dX2_combine_53
    have hF := if_n hF c12
    have tc1 : p0.toInt ≠ 42 := fun h9 => c1 (Int32.toInt_inj.mp (h9.trans (by decide)))
    have tc4 : p0.toInt ≠ 43 := fun h9 => c4 (Int32.toInt_inj.mp (h9.trans (by decide)))
    have tc7 : p0.toInt ≠ 44 := fun h9 => c7 (Int32.toInt_inj.mp (h9.trans (by decide)))
    have tc12 : p0.toInt ≠ 45 := fun h9 => c12 (Int32.toInt_inj.mp (h9.trans (by decide)))
    refine lv_tableOut (tgt := 65) hx hb dX2_combine_1 (by omega) (by decide) ?_
    refine lv_lload_n hx hb dX2_combine_65 rfl (lv_at hl 1 rfl) ?_
    refine lv_lload_n hx hb dX2_combine_66 rfl (lv_at hl 2 rfl) ?_
    obtain ⟨r15, h16, hF⟩ := bn1_o hF
    refine kd_l [] (va_runSN (As := [.long p1, .long p3]) (rest := []) ⟨hx, hb, hml, hown, hts⟩ (c_X6_quotient H.size p1 p3 _ h16) ⟨va_cnB 2 hts gX2_combine_X6_quotient_n52 rfl rfl rfl (hE.2.1 (RX2, 52, yX6_quotient, "PeepBox") (List.mem_of_getElem? (i := 6) rfl)) f_iRX6 kd_X6_quotient ⟨Nat.le_of_ble_eq_true rfl, Nat.le_of_ble_eq_true rfl⟩, f_stX6_quotient, trivial⟩ ⟨kP_blind (EN_ok D cy) D _ _ _, kStart (EN_ok D cy) hE hP hD hS hA [] rfl rfl _⟩ rfl rfl hl.1 rfl (lv_room (Nat.le_of_ble_eq_true rfl)) dX2_combine_67 ⟨Nat.zero_le _, Nat.zero_le _⟩) hP hD hS hA [] [] rfl rfl rfl 0 rfl (by decide +kernel) (fun H locs hP hD hS => ?_)
    refine lv_ldc (v := -1000000) hx hb hown f_c46 dX2_combine_70 ?_
    refine lv_ldc (v := 1000000) hx hb hown f_c47 dX2_combine_72 ?_
    obtain ⟨r17, h18, hF⟩ := bn1_o hF
    refine kd_i [] (va_runSN (As := [.long r15, .int (-1000000 : Int32), .int (1000000 : Int32)]) (rest := []) ⟨hx, hb, hml, hown, hts⟩ (c_X6_limited H.size r15 (-1000000 : Int32) (1000000 : Int32) _ h18) ⟨va_cnB 3 hts gX2_combine_X6_limited_n48 rfl rfl rfl (hE.2.1 (RX2, 48, yX6_limited, "PeepBox") (List.mem_of_getElem? (i := 5) rfl)) f_iRX6 kd_X6_limited ⟨Nat.le_of_ble_eq_true rfl, Nat.le_of_ble_eq_true rfl⟩, f_stX6_limited, trivial⟩ ⟨kP_blind (EN_ok D cy) D _ _ _, kStart (EN_ok D cy) hE hP hD hS hA [] rfl rfl _⟩ rfl rfl hl.1 rfl (lv_room (Nat.le_of_ble_eq_true rfl)) dX2_combine_74 ⟨Nat.zero_le _, Nat.zero_le _⟩) hP hD hS hA [] [] rfl rfl rfl 0 rfl (by decide +kernel) (fun H locs hP hD hS => ?_)
    obtain rfl := so_o hF
    rw [hQQ]
    exact kr_i hx hb hr hlocks hP hD hS dX2_combine_77
  exact main s.heap [] ls hP hD hS hl
theorem kd_X2_operand : yX2_operand.cls ≠ "java/lang/invoke/MethodHandle" ∧ yX2_operand.cls ≠ "java/lang/invoke/VarHandle" ∧ (parseMethodDescriptor yX2_operand.desc).map (fun d => d.parameters.length) = some 5 := by decide +kernel
set_option maxHeartbeats 4000000 in
set_option maxRecDepth 100000 in
theorem c_X2_operand {l : Launch} {D : va_G} {cy : Nat → ClassId} (sz : Nat) (p0 : Int32) (p1 : Int32) (p2 : Int32) (p3 : Int32) (p4 : Int32) (res : Int32) (hF : X2_operand p0 p1 p2 p3 p4 = some res) : Met l yX2_operand wsX2_operand ({ frames := 0, cells := 0, slots := 0, locals := 0 } : Room) (kP (EN D cy) D [.int p0, .int p1, .int p2, .int p3, .int p4] [] sz) (kQi D res [] (va_A [] sz)) 0 0 (va_A [] sz) := by
  refine kMet (y := yX2_operand) (av := [.int p0, .int p1, .int p2, .int p3, .int p4]) (cc := cX2_operand) (maxL := 5) (ret := some .int) (own := RX2) (Qc := fun A9 => (kQi D res [] A9)) (by decide) rfl rfl (Nat.le_of_ble_eq_true rfl) ?_
  intro p e s m args below meth c A hx hb hr hts hown hml hlocks hname hE hP hD hA hsz ls hl
  have hK := hE.1
  have hl : lv_has ls 5 [(0, .int p0), (1, .int p1), (2, .int p2), (3, .int p3), (4, .int p4)] := hl
  have hS : va_S A s.heap s.heap [] := va_S.rf
  obtain ⟨QQ, hQQ⟩ : ∃ Q9, Q9 = MQ below (kQi D res [] A) args s 0 0 A := ⟨_, rfl⟩
  rw [← hQQ]
  have main : ∀ (H : Heap) (locs : List Loc) (ls : Array Slot), va_P D vwCl [] H → va_D A [] → va_S A s.heap H locs → lv_has ls 5 [(0, .int p0), (1, .int p1), (2, .int p2), (3, .int p3), (4, .int p4)] → W p l e ({ frames := 0, cells := 0, slots := 0, locals := 0 } : Room) s m args below meth c H locs 0 0 QQ (F0 m 0 ls []) := by
    intro H locs ls hP hD hS hl
    unfold X2_operand at hF
    refine lv_iload_n hx hb dX2_operand_0 rfl (lv_at hl 0 rfl) ?_
    by_cases c1 : p0 = -4
    · have hF := if_p hF c1
      refine lv_tableIn (off := 37) (tgt := 38) hx hb dX2_operand_1 (by rw [c1]; decide) (by rw [c1]; decide) (by rw [c1]; rfl) (by decide) ?_
      refine lv_iload hx hb dX2_operand_38 (lv_at hl 4 rfl) ?_
      obtain rfl := so_o hF
      rw [hQQ]
      exact kr_i hx hb hr hlocks hP hD hS dX2_operand_40
    have hF := if_n hF c1
    by_cases c2 : p0 = -3
    · have hF := if_p hF c2
      refine lv_tableIn (off := 35) (tgt := 36) hx hb dX2_operand_1 (by rw [c2]; decide) (by rw [c2]; decide) (by rw [c2]; rfl) (by decide) ?_
      refine lv_iload_n hx hb dX2_operand_36 rfl (lv_at hl 3 rfl) ?_
      obtain rfl := so_o hF
      rw [hQQ]
      exact kr_i hx hb hr hlocks hP hD hS dX2_operand_37
    have hF := if_n hF c2
    by_cases c3 : p0 = -2
    · have hF := if_p hF c3
      refine lv_tableIn (off := 33) (tgt := 34) hx hb dX2_operand_1 (by rw [c3]; decide) (by rw [c3]; decide) (by rw [c3]; rfl) (by decide) ?_
      refine lv_iload_n hx hb dX2_operand_34 rfl (lv_at hl 2 rfl) ?_
      obtain rfl := so_o hF
      rw [hQQ]
      exact kr_i hx hb hr hlocks hP hD hS dX2_operand_35
    have hF := if_n hF c3
    by_cases c4 : p0 = -1
    · have hF := if_p hF c4
      refine lv_tableIn (off := 31) (tgt := 32) hx hb dX2_operand_1 (by rw [c4]; decide) (by rw [c4]; decide) (by rw [c4]; rfl) (by decide) ?_
      refine lv_iload_n hx hb dX2_operand_32 rfl (lv_at hl 1 rfl) ?_
      obtain rfl := so_o hF
      rw [hQQ]
      exact kr_i hx hb hr hlocks hP hD hS dX2_operand_33
    have hF := if_n hF c4
    have tc1 : p0.toInt ≠ -4 := fun h9 => c1 (Int32.toInt_inj.mp (h9.trans (by decide)))
    have tc2 : p0.toInt ≠ -3 := fun h9 => c2 (Int32.toInt_inj.mp (h9.trans (by decide)))
    have tc3 : p0.toInt ≠ -2 := fun h9 => c3 (Int32.toInt_inj.mp (h9.trans (by decide)))
    have tc4 : p0.toInt ≠ -1 := fun h9 => c4 (Int32.toInt_inj.mp (h9.trans (by decide)))
    refine lv_tableOut (tgt := 41) hx hb dX2_operand_1 (by omega) (by decide) ?_
    refine lv_iload_n hx hb dX2_operand_41 rfl (lv_at hl 0 rfl) ?_
    obtain rfl := so_o hF
    rw [hQQ]
    exact kr_i hx hb hr hlocks hP hD hS dX2_operand_42
  exact main s.heap [] ls hP hD hS hl
theorem kd_X2_value : yX2_value.cls = RX2 ∧ yX2_value.cls ≠ "java/lang/invoke/MethodHandle" ∧ yX2_value.cls ≠ "java/lang/invoke/VarHandle" ∧ (parseMethodDescriptor yX2_value.desc).map (fun d => d.parameters.length) = some 4 := by decide +kernel
set_option maxHeartbeats 4000000 in
set_option maxRecDepth 100000 in
theorem c_X2_value {l : Launch} {D : va_G} {cy : Nat → ClassId} (q_o q_o_codes q_o_waiting : Nat) (sz : Nat) (o_size : Int32) (o_codes : Nat → Int32) (o_waiting : Nat → Int32) (p1 : Int32) (p2 : Int32) (p3 : Int32) (p4 : Int32) (res : Int32 × (Nat → Int32)) (hF : X2_value o_size o_codes o_waiting p1 p2 p3 p4 = some res) : Met l yX2_value wsX2_value ({ frames := 3, cells := 0, slots := 0, locals := 77 } : Room) (kP (EN D cy) D [.ref q_o, .int p1, .int p2, .int p3, .int p4] [(q_o, .inr (2, [.ref q_o_codes, .int o_size, .ref q_o_waiting])), (q_o_codes, .inl (cy 0, 800, .inl o_codes)), (q_o_waiting, .inl (cy 0, 16, .inl o_waiting))] sz) (kQi D res.1 [(q_o, .inr (2, [.ref q_o_codes, .int o_size, .ref q_o_waiting])), (q_o_codes, .inl (cy 0, 800, .inl o_codes)), (q_o_waiting, .inl (cy 0, 16, .inl res.2))] (va_A [(q_o, .inr (2, [.ref q_o_codes, .int o_size, .ref q_o_waiting])), (q_o_codes, .inl (cy 0, 800, .inl o_codes)), (q_o_waiting, .inl (cy 0, 16, .inl o_waiting))] sz)) 0 0 (va_A [(q_o, .inr (2, [.ref q_o_codes, .int o_size, .ref q_o_waiting])), (q_o_codes, .inl (cy 0, 800, .inl o_codes)), (q_o_waiting, .inl (cy 0, 16, .inl o_waiting))] sz) := by
  refine kMet (y := yX2_value) (av := [.ref q_o, .int p1, .int p2, .int p3, .int p4]) (cc := cX2_value) (maxL := 8) (ret := some .int) (own := RX2) (Qc := fun A9 => (kQi D res.1 [(q_o, .inr (2, [.ref q_o_codes, .int o_size, .ref q_o_waiting])), (q_o_codes, .inl (cy 0, 800, .inl o_codes)), (q_o_waiting, .inl (cy 0, 16, .inl res.2))] A9)) (by decide) rfl rfl (Nat.le_of_ble_eq_true rfl) ?_
  intro p e s m args below meth c A hx hb hr hts hown hml hlocks hname hE hP hD hA hsz ls hl
  have hK := hE.1
  have hl : lv_has ls 8 [(0, .ref q_o), (1, .int p1), (2, .int p2), (3, .int p3), (4, .int p4)] := hl
  have hS : va_S A s.heap s.heap [] := va_S.rf
  have f_f15 := hts (.fieldLink RX2 15 "PeepBox$Price" "size" "I") (by decide +kernel)
  have f_inX2 : ∀ w ∈ wsX20, w ∈ wsX2_value := by decide +kernel
  have f_f19 := hts (.fieldLink RX2 19 "PeepBox$Price" "waiting" "[I") (by decide +kernel)
  have f_f9 := hts (.fieldLink RX2 9 "PeepBox$Price" "codes" "[I") (by decide +kernel)
  obtain ⟨QQ, hQQ⟩ : ∃ Q9, Q9 = MQ below (kQi D res.1 [(q_o, .inr (2, [.ref q_o_codes, .int o_size, .ref q_o_waiting])), (q_o_codes, .inl (cy 0, 800, .inl o_codes)), (q_o_waiting, .inl (cy 0, 16, .inl res.2))] A) args s 0 0 A := ⟨_, rfl⟩
  rw [← hQQ]
  have J6 : ∀ (n6 : Nat) (l5 : Int32) (l6 : Int32) (o_waiting : Nat → Int32) (H : Heap) (locs : List Loc) (ls : Array Slot), va_P D vwCl [(q_o, .inr (2, [.ref q_o_codes, .int o_size, .ref q_o_waiting])), (q_o_codes, .inl (cy 0, 800, .inl o_codes)), (q_o_waiting, .inl (cy 0, 16, .inl o_waiting))] H → va_D A [(q_o, .inr (2, [.ref q_o_codes, .int o_size, .ref q_o_waiting])), (q_o_codes, .inl (cy 0, 800, .inl o_codes)), (q_o_waiting, .inl (cy 0, 16, .inl o_waiting))] → va_S A s.heap H locs → lv_has ls 8 [(0, .ref q_o), (1, .int p1), (2, .int p2), (3, .int p3), (4, .int p4), (5, .int l5), (6, .int l6)] → X2_value_L6 o_size o_codes p1 p2 p3 p4 n6 l5 l6 o_waiting = some res → W p l e ({ frames := 3, cells := 0, slots := 0, locals := 77 } : Room) s m args below meth c H locs 0 0 QQ (F0 m 6 ls []) := by
    intro n6
    induction n6 with
    | zero =>
      intro l5 l6 o_waiting H locs ls hP hD hS hl hF
      rw [X2_value_L6] at hF
      cases hF
    | succ n6 ih6 =>
      have J103 : ∀ (l5 : Int32) (l6 : Int32) (o_waiting : Nat → Int32) (H : Heap) (locs : List Loc) (ls : Array Slot), va_P D vwCl [(q_o, .inr (2, [.ref q_o_codes, .int o_size, .ref q_o_waiting])), (q_o_codes, .inl (cy 0, 800, .inl o_codes)), (q_o_waiting, .inl (cy 0, 16, .inl o_waiting))] H → va_D A [(q_o, .inr (2, [.ref q_o_codes, .int o_size, .ref q_o_waiting])), (q_o_codes, .inl (cy 0, 800, .inl o_codes)), (q_o_waiting, .inl (cy 0, 16, .inl o_waiting))] → va_S A s.heap H locs → lv_has ls 8 [(0, .ref q_o), (1, .int p1), (2, .int p2), (3, .int p3), (4, .int p4), (5, .int l5), (6, .int l6)] → X2_value_J103 o_size o_codes p1 p2 p3 p4 (fun z0 z1 z2 => X2_value_L6 o_size o_codes p1 p2 p3 p4 n6 z0 z1 z2) l5 l6 o_waiting = some res → W p l e ({ frames := 3, cells := 0, slots := 0, locals := 77 } : Room) s m args below meth c H locs 0 0 QQ (F0 m 103 ls []) := by
        intro l5 l6 o_waiting H locs ls hP hD hS hl hF
        unfold X2_value_J103 at hF
        obtain ⟨v1, ev1⟩ : ∃ y : Int32, y = l6 + (1 : Int32) := ⟨_, rfl⟩
        have hF := nm_o hF v1 ev1
        refine lv_iinc (v := v1) (lv' := [(6, .int v1), (0, .ref q_o), (1, .int p1), (2, .int p2), (3, .int p3), (4, .int p4), (5, .int l5)]) hx hb dX2_value_103 hl (k := 6) rfl (by rw [ev1]; rfl) (by decide) rfl (fun ls hl => ?_)
        refine lv_goto (tgt := 6) hx hb dX2_value_106 (by decide) ?_
        exact ih6 l5 v1 o_waiting H locs ls hP hD hS (lv_sub hl [1, 2, 3, 4, 5, 6, 0] rfl) hF
      intro l5 l6 o_waiting H locs ls hP hD hS hl hF
      rw [X2_value_L6] at hF
      refine lv_iload hx hb dX2_value_6 (lv_at hl 6 rfl) ?_
      refine lv_aload_n hx hb dX2_value_8 rfl (lv_at hl 0 rfl) ?_
      refine va_get (D := D) (ci := 2) (v := .int o_size) (C := RX2) (T := TX2) (N := 3) hx hb hts f_inX2 hown hK hP 0 rfl rfl 1 (by decide) f_f15 (fun _ h9 => h9) rfl dX2_value_9 ?_
      refine lv_icmp_ge (tgt := 109) hx hb dX2_value_12 (by decide) (fun c2 => ?_) (fun c2 => ?_)
      · have hF := if_p hF c2
        refine lv_aload_n hx hb dX2_value_109 rfl (lv_at hl 0 rfl) ?_
        refine va_get (D := D) (ci := 2) (v := .ref q_o_waiting) (C := RX2) (T := TX2) (N := 3) hx hb hts f_inX2 hown hK hP 0 rfl rfl 2 (by decide) f_f19 (fun _ h9 => h9) rfl dX2_value_110 ?_
        refine lv_iconst (v := 0) hx hb dX2_value_113 (by decide) ?_
        obtain ⟨h3, hF⟩ := ld_o hF
        refine va_iald hx hb hK hP 2 0 rfl rfl h3 dX2_value_114 ?_
        refine lv_topi (fun v4 ev4 => ?_)
        have hF := hF v4 ev4
        obtain rfl := so_o hF
        rw [hQQ]
        exact kr_i hx hb hr hlocks hP hD hS dX2_value_115
      · have hF := if_n hF c2
        refine lv_aload_n hx hb dX2_value_15 rfl (lv_at hl 0 rfl) ?_
        refine va_get (D := D) (ci := 2) (v := .ref q_o_codes) (C := RX2) (T := TX2) (N := 3) hx hb hts f_inX2 hown hK hP 0 rfl rfl 0 (by decide) f_f9 (fun _ h9 => h9) rfl dX2_value_16 ?_
        refine lv_iload hx hb dX2_value_19 (lv_at hl 6 rfl) ?_
        obtain ⟨h5, hF⟩ := ld_o hF
        refine va_iald hx hb hK hP 1 0 rfl rfl h5 dX2_value_21 ?_
        refine lv_topi (fun v6 ev6 => ?_)
        have hF := hF v6 ev6
        refine lv_istore (lv' := [(7, .int v6), (0, .ref q_o), (1, .int p1), (2, .int p2), (3, .int p3), (4, .int p4), (5, .int l5), (6, .int l6)]) hx hb dX2_value_22 hl (by decide) rfl (fun ls hl => ?_)
        refine lv_iload hx hb dX2_value_24 (lv_at hl 0 rfl) ?_
        refine lv_bipush (v := -4) hx hb dX2_value_26 (by decide) ?_
        refine lv_icmp_ge (tgt := 76) hx hb dX2_value_28 (by decide) (fun c7 => ?_) (fun c7 => ?_)
        · have hF := if_p hF c7
          refine lv_iload hx hb dX2_value_76 (lv_at hl 6 rfl) ?_
          refine lv_bipush (v := 16) hx hb dX2_value_78 (by decide) ?_
          refine lv_icmp_ge (tgt := 103) hx hb dX2_value_80 (by decide) (fun c8 => ?_) (fun c8 => ?_)
          · have hF := if_p hF c8
            exact J103 l5 l6 o_waiting H locs ls hP hD hS (lv_sub hl [1, 2, 3, 4, 5, 6, 7] rfl) hF
          · have hF := if_n hF c8
            refine lv_aload_n hx hb dX2_value_83 rfl (lv_at hl 1 rfl) ?_
            refine va_get (D := D) (ci := 2) (v := .ref q_o_waiting) (C := RX2) (T := TX2) (N := 3) hx hb hts f_inX2 hown hK hP 0 rfl rfl 2 (by decide) f_f19 (fun _ h9 => h9) rfl dX2_value_84 ?_
            refine lv_iload hx hb dX2_value_87 (lv_at hl 6 rfl) ?_
            refine lv_iload hx hb dX2_value_89 (lv_at hl 0 rfl) ?_
            refine lv_iload_n hx hb dX2_value_91 rfl (lv_at hl 2 rfl) ?_
            refine lv_iload_n hx hb dX2_value_92 rfl (lv_at hl 3 rfl) ?_
            refine lv_iload_n hx hb dX2_value_93 rfl (lv_at hl 4 rfl) ?_
            refine lv_iload hx hb dX2_value_94 (lv_at hl 5 rfl) ?_
            obtain ⟨r9, h10, hF⟩ := bn1_o hF
            refine kd_i [(q_o, .inr (2, [.ref q_o_codes, .int o_size, .ref q_o_waiting])), (q_o_codes, .inl (cy 0, 800, .inl o_codes)), (q_o_waiting, .inl (cy 0, 16, .inl o_waiting))] (va_runS (As := [.int v6, .int p1, .int p2, .int p3, .int p4]) (rest := [.int l5, .ref q_o_waiting]) ⟨hx, hb, hml, hown, hts⟩ (c_X2_operand H.size v6 p1 p2 p3 p4 _ h10) (va_cwS 5 hts gX2_value_X2_operand rfl rfl rfl kd_X2_operand ⟨Nat.le_of_ble_eq_true rfl, Nat.le_of_ble_eq_true rfl⟩) ⟨kP_blind (EN_ok D cy) D _ _ _, kStart (EN_ok D cy) hE hP hD hS hA [] rfl rfl _⟩ rfl rfl hl.1 rfl (lv_room (Nat.le_of_ble_eq_true rfl)) dX2_value_96 ⟨Nat.zero_le _, Nat.zero_le _⟩) hP hD hS hA [] [0, 1, 2] rfl rfl rfl 3 rfl (by decide +kernel) (fun H locs hP hD hS => ?_)
            obtain ⟨h11, hF⟩ := st_o hF
            refine va_iast hx hb hK hP hD hS 2 0 rfl rfl h11 dX2_value_99 (fun H locs hP hD hS => ?_)
            obtain ⟨b12, eb12⟩ : ∃ y : Nat → Int32, y = (upd o_waiting l5.toNatClampNeg r9) := ⟨_, rfl⟩
            have hF := hF b12 eb12
            have hP : va_P D vwCl [(q_o, .inr (2, [.ref q_o_codes, .int o_size, .ref q_o_waiting])), (q_o_codes, .inl (cy 0, 800, .inl o_codes)), (q_o_waiting, .inl (cy 0, 16, .inl b12))] H := by rw [eb12]; exact hP
            have hD : va_D A [(q_o, .inr (2, [.ref q_o_codes, .int o_size, .ref q_o_waiting])), (q_o_codes, .inl (cy 0, 800, .inl o_codes)), (q_o_waiting, .inl (cy 0, 16, .inl b12))] := by rw [eb12]; exact hD
            obtain ⟨v13, ev13⟩ : ∃ y : Int32, y = l5 + (1 : Int32) := ⟨_, rfl⟩
            have hF := nm_o hF v13 ev13
            refine lv_iinc (v := v13) (lv' := [(5, .int v13), (7, .int v6), (0, .ref q_o), (1, .int p1), (2, .int p2), (3, .int p3), (4, .int p4), (6, .int l6)]) hx hb dX2_value_100 hl (k := 6) rfl (by rw [ev13]; rfl) (by decide) rfl (fun ls hl => ?_)
            exact J103 v13 l6 b12 H locs ls hP hD hS (lv_sub hl [2, 3, 4, 5, 6, 0, 7] rfl) hF
        · have hF := if_n hF c7
          refine lv_iload hx hb dX2_value_31 (lv_at hl 6 rfl) ?_
          refine lv_iconst (v := 2) hx hb dX2_value_33 (by decide) ?_
          refine lv_icmp_lt (tgt := 103) hx hb dX2_value_34 (by decide) (fun c14 => ?_) (fun c14 => ?_)
          · have hF := if_p hF c14
            exact J103 l5 l6 o_waiting H locs ls hP hD hS (lv_sub hl [1, 2, 3, 4, 5, 6, 7] rfl) hF
          · have hF := if_n hF c14
            obtain ⟨v15, ev15⟩ : ∃ y : Int32, y = l5 + (-1 : Int32) := ⟨_, rfl⟩
            have hF := nm_o hF v15 ev15
            refine lv_iinc (v := v15) (lv' := [(5, .int v15), (7, .int v6), (0, .ref q_o), (1, .int p1), (2, .int p2), (3, .int p3), (4, .int p4), (6, .int l6)]) hx hb dX2_value_37 hl (k := 6) rfl (by rw [ev15]; rfl) (by decide) rfl (fun ls hl => ?_)
            refine lv_aload_n hx hb dX2_value_40 rfl (lv_at hl 2 rfl) ?_
            refine va_get (D := D) (ci := 2) (v := .ref q_o_waiting) (C := RX2) (T := TX2) (N := 3) hx hb hts f_inX2 hown hK hP 0 rfl rfl 2 (by decide) f_f19 (fun _ h9 => h9) rfl dX2_value_41 ?_
            refine lv_iload hx hb dX2_value_44 (lv_at hl 0 rfl) ?_
            refine lv_iconst (v := 1) hx hb dX2_value_46 (by decide) ?_
            refine lv_isub hx hb dX2_value_47 ?_
            refine lv_iload hx hb dX2_value_48 (lv_at hl 1 rfl) ?_
            refine lv_ineg hx hb dX2_value_50 ?_
            refine lv_aload_n hx hb dX2_value_51 rfl (lv_at hl 2 rfl) ?_
            refine va_get (D := D) (ci := 2) (v := .ref q_o_waiting) (C := RX2) (T := TX2) (N := 3) hx hb hts f_inX2 hown hK hP 0 rfl rfl 2 (by decide) f_f19 (fun _ h9 => h9) rfl dX2_value_52 ?_
            refine lv_iload hx hb dX2_value_55 (lv_at hl 0 rfl) ?_
            refine lv_iconst (v := 1) hx hb dX2_value_57 (by decide) ?_
            refine lv_isub hx hb dX2_value_58 ?_
            obtain ⟨h16, hF⟩ := ld_o hF
            refine va_iald hx hb hK hP 2 0 rfl rfl h16 dX2_value_59 ?_
            refine lv_topi (fun v17 ev17 => ?_)
            have hF := hF v17 ev17
            refine lv_i2l hx hb dX2_value_60 rfl ?_
            refine lv_aload_n hx hb dX2_value_61 rfl (lv_at hl 2 rfl) ?_
            refine va_get (D := D) (ci := 2) (v := .ref q_o_waiting) (C := RX2) (T := TX2) (N := 3) hx hb hts f_inX2 hown hK hP 0 rfl rfl 2 (by decide) f_f19 (fun _ h9 => h9) rfl dX2_value_62 ?_
            refine lv_iload hx hb dX2_value_65 (lv_at hl 0 rfl) ?_
            obtain ⟨h18, hF⟩ := ld_o hF
            refine va_iald hx hb hK hP 2 0 rfl rfl h18 dX2_value_67 ?_
            refine lv_topi (fun v19 ev19 => ?_)
            have hF := hF v19 ev19
            refine lv_i2l hx hb dX2_value_68 rfl ?_
            obtain ⟨r20, h21, hF⟩ := bn1_o hF
            refine kd_i [(q_o, .inr (2, [.ref q_o_codes, .int o_size, .ref q_o_waiting])), (q_o_codes, .inl (cy 0, 800, .inl o_codes)), (q_o_waiting, .inl (cy 0, 16, .inl o_waiting))] (va_runS (As := [.int (-v6), .long v17.toInt64, .long v19.toInt64]) (rest := [.int (v15 - (1 : Int32)), .ref q_o_waiting]) ⟨hx, hb, hml, hown, hts⟩ (c_X2_combine H.size (-v6) v17.toInt64 v19.toInt64 _ h21) (va_cwS 3 hts gX2_value_X2_combine rfl rfl rfl kd_X2_combine ⟨Nat.le_of_ble_eq_true rfl, Nat.le_of_ble_eq_true rfl⟩) ⟨kP_blind (EN_ok D cy) D _ _ _, kStart (EN_ok D cy) hE hP hD hS hA [] rfl rfl _⟩ rfl rfl hl.1 rfl (lv_room (Nat.le_of_ble_eq_true rfl)) dX2_value_69 ⟨Nat.zero_le _, Nat.zero_le _⟩) hP hD hS hA [] [0, 1, 2] rfl rfl rfl 3 rfl (by decide +kernel) (fun H locs hP hD hS => ?_)
            obtain ⟨h22, hF⟩ := st_o hF
            refine va_iast hx hb hK hP hD hS 2 0 rfl rfl h22 dX2_value_72 (fun H locs hP hD hS => ?_)
            obtain ⟨b23, eb23⟩ : ∃ y : Nat → Int32, y = (upd o_waiting (v15 - (1 : Int32)).toNatClampNeg r20) := ⟨_, rfl⟩
            have hF := hF b23 eb23
            have hP : va_P D vwCl [(q_o, .inr (2, [.ref q_o_codes, .int o_size, .ref q_o_waiting])), (q_o_codes, .inl (cy 0, 800, .inl o_codes)), (q_o_waiting, .inl (cy 0, 16, .inl b23))] H := by rw [eb23]; exact hP
            have hD : va_D A [(q_o, .inr (2, [.ref q_o_codes, .int o_size, .ref q_o_waiting])), (q_o_codes, .inl (cy 0, 800, .inl o_codes)), (q_o_waiting, .inl (cy 0, 16, .inl b23))] := by rw [eb23]; exact hD
            refine lv_goto (tgt := 103) hx hb dX2_value_73 (by decide) ?_
            exact J103 v15 l6 b23 H locs ls hP hD hS (lv_sub hl [2, 3, 4, 5, 6, 0, 7] rfl) hF
  have main : ∀ (H : Heap) (locs : List Loc) (ls : Array Slot), va_P D vwCl [(q_o, .inr (2, [.ref q_o_codes, .int o_size, .ref q_o_waiting])), (q_o_codes, .inl (cy 0, 800, .inl o_codes)), (q_o_waiting, .inl (cy 0, 16, .inl o_waiting))] H → va_D A [(q_o, .inr (2, [.ref q_o_codes, .int o_size, .ref q_o_waiting])), (q_o_codes, .inl (cy 0, 800, .inl o_codes)), (q_o_waiting, .inl (cy 0, 16, .inl o_waiting))] → va_S A s.heap H locs → lv_has ls 8 [(0, .ref q_o), (1, .int p1), (2, .int p2), (3, .int p3), (4, .int p4)] → W p l e ({ frames := 3, cells := 0, slots := 0, locals := 77 } : Room) s m args below meth c H locs 0 0 QQ (F0 m 0 ls []) := by
    intro H locs ls hP hD hS hl
    unfold X2_value at hF
    refine lv_iconst (v := 0) hx hb dX2_value_0 (by decide) ?_
    refine lv_istore (lv' := [(5, .int (0 : Int32)), (0, .ref q_o), (1, .int p1), (2, .int p2), (3, .int p3), (4, .int p4)]) hx hb dX2_value_1 hl (by decide) rfl (fun ls hl => ?_)
    refine lv_iconst (v := 0) hx hb dX2_value_3 (by decide) ?_
    refine lv_istore (lv' := [(6, .int (0 : Int32)), (5, .int (0 : Int32)), (0, .ref q_o), (1, .int p1), (2, .int p2), (3, .int p3), (4, .int p4)]) hx hb dX2_value_4 hl (by decide) rfl (fun ls hl => ?_)
    exact J6 FU (0 : Int32) (0 : Int32) o_waiting H locs ls hP hD hS (lv_sub hl [2, 3, 4, 5, 6, 1, 0] rfl) hF
  exact main s.heap [] ls hP hD hS hl
theorem kd_X5_priceFor : yX5_priceFor.cls = RX5 ∧ yX5_priceFor.cls ≠ "java/lang/invoke/MethodHandle" ∧ yX5_priceFor.cls ≠ "java/lang/invoke/VarHandle" ∧ (parseMethodDescriptor yX5_priceFor.desc).map (fun d => d.parameters.length) = some 3 := by decide +kernel
set_option maxHeartbeats 4000000 in
set_option maxRecDepth 100000 in
theorem c_X5_priceFor {l : Launch} {D : va_G} {cy : Nat → ClassId} (q_o q_o_counts q_o_kinds q_o_depths q_o_prices q_p1 q_p1_price q_p1_price_codes q_p1_price_waiting : Nat) (sz : Nat) (x_o_seen x_p1_width x_p1_height x_p1_planes x_p1_holes x_p1_reach x_p1_cells x_p1_pulls x_p1_holeX x_p1_holeY : Value) (o_counts : Nat → Int32) (o_kinds : Nat → Int32) (o_depths : Nat → Int32) (o_prices : Nat → Int32) (p1_price_size : Int32) (p1_price_codes : Nat → Int32) (p1_price_waiting : Nat → Int32) (p2 : Int32) (p3 : Int32) (res : Int32 × (Nat → Int32) × (Nat → Int32)) (hF : X5_priceFor o_counts o_kinds o_depths o_prices p1_price_size p1_price_codes p1_price_waiting p2 p3 = some res) : Met l yX5_priceFor wsX5_priceFor ({ frames := 4, cells := 0, slots := 0, locals := 104 } : Room) (kP (EN D cy) D [.ref q_o, .ref q_p1, .int p2, .int p3] [(q_o, .inr (5, [x_o_seen, .ref q_o_counts, .ref q_o_kinds, .ref q_o_depths, .ref q_o_prices])), (q_o_counts, .inl (cy 0, 104, .inl o_counts)), (q_o_kinds, .inl (cy 0, 4, .inl o_kinds)), (q_o_depths, .inl (cy 0, 4, .inl o_depths)), (q_o_prices, .inl (cy 0, 104, .inl o_prices)), (q_p1, .inr (0, [x_p1_width, x_p1_height, x_p1_planes, x_p1_holes, x_p1_reach, x_p1_cells, x_p1_pulls, x_p1_holeX, x_p1_holeY, .ref q_p1_price])), (q_p1_price, .inr (2, [.ref q_p1_price_codes, .int p1_price_size, .ref q_p1_price_waiting])), (q_p1_price_codes, .inl (cy 0, 800, .inl p1_price_codes)), (q_p1_price_waiting, .inl (cy 0, 16, .inl p1_price_waiting))] sz) (kQi D res.1 [(q_o, .inr (5, [x_o_seen, .ref q_o_counts, .ref q_o_kinds, .ref q_o_depths, .ref q_o_prices])), (q_o_counts, .inl (cy 0, 104, .inl o_counts)), (q_o_kinds, .inl (cy 0, 4, .inl o_kinds)), (q_o_depths, .inl (cy 0, 4, .inl o_depths)), (q_o_prices, .inl (cy 0, 104, .inl res.2.1)), (q_p1, .inr (0, [x_p1_width, x_p1_height, x_p1_planes, x_p1_holes, x_p1_reach, x_p1_cells, x_p1_pulls, x_p1_holeX, x_p1_holeY, .ref q_p1_price])), (q_p1_price, .inr (2, [.ref q_p1_price_codes, .int p1_price_size, .ref q_p1_price_waiting])), (q_p1_price_codes, .inl (cy 0, 800, .inl p1_price_codes)), (q_p1_price_waiting, .inl (cy 0, 16, .inl res.2.2))] (va_A [(q_o, .inr (5, [x_o_seen, .ref q_o_counts, .ref q_o_kinds, .ref q_o_depths, .ref q_o_prices])), (q_o_counts, .inl (cy 0, 104, .inl o_counts)), (q_o_kinds, .inl (cy 0, 4, .inl o_kinds)), (q_o_depths, .inl (cy 0, 4, .inl o_depths)), (q_o_prices, .inl (cy 0, 104, .inl o_prices)), (q_p1, .inr (0, [x_p1_width, x_p1_height, x_p1_planes, x_p1_holes, x_p1_reach, x_p1_cells, x_p1_pulls, x_p1_holeX, x_p1_holeY, .ref q_p1_price])), (q_p1_price, .inr (2, [.ref q_p1_price_codes, .int p1_price_size, .ref q_p1_price_waiting])), (q_p1_price_codes, .inl (cy 0, 800, .inl p1_price_codes)), (q_p1_price_waiting, .inl (cy 0, 16, .inl p1_price_waiting))] sz)) 0 0 (va_A [(q_o, .inr (5, [x_o_seen, .ref q_o_counts, .ref q_o_kinds, .ref q_o_depths, .ref q_o_prices])), (q_o_counts, .inl (cy 0, 104, .inl o_counts)), (q_o_kinds, .inl (cy 0, 4, .inl o_kinds)), (q_o_depths, .inl (cy 0, 4, .inl o_depths)), (q_o_prices, .inl (cy 0, 104, .inl o_prices)), (q_p1, .inr (0, [x_p1_width, x_p1_height, x_p1_planes, x_p1_holes, x_p1_reach, x_p1_cells, x_p1_pulls, x_p1_holeX, x_p1_holeY, .ref q_p1_price])), (q_p1_price, .inr (2, [.ref q_p1_price_codes, .int p1_price_size, .ref q_p1_price_waiting])), (q_p1_price_codes, .inl (cy 0, 800, .inl p1_price_codes)), (q_p1_price_waiting, .inl (cy 0, 16, .inl p1_price_waiting))] sz) := by
  refine kMet (y := yX5_priceFor) (av := [.ref q_o, .ref q_p1, .int p2, .int p3]) (cc := cX5_priceFor) (maxL := 6) (ret := some .int) (own := RX5) (Qc := fun A9 => (kQi D res.1 [(q_o, .inr (5, [x_o_seen, .ref q_o_counts, .ref q_o_kinds, .ref q_o_depths, .ref q_o_prices])), (q_o_counts, .inl (cy 0, 104, .inl o_counts)), (q_o_kinds, .inl (cy 0, 4, .inl o_kinds)), (q_o_depths, .inl (cy 0, 4, .inl o_depths)), (q_o_prices, .inl (cy 0, 104, .inl res.2.1)), (q_p1, .inr (0, [x_p1_width, x_p1_height, x_p1_planes, x_p1_holes, x_p1_reach, x_p1_cells, x_p1_pulls, x_p1_holeX, x_p1_holeY, .ref q_p1_price])), (q_p1_price, .inr (2, [.ref q_p1_price_codes, .int p1_price_size, .ref q_p1_price_waiting])), (q_p1_price_codes, .inl (cy 0, 800, .inl p1_price_codes)), (q_p1_price_waiting, .inl (cy 0, 16, .inl res.2.2))] A9)) (by decide) rfl rfl (Nat.le_of_ble_eq_true rfl) ?_
  intro p e s m args below meth c A hx hb hr hts hown hml hlocks hname hE hP hD hA hsz ls hl
  have hK := hE.1
  have hl : lv_has ls 6 [(0, .ref q_o), (1, .ref q_p1), (2, .int p2), (3, .int p3)] := hl
  have hS : va_S A s.heap s.heap [] := va_S.rf
  have f_f24 := hts (.fieldLink RX5 24 "PeepBox$View" "prices" "[I") (by decide +kernel)
  have f_inX5 : ∀ w ∈ wsX50, w ∈ wsX5_priceFor := by decide +kernel
  have f_f76 := hts (.fieldLink RX5 76 "PeepBox$Box" "price" "LPeepBox$Price;") (by decide +kernel)
  have f_inX0 : ∀ w ∈ wsX00, w ∈ wsX5_priceFor := by decide +kernel
  have f_f15 := hts (.fieldLink RX5 15 "PeepBox$View" "counts" "[I") (by decide +kernel)
  have f_f18 := hts (.fieldLink RX5 18 "PeepBox$View" "kinds" "[I") (by decide +kernel)
  have f_f21 := hts (.fieldLink RX5 21 "PeepBox$View" "depths" "[I") (by decide +kernel)
  have f_iRX6 := hts (.initialized RX6) (by decide +kernel)
  have f_stX6_limited := hts (.static yX6_limited) (by decide +kernel)
  obtain ⟨QQ, hQQ⟩ : ∃ Q9, Q9 = MQ below (kQi D res.1 [(q_o, .inr (5, [x_o_seen, .ref q_o_counts, .ref q_o_kinds, .ref q_o_depths, .ref q_o_prices])), (q_o_counts, .inl (cy 0, 104, .inl o_counts)), (q_o_kinds, .inl (cy 0, 4, .inl o_kinds)), (q_o_depths, .inl (cy 0, 4, .inl o_depths)), (q_o_prices, .inl (cy 0, 104, .inl res.2.1)), (q_p1, .inr (0, [x_p1_width, x_p1_height, x_p1_planes, x_p1_holes, x_p1_reach, x_p1_cells, x_p1_pulls, x_p1_holeX, x_p1_holeY, .ref q_p1_price])), (q_p1_price, .inr (2, [.ref q_p1_price_codes, .int p1_price_size, .ref q_p1_price_waiting])), (q_p1_price_codes, .inl (cy 0, 800, .inl p1_price_codes)), (q_p1_price_waiting, .inl (cy 0, 16, .inl res.2.2))] A) args s 0 0 A := ⟨_, rfl⟩
  rw [← hQQ]
  have main : ∀ (H : Heap) (locs : List Loc) (ls : Array Slot), va_P D vwCl [(q_o, .inr (5, [x_o_seen, .ref q_o_counts, .ref q_o_kinds, .ref q_o_depths, .ref q_o_prices])), (q_o_counts, .inl (cy 0, 104, .inl o_counts)), (q_o_kinds, .inl (cy 0, 4, .inl o_kinds)), (q_o_depths, .inl (cy 0, 4, .inl o_depths)), (q_o_prices, .inl (cy 0, 104, .inl o_prices)), (q_p1, .inr (0, [x_p1_width, x_p1_height, x_p1_planes, x_p1_holes, x_p1_reach, x_p1_cells, x_p1_pulls, x_p1_holeX, x_p1_holeY, .ref q_p1_price])), (q_p1_price, .inr (2, [.ref q_p1_price_codes, .int p1_price_size, .ref q_p1_price_waiting])), (q_p1_price_codes, .inl (cy 0, 800, .inl p1_price_codes)), (q_p1_price_waiting, .inl (cy 0, 16, .inl p1_price_waiting))] H → va_D A [(q_o, .inr (5, [x_o_seen, .ref q_o_counts, .ref q_o_kinds, .ref q_o_depths, .ref q_o_prices])), (q_o_counts, .inl (cy 0, 104, .inl o_counts)), (q_o_kinds, .inl (cy 0, 4, .inl o_kinds)), (q_o_depths, .inl (cy 0, 4, .inl o_depths)), (q_o_prices, .inl (cy 0, 104, .inl o_prices)), (q_p1, .inr (0, [x_p1_width, x_p1_height, x_p1_planes, x_p1_holes, x_p1_reach, x_p1_cells, x_p1_pulls, x_p1_holeX, x_p1_holeY, .ref q_p1_price])), (q_p1_price, .inr (2, [.ref q_p1_price_codes, .int p1_price_size, .ref q_p1_price_waiting])), (q_p1_price_codes, .inl (cy 0, 800, .inl p1_price_codes)), (q_p1_price_waiting, .inl (cy 0, 16, .inl p1_price_waiting))] → va_S A s.heap H locs → lv_has ls 6 [(0, .ref q_o), (1, .ref q_p1), (2, .int p2), (3, .int p3)] → W p l e ({ frames := 4, cells := 0, slots := 0, locals := 104 } : Room) s m args below meth c H locs 0 0 QQ (F0 m 0 ls []) := by
    intro H locs ls hP hD hS hl
    unfold X5_priceFor at hF
    refine lv_iload_n hx hb dX5_priceFor_0 rfl (lv_at hl 3 rfl) ?_
    refine lv_bipush (v := 26) hx hb dX5_priceFor_1 (by decide) ?_
    refine lv_imul hx hb dX5_priceFor_3 ?_
    refine lv_iload_n hx hb dX5_priceFor_4 rfl (lv_at hl 2 rfl) ?_
    refine lv_iadd hx hb dX5_priceFor_5 ?_
    refine lv_topi (fun v1 ev1 => ?_)
    have hF := nm_o hF v1 ev1
    refine lv_istore (lv' := [(4, .int v1), (0, .ref q_o), (1, .ref q_p1), (2, .int p2), (3, .int p3)]) hx hb dX5_priceFor_6 hl (by decide) rfl (fun ls hl => ?_)
    refine lv_aload_n hx hb dX5_priceFor_8 rfl (lv_at hl 1 rfl) ?_
    refine va_get (D := D) (ci := 5) (v := .ref q_o_prices) (C := RX5) (T := TX5) (N := 5) hx hb hts f_inX5 hown hK hP 0 rfl rfl 4 (by decide) f_f24 (fun _ h9 => h9) rfl dX5_priceFor_9 ?_
    refine lv_iload hx hb dX5_priceFor_12 (lv_at hl 0 rfl) ?_
    obtain ⟨h2, hF⟩ := ld_o hF
    refine va_iald hx hb hK hP 4 0 rfl rfl h2 dX5_priceFor_14 ?_
    refine lv_topi (fun v3 ev3 => ?_)
    have hF := hF v3 ev3
    refine lv_iconst (v := -1) hx hb dX5_priceFor_15 (by decide) ?_
    refine lv_icmp_ne (tgt := 65) hx hb dX5_priceFor_16 (by decide) (fun c4 => ?_) (fun c4 => ?_)
    · have hF := if_n hF c4
      refine lv_aload_n hx hb dX5_priceFor_65 rfl (lv_at hl 1 rfl) ?_
      refine va_get (D := D) (ci := 5) (v := .ref q_o_prices) (C := RX5) (T := TX5) (N := 5) hx hb hts f_inX5 hown hK hP 0 rfl rfl 4 (by decide) f_f24 (fun _ h9 => h9) rfl dX5_priceFor_66 ?_
      refine lv_iload hx hb dX5_priceFor_69 (lv_at hl 0 rfl) ?_
      obtain ⟨h5, hF⟩ := ld_o hF
      refine va_iald hx hb hK hP 4 0 rfl rfl h5 dX5_priceFor_71 ?_
      refine lv_topi (fun v6 ev6 => ?_)
      have hF := hF v6 ev6
      obtain rfl := so_o hF
      rw [hQQ]
      exact kr_i hx hb hr hlocks hP hD hS dX5_priceFor_72
    · have hF := if_p hF c4
      refine lv_aload_n hx hb dX5_priceFor_19 rfl (lv_at hl 2 rfl) ?_
      refine va_get (D := D) (ci := 0) (v := .ref q_p1_price) (C := RX0) (T := TX0) (N := 10) hx hb hts f_inX0 hown hK hP 5 rfl rfl 9 (by decide) f_f76 (fun _ h9 => h9) rfl dX5_priceFor_20 ?_
      refine lv_aload_n hx hb dX5_priceFor_23 rfl (lv_at hl 1 rfl) ?_
      refine va_get (D := D) (ci := 5) (v := .ref q_o_counts) (C := RX5) (T := TX5) (N := 5) hx hb hts f_inX5 hown hK hP 0 rfl rfl 1 (by decide) f_f15 (fun _ h9 => h9) rfl dX5_priceFor_24 ?_
      refine lv_iload hx hb dX5_priceFor_27 (lv_at hl 0 rfl) ?_
      obtain ⟨h7, hF⟩ := ld_o hF
      refine va_iald hx hb hK hP 1 0 rfl rfl h7 dX5_priceFor_29 ?_
      refine lv_topi (fun v8 ev8 => ?_)
      have hF := hF v8 ev8
      refine lv_aload_n hx hb dX5_priceFor_30 rfl (lv_at hl 1 rfl) ?_
      refine va_get (D := D) (ci := 5) (v := .ref q_o_kinds) (C := RX5) (T := TX5) (N := 5) hx hb hts f_inX5 hown hK hP 0 rfl rfl 2 (by decide) f_f18 (fun _ h9 => h9) rfl dX5_priceFor_31 ?_
      refine lv_iload_n hx hb dX5_priceFor_34 rfl (lv_at hl 4 rfl) ?_
      obtain ⟨h9, hF⟩ := ld_o hF
      refine va_iald hx hb hK hP 2 0 rfl rfl h9 dX5_priceFor_35 ?_
      refine lv_topi (fun v10 ev10 => ?_)
      have hF := hF v10 ev10
      refine lv_aload_n hx hb dX5_priceFor_36 rfl (lv_at hl 1 rfl) ?_
      refine va_get (D := D) (ci := 5) (v := .ref q_o_depths) (C := RX5) (T := TX5) (N := 5) hx hb hts f_inX5 hown hK hP 0 rfl rfl 3 (by decide) f_f21 (fun _ h9 => h9) rfl dX5_priceFor_37 ?_
      refine lv_iload_n hx hb dX5_priceFor_40 rfl (lv_at hl 4 rfl) ?_
      obtain ⟨h11, hF⟩ := ld_o hF
      refine va_iald hx hb hK hP 3 0 rfl rfl h11 dX5_priceFor_41 ?_
      refine lv_topi (fun v12 ev12 => ?_)
      have hF := hF v12 ev12
      refine lv_iload_n hx hb dX5_priceFor_42 rfl (lv_at hl 4 rfl) ?_
      obtain ⟨r13, o14, h15, hF⟩ := bn2_o hF
      refine kd_i [(q_o, .inr (5, [x_o_seen, .ref q_o_counts, .ref q_o_kinds, .ref q_o_depths, .ref q_o_prices])), (q_o_counts, .inl (cy 0, 104, .inl o_counts)), (q_o_kinds, .inl (cy 0, 4, .inl o_kinds)), (q_o_depths, .inl (cy 0, 4, .inl o_depths)), (q_o_prices, .inl (cy 0, 104, .inl o_prices)), (q_p1, .inr (0, [x_p1_width, x_p1_height, x_p1_planes, x_p1_holes, x_p1_reach, x_p1_cells, x_p1_pulls, x_p1_holeX, x_p1_holeY, .ref q_p1_price])), (q_p1_price, .inr (2, [.ref q_p1_price_codes, .int p1_price_size, .ref q_p1_price_waiting])), (q_p1_price_codes, .inl (cy 0, 800, .inl p1_price_codes)), (q_p1_price_waiting, .inl (cy 0, 16, .inl o14))] (va_runV (As := [.int v8, .int v10, .int v12, .int p3]) (rest := []) ⟨hx, hb, hml, hown, hts⟩ (c_X2_value q_p1_price q_p1_price_codes q_p1_price_waiting H.size p1_price_size p1_price_codes p1_price_waiting v8 v10 v12 p3 _ h15) (cwV 4 hts gX5_priceFor_X2_value rfl rfl rfl kd_X2_value ⟨Nat.le_of_ble_eq_true rfl, Nat.le_of_ble_eq_true rfl⟩) ⟨kP_blind (EN_ok D cy) D _ _ _, va_recv hK hP (ci := 2) (q0 := 6) rfl rfl, kStart (EN_ok D cy) hE hP hD hS hA [6, 7, 8] rfl rfl _⟩ rfl rfl hl.1 rfl (lv_room (Nat.le_of_ble_eq_true rfl)) dX5_priceFor_43 ⟨Nat.zero_le _, Nat.zero_le _⟩) hP hD hS hA [6, 7, 8] [0, 1, 2, 3, 4, 5] rfl rfl rfl 9 rfl (by decide +kernel) (fun H locs hP hD hS => ?_)
      refine lv_istore (lv' := [(5, .int r13), (4, .int v1), (0, .ref q_o), (1, .ref q_p1), (2, .int p2), (3, .int p3)]) hx hb dX5_priceFor_46 hl (by decide) rfl (fun ls hl => ?_)
      refine lv_aload_n hx hb dX5_priceFor_48 rfl (lv_at hl 2 rfl) ?_
      refine va_get (D := D) (ci := 5) (v := .ref q_o_prices) (C := RX5) (T := TX5) (N := 5) hx hb hts f_inX5 hown hK hP 0 rfl rfl 4 (by decide) f_f24 (fun _ h9 => h9) rfl dX5_priceFor_49 ?_
      refine lv_iload hx hb dX5_priceFor_52 (lv_at hl 1 rfl) ?_
      refine lv_iload hx hb dX5_priceFor_54 (lv_at hl 0 rfl) ?_
      refine lv_i2l hx hb dX5_priceFor_56 rfl ?_
      refine lv_iconst (v := 0) hx hb dX5_priceFor_57 (by decide) ?_
      refine lv_sipush (v := 999) hx hb dX5_priceFor_58 (by decide) ?_
      obtain ⟨r16, h17, hF⟩ := bn1_o hF
      refine kd_i [(q_o, .inr (5, [x_o_seen, .ref q_o_counts, .ref q_o_kinds, .ref q_o_depths, .ref q_o_prices])), (q_o_counts, .inl (cy 0, 104, .inl o_counts)), (q_o_kinds, .inl (cy 0, 4, .inl o_kinds)), (q_o_depths, .inl (cy 0, 4, .inl o_depths)), (q_o_prices, .inl (cy 0, 104, .inl o_prices)), (q_p1, .inr (0, [x_p1_width, x_p1_height, x_p1_planes, x_p1_holes, x_p1_reach, x_p1_cells, x_p1_pulls, x_p1_holeX, x_p1_holeY, .ref q_p1_price])), (q_p1_price, .inr (2, [.ref q_p1_price_codes, .int p1_price_size, .ref q_p1_price_waiting])), (q_p1_price_codes, .inl (cy 0, 800, .inl p1_price_codes)), (q_p1_price_waiting, .inl (cy 0, 16, .inl o14))] (va_runSN (As := [.long r13.toInt64, .int (0 : Int32), .int (999 : Int32)]) (rest := [.int v1, .ref q_o_prices]) ⟨hx, hb, hml, hown, hts⟩ (c_X6_limited H.size r13.toInt64 (0 : Int32) (999 : Int32) _ h17) ⟨va_cnB 3 hts gX5_priceFor_X6_limited_n86 rfl rfl rfl (hE.2.1 (RX5, 86, yX6_limited, "PeepBox") (List.mem_of_getElem? (i := 11) rfl)) f_iRX6 kd_X6_limited ⟨Nat.le_of_ble_eq_true rfl, Nat.le_of_ble_eq_true rfl⟩, f_stX6_limited, trivial⟩ ⟨kP_blind (EN_ok D cy) D _ _ _, kStart (EN_ok D cy) hE hP hD hS hA [] rfl rfl _⟩ rfl rfl hl.1 rfl (lv_room (Nat.le_of_ble_eq_true rfl)) dX5_priceFor_61 ⟨Nat.zero_le _, Nat.zero_le _⟩) hP hD hS hA [] [0, 1, 2, 3, 4, 5, 6, 7, 8] rfl rfl rfl 9 rfl (by decide +kernel) (fun H locs hP hD hS => ?_)
      obtain ⟨h18, hF⟩ := st_o hF
      refine va_iast hx hb hK hP hD hS 4 0 rfl rfl h18 dX5_priceFor_64 (fun H locs hP hD hS => ?_)
      obtain ⟨b19, eb19⟩ : ∃ y : Nat → Int32, y = (upd o_prices v1.toNatClampNeg r16) := ⟨_, rfl⟩
      have hF := hF b19 eb19
      have hP : va_P D vwCl [(q_o, .inr (5, [x_o_seen, .ref q_o_counts, .ref q_o_kinds, .ref q_o_depths, .ref q_o_prices])), (q_o_counts, .inl (cy 0, 104, .inl o_counts)), (q_o_kinds, .inl (cy 0, 4, .inl o_kinds)), (q_o_depths, .inl (cy 0, 4, .inl o_depths)), (q_o_prices, .inl (cy 0, 104, .inl b19)), (q_p1, .inr (0, [x_p1_width, x_p1_height, x_p1_planes, x_p1_holes, x_p1_reach, x_p1_cells, x_p1_pulls, x_p1_holeX, x_p1_holeY, .ref q_p1_price])), (q_p1_price, .inr (2, [.ref q_p1_price_codes, .int p1_price_size, .ref q_p1_price_waiting])), (q_p1_price_codes, .inl (cy 0, 800, .inl p1_price_codes)), (q_p1_price_waiting, .inl (cy 0, 16, .inl o14))] H := by rw [eb19]; exact hP
      have hD : va_D A [(q_o, .inr (5, [x_o_seen, .ref q_o_counts, .ref q_o_kinds, .ref q_o_depths, .ref q_o_prices])), (q_o_counts, .inl (cy 0, 104, .inl o_counts)), (q_o_kinds, .inl (cy 0, 4, .inl o_kinds)), (q_o_depths, .inl (cy 0, 4, .inl o_depths)), (q_o_prices, .inl (cy 0, 104, .inl b19)), (q_p1, .inr (0, [x_p1_width, x_p1_height, x_p1_planes, x_p1_holes, x_p1_reach, x_p1_cells, x_p1_pulls, x_p1_holeX, x_p1_holeY, .ref q_p1_price])), (q_p1_price, .inr (2, [.ref q_p1_price_codes, .int p1_price_size, .ref q_p1_price_waiting])), (q_p1_price_codes, .inl (cy 0, 800, .inl p1_price_codes)), (q_p1_price_waiting, .inl (cy 0, 16, .inl o14))] := by rw [eb19]; exact hD
      refine lv_aload_n hx hb dX5_priceFor_65 rfl (lv_at hl 2 rfl) ?_
      refine va_get (D := D) (ci := 5) (v := .ref q_o_prices) (C := RX5) (T := TX5) (N := 5) hx hb hts f_inX5 hown hK hP 0 rfl rfl 4 (by decide) f_f24 (fun _ h9 => h9) rfl dX5_priceFor_66 ?_
      refine lv_iload hx hb dX5_priceFor_69 (lv_at hl 1 rfl) ?_
      obtain ⟨h20, hF⟩ := ld_o hF
      refine va_iald hx hb hK hP 4 0 rfl rfl h20 dX5_priceFor_71 ?_
      refine lv_topi (fun v21 ev21 => ?_)
      have hF := hF v21 ev21
      obtain rfl := so_o hF
      rw [hQQ]
      exact kr_i hx hb hr hlocks hP hD hS dX5_priceFor_72
  exact main s.heap [] ls hP hD hS hl
theorem kd_X1_lookOn : yX1_lookOn.cls = RX1 ∧ yX1_lookOn.cls ≠ "java/lang/invoke/MethodHandle" ∧ yX1_lookOn.cls ≠ "java/lang/invoke/VarHandle" ∧ (parseMethodDescriptor yX1_lookOn.desc).map (fun d => d.parameters.length) = some 3 := by decide +kernel
set_option maxHeartbeats 4000000 in
set_option maxRecDepth 100000 in
theorem c_X1_lookOn {l : Launch} {D : va_G} {cy : Nat → ClassId} (q_o q_o_lookers q_o_facts q_p2 q_p2_price q_p2_price_codes q_p2_price_waiting q_p3 q_p3_counts q_p3_kinds q_p3_depths q_p3_prices : Nat) (sz : Nat) (x_o_viewers x_o_lookLength x_o_time x_p2_width x_p2_height x_p2_planes x_p2_holes x_p2_reach x_p2_cells x_p2_pulls x_p2_holeX x_p2_holeY x_p3_seen : Value) (o_lookers : Nat → Int32) (o_facts : Nat → Int32) (p2_price_size : Int32) (p2_price_codes : Nat → Int32) (p2_price_waiting : Nat → Int32) (p3_counts : Nat → Int32) (p3_kinds : Nat → Int32) (p3_depths : Nat → Int32) (p3_prices : Nat → Int32) (p1 : Int32) (res : (Nat → Int32) × (Nat → Int32) × (Nat → Int32) × (Nat → Int32)) (hF : X1_lookOn o_lookers o_facts p2_price_size p2_price_codes p2_price_waiting p3_counts p3_kinds p3_depths p3_prices p1 = some res) : Met l yX1_lookOn wsX1_lookOn ({ frames := 5, cells := 0, slots := 0, locals := 129 } : Room) (kP (EN D cy) D [.ref q_o, .int p1, .ref q_p2, .ref q_p3] [(q_o, .inr (1, [x_o_viewers, x_o_lookLength, x_o_time, .ref q_o_lookers, .ref q_o_facts])), (q_o_lookers, .inl (cy 0, 4, .inl o_lookers)), (q_o_facts, .inl (cy 0, 140, .inl o_facts)), (q_p2, .inr (0, [x_p2_width, x_p2_height, x_p2_planes, x_p2_holes, x_p2_reach, x_p2_cells, x_p2_pulls, x_p2_holeX, x_p2_holeY, .ref q_p2_price])), (q_p2_price, .inr (2, [.ref q_p2_price_codes, .int p2_price_size, .ref q_p2_price_waiting])), (q_p2_price_codes, .inl (cy 0, 800, .inl p2_price_codes)), (q_p2_price_waiting, .inl (cy 0, 16, .inl p2_price_waiting)), (q_p3, .inr (5, [x_p3_seen, .ref q_p3_counts, .ref q_p3_kinds, .ref q_p3_depths, .ref q_p3_prices])), (q_p3_counts, .inl (cy 0, 104, .inl p3_counts)), (q_p3_kinds, .inl (cy 0, 4, .inl p3_kinds)), (q_p3_depths, .inl (cy 0, 4, .inl p3_depths)), (q_p3_prices, .inl (cy 0, 104, .inl p3_prices))] sz) (kQv D [(q_o, .inr (1, [x_o_viewers, x_o_lookLength, x_o_time, .ref q_o_lookers, .ref q_o_facts])), (q_o_lookers, .inl (cy 0, 4, .inl res.1)), (q_o_facts, .inl (cy 0, 140, .inl res.2.1)), (q_p2, .inr (0, [x_p2_width, x_p2_height, x_p2_planes, x_p2_holes, x_p2_reach, x_p2_cells, x_p2_pulls, x_p2_holeX, x_p2_holeY, .ref q_p2_price])), (q_p2_price, .inr (2, [.ref q_p2_price_codes, .int p2_price_size, .ref q_p2_price_waiting])), (q_p2_price_codes, .inl (cy 0, 800, .inl p2_price_codes)), (q_p2_price_waiting, .inl (cy 0, 16, .inl res.2.2.1)), (q_p3, .inr (5, [x_p3_seen, .ref q_p3_counts, .ref q_p3_kinds, .ref q_p3_depths, .ref q_p3_prices])), (q_p3_counts, .inl (cy 0, 104, .inl p3_counts)), (q_p3_kinds, .inl (cy 0, 4, .inl p3_kinds)), (q_p3_depths, .inl (cy 0, 4, .inl p3_depths)), (q_p3_prices, .inl (cy 0, 104, .inl res.2.2.2))] (va_A [(q_o, .inr (1, [x_o_viewers, x_o_lookLength, x_o_time, .ref q_o_lookers, .ref q_o_facts])), (q_o_lookers, .inl (cy 0, 4, .inl o_lookers)), (q_o_facts, .inl (cy 0, 140, .inl o_facts)), (q_p2, .inr (0, [x_p2_width, x_p2_height, x_p2_planes, x_p2_holes, x_p2_reach, x_p2_cells, x_p2_pulls, x_p2_holeX, x_p2_holeY, .ref q_p2_price])), (q_p2_price, .inr (2, [.ref q_p2_price_codes, .int p2_price_size, .ref q_p2_price_waiting])), (q_p2_price_codes, .inl (cy 0, 800, .inl p2_price_codes)), (q_p2_price_waiting, .inl (cy 0, 16, .inl p2_price_waiting)), (q_p3, .inr (5, [x_p3_seen, .ref q_p3_counts, .ref q_p3_kinds, .ref q_p3_depths, .ref q_p3_prices])), (q_p3_counts, .inl (cy 0, 104, .inl p3_counts)), (q_p3_kinds, .inl (cy 0, 4, .inl p3_kinds)), (q_p3_depths, .inl (cy 0, 4, .inl p3_depths)), (q_p3_prices, .inl (cy 0, 104, .inl p3_prices))] sz)) 0 0 (va_A [(q_o, .inr (1, [x_o_viewers, x_o_lookLength, x_o_time, .ref q_o_lookers, .ref q_o_facts])), (q_o_lookers, .inl (cy 0, 4, .inl o_lookers)), (q_o_facts, .inl (cy 0, 140, .inl o_facts)), (q_p2, .inr (0, [x_p2_width, x_p2_height, x_p2_planes, x_p2_holes, x_p2_reach, x_p2_cells, x_p2_pulls, x_p2_holeX, x_p2_holeY, .ref q_p2_price])), (q_p2_price, .inr (2, [.ref q_p2_price_codes, .int p2_price_size, .ref q_p2_price_waiting])), (q_p2_price_codes, .inl (cy 0, 800, .inl p2_price_codes)), (q_p2_price_waiting, .inl (cy 0, 16, .inl p2_price_waiting)), (q_p3, .inr (5, [x_p3_seen, .ref q_p3_counts, .ref q_p3_kinds, .ref q_p3_depths, .ref q_p3_prices])), (q_p3_counts, .inl (cy 0, 104, .inl p3_counts)), (q_p3_kinds, .inl (cy 0, 4, .inl p3_kinds)), (q_p3_depths, .inl (cy 0, 4, .inl p3_depths)), (q_p3_prices, .inl (cy 0, 104, .inl p3_prices))] sz) := by
  refine kMet (y := yX1_lookOn) (av := [.ref q_o, .int p1, .ref q_p2, .ref q_p3]) (cc := cX1_lookOn) (maxL := 8) (ret := none) (own := RX1) (Qc := fun A9 => (kQv D [(q_o, .inr (1, [x_o_viewers, x_o_lookLength, x_o_time, .ref q_o_lookers, .ref q_o_facts])), (q_o_lookers, .inl (cy 0, 4, .inl res.1)), (q_o_facts, .inl (cy 0, 140, .inl res.2.1)), (q_p2, .inr (0, [x_p2_width, x_p2_height, x_p2_planes, x_p2_holes, x_p2_reach, x_p2_cells, x_p2_pulls, x_p2_holeX, x_p2_holeY, .ref q_p2_price])), (q_p2_price, .inr (2, [.ref q_p2_price_codes, .int p2_price_size, .ref q_p2_price_waiting])), (q_p2_price_codes, .inl (cy 0, 800, .inl p2_price_codes)), (q_p2_price_waiting, .inl (cy 0, 16, .inl res.2.2.1)), (q_p3, .inr (5, [x_p3_seen, .ref q_p3_counts, .ref q_p3_kinds, .ref q_p3_depths, .ref q_p3_prices])), (q_p3_counts, .inl (cy 0, 104, .inl p3_counts)), (q_p3_kinds, .inl (cy 0, 4, .inl p3_kinds)), (q_p3_depths, .inl (cy 0, 4, .inl p3_depths)), (q_p3_prices, .inl (cy 0, 104, .inl res.2.2.2))] A9)) (by decide) rfl rfl (Nat.le_of_ble_eq_true rfl) ?_
  intro p e s m args below meth c A hx hb hr hts hown hml hlocks hname hE hP hD hA hsz ls hl
  have hK := hE.1
  have hl : lv_has ls 8 [(0, .ref q_o), (1, .int p1), (2, .ref q_p2), (3, .ref q_p3)] := hl
  have hS : va_S A s.heap s.heap [] := va_S.rf
  have f_m73 := hts (.methodLink RX1 73 Lib.Math.min.name) (by decide +kernel)
  have f_s_va_mmin := hts (.static Lib.Math.min.name) (by decide +kernel)
  have f_iMath := hts (.initialized "java/lang/Math") (by decide +kernel)
  have f_k_va_mmin := hts (.code Lib.Math.min.name Lib.Math.min.code 2 (some .int)) (by decide +kernel)
  have f_f21 := hts (.fieldLink RX1 21 "PeepBox$Crowd" "lookers" "[I") (by decide +kernel)
  have f_inX1 : ∀ w ∈ wsX10, w ∈ wsX1_lookOn := by decide +kernel
  obtain ⟨QQ, hQQ⟩ : ∃ Q9, Q9 = MQ below (kQv D [(q_o, .inr (1, [x_o_viewers, x_o_lookLength, x_o_time, .ref q_o_lookers, .ref q_o_facts])), (q_o_lookers, .inl (cy 0, 4, .inl res.1)), (q_o_facts, .inl (cy 0, 140, .inl res.2.1)), (q_p2, .inr (0, [x_p2_width, x_p2_height, x_p2_planes, x_p2_holes, x_p2_reach, x_p2_cells, x_p2_pulls, x_p2_holeX, x_p2_holeY, .ref q_p2_price])), (q_p2_price, .inr (2, [.ref q_p2_price_codes, .int p2_price_size, .ref q_p2_price_waiting])), (q_p2_price_codes, .inl (cy 0, 800, .inl p2_price_codes)), (q_p2_price_waiting, .inl (cy 0, 16, .inl res.2.2.1)), (q_p3, .inr (5, [x_p3_seen, .ref q_p3_counts, .ref q_p3_kinds, .ref q_p3_depths, .ref q_p3_prices])), (q_p3_counts, .inl (cy 0, 104, .inl p3_counts)), (q_p3_kinds, .inl (cy 0, 4, .inl p3_kinds)), (q_p3_depths, .inl (cy 0, 4, .inl p3_depths)), (q_p3_prices, .inl (cy 0, 104, .inl res.2.2.2))] A) args s 0 0 A := ⟨_, rfl⟩
  rw [← hQQ]
  have main : ∀ (H : Heap) (locs : List Loc) (ls : Array Slot), va_P D vwCl [(q_o, .inr (1, [x_o_viewers, x_o_lookLength, x_o_time, .ref q_o_lookers, .ref q_o_facts])), (q_o_lookers, .inl (cy 0, 4, .inl o_lookers)), (q_o_facts, .inl (cy 0, 140, .inl o_facts)), (q_p2, .inr (0, [x_p2_width, x_p2_height, x_p2_planes, x_p2_holes, x_p2_reach, x_p2_cells, x_p2_pulls, x_p2_holeX, x_p2_holeY, .ref q_p2_price])), (q_p2_price, .inr (2, [.ref q_p2_price_codes, .int p2_price_size, .ref q_p2_price_waiting])), (q_p2_price_codes, .inl (cy 0, 800, .inl p2_price_codes)), (q_p2_price_waiting, .inl (cy 0, 16, .inl p2_price_waiting)), (q_p3, .inr (5, [x_p3_seen, .ref q_p3_counts, .ref q_p3_kinds, .ref q_p3_depths, .ref q_p3_prices])), (q_p3_counts, .inl (cy 0, 104, .inl p3_counts)), (q_p3_kinds, .inl (cy 0, 4, .inl p3_kinds)), (q_p3_depths, .inl (cy 0, 4, .inl p3_depths)), (q_p3_prices, .inl (cy 0, 104, .inl p3_prices))] H → va_D A [(q_o, .inr (1, [x_o_viewers, x_o_lookLength, x_o_time, .ref q_o_lookers, .ref q_o_facts])), (q_o_lookers, .inl (cy 0, 4, .inl o_lookers)), (q_o_facts, .inl (cy 0, 140, .inl o_facts)), (q_p2, .inr (0, [x_p2_width, x_p2_height, x_p2_planes, x_p2_holes, x_p2_reach, x_p2_cells, x_p2_pulls, x_p2_holeX, x_p2_holeY, .ref q_p2_price])), (q_p2_price, .inr (2, [.ref q_p2_price_codes, .int p2_price_size, .ref q_p2_price_waiting])), (q_p2_price_codes, .inl (cy 0, 800, .inl p2_price_codes)), (q_p2_price_waiting, .inl (cy 0, 16, .inl p2_price_waiting)), (q_p3, .inr (5, [x_p3_seen, .ref q_p3_counts, .ref q_p3_kinds, .ref q_p3_depths, .ref q_p3_prices])), (q_p3_counts, .inl (cy 0, 104, .inl p3_counts)), (q_p3_kinds, .inl (cy 0, 4, .inl p3_kinds)), (q_p3_depths, .inl (cy 0, 4, .inl p3_depths)), (q_p3_prices, .inl (cy 0, 104, .inl p3_prices))] → va_S A s.heap H locs → lv_has ls 8 [(0, .ref q_o), (1, .int p1), (2, .ref q_p2), (3, .ref q_p3)] → W p l e ({ frames := 5, cells := 0, slots := 0, locals := 129 } : Room) s m args below meth c H locs 0 0 QQ (F0 m 0 ls []) := by
    intro H locs ls hP hD hS hl
    unfold X1_lookOn at hF
    refine lv_aload_n hx hb dX1_lookOn_0 rfl (lv_at hl 0 rfl) ?_
    refine lv_iload_n hx hb dX1_lookOn_1 rfl (lv_at hl 1 rfl) ?_
    refine lv_iconst (v := 5) hx hb dX1_lookOn_2 (by decide) ?_
    obtain ⟨r1, h2, hF⟩ := bn1_o hF
    refine kd_i [(q_o, .inr (1, [x_o_viewers, x_o_lookLength, x_o_time, .ref q_o_lookers, .ref q_o_facts])), (q_o_lookers, .inl (cy 0, 4, .inl o_lookers)), (q_o_facts, .inl (cy 0, 140, .inl o_facts)), (q_p2, .inr (0, [x_p2_width, x_p2_height, x_p2_planes, x_p2_holes, x_p2_reach, x_p2_cells, x_p2_pulls, x_p2_holeX, x_p2_holeY, .ref q_p2_price])), (q_p2_price, .inr (2, [.ref q_p2_price_codes, .int p2_price_size, .ref q_p2_price_waiting])), (q_p2_price_codes, .inl (cy 0, 800, .inl p2_price_codes)), (q_p2_price_waiting, .inl (cy 0, 16, .inl p2_price_waiting)), (q_p3, .inr (5, [x_p3_seen, .ref q_p3_counts, .ref q_p3_kinds, .ref q_p3_depths, .ref q_p3_prices])), (q_p3_counts, .inl (cy 0, 104, .inl p3_counts)), (q_p3_kinds, .inl (cy 0, 4, .inl p3_kinds)), (q_p3_depths, .inl (cy 0, 4, .inl p3_depths)), (q_p3_prices, .inl (cy 0, 104, .inl p3_prices))] (va_runV (As := [.int p1, .int (5 : Int32)]) (rest := []) ⟨hx, hb, hml, hown, hts⟩ (c_X1_fact q_o q_o_facts H.size x_o_viewers x_o_lookLength x_o_time (.ref q_o_lookers) o_facts p1 (5 : Int32) _ h2) (cwV 2 hts gX1_lookOn_X1_fact rfl rfl rfl kd_X1_fact ⟨Nat.le_of_ble_eq_true rfl, Nat.le_of_ble_eq_true rfl⟩) ⟨kP_blind (EN_ok D cy) D _ _ _, va_recv hK hP (ci := 1) (q0 := 0) rfl rfl, kStart (EN_ok D cy) hE hP hD hS hA [0, 2] rfl rfl _⟩ rfl rfl hl.1 rfl (lv_room (Nat.le_of_ble_eq_true rfl)) dX1_lookOn_3 ⟨Nat.zero_le _, Nat.zero_le _⟩) hP hD hS hA [0, 2] [1, 3, 4, 5, 6, 7, 8, 9, 10, 11] rfl rfl rfl 12 rfl (by decide +kernel) (fun H locs hP hD hS => ?_)
    refine lv_iconst (v := 1) hx hb dX1_lookOn_6 (by decide) ?_
    refine lv_isub hx hb dX1_lookOn_7 ?_
    refine lv_topi (fun v3 ev3 => ?_)
    have hF := nm_o hF v3 ev3
    refine lv_istore (lv' := [(4, .int v3), (0, .ref q_o), (1, .int p1), (2, .ref q_p2), (3, .ref q_p3)]) hx hb dX1_lookOn_8 hl (by decide) rfl (fun ls hl => ?_)
    refine lv_aload_n hx hb dX1_lookOn_10 rfl (lv_at hl 1 rfl) ?_
    refine lv_iload_n hx hb dX1_lookOn_11 rfl (lv_at hl 2 rfl) ?_
    refine lv_iconst (v := 5) hx hb dX1_lookOn_12 (by decide) ?_
    refine lv_iload hx hb dX1_lookOn_13 (lv_at hl 0 rfl) ?_
    obtain ⟨o4, h5, hF⟩ := bn1_o hF
    refine kd_v [(q_o, .inr (1, [x_o_viewers, x_o_lookLength, x_o_time, .ref q_o_lookers, .ref q_o_facts])), (q_o_lookers, .inl (cy 0, 4, .inl o_lookers)), (q_o_facts, .inl (cy 0, 140, .inl o4)), (q_p2, .inr (0, [x_p2_width, x_p2_height, x_p2_planes, x_p2_holes, x_p2_reach, x_p2_cells, x_p2_pulls, x_p2_holeX, x_p2_holeY, .ref q_p2_price])), (q_p2_price, .inr (2, [.ref q_p2_price_codes, .int p2_price_size, .ref q_p2_price_waiting])), (q_p2_price_codes, .inl (cy 0, 800, .inl p2_price_codes)), (q_p2_price_waiting, .inl (cy 0, 16, .inl p2_price_waiting)), (q_p3, .inr (5, [x_p3_seen, .ref q_p3_counts, .ref q_p3_kinds, .ref q_p3_depths, .ref q_p3_prices])), (q_p3_counts, .inl (cy 0, 104, .inl p3_counts)), (q_p3_kinds, .inl (cy 0, 4, .inl p3_kinds)), (q_p3_depths, .inl (cy 0, 4, .inl p3_depths)), (q_p3_prices, .inl (cy 0, 104, .inl p3_prices))] (va_runV (As := [.int p1, .int (5 : Int32), .int v3]) (rest := []) ⟨hx, hb, hml, hown, hts⟩ (c_X1_set q_o q_o_facts H.size x_o_viewers x_o_lookLength x_o_time (.ref q_o_lookers) o_facts p1 (5 : Int32) v3 _ h5) (cwV 3 hts gX1_lookOn_X1_set rfl rfl rfl kd_X1_set ⟨Nat.le_of_ble_eq_true rfl, Nat.le_of_ble_eq_true rfl⟩) ⟨kP_blind (EN_ok D cy) D _ _ _, va_recv hK hP (ci := 1) (q0 := 0) rfl rfl, kStart (EN_ok D cy) hE hP hD hS hA [0, 2] rfl rfl _⟩ rfl rfl hl.1 rfl (lv_room (Nat.le_of_ble_eq_true rfl)) dX1_lookOn_15 ⟨Nat.zero_le _, Nat.zero_le _⟩) hP hD hS hA [0, 2] [1, 3, 4, 5, 6, 7, 8, 9, 10, 11] rfl rfl rfl 12 rfl (by decide +kernel) (fun H locs hP hD hS => ?_)
    refine lv_iload hx hb dX1_lookOn_18 (lv_at hl 0 rfl) ?_
    refine lv_if_le (tgt := 24) hx hb dX1_lookOn_20 (by decide) (fun c6 => ?_) (fun c6 => ?_)
    · have hF := if_p hF c6
      refine lv_aload_n hx hb dX1_lookOn_24 rfl (lv_at hl 1 rfl) ?_
      refine lv_iload_n hx hb dX1_lookOn_25 rfl (lv_at hl 2 rfl) ?_
      refine lv_iconst (v := 4) hx hb dX1_lookOn_26 (by decide) ?_
      obtain ⟨r7, h8, hF⟩ := bn1_o hF
      refine kd_i [(q_o, .inr (1, [x_o_viewers, x_o_lookLength, x_o_time, .ref q_o_lookers, .ref q_o_facts])), (q_o_lookers, .inl (cy 0, 4, .inl o_lookers)), (q_o_facts, .inl (cy 0, 140, .inl o4)), (q_p2, .inr (0, [x_p2_width, x_p2_height, x_p2_planes, x_p2_holes, x_p2_reach, x_p2_cells, x_p2_pulls, x_p2_holeX, x_p2_holeY, .ref q_p2_price])), (q_p2_price, .inr (2, [.ref q_p2_price_codes, .int p2_price_size, .ref q_p2_price_waiting])), (q_p2_price_codes, .inl (cy 0, 800, .inl p2_price_codes)), (q_p2_price_waiting, .inl (cy 0, 16, .inl p2_price_waiting)), (q_p3, .inr (5, [x_p3_seen, .ref q_p3_counts, .ref q_p3_kinds, .ref q_p3_depths, .ref q_p3_prices])), (q_p3_counts, .inl (cy 0, 104, .inl p3_counts)), (q_p3_kinds, .inl (cy 0, 4, .inl p3_kinds)), (q_p3_depths, .inl (cy 0, 4, .inl p3_depths)), (q_p3_prices, .inl (cy 0, 104, .inl p3_prices))] (va_runV (As := [.int p1, .int (4 : Int32)]) (rest := []) ⟨hx, hb, hml, hown, hts⟩ (c_X1_fact q_o q_o_facts H.size x_o_viewers x_o_lookLength x_o_time (.ref q_o_lookers) o4 p1 (4 : Int32) _ h8) (cwV 2 hts gX1_lookOn_X1_fact rfl rfl rfl kd_X1_fact ⟨Nat.le_of_ble_eq_true rfl, Nat.le_of_ble_eq_true rfl⟩) ⟨kP_blind (EN_ok D cy) D _ _ _, va_recv hK hP (ci := 1) (q0 := 0) rfl rfl, kStart (EN_ok D cy) hE hP hD hS hA [0, 2] rfl rfl _⟩ rfl rfl hl.1 rfl (lv_room (Nat.le_of_ble_eq_true rfl)) dX1_lookOn_27 ⟨Nat.zero_le _, Nat.zero_le _⟩) hP hD hS hA [0, 2] [1, 3, 4, 5, 6, 7, 8, 9, 10, 11] rfl rfl rfl 12 rfl (by decide +kernel) (fun H locs hP hD hS => ?_)
      refine lv_istore (lv' := [(5, .int r7), (4, .int v3), (0, .ref q_o), (1, .int p1), (2, .ref q_p2), (3, .ref q_p3)]) hx hb dX1_lookOn_30 hl (by decide) rfl (fun ls hl => ?_)
      refine lv_aload_n hx hb dX1_lookOn_32 rfl (lv_at hl 2 rfl) ?_
      refine lv_iload_n hx hb dX1_lookOn_33 rfl (lv_at hl 3 rfl) ?_
      refine lv_iconst (v := 2) hx hb dX1_lookOn_34 (by decide) ?_
      obtain ⟨r9, h10, hF⟩ := bn1_o hF
      refine kd_i [(q_o, .inr (1, [x_o_viewers, x_o_lookLength, x_o_time, .ref q_o_lookers, .ref q_o_facts])), (q_o_lookers, .inl (cy 0, 4, .inl o_lookers)), (q_o_facts, .inl (cy 0, 140, .inl o4)), (q_p2, .inr (0, [x_p2_width, x_p2_height, x_p2_planes, x_p2_holes, x_p2_reach, x_p2_cells, x_p2_pulls, x_p2_holeX, x_p2_holeY, .ref q_p2_price])), (q_p2_price, .inr (2, [.ref q_p2_price_codes, .int p2_price_size, .ref q_p2_price_waiting])), (q_p2_price_codes, .inl (cy 0, 800, .inl p2_price_codes)), (q_p2_price_waiting, .inl (cy 0, 16, .inl p2_price_waiting)), (q_p3, .inr (5, [x_p3_seen, .ref q_p3_counts, .ref q_p3_kinds, .ref q_p3_depths, .ref q_p3_prices])), (q_p3_counts, .inl (cy 0, 104, .inl p3_counts)), (q_p3_kinds, .inl (cy 0, 4, .inl p3_kinds)), (q_p3_depths, .inl (cy 0, 4, .inl p3_depths)), (q_p3_prices, .inl (cy 0, 104, .inl p3_prices))] (va_runV (As := [.int p1, .int (2 : Int32)]) (rest := []) ⟨hx, hb, hml, hown, hts⟩ (c_X1_fact q_o q_o_facts H.size x_o_viewers x_o_lookLength x_o_time (.ref q_o_lookers) o4 p1 (2 : Int32) _ h10) (cwV 2 hts gX1_lookOn_X1_fact rfl rfl rfl kd_X1_fact ⟨Nat.le_of_ble_eq_true rfl, Nat.le_of_ble_eq_true rfl⟩) ⟨kP_blind (EN_ok D cy) D _ _ _, va_recv hK hP (ci := 1) (q0 := 0) rfl rfl, kStart (EN_ok D cy) hE hP hD hS hA [0, 2] rfl rfl _⟩ rfl rfl hl.1 rfl (lv_room (Nat.le_of_ble_eq_true rfl)) dX1_lookOn_35 ⟨Nat.zero_le _, Nat.zero_le _⟩) hP hD hS hA [0, 2] [1, 3, 4, 5, 6, 7, 8, 9, 10, 11] rfl rfl rfl 12 rfl (by decide +kernel) (fun H locs hP hD hS => ?_)
      refine lv_istore (lv' := [(6, .int r9), (5, .int r7), (4, .int v3), (0, .ref q_o), (1, .int p1), (2, .ref q_p2), (3, .ref q_p3)]) hx hb dX1_lookOn_38 hl (by decide) rfl (fun ls hl => ?_)
      refine lv_iload hx hb dX1_lookOn_40 (lv_at hl 0 rfl) ?_
      refine lv_aload_n hx hb dX1_lookOn_42 rfl (lv_at hl 6 rfl) ?_
      refine lv_aload_n hx hb dX1_lookOn_43 rfl (lv_at hl 5 rfl) ?_
      refine lv_aload_n hx hb dX1_lookOn_44 rfl (lv_at hl 3 rfl) ?_
      refine lv_iload_n hx hb dX1_lookOn_45 rfl (lv_at hl 4 rfl) ?_
      refine lv_iconst (v := 1) hx hb dX1_lookOn_46 (by decide) ?_
      obtain ⟨r11, h12, hF⟩ := bn1_o hF
      refine kd_i [(q_o, .inr (1, [x_o_viewers, x_o_lookLength, x_o_time, .ref q_o_lookers, .ref q_o_facts])), (q_o_lookers, .inl (cy 0, 4, .inl o_lookers)), (q_o_facts, .inl (cy 0, 140, .inl o4)), (q_p2, .inr (0, [x_p2_width, x_p2_height, x_p2_planes, x_p2_holes, x_p2_reach, x_p2_cells, x_p2_pulls, x_p2_holeX, x_p2_holeY, .ref q_p2_price])), (q_p2_price, .inr (2, [.ref q_p2_price_codes, .int p2_price_size, .ref q_p2_price_waiting])), (q_p2_price_codes, .inl (cy 0, 800, .inl p2_price_codes)), (q_p2_price_waiting, .inl (cy 0, 16, .inl p2_price_waiting)), (q_p3, .inr (5, [x_p3_seen, .ref q_p3_counts, .ref q_p3_kinds, .ref q_p3_depths, .ref q_p3_prices])), (q_p3_counts, .inl (cy 0, 104, .inl p3_counts)), (q_p3_kinds, .inl (cy 0, 4, .inl p3_kinds)), (q_p3_depths, .inl (cy 0, 4, .inl p3_depths)), (q_p3_prices, .inl (cy 0, 104, .inl p3_prices))] (va_runV (As := [.int p1, .int (1 : Int32)]) (rest := [.ref q_p2, .ref q_p3, .int r9]) ⟨hx, hb, hml, hown, hts⟩ (c_X1_fact q_o q_o_facts H.size x_o_viewers x_o_lookLength x_o_time (.ref q_o_lookers) o4 p1 (1 : Int32) _ h12) (cwV 2 hts gX1_lookOn_X1_fact rfl rfl rfl kd_X1_fact ⟨Nat.le_of_ble_eq_true rfl, Nat.le_of_ble_eq_true rfl⟩) ⟨kP_blind (EN_ok D cy) D _ _ _, va_recv hK hP (ci := 1) (q0 := 0) rfl rfl, kStart (EN_ok D cy) hE hP hD hS hA [0, 2] rfl rfl _⟩ rfl rfl hl.1 rfl (lv_room (Nat.le_of_ble_eq_true rfl)) dX1_lookOn_47 ⟨Nat.zero_le _, Nat.zero_le _⟩) hP hD hS hA [0, 2] [1, 3, 4, 5, 6, 7, 8, 9, 10, 11] rfl rfl rfl 12 rfl (by decide +kernel) (fun H locs hP hD hS => ?_)
      refine lv_iload hx hb dX1_lookOn_50 (lv_at hl 1 rfl) ?_
      obtain ⟨r13, o14, o15, h16, hF⟩ := bn3_o hF
      refine kd_i [(q_o, .inr (1, [x_o_viewers, x_o_lookLength, x_o_time, .ref q_o_lookers, .ref q_o_facts])), (q_o_lookers, .inl (cy 0, 4, .inl o_lookers)), (q_o_facts, .inl (cy 0, 140, .inl o4)), (q_p2, .inr (0, [x_p2_width, x_p2_height, x_p2_planes, x_p2_holes, x_p2_reach, x_p2_cells, x_p2_pulls, x_p2_holeX, x_p2_holeY, .ref q_p2_price])), (q_p2_price, .inr (2, [.ref q_p2_price_codes, .int p2_price_size, .ref q_p2_price_waiting])), (q_p2_price_codes, .inl (cy 0, 800, .inl p2_price_codes)), (q_p2_price_waiting, .inl (cy 0, 16, .inl o15)), (q_p3, .inr (5, [x_p3_seen, .ref q_p3_counts, .ref q_p3_kinds, .ref q_p3_depths, .ref q_p3_prices])), (q_p3_counts, .inl (cy 0, 104, .inl p3_counts)), (q_p3_kinds, .inl (cy 0, 4, .inl p3_kinds)), (q_p3_depths, .inl (cy 0, 4, .inl p3_depths)), (q_p3_prices, .inl (cy 0, 104, .inl o14))] (va_runV (As := [.ref q_p2, .int r11, .int r7]) (rest := [.int r9]) ⟨hx, hb, hml, hown, hts⟩ (c_X5_priceFor q_p3 q_p3_counts q_p3_kinds q_p3_depths q_p3_prices q_p2 q_p2_price q_p2_price_codes q_p2_price_waiting H.size x_p3_seen x_p2_width x_p2_height x_p2_planes x_p2_holes x_p2_reach x_p2_cells x_p2_pulls x_p2_holeX x_p2_holeY p3_counts p3_kinds p3_depths p3_prices p2_price_size p2_price_codes p2_price_waiting r11 r7 _ h16) (cwV 3 hts gX1_lookOn_X5_priceFor rfl rfl rfl kd_X5_priceFor ⟨Nat.le_of_ble_eq_true rfl, Nat.le_of_ble_eq_true rfl⟩) ⟨kP_blind (EN_ok D cy) D _ _ _, va_recv hK hP (ci := 5) (q0 := 7) rfl rfl, kStart (EN_ok D cy) hE hP hD hS hA [7, 8, 9, 10, 11, 3, 4, 5, 6] rfl rfl _⟩ rfl rfl hl.1 rfl (lv_room (Nat.le_of_ble_eq_true rfl)) dX1_lookOn_52 ⟨Nat.zero_le _, Nat.zero_le _⟩) hP hD hS hA [7, 8, 9, 10, 11, 3, 4, 5, 6] [0, 1, 2] rfl rfl rfl 12 rfl (by decide +kernel) (fun H locs hP hD hS => ?_)
      refine va_mmin hx hb (by rw [hml]; exact hl.1.symm) hown f_m73 f_s_va_mmin f_iMath f_k_va_mmin (Nat.le_of_ble_eq_true rfl) (Nat.le_of_ble_eq_true rfl) (Nat.zero_le _) (Nat.zero_le _) dX1_lookOn_55 ?_
      refine lv_topi (fun v17 ev17 => ?_)
      have hF := nm_o hF v17 ev17
      refine lv_istore (lv' := [(7, .int v17), (6, .int r9), (5, .int r7), (4, .int v3), (0, .ref q_o), (1, .int p1), (2, .ref q_p2), (3, .ref q_p3)]) hx hb dX1_lookOn_58 hl (by decide) rfl (fun ls hl => ?_)
      refine lv_aload_n hx hb dX1_lookOn_60 rfl (lv_at hl 4 rfl) ?_
      refine lv_iload_n hx hb dX1_lookOn_61 rfl (lv_at hl 5 rfl) ?_
      refine lv_iconst (v := 2) hx hb dX1_lookOn_62 (by decide) ?_
      refine lv_iload hx hb dX1_lookOn_63 (lv_at hl 1 rfl) ?_
      refine lv_iload hx hb dX1_lookOn_65 (lv_at hl 0 rfl) ?_
      refine lv_isub hx hb dX1_lookOn_67 ?_
      obtain ⟨o18, h19, hF⟩ := bn1_o hF
      refine kd_v [(q_o, .inr (1, [x_o_viewers, x_o_lookLength, x_o_time, .ref q_o_lookers, .ref q_o_facts])), (q_o_lookers, .inl (cy 0, 4, .inl o_lookers)), (q_o_facts, .inl (cy 0, 140, .inl o18)), (q_p2, .inr (0, [x_p2_width, x_p2_height, x_p2_planes, x_p2_holes, x_p2_reach, x_p2_cells, x_p2_pulls, x_p2_holeX, x_p2_holeY, .ref q_p2_price])), (q_p2_price, .inr (2, [.ref q_p2_price_codes, .int p2_price_size, .ref q_p2_price_waiting])), (q_p2_price_codes, .inl (cy 0, 800, .inl p2_price_codes)), (q_p2_price_waiting, .inl (cy 0, 16, .inl o15)), (q_p3, .inr (5, [x_p3_seen, .ref q_p3_counts, .ref q_p3_kinds, .ref q_p3_depths, .ref q_p3_prices])), (q_p3_counts, .inl (cy 0, 104, .inl p3_counts)), (q_p3_kinds, .inl (cy 0, 4, .inl p3_kinds)), (q_p3_depths, .inl (cy 0, 4, .inl p3_depths)), (q_p3_prices, .inl (cy 0, 104, .inl o14))] (va_runV (As := [.int p1, .int (2 : Int32), .int (r9 - v17)]) (rest := []) ⟨hx, hb, hml, hown, hts⟩ (c_X1_set q_o q_o_facts H.size x_o_viewers x_o_lookLength x_o_time (.ref q_o_lookers) o4 p1 (2 : Int32) (r9 - v17) _ h19) (cwV 3 hts gX1_lookOn_X1_set rfl rfl rfl kd_X1_set ⟨Nat.le_of_ble_eq_true rfl, Nat.le_of_ble_eq_true rfl⟩) ⟨kP_blind (EN_ok D cy) D _ _ _, va_recv hK hP (ci := 1) (q0 := 0) rfl rfl, kStart (EN_ok D cy) hE hP hD hS hA [0, 2] rfl rfl _⟩ rfl rfl hl.1 rfl (lv_room (Nat.le_of_ble_eq_true rfl)) dX1_lookOn_68 ⟨Nat.zero_le _, Nat.zero_le _⟩) hP hD hS hA [0, 2] [1, 3, 4, 5, 6, 7, 8, 9, 10, 11] rfl rfl rfl 12 rfl (by decide +kernel) (fun H locs hP hD hS => ?_)
      refine lv_aload_n hx hb dX1_lookOn_71 rfl (lv_at hl 4 rfl) ?_
      refine lv_iload_n hx hb dX1_lookOn_72 rfl (lv_at hl 5 rfl) ?_
      refine lv_bipush (v := 6) hx hb dX1_lookOn_73 (by decide) ?_
      refine lv_iload hx hb dX1_lookOn_75 (lv_at hl 0 rfl) ?_
      obtain ⟨o20, h21, hF⟩ := bn1_o hF
      refine kd_v [(q_o, .inr (1, [x_o_viewers, x_o_lookLength, x_o_time, .ref q_o_lookers, .ref q_o_facts])), (q_o_lookers, .inl (cy 0, 4, .inl o_lookers)), (q_o_facts, .inl (cy 0, 140, .inl o20)), (q_p2, .inr (0, [x_p2_width, x_p2_height, x_p2_planes, x_p2_holes, x_p2_reach, x_p2_cells, x_p2_pulls, x_p2_holeX, x_p2_holeY, .ref q_p2_price])), (q_p2_price, .inr (2, [.ref q_p2_price_codes, .int p2_price_size, .ref q_p2_price_waiting])), (q_p2_price_codes, .inl (cy 0, 800, .inl p2_price_codes)), (q_p2_price_waiting, .inl (cy 0, 16, .inl o15)), (q_p3, .inr (5, [x_p3_seen, .ref q_p3_counts, .ref q_p3_kinds, .ref q_p3_depths, .ref q_p3_prices])), (q_p3_counts, .inl (cy 0, 104, .inl p3_counts)), (q_p3_kinds, .inl (cy 0, 4, .inl p3_kinds)), (q_p3_depths, .inl (cy 0, 4, .inl p3_depths)), (q_p3_prices, .inl (cy 0, 104, .inl o14))] (va_runV (As := [.int p1, .int (6 : Int32), .int v17]) (rest := []) ⟨hx, hb, hml, hown, hts⟩ (c_X1_set q_o q_o_facts H.size x_o_viewers x_o_lookLength x_o_time (.ref q_o_lookers) o18 p1 (6 : Int32) v17 _ h21) (cwV 3 hts gX1_lookOn_X1_set rfl rfl rfl kd_X1_set ⟨Nat.le_of_ble_eq_true rfl, Nat.le_of_ble_eq_true rfl⟩) ⟨kP_blind (EN_ok D cy) D _ _ _, va_recv hK hP (ci := 1) (q0 := 0) rfl rfl, kStart (EN_ok D cy) hE hP hD hS hA [0, 2] rfl rfl _⟩ rfl rfl hl.1 rfl (lv_room (Nat.le_of_ble_eq_true rfl)) dX1_lookOn_77 ⟨Nat.zero_le _, Nat.zero_le _⟩) hP hD hS hA [0, 2] [1, 3, 4, 5, 6, 7, 8, 9, 10, 11] rfl rfl rfl 12 rfl (by decide +kernel) (fun H locs hP hD hS => ?_)
      refine lv_aload_n hx hb dX1_lookOn_80 rfl (lv_at hl 4 rfl) ?_
      refine va_get (D := D) (ci := 1) (v := .ref q_o_lookers) (C := RX1) (T := TX1) (N := 5) hx hb hts f_inX1 hown hK hP 0 rfl rfl 3 (by decide) f_f21 (fun _ h9 => h9) rfl dX1_lookOn_81 ?_
      refine lv_iload hx hb dX1_lookOn_84 (lv_at hl 2 rfl) ?_
      refine lv_iconst (v := -1) hx hb dX1_lookOn_86 (by decide) ?_
      obtain ⟨h22, hF⟩ := st_o hF
      refine va_iast hx hb hK hP hD hS 1 0 rfl rfl h22 dX1_lookOn_87 (fun H locs hP hD hS => ?_)
      obtain ⟨b23, eb23⟩ : ∃ y : Nat → Int32, y = (upd o_lookers r7.toNatClampNeg (-1 : Int32)) := ⟨_, rfl⟩
      have hF := hF b23 eb23
      have hP : va_P D vwCl [(q_o, .inr (1, [x_o_viewers, x_o_lookLength, x_o_time, .ref q_o_lookers, .ref q_o_facts])), (q_o_lookers, .inl (cy 0, 4, .inl b23)), (q_o_facts, .inl (cy 0, 140, .inl o20)), (q_p2, .inr (0, [x_p2_width, x_p2_height, x_p2_planes, x_p2_holes, x_p2_reach, x_p2_cells, x_p2_pulls, x_p2_holeX, x_p2_holeY, .ref q_p2_price])), (q_p2_price, .inr (2, [.ref q_p2_price_codes, .int p2_price_size, .ref q_p2_price_waiting])), (q_p2_price_codes, .inl (cy 0, 800, .inl p2_price_codes)), (q_p2_price_waiting, .inl (cy 0, 16, .inl o15)), (q_p3, .inr (5, [x_p3_seen, .ref q_p3_counts, .ref q_p3_kinds, .ref q_p3_depths, .ref q_p3_prices])), (q_p3_counts, .inl (cy 0, 104, .inl p3_counts)), (q_p3_kinds, .inl (cy 0, 4, .inl p3_kinds)), (q_p3_depths, .inl (cy 0, 4, .inl p3_depths)), (q_p3_prices, .inl (cy 0, 104, .inl o14))] H := by rw [eb23]; exact hP
      have hD : va_D A [(q_o, .inr (1, [x_o_viewers, x_o_lookLength, x_o_time, .ref q_o_lookers, .ref q_o_facts])), (q_o_lookers, .inl (cy 0, 4, .inl b23)), (q_o_facts, .inl (cy 0, 140, .inl o20)), (q_p2, .inr (0, [x_p2_width, x_p2_height, x_p2_planes, x_p2_holes, x_p2_reach, x_p2_cells, x_p2_pulls, x_p2_holeX, x_p2_holeY, .ref q_p2_price])), (q_p2_price, .inr (2, [.ref q_p2_price_codes, .int p2_price_size, .ref q_p2_price_waiting])), (q_p2_price_codes, .inl (cy 0, 800, .inl p2_price_codes)), (q_p2_price_waiting, .inl (cy 0, 16, .inl o15)), (q_p3, .inr (5, [x_p3_seen, .ref q_p3_counts, .ref q_p3_kinds, .ref q_p3_depths, .ref q_p3_prices])), (q_p3_counts, .inl (cy 0, 104, .inl p3_counts)), (q_p3_kinds, .inl (cy 0, 4, .inl p3_kinds)), (q_p3_depths, .inl (cy 0, 4, .inl p3_depths)), (q_p3_prices, .inl (cy 0, 104, .inl o14))] := by rw [eb23]; exact hD
      refine lv_aload_n hx hb dX1_lookOn_88 rfl (lv_at hl 4 rfl) ?_
      refine lv_iload_n hx hb dX1_lookOn_89 rfl (lv_at hl 5 rfl) ?_
      refine lv_iconst (v := 2) hx hb dX1_lookOn_90 (by decide) ?_
      obtain ⟨o24, h25, hF⟩ := bn1_o hF
      refine kd_v [(q_o, .inr (1, [x_o_viewers, x_o_lookLength, x_o_time, .ref q_o_lookers, .ref q_o_facts])), (q_o_lookers, .inl (cy 0, 4, .inl b23)), (q_o_facts, .inl (cy 0, 140, .inl o24)), (q_p2, .inr (0, [x_p2_width, x_p2_height, x_p2_planes, x_p2_holes, x_p2_reach, x_p2_cells, x_p2_pulls, x_p2_holeX, x_p2_holeY, .ref q_p2_price])), (q_p2_price, .inr (2, [.ref q_p2_price_codes, .int p2_price_size, .ref q_p2_price_waiting])), (q_p2_price_codes, .inl (cy 0, 800, .inl p2_price_codes)), (q_p2_price_waiting, .inl (cy 0, 16, .inl o15)), (q_p3, .inr (5, [x_p3_seen, .ref q_p3_counts, .ref q_p3_kinds, .ref q_p3_depths, .ref q_p3_prices])), (q_p3_counts, .inl (cy 0, 104, .inl p3_counts)), (q_p3_kinds, .inl (cy 0, 4, .inl p3_kinds)), (q_p3_depths, .inl (cy 0, 4, .inl p3_depths)), (q_p3_prices, .inl (cy 0, 104, .inl o14))] (va_runV (As := [.int p1, .int (2 : Int32)]) (rest := []) ⟨hx, hb, hml, hown, hts⟩ (c_X1_endLook q_o q_o_facts H.size x_o_viewers x_o_lookLength x_o_time (.ref q_o_lookers) o20 p1 (2 : Int32) _ h25) (cwV 2 hts gX1_lookOn_X1_endLook rfl rfl rfl kd_X1_endLook ⟨Nat.le_of_ble_eq_true rfl, Nat.le_of_ble_eq_true rfl⟩) ⟨kP_blind (EN_ok D cy) D _ _ _, va_recv hK hP (ci := 1) (q0 := 0) rfl rfl, kStart (EN_ok D cy) hE hP hD hS hA [0, 2] rfl rfl _⟩ rfl rfl hl.1 rfl (lv_room (Nat.le_of_ble_eq_true rfl)) dX1_lookOn_91 ⟨Nat.zero_le _, Nat.zero_le _⟩) hP hD hS hA [0, 2] [1, 3, 4, 5, 6, 7, 8, 9, 10, 11] rfl rfl rfl 12 rfl (by decide +kernel) (fun H locs hP hD hS => ?_)
      obtain rfl := so_o hF
      rw [hQQ]
      exact kr_v hx hb hr hlocks hP hD hS dX1_lookOn_94
    · have hF := if_n hF c6
      obtain rfl := so_o hF
      rw [hQQ]
      exact kr_v hx hb hr hlocks hP hD hS dX1_lookOn_23
  exact main s.heap [] ls hP hD hS hl
theorem kd_X1_beginLook : yX1_beginLook.cls = RX1 ∧ yX1_beginLook.cls ≠ "java/lang/invoke/MethodHandle" ∧ yX1_beginLook.cls ≠ "java/lang/invoke/VarHandle" ∧ (parseMethodDescriptor yX1_beginLook.desc).map (fun d => d.parameters.length) = some 2 := by decide +kernel
set_option maxHeartbeats 4000000 in
set_option maxRecDepth 100000 in
theorem c_X1_beginLook {l : Launch} {D : va_G} {cy : Nat → ClassId} (q_o q_o_lookers q_o_facts : Nat) (sz : Nat) (x_o_viewers x_o_time : Value) (o_lookLength : Int32) (o_lookers : Nat → Int32) (o_facts : Nat → Int32) (p1 : Int32) (p2 : Int32) (res : (Nat → Int32) × (Nat → Int32)) (hF : X1_beginLook o_lookLength o_lookers o_facts p1 p2 = some res) : Met l yX1_beginLook wsX1_beginLook ({ frames := 1, cells := 0, slots := 0, locals := 23 } : Room) (kP (EN D cy) D [.ref q_o, .int p1, .int p2] [(q_o, .inr (1, [x_o_viewers, .int o_lookLength, x_o_time, .ref q_o_lookers, .ref q_o_facts])), (q_o_lookers, .inl (cy 0, 4, .inl o_lookers)), (q_o_facts, .inl (cy 0, 140, .inl o_facts))] sz) (kQv D [(q_o, .inr (1, [x_o_viewers, .int o_lookLength, x_o_time, .ref q_o_lookers, .ref q_o_facts])), (q_o_lookers, .inl (cy 0, 4, .inl res.1)), (q_o_facts, .inl (cy 0, 140, .inl res.2))] (va_A [(q_o, .inr (1, [x_o_viewers, .int o_lookLength, x_o_time, .ref q_o_lookers, .ref q_o_facts])), (q_o_lookers, .inl (cy 0, 4, .inl o_lookers)), (q_o_facts, .inl (cy 0, 140, .inl o_facts))] sz)) 0 0 (va_A [(q_o, .inr (1, [x_o_viewers, .int o_lookLength, x_o_time, .ref q_o_lookers, .ref q_o_facts])), (q_o_lookers, .inl (cy 0, 4, .inl o_lookers)), (q_o_facts, .inl (cy 0, 140, .inl o_facts))] sz) := by
  refine kMet (y := yX1_beginLook) (av := [.ref q_o, .int p1, .int p2]) (cc := cX1_beginLook) (maxL := 3) (ret := none) (own := RX1) (Qc := fun A9 => (kQv D [(q_o, .inr (1, [x_o_viewers, .int o_lookLength, x_o_time, .ref q_o_lookers, .ref q_o_facts])), (q_o_lookers, .inl (cy 0, 4, .inl res.1)), (q_o_facts, .inl (cy 0, 140, .inl res.2))] A9)) (by decide) rfl rfl (Nat.le_of_ble_eq_true rfl) ?_
  intro p e s m args below meth c A hx hb hr hts hown hml hlocks hname hE hP hD hA hsz ls hl
  have hK := hE.1
  have hl : lv_has ls 3 [(0, .ref q_o), (1, .int p1), (2, .int p2)] := hl
  have hS : va_S A s.heap s.heap [] := va_S.rf
  have f_f21 := hts (.fieldLink RX1 21 "PeepBox$Crowd" "lookers" "[I") (by decide +kernel)
  have f_inX1 : ∀ w ∈ wsX10, w ∈ wsX1_beginLook := by decide +kernel
  have f_f15 := hts (.fieldLink RX1 15 "PeepBox$Crowd" "lookLength" "I") (by decide +kernel)
  obtain ⟨QQ, hQQ⟩ : ∃ Q9, Q9 = MQ below (kQv D [(q_o, .inr (1, [x_o_viewers, .int o_lookLength, x_o_time, .ref q_o_lookers, .ref q_o_facts])), (q_o_lookers, .inl (cy 0, 4, .inl res.1)), (q_o_facts, .inl (cy 0, 140, .inl res.2))] A) args s 0 0 A := ⟨_, rfl⟩
  rw [← hQQ]
  have main : ∀ (H : Heap) (locs : List Loc) (ls : Array Slot), va_P D vwCl [(q_o, .inr (1, [x_o_viewers, .int o_lookLength, x_o_time, .ref q_o_lookers, .ref q_o_facts])), (q_o_lookers, .inl (cy 0, 4, .inl o_lookers)), (q_o_facts, .inl (cy 0, 140, .inl o_facts))] H → va_D A [(q_o, .inr (1, [x_o_viewers, .int o_lookLength, x_o_time, .ref q_o_lookers, .ref q_o_facts])), (q_o_lookers, .inl (cy 0, 4, .inl o_lookers)), (q_o_facts, .inl (cy 0, 140, .inl o_facts))] → va_S A s.heap H locs → lv_has ls 3 [(0, .ref q_o), (1, .int p1), (2, .int p2)] → W p l e ({ frames := 1, cells := 0, slots := 0, locals := 23 } : Room) s m args below meth c H locs 0 0 QQ (F0 m 0 ls []) := by
    intro H locs ls hP hD hS hl
    unfold X1_beginLook at hF
    refine lv_aload_n hx hb dX1_beginLook_0 rfl (lv_at hl 0 rfl) ?_
    refine va_get (D := D) (ci := 1) (v := .ref q_o_lookers) (C := RX1) (T := TX1) (N := 5) hx hb hts f_inX1 hown hK hP 0 rfl rfl 3 (by decide) f_f21 (fun _ h9 => h9) rfl dX1_beginLook_1 ?_
    refine lv_iload_n hx hb dX1_beginLook_4 rfl (lv_at hl 2 rfl) ?_
    refine lv_iload_n hx hb dX1_beginLook_5 rfl (lv_at hl 1 rfl) ?_
    obtain ⟨h1, hF⟩ := st_o hF
    refine va_iast hx hb hK hP hD hS 1 0 rfl rfl h1 dX1_beginLook_6 (fun H locs hP hD hS => ?_)
    obtain ⟨b2, eb2⟩ : ∃ y : Nat → Int32, y = (upd o_lookers p2.toNatClampNeg p1) := ⟨_, rfl⟩
    have hF := hF b2 eb2
    have hP : va_P D vwCl [(q_o, .inr (1, [x_o_viewers, .int o_lookLength, x_o_time, .ref q_o_lookers, .ref q_o_facts])), (q_o_lookers, .inl (cy 0, 4, .inl b2)), (q_o_facts, .inl (cy 0, 140, .inl o_facts))] H := by rw [eb2]; exact hP
    have hD : va_D A [(q_o, .inr (1, [x_o_viewers, .int o_lookLength, x_o_time, .ref q_o_lookers, .ref q_o_facts])), (q_o_lookers, .inl (cy 0, 4, .inl b2)), (q_o_facts, .inl (cy 0, 140, .inl o_facts))] := by rw [eb2]; exact hD
    refine lv_aload_n hx hb dX1_beginLook_7 rfl (lv_at hl 0 rfl) ?_
    refine lv_iload_n hx hb dX1_beginLook_8 rfl (lv_at hl 1 rfl) ?_
    refine lv_iconst (v := 3) hx hb dX1_beginLook_9 (by decide) ?_
    refine lv_iconst (v := 1) hx hb dX1_beginLook_10 (by decide) ?_
    obtain ⟨o3, h4, hF⟩ := bn1_o hF
    refine kd_v [(q_o, .inr (1, [x_o_viewers, .int o_lookLength, x_o_time, .ref q_o_lookers, .ref q_o_facts])), (q_o_lookers, .inl (cy 0, 4, .inl b2)), (q_o_facts, .inl (cy 0, 140, .inl o3))] (va_runV (As := [.int p1, .int (3 : Int32), .int (1 : Int32)]) (rest := []) ⟨hx, hb, hml, hown, hts⟩ (c_X1_set q_o q_o_facts H.size x_o_viewers (.int o_lookLength) x_o_time (.ref q_o_lookers) o_facts p1 (3 : Int32) (1 : Int32) _ h4) (cwV 3 hts gX1_beginLook_X1_set rfl rfl rfl kd_X1_set ⟨Nat.le_of_ble_eq_true rfl, Nat.le_of_ble_eq_true rfl⟩) ⟨kP_blind (EN_ok D cy) D _ _ _, va_recv hK hP (ci := 1) (q0 := 0) rfl rfl, kStart (EN_ok D cy) hE hP hD hS hA [0, 2] rfl rfl _⟩ rfl rfl hl.1 rfl (lv_room (Nat.le_of_ble_eq_true rfl)) dX1_beginLook_11 ⟨Nat.zero_le _, Nat.zero_le _⟩) hP hD hS hA [0, 2] [1] rfl rfl rfl 3 rfl (by decide +kernel) (fun H locs hP hD hS => ?_)
    refine lv_aload_n hx hb dX1_beginLook_14 rfl (lv_at hl 0 rfl) ?_
    refine lv_iload_n hx hb dX1_beginLook_15 rfl (lv_at hl 1 rfl) ?_
    refine lv_iconst (v := 4) hx hb dX1_beginLook_16 (by decide) ?_
    refine lv_iload_n hx hb dX1_beginLook_17 rfl (lv_at hl 2 rfl) ?_
    obtain ⟨o5, h6, hF⟩ := bn1_o hF
    refine kd_v [(q_o, .inr (1, [x_o_viewers, .int o_lookLength, x_o_time, .ref q_o_lookers, .ref q_o_facts])), (q_o_lookers, .inl (cy 0, 4, .inl b2)), (q_o_facts, .inl (cy 0, 140, .inl o5))] (va_runV (As := [.int p1, .int (4 : Int32), .int p2]) (rest := []) ⟨hx, hb, hml, hown, hts⟩ (c_X1_set q_o q_o_facts H.size x_o_viewers (.int o_lookLength) x_o_time (.ref q_o_lookers) o3 p1 (4 : Int32) p2 _ h6) (cwV 3 hts gX1_beginLook_X1_set rfl rfl rfl kd_X1_set ⟨Nat.le_of_ble_eq_true rfl, Nat.le_of_ble_eq_true rfl⟩) ⟨kP_blind (EN_ok D cy) D _ _ _, va_recv hK hP (ci := 1) (q0 := 0) rfl rfl, kStart (EN_ok D cy) hE hP hD hS hA [0, 2] rfl rfl _⟩ rfl rfl hl.1 rfl (lv_room (Nat.le_of_ble_eq_true rfl)) dX1_beginLook_18 ⟨Nat.zero_le _, Nat.zero_le _⟩) hP hD hS hA [0, 2] [1] rfl rfl rfl 3 rfl (by decide +kernel) (fun H locs hP hD hS => ?_)
    refine lv_aload_n hx hb dX1_beginLook_21 rfl (lv_at hl 0 rfl) ?_
    refine lv_iload_n hx hb dX1_beginLook_22 rfl (lv_at hl 1 rfl) ?_
    refine lv_iconst (v := 5) hx hb dX1_beginLook_23 (by decide) ?_
    refine lv_aload_n hx hb dX1_beginLook_24 rfl (lv_at hl 0 rfl) ?_
    refine va_get (D := D) (ci := 1) (v := .int o_lookLength) (C := RX1) (T := TX1) (N := 5) hx hb hts f_inX1 hown hK hP 0 rfl rfl 1 (by decide) f_f15 (fun _ h9 => h9) rfl dX1_beginLook_25 ?_
    obtain ⟨o7, h8, hF⟩ := bn1_o hF
    refine kd_v [(q_o, .inr (1, [x_o_viewers, .int o_lookLength, x_o_time, .ref q_o_lookers, .ref q_o_facts])), (q_o_lookers, .inl (cy 0, 4, .inl b2)), (q_o_facts, .inl (cy 0, 140, .inl o7))] (va_runV (As := [.int p1, .int (5 : Int32), .int o_lookLength]) (rest := []) ⟨hx, hb, hml, hown, hts⟩ (c_X1_set q_o q_o_facts H.size x_o_viewers (.int o_lookLength) x_o_time (.ref q_o_lookers) o5 p1 (5 : Int32) o_lookLength _ h8) (cwV 3 hts gX1_beginLook_X1_set rfl rfl rfl kd_X1_set ⟨Nat.le_of_ble_eq_true rfl, Nat.le_of_ble_eq_true rfl⟩) ⟨kP_blind (EN_ok D cy) D _ _ _, va_recv hK hP (ci := 1) (q0 := 0) rfl rfl, kStart (EN_ok D cy) hE hP hD hS hA [0, 2] rfl rfl _⟩ rfl rfl hl.1 rfl (lv_room (Nat.le_of_ble_eq_true rfl)) dX1_beginLook_28 ⟨Nat.zero_le _, Nat.zero_le _⟩) hP hD hS hA [0, 2] [1] rfl rfl rfl 3 rfl (by decide +kernel) (fun H locs hP hD hS => ?_)
    obtain rfl := so_o hF
    rw [hQQ]
    exact kr_v hx hb hr hlocks hP hD hS dX1_beginLook_31
  exact main s.heap [] ls hP hD hS hl
theorem kd_X1_choose : yX1_choose.cls = RX1 ∧ yX1_choose.cls ≠ "java/lang/invoke/MethodHandle" ∧ yX1_choose.cls ≠ "java/lang/invoke/VarHandle" ∧ (parseMethodDescriptor yX1_choose.desc).map (fun d => d.parameters.length) = some 3 := by decide +kernel
set_option maxHeartbeats 4000000 in
set_option maxRecDepth 100000 in
theorem c_X1_choose {l : Launch} {D : va_G} {cy : Nat → ClassId} (q_o q_o_lookers q_o_facts q_p2 q_p2_holeY q_p2_price q_p2_price_codes q_p2_price_waiting q_p3 q_p3_counts q_p3_kinds q_p3_depths q_p3_prices : Nat) (sz : Nat) (x_o_viewers x_o_time x_p2_width x_p2_planes x_p2_cells x_p2_pulls x_p2_holeX x_p3_seen : Value) (o_lookLength : Int32) (o_lookers : Nat → Int32) (o_facts : Nat → Int32) (p2_height : Int32) (p2_holes : Int32) (p2_reach : Int32) (p2_holeY : Nat → Int32) (p2_price_size : Int32) (p2_price_codes : Nat → Int32) (p2_price_waiting : Nat → Int32) (p3_counts : Nat → Int32) (p3_kinds : Nat → Int32) (p3_depths : Nat → Int32) (p3_prices : Nat → Int32) (p1 : Int32) (res : (Nat → Int32) × (Nat → Int32) × (Nat → Int32) × (Nat → Int32)) (hF : X1_choose o_lookLength o_lookers o_facts p2_height p2_holes p2_reach p2_holeY p2_price_size p2_price_codes p2_price_waiting p3_counts p3_kinds p3_depths p3_prices p1 = some res) : Met l yX1_choose wsX1_choose ({ frames := 5, cells := 0, slots := 0, locals := 129 } : Room) (kP (EN D cy) D [.ref q_o, .int p1, .ref q_p2, .ref q_p3] [(q_o, .inr (1, [x_o_viewers, .int o_lookLength, x_o_time, .ref q_o_lookers, .ref q_o_facts])), (q_o_lookers, .inl (cy 0, 4, .inl o_lookers)), (q_o_facts, .inl (cy 0, 140, .inl o_facts)), (q_p2, .inr (0, [x_p2_width, .int p2_height, x_p2_planes, .int p2_holes, .int p2_reach, x_p2_cells, x_p2_pulls, x_p2_holeX, .ref q_p2_holeY, .ref q_p2_price])), (q_p2_holeY, .inl (cy 0, 4, .inl p2_holeY)), (q_p2_price, .inr (2, [.ref q_p2_price_codes, .int p2_price_size, .ref q_p2_price_waiting])), (q_p2_price_codes, .inl (cy 0, 800, .inl p2_price_codes)), (q_p2_price_waiting, .inl (cy 0, 16, .inl p2_price_waiting)), (q_p3, .inr (5, [x_p3_seen, .ref q_p3_counts, .ref q_p3_kinds, .ref q_p3_depths, .ref q_p3_prices])), (q_p3_counts, .inl (cy 0, 104, .inl p3_counts)), (q_p3_kinds, .inl (cy 0, 4, .inl p3_kinds)), (q_p3_depths, .inl (cy 0, 4, .inl p3_depths)), (q_p3_prices, .inl (cy 0, 104, .inl p3_prices))] sz) (kQv D [(q_o, .inr (1, [x_o_viewers, .int o_lookLength, x_o_time, .ref q_o_lookers, .ref q_o_facts])), (q_o_lookers, .inl (cy 0, 4, .inl res.1)), (q_o_facts, .inl (cy 0, 140, .inl res.2.1)), (q_p2, .inr (0, [x_p2_width, .int p2_height, x_p2_planes, .int p2_holes, .int p2_reach, x_p2_cells, x_p2_pulls, x_p2_holeX, .ref q_p2_holeY, .ref q_p2_price])), (q_p2_holeY, .inl (cy 0, 4, .inl p2_holeY)), (q_p2_price, .inr (2, [.ref q_p2_price_codes, .int p2_price_size, .ref q_p2_price_waiting])), (q_p2_price_codes, .inl (cy 0, 800, .inl p2_price_codes)), (q_p2_price_waiting, .inl (cy 0, 16, .inl res.2.2.1)), (q_p3, .inr (5, [x_p3_seen, .ref q_p3_counts, .ref q_p3_kinds, .ref q_p3_depths, .ref q_p3_prices])), (q_p3_counts, .inl (cy 0, 104, .inl p3_counts)), (q_p3_kinds, .inl (cy 0, 4, .inl p3_kinds)), (q_p3_depths, .inl (cy 0, 4, .inl p3_depths)), (q_p3_prices, .inl (cy 0, 104, .inl res.2.2.2))] (va_A [(q_o, .inr (1, [x_o_viewers, .int o_lookLength, x_o_time, .ref q_o_lookers, .ref q_o_facts])), (q_o_lookers, .inl (cy 0, 4, .inl o_lookers)), (q_o_facts, .inl (cy 0, 140, .inl o_facts)), (q_p2, .inr (0, [x_p2_width, .int p2_height, x_p2_planes, .int p2_holes, .int p2_reach, x_p2_cells, x_p2_pulls, x_p2_holeX, .ref q_p2_holeY, .ref q_p2_price])), (q_p2_holeY, .inl (cy 0, 4, .inl p2_holeY)), (q_p2_price, .inr (2, [.ref q_p2_price_codes, .int p2_price_size, .ref q_p2_price_waiting])), (q_p2_price_codes, .inl (cy 0, 800, .inl p2_price_codes)), (q_p2_price_waiting, .inl (cy 0, 16, .inl p2_price_waiting)), (q_p3, .inr (5, [x_p3_seen, .ref q_p3_counts, .ref q_p3_kinds, .ref q_p3_depths, .ref q_p3_prices])), (q_p3_counts, .inl (cy 0, 104, .inl p3_counts)), (q_p3_kinds, .inl (cy 0, 4, .inl p3_kinds)), (q_p3_depths, .inl (cy 0, 4, .inl p3_depths)), (q_p3_prices, .inl (cy 0, 104, .inl p3_prices))] sz)) 0 0 (va_A [(q_o, .inr (1, [x_o_viewers, .int o_lookLength, x_o_time, .ref q_o_lookers, .ref q_o_facts])), (q_o_lookers, .inl (cy 0, 4, .inl o_lookers)), (q_o_facts, .inl (cy 0, 140, .inl o_facts)), (q_p2, .inr (0, [x_p2_width, .int p2_height, x_p2_planes, .int p2_holes, .int p2_reach, x_p2_cells, x_p2_pulls, x_p2_holeX, .ref q_p2_holeY, .ref q_p2_price])), (q_p2_holeY, .inl (cy 0, 4, .inl p2_holeY)), (q_p2_price, .inr (2, [.ref q_p2_price_codes, .int p2_price_size, .ref q_p2_price_waiting])), (q_p2_price_codes, .inl (cy 0, 800, .inl p2_price_codes)), (q_p2_price_waiting, .inl (cy 0, 16, .inl p2_price_waiting)), (q_p3, .inr (5, [x_p3_seen, .ref q_p3_counts, .ref q_p3_kinds, .ref q_p3_depths, .ref q_p3_prices])), (q_p3_counts, .inl (cy 0, 104, .inl p3_counts)), (q_p3_kinds, .inl (cy 0, 4, .inl p3_kinds)), (q_p3_depths, .inl (cy 0, 4, .inl p3_depths)), (q_p3_prices, .inl (cy 0, 104, .inl p3_prices))] sz) := by
  refine kMet (y := yX1_choose) (av := [.ref q_o, .int p1, .ref q_p2, .ref q_p3]) (cc := cX1_choose) (maxL := 10) (ret := none) (own := RX1) (Qc := fun A9 => (kQv D [(q_o, .inr (1, [x_o_viewers, .int o_lookLength, x_o_time, .ref q_o_lookers, .ref q_o_facts])), (q_o_lookers, .inl (cy 0, 4, .inl res.1)), (q_o_facts, .inl (cy 0, 140, .inl res.2.1)), (q_p2, .inr (0, [x_p2_width, .int p2_height, x_p2_planes, .int p2_holes, .int p2_reach, x_p2_cells, x_p2_pulls, x_p2_holeX, .ref q_p2_holeY, .ref q_p2_price])), (q_p2_holeY, .inl (cy 0, 4, .inl p2_holeY)), (q_p2_price, .inr (2, [.ref q_p2_price_codes, .int p2_price_size, .ref q_p2_price_waiting])), (q_p2_price_codes, .inl (cy 0, 800, .inl p2_price_codes)), (q_p2_price_waiting, .inl (cy 0, 16, .inl res.2.2.1)), (q_p3, .inr (5, [x_p3_seen, .ref q_p3_counts, .ref q_p3_kinds, .ref q_p3_depths, .ref q_p3_prices])), (q_p3_counts, .inl (cy 0, 104, .inl p3_counts)), (q_p3_kinds, .inl (cy 0, 4, .inl p3_kinds)), (q_p3_depths, .inl (cy 0, 4, .inl p3_depths)), (q_p3_prices, .inl (cy 0, 104, .inl res.2.2.2))] A9)) (by decide) rfl rfl (Nat.le_of_ble_eq_true rfl) ?_
  intro p e s m args below meth c A hx hb hr hts hown hml hlocks hname hE hP hD hA hsz ls hl
  have hK := hE.1
  have hl : lv_has ls 10 [(0, .ref q_o), (1, .int p1), (2, .ref q_p2), (3, .ref q_p3)] := hl
  have hS : va_S A s.heap s.heap [] := va_S.rf
  have f_f78 := hts (.fieldLink RX1 78 "PeepBox$Box" "holes" "I") (by decide +kernel)
  have f_inX0 : ∀ w ∈ wsX00, w ∈ wsX1_choose := by decide +kernel
  have f_f87 := hts (.fieldLink RX1 87 "PeepBox$View" "counts" "[I") (by decide +kernel)
  have f_inX5 : ∀ w ∈ wsX50, w ∈ wsX1_choose := by decide +kernel
  have f_f21 := hts (.fieldLink RX1 21 "PeepBox$Crowd" "lookers" "[I") (by decide +kernel)
  have f_inX1 : ∀ w ∈ wsX10, w ∈ wsX1_choose := by decide +kernel
  obtain ⟨QQ, hQQ⟩ : ∃ Q9, Q9 = MQ below (kQv D [(q_o, .inr (1, [x_o_viewers, .int o_lookLength, x_o_time, .ref q_o_lookers, .ref q_o_facts])), (q_o_lookers, .inl (cy 0, 4, .inl res.1)), (q_o_facts, .inl (cy 0, 140, .inl res.2.1)), (q_p2, .inr (0, [x_p2_width, .int p2_height, x_p2_planes, .int p2_holes, .int p2_reach, x_p2_cells, x_p2_pulls, x_p2_holeX, .ref q_p2_holeY, .ref q_p2_price])), (q_p2_holeY, .inl (cy 0, 4, .inl p2_holeY)), (q_p2_price, .inr (2, [.ref q_p2_price_codes, .int p2_price_size, .ref q_p2_price_waiting])), (q_p2_price_codes, .inl (cy 0, 800, .inl p2_price_codes)), (q_p2_price_waiting, .inl (cy 0, 16, .inl res.2.2.1)), (q_p3, .inr (5, [x_p3_seen, .ref q_p3_counts, .ref q_p3_kinds, .ref q_p3_depths, .ref q_p3_prices])), (q_p3_counts, .inl (cy 0, 104, .inl p3_counts)), (q_p3_kinds, .inl (cy 0, 4, .inl p3_kinds)), (q_p3_depths, .inl (cy 0, 4, .inl p3_depths)), (q_p3_prices, .inl (cy 0, 104, .inl res.2.2.2))] A) args s 0 0 A := ⟨_, rfl⟩
  rw [← hQQ]
  have J20 : ∀ (n20 : Nat) (l4 : Int32) (l5 : Int32) (l6 : Int32) (l7 : Int32) (l8 : Int32) (p2_price_waiting : Nat → Int32) (p3_prices : Nat → Int32) (H : Heap) (locs : List Loc) (ls : Array Slot), va_P D vwCl [(q_o, .inr (1, [x_o_viewers, .int o_lookLength, x_o_time, .ref q_o_lookers, .ref q_o_facts])), (q_o_lookers, .inl (cy 0, 4, .inl o_lookers)), (q_o_facts, .inl (cy 0, 140, .inl o_facts)), (q_p2, .inr (0, [x_p2_width, .int p2_height, x_p2_planes, .int p2_holes, .int p2_reach, x_p2_cells, x_p2_pulls, x_p2_holeX, .ref q_p2_holeY, .ref q_p2_price])), (q_p2_holeY, .inl (cy 0, 4, .inl p2_holeY)), (q_p2_price, .inr (2, [.ref q_p2_price_codes, .int p2_price_size, .ref q_p2_price_waiting])), (q_p2_price_codes, .inl (cy 0, 800, .inl p2_price_codes)), (q_p2_price_waiting, .inl (cy 0, 16, .inl p2_price_waiting)), (q_p3, .inr (5, [x_p3_seen, .ref q_p3_counts, .ref q_p3_kinds, .ref q_p3_depths, .ref q_p3_prices])), (q_p3_counts, .inl (cy 0, 104, .inl p3_counts)), (q_p3_kinds, .inl (cy 0, 4, .inl p3_kinds)), (q_p3_depths, .inl (cy 0, 4, .inl p3_depths)), (q_p3_prices, .inl (cy 0, 104, .inl p3_prices))] H → va_D A [(q_o, .inr (1, [x_o_viewers, .int o_lookLength, x_o_time, .ref q_o_lookers, .ref q_o_facts])), (q_o_lookers, .inl (cy 0, 4, .inl o_lookers)), (q_o_facts, .inl (cy 0, 140, .inl o_facts)), (q_p2, .inr (0, [x_p2_width, .int p2_height, x_p2_planes, .int p2_holes, .int p2_reach, x_p2_cells, x_p2_pulls, x_p2_holeX, .ref q_p2_holeY, .ref q_p2_price])), (q_p2_holeY, .inl (cy 0, 4, .inl p2_holeY)), (q_p2_price, .inr (2, [.ref q_p2_price_codes, .int p2_price_size, .ref q_p2_price_waiting])), (q_p2_price_codes, .inl (cy 0, 800, .inl p2_price_codes)), (q_p2_price_waiting, .inl (cy 0, 16, .inl p2_price_waiting)), (q_p3, .inr (5, [x_p3_seen, .ref q_p3_counts, .ref q_p3_kinds, .ref q_p3_depths, .ref q_p3_prices])), (q_p3_counts, .inl (cy 0, 104, .inl p3_counts)), (q_p3_kinds, .inl (cy 0, 4, .inl p3_kinds)), (q_p3_depths, .inl (cy 0, 4, .inl p3_depths)), (q_p3_prices, .inl (cy 0, 104, .inl p3_prices))] → va_S A s.heap H locs → lv_has ls 10 [(0, .ref q_o), (1, .int p1), (2, .ref q_p2), (3, .ref q_p3), (4, .int l4), (5, .int l5), (6, .int l6), (7, .int l7), (8, .int l8)] → X1_choose_L20 o_lookLength o_lookers o_facts p2_height p2_holes p2_reach p2_holeY p2_price_size p2_price_codes p3_counts p3_kinds p3_depths p1 n20 l4 l5 l6 l7 l8 p2_price_waiting p3_prices = some res → W p l e ({ frames := 5, cells := 0, slots := 0, locals := 129 } : Room) s m args below meth c H locs 0 0 QQ (F0 m 20 ls []) := by
    intro n20
    induction n20 with
    | zero =>
      intro l4 l5 l6 l7 l8 p2_price_waiting p3_prices H locs ls hP hD hS hl hF
      rw [X1_choose_L20] at hF
      cases hF
    | succ n20 ih20 =>
      have J106 : ∀ (l4 : Int32) (l5 : Int32) (l6 : Int32) (l7 : Int32) (l8 : Int32) (p2_price_waiting : Nat → Int32) (p3_prices : Nat → Int32) (H : Heap) (locs : List Loc) (ls : Array Slot), va_P D vwCl [(q_o, .inr (1, [x_o_viewers, .int o_lookLength, x_o_time, .ref q_o_lookers, .ref q_o_facts])), (q_o_lookers, .inl (cy 0, 4, .inl o_lookers)), (q_o_facts, .inl (cy 0, 140, .inl o_facts)), (q_p2, .inr (0, [x_p2_width, .int p2_height, x_p2_planes, .int p2_holes, .int p2_reach, x_p2_cells, x_p2_pulls, x_p2_holeX, .ref q_p2_holeY, .ref q_p2_price])), (q_p2_holeY, .inl (cy 0, 4, .inl p2_holeY)), (q_p2_price, .inr (2, [.ref q_p2_price_codes, .int p2_price_size, .ref q_p2_price_waiting])), (q_p2_price_codes, .inl (cy 0, 800, .inl p2_price_codes)), (q_p2_price_waiting, .inl (cy 0, 16, .inl p2_price_waiting)), (q_p3, .inr (5, [x_p3_seen, .ref q_p3_counts, .ref q_p3_kinds, .ref q_p3_depths, .ref q_p3_prices])), (q_p3_counts, .inl (cy 0, 104, .inl p3_counts)), (q_p3_kinds, .inl (cy 0, 4, .inl p3_kinds)), (q_p3_depths, .inl (cy 0, 4, .inl p3_depths)), (q_p3_prices, .inl (cy 0, 104, .inl p3_prices))] H → va_D A [(q_o, .inr (1, [x_o_viewers, .int o_lookLength, x_o_time, .ref q_o_lookers, .ref q_o_facts])), (q_o_lookers, .inl (cy 0, 4, .inl o_lookers)), (q_o_facts, .inl (cy 0, 140, .inl o_facts)), (q_p2, .inr (0, [x_p2_width, .int p2_height, x_p2_planes, .int p2_holes, .int p2_reach, x_p2_cells, x_p2_pulls, x_p2_holeX, .ref q_p2_holeY, .ref q_p2_price])), (q_p2_holeY, .inl (cy 0, 4, .inl p2_holeY)), (q_p2_price, .inr (2, [.ref q_p2_price_codes, .int p2_price_size, .ref q_p2_price_waiting])), (q_p2_price_codes, .inl (cy 0, 800, .inl p2_price_codes)), (q_p2_price_waiting, .inl (cy 0, 16, .inl p2_price_waiting)), (q_p3, .inr (5, [x_p3_seen, .ref q_p3_counts, .ref q_p3_kinds, .ref q_p3_depths, .ref q_p3_prices])), (q_p3_counts, .inl (cy 0, 104, .inl p3_counts)), (q_p3_kinds, .inl (cy 0, 4, .inl p3_kinds)), (q_p3_depths, .inl (cy 0, 4, .inl p3_depths)), (q_p3_prices, .inl (cy 0, 104, .inl p3_prices))] → va_S A s.heap H locs → lv_has ls 10 [(0, .ref q_o), (1, .int p1), (2, .ref q_p2), (3, .ref q_p3), (4, .int l4), (5, .int l5), (6, .int l6), (7, .int l7), (8, .int l8)] → X1_choose_J106 o_lookLength o_lookers o_facts p2_height p2_holes p2_reach p2_holeY p2_price_size p2_price_codes p3_counts p3_kinds p3_depths p1 (fun z0 z1 z2 z3 z4 z5 z6 => X1_choose_L20 o_lookLength o_lookers o_facts p2_height p2_holes p2_reach p2_holeY p2_price_size p2_price_codes p3_counts p3_kinds p3_depths p1 n20 z0 z1 z2 z3 z4 z5 z6) l4 l5 l6 l7 l8 p2_price_waiting p3_prices = some res → W p l e ({ frames := 5, cells := 0, slots := 0, locals := 129 } : Room) s m args below meth c H locs 0 0 QQ (F0 m 106 ls []) := by
        intro l4 l5 l6 l7 l8 p2_price_waiting p3_prices H locs ls hP hD hS hl hF
        unfold X1_choose_J106 at hF
        obtain ⟨v1, ev1⟩ : ∃ y : Int32, y = l8 + (1 : Int32) := ⟨_, rfl⟩
        have hF := nm_o hF v1 ev1
        refine lv_iinc (v := v1) (lv' := [(8, .int v1), (0, .ref q_o), (1, .int p1), (2, .ref q_p2), (3, .ref q_p3), (4, .int l4), (5, .int l5), (6, .int l6), (7, .int l7)]) hx hb dX1_choose_106 hl (k := 8) rfl (by rw [ev1]; rfl) (by decide) rfl (fun ls hl => ?_)
        refine lv_goto (tgt := 20) hx hb dX1_choose_109 (by decide) ?_
        exact ih20 l4 l5 l6 l7 v1 p2_price_waiting p3_prices H locs ls hP hD hS (lv_sub hl [1, 2, 3, 4, 5, 6, 7, 8, 0] rfl) hF
      intro l4 l5 l6 l7 l8 p2_price_waiting p3_prices H locs ls hP hD hS hl hF
      rw [X1_choose_L20] at hF
      refine lv_iload hx hb dX1_choose_20 (lv_at hl 8 rfl) ?_
      refine lv_aload_n hx hb dX1_choose_22 rfl (lv_at hl 2 rfl) ?_
      refine va_get (D := D) (ci := 0) (v := .int p2_holes) (C := RX0) (T := TX0) (N := 10) hx hb hts f_inX0 hown hK hP 3 rfl rfl 3 (by decide) f_f78 (fun _ h9 => h9) rfl dX1_choose_23 ?_
      refine lv_icmp_ge (tgt := 112) hx hb dX1_choose_26 (by decide) (fun c2 => ?_) (fun c2 => ?_)
      · have hF := if_p hF c2
        refine lv_iload hx hb dX1_choose_112 (lv_at hl 5 rfl) ?_
        refine lv_if_ne (tgt := 126) hx hb dX1_choose_114 (by decide) (fun c3 => ?_) (fun c3 => ?_)
        · have hF := if_n hF c3
          refine lv_iload hx hb dX1_choose_126 (lv_at hl 6 rfl) ?_
          refine lv_if_lt (tgt := 138) hx hb dX1_choose_128 (by decide) (fun c4 => ?_) (fun c4 => ?_)
          · have hF := if_p hF c4
            obtain rfl := so_o hF
            rw [hQQ]
            exact kr_v hx hb hr hlocks hP hD hS dX1_choose_138
          · have hF := if_n hF c4
            refine lv_aload_n hx hb dX1_choose_131 rfl (lv_at hl 0 rfl) ?_
            refine lv_iload_n hx hb dX1_choose_132 rfl (lv_at hl 1 rfl) ?_
            refine lv_iload hx hb dX1_choose_133 (lv_at hl 6 rfl) ?_
            obtain ⟨o5, o6, h7, hF⟩ := bn2_o hF
            refine kd_v [(q_o, .inr (1, [x_o_viewers, .int o_lookLength, x_o_time, .ref q_o_lookers, .ref q_o_facts])), (q_o_lookers, .inl (cy 0, 4, .inl o5)), (q_o_facts, .inl (cy 0, 140, .inl o6)), (q_p2, .inr (0, [x_p2_width, .int p2_height, x_p2_planes, .int p2_holes, .int p2_reach, x_p2_cells, x_p2_pulls, x_p2_holeX, .ref q_p2_holeY, .ref q_p2_price])), (q_p2_holeY, .inl (cy 0, 4, .inl p2_holeY)), (q_p2_price, .inr (2, [.ref q_p2_price_codes, .int p2_price_size, .ref q_p2_price_waiting])), (q_p2_price_codes, .inl (cy 0, 800, .inl p2_price_codes)), (q_p2_price_waiting, .inl (cy 0, 16, .inl p2_price_waiting)), (q_p3, .inr (5, [x_p3_seen, .ref q_p3_counts, .ref q_p3_kinds, .ref q_p3_depths, .ref q_p3_prices])), (q_p3_counts, .inl (cy 0, 104, .inl p3_counts)), (q_p3_kinds, .inl (cy 0, 4, .inl p3_kinds)), (q_p3_depths, .inl (cy 0, 4, .inl p3_depths)), (q_p3_prices, .inl (cy 0, 104, .inl p3_prices))] (va_runV (As := [.int p1, .int l6]) (rest := []) ⟨hx, hb, hml, hown, hts⟩ (c_X1_beginLook q_o q_o_lookers q_o_facts H.size x_o_viewers x_o_time o_lookLength o_lookers o_facts p1 l6 _ h7) (cwV 2 hts gX1_choose_X1_beginLook rfl rfl rfl kd_X1_beginLook ⟨Nat.le_of_ble_eq_true rfl, Nat.le_of_ble_eq_true rfl⟩) ⟨kP_blind (EN_ok D cy) D _ _ _, va_recv hK hP (ci := 1) (q0 := 0) rfl rfl, kStart (EN_ok D cy) hE hP hD hS hA [0, 1, 2] rfl rfl _⟩ rfl rfl hl.1 rfl (lv_room (Nat.le_of_ble_eq_true rfl)) dX1_choose_135 ⟨Nat.zero_le _, Nat.zero_le _⟩) hP hD hS hA [0, 1, 2] [3, 4, 5, 6, 7, 8, 9, 10, 11, 12] rfl rfl rfl 13 rfl (by decide +kernel) (fun H locs hP hD hS => ?_)
            obtain rfl := so_o hF
            rw [hQQ]
            exact kr_v hx hb hr hlocks hP hD hS dX1_choose_138
        · have hF := if_p hF c3
          refine lv_aload_n hx hb dX1_choose_117 rfl (lv_at hl 0 rfl) ?_
          refine lv_iload_n hx hb dX1_choose_118 rfl (lv_at hl 1 rfl) ?_
          refine lv_iconst (v := 3) hx hb dX1_choose_119 (by decide) ?_
          obtain ⟨o8, h9, hF⟩ := bn1_o hF
          refine kd_v [(q_o, .inr (1, [x_o_viewers, .int o_lookLength, x_o_time, .ref q_o_lookers, .ref q_o_facts])), (q_o_lookers, .inl (cy 0, 4, .inl o_lookers)), (q_o_facts, .inl (cy 0, 140, .inl o8)), (q_p2, .inr (0, [x_p2_width, .int p2_height, x_p2_planes, .int p2_holes, .int p2_reach, x_p2_cells, x_p2_pulls, x_p2_holeX, .ref q_p2_holeY, .ref q_p2_price])), (q_p2_holeY, .inl (cy 0, 4, .inl p2_holeY)), (q_p2_price, .inr (2, [.ref q_p2_price_codes, .int p2_price_size, .ref q_p2_price_waiting])), (q_p2_price_codes, .inl (cy 0, 800, .inl p2_price_codes)), (q_p2_price_waiting, .inl (cy 0, 16, .inl p2_price_waiting)), (q_p3, .inr (5, [x_p3_seen, .ref q_p3_counts, .ref q_p3_kinds, .ref q_p3_depths, .ref q_p3_prices])), (q_p3_counts, .inl (cy 0, 104, .inl p3_counts)), (q_p3_kinds, .inl (cy 0, 4, .inl p3_kinds)), (q_p3_depths, .inl (cy 0, 4, .inl p3_depths)), (q_p3_prices, .inl (cy 0, 104, .inl p3_prices))] (va_runV (As := [.int p1, .int (3 : Int32)]) (rest := []) ⟨hx, hb, hml, hown, hts⟩ (c_X1_endLook q_o q_o_facts H.size x_o_viewers (.int o_lookLength) x_o_time (.ref q_o_lookers) o_facts p1 (3 : Int32) _ h9) (cwV 2 hts gX1_choose_X1_endLook rfl rfl rfl kd_X1_endLook ⟨Nat.le_of_ble_eq_true rfl, Nat.le_of_ble_eq_true rfl⟩) ⟨kP_blind (EN_ok D cy) D _ _ _, va_recv hK hP (ci := 1) (q0 := 0) rfl rfl, kStart (EN_ok D cy) hE hP hD hS hA [0, 2] rfl rfl _⟩ rfl rfl hl.1 rfl (lv_room (Nat.le_of_ble_eq_true rfl)) dX1_choose_120 ⟨Nat.zero_le _, Nat.zero_le _⟩) hP hD hS hA [0, 2] [1, 3, 4, 5, 6, 7, 8, 9, 10, 11, 12] rfl rfl rfl 13 rfl (by decide +kernel) (fun H locs hP hD hS => ?_)
          refine lv_goto (tgt := 138) hx hb dX1_choose_123 (by decide) ?_
          obtain rfl := so_o hF
          rw [hQQ]
          exact kr_v hx hb hr hlocks hP hD hS dX1_choose_138
      · have hF := if_n hF c2
        refine lv_aload_n hx hb dX1_choose_29 rfl (lv_at hl 2 rfl) ?_
        refine lv_aload_n hx hb dX1_choose_30 rfl (lv_at hl 0 rfl) ?_
        refine lv_iload_n hx hb dX1_choose_31 rfl (lv_at hl 1 rfl) ?_
        refine lv_iconst (v := 0) hx hb dX1_choose_32 (by decide) ?_
        obtain ⟨r10, h11, hF⟩ := bn1_o hF
        refine kd_i [(q_o, .inr (1, [x_o_viewers, .int o_lookLength, x_o_time, .ref q_o_lookers, .ref q_o_facts])), (q_o_lookers, .inl (cy 0, 4, .inl o_lookers)), (q_o_facts, .inl (cy 0, 140, .inl o_facts)), (q_p2, .inr (0, [x_p2_width, .int p2_height, x_p2_planes, .int p2_holes, .int p2_reach, x_p2_cells, x_p2_pulls, x_p2_holeX, .ref q_p2_holeY, .ref q_p2_price])), (q_p2_holeY, .inl (cy 0, 4, .inl p2_holeY)), (q_p2_price, .inr (2, [.ref q_p2_price_codes, .int p2_price_size, .ref q_p2_price_waiting])), (q_p2_price_codes, .inl (cy 0, 800, .inl p2_price_codes)), (q_p2_price_waiting, .inl (cy 0, 16, .inl p2_price_waiting)), (q_p3, .inr (5, [x_p3_seen, .ref q_p3_counts, .ref q_p3_kinds, .ref q_p3_depths, .ref q_p3_prices])), (q_p3_counts, .inl (cy 0, 104, .inl p3_counts)), (q_p3_kinds, .inl (cy 0, 4, .inl p3_kinds)), (q_p3_depths, .inl (cy 0, 4, .inl p3_depths)), (q_p3_prices, .inl (cy 0, 104, .inl p3_prices))] (va_runV (As := [.int p1, .int (0 : Int32)]) (rest := [.ref q_p2]) ⟨hx, hb, hml, hown, hts⟩ (c_X1_fact q_o q_o_facts H.size x_o_viewers (.int o_lookLength) x_o_time (.ref q_o_lookers) o_facts p1 (0 : Int32) _ h11) (cwV 2 hts gX1_choose_X1_fact rfl rfl rfl kd_X1_fact ⟨Nat.le_of_ble_eq_true rfl, Nat.le_of_ble_eq_true rfl⟩) ⟨kP_blind (EN_ok D cy) D _ _ _, va_recv hK hP (ci := 1) (q0 := 0) rfl rfl, kStart (EN_ok D cy) hE hP hD hS hA [0, 2] rfl rfl _⟩ rfl rfl hl.1 rfl (lv_room (Nat.le_of_ble_eq_true rfl)) dX1_choose_33 ⟨Nat.zero_le _, Nat.zero_le _⟩) hP hD hS hA [0, 2] [1, 3, 4, 5, 6, 7, 8, 9, 10, 11, 12] rfl rfl rfl 13 rfl (by decide +kernel) (fun H locs hP hD hS => ?_)
        refine lv_iload hx hb dX1_choose_36 (lv_at hl 8 rfl) ?_
        obtain ⟨r12, h13, hF⟩ := bn1_o hF
        refine kd_i [(q_o, .inr (1, [x_o_viewers, .int o_lookLength, x_o_time, .ref q_o_lookers, .ref q_o_facts])), (q_o_lookers, .inl (cy 0, 4, .inl o_lookers)), (q_o_facts, .inl (cy 0, 140, .inl o_facts)), (q_p2, .inr (0, [x_p2_width, .int p2_height, x_p2_planes, .int p2_holes, .int p2_reach, x_p2_cells, x_p2_pulls, x_p2_holeX, .ref q_p2_holeY, .ref q_p2_price])), (q_p2_holeY, .inl (cy 0, 4, .inl p2_holeY)), (q_p2_price, .inr (2, [.ref q_p2_price_codes, .int p2_price_size, .ref q_p2_price_waiting])), (q_p2_price_codes, .inl (cy 0, 800, .inl p2_price_codes)), (q_p2_price_waiting, .inl (cy 0, 16, .inl p2_price_waiting)), (q_p3, .inr (5, [x_p3_seen, .ref q_p3_counts, .ref q_p3_kinds, .ref q_p3_depths, .ref q_p3_prices])), (q_p3_counts, .inl (cy 0, 104, .inl p3_counts)), (q_p3_kinds, .inl (cy 0, 4, .inl p3_kinds)), (q_p3_depths, .inl (cy 0, 4, .inl p3_depths)), (q_p3_prices, .inl (cy 0, 104, .inl p3_prices))] (va_runV (As := [.int r10, .int l8]) (rest := []) ⟨hx, hb, hml, hown, hts⟩ (c_X0_canUse q_p2 q_p2_holeY H.size x_p2_width x_p2_planes (.int p2_holes) x_p2_cells x_p2_pulls x_p2_holeX (.ref q_p2_price) p2_height p2_reach p2_holeY r10 l8 _ h13) (cwV 2 hts gX1_choose_X0_canUse rfl rfl rfl kd_X0_canUse ⟨Nat.le_of_ble_eq_true rfl, Nat.le_of_ble_eq_true rfl⟩) ⟨kP_blind (EN_ok D cy) D _ _ _, va_recv hK hP (ci := 0) (q0 := 3) rfl rfl, kStart (EN_ok D cy) hE hP hD hS hA [3, 4] rfl rfl _⟩ rfl rfl hl.1 rfl (lv_room (Nat.le_of_ble_eq_true rfl)) dX1_choose_38 ⟨Nat.zero_le _, Nat.zero_le _⟩) hP hD hS hA [3, 4] [0, 1, 2, 5, 6, 7, 8, 9, 10, 11, 12] rfl rfl rfl 13 rfl (by decide +kernel) (fun H locs hP hD hS => ?_)
        refine lv_if_eq (tgt := 106) hx hb dX1_choose_41 (by decide) (fun c14 => ?_) (fun c14 => ?_)
        · have hF := if_p hF c14
          exact J106 l4 l5 l6 l7 l8 p2_price_waiting p3_prices H locs ls hP hD hS (lv_sub hl [0, 1, 2, 3, 4, 5, 6, 7, 8] rfl) hF
        · have hF := if_n hF c14
          refine lv_aload_n hx hb dX1_choose_44 rfl (lv_at hl 3 rfl) ?_
          refine lv_aload_n hx hb dX1_choose_45 rfl (lv_at hl 2 rfl) ?_
          refine lv_iload hx hb dX1_choose_46 (lv_at hl 4 rfl) ?_
          refine lv_iload hx hb dX1_choose_48 (lv_at hl 8 rfl) ?_
          obtain ⟨r15, o16, o17, h18, hF⟩ := bn3_o hF
          refine kd_i [(q_o, .inr (1, [x_o_viewers, .int o_lookLength, x_o_time, .ref q_o_lookers, .ref q_o_facts])), (q_o_lookers, .inl (cy 0, 4, .inl o_lookers)), (q_o_facts, .inl (cy 0, 140, .inl o_facts)), (q_p2, .inr (0, [x_p2_width, .int p2_height, x_p2_planes, .int p2_holes, .int p2_reach, x_p2_cells, x_p2_pulls, x_p2_holeX, .ref q_p2_holeY, .ref q_p2_price])), (q_p2_holeY, .inl (cy 0, 4, .inl p2_holeY)), (q_p2_price, .inr (2, [.ref q_p2_price_codes, .int p2_price_size, .ref q_p2_price_waiting])), (q_p2_price_codes, .inl (cy 0, 800, .inl p2_price_codes)), (q_p2_price_waiting, .inl (cy 0, 16, .inl o17)), (q_p3, .inr (5, [x_p3_seen, .ref q_p3_counts, .ref q_p3_kinds, .ref q_p3_depths, .ref q_p3_prices])), (q_p3_counts, .inl (cy 0, 104, .inl p3_counts)), (q_p3_kinds, .inl (cy 0, 4, .inl p3_kinds)), (q_p3_depths, .inl (cy 0, 4, .inl p3_depths)), (q_p3_prices, .inl (cy 0, 104, .inl o16))] (va_runV (As := [.ref q_p2, .int l4, .int l8]) (rest := []) ⟨hx, hb, hml, hown, hts⟩ (c_X5_priceFor q_p3 q_p3_counts q_p3_kinds q_p3_depths q_p3_prices q_p2 q_p2_price q_p2_price_codes q_p2_price_waiting H.size x_p3_seen x_p2_width (.int p2_height) x_p2_planes (.int p2_holes) (.int p2_reach) x_p2_cells x_p2_pulls x_p2_holeX (.ref q_p2_holeY) p3_counts p3_kinds p3_depths p3_prices p2_price_size p2_price_codes p2_price_waiting l4 l8 _ h18) (cwV 3 hts gX1_choose_X5_priceFor rfl rfl rfl kd_X5_priceFor ⟨Nat.le_of_ble_eq_true rfl, Nat.le_of_ble_eq_true rfl⟩) ⟨kP_blind (EN_ok D cy) D _ _ _, va_recv hK hP (ci := 5) (q0 := 8) rfl rfl, kStart (EN_ok D cy) hE hP hD hS hA [8, 9, 10, 11, 12, 3, 5, 6, 7] rfl rfl _⟩ rfl rfl hl.1 rfl (lv_room (Nat.le_of_ble_eq_true rfl)) dX1_choose_50 ⟨Nat.zero_le _, Nat.zero_le _⟩) hP hD hS hA [8, 9, 10, 11, 12, 3, 5, 6, 7] [0, 1, 2, 4] rfl rfl rfl 13 rfl (by decide +kernel) (fun H locs hP hD hS => ?_)
          refine lv_aload_n hx hb dX1_choose_53 rfl (lv_at hl 0 rfl) ?_
          refine lv_iload_n hx hb dX1_choose_54 rfl (lv_at hl 1 rfl) ?_
          refine lv_iconst (v := 2) hx hb dX1_choose_55 (by decide) ?_
          obtain ⟨r19, h20, hF⟩ := bn1_o hF
          refine kd_i [(q_o, .inr (1, [x_o_viewers, .int o_lookLength, x_o_time, .ref q_o_lookers, .ref q_o_facts])), (q_o_lookers, .inl (cy 0, 4, .inl o_lookers)), (q_o_facts, .inl (cy 0, 140, .inl o_facts)), (q_p2, .inr (0, [x_p2_width, .int p2_height, x_p2_planes, .int p2_holes, .int p2_reach, x_p2_cells, x_p2_pulls, x_p2_holeX, .ref q_p2_holeY, .ref q_p2_price])), (q_p2_holeY, .inl (cy 0, 4, .inl p2_holeY)), (q_p2_price, .inr (2, [.ref q_p2_price_codes, .int p2_price_size, .ref q_p2_price_waiting])), (q_p2_price_codes, .inl (cy 0, 800, .inl p2_price_codes)), (q_p2_price_waiting, .inl (cy 0, 16, .inl o17)), (q_p3, .inr (5, [x_p3_seen, .ref q_p3_counts, .ref q_p3_kinds, .ref q_p3_depths, .ref q_p3_prices])), (q_p3_counts, .inl (cy 0, 104, .inl p3_counts)), (q_p3_kinds, .inl (cy 0, 4, .inl p3_kinds)), (q_p3_depths, .inl (cy 0, 4, .inl p3_depths)), (q_p3_prices, .inl (cy 0, 104, .inl o16))] (va_runV (As := [.int p1, .int (2 : Int32)]) (rest := [.int r15]) ⟨hx, hb, hml, hown, hts⟩ (c_X1_fact q_o q_o_facts H.size x_o_viewers (.int o_lookLength) x_o_time (.ref q_o_lookers) o_facts p1 (2 : Int32) _ h20) (cwV 2 hts gX1_choose_X1_fact rfl rfl rfl kd_X1_fact ⟨Nat.le_of_ble_eq_true rfl, Nat.le_of_ble_eq_true rfl⟩) ⟨kP_blind (EN_ok D cy) D _ _ _, va_recv hK hP (ci := 1) (q0 := 0) rfl rfl, kStart (EN_ok D cy) hE hP hD hS hA [0, 2] rfl rfl _⟩ rfl rfl hl.1 rfl (lv_room (Nat.le_of_ble_eq_true rfl)) dX1_choose_56 ⟨Nat.zero_le _, Nat.zero_le _⟩) hP hD hS hA [0, 2] [1, 3, 4, 5, 6, 7, 8, 9, 10, 11, 12] rfl rfl rfl 13 rfl (by decide +kernel) (fun H locs hP hD hS => ?_)
          refine lv_icmp_gt (tgt := 106) hx hb dX1_choose_59 (by decide) (fun c21 => ?_) (fun c21 => ?_)
          · have hF := if_p hF c21
            exact J106 l4 l5 l6 l7 l8 o17 o16 H locs ls hP hD hS (lv_sub hl [0, 1, 2, 3, 4, 5, 6, 7, 8] rfl) hF
          · have hF := if_n hF c21
            refine lv_iconst (v := 1) hx hb dX1_choose_62 (by decide) ?_
            refine lv_istore (lv' := [(5, .int (1 : Int32)), (0, .ref q_o), (1, .int p1), (2, .ref q_p2), (3, .ref q_p3), (4, .int l4), (6, .int l6), (7, .int l7), (8, .int l8)]) hx hb dX1_choose_63 hl (by decide) rfl (fun ls hl => ?_)
            refine lv_aload_n hx hb dX1_choose_65 rfl (lv_at hl 4 rfl) ?_
            refine va_get (D := D) (ci := 5) (v := .ref q_p3_counts) (C := RX5) (T := TX5) (N := 5) hx hb hts f_inX5 hown hK hP 8 rfl rfl 1 (by decide) f_f87 (fun _ h9 => h9) rfl dX1_choose_66 ?_
            refine lv_iload hx hb dX1_choose_69 (lv_at hl 8 rfl) ?_
            refine lv_bipush (v := 26) hx hb dX1_choose_71 (by decide) ?_
            refine lv_imul hx hb dX1_choose_73 ?_
            refine lv_iload hx hb dX1_choose_74 (lv_at hl 5 rfl) ?_
            refine lv_iadd hx hb dX1_choose_76 ?_
            obtain ⟨h22, hF⟩ := ld_o hF
            refine va_iald hx hb hK hP 9 0 rfl rfl h22 dX1_choose_77 ?_
            refine lv_topi (fun v23 ev23 => ?_)
            have hF := hF v23 ev23
            refine lv_istore (lv' := [(9, .int v23), (5, .int (1 : Int32)), (0, .ref q_o), (1, .int p1), (2, .ref q_p2), (3, .ref q_p3), (4, .int l4), (6, .int l6), (7, .int l7), (8, .int l8)]) hx hb dX1_choose_78 hl (by decide) rfl (fun ls hl => ?_)
            refine lv_aload_n hx hb dX1_choose_80 rfl (lv_at hl 2 rfl) ?_
            refine va_get (D := D) (ci := 1) (v := .ref q_o_lookers) (C := RX1) (T := TX1) (N := 5) hx hb hts f_inX1 hown hK hP 0 rfl rfl 3 (by decide) f_f21 (fun _ h9 => h9) rfl dX1_choose_81 ?_
            refine lv_iload hx hb dX1_choose_84 (lv_at hl 9 rfl) ?_
            obtain ⟨h24, hF⟩ := ld_o hF
            refine va_iald hx hb hK hP 1 0 rfl rfl h24 dX1_choose_86 ?_
            refine lv_topi (fun v25 ev25 => ?_)
            have hF := hF v25 ev25
            refine lv_iconst (v := -1) hx hb dX1_choose_87 (by decide) ?_
            refine lv_icmp_ne (tgt := 106) hx hb dX1_choose_88 (by decide) (fun c26 => ?_) (fun c26 => ?_)
            · have hF := if_n hF c26
              exact J106 l4 (1 : Int32) l6 l7 l8 o17 o16 H locs ls hP hD hS (lv_sub hl [2, 3, 4, 5, 6, 1, 7, 8, 9] rfl) hF
            · have hF := if_p hF c26
              refine lv_iload hx hb dX1_choose_91 (lv_at hl 0 rfl) ?_
              refine lv_iload hx hb dX1_choose_93 (lv_at hl 8 rfl) ?_
              refine lv_icmp_le (tgt := 106) hx hb dX1_choose_95 (by decide) (fun c27 => ?_) (fun c27 => ?_)
              · have hF := if_p hF c27
                exact J106 l4 (1 : Int32) l6 l7 l8 o17 o16 H locs ls hP hD hS (lv_sub hl [2, 3, 4, 5, 6, 1, 7, 8, 9] rfl) hF
              · have hF := if_n hF c27
                refine lv_iload hx hb dX1_choose_98 (lv_at hl 0 rfl) ?_
                refine lv_istore (lv' := [(7, .int v23), (9, .int v23), (5, .int (1 : Int32)), (0, .ref q_o), (1, .int p1), (2, .ref q_p2), (3, .ref q_p3), (4, .int l4), (6, .int l6), (8, .int l8)]) hx hb dX1_choose_100 hl (by decide) rfl (fun ls hl => ?_)
                refine lv_iload hx hb dX1_choose_102 (lv_at hl 9 rfl) ?_
                refine lv_istore (lv' := [(6, .int l8), (7, .int v23), (9, .int v23), (5, .int (1 : Int32)), (0, .ref q_o), (1, .int p1), (2, .ref q_p2), (3, .ref q_p3), (4, .int l4), (8, .int l8)]) hx hb dX1_choose_104 hl (by decide) rfl (fun ls hl => ?_)
                exact J106 l4 (1 : Int32) l8 v23 l8 o17 o16 H locs ls hP hD hS (lv_sub hl [4, 5, 6, 7, 8, 3, 0, 1, 9] rfl) hF
  have main : ∀ (H : Heap) (locs : List Loc) (ls : Array Slot), va_P D vwCl [(q_o, .inr (1, [x_o_viewers, .int o_lookLength, x_o_time, .ref q_o_lookers, .ref q_o_facts])), (q_o_lookers, .inl (cy 0, 4, .inl o_lookers)), (q_o_facts, .inl (cy 0, 140, .inl o_facts)), (q_p2, .inr (0, [x_p2_width, .int p2_height, x_p2_planes, .int p2_holes, .int p2_reach, x_p2_cells, x_p2_pulls, x_p2_holeX, .ref q_p2_holeY, .ref q_p2_price])), (q_p2_holeY, .inl (cy 0, 4, .inl p2_holeY)), (q_p2_price, .inr (2, [.ref q_p2_price_codes, .int p2_price_size, .ref q_p2_price_waiting])), (q_p2_price_codes, .inl (cy 0, 800, .inl p2_price_codes)), (q_p2_price_waiting, .inl (cy 0, 16, .inl p2_price_waiting)), (q_p3, .inr (5, [x_p3_seen, .ref q_p3_counts, .ref q_p3_kinds, .ref q_p3_depths, .ref q_p3_prices])), (q_p3_counts, .inl (cy 0, 104, .inl p3_counts)), (q_p3_kinds, .inl (cy 0, 4, .inl p3_kinds)), (q_p3_depths, .inl (cy 0, 4, .inl p3_depths)), (q_p3_prices, .inl (cy 0, 104, .inl p3_prices))] H → va_D A [(q_o, .inr (1, [x_o_viewers, .int o_lookLength, x_o_time, .ref q_o_lookers, .ref q_o_facts])), (q_o_lookers, .inl (cy 0, 4, .inl o_lookers)), (q_o_facts, .inl (cy 0, 140, .inl o_facts)), (q_p2, .inr (0, [x_p2_width, .int p2_height, x_p2_planes, .int p2_holes, .int p2_reach, x_p2_cells, x_p2_pulls, x_p2_holeX, .ref q_p2_holeY, .ref q_p2_price])), (q_p2_holeY, .inl (cy 0, 4, .inl p2_holeY)), (q_p2_price, .inr (2, [.ref q_p2_price_codes, .int p2_price_size, .ref q_p2_price_waiting])), (q_p2_price_codes, .inl (cy 0, 800, .inl p2_price_codes)), (q_p2_price_waiting, .inl (cy 0, 16, .inl p2_price_waiting)), (q_p3, .inr (5, [x_p3_seen, .ref q_p3_counts, .ref q_p3_kinds, .ref q_p3_depths, .ref q_p3_prices])), (q_p3_counts, .inl (cy 0, 104, .inl p3_counts)), (q_p3_kinds, .inl (cy 0, 4, .inl p3_kinds)), (q_p3_depths, .inl (cy 0, 4, .inl p3_depths)), (q_p3_prices, .inl (cy 0, 104, .inl p3_prices))] → va_S A s.heap H locs → lv_has ls 10 [(0, .ref q_o), (1, .int p1), (2, .ref q_p2), (3, .ref q_p3)] → W p l e ({ frames := 5, cells := 0, slots := 0, locals := 129 } : Room) s m args below meth c H locs 0 0 QQ (F0 m 0 ls []) := by
    intro H locs ls hP hD hS hl
    unfold X1_choose at hF
    refine lv_aload_n hx hb dX1_choose_0 rfl (lv_at hl 0 rfl) ?_
    refine lv_iload_n hx hb dX1_choose_1 rfl (lv_at hl 1 rfl) ?_
    refine lv_iconst (v := 1) hx hb dX1_choose_2 (by decide) ?_
    obtain ⟨r28, h29, hF⟩ := bn1_o hF
    refine kd_i [(q_o, .inr (1, [x_o_viewers, .int o_lookLength, x_o_time, .ref q_o_lookers, .ref q_o_facts])), (q_o_lookers, .inl (cy 0, 4, .inl o_lookers)), (q_o_facts, .inl (cy 0, 140, .inl o_facts)), (q_p2, .inr (0, [x_p2_width, .int p2_height, x_p2_planes, .int p2_holes, .int p2_reach, x_p2_cells, x_p2_pulls, x_p2_holeX, .ref q_p2_holeY, .ref q_p2_price])), (q_p2_holeY, .inl (cy 0, 4, .inl p2_holeY)), (q_p2_price, .inr (2, [.ref q_p2_price_codes, .int p2_price_size, .ref q_p2_price_waiting])), (q_p2_price_codes, .inl (cy 0, 800, .inl p2_price_codes)), (q_p2_price_waiting, .inl (cy 0, 16, .inl p2_price_waiting)), (q_p3, .inr (5, [x_p3_seen, .ref q_p3_counts, .ref q_p3_kinds, .ref q_p3_depths, .ref q_p3_prices])), (q_p3_counts, .inl (cy 0, 104, .inl p3_counts)), (q_p3_kinds, .inl (cy 0, 4, .inl p3_kinds)), (q_p3_depths, .inl (cy 0, 4, .inl p3_depths)), (q_p3_prices, .inl (cy 0, 104, .inl p3_prices))] (va_runV (As := [.int p1, .int (1 : Int32)]) (rest := []) ⟨hx, hb, hml, hown, hts⟩ (c_X1_fact q_o q_o_facts H.size x_o_viewers (.int o_lookLength) x_o_time (.ref q_o_lookers) o_facts p1 (1 : Int32) _ h29) (cwV 2 hts gX1_choose_X1_fact rfl rfl rfl kd_X1_fact ⟨Nat.le_of_ble_eq_true rfl, Nat.le_of_ble_eq_true rfl⟩) ⟨kP_blind (EN_ok D cy) D _ _ _, va_recv hK hP (ci := 1) (q0 := 0) rfl rfl, kStart (EN_ok D cy) hE hP hD hS hA [0, 2] rfl rfl _⟩ rfl rfl hl.1 rfl (lv_room (Nat.le_of_ble_eq_true rfl)) dX1_choose_3 ⟨Nat.zero_le _, Nat.zero_le _⟩) hP hD hS hA [0, 2] [1, 3, 4, 5, 6, 7, 8, 9, 10, 11, 12] rfl rfl rfl 13 rfl (by decide +kernel) (fun H locs hP hD hS => ?_)
    refine lv_istore (lv' := [(4, .int r28), (0, .ref q_o), (1, .int p1), (2, .ref q_p2), (3, .ref q_p3)]) hx hb dX1_choose_6 hl (by decide) rfl (fun ls hl => ?_)
    refine lv_iconst (v := 0) hx hb dX1_choose_8 (by decide) ?_
    refine lv_istore (lv' := [(5, .int (0 : Int32)), (4, .int r28), (0, .ref q_o), (1, .int p1), (2, .ref q_p2), (3, .ref q_p3)]) hx hb dX1_choose_9 hl (by decide) rfl (fun ls hl => ?_)
    refine lv_iconst (v := -1) hx hb dX1_choose_11 (by decide) ?_
    refine lv_istore (lv' := [(6, .int (-1 : Int32)), (5, .int (0 : Int32)), (4, .int r28), (0, .ref q_o), (1, .int p1), (2, .ref q_p2), (3, .ref q_p3)]) hx hb dX1_choose_12 hl (by decide) rfl (fun ls hl => ?_)
    refine lv_iconst (v := -1) hx hb dX1_choose_14 (by decide) ?_
    refine lv_istore (lv' := [(7, .int (-1 : Int32)), (6, .int (-1 : Int32)), (5, .int (0 : Int32)), (4, .int r28), (0, .ref q_o), (1, .int p1), (2, .ref q_p2), (3, .ref q_p3)]) hx hb dX1_choose_15 hl (by decide) rfl (fun ls hl => ?_)
    refine lv_iconst (v := 0) hx hb dX1_choose_17 (by decide) ?_
    refine lv_istore (lv' := [(8, .int (0 : Int32)), (7, .int (-1 : Int32)), (6, .int (-1 : Int32)), (5, .int (0 : Int32)), (4, .int r28), (0, .ref q_o), (1, .int p1), (2, .ref q_p2), (3, .ref q_p3)]) hx hb dX1_choose_18 hl (by decide) rfl (fun ls hl => ?_)
    exact J20 FU r28 (0 : Int32) (-1 : Int32) (-1 : Int32) (0 : Int32) p2_price_waiting p3_prices H locs ls hP hD hS (lv_sub hl [5, 6, 7, 8, 4, 3, 2, 1, 0] rfl) hF
  exact main s.heap [] ls hP hD hS hl
theorem kd_X1_tick : yX1_tick.cls = RX1 ∧ yX1_tick.cls ≠ "java/lang/invoke/MethodHandle" ∧ yX1_tick.cls ≠ "java/lang/invoke/VarHandle" ∧ (parseMethodDescriptor yX1_tick.desc).map (fun d => d.parameters.length) = some 2 := by decide +kernel
set_option maxHeartbeats 4000000 in
set_option maxRecDepth 100000 in
theorem c_X1_tick {l : Launch} {D : va_G} {cy : Nat → ClassId} (q_o q_o_lookers q_o_facts q_p1 q_p1_holeY q_p1_price q_p1_price_codes q_p1_price_waiting q_p2 q_p2_counts q_p2_kinds q_p2_depths q_p2_prices : Nat) (sz : Nat) (x_p1_width x_p1_planes x_p1_cells x_p1_pulls x_p1_holeX x_p2_seen : Value) (o_viewers : Int32) (o_lookLength : Int32) (o_time : Int32) (o_lookers : Nat → Int32) (o_facts : Nat → Int32) (p1_height : Int32) (p1_holes : Int32) (p1_reach : Int32) (p1_holeY : Nat → Int32) (p1_price_size : Int32) (p1_price_codes : Nat → Int32) (p1_price_waiting : Nat → Int32) (p2_counts : Nat → Int32) (p2_kinds : Nat → Int32) (p2_depths : Nat → Int32) (p2_prices : Nat → Int32) (res : Int32 × (Nat → Int32) × (Nat → Int32) × (Nat → Int32) × (Nat → Int32)) (hF : X1_tick o_viewers o_lookLength o_time o_lookers o_facts p1_height p1_holes p1_reach p1_holeY p1_price_size p1_price_codes p1_price_waiting p2_counts p2_kinds p2_depths p2_prices = some res) : Met l yX1_tick wsX1_tick ({ frames := 6, cells := 0, slots := 0, locals := 158 } : Room) (kP (EN D cy) D [.ref q_o, .ref q_p1, .ref q_p2] [(q_o, .inr (1, [.int o_viewers, .int o_lookLength, .int o_time, .ref q_o_lookers, .ref q_o_facts])), (q_o_lookers, .inl (cy 0, 4, .inl o_lookers)), (q_o_facts, .inl (cy 0, 140, .inl o_facts)), (q_p1, .inr (0, [x_p1_width, .int p1_height, x_p1_planes, .int p1_holes, .int p1_reach, x_p1_cells, x_p1_pulls, x_p1_holeX, .ref q_p1_holeY, .ref q_p1_price])), (q_p1_holeY, .inl (cy 0, 4, .inl p1_holeY)), (q_p1_price, .inr (2, [.ref q_p1_price_codes, .int p1_price_size, .ref q_p1_price_waiting])), (q_p1_price_codes, .inl (cy 0, 800, .inl p1_price_codes)), (q_p1_price_waiting, .inl (cy 0, 16, .inl p1_price_waiting)), (q_p2, .inr (5, [x_p2_seen, .ref q_p2_counts, .ref q_p2_kinds, .ref q_p2_depths, .ref q_p2_prices])), (q_p2_counts, .inl (cy 0, 104, .inl p2_counts)), (q_p2_kinds, .inl (cy 0, 4, .inl p2_kinds)), (q_p2_depths, .inl (cy 0, 4, .inl p2_depths)), (q_p2_prices, .inl (cy 0, 104, .inl p2_prices))] sz) (kQv D [(q_o, .inr (1, [.int o_viewers, .int o_lookLength, .int res.1, .ref q_o_lookers, .ref q_o_facts])), (q_o_lookers, .inl (cy 0, 4, .inl res.2.1)), (q_o_facts, .inl (cy 0, 140, .inl res.2.2.1)), (q_p1, .inr (0, [x_p1_width, .int p1_height, x_p1_planes, .int p1_holes, .int p1_reach, x_p1_cells, x_p1_pulls, x_p1_holeX, .ref q_p1_holeY, .ref q_p1_price])), (q_p1_holeY, .inl (cy 0, 4, .inl p1_holeY)), (q_p1_price, .inr (2, [.ref q_p1_price_codes, .int p1_price_size, .ref q_p1_price_waiting])), (q_p1_price_codes, .inl (cy 0, 800, .inl p1_price_codes)), (q_p1_price_waiting, .inl (cy 0, 16, .inl res.2.2.2.1)), (q_p2, .inr (5, [x_p2_seen, .ref q_p2_counts, .ref q_p2_kinds, .ref q_p2_depths, .ref q_p2_prices])), (q_p2_counts, .inl (cy 0, 104, .inl p2_counts)), (q_p2_kinds, .inl (cy 0, 4, .inl p2_kinds)), (q_p2_depths, .inl (cy 0, 4, .inl p2_depths)), (q_p2_prices, .inl (cy 0, 104, .inl res.2.2.2.2))] (va_A [(q_o, .inr (1, [.int o_viewers, .int o_lookLength, .int o_time, .ref q_o_lookers, .ref q_o_facts])), (q_o_lookers, .inl (cy 0, 4, .inl o_lookers)), (q_o_facts, .inl (cy 0, 140, .inl o_facts)), (q_p1, .inr (0, [x_p1_width, .int p1_height, x_p1_planes, .int p1_holes, .int p1_reach, x_p1_cells, x_p1_pulls, x_p1_holeX, .ref q_p1_holeY, .ref q_p1_price])), (q_p1_holeY, .inl (cy 0, 4, .inl p1_holeY)), (q_p1_price, .inr (2, [.ref q_p1_price_codes, .int p1_price_size, .ref q_p1_price_waiting])), (q_p1_price_codes, .inl (cy 0, 800, .inl p1_price_codes)), (q_p1_price_waiting, .inl (cy 0, 16, .inl p1_price_waiting)), (q_p2, .inr (5, [x_p2_seen, .ref q_p2_counts, .ref q_p2_kinds, .ref q_p2_depths, .ref q_p2_prices])), (q_p2_counts, .inl (cy 0, 104, .inl p2_counts)), (q_p2_kinds, .inl (cy 0, 4, .inl p2_kinds)), (q_p2_depths, .inl (cy 0, 4, .inl p2_depths)), (q_p2_prices, .inl (cy 0, 104, .inl p2_prices))] sz)) 0 0 (va_A [(q_o, .inr (1, [.int o_viewers, .int o_lookLength, .int o_time, .ref q_o_lookers, .ref q_o_facts])), (q_o_lookers, .inl (cy 0, 4, .inl o_lookers)), (q_o_facts, .inl (cy 0, 140, .inl o_facts)), (q_p1, .inr (0, [x_p1_width, .int p1_height, x_p1_planes, .int p1_holes, .int p1_reach, x_p1_cells, x_p1_pulls, x_p1_holeX, .ref q_p1_holeY, .ref q_p1_price])), (q_p1_holeY, .inl (cy 0, 4, .inl p1_holeY)), (q_p1_price, .inr (2, [.ref q_p1_price_codes, .int p1_price_size, .ref q_p1_price_waiting])), (q_p1_price_codes, .inl (cy 0, 800, .inl p1_price_codes)), (q_p1_price_waiting, .inl (cy 0, 16, .inl p1_price_waiting)), (q_p2, .inr (5, [x_p2_seen, .ref q_p2_counts, .ref q_p2_kinds, .ref q_p2_depths, .ref q_p2_prices])), (q_p2_counts, .inl (cy 0, 104, .inl p2_counts)), (q_p2_kinds, .inl (cy 0, 4, .inl p2_kinds)), (q_p2_depths, .inl (cy 0, 4, .inl p2_depths)), (q_p2_prices, .inl (cy 0, 104, .inl p2_prices))] sz) := by
  refine kMet (y := yX1_tick) (av := [.ref q_o, .ref q_p1, .ref q_p2]) (cc := cX1_tick) (maxL := 4) (ret := none) (own := RX1) (Qc := fun A9 => (kQv D [(q_o, .inr (1, [.int o_viewers, .int o_lookLength, .int res.1, .ref q_o_lookers, .ref q_o_facts])), (q_o_lookers, .inl (cy 0, 4, .inl res.2.1)), (q_o_facts, .inl (cy 0, 140, .inl res.2.2.1)), (q_p1, .inr (0, [x_p1_width, .int p1_height, x_p1_planes, .int p1_holes, .int p1_reach, x_p1_cells, x_p1_pulls, x_p1_holeX, .ref q_p1_holeY, .ref q_p1_price])), (q_p1_holeY, .inl (cy 0, 4, .inl p1_holeY)), (q_p1_price, .inr (2, [.ref q_p1_price_codes, .int p1_price_size, .ref q_p1_price_waiting])), (q_p1_price_codes, .inl (cy 0, 800, .inl p1_price_codes)), (q_p1_price_waiting, .inl (cy 0, 16, .inl res.2.2.2.1)), (q_p2, .inr (5, [x_p2_seen, .ref q_p2_counts, .ref q_p2_kinds, .ref q_p2_depths, .ref q_p2_prices])), (q_p2_counts, .inl (cy 0, 104, .inl p2_counts)), (q_p2_kinds, .inl (cy 0, 4, .inl p2_kinds)), (q_p2_depths, .inl (cy 0, 4, .inl p2_depths)), (q_p2_prices, .inl (cy 0, 104, .inl res.2.2.2.2))] A9)) (by decide) rfl rfl (Nat.le_of_ble_eq_true rfl) ?_
  intro p e s m args below meth c A hx hb hr hts hown hml hlocks hname hE hP hD hA hsz ls hl
  have hK := hE.1
  have hl : lv_has ls 4 [(0, .ref q_o), (1, .ref q_p1), (2, .ref q_p2)] := hl
  have hS : va_S A s.heap s.heap [] := va_S.rf
  have f_f9 := hts (.fieldLink RX1 9 "PeepBox$Crowd" "viewers" "I") (by decide +kernel)
  have f_inX1 : ∀ w ∈ wsX10, w ∈ wsX1_tick := by decide +kernel
  have f_f18 := hts (.fieldLink RX1 18 "PeepBox$Crowd" "time" "I") (by decide +kernel)
  obtain ⟨QQ, hQQ⟩ : ∃ Q9, Q9 = MQ below (kQv D [(q_o, .inr (1, [.int o_viewers, .int o_lookLength, .int res.1, .ref q_o_lookers, .ref q_o_facts])), (q_o_lookers, .inl (cy 0, 4, .inl res.2.1)), (q_o_facts, .inl (cy 0, 140, .inl res.2.2.1)), (q_p1, .inr (0, [x_p1_width, .int p1_height, x_p1_planes, .int p1_holes, .int p1_reach, x_p1_cells, x_p1_pulls, x_p1_holeX, .ref q_p1_holeY, .ref q_p1_price])), (q_p1_holeY, .inl (cy 0, 4, .inl p1_holeY)), (q_p1_price, .inr (2, [.ref q_p1_price_codes, .int p1_price_size, .ref q_p1_price_waiting])), (q_p1_price_codes, .inl (cy 0, 800, .inl p1_price_codes)), (q_p1_price_waiting, .inl (cy 0, 16, .inl res.2.2.2.1)), (q_p2, .inr (5, [x_p2_seen, .ref q_p2_counts, .ref q_p2_kinds, .ref q_p2_depths, .ref q_p2_prices])), (q_p2_counts, .inl (cy 0, 104, .inl p2_counts)), (q_p2_kinds, .inl (cy 0, 4, .inl p2_kinds)), (q_p2_depths, .inl (cy 0, 4, .inl p2_depths)), (q_p2_prices, .inl (cy 0, 104, .inl res.2.2.2.2))] A) args s 0 0 A := ⟨_, rfl⟩
  rw [← hQQ]
  have J35 : ∀ (n35 : Nat) (l3 : Int32) (o_lookers : Nat → Int32) (o_facts : Nat → Int32) (p1_price_waiting : Nat → Int32) (p2_prices : Nat → Int32) (H : Heap) (locs : List Loc) (ls : Array Slot), va_P D vwCl [(q_o, .inr (1, [.int o_viewers, .int o_lookLength, .int o_time, .ref q_o_lookers, .ref q_o_facts])), (q_o_lookers, .inl (cy 0, 4, .inl o_lookers)), (q_o_facts, .inl (cy 0, 140, .inl o_facts)), (q_p1, .inr (0, [x_p1_width, .int p1_height, x_p1_planes, .int p1_holes, .int p1_reach, x_p1_cells, x_p1_pulls, x_p1_holeX, .ref q_p1_holeY, .ref q_p1_price])), (q_p1_holeY, .inl (cy 0, 4, .inl p1_holeY)), (q_p1_price, .inr (2, [.ref q_p1_price_codes, .int p1_price_size, .ref q_p1_price_waiting])), (q_p1_price_codes, .inl (cy 0, 800, .inl p1_price_codes)), (q_p1_price_waiting, .inl (cy 0, 16, .inl p1_price_waiting)), (q_p2, .inr (5, [x_p2_seen, .ref q_p2_counts, .ref q_p2_kinds, .ref q_p2_depths, .ref q_p2_prices])), (q_p2_counts, .inl (cy 0, 104, .inl p2_counts)), (q_p2_kinds, .inl (cy 0, 4, .inl p2_kinds)), (q_p2_depths, .inl (cy 0, 4, .inl p2_depths)), (q_p2_prices, .inl (cy 0, 104, .inl p2_prices))] H → va_D A [(q_o, .inr (1, [.int o_viewers, .int o_lookLength, .int o_time, .ref q_o_lookers, .ref q_o_facts])), (q_o_lookers, .inl (cy 0, 4, .inl o_lookers)), (q_o_facts, .inl (cy 0, 140, .inl o_facts)), (q_p1, .inr (0, [x_p1_width, .int p1_height, x_p1_planes, .int p1_holes, .int p1_reach, x_p1_cells, x_p1_pulls, x_p1_holeX, .ref q_p1_holeY, .ref q_p1_price])), (q_p1_holeY, .inl (cy 0, 4, .inl p1_holeY)), (q_p1_price, .inr (2, [.ref q_p1_price_codes, .int p1_price_size, .ref q_p1_price_waiting])), (q_p1_price_codes, .inl (cy 0, 800, .inl p1_price_codes)), (q_p1_price_waiting, .inl (cy 0, 16, .inl p1_price_waiting)), (q_p2, .inr (5, [x_p2_seen, .ref q_p2_counts, .ref q_p2_kinds, .ref q_p2_depths, .ref q_p2_prices])), (q_p2_counts, .inl (cy 0, 104, .inl p2_counts)), (q_p2_kinds, .inl (cy 0, 4, .inl p2_kinds)), (q_p2_depths, .inl (cy 0, 4, .inl p2_depths)), (q_p2_prices, .inl (cy 0, 104, .inl p2_prices))] → va_S A s.heap H locs → lv_has ls 4 [(0, .ref q_o), (1, .ref q_p1), (2, .ref q_p2), (3, .int l3)] → X1_tick_L35 o_viewers o_lookLength o_time p1_height p1_holes p1_reach p1_holeY p1_price_size p1_price_codes p2_counts p2_kinds p2_depths n35 l3 o_lookers o_facts p1_price_waiting p2_prices = some res → W p l e ({ frames := 6, cells := 0, slots := 0, locals := 158 } : Room) s m args below meth c H locs 0 0 QQ (F0 m 35 ls []) := by
    intro n35
    induction n35 with
    | zero =>
      intro l3 o_lookers o_facts p1_price_waiting p2_prices H locs ls hP hD hS hl hF
      rw [X1_tick_L35] at hF
      cases hF
    | succ n35 ih35 =>
      have J59 : ∀ (l3 : Int32) (o_lookers : Nat → Int32) (o_facts : Nat → Int32) (p1_price_waiting : Nat → Int32) (p2_prices : Nat → Int32) (H : Heap) (locs : List Loc) (ls : Array Slot), va_P D vwCl [(q_o, .inr (1, [.int o_viewers, .int o_lookLength, .int o_time, .ref q_o_lookers, .ref q_o_facts])), (q_o_lookers, .inl (cy 0, 4, .inl o_lookers)), (q_o_facts, .inl (cy 0, 140, .inl o_facts)), (q_p1, .inr (0, [x_p1_width, .int p1_height, x_p1_planes, .int p1_holes, .int p1_reach, x_p1_cells, x_p1_pulls, x_p1_holeX, .ref q_p1_holeY, .ref q_p1_price])), (q_p1_holeY, .inl (cy 0, 4, .inl p1_holeY)), (q_p1_price, .inr (2, [.ref q_p1_price_codes, .int p1_price_size, .ref q_p1_price_waiting])), (q_p1_price_codes, .inl (cy 0, 800, .inl p1_price_codes)), (q_p1_price_waiting, .inl (cy 0, 16, .inl p1_price_waiting)), (q_p2, .inr (5, [x_p2_seen, .ref q_p2_counts, .ref q_p2_kinds, .ref q_p2_depths, .ref q_p2_prices])), (q_p2_counts, .inl (cy 0, 104, .inl p2_counts)), (q_p2_kinds, .inl (cy 0, 4, .inl p2_kinds)), (q_p2_depths, .inl (cy 0, 4, .inl p2_depths)), (q_p2_prices, .inl (cy 0, 104, .inl p2_prices))] H → va_D A [(q_o, .inr (1, [.int o_viewers, .int o_lookLength, .int o_time, .ref q_o_lookers, .ref q_o_facts])), (q_o_lookers, .inl (cy 0, 4, .inl o_lookers)), (q_o_facts, .inl (cy 0, 140, .inl o_facts)), (q_p1, .inr (0, [x_p1_width, .int p1_height, x_p1_planes, .int p1_holes, .int p1_reach, x_p1_cells, x_p1_pulls, x_p1_holeX, .ref q_p1_holeY, .ref q_p1_price])), (q_p1_holeY, .inl (cy 0, 4, .inl p1_holeY)), (q_p1_price, .inr (2, [.ref q_p1_price_codes, .int p1_price_size, .ref q_p1_price_waiting])), (q_p1_price_codes, .inl (cy 0, 800, .inl p1_price_codes)), (q_p1_price_waiting, .inl (cy 0, 16, .inl p1_price_waiting)), (q_p2, .inr (5, [x_p2_seen, .ref q_p2_counts, .ref q_p2_kinds, .ref q_p2_depths, .ref q_p2_prices])), (q_p2_counts, .inl (cy 0, 104, .inl p2_counts)), (q_p2_kinds, .inl (cy 0, 4, .inl p2_kinds)), (q_p2_depths, .inl (cy 0, 4, .inl p2_depths)), (q_p2_prices, .inl (cy 0, 104, .inl p2_prices))] → va_S A s.heap H locs → lv_has ls 4 [(0, .ref q_o), (1, .ref q_p1), (2, .ref q_p2), (3, .int l3)] → X1_tick_J59 o_viewers o_lookLength o_time p1_height p1_holes p1_reach p1_holeY p1_price_size p1_price_codes p2_counts p2_kinds p2_depths (fun z0 z1 z2 z3 z4 => X1_tick_L35 o_viewers o_lookLength o_time p1_height p1_holes p1_reach p1_holeY p1_price_size p1_price_codes p2_counts p2_kinds p2_depths n35 z0 z1 z2 z3 z4) l3 o_lookers o_facts p1_price_waiting p2_prices = some res → W p l e ({ frames := 6, cells := 0, slots := 0, locals := 158 } : Room) s m args below meth c H locs 0 0 QQ (F0 m 59 ls []) := by
        intro l3 o_lookers o_facts p1_price_waiting p2_prices H locs ls hP hD hS hl hF
        unfold X1_tick_J59 at hF
        obtain ⟨v1, ev1⟩ : ∃ y : Int32, y = l3 + (1 : Int32) := ⟨_, rfl⟩
        have hF := nm_o hF v1 ev1
        refine lv_iinc (v := v1) (lv' := [(3, .int v1), (0, .ref q_o), (1, .ref q_p1), (2, .ref q_p2)]) hx hb dX1_tick_59 hl (k := 3) rfl (by rw [ev1]; rfl) (by decide) rfl (fun ls hl => ?_)
        refine lv_goto (tgt := 35) hx hb dX1_tick_62 (by decide) ?_
        exact ih35 v1 o_lookers o_facts p1_price_waiting p2_prices H locs ls hP hD hS (lv_sub hl [1, 2, 3, 0] rfl) hF
      intro l3 o_lookers o_facts p1_price_waiting p2_prices H locs ls hP hD hS hl hF
      rw [X1_tick_L35] at hF
      refine lv_iload_n hx hb dX1_tick_35 rfl (lv_at hl 3 rfl) ?_
      refine lv_aload_n hx hb dX1_tick_36 rfl (lv_at hl 0 rfl) ?_
      refine va_get (D := D) (ci := 1) (v := .int o_viewers) (C := RX1) (T := TX1) (N := 5) hx hb hts f_inX1 hown hK hP 0 rfl rfl 0 (by decide) f_f9 (fun _ h9 => h9) rfl dX1_tick_37 ?_
      refine lv_icmp_ge (tgt := 65) hx hb dX1_tick_40 (by decide) (fun c2 => ?_) (fun c2 => ?_)
      · have hF := if_p hF c2
        refine lv_aload_n hx hb dX1_tick_65 rfl (lv_at hl 0 rfl) ?_
        refine lv_dup hx hb dX1_tick_66 rfl ?_
        refine va_get (D := D) (ci := 1) (v := .int o_time) (C := RX1) (T := TX1) (N := 5) hx hb hts f_inX1 hown hK hP 0 rfl rfl 2 (by decide) f_f18 (fun _ h9 => h9) rfl dX1_tick_67 ?_
        refine lv_iconst (v := 1) hx hb dX1_tick_70 (by decide) ?_
        refine lv_iadd hx hb dX1_tick_71 ?_
        refine lv_topi (fun v3 ev3 => ?_)
        have hF := nm_o hF v3 ev3
        refine va_put (D := D) (ci := 1) (v := .int v3) (ty := .int) (C := RX1) (T := TX1) (N := 5) hx hb hts f_inX1 tyX1 tyX1_ok nmX1 hown hK hP hD hS 0 rfl rfl 2 (by decide) f_f18 (fun _ h9 => h9) rfl (by decide +kernel) rfl rfl (Nat.le_of_ble_eq_true rfl) dX1_tick_72 (fun H locs hP hD hS => ?_)
        have hP : va_P D vwCl [(q_o, .inr (1, [.int o_viewers, .int o_lookLength, .int v3, .ref q_o_lookers, .ref q_o_facts])), (q_o_lookers, .inl (cy 0, 4, .inl o_lookers)), (q_o_facts, .inl (cy 0, 140, .inl o_facts)), (q_p1, .inr (0, [x_p1_width, .int p1_height, x_p1_planes, .int p1_holes, .int p1_reach, x_p1_cells, x_p1_pulls, x_p1_holeX, .ref q_p1_holeY, .ref q_p1_price])), (q_p1_holeY, .inl (cy 0, 4, .inl p1_holeY)), (q_p1_price, .inr (2, [.ref q_p1_price_codes, .int p1_price_size, .ref q_p1_price_waiting])), (q_p1_price_codes, .inl (cy 0, 800, .inl p1_price_codes)), (q_p1_price_waiting, .inl (cy 0, 16, .inl p1_price_waiting)), (q_p2, .inr (5, [x_p2_seen, .ref q_p2_counts, .ref q_p2_kinds, .ref q_p2_depths, .ref q_p2_prices])), (q_p2_counts, .inl (cy 0, 104, .inl p2_counts)), (q_p2_kinds, .inl (cy 0, 4, .inl p2_kinds)), (q_p2_depths, .inl (cy 0, 4, .inl p2_depths)), (q_p2_prices, .inl (cy 0, 104, .inl p2_prices))] H := hP
        have hD : va_D A [(q_o, .inr (1, [.int o_viewers, .int o_lookLength, .int v3, .ref q_o_lookers, .ref q_o_facts])), (q_o_lookers, .inl (cy 0, 4, .inl o_lookers)), (q_o_facts, .inl (cy 0, 140, .inl o_facts)), (q_p1, .inr (0, [x_p1_width, .int p1_height, x_p1_planes, .int p1_holes, .int p1_reach, x_p1_cells, x_p1_pulls, x_p1_holeX, .ref q_p1_holeY, .ref q_p1_price])), (q_p1_holeY, .inl (cy 0, 4, .inl p1_holeY)), (q_p1_price, .inr (2, [.ref q_p1_price_codes, .int p1_price_size, .ref q_p1_price_waiting])), (q_p1_price_codes, .inl (cy 0, 800, .inl p1_price_codes)), (q_p1_price_waiting, .inl (cy 0, 16, .inl p1_price_waiting)), (q_p2, .inr (5, [x_p2_seen, .ref q_p2_counts, .ref q_p2_kinds, .ref q_p2_depths, .ref q_p2_prices])), (q_p2_counts, .inl (cy 0, 104, .inl p2_counts)), (q_p2_kinds, .inl (cy 0, 4, .inl p2_kinds)), (q_p2_depths, .inl (cy 0, 4, .inl p2_depths)), (q_p2_prices, .inl (cy 0, 104, .inl p2_prices))] := hD
        obtain rfl := so_o hF
        rw [hQQ]
        exact kr_v hx hb hr hlocks hP hD hS dX1_tick_75
      · have hF := if_n hF c2
        refine lv_aload_n hx hb dX1_tick_43 rfl (lv_at hl 0 rfl) ?_
        refine lv_iload_n hx hb dX1_tick_44 rfl (lv_at hl 3 rfl) ?_
        refine lv_iconst (v := 3) hx hb dX1_tick_45 (by decide) ?_
        obtain ⟨r4, h5, hF⟩ := bn1_o hF
        refine kd_i [(q_o, .inr (1, [.int o_viewers, .int o_lookLength, .int o_time, .ref q_o_lookers, .ref q_o_facts])), (q_o_lookers, .inl (cy 0, 4, .inl o_lookers)), (q_o_facts, .inl (cy 0, 140, .inl o_facts)), (q_p1, .inr (0, [x_p1_width, .int p1_height, x_p1_planes, .int p1_holes, .int p1_reach, x_p1_cells, x_p1_pulls, x_p1_holeX, .ref q_p1_holeY, .ref q_p1_price])), (q_p1_holeY, .inl (cy 0, 4, .inl p1_holeY)), (q_p1_price, .inr (2, [.ref q_p1_price_codes, .int p1_price_size, .ref q_p1_price_waiting])), (q_p1_price_codes, .inl (cy 0, 800, .inl p1_price_codes)), (q_p1_price_waiting, .inl (cy 0, 16, .inl p1_price_waiting)), (q_p2, .inr (5, [x_p2_seen, .ref q_p2_counts, .ref q_p2_kinds, .ref q_p2_depths, .ref q_p2_prices])), (q_p2_counts, .inl (cy 0, 104, .inl p2_counts)), (q_p2_kinds, .inl (cy 0, 4, .inl p2_kinds)), (q_p2_depths, .inl (cy 0, 4, .inl p2_depths)), (q_p2_prices, .inl (cy 0, 104, .inl p2_prices))] (va_runV (As := [.int l3, .int (3 : Int32)]) (rest := []) ⟨hx, hb, hml, hown, hts⟩ (c_X1_fact q_o q_o_facts H.size (.int o_viewers) (.int o_lookLength) (.int o_time) (.ref q_o_lookers) o_facts l3 (3 : Int32) _ h5) (cwV 2 hts gX1_tick_X1_fact rfl rfl rfl kd_X1_fact ⟨Nat.le_of_ble_eq_true rfl, Nat.le_of_ble_eq_true rfl⟩) ⟨kP_blind (EN_ok D cy) D _ _ _, va_recv hK hP (ci := 1) (q0 := 0) rfl rfl, kStart (EN_ok D cy) hE hP hD hS hA [0, 2] rfl rfl _⟩ rfl rfl hl.1 rfl (lv_room (Nat.le_of_ble_eq_true rfl)) dX1_tick_46 ⟨Nat.zero_le _, Nat.zero_le _⟩) hP hD hS hA [0, 2] [1, 3, 4, 5, 6, 7, 8, 9, 10, 11, 12] rfl rfl rfl 13 rfl (by decide +kernel) (fun H locs hP hD hS => ?_)
        refine lv_if_ne (tgt := 59) hx hb dX1_tick_49 (by decide) (fun c6 => ?_) (fun c6 => ?_)
        · have hF := if_n hF c6
          exact J59 l3 o_lookers o_facts p1_price_waiting p2_prices H locs ls hP hD hS (lv_sub hl [0, 1, 2, 3] rfl) hF
        · have hF := if_p hF c6
          refine lv_aload_n hx hb dX1_tick_52 rfl (lv_at hl 0 rfl) ?_
          refine lv_iload_n hx hb dX1_tick_53 rfl (lv_at hl 3 rfl) ?_
          refine lv_aload_n hx hb dX1_tick_54 rfl (lv_at hl 1 rfl) ?_
          refine lv_aload_n hx hb dX1_tick_55 rfl (lv_at hl 2 rfl) ?_
          obtain ⟨o7, o8, o9, o10, h11, hF⟩ := bn4_o hF
          refine kd_v [(q_o, .inr (1, [.int o_viewers, .int o_lookLength, .int o_time, .ref q_o_lookers, .ref q_o_facts])), (q_o_lookers, .inl (cy 0, 4, .inl o7)), (q_o_facts, .inl (cy 0, 140, .inl o8)), (q_p1, .inr (0, [x_p1_width, .int p1_height, x_p1_planes, .int p1_holes, .int p1_reach, x_p1_cells, x_p1_pulls, x_p1_holeX, .ref q_p1_holeY, .ref q_p1_price])), (q_p1_holeY, .inl (cy 0, 4, .inl p1_holeY)), (q_p1_price, .inr (2, [.ref q_p1_price_codes, .int p1_price_size, .ref q_p1_price_waiting])), (q_p1_price_codes, .inl (cy 0, 800, .inl p1_price_codes)), (q_p1_price_waiting, .inl (cy 0, 16, .inl o9)), (q_p2, .inr (5, [x_p2_seen, .ref q_p2_counts, .ref q_p2_kinds, .ref q_p2_depths, .ref q_p2_prices])), (q_p2_counts, .inl (cy 0, 104, .inl p2_counts)), (q_p2_kinds, .inl (cy 0, 4, .inl p2_kinds)), (q_p2_depths, .inl (cy 0, 4, .inl p2_depths)), (q_p2_prices, .inl (cy 0, 104, .inl o10))] (va_runV (As := [.int l3, .ref q_p1, .ref q_p2]) (rest := []) ⟨hx, hb, hml, hown, hts⟩ (c_X1_choose q_o q_o_lookers q_o_facts q_p1 q_p1_holeY q_p1_price q_p1_price_codes q_p1_price_waiting q_p2 q_p2_counts q_p2_kinds q_p2_depths q_p2_prices H.size (.int o_viewers) (.int o_time) x_p1_width x_p1_planes x_p1_cells x_p1_pulls x_p1_holeX x_p2_seen o_lookLength o_lookers o_facts p1_height p1_holes p1_reach p1_holeY p1_price_size p1_price_codes p1_price_waiting p2_counts p2_kinds p2_depths p2_prices l3 _ h11) (cwV 3 hts gX1_tick_X1_choose rfl rfl rfl kd_X1_choose ⟨Nat.le_of_ble_eq_true rfl, Nat.le_of_ble_eq_true rfl⟩) ⟨kP_blind (EN_ok D cy) D _ _ _, va_recv hK hP (ci := 1) (q0 := 0) rfl rfl, kStart (EN_ok D cy) hE hP hD hS hA [0, 1, 2, 3, 4, 5, 6, 7, 8, 9, 10, 11, 12] rfl rfl _⟩ rfl rfl hl.1 rfl (lv_room (Nat.le_of_ble_eq_true rfl)) dX1_tick_56 ⟨Nat.zero_le _, Nat.zero_le _⟩) hP hD hS hA [0, 1, 2, 3, 4, 5, 6, 7, 8, 9, 10, 11, 12] [] rfl rfl rfl 13 rfl (by decide +kernel) (fun H locs hP hD hS => ?_)
          exact J59 l3 o7 o8 o9 o10 H locs ls hP hD hS (lv_sub hl [0, 1, 2, 3] rfl) hF
  have J2 : ∀ (n2 : Nat) (l3 : Int32) (o_lookers : Nat → Int32) (o_facts : Nat → Int32) (p1_price_waiting : Nat → Int32) (p2_prices : Nat → Int32) (H : Heap) (locs : List Loc) (ls : Array Slot), va_P D vwCl [(q_o, .inr (1, [.int o_viewers, .int o_lookLength, .int o_time, .ref q_o_lookers, .ref q_o_facts])), (q_o_lookers, .inl (cy 0, 4, .inl o_lookers)), (q_o_facts, .inl (cy 0, 140, .inl o_facts)), (q_p1, .inr (0, [x_p1_width, .int p1_height, x_p1_planes, .int p1_holes, .int p1_reach, x_p1_cells, x_p1_pulls, x_p1_holeX, .ref q_p1_holeY, .ref q_p1_price])), (q_p1_holeY, .inl (cy 0, 4, .inl p1_holeY)), (q_p1_price, .inr (2, [.ref q_p1_price_codes, .int p1_price_size, .ref q_p1_price_waiting])), (q_p1_price_codes, .inl (cy 0, 800, .inl p1_price_codes)), (q_p1_price_waiting, .inl (cy 0, 16, .inl p1_price_waiting)), (q_p2, .inr (5, [x_p2_seen, .ref q_p2_counts, .ref q_p2_kinds, .ref q_p2_depths, .ref q_p2_prices])), (q_p2_counts, .inl (cy 0, 104, .inl p2_counts)), (q_p2_kinds, .inl (cy 0, 4, .inl p2_kinds)), (q_p2_depths, .inl (cy 0, 4, .inl p2_depths)), (q_p2_prices, .inl (cy 0, 104, .inl p2_prices))] H → va_D A [(q_o, .inr (1, [.int o_viewers, .int o_lookLength, .int o_time, .ref q_o_lookers, .ref q_o_facts])), (q_o_lookers, .inl (cy 0, 4, .inl o_lookers)), (q_o_facts, .inl (cy 0, 140, .inl o_facts)), (q_p1, .inr (0, [x_p1_width, .int p1_height, x_p1_planes, .int p1_holes, .int p1_reach, x_p1_cells, x_p1_pulls, x_p1_holeX, .ref q_p1_holeY, .ref q_p1_price])), (q_p1_holeY, .inl (cy 0, 4, .inl p1_holeY)), (q_p1_price, .inr (2, [.ref q_p1_price_codes, .int p1_price_size, .ref q_p1_price_waiting])), (q_p1_price_codes, .inl (cy 0, 800, .inl p1_price_codes)), (q_p1_price_waiting, .inl (cy 0, 16, .inl p1_price_waiting)), (q_p2, .inr (5, [x_p2_seen, .ref q_p2_counts, .ref q_p2_kinds, .ref q_p2_depths, .ref q_p2_prices])), (q_p2_counts, .inl (cy 0, 104, .inl p2_counts)), (q_p2_kinds, .inl (cy 0, 4, .inl p2_kinds)), (q_p2_depths, .inl (cy 0, 4, .inl p2_depths)), (q_p2_prices, .inl (cy 0, 104, .inl p2_prices))] → va_S A s.heap H locs → lv_has ls 4 [(0, .ref q_o), (1, .ref q_p1), (2, .ref q_p2), (3, .int l3)] → X1_tick_L2 o_viewers o_lookLength o_time p1_height p1_holes p1_reach p1_holeY p1_price_size p1_price_codes p2_counts p2_kinds p2_depths n2 l3 o_lookers o_facts p1_price_waiting p2_prices = some res → W p l e ({ frames := 6, cells := 0, slots := 0, locals := 158 } : Room) s m args below meth c H locs 0 0 QQ (F0 m 2 ls []) := by
    intro n2
    induction n2 with
    | zero =>
      intro l3 o_lookers o_facts p1_price_waiting p2_prices H locs ls hP hD hS hl hF
      rw [X1_tick_L2] at hF
      cases hF
    | succ n2 ih2 =>
      have J27 : ∀ (l3 : Int32) (o_lookers : Nat → Int32) (o_facts : Nat → Int32) (p1_price_waiting : Nat → Int32) (p2_prices : Nat → Int32) (H : Heap) (locs : List Loc) (ls : Array Slot), va_P D vwCl [(q_o, .inr (1, [.int o_viewers, .int o_lookLength, .int o_time, .ref q_o_lookers, .ref q_o_facts])), (q_o_lookers, .inl (cy 0, 4, .inl o_lookers)), (q_o_facts, .inl (cy 0, 140, .inl o_facts)), (q_p1, .inr (0, [x_p1_width, .int p1_height, x_p1_planes, .int p1_holes, .int p1_reach, x_p1_cells, x_p1_pulls, x_p1_holeX, .ref q_p1_holeY, .ref q_p1_price])), (q_p1_holeY, .inl (cy 0, 4, .inl p1_holeY)), (q_p1_price, .inr (2, [.ref q_p1_price_codes, .int p1_price_size, .ref q_p1_price_waiting])), (q_p1_price_codes, .inl (cy 0, 800, .inl p1_price_codes)), (q_p1_price_waiting, .inl (cy 0, 16, .inl p1_price_waiting)), (q_p2, .inr (5, [x_p2_seen, .ref q_p2_counts, .ref q_p2_kinds, .ref q_p2_depths, .ref q_p2_prices])), (q_p2_counts, .inl (cy 0, 104, .inl p2_counts)), (q_p2_kinds, .inl (cy 0, 4, .inl p2_kinds)), (q_p2_depths, .inl (cy 0, 4, .inl p2_depths)), (q_p2_prices, .inl (cy 0, 104, .inl p2_prices))] H → va_D A [(q_o, .inr (1, [.int o_viewers, .int o_lookLength, .int o_time, .ref q_o_lookers, .ref q_o_facts])), (q_o_lookers, .inl (cy 0, 4, .inl o_lookers)), (q_o_facts, .inl (cy 0, 140, .inl o_facts)), (q_p1, .inr (0, [x_p1_width, .int p1_height, x_p1_planes, .int p1_holes, .int p1_reach, x_p1_cells, x_p1_pulls, x_p1_holeX, .ref q_p1_holeY, .ref q_p1_price])), (q_p1_holeY, .inl (cy 0, 4, .inl p1_holeY)), (q_p1_price, .inr (2, [.ref q_p1_price_codes, .int p1_price_size, .ref q_p1_price_waiting])), (q_p1_price_codes, .inl (cy 0, 800, .inl p1_price_codes)), (q_p1_price_waiting, .inl (cy 0, 16, .inl p1_price_waiting)), (q_p2, .inr (5, [x_p2_seen, .ref q_p2_counts, .ref q_p2_kinds, .ref q_p2_depths, .ref q_p2_prices])), (q_p2_counts, .inl (cy 0, 104, .inl p2_counts)), (q_p2_kinds, .inl (cy 0, 4, .inl p2_kinds)), (q_p2_depths, .inl (cy 0, 4, .inl p2_depths)), (q_p2_prices, .inl (cy 0, 104, .inl p2_prices))] → va_S A s.heap H locs → lv_has ls 4 [(0, .ref q_o), (1, .ref q_p1), (2, .ref q_p2), (3, .int l3)] → X1_tick_J27 o_viewers o_lookLength o_time p1_height p1_holes p1_reach p1_holeY p1_price_size p1_price_codes p2_counts p2_kinds p2_depths (fun z0 z1 z2 z3 z4 => X1_tick_L2 o_viewers o_lookLength o_time p1_height p1_holes p1_reach p1_holeY p1_price_size p1_price_codes p2_counts p2_kinds p2_depths n2 z0 z1 z2 z3 z4) l3 o_lookers o_facts p1_price_waiting p2_prices = some res → W p l e ({ frames := 6, cells := 0, slots := 0, locals := 158 } : Room) s m args below meth c H locs 0 0 QQ (F0 m 27 ls []) := by
        intro l3 o_lookers o_facts p1_price_waiting p2_prices H locs ls hP hD hS hl hF
        unfold X1_tick_J27 at hF
        obtain ⟨v12, ev12⟩ : ∃ y : Int32, y = l3 + (1 : Int32) := ⟨_, rfl⟩
        have hF := nm_o hF v12 ev12
        refine lv_iinc (v := v12) (lv' := [(3, .int v12), (0, .ref q_o), (1, .ref q_p1), (2, .ref q_p2)]) hx hb dX1_tick_27 hl (k := 3) rfl (by rw [ev12]; rfl) (by decide) rfl (fun ls hl => ?_)
        refine lv_goto (tgt := 2) hx hb dX1_tick_30 (by decide) ?_
        exact ih2 v12 o_lookers o_facts p1_price_waiting p2_prices H locs ls hP hD hS (lv_sub hl [1, 2, 3, 0] rfl) hF
      intro l3 o_lookers o_facts p1_price_waiting p2_prices H locs ls hP hD hS hl hF
      rw [X1_tick_L2] at hF
      refine lv_iload_n hx hb dX1_tick_2 rfl (lv_at hl 3 rfl) ?_
      refine lv_aload_n hx hb dX1_tick_3 rfl (lv_at hl 0 rfl) ?_
      refine va_get (D := D) (ci := 1) (v := .int o_viewers) (C := RX1) (T := TX1) (N := 5) hx hb hts f_inX1 hown hK hP 0 rfl rfl 0 (by decide) f_f9 (fun _ h9 => h9) rfl dX1_tick_4 ?_
      refine lv_icmp_ge (tgt := 33) hx hb dX1_tick_7 (by decide) (fun c13 => ?_) (fun c13 => ?_)
      · have hF := if_p hF c13
        refine lv_iconst (v := 0) hx hb dX1_tick_33 (by decide) ?_
        refine lv_istore_n (lv' := [(3, .int (0 : Int32)), (0, .ref q_o), (1, .ref q_p1), (2, .ref q_p2)]) hx hb dX1_tick_34 rfl hl (by decide) rfl (fun ls hl => ?_)
        exact J35 FU (0 : Int32) o_lookers o_facts p1_price_waiting p2_prices H locs ls hP hD hS (lv_sub hl [1, 2, 3, 0] rfl) hF
      · have hF := if_n hF c13
        refine lv_aload_n hx hb dX1_tick_10 rfl (lv_at hl 0 rfl) ?_
        refine lv_iload_n hx hb dX1_tick_11 rfl (lv_at hl 3 rfl) ?_
        refine lv_iconst (v := 3) hx hb dX1_tick_12 (by decide) ?_
        obtain ⟨r14, h15, hF⟩ := bn1_o hF
        refine kd_i [(q_o, .inr (1, [.int o_viewers, .int o_lookLength, .int o_time, .ref q_o_lookers, .ref q_o_facts])), (q_o_lookers, .inl (cy 0, 4, .inl o_lookers)), (q_o_facts, .inl (cy 0, 140, .inl o_facts)), (q_p1, .inr (0, [x_p1_width, .int p1_height, x_p1_planes, .int p1_holes, .int p1_reach, x_p1_cells, x_p1_pulls, x_p1_holeX, .ref q_p1_holeY, .ref q_p1_price])), (q_p1_holeY, .inl (cy 0, 4, .inl p1_holeY)), (q_p1_price, .inr (2, [.ref q_p1_price_codes, .int p1_price_size, .ref q_p1_price_waiting])), (q_p1_price_codes, .inl (cy 0, 800, .inl p1_price_codes)), (q_p1_price_waiting, .inl (cy 0, 16, .inl p1_price_waiting)), (q_p2, .inr (5, [x_p2_seen, .ref q_p2_counts, .ref q_p2_kinds, .ref q_p2_depths, .ref q_p2_prices])), (q_p2_counts, .inl (cy 0, 104, .inl p2_counts)), (q_p2_kinds, .inl (cy 0, 4, .inl p2_kinds)), (q_p2_depths, .inl (cy 0, 4, .inl p2_depths)), (q_p2_prices, .inl (cy 0, 104, .inl p2_prices))] (va_runV (As := [.int l3, .int (3 : Int32)]) (rest := []) ⟨hx, hb, hml, hown, hts⟩ (c_X1_fact q_o q_o_facts H.size (.int o_viewers) (.int o_lookLength) (.int o_time) (.ref q_o_lookers) o_facts l3 (3 : Int32) _ h15) (cwV 2 hts gX1_tick_X1_fact rfl rfl rfl kd_X1_fact ⟨Nat.le_of_ble_eq_true rfl, Nat.le_of_ble_eq_true rfl⟩) ⟨kP_blind (EN_ok D cy) D _ _ _, va_recv hK hP (ci := 1) (q0 := 0) rfl rfl, kStart (EN_ok D cy) hE hP hD hS hA [0, 2] rfl rfl _⟩ rfl rfl hl.1 rfl (lv_room (Nat.le_of_ble_eq_true rfl)) dX1_tick_13 ⟨Nat.zero_le _, Nat.zero_le _⟩) hP hD hS hA [0, 2] [1, 3, 4, 5, 6, 7, 8, 9, 10, 11, 12] rfl rfl rfl 13 rfl (by decide +kernel) (fun H locs hP hD hS => ?_)
        refine lv_iconst (v := 1) hx hb dX1_tick_16 (by decide) ?_
        refine lv_icmp_ne (tgt := 27) hx hb dX1_tick_17 (by decide) (fun c16 => ?_) (fun c16 => ?_)
        · have hF := if_n hF c16
          exact J27 l3 o_lookers o_facts p1_price_waiting p2_prices H locs ls hP hD hS (lv_sub hl [0, 1, 2, 3] rfl) hF
        · have hF := if_p hF c16
          refine lv_aload_n hx hb dX1_tick_20 rfl (lv_at hl 0 rfl) ?_
          refine lv_iload_n hx hb dX1_tick_21 rfl (lv_at hl 3 rfl) ?_
          refine lv_aload_n hx hb dX1_tick_22 rfl (lv_at hl 1 rfl) ?_
          refine lv_aload_n hx hb dX1_tick_23 rfl (lv_at hl 2 rfl) ?_
          obtain ⟨o17, o18, o19, o20, h21, hF⟩ := bn4_o hF
          refine kd_v [(q_o, .inr (1, [.int o_viewers, .int o_lookLength, .int o_time, .ref q_o_lookers, .ref q_o_facts])), (q_o_lookers, .inl (cy 0, 4, .inl o17)), (q_o_facts, .inl (cy 0, 140, .inl o18)), (q_p1, .inr (0, [x_p1_width, .int p1_height, x_p1_planes, .int p1_holes, .int p1_reach, x_p1_cells, x_p1_pulls, x_p1_holeX, .ref q_p1_holeY, .ref q_p1_price])), (q_p1_holeY, .inl (cy 0, 4, .inl p1_holeY)), (q_p1_price, .inr (2, [.ref q_p1_price_codes, .int p1_price_size, .ref q_p1_price_waiting])), (q_p1_price_codes, .inl (cy 0, 800, .inl p1_price_codes)), (q_p1_price_waiting, .inl (cy 0, 16, .inl o19)), (q_p2, .inr (5, [x_p2_seen, .ref q_p2_counts, .ref q_p2_kinds, .ref q_p2_depths, .ref q_p2_prices])), (q_p2_counts, .inl (cy 0, 104, .inl p2_counts)), (q_p2_kinds, .inl (cy 0, 4, .inl p2_kinds)), (q_p2_depths, .inl (cy 0, 4, .inl p2_depths)), (q_p2_prices, .inl (cy 0, 104, .inl o20))] (va_runV (As := [.int l3, .ref q_p1, .ref q_p2]) (rest := []) ⟨hx, hb, hml, hown, hts⟩ (c_X1_lookOn q_o q_o_lookers q_o_facts q_p1 q_p1_price q_p1_price_codes q_p1_price_waiting q_p2 q_p2_counts q_p2_kinds q_p2_depths q_p2_prices H.size (.int o_viewers) (.int o_lookLength) (.int o_time) x_p1_width (.int p1_height) x_p1_planes (.int p1_holes) (.int p1_reach) x_p1_cells x_p1_pulls x_p1_holeX (.ref q_p1_holeY) x_p2_seen o_lookers o_facts p1_price_size p1_price_codes p1_price_waiting p2_counts p2_kinds p2_depths p2_prices l3 _ h21) (cwV 3 hts gX1_tick_X1_lookOn rfl rfl rfl kd_X1_lookOn ⟨Nat.le_of_ble_eq_true rfl, Nat.le_of_ble_eq_true rfl⟩) ⟨kP_blind (EN_ok D cy) D _ _ _, va_recv hK hP (ci := 1) (q0 := 0) rfl rfl, kStart (EN_ok D cy) hE hP hD hS hA [0, 1, 2, 3, 5, 6, 7, 8, 9, 10, 11, 12] rfl rfl _⟩ rfl rfl hl.1 rfl (lv_room (Nat.le_of_ble_eq_true rfl)) dX1_tick_24 ⟨Nat.zero_le _, Nat.zero_le _⟩) hP hD hS hA [0, 1, 2, 3, 5, 6, 7, 8, 9, 10, 11, 12] [4] rfl rfl rfl 13 rfl (by decide +kernel) (fun H locs hP hD hS => ?_)
          exact J27 l3 o17 o18 o19 o20 H locs ls hP hD hS (lv_sub hl [0, 1, 2, 3] rfl) hF
  have main : ∀ (H : Heap) (locs : List Loc) (ls : Array Slot), va_P D vwCl [(q_o, .inr (1, [.int o_viewers, .int o_lookLength, .int o_time, .ref q_o_lookers, .ref q_o_facts])), (q_o_lookers, .inl (cy 0, 4, .inl o_lookers)), (q_o_facts, .inl (cy 0, 140, .inl o_facts)), (q_p1, .inr (0, [x_p1_width, .int p1_height, x_p1_planes, .int p1_holes, .int p1_reach, x_p1_cells, x_p1_pulls, x_p1_holeX, .ref q_p1_holeY, .ref q_p1_price])), (q_p1_holeY, .inl (cy 0, 4, .inl p1_holeY)), (q_p1_price, .inr (2, [.ref q_p1_price_codes, .int p1_price_size, .ref q_p1_price_waiting])), (q_p1_price_codes, .inl (cy 0, 800, .inl p1_price_codes)), (q_p1_price_waiting, .inl (cy 0, 16, .inl p1_price_waiting)), (q_p2, .inr (5, [x_p2_seen, .ref q_p2_counts, .ref q_p2_kinds, .ref q_p2_depths, .ref q_p2_prices])), (q_p2_counts, .inl (cy 0, 104, .inl p2_counts)), (q_p2_kinds, .inl (cy 0, 4, .inl p2_kinds)), (q_p2_depths, .inl (cy 0, 4, .inl p2_depths)), (q_p2_prices, .inl (cy 0, 104, .inl p2_prices))] H → va_D A [(q_o, .inr (1, [.int o_viewers, .int o_lookLength, .int o_time, .ref q_o_lookers, .ref q_o_facts])), (q_o_lookers, .inl (cy 0, 4, .inl o_lookers)), (q_o_facts, .inl (cy 0, 140, .inl o_facts)), (q_p1, .inr (0, [x_p1_width, .int p1_height, x_p1_planes, .int p1_holes, .int p1_reach, x_p1_cells, x_p1_pulls, x_p1_holeX, .ref q_p1_holeY, .ref q_p1_price])), (q_p1_holeY, .inl (cy 0, 4, .inl p1_holeY)), (q_p1_price, .inr (2, [.ref q_p1_price_codes, .int p1_price_size, .ref q_p1_price_waiting])), (q_p1_price_codes, .inl (cy 0, 800, .inl p1_price_codes)), (q_p1_price_waiting, .inl (cy 0, 16, .inl p1_price_waiting)), (q_p2, .inr (5, [x_p2_seen, .ref q_p2_counts, .ref q_p2_kinds, .ref q_p2_depths, .ref q_p2_prices])), (q_p2_counts, .inl (cy 0, 104, .inl p2_counts)), (q_p2_kinds, .inl (cy 0, 4, .inl p2_kinds)), (q_p2_depths, .inl (cy 0, 4, .inl p2_depths)), (q_p2_prices, .inl (cy 0, 104, .inl p2_prices))] → va_S A s.heap H locs → lv_has ls 4 [(0, .ref q_o), (1, .ref q_p1), (2, .ref q_p2)] → W p l e ({ frames := 6, cells := 0, slots := 0, locals := 158 } : Room) s m args below meth c H locs 0 0 QQ (F0 m 0 ls []) := by
    intro H locs ls hP hD hS hl
    unfold X1_tick at hF
    refine lv_iconst (v := 0) hx hb dX1_tick_0 (by decide) ?_
    refine lv_istore_n (lv' := [(3, .int (0 : Int32)), (0, .ref q_o), (1, .ref q_p1), (2, .ref q_p2)]) hx hb dX1_tick_1 rfl hl (by decide) rfl (fun ls hl => ?_)
    exact J2 FU (0 : Int32) o_lookers o_facts p1_price_waiting p2_prices H locs ls hP hD hS (lv_sub hl [1, 2, 3, 0] rfl) hF
  exact main s.heap [] ls hP hD hS hl
theorem kd_X3_hasRoomFor : yX3_hasRoomFor.cls = RX3 ∧ yX3_hasRoomFor.cls ≠ "java/lang/invoke/MethodHandle" ∧ yX3_hasRoomFor.cls ≠ "java/lang/invoke/VarHandle" ∧ (parseMethodDescriptor yX3_hasRoomFor.desc).map (fun d => d.parameters.length) = some 1 := by decide +kernel
set_option maxHeartbeats 4000000 in
set_option maxRecDepth 100000 in
theorem c_X3_hasRoomFor {l : Launch} {D : va_G} {cy : Nat → ClassId} (q_o : Nat) (sz : Nat) (x_o_show x_o_error x_o_errorAt x_o_bytes x_o_end x_o_at x_o_number x_o_planesTold x_o_reachTold x_o_lengthTold x_o_priceTold : Value) (o_filled : Int32) (p1 : Int32) (res : Int32) (hF : X3_hasRoomFor o_filled p1 = some res) : Met l yX3_hasRoomFor wsX3_hasRoomFor ({ frames := 0, cells := 0, slots := 0, locals := 0 } : Room) (kP (EN D cy) D [.ref q_o, .int p1] [(q_o, .inr (3, [x_o_show, .int o_filled, x_o_error, x_o_errorAt, x_o_bytes, x_o_end, x_o_at, x_o_number, x_o_planesTold, x_o_reachTold, x_o_lengthTold, x_o_priceTold]))] sz) (kQi D res [(q_o, .inr (3, [x_o_show, .int o_filled, x_o_error, x_o_errorAt, x_o_bytes, x_o_end, x_o_at, x_o_number, x_o_planesTold, x_o_reachTold, x_o_lengthTold, x_o_priceTold]))] (va_A [(q_o, .inr (3, [x_o_show, .int o_filled, x_o_error, x_o_errorAt, x_o_bytes, x_o_end, x_o_at, x_o_number, x_o_planesTold, x_o_reachTold, x_o_lengthTold, x_o_priceTold]))] sz)) 0 0 (va_A [(q_o, .inr (3, [x_o_show, .int o_filled, x_o_error, x_o_errorAt, x_o_bytes, x_o_end, x_o_at, x_o_number, x_o_planesTold, x_o_reachTold, x_o_lengthTold, x_o_priceTold]))] sz) := by
  refine kMet (y := yX3_hasRoomFor) (av := [.ref q_o, .int p1]) (cc := cX3_hasRoomFor) (maxL := 2) (ret := some .boolean) (own := RX3) (Qc := fun A9 => (kQi D res [(q_o, .inr (3, [x_o_show, .int o_filled, x_o_error, x_o_errorAt, x_o_bytes, x_o_end, x_o_at, x_o_number, x_o_planesTold, x_o_reachTold, x_o_lengthTold, x_o_priceTold]))] A9)) (by decide) rfl rfl (Nat.le_of_ble_eq_true rfl) ?_
  intro p e s m args below meth c A hx hb hr hts hown hml hlocks hname hE hP hD hA hsz ls hl
  have hK := hE.1
  have hl : lv_has ls 2 [(0, .ref q_o), (1, .int p1)] := hl
  have hS : va_S A s.heap s.heap [] := va_S.rf
  have f_f18 := hts (.fieldLink RX3 18 "PeepBox$Setup" "filled" "I") (by decide +kernel)
  have f_inX3 : ∀ w ∈ wsX30, w ∈ wsX3_hasRoomFor := by decide +kernel
  obtain ⟨QQ, hQQ⟩ : ∃ Q9, Q9 = MQ below (kQi D res [(q_o, .inr (3, [x_o_show, .int o_filled, x_o_error, x_o_errorAt, x_o_bytes, x_o_end, x_o_at, x_o_number, x_o_planesTold, x_o_reachTold, x_o_lengthTold, x_o_priceTold]))] A) args s 0 0 A := ⟨_, rfl⟩
  rw [← hQQ]
  have main : ∀ (H : Heap) (locs : List Loc) (ls : Array Slot), va_P D vwCl [(q_o, .inr (3, [x_o_show, .int o_filled, x_o_error, x_o_errorAt, x_o_bytes, x_o_end, x_o_at, x_o_number, x_o_planesTold, x_o_reachTold, x_o_lengthTold, x_o_priceTold]))] H → va_D A [(q_o, .inr (3, [x_o_show, .int o_filled, x_o_error, x_o_errorAt, x_o_bytes, x_o_end, x_o_at, x_o_number, x_o_planesTold, x_o_reachTold, x_o_lengthTold, x_o_priceTold]))] → va_S A s.heap H locs → lv_has ls 2 [(0, .ref q_o), (1, .int p1)] → W p l e ({ frames := 0, cells := 0, slots := 0, locals := 0 } : Room) s m args below meth c H locs 0 0 QQ (F0 m 0 ls []) := by
    intro H locs ls hP hD hS hl
    unfold X3_hasRoomFor at hF
    refine lv_aload_n hx hb dX3_hasRoomFor_0 rfl (lv_at hl 0 rfl) ?_
    refine va_get (D := D) (ci := 3) (v := .int o_filled) (C := RX3) (T := TX3) (N := 12) hx hb hts f_inX3 hown hK hP 0 rfl rfl 1 (by decide) f_f18 (fun _ h9 => h9) rfl dX3_hasRoomFor_1 ?_
    refine lv_iload_n hx hb dX3_hasRoomFor_4 rfl (lv_at hl 1 rfl) ?_
    refine lv_iadd hx hb dX3_hasRoomFor_5 ?_
    refine lv_sipush (v := 800) hx hb dX3_hasRoomFor_6 (by decide) ?_
    refine lv_icmp_gt (tgt := 16) hx hb dX3_hasRoomFor_9 (by decide) (fun c1 => ?_) (fun c1 => ?_)
    · have hF := if_p hF c1
      refine lv_iconst (v := 0) hx hb dX3_hasRoomFor_16 (by decide) ?_
      obtain rfl := so_o hF
      rw [hQQ]
      exact kr_z (v := (0 : Int32)) hx hb hr hlocks rfl hP hD hS dX3_hasRoomFor_17
    · have hF := if_n hF c1
      refine lv_iconst (v := 1) hx hb dX3_hasRoomFor_12 (by decide) ?_
      refine lv_goto (tgt := 17) hx hb dX3_hasRoomFor_13 (by decide) ?_
      obtain rfl := so_o hF
      rw [hQQ]
      exact kr_z (v := (1 : Int32)) hx hb hr hlocks rfl hP hD hS dX3_hasRoomFor_17
  exact main s.heap [] ls hP hD hS hl
theorem kd_X3_put : yX3_put.cls = RX3 ∧ yX3_put.cls ≠ "java/lang/invoke/MethodHandle" ∧ yX3_put.cls ≠ "java/lang/invoke/VarHandle" ∧ (parseMethodDescriptor yX3_put.desc).map (fun d => d.parameters.length) = some 1 := by decide +kernel
set_option maxHeartbeats 4000000 in
set_option maxRecDepth 100000 in
theorem c_X3_put {l : Launch} {D : va_G} {cy : Nat → ClassId} (q_o q_o_bytes : Nat) (sz : Nat) (x_o_show x_o_error x_o_errorAt x_o_end x_o_at x_o_number x_o_planesTold x_o_reachTold x_o_lengthTold x_o_priceTold : Value) (o_filled : Int32) (o_bytes : Nat → Int32) (p1 : Int32) (res : Int32 × (Nat → Int32)) (hF : X3_put o_filled o_bytes p1 = some res) : Met l yX3_put wsX3_put ({ frames := 0, cells := 0, slots := 0, locals := 0 } : Room) (kP (EN D cy) D [.ref q_o, .int p1] [(q_o, .inr (3, [x_o_show, .int o_filled, x_o_error, x_o_errorAt, .ref q_o_bytes, x_o_end, x_o_at, x_o_number, x_o_planesTold, x_o_reachTold, x_o_lengthTold, x_o_priceTold])), (q_o_bytes, .inl (cy 1, 800, .inl o_bytes))] sz) (kQv D [(q_o, .inr (3, [x_o_show, .int res.1, x_o_error, x_o_errorAt, .ref q_o_bytes, x_o_end, x_o_at, x_o_number, x_o_planesTold, x_o_reachTold, x_o_lengthTold, x_o_priceTold])), (q_o_bytes, .inl (cy 1, 800, .inl res.2))] (va_A [(q_o, .inr (3, [x_o_show, .int o_filled, x_o_error, x_o_errorAt, .ref q_o_bytes, x_o_end, x_o_at, x_o_number, x_o_planesTold, x_o_reachTold, x_o_lengthTold, x_o_priceTold])), (q_o_bytes, .inl (cy 1, 800, .inl o_bytes))] sz)) 0 0 (va_A [(q_o, .inr (3, [x_o_show, .int o_filled, x_o_error, x_o_errorAt, .ref q_o_bytes, x_o_end, x_o_at, x_o_number, x_o_planesTold, x_o_reachTold, x_o_lengthTold, x_o_priceTold])), (q_o_bytes, .inl (cy 1, 800, .inl o_bytes))] sz) := by
  refine kMet (y := yX3_put) (av := [.ref q_o, .int p1]) (cc := cX3_put) (maxL := 3) (ret := none) (own := RX3) (Qc := fun A9 => (kQv D [(q_o, .inr (3, [x_o_show, .int res.1, x_o_error, x_o_errorAt, .ref q_o_bytes, x_o_end, x_o_at, x_o_number, x_o_planesTold, x_o_reachTold, x_o_lengthTold, x_o_priceTold])), (q_o_bytes, .inl (cy 1, 800, .inl res.2))] A9)) (by decide) rfl rfl (Nat.le_of_ble_eq_true rfl) ?_
  intro p e s m args below meth c A hx hb hr hts hown hml hlocks hname hE hP hD hA hsz ls hl
  have hK := hE.1
  have hl : lv_has ls 3 [(0, .ref q_o), (1, .int p1)] := hl
  have hS : va_S A s.heap s.heap [] := va_S.rf
  have f_f18 := hts (.fieldLink RX3 18 "PeepBox$Setup" "filled" "I") (by decide +kernel)
  have f_inX3 : ∀ w ∈ wsX30, w ∈ wsX3_put := by decide +kernel
  have f_f28 := hts (.fieldLink RX3 28 "PeepBox$Setup" "bytes" "[B") (by decide +kernel)
  obtain ⟨QQ, hQQ⟩ : ∃ Q9, Q9 = MQ below (kQv D [(q_o, .inr (3, [x_o_show, .int res.1, x_o_error, x_o_errorAt, .ref q_o_bytes, x_o_end, x_o_at, x_o_number, x_o_planesTold, x_o_reachTold, x_o_lengthTold, x_o_priceTold])), (q_o_bytes, .inl (cy 1, 800, .inl res.2))] A) args s 0 0 A := ⟨_, rfl⟩
  rw [← hQQ]
  have J3 : ∀ (n3 : Nat) (l2 : Int32) (o_filled : Int32) (o_bytes : Nat → Int32) (H : Heap) (locs : List Loc) (ls : Array Slot), va_P D vwCl [(q_o, .inr (3, [x_o_show, .int o_filled, x_o_error, x_o_errorAt, .ref q_o_bytes, x_o_end, x_o_at, x_o_number, x_o_planesTold, x_o_reachTold, x_o_lengthTold, x_o_priceTold])), (q_o_bytes, .inl (cy 1, 800, .inl o_bytes))] H → va_D A [(q_o, .inr (3, [x_o_show, .int o_filled, x_o_error, x_o_errorAt, .ref q_o_bytes, x_o_end, x_o_at, x_o_number, x_o_planesTold, x_o_reachTold, x_o_lengthTold, x_o_priceTold])), (q_o_bytes, .inl (cy 1, 800, .inl o_bytes))] → va_S A s.heap H locs → lv_has ls 3 [(0, .ref q_o), (1, .int p1), (2, .int l2)] → X3_put_L3 p1 n3 l2 o_filled o_bytes = some res → W p l e ({ frames := 0, cells := 0, slots := 0, locals := 0 } : Room) s m args below meth c H locs 0 0 QQ (F0 m 3 ls []) := by
    intro n3
    induction n3 with
    | zero =>
      intro l2 o_filled o_bytes H locs ls hP hD hS hl hF
      rw [X3_put_L3] at hF
      cases hF
    | succ n3 ih3 =>
      intro l2 o_filled o_bytes H locs ls hP hD hS hl hF
      rw [X3_put_L3] at hF
      refine lv_iload_n hx hb dX3_put_3 rfl (lv_at hl 2 rfl) ?_
      refine lv_if_lt (tgt := 46) hx hb dX3_put_4 (by decide) (fun c1 => ?_) (fun c1 => ?_)
      · have hF := if_p hF c1
        obtain rfl := so_o hF
        rw [hQQ]
        exact kr_v hx hb hr hlocks hP hD hS dX3_put_46
      · have hF := if_n hF c1
        refine lv_aload_n hx hb dX3_put_7 rfl (lv_at hl 0 rfl) ?_
        refine va_get (D := D) (ci := 3) (v := .int o_filled) (C := RX3) (T := TX3) (N := 12) hx hb hts f_inX3 hown hK hP 0 rfl rfl 1 (by decide) f_f18 (fun _ h9 => h9) rfl dX3_put_8 ?_
        refine lv_sipush (v := 800) hx hb dX3_put_11 (by decide) ?_
        refine lv_icmp_ge (tgt := 46) hx hb dX3_put_14 (by decide) (fun c2 => ?_) (fun c2 => ?_)
        · have hF := if_p hF c2
          obtain rfl := so_o hF
          rw [hQQ]
          exact kr_v hx hb hr hlocks hP hD hS dX3_put_46
        · have hF := if_n hF c2
          refine lv_aload_n hx hb dX3_put_17 rfl (lv_at hl 0 rfl) ?_
          refine va_get (D := D) (ci := 3) (v := .ref q_o_bytes) (C := RX3) (T := TX3) (N := 12) hx hb hts f_inX3 hown hK hP 0 rfl rfl 4 (by decide) f_f28 (fun _ h9 => h9) rfl dX3_put_18 ?_
          refine lv_aload_n hx hb dX3_put_21 rfl (lv_at hl 0 rfl) ?_
          refine va_get (D := D) (ci := 3) (v := .int o_filled) (C := RX3) (T := TX3) (N := 12) hx hb hts f_inX3 hown hK hP 0 rfl rfl 1 (by decide) f_f18 (fun _ h9 => h9) rfl dX3_put_22 ?_
          refine lv_iload_n hx hb dX3_put_25 rfl (lv_at hl 1 rfl) ?_
          refine lv_iload_n hx hb dX3_put_26 rfl (lv_at hl 2 rfl) ?_
          refine lv_iushr hx hb dX3_put_27 rfl ?_
          refine lv_i2b hx hb dX3_put_28 rfl ?_
          obtain ⟨h3, hF⟩ := st_o hF
          refine va_bast hx hb hK hP hD hS 1 1 rfl rfl h3 dX3_put_29 (fun H locs hP hD hS => ?_)
          obtain ⟨b4, eb4⟩ : ∃ y : Nat → Int32, y = (upd o_bytes o_filled.toNatClampNeg (vp_nar .byte (((p1).toUInt32 >>> ((l2).toUInt32 &&& Int32.toUInt32 31)).toInt32).toInt8.toInt32)) := ⟨_, rfl⟩
          have hF := hF b4 eb4
          have hP : va_P D vwCl [(q_o, .inr (3, [x_o_show, .int o_filled, x_o_error, x_o_errorAt, .ref q_o_bytes, x_o_end, x_o_at, x_o_number, x_o_planesTold, x_o_reachTold, x_o_lengthTold, x_o_priceTold])), (q_o_bytes, .inl (cy 1, 800, .inl b4))] H := by rw [eb4]; exact hP
          have hD : va_D A [(q_o, .inr (3, [x_o_show, .int o_filled, x_o_error, x_o_errorAt, .ref q_o_bytes, x_o_end, x_o_at, x_o_number, x_o_planesTold, x_o_reachTold, x_o_lengthTold, x_o_priceTold])), (q_o_bytes, .inl (cy 1, 800, .inl b4))] := by rw [eb4]; exact hD
          refine lv_aload_n hx hb dX3_put_30 rfl (lv_at hl 0 rfl) ?_
          refine lv_dup hx hb dX3_put_31 rfl ?_
          refine va_get (D := D) (ci := 3) (v := .int o_filled) (C := RX3) (T := TX3) (N := 12) hx hb hts f_inX3 hown hK hP 0 rfl rfl 1 (by decide) f_f18 (fun _ h9 => h9) rfl dX3_put_32 ?_
          refine lv_iconst (v := 1) hx hb dX3_put_35 (by decide) ?_
          refine lv_iadd hx hb dX3_put_36 ?_
          refine lv_topi (fun v5 ev5 => ?_)
          have hF := nm_o hF v5 ev5
          refine va_put (D := D) (ci := 3) (v := .int v5) (ty := .int) (C := RX3) (T := TX3) (N := 12) hx hb hts f_inX3 tyX3 tyX3_ok nmX3 hown hK hP hD hS 0 rfl rfl 1 (by decide) f_f18 (fun _ h9 => h9) rfl (by decide +kernel) rfl rfl (Nat.le_of_ble_eq_true rfl) dX3_put_37 (fun H locs hP hD hS => ?_)
          have hP : va_P D vwCl [(q_o, .inr (3, [x_o_show, .int v5, x_o_error, x_o_errorAt, .ref q_o_bytes, x_o_end, x_o_at, x_o_number, x_o_planesTold, x_o_reachTold, x_o_lengthTold, x_o_priceTold])), (q_o_bytes, .inl (cy 1, 800, .inl b4))] H := hP
          have hD : va_D A [(q_o, .inr (3, [x_o_show, .int v5, x_o_error, x_o_errorAt, .ref q_o_bytes, x_o_end, x_o_at, x_o_number, x_o_planesTold, x_o_reachTold, x_o_lengthTold, x_o_priceTold])), (q_o_bytes, .inl (cy 1, 800, .inl b4))] := hD
          obtain ⟨v6, ev6⟩ : ∃ y : Int32, y = l2 + (-8 : Int32) := ⟨_, rfl⟩
          have hF := nm_o hF v6 ev6
          refine lv_iinc (v := v6) (lv' := [(2, .int v6), (0, .ref q_o), (1, .int p1)]) hx hb dX3_put_40 hl (k := 2) rfl (by rw [ev6]; rfl) (by decide) rfl (fun ls hl => ?_)
          refine lv_goto (tgt := 3) hx hb dX3_put_43 (by decide) ?_
          exact ih3 v6 v5 b4 H locs ls hP hD hS (lv_sub hl [1, 2, 0] rfl) hF
  have main : ∀ (H : Heap) (locs : List Loc) (ls : Array Slot), va_P D vwCl [(q_o, .inr (3, [x_o_show, .int o_filled, x_o_error, x_o_errorAt, .ref q_o_bytes, x_o_end, x_o_at, x_o_number, x_o_planesTold, x_o_reachTold, x_o_lengthTold, x_o_priceTold])), (q_o_bytes, .inl (cy 1, 800, .inl o_bytes))] H → va_D A [(q_o, .inr (3, [x_o_show, .int o_filled, x_o_error, x_o_errorAt, .ref q_o_bytes, x_o_end, x_o_at, x_o_number, x_o_planesTold, x_o_reachTold, x_o_lengthTold, x_o_priceTold])), (q_o_bytes, .inl (cy 1, 800, .inl o_bytes))] → va_S A s.heap H locs → lv_has ls 3 [(0, .ref q_o), (1, .int p1)] → W p l e ({ frames := 0, cells := 0, slots := 0, locals := 0 } : Room) s m args below meth c H locs 0 0 QQ (F0 m 0 ls []) := by
    intro H locs ls hP hD hS hl
    unfold X3_put at hF
    refine lv_bipush (v := 24) hx hb dX3_put_0 (by decide) ?_
    refine lv_istore_n (lv' := [(2, .int (24 : Int32)), (0, .ref q_o), (1, .int p1)]) hx hb dX3_put_2 rfl hl (by decide) rfl (fun ls hl => ?_)
    exact J3 FU (24 : Int32) o_filled o_bytes H locs ls hP hD hS (lv_sub hl [1, 2, 0] rfl) hF
  exact main s.heap [] ls hP hD hS hl
theorem kd_X3_begin : yX3_begin.cls = RX3 ∧ yX3_begin.cls ≠ "java/lang/invoke/MethodHandle" ∧ yX3_begin.cls ≠ "java/lang/invoke/VarHandle" ∧ (parseMethodDescriptor yX3_begin.desc).map (fun d => d.parameters.length) = some 1 := by decide +kernel
set_option maxHeartbeats 4000000 in
set_option maxRecDepth 100000 in
theorem c_X3_begin {l : Launch} {D : va_G} {cy : Nat → ClassId} (q_o : Nat) (sz : Nat) (x_o_show x_o_bytes x_o_number : Value) (o_filled : Int32) (o_error : Int32) (o_errorAt : Int32) (o_end : Int32) (o_at : Int32) (o_planesTold : Int32) (o_reachTold : Int32) (o_lengthTold : Int32) (o_priceTold : Int32) (p1 : Int32) (res : Int32 × Int32 × Int32 × Int32 × Int32 × Int32 × Int32 × Int32 × Int32) (hF : X3_begin o_filled o_error o_errorAt o_end o_at o_planesTold o_reachTold o_lengthTold o_priceTold p1 = some res) : Met l yX3_begin wsX3_begin ({ frames := 1, cells := 0, slots := 0, locals := 30 } : Room) (kP (EN D cy) D [.ref q_o, .int p1] [(q_o, .inr (3, [x_o_show, .int o_filled, .int o_error, .int o_errorAt, x_o_bytes, .int o_end, .int o_at, x_o_number, .int o_planesTold, .int o_reachTold, .int o_lengthTold, .int o_priceTold]))] sz) (kQv D [(q_o, .inr (3, [x_o_show, .int res.1, .int res.2.1, .int res.2.2.1, x_o_bytes, .int res.2.2.2.1, .int res.2.2.2.2.1, x_o_number, .int res.2.2.2.2.2.1, .int res.2.2.2.2.2.2.1, .int res.2.2.2.2.2.2.2.1, .int res.2.2.2.2.2.2.2.2]))] (va_A [(q_o, .inr (3, [x_o_show, .int o_filled, .int o_error, .int o_errorAt, x_o_bytes, .int o_end, .int o_at, x_o_number, .int o_planesTold, .int o_reachTold, .int o_lengthTold, .int o_priceTold]))] sz)) 0 0 (va_A [(q_o, .inr (3, [x_o_show, .int o_filled, .int o_error, .int o_errorAt, x_o_bytes, .int o_end, .int o_at, x_o_number, .int o_planesTold, .int o_reachTold, .int o_lengthTold, .int o_priceTold]))] sz) := by
  refine kMet (y := yX3_begin) (av := [.ref q_o, .int p1]) (cc := cX3_begin) (maxL := 2) (ret := none) (own := RX3) (Qc := fun A9 => (kQv D [(q_o, .inr (3, [x_o_show, .int res.1, .int res.2.1, .int res.2.2.1, x_o_bytes, .int res.2.2.2.1, .int res.2.2.2.2.1, x_o_number, .int res.2.2.2.2.2.1, .int res.2.2.2.2.2.2.1, .int res.2.2.2.2.2.2.2.1, .int res.2.2.2.2.2.2.2.2]))] A9)) (by decide) rfl rfl (Nat.le_of_ble_eq_true rfl) ?_
  intro p e s m args below meth c A hx hb hr hts hown hml hlocks hname hE hP hD hA hsz ls hl
  have hK := hE.1
  have hl : lv_has ls 2 [(0, .ref q_o), (1, .int p1)] := hl
  have hS : va_S A s.heap s.heap [] := va_S.rf
  have f_f18 := hts (.fieldLink RX3 18 "PeepBox$Setup" "filled" "I") (by decide +kernel)
  have f_inX3 : ∀ w ∈ wsX30, w ∈ wsX3_begin := by decide +kernel
  have f_m86 := hts (.methodLink RX3 86 Lib.Math.min.name) (by decide +kernel)
  have f_s_va_mmin := hts (.static Lib.Math.min.name) (by decide +kernel)
  have f_iMath := hts (.initialized "java/lang/Math") (by decide +kernel)
  have f_k_va_mmin := hts (.code Lib.Math.min.name Lib.Math.min.code 2 (some .int)) (by decide +kernel)
  have f_f32 := hts (.fieldLink RX3 32 "PeepBox$Setup" "end" "I") (by decide +kernel)
  have f_f35 := hts (.fieldLink RX3 35 "PeepBox$Setup" "at" "I") (by decide +kernel)
  have f_f22 := hts (.fieldLink RX3 22 "PeepBox$Setup" "error" "I") (by decide +kernel)
  have f_f25 := hts (.fieldLink RX3 25 "PeepBox$Setup" "errorAt" "I") (by decide +kernel)
  have f_f41 := hts (.fieldLink RX3 41 "PeepBox$Setup" "planesTold" "I") (by decide +kernel)
  have f_f44 := hts (.fieldLink RX3 44 "PeepBox$Setup" "reachTold" "Z") (by decide +kernel)
  have f_f48 := hts (.fieldLink RX3 48 "PeepBox$Setup" "lengthTold" "Z") (by decide +kernel)
  have f_f51 := hts (.fieldLink RX3 51 "PeepBox$Setup" "priceTold" "Z") (by decide +kernel)
  obtain ⟨QQ, hQQ⟩ : ∃ Q9, Q9 = MQ below (kQv D [(q_o, .inr (3, [x_o_show, .int res.1, .int res.2.1, .int res.2.2.1, x_o_bytes, .int res.2.2.2.1, .int res.2.2.2.2.1, x_o_number, .int res.2.2.2.2.2.1, .int res.2.2.2.2.2.2.1, .int res.2.2.2.2.2.2.2.1, .int res.2.2.2.2.2.2.2.2]))] A) args s 0 0 A := ⟨_, rfl⟩
  rw [← hQQ]
  have main : ∀ (H : Heap) (locs : List Loc) (ls : Array Slot), va_P D vwCl [(q_o, .inr (3, [x_o_show, .int o_filled, .int o_error, .int o_errorAt, x_o_bytes, .int o_end, .int o_at, x_o_number, .int o_planesTold, .int o_reachTold, .int o_lengthTold, .int o_priceTold]))] H → va_D A [(q_o, .inr (3, [x_o_show, .int o_filled, .int o_error, .int o_errorAt, x_o_bytes, .int o_end, .int o_at, x_o_number, .int o_planesTold, .int o_reachTold, .int o_lengthTold, .int o_priceTold]))] → va_S A s.heap H locs → lv_has ls 2 [(0, .ref q_o), (1, .int p1)] → W p l e ({ frames := 1, cells := 0, slots := 0, locals := 30 } : Room) s m args below meth c H locs 0 0 QQ (F0 m 0 ls []) := by
    intro H locs ls hP hD hS hl
    unfold X3_begin at hF
    refine lv_aload_n hx hb dX3_begin_0 rfl (lv_at hl 0 rfl) ?_
    refine lv_iload_n hx hb dX3_begin_1 rfl (lv_at hl 1 rfl) ?_
    refine lv_aload_n hx hb dX3_begin_2 rfl (lv_at hl 0 rfl) ?_
    refine va_get (D := D) (ci := 3) (v := .int o_filled) (C := RX3) (T := TX3) (N := 12) hx hb hts f_inX3 hown hK hP 0 rfl rfl 1 (by decide) f_f18 (fun _ h9 => h9) rfl dX3_begin_3 ?_
    refine va_mmin hx hb (by rw [hml]; exact hl.1.symm) hown f_m86 f_s_va_mmin f_iMath f_k_va_mmin (Nat.le_of_ble_eq_true rfl) (Nat.le_of_ble_eq_true rfl) (Nat.zero_le _) (Nat.zero_le _) dX3_begin_6 ?_
    refine lv_topi (fun v1 ev1 => ?_)
    have hF := nm_o hF v1 ev1
    refine va_put (D := D) (ci := 3) (v := .int v1) (ty := .int) (C := RX3) (T := TX3) (N := 12) hx hb hts f_inX3 tyX3 tyX3_ok nmX3 hown hK hP hD hS 0 rfl rfl 5 (by decide) f_f32 (fun _ h9 => h9) rfl (by decide +kernel) rfl rfl (Nat.le_of_ble_eq_true rfl) dX3_begin_9 (fun H locs hP hD hS => ?_)
    have hP : va_P D vwCl [(q_o, .inr (3, [x_o_show, .int o_filled, .int o_error, .int o_errorAt, x_o_bytes, .int v1, .int o_at, x_o_number, .int o_planesTold, .int o_reachTold, .int o_lengthTold, .int o_priceTold]))] H := hP
    have hD : va_D A [(q_o, .inr (3, [x_o_show, .int o_filled, .int o_error, .int o_errorAt, x_o_bytes, .int v1, .int o_at, x_o_number, .int o_planesTold, .int o_reachTold, .int o_lengthTold, .int o_priceTold]))] := hD
    refine lv_aload_n hx hb dX3_begin_12 rfl (lv_at hl 0 rfl) ?_
    refine lv_iconst (v := 0) hx hb dX3_begin_13 (by decide) ?_
    refine va_put (D := D) (ci := 3) (v := .int (0 : Int32)) (ty := .int) (C := RX3) (T := TX3) (N := 12) hx hb hts f_inX3 tyX3 tyX3_ok nmX3 hown hK hP hD hS 0 rfl rfl 1 (by decide) f_f18 (fun _ h9 => h9) rfl (by decide +kernel) rfl rfl (Nat.le_of_ble_eq_true rfl) dX3_begin_14 (fun H locs hP hD hS => ?_)
    have hP : va_P D vwCl [(q_o, .inr (3, [x_o_show, .int (0 : Int32), .int o_error, .int o_errorAt, x_o_bytes, .int v1, .int o_at, x_o_number, .int o_planesTold, .int o_reachTold, .int o_lengthTold, .int o_priceTold]))] H := hP
    have hD : va_D A [(q_o, .inr (3, [x_o_show, .int (0 : Int32), .int o_error, .int o_errorAt, x_o_bytes, .int v1, .int o_at, x_o_number, .int o_planesTold, .int o_reachTold, .int o_lengthTold, .int o_priceTold]))] := hD
    refine lv_aload_n hx hb dX3_begin_17 rfl (lv_at hl 0 rfl) ?_
    refine lv_iconst (v := 0) hx hb dX3_begin_18 (by decide) ?_
    refine va_put (D := D) (ci := 3) (v := .int (0 : Int32)) (ty := .int) (C := RX3) (T := TX3) (N := 12) hx hb hts f_inX3 tyX3 tyX3_ok nmX3 hown hK hP hD hS 0 rfl rfl 6 (by decide) f_f35 (fun _ h9 => h9) rfl (by decide +kernel) rfl rfl (Nat.le_of_ble_eq_true rfl) dX3_begin_19 (fun H locs hP hD hS => ?_)
    have hP : va_P D vwCl [(q_o, .inr (3, [x_o_show, .int (0 : Int32), .int o_error, .int o_errorAt, x_o_bytes, .int v1, .int (0 : Int32), x_o_number, .int o_planesTold, .int o_reachTold, .int o_lengthTold, .int o_priceTold]))] H := hP
    have hD : va_D A [(q_o, .inr (3, [x_o_show, .int (0 : Int32), .int o_error, .int o_errorAt, x_o_bytes, .int v1, .int (0 : Int32), x_o_number, .int o_planesTold, .int o_reachTold, .int o_lengthTold, .int o_priceTold]))] := hD
    refine lv_aload_n hx hb dX3_begin_22 rfl (lv_at hl 0 rfl) ?_
    refine lv_iconst (v := 0) hx hb dX3_begin_23 (by decide) ?_
    refine va_put (D := D) (ci := 3) (v := .int (0 : Int32)) (ty := .int) (C := RX3) (T := TX3) (N := 12) hx hb hts f_inX3 tyX3 tyX3_ok nmX3 hown hK hP hD hS 0 rfl rfl 2 (by decide) f_f22 (fun _ h9 => h9) rfl (by decide +kernel) rfl rfl (Nat.le_of_ble_eq_true rfl) dX3_begin_24 (fun H locs hP hD hS => ?_)
    have hP : va_P D vwCl [(q_o, .inr (3, [x_o_show, .int (0 : Int32), .int (0 : Int32), .int o_errorAt, x_o_bytes, .int v1, .int (0 : Int32), x_o_number, .int o_planesTold, .int o_reachTold, .int o_lengthTold, .int o_priceTold]))] H := hP
    have hD : va_D A [(q_o, .inr (3, [x_o_show, .int (0 : Int32), .int (0 : Int32), .int o_errorAt, x_o_bytes, .int v1, .int (0 : Int32), x_o_number, .int o_planesTold, .int o_reachTold, .int o_lengthTold, .int o_priceTold]))] := hD
    refine lv_aload_n hx hb dX3_begin_27 rfl (lv_at hl 0 rfl) ?_
    refine lv_iconst (v := -1) hx hb dX3_begin_28 (by decide) ?_
    refine va_put (D := D) (ci := 3) (v := .int (-1 : Int32)) (ty := .int) (C := RX3) (T := TX3) (N := 12) hx hb hts f_inX3 tyX3 tyX3_ok nmX3 hown hK hP hD hS 0 rfl rfl 3 (by decide) f_f25 (fun _ h9 => h9) rfl (by decide +kernel) rfl rfl (Nat.le_of_ble_eq_true rfl) dX3_begin_29 (fun H locs hP hD hS => ?_)
    have hP : va_P D vwCl [(q_o, .inr (3, [x_o_show, .int (0 : Int32), .int (0 : Int32), .int (-1 : Int32), x_o_bytes, .int v1, .int (0 : Int32), x_o_number, .int o_planesTold, .int o_reachTold, .int o_lengthTold, .int o_priceTold]))] H := hP
    have hD : va_D A [(q_o, .inr (3, [x_o_show, .int (0 : Int32), .int (0 : Int32), .int (-1 : Int32), x_o_bytes, .int v1, .int (0 : Int32), x_o_number, .int o_planesTold, .int o_reachTold, .int o_lengthTold, .int o_priceTold]))] := hD
    refine lv_aload_n hx hb dX3_begin_32 rfl (lv_at hl 0 rfl) ?_
    refine lv_iconst (v := 0) hx hb dX3_begin_33 (by decide) ?_
    refine va_put (D := D) (ci := 3) (v := .int (0 : Int32)) (ty := .int) (C := RX3) (T := TX3) (N := 12) hx hb hts f_inX3 tyX3 tyX3_ok nmX3 hown hK hP hD hS 0 rfl rfl 8 (by decide) f_f41 (fun _ h9 => h9) rfl (by decide +kernel) rfl rfl (Nat.le_of_ble_eq_true rfl) dX3_begin_34 (fun H locs hP hD hS => ?_)
    have hP : va_P D vwCl [(q_o, .inr (3, [x_o_show, .int (0 : Int32), .int (0 : Int32), .int (-1 : Int32), x_o_bytes, .int v1, .int (0 : Int32), x_o_number, .int (0 : Int32), .int o_reachTold, .int o_lengthTold, .int o_priceTold]))] H := hP
    have hD : va_D A [(q_o, .inr (3, [x_o_show, .int (0 : Int32), .int (0 : Int32), .int (-1 : Int32), x_o_bytes, .int v1, .int (0 : Int32), x_o_number, .int (0 : Int32), .int o_reachTold, .int o_lengthTold, .int o_priceTold]))] := hD
    refine lv_aload_n hx hb dX3_begin_37 rfl (lv_at hl 0 rfl) ?_
    refine lv_iconst (v := 0) hx hb dX3_begin_38 (by decide) ?_
    refine va_put (D := D) (ci := 3) (v := .int (0 : Int32)) (ty := .boolean) (C := RX3) (T := TX3) (N := 12) hx hb hts f_inX3 tyX3 tyX3_ok nmX3 hown hK hP hD hS 0 rfl rfl 9 (by decide) f_f44 (fun _ h9 => h9) rfl (by decide +kernel) rfl rfl (Nat.le_of_ble_eq_true rfl) dX3_begin_39 (fun H locs hP hD hS => ?_)
    have hP : va_P D vwCl [(q_o, .inr (3, [x_o_show, .int (0 : Int32), .int (0 : Int32), .int (-1 : Int32), x_o_bytes, .int v1, .int (0 : Int32), x_o_number, .int (0 : Int32), .int (0 : Int32), .int o_lengthTold, .int o_priceTold]))] H := hP
    have hD : va_D A [(q_o, .inr (3, [x_o_show, .int (0 : Int32), .int (0 : Int32), .int (-1 : Int32), x_o_bytes, .int v1, .int (0 : Int32), x_o_number, .int (0 : Int32), .int (0 : Int32), .int o_lengthTold, .int o_priceTold]))] := hD
    refine lv_aload_n hx hb dX3_begin_42 rfl (lv_at hl 0 rfl) ?_
    refine lv_iconst (v := 0) hx hb dX3_begin_43 (by decide) ?_
    refine va_put (D := D) (ci := 3) (v := .int (0 : Int32)) (ty := .boolean) (C := RX3) (T := TX3) (N := 12) hx hb hts f_inX3 tyX3 tyX3_ok nmX3 hown hK hP hD hS 0 rfl rfl 10 (by decide) f_f48 (fun _ h9 => h9) rfl (by decide +kernel) rfl rfl (Nat.le_of_ble_eq_true rfl) dX3_begin_44 (fun H locs hP hD hS => ?_)
    have hP : va_P D vwCl [(q_o, .inr (3, [x_o_show, .int (0 : Int32), .int (0 : Int32), .int (-1 : Int32), x_o_bytes, .int v1, .int (0 : Int32), x_o_number, .int (0 : Int32), .int (0 : Int32), .int (0 : Int32), .int o_priceTold]))] H := hP
    have hD : va_D A [(q_o, .inr (3, [x_o_show, .int (0 : Int32), .int (0 : Int32), .int (-1 : Int32), x_o_bytes, .int v1, .int (0 : Int32), x_o_number, .int (0 : Int32), .int (0 : Int32), .int (0 : Int32), .int o_priceTold]))] := hD
    refine lv_aload_n hx hb dX3_begin_47 rfl (lv_at hl 0 rfl) ?_
    refine lv_iconst (v := 0) hx hb dX3_begin_48 (by decide) ?_
    refine va_put (D := D) (ci := 3) (v := .int (0 : Int32)) (ty := .boolean) (C := RX3) (T := TX3) (N := 12) hx hb hts f_inX3 tyX3 tyX3_ok nmX3 hown hK hP hD hS 0 rfl rfl 11 (by decide) f_f51 (fun _ h9 => h9) rfl (by decide +kernel) rfl rfl (Nat.le_of_ble_eq_true rfl) dX3_begin_49 (fun H locs hP hD hS => ?_)
    have hP : va_P D vwCl [(q_o, .inr (3, [x_o_show, .int (0 : Int32), .int (0 : Int32), .int (-1 : Int32), x_o_bytes, .int v1, .int (0 : Int32), x_o_number, .int (0 : Int32), .int (0 : Int32), .int (0 : Int32), .int (0 : Int32)]))] H := hP
    have hD : va_D A [(q_o, .inr (3, [x_o_show, .int (0 : Int32), .int (0 : Int32), .int (-1 : Int32), x_o_bytes, .int v1, .int (0 : Int32), x_o_number, .int (0 : Int32), .int (0 : Int32), .int (0 : Int32), .int (0 : Int32)]))] := hD
    obtain rfl := so_o hF
    rw [hQQ]
    exact kr_v hx hb hr hlocks hP hD hS dX3_begin_52
  exact main s.heap [] ls hP hD hS hl
theorem kd_X3_peek : yX3_peek.cls = RX3 ∧ yX3_peek.cls ≠ "java/lang/invoke/MethodHandle" ∧ yX3_peek.cls ≠ "java/lang/invoke/VarHandle" ∧ (parseMethodDescriptor yX3_peek.desc).map (fun d => d.parameters.length) = some 0 := by decide +kernel
set_option maxHeartbeats 4000000 in
set_option maxRecDepth 100000 in
theorem c_X3_peek {l : Launch} {D : va_G} {cy : Nat → ClassId} (q_o q_o_bytes : Nat) (sz : Nat) (x_o_show x_o_filled x_o_error x_o_errorAt x_o_number x_o_planesTold x_o_reachTold x_o_lengthTold x_o_priceTold : Value) (o_end : Int32) (o_at : Int32) (o_bytes : Nat → Int32) (res : Int32 × Int32) (hF : X3_peek o_end o_at o_bytes = some res) : Met l yX3_peek wsX3_peek ({ frames := 0, cells := 0, slots := 0, locals := 0 } : Room) (kP (EN D cy) D [.ref q_o] [(q_o, .inr (3, [x_o_show, x_o_filled, x_o_error, x_o_errorAt, .ref q_o_bytes, .int o_end, .int o_at, x_o_number, x_o_planesTold, x_o_reachTold, x_o_lengthTold, x_o_priceTold])), (q_o_bytes, .inl (cy 1, 800, .inl o_bytes))] sz) (kQi D res.1 [(q_o, .inr (3, [x_o_show, x_o_filled, x_o_error, x_o_errorAt, .ref q_o_bytes, .int o_end, .int res.2, x_o_number, x_o_planesTold, x_o_reachTold, x_o_lengthTold, x_o_priceTold])), (q_o_bytes, .inl (cy 1, 800, .inl o_bytes))] (va_A [(q_o, .inr (3, [x_o_show, x_o_filled, x_o_error, x_o_errorAt, .ref q_o_bytes, .int o_end, .int o_at, x_o_number, x_o_planesTold, x_o_reachTold, x_o_lengthTold, x_o_priceTold])), (q_o_bytes, .inl (cy 1, 800, .inl o_bytes))] sz)) 0 0 (va_A [(q_o, .inr (3, [x_o_show, x_o_filled, x_o_error, x_o_errorAt, .ref q_o_bytes, .int o_end, .int o_at, x_o_number, x_o_planesTold, x_o_reachTold, x_o_lengthTold, x_o_priceTold])), (q_o_bytes, .inl (cy 1, 800, .inl o_bytes))] sz) := by
  refine kMet (y := yX3_peek) (av := [.ref q_o]) (cc := cX3_peek) (maxL := 1) (ret := some .int) (own := RX3) (Qc := fun A9 => (kQi D res.1 [(q_o, .inr (3, [x_o_show, x_o_filled, x_o_error, x_o_errorAt, .ref q_o_bytes, .int o_end, .int res.2, x_o_number, x_o_planesTold, x_o_reachTold, x_o_lengthTold, x_o_priceTold])), (q_o_bytes, .inl (cy 1, 800, .inl o_bytes))] A9)) (by decide) rfl rfl (Nat.le_of_ble_eq_true rfl) ?_
  intro p e s m args below meth c A hx hb hr hts hown hml hlocks hname hE hP hD hA hsz ls hl
  have hK := hE.1
  have hl : lv_has ls 1 [(0, .ref q_o)] := hl
  have hS : va_S A s.heap s.heap [] := va_S.rf
  have f_f35 := hts (.fieldLink RX3 35 "PeepBox$Setup" "at" "I") (by decide +kernel)
  have f_inX3 : ∀ w ∈ wsX30, w ∈ wsX3_peek := by decide +kernel
  have f_f32 := hts (.fieldLink RX3 32 "PeepBox$Setup" "end" "I") (by decide +kernel)
  have f_f28 := hts (.fieldLink RX3 28 "PeepBox$Setup" "bytes" "[B") (by decide +kernel)
  obtain ⟨QQ, hQQ⟩ : ∃ Q9, Q9 = MQ below (kQi D res.1 [(q_o, .inr (3, [x_o_show, x_o_filled, x_o_error, x_o_errorAt, .ref q_o_bytes, .int o_end, .int res.2, x_o_number, x_o_planesTold, x_o_reachTold, x_o_lengthTold, x_o_priceTold])), (q_o_bytes, .inl (cy 1, 800, .inl o_bytes))] A) args s 0 0 A := ⟨_, rfl⟩
  rw [← hQQ]
  have J38 : ∀ (o_at : Int32) (H : Heap) (locs : List Loc) (ls : Array Slot), va_P D vwCl [(q_o, .inr (3, [x_o_show, x_o_filled, x_o_error, x_o_errorAt, .ref q_o_bytes, .int o_end, .int o_at, x_o_number, x_o_planesTold, x_o_reachTold, x_o_lengthTold, x_o_priceTold])), (q_o_bytes, .inl (cy 1, 800, .inl o_bytes))] H → va_D A [(q_o, .inr (3, [x_o_show, x_o_filled, x_o_error, x_o_errorAt, .ref q_o_bytes, .int o_end, .int o_at, x_o_number, x_o_planesTold, x_o_reachTold, x_o_lengthTold, x_o_priceTold])), (q_o_bytes, .inl (cy 1, 800, .inl o_bytes))] → va_S A s.heap H locs → lv_has ls 1 [(0, .ref q_o)] → X3_peek_J38 o_end o_bytes o_at = some res → W p l e ({ frames := 0, cells := 0, slots := 0, locals := 0 } : Room) s m args below meth c H locs 0 0 QQ (F0 m 38 ls []) := by
    intro o_at H locs ls hP hD hS hl hF
    unfold X3_peek_J38 at hF
    refine lv_aload_n hx hb dX3_peek_38 rfl (lv_at hl 0 rfl) ?_
    refine va_get (D := D) (ci := 3) (v := .int o_at) (C := RX3) (T := TX3) (N := 12) hx hb hts f_inX3 hown hK hP 0 rfl rfl 6 (by decide) f_f35 (fun _ h9 => h9) rfl dX3_peek_39 ?_
    refine lv_aload_n hx hb dX3_peek_42 rfl (lv_at hl 0 rfl) ?_
    refine va_get (D := D) (ci := 3) (v := .int o_end) (C := RX3) (T := TX3) (N := 12) hx hb hts f_inX3 hown hK hP 0 rfl rfl 5 (by decide) f_f32 (fun _ h9 => h9) rfl dX3_peek_43 ?_
    refine lv_icmp_ge (tgt := 65) hx hb dX3_peek_46 (by decide) (fun c1 => ?_) (fun c1 => ?_)
    · have hF := if_p hF c1
      refine lv_iconst (v := -1) hx hb dX3_peek_65 (by decide) ?_
      obtain rfl := so_o hF
      rw [hQQ]
      exact kr_i hx hb hr hlocks hP hD hS dX3_peek_66
    · have hF := if_n hF c1
      refine lv_aload_n hx hb dX3_peek_49 rfl (lv_at hl 0 rfl) ?_
      refine va_get (D := D) (ci := 3) (v := .ref q_o_bytes) (C := RX3) (T := TX3) (N := 12) hx hb hts f_inX3 hown hK hP 0 rfl rfl 4 (by decide) f_f28 (fun _ h9 => h9) rfl dX3_peek_50 ?_
      refine lv_aload_n hx hb dX3_peek_53 rfl (lv_at hl 0 rfl) ?_
      refine va_get (D := D) (ci := 3) (v := .int o_at) (C := RX3) (T := TX3) (N := 12) hx hb hts f_inX3 hown hK hP 0 rfl rfl 6 (by decide) f_f35 (fun _ h9 => h9) rfl dX3_peek_54 ?_
      obtain ⟨h2, hF⟩ := ld_o hF
      refine va_bald hx hb hK hP 1 1 rfl rfl h2 dX3_peek_57 ?_
      refine lv_topi (fun v3 ev3 => ?_)
      have hF := hF v3 ev3
      refine lv_sipush (v := 255) hx hb dX3_peek_58 (by decide) ?_
      refine lv_iand hx hb dX3_peek_61 ?_
      refine lv_goto (tgt := 66) hx hb dX3_peek_62 (by decide) ?_
      obtain rfl := so_o hF
      rw [hQQ]
      exact kr_i hx hb hr hlocks hP hD hS dX3_peek_66
  have J0 : ∀ (n0 : Nat) (o_at : Int32) (H : Heap) (locs : List Loc) (ls : Array Slot), va_P D vwCl [(q_o, .inr (3, [x_o_show, x_o_filled, x_o_error, x_o_errorAt, .ref q_o_bytes, .int o_end, .int o_at, x_o_number, x_o_planesTold, x_o_reachTold, x_o_lengthTold, x_o_priceTold])), (q_o_bytes, .inl (cy 1, 800, .inl o_bytes))] H → va_D A [(q_o, .inr (3, [x_o_show, x_o_filled, x_o_error, x_o_errorAt, .ref q_o_bytes, .int o_end, .int o_at, x_o_number, x_o_planesTold, x_o_reachTold, x_o_lengthTold, x_o_priceTold])), (q_o_bytes, .inl (cy 1, 800, .inl o_bytes))] → va_S A s.heap H locs → lv_has ls 1 [(0, .ref q_o)] → X3_peek_L0 o_end o_bytes n0 o_at = some res → W p l e ({ frames := 0, cells := 0, slots := 0, locals := 0 } : Room) s m args below meth c H locs 0 0 QQ (F0 m 0 ls []) := by
    intro n0
    induction n0 with
    | zero =>
      intro o_at H locs ls hP hD hS hl hF
      rw [X3_peek_L0] at hF
      cases hF
    | succ n0 ih0 =>
      intro o_at H locs ls hP hD hS hl hF
      rw [X3_peek_L0] at hF
      refine lv_aload_n hx hb dX3_peek_0 rfl (lv_at hl 0 rfl) ?_
      refine va_get (D := D) (ci := 3) (v := .int o_at) (C := RX3) (T := TX3) (N := 12) hx hb hts f_inX3 hown hK hP 0 rfl rfl 6 (by decide) f_f35 (fun _ h9 => h9) rfl dX3_peek_1 ?_
      refine lv_aload_n hx hb dX3_peek_4 rfl (lv_at hl 0 rfl) ?_
      refine va_get (D := D) (ci := 3) (v := .int o_end) (C := RX3) (T := TX3) (N := 12) hx hb hts f_inX3 hown hK hP 0 rfl rfl 5 (by decide) f_f32 (fun _ h9 => h9) rfl dX3_peek_5 ?_
      refine lv_icmp_ge (tgt := 38) hx hb dX3_peek_8 (by decide) (fun c4 => ?_) (fun c4 => ?_)
      · have hF := if_p hF c4
        exact J38 o_at H locs ls hP hD hS (lv_sub hl [0] rfl) hF
      · have hF := if_n hF c4
        refine lv_aload_n hx hb dX3_peek_11 rfl (lv_at hl 0 rfl) ?_
        refine va_get (D := D) (ci := 3) (v := .ref q_o_bytes) (C := RX3) (T := TX3) (N := 12) hx hb hts f_inX3 hown hK hP 0 rfl rfl 4 (by decide) f_f28 (fun _ h9 => h9) rfl dX3_peek_12 ?_
        refine lv_aload_n hx hb dX3_peek_15 rfl (lv_at hl 0 rfl) ?_
        refine va_get (D := D) (ci := 3) (v := .int o_at) (C := RX3) (T := TX3) (N := 12) hx hb hts f_inX3 hown hK hP 0 rfl rfl 6 (by decide) f_f35 (fun _ h9 => h9) rfl dX3_peek_16 ?_
        obtain ⟨h5, hF⟩ := ld_o hF
        refine va_bald hx hb hK hP 1 1 rfl rfl h5 dX3_peek_19 ?_
        refine lv_topi (fun v6 ev6 => ?_)
        have hF := hF v6 ev6
        refine lv_bipush (v := 32) hx hb dX3_peek_20 (by decide) ?_
        refine lv_icmp_ne (tgt := 38) hx hb dX3_peek_22 (by decide) (fun c7 => ?_) (fun c7 => ?_)
        · have hF := if_n hF c7
          exact J38 o_at H locs ls hP hD hS (lv_sub hl [0] rfl) hF
        · have hF := if_p hF c7
          refine lv_aload_n hx hb dX3_peek_25 rfl (lv_at hl 0 rfl) ?_
          refine lv_dup hx hb dX3_peek_26 rfl ?_
          refine va_get (D := D) (ci := 3) (v := .int o_at) (C := RX3) (T := TX3) (N := 12) hx hb hts f_inX3 hown hK hP 0 rfl rfl 6 (by decide) f_f35 (fun _ h9 => h9) rfl dX3_peek_27 ?_
          refine lv_iconst (v := 1) hx hb dX3_peek_30 (by decide) ?_
          refine lv_iadd hx hb dX3_peek_31 ?_
          refine lv_topi (fun v8 ev8 => ?_)
          have hF := nm_o hF v8 ev8
          refine va_put (D := D) (ci := 3) (v := .int v8) (ty := .int) (C := RX3) (T := TX3) (N := 12) hx hb hts f_inX3 tyX3 tyX3_ok nmX3 hown hK hP hD hS 0 rfl rfl 6 (by decide) f_f35 (fun _ h9 => h9) rfl (by decide +kernel) rfl rfl (Nat.le_of_ble_eq_true rfl) dX3_peek_32 (fun H locs hP hD hS => ?_)
          have hP : va_P D vwCl [(q_o, .inr (3, [x_o_show, x_o_filled, x_o_error, x_o_errorAt, .ref q_o_bytes, .int o_end, .int v8, x_o_number, x_o_planesTold, x_o_reachTold, x_o_lengthTold, x_o_priceTold])), (q_o_bytes, .inl (cy 1, 800, .inl o_bytes))] H := hP
          have hD : va_D A [(q_o, .inr (3, [x_o_show, x_o_filled, x_o_error, x_o_errorAt, .ref q_o_bytes, .int o_end, .int v8, x_o_number, x_o_planesTold, x_o_reachTold, x_o_lengthTold, x_o_priceTold])), (q_o_bytes, .inl (cy 1, 800, .inl o_bytes))] := hD
          refine lv_goto (tgt := 0) hx hb dX3_peek_35 (by decide) ?_
          exact ih0 v8 H locs ls hP hD hS (lv_sub hl [0] rfl) hF
  have main : ∀ (H : Heap) (locs : List Loc) (ls : Array Slot), va_P D vwCl [(q_o, .inr (3, [x_o_show, x_o_filled, x_o_error, x_o_errorAt, .ref q_o_bytes, .int o_end, .int o_at, x_o_number, x_o_planesTold, x_o_reachTold, x_o_lengthTold, x_o_priceTold])), (q_o_bytes, .inl (cy 1, 800, .inl o_bytes))] H → va_D A [(q_o, .inr (3, [x_o_show, x_o_filled, x_o_error, x_o_errorAt, .ref q_o_bytes, .int o_end, .int o_at, x_o_number, x_o_planesTold, x_o_reachTold, x_o_lengthTold, x_o_priceTold])), (q_o_bytes, .inl (cy 1, 800, .inl o_bytes))] → va_S A s.heap H locs → lv_has ls 1 [(0, .ref q_o)] → W p l e ({ frames := 0, cells := 0, slots := 0, locals := 0 } : Room) s m args below meth c H locs 0 0 QQ (F0 m 0 ls []) := by
    intro H locs ls hP hD hS hl
    unfold X3_peek at hF
    exact J0 FU o_at H locs ls hP hD hS (lv_sub hl [0] rfl) hF
  exact main s.heap [] ls hP hD hS hl
theorem kd_X3_isLetter : yX3_isLetter.cls ≠ "java/lang/invoke/MethodHandle" ∧ yX3_isLetter.cls ≠ "java/lang/invoke/VarHandle" ∧ (parseMethodDescriptor yX3_isLetter.desc).map (fun d => d.parameters.length) = some 1 := by decide +kernel
set_option maxHeartbeats 4000000 in
set_option maxRecDepth 100000 in
theorem c_X3_isLetter {l : Launch} {D : va_G} {cy : Nat → ClassId} (sz : Nat) (p0 : Int32) (res : Int32) (hF : X3_isLetter p0 = some res) : Met l yX3_isLetter wsX3_isLetter ({ frames := 0, cells := 0, slots := 0, locals := 0 } : Room) (kP (EN D cy) D [.int p0] [] sz) (kQi D res [] (va_A [] sz)) 0 0 (va_A [] sz) := by
  refine kMet (y := yX3_isLetter) (av := [.int p0]) (cc := cX3_isLetter) (maxL := 1) (ret := some .boolean) (own := RX3) (Qc := fun A9 => (kQi D res [] A9)) (by decide) rfl rfl (Nat.le_of_ble_eq_true rfl) ?_
  intro p e s m args below meth c A hx hb hr hts hown hml hlocks hname hE hP hD hA hsz ls hl
  have hK := hE.1
  have hl : lv_has ls 1 [(0, .int p0)] := hl
  have hS : va_S A s.heap s.heap [] := va_S.rf
  obtain ⟨QQ, hQQ⟩ : ∃ Q9, Q9 = MQ below (kQi D res [] A) args s 0 0 A := ⟨_, rfl⟩
  rw [← hQQ]
  have main : ∀ (H : Heap) (locs : List Loc) (ls : Array Slot), va_P D vwCl [] H → va_D A [] → va_S A s.heap H locs → lv_has ls 1 [(0, .int p0)] → W p l e ({ frames := 0, cells := 0, slots := 0, locals := 0 } : Room) s m args below meth c H locs 0 0 QQ (F0 m 0 ls []) := by
    intro H locs ls hP hD hS hl
    unfold X3_isLetter at hF
    refine lv_iload_n hx hb dX3_isLetter_0 rfl (lv_at hl 0 rfl) ?_
    refine lv_bipush (v := 97) hx hb dX3_isLetter_1 (by decide) ?_
    refine lv_icmp_lt (tgt := 16) hx hb dX3_isLetter_3 (by decide) (fun c1 => ?_) (fun c1 => ?_)
    · have hF := if_p hF c1
      refine lv_iconst (v := 0) hx hb dX3_isLetter_16 (by decide) ?_
      obtain rfl := so_o hF
      rw [hQQ]
      exact kr_z (v := (0 : Int32)) hx hb hr hlocks rfl hP hD hS dX3_isLetter_17
    · have hF := if_n hF c1
      refine lv_iload_n hx hb dX3_isLetter_6 rfl (lv_at hl 0 rfl) ?_
      refine lv_bipush (v := 122) hx hb dX3_isLetter_7 (by decide) ?_
      refine lv_icmp_gt (tgt := 16) hx hb dX3_isLetter_9 (by decide) (fun c2 => ?_) (fun c2 => ?_)
      · have hF := if_p hF c2
        refine lv_iconst (v := 0) hx hb dX3_isLetter_16 (by decide) ?_
        obtain rfl := so_o hF
        rw [hQQ]
        exact kr_z (v := (0 : Int32)) hx hb hr hlocks rfl hP hD hS dX3_isLetter_17
      · have hF := if_n hF c2
        refine lv_iconst (v := 1) hx hb dX3_isLetter_12 (by decide) ?_
        refine lv_goto (tgt := 17) hx hb dX3_isLetter_13 (by decide) ?_
        obtain rfl := so_o hF
        rw [hQQ]
        exact kr_z (v := (1 : Int32)) hx hb hr hlocks rfl hP hD hS dX3_isLetter_17
  exact main s.heap [] ls hP hD hS hl
theorem kd_X3_takesWord : yX3_takesWord.cls = RX3 ∧ yX3_takesWord.cls ≠ "java/lang/invoke/MethodHandle" ∧ yX3_takesWord.cls ≠ "java/lang/invoke/VarHandle" ∧ (parseMethodDescriptor yX3_takesWord.desc).map (fun d => d.parameters.length) = some 1 := by decide +kernel
set_option maxHeartbeats 4000000 in
set_option maxRecDepth 100000 in
theorem c_X3_takesWord {l : Launch} {D : va_G} {cy : Nat → ClassId} (q_o q_o_bytes : Nat) (sz : Nat) (x_o_show x_o_filled x_o_error x_o_errorAt x_o_number x_o_planesTold x_o_reachTold x_o_lengthTold x_o_priceTold : Value) (o_end : Int32) (o_at : Int32) (o_bytes : Nat → Int32) (tx : List Int32) (a_tx : Nat) (res : Int32 × Int32) (hF : X3_takesWord tx o_end o_at o_bytes = some res) : Met l yX3_takesWord wsX3_takesWord ({ frames := 4, cells := 0, slots := 0, locals := 101 } : Room) (kP (ES D cy tx a_tx) D [.ref q_o, .ref a_tx] [(q_o, .inr (3, [x_o_show, x_o_filled, x_o_error, x_o_errorAt, .ref q_o_bytes, .int o_end, .int o_at, x_o_number, x_o_planesTold, x_o_reachTold, x_o_lengthTold, x_o_priceTold])), (q_o_bytes, .inl (cy 1, 800, .inl o_bytes))] sz) (kQi D res.1 [(q_o, .inr (3, [x_o_show, x_o_filled, x_o_error, x_o_errorAt, .ref q_o_bytes, .int o_end, .int res.2, x_o_number, x_o_planesTold, x_o_reachTold, x_o_lengthTold, x_o_priceTold])), (q_o_bytes, .inl (cy 1, 800, .inl o_bytes))] (va_A [(q_o, .inr (3, [x_o_show, x_o_filled, x_o_error, x_o_errorAt, .ref q_o_bytes, .int o_end, .int o_at, x_o_number, x_o_planesTold, x_o_reachTold, x_o_lengthTold, x_o_priceTold])), (q_o_bytes, .inl (cy 1, 800, .inl o_bytes))] sz)) 0 0 (va_A [(q_o, .inr (3, [x_o_show, x_o_filled, x_o_error, x_o_errorAt, .ref q_o_bytes, .int o_end, .int o_at, x_o_number, x_o_planesTold, x_o_reachTold, x_o_lengthTold, x_o_priceTold])), (q_o_bytes, .inl (cy 1, 800, .inl o_bytes))] sz) := by
  refine kMet (y := yX3_takesWord) (av := [.ref q_o, .ref a_tx]) (cc := cX3_takesWord) (maxL := 4) (ret := some .boolean) (own := RX3) (Qc := fun A9 => (kQi D res.1 [(q_o, .inr (3, [x_o_show, x_o_filled, x_o_error, x_o_errorAt, .ref q_o_bytes, .int o_end, .int res.2, x_o_number, x_o_planesTold, x_o_reachTold, x_o_lengthTold, x_o_priceTold])), (q_o_bytes, .inl (cy 1, 800, .inl o_bytes))] A9)) (by decide) rfl rfl (Nat.le_of_ble_eq_true rfl) ?_
  intro p e s m args below meth c A hx hb hr hts hown hml hlocks hname hE hP hD hA hsz ls hl
  obtain ⟨hE, hTa_tx⟩ := hE
  have hK := hE.1
  have hl : lv_has ls 4 [(0, .ref q_o), (1, .ref a_tx)] := hl
  have hS : va_S A s.heap s.heap [] := va_S.rf
  have f_f32 := hts (.fieldLink RX3 32 "PeepBox$Setup" "end" "I") (by decide +kernel)
  have f_inX3 : ∀ w ∈ wsX30, w ∈ wsX3_takesWord := by decide +kernel
  have f_f35 := hts (.fieldLink RX3 35 "PeepBox$Setup" "at" "I") (by decide +kernel)
  have f_f28 := hts (.fieldLink RX3 28 "PeepBox$Setup" "bytes" "[B") (by decide +kernel)
  obtain ⟨QQ, hQQ⟩ : ∃ Q9, Q9 = MQ below (kQi D res.1 [(q_o, .inr (3, [x_o_show, x_o_filled, x_o_error, x_o_errorAt, .ref q_o_bytes, .int o_end, .int res.2, x_o_number, x_o_planesTold, x_o_reachTold, x_o_lengthTold, x_o_priceTold])), (q_o_bytes, .inl (cy 1, 800, .inl o_bytes))] A) args s 0 0 A := ⟨_, rfl⟩
  rw [← hQQ]
  have J22 : ∀ (n22 : Nat) (l2 : Int32) (l3 : Int32) (H : Heap) (locs : List Loc) (ls : Array Slot), va_P D vwCl [(q_o, .inr (3, [x_o_show, x_o_filled, x_o_error, x_o_errorAt, .ref q_o_bytes, .int o_end, .int o_at, x_o_number, x_o_planesTold, x_o_reachTold, x_o_lengthTold, x_o_priceTold])), (q_o_bytes, .inl (cy 1, 800, .inl o_bytes))] H → va_D A [(q_o, .inr (3, [x_o_show, x_o_filled, x_o_error, x_o_errorAt, .ref q_o_bytes, .int o_end, .int o_at, x_o_number, x_o_planesTold, x_o_reachTold, x_o_lengthTold, x_o_priceTold])), (q_o_bytes, .inl (cy 1, 800, .inl o_bytes))] → va_S A s.heap H locs → lv_has ls 4 [(0, .ref q_o), (1, .ref a_tx), (2, .int l2), (3, .int l3)] → X3_takesWord_L22 tx o_end o_at o_bytes n22 l2 l3 = some res → W p l e ({ frames := 4, cells := 0, slots := 0, locals := 101 } : Room) s m args below meth c H locs 0 0 QQ (F0 m 22 ls []) := by
    intro n22
    induction n22 with
    | zero =>
      intro l2 l3 H locs ls hP hD hS hl hF
      rw [X3_takesWord_L22] at hF
      cases hF
    | succ n22 ih22 =>
      intro l2 l3 H locs ls hP hD hS hl hF
      rw [X3_takesWord_L22] at hF
      refine lv_iload_n hx hb dX3_takesWord_22 rfl (lv_at hl 3 rfl) ?_
      refine lv_aload_n hx hb dX3_takesWord_23 rfl (lv_at hl 1 rfl) ?_
      obtain ⟨r1, h2, hF⟩ := bn1_o hF
      refine kd_i [(q_o, .inr (3, [x_o_show, x_o_filled, x_o_error, x_o_errorAt, .ref q_o_bytes, .int o_end, .int o_at, x_o_number, x_o_planesTold, x_o_reachTold, x_o_lengthTold, x_o_priceTold])), (q_o_bytes, .inl (cy 1, 800, .inl o_bytes))] (va_runV (As := []) (rest := [.int l3]) ⟨hx, hb, hml, hown, hts⟩ (c_J0_length_8abf5 H.size tx a_tx _ h2) (cwV 0 hts gX3_takesWord_J0_length_8abf5 rfl rfl rfl kd_J0_length_8abf5 ⟨Nat.le_of_ble_eq_true rfl, Nat.le_of_ble_eq_true rfl⟩) ⟨kP_blind (ES_ok D cy tx a_tx) D _ _ _, kStr_recv hTa_tx hS, kStart (ES_ok D cy tx a_tx) (show ES D cy tx a_tx A s s.heap from ⟨hE, hTa_tx⟩) hP hD hS hA [] rfl rfl _⟩ rfl rfl hl.1 rfl (lv_room (Nat.le_of_ble_eq_true rfl)) dX3_takesWord_24 ⟨Nat.zero_le _, Nat.zero_le _⟩) hP hD hS hA [] [0, 1] rfl rfl rfl 2 rfl (by decide +kernel) (fun H locs hP hD hS => ?_)
      refine lv_icmp_ge (tgt := 57) hx hb dX3_takesWord_27 (by decide) (fun c3 => ?_) (fun c3 => ?_)
      · have hF := if_p hF c3
        refine lv_iload_n hx hb dX3_takesWord_57 rfl (lv_at hl 2 rfl) ?_
        refine lv_aload_n hx hb dX3_takesWord_58 rfl (lv_at hl 0 rfl) ?_
        refine va_get (D := D) (ci := 3) (v := .int o_end) (C := RX3) (T := TX3) (N := 12) hx hb hts f_inX3 hown hK hP 0 rfl rfl 5 (by decide) f_f32 (fun _ h9 => h9) rfl dX3_takesWord_59 ?_
        refine lv_icmp_ge (tgt := 79) hx hb dX3_takesWord_62 (by decide) (fun c4 => ?_) (fun c4 => ?_)
        · have hF := if_p hF c4
          refine lv_aload_n hx hb dX3_takesWord_79 rfl (lv_at hl 0 rfl) ?_
          refine lv_iload_n hx hb dX3_takesWord_80 rfl (lv_at hl 2 rfl) ?_
          refine va_put (D := D) (ci := 3) (v := .int l2) (ty := .int) (C := RX3) (T := TX3) (N := 12) hx hb hts f_inX3 tyX3 tyX3_ok nmX3 hown hK hP hD hS 0 rfl rfl 6 (by decide) f_f35 (fun _ h9 => h9) rfl (by decide +kernel) rfl rfl (Nat.le_of_ble_eq_true rfl) dX3_takesWord_81 (fun H locs hP hD hS => ?_)
          have hP : va_P D vwCl [(q_o, .inr (3, [x_o_show, x_o_filled, x_o_error, x_o_errorAt, .ref q_o_bytes, .int o_end, .int l2, x_o_number, x_o_planesTold, x_o_reachTold, x_o_lengthTold, x_o_priceTold])), (q_o_bytes, .inl (cy 1, 800, .inl o_bytes))] H := hP
          have hD : va_D A [(q_o, .inr (3, [x_o_show, x_o_filled, x_o_error, x_o_errorAt, .ref q_o_bytes, .int o_end, .int l2, x_o_number, x_o_planesTold, x_o_reachTold, x_o_lengthTold, x_o_priceTold])), (q_o_bytes, .inl (cy 1, 800, .inl o_bytes))] := hD
          refine lv_iconst (v := 1) hx hb dX3_takesWord_84 (by decide) ?_
          obtain rfl := so_o hF
          rw [hQQ]
          exact kr_z (v := (1 : Int32)) hx hb hr hlocks rfl hP hD hS dX3_takesWord_85
        · have hF := if_n hF c4
          refine lv_aload_n hx hb dX3_takesWord_65 rfl (lv_at hl 0 rfl) ?_
          refine va_get (D := D) (ci := 3) (v := .ref q_o_bytes) (C := RX3) (T := TX3) (N := 12) hx hb hts f_inX3 hown hK hP 0 rfl rfl 4 (by decide) f_f28 (fun _ h9 => h9) rfl dX3_takesWord_66 ?_
          refine lv_iload_n hx hb dX3_takesWord_69 rfl (lv_at hl 2 rfl) ?_
          obtain ⟨h5, hF⟩ := ld_o hF
          refine va_bald hx hb hK hP 1 1 rfl rfl h5 dX3_takesWord_70 ?_
          refine lv_topi (fun v6 ev6 => ?_)
          have hF := hF v6 ev6
          obtain ⟨r7, h8, hF⟩ := bn1_o hF
          refine kd_i [(q_o, .inr (3, [x_o_show, x_o_filled, x_o_error, x_o_errorAt, .ref q_o_bytes, .int o_end, .int o_at, x_o_number, x_o_planesTold, x_o_reachTold, x_o_lengthTold, x_o_priceTold])), (q_o_bytes, .inl (cy 1, 800, .inl o_bytes))] (va_runS (As := [.int v6]) (rest := []) ⟨hx, hb, hml, hown, hts⟩ (c_X3_isLetter H.size v6 _ h8) (va_cwS 1 hts gX3_takesWord_X3_isLetter rfl rfl rfl kd_X3_isLetter ⟨Nat.le_of_ble_eq_true rfl, Nat.le_of_ble_eq_true rfl⟩) ⟨kP_blind (EN_ok D cy) D _ _ _, kStart (EN_ok D cy) hE hP hD hS hA [] rfl rfl _⟩ rfl rfl hl.1 rfl (lv_room (Nat.le_of_ble_eq_true rfl)) dX3_takesWord_71 ⟨Nat.zero_le _, Nat.zero_le _⟩) hP hD hS hA [] [0, 1] rfl rfl rfl 2 rfl (by decide +kernel) (fun H locs hP hD hS => ?_)
          refine lv_if_eq (tgt := 79) hx hb dX3_takesWord_74 (by decide) (fun c9 => ?_) (fun c9 => ?_)
          · have hF := if_p hF c9
            refine lv_aload_n hx hb dX3_takesWord_79 rfl (lv_at hl 0 rfl) ?_
            refine lv_iload_n hx hb dX3_takesWord_80 rfl (lv_at hl 2 rfl) ?_
            refine va_put (D := D) (ci := 3) (v := .int l2) (ty := .int) (C := RX3) (T := TX3) (N := 12) hx hb hts f_inX3 tyX3 tyX3_ok nmX3 hown hK hP hD hS 0 rfl rfl 6 (by decide) f_f35 (fun _ h9 => h9) rfl (by decide +kernel) rfl rfl (Nat.le_of_ble_eq_true rfl) dX3_takesWord_81 (fun H locs hP hD hS => ?_)
            have hP : va_P D vwCl [(q_o, .inr (3, [x_o_show, x_o_filled, x_o_error, x_o_errorAt, .ref q_o_bytes, .int o_end, .int l2, x_o_number, x_o_planesTold, x_o_reachTold, x_o_lengthTold, x_o_priceTold])), (q_o_bytes, .inl (cy 1, 800, .inl o_bytes))] H := hP
            have hD : va_D A [(q_o, .inr (3, [x_o_show, x_o_filled, x_o_error, x_o_errorAt, .ref q_o_bytes, .int o_end, .int l2, x_o_number, x_o_planesTold, x_o_reachTold, x_o_lengthTold, x_o_priceTold])), (q_o_bytes, .inl (cy 1, 800, .inl o_bytes))] := hD
            refine lv_iconst (v := 1) hx hb dX3_takesWord_84 (by decide) ?_
            obtain rfl := so_o hF
            rw [hQQ]
            exact kr_z (v := (1 : Int32)) hx hb hr hlocks rfl hP hD hS dX3_takesWord_85
          · have hF := if_n hF c9
            refine lv_iconst (v := 0) hx hb dX3_takesWord_77 (by decide) ?_
            obtain rfl := so_o hF
            rw [hQQ]
            exact kr_z (v := (0 : Int32)) hx hb hr hlocks rfl hP hD hS dX3_takesWord_78
      · have hF := if_n hF c3
        refine lv_aload_n hx hb dX3_takesWord_30 rfl (lv_at hl 0 rfl) ?_
        refine va_get (D := D) (ci := 3) (v := .ref q_o_bytes) (C := RX3) (T := TX3) (N := 12) hx hb hts f_inX3 hown hK hP 0 rfl rfl 4 (by decide) f_f28 (fun _ h9 => h9) rfl dX3_takesWord_31 ?_
        refine lv_aload_n hx hb dX3_takesWord_34 rfl (lv_at hl 0 rfl) ?_
        refine va_get (D := D) (ci := 3) (v := .int o_at) (C := RX3) (T := TX3) (N := 12) hx hb hts f_inX3 hown hK hP 0 rfl rfl 6 (by decide) f_f35 (fun _ h9 => h9) rfl dX3_takesWord_35 ?_
        refine lv_iload_n hx hb dX3_takesWord_38 rfl (lv_at hl 3 rfl) ?_
        refine lv_iadd hx hb dX3_takesWord_39 ?_
        obtain ⟨h10, hF⟩ := ld_o hF
        refine va_bald hx hb hK hP 1 1 rfl rfl h10 dX3_takesWord_40 ?_
        refine lv_topi (fun v11 ev11 => ?_)
        have hF := hF v11 ev11
        refine lv_aload_n hx hb dX3_takesWord_41 rfl (lv_at hl 1 rfl) ?_
        refine lv_iload_n hx hb dX3_takesWord_42 rfl (lv_at hl 3 rfl) ?_
        obtain ⟨r12, h13, hF⟩ := bn1_o hF
        refine kd_i [(q_o, .inr (3, [x_o_show, x_o_filled, x_o_error, x_o_errorAt, .ref q_o_bytes, .int o_end, .int o_at, x_o_number, x_o_planesTold, x_o_reachTold, x_o_lengthTold, x_o_priceTold])), (q_o_bytes, .inl (cy 1, 800, .inl o_bytes))] (va_runV (As := [.int l3]) (rest := [.int v11]) ⟨hx, hb, hml, hown, hts⟩ (c_J0_charAt_5068e H.size tx a_tx l3 _ h13) (cwV 1 hts gX3_takesWord_J0_charAt_5068e rfl rfl rfl kd_J0_charAt_5068e ⟨Nat.le_of_ble_eq_true rfl, Nat.le_of_ble_eq_true rfl⟩) ⟨kP_blind (ES_ok D cy tx a_tx) D _ _ _, kStr_recv hTa_tx hS, kStart (ES_ok D cy tx a_tx) (show ES D cy tx a_tx A s s.heap from ⟨hE, hTa_tx⟩) hP hD hS hA [] rfl rfl _⟩ rfl rfl hl.1 rfl (lv_room (Nat.le_of_ble_eq_true rfl)) dX3_takesWord_43 ⟨Nat.zero_le _, Nat.zero_le _⟩) hP hD hS hA [] [0, 1] rfl rfl rfl 2 rfl (by decide +kernel) (fun H locs hP hD hS => ?_)
        refine lv_icmp_eq (tgt := 51) hx hb dX3_takesWord_46 (by decide) (fun c14 => ?_) (fun c14 => ?_)
        · have hF := if_p hF c14
          obtain ⟨v15, ev15⟩ : ∃ y : Int32, y = l3 + (1 : Int32) := ⟨_, rfl⟩
          have hF := nm_o hF v15 ev15
          refine lv_iinc (v := v15) (lv' := [(3, .int v15), (0, .ref q_o), (1, .ref a_tx), (2, .int l2)]) hx hb dX3_takesWord_51 hl (k := 3) rfl (by rw [ev15]; rfl) (by decide) rfl (fun ls hl => ?_)
          refine lv_goto (tgt := 22) hx hb dX3_takesWord_54 (by decide) ?_
          exact ih22 l2 v15 H locs ls hP hD hS (lv_sub hl [1, 2, 3, 0] rfl) hF
        · have hF := if_n hF c14
          refine lv_iconst (v := 0) hx hb dX3_takesWord_49 (by decide) ?_
          obtain rfl := so_o hF
          rw [hQQ]
          exact kr_z (v := (0 : Int32)) hx hb hr hlocks rfl hP hD hS dX3_takesWord_50
  have main : ∀ (H : Heap) (locs : List Loc) (ls : Array Slot), va_P D vwCl [(q_o, .inr (3, [x_o_show, x_o_filled, x_o_error, x_o_errorAt, .ref q_o_bytes, .int o_end, .int o_at, x_o_number, x_o_planesTold, x_o_reachTold, x_o_lengthTold, x_o_priceTold])), (q_o_bytes, .inl (cy 1, 800, .inl o_bytes))] H → va_D A [(q_o, .inr (3, [x_o_show, x_o_filled, x_o_error, x_o_errorAt, .ref q_o_bytes, .int o_end, .int o_at, x_o_number, x_o_planesTold, x_o_reachTold, x_o_lengthTold, x_o_priceTold])), (q_o_bytes, .inl (cy 1, 800, .inl o_bytes))] → va_S A s.heap H locs → lv_has ls 4 [(0, .ref q_o), (1, .ref a_tx)] → W p l e ({ frames := 4, cells := 0, slots := 0, locals := 101 } : Room) s m args below meth c H locs 0 0 QQ (F0 m 0 ls []) := by
    intro H locs ls hP hD hS hl
    unfold X3_takesWord at hF
    refine lv_aload_n hx hb dX3_takesWord_0 rfl (lv_at hl 0 rfl) ?_
    refine va_get (D := D) (ci := 3) (v := .int o_at) (C := RX3) (T := TX3) (N := 12) hx hb hts f_inX3 hown hK hP 0 rfl rfl 6 (by decide) f_f35 (fun _ h9 => h9) rfl dX3_takesWord_1 ?_
    refine lv_aload_n hx hb dX3_takesWord_4 rfl (lv_at hl 1 rfl) ?_
    obtain ⟨r16, h17, hF⟩ := bn1_o hF
    refine kd_i [(q_o, .inr (3, [x_o_show, x_o_filled, x_o_error, x_o_errorAt, .ref q_o_bytes, .int o_end, .int o_at, x_o_number, x_o_planesTold, x_o_reachTold, x_o_lengthTold, x_o_priceTold])), (q_o_bytes, .inl (cy 1, 800, .inl o_bytes))] (va_runV (As := []) (rest := [.int o_at]) ⟨hx, hb, hml, hown, hts⟩ (c_J0_length_8abf5 H.size tx a_tx _ h17) (cwV 0 hts gX3_takesWord_J0_length_8abf5 rfl rfl rfl kd_J0_length_8abf5 ⟨Nat.le_of_ble_eq_true rfl, Nat.le_of_ble_eq_true rfl⟩) ⟨kP_blind (ES_ok D cy tx a_tx) D _ _ _, kStr_recv hTa_tx hS, kStart (ES_ok D cy tx a_tx) (show ES D cy tx a_tx A s s.heap from ⟨hE, hTa_tx⟩) hP hD hS hA [] rfl rfl _⟩ rfl rfl hl.1 rfl (lv_room (Nat.le_of_ble_eq_true rfl)) dX3_takesWord_5 ⟨Nat.zero_le _, Nat.zero_le _⟩) hP hD hS hA [] [0, 1] rfl rfl rfl 2 rfl (by decide +kernel) (fun H locs hP hD hS => ?_)
    refine lv_iadd hx hb dX3_takesWord_8 ?_
    refine lv_topi (fun v18 ev18 => ?_)
    have hF := nm_o hF v18 ev18
    refine lv_istore_n (lv' := [(2, .int v18), (0, .ref q_o), (1, .ref a_tx)]) hx hb dX3_takesWord_9 rfl hl (by decide) rfl (fun ls hl => ?_)
    refine lv_iload_n hx hb dX3_takesWord_10 rfl (lv_at hl 0 rfl) ?_
    refine lv_aload_n hx hb dX3_takesWord_11 rfl (lv_at hl 1 rfl) ?_
    refine va_get (D := D) (ci := 3) (v := .int o_end) (C := RX3) (T := TX3) (N := 12) hx hb hts f_inX3 hown hK hP 0 rfl rfl 5 (by decide) f_f32 (fun _ h9 => h9) rfl dX3_takesWord_12 ?_
    refine lv_icmp_le (tgt := 20) hx hb dX3_takesWord_15 (by decide) (fun c19 => ?_) (fun c19 => ?_)
    · have hF := if_p hF c19
      refine lv_iconst (v := 0) hx hb dX3_takesWord_20 (by decide) ?_
      refine lv_istore_n (lv' := [(3, .int (0 : Int32)), (2, .int v18), (0, .ref q_o), (1, .ref a_tx)]) hx hb dX3_takesWord_21 rfl hl (by decide) rfl (fun ls hl => ?_)
      exact J22 FU v18 (0 : Int32) H locs ls hP hD hS (lv_sub hl [2, 3, 1, 0] rfl) hF
    · have hF := if_n hF c19
      refine lv_iconst (v := 0) hx hb dX3_takesWord_18 (by decide) ?_
      obtain rfl := so_o hF
      rw [hQQ]
      exact kr_z (v := (0 : Int32)) hx hb hr hlocks rfl hP hD hS dX3_takesWord_19
  exact main s.heap [] ls hP hD hS hl
theorem kd_X3_fail : yX3_fail.cls = RX3 ∧ yX3_fail.cls ≠ "java/lang/invoke/MethodHandle" ∧ yX3_fail.cls ≠ "java/lang/invoke/VarHandle" ∧ (parseMethodDescriptor yX3_fail.desc).map (fun d => d.parameters.length) = some 2 := by decide +kernel
set_option maxHeartbeats 4000000 in
set_option maxRecDepth 100000 in
theorem c_X3_fail {l : Launch} {D : va_G} {cy : Nat → ClassId} (q_o : Nat) (sz : Nat) (x_o_show x_o_filled x_o_bytes x_o_end x_o_at x_o_number x_o_planesTold x_o_reachTold x_o_lengthTold x_o_priceTold : Value) (o_error : Int32) (o_errorAt : Int32) (p1 : Int32) (p2 : Int32) (res : Int32 × Int32 × Int32) (hF : X3_fail o_error o_errorAt p1 p2 = some res) : Met l yX3_fail wsX3_fail ({ frames := 0, cells := 0, slots := 0, locals := 0 } : Room) (kP (EN D cy) D [.ref q_o, .int p1, .int p2] [(q_o, .inr (3, [x_o_show, x_o_filled, .int o_error, .int o_errorAt, x_o_bytes, x_o_end, x_o_at, x_o_number, x_o_planesTold, x_o_reachTold, x_o_lengthTold, x_o_priceTold]))] sz) (kQi D res.1 [(q_o, .inr (3, [x_o_show, x_o_filled, .int res.2.1, .int res.2.2, x_o_bytes, x_o_end, x_o_at, x_o_number, x_o_planesTold, x_o_reachTold, x_o_lengthTold, x_o_priceTold]))] (va_A [(q_o, .inr (3, [x_o_show, x_o_filled, .int o_error, .int o_errorAt, x_o_bytes, x_o_end, x_o_at, x_o_number, x_o_planesTold, x_o_reachTold, x_o_lengthTold, x_o_priceTold]))] sz)) 0 0 (va_A [(q_o, .inr (3, [x_o_show, x_o_filled, .int o_error, .int o_errorAt, x_o_bytes, x_o_end, x_o_at, x_o_number, x_o_planesTold, x_o_reachTold, x_o_lengthTold, x_o_priceTold]))] sz) := by
  refine kMet (y := yX3_fail) (av := [.ref q_o, .int p1, .int p2]) (cc := cX3_fail) (maxL := 3) (ret := some .boolean) (own := RX3) (Qc := fun A9 => (kQi D res.1 [(q_o, .inr (3, [x_o_show, x_o_filled, .int res.2.1, .int res.2.2, x_o_bytes, x_o_end, x_o_at, x_o_number, x_o_planesTold, x_o_reachTold, x_o_lengthTold, x_o_priceTold]))] A9)) (by decide) rfl rfl (Nat.le_of_ble_eq_true rfl) ?_
  intro p e s m args below meth c A hx hb hr hts hown hml hlocks hname hE hP hD hA hsz ls hl
  have hK := hE.1
  have hl : lv_has ls 3 [(0, .ref q_o), (1, .int p1), (2, .int p2)] := hl
  have hS : va_S A s.heap s.heap [] := va_S.rf
  have f_f22 := hts (.fieldLink RX3 22 "PeepBox$Setup" "error" "I") (by decide +kernel)
  have f_inX3 : ∀ w ∈ wsX30, w ∈ wsX3_fail := by decide +kernel
  have f_f25 := hts (.fieldLink RX3 25 "PeepBox$Setup" "errorAt" "I") (by decide +kernel)
  obtain ⟨QQ, hQQ⟩ : ∃ Q9, Q9 = MQ below (kQi D res.1 [(q_o, .inr (3, [x_o_show, x_o_filled, .int res.2.1, .int res.2.2, x_o_bytes, x_o_end, x_o_at, x_o_number, x_o_planesTold, x_o_reachTold, x_o_lengthTold, x_o_priceTold]))] A) args s 0 0 A := ⟨_, rfl⟩
  rw [← hQQ]
  have main : ∀ (H : Heap) (locs : List Loc) (ls : Array Slot), va_P D vwCl [(q_o, .inr (3, [x_o_show, x_o_filled, .int o_error, .int o_errorAt, x_o_bytes, x_o_end, x_o_at, x_o_number, x_o_planesTold, x_o_reachTold, x_o_lengthTold, x_o_priceTold]))] H → va_D A [(q_o, .inr (3, [x_o_show, x_o_filled, .int o_error, .int o_errorAt, x_o_bytes, x_o_end, x_o_at, x_o_number, x_o_planesTold, x_o_reachTold, x_o_lengthTold, x_o_priceTold]))] → va_S A s.heap H locs → lv_has ls 3 [(0, .ref q_o), (1, .int p1), (2, .int p2)] → W p l e ({ frames := 0, cells := 0, slots := 0, locals := 0 } : Room) s m args below meth c H locs 0 0 QQ (F0 m 0 ls []) := by
    intro H locs ls hP hD hS hl
    unfold X3_fail at hF
    refine lv_aload_n hx hb dX3_fail_0 rfl (lv_at hl 0 rfl) ?_
    refine lv_iload_n hx hb dX3_fail_1 rfl (lv_at hl 1 rfl) ?_
    refine va_put (D := D) (ci := 3) (v := .int p1) (ty := .int) (C := RX3) (T := TX3) (N := 12) hx hb hts f_inX3 tyX3 tyX3_ok nmX3 hown hK hP hD hS 0 rfl rfl 2 (by decide) f_f22 (fun _ h9 => h9) rfl (by decide +kernel) rfl rfl (Nat.le_of_ble_eq_true rfl) dX3_fail_2 (fun H locs hP hD hS => ?_)
    have hP : va_P D vwCl [(q_o, .inr (3, [x_o_show, x_o_filled, .int p1, .int o_errorAt, x_o_bytes, x_o_end, x_o_at, x_o_number, x_o_planesTold, x_o_reachTold, x_o_lengthTold, x_o_priceTold]))] H := hP
    have hD : va_D A [(q_o, .inr (3, [x_o_show, x_o_filled, .int p1, .int o_errorAt, x_o_bytes, x_o_end, x_o_at, x_o_number, x_o_planesTold, x_o_reachTold, x_o_lengthTold, x_o_priceTold]))] := hD
    refine lv_aload_n hx hb dX3_fail_5 rfl (lv_at hl 0 rfl) ?_
    refine lv_iload_n hx hb dX3_fail_6 rfl (lv_at hl 2 rfl) ?_
    refine va_put (D := D) (ci := 3) (v := .int p2) (ty := .int) (C := RX3) (T := TX3) (N := 12) hx hb hts f_inX3 tyX3 tyX3_ok nmX3 hown hK hP hD hS 0 rfl rfl 3 (by decide) f_f25 (fun _ h9 => h9) rfl (by decide +kernel) rfl rfl (Nat.le_of_ble_eq_true rfl) dX3_fail_7 (fun H locs hP hD hS => ?_)
    have hP : va_P D vwCl [(q_o, .inr (3, [x_o_show, x_o_filled, .int p1, .int p2, x_o_bytes, x_o_end, x_o_at, x_o_number, x_o_planesTold, x_o_reachTold, x_o_lengthTold, x_o_priceTold]))] H := hP
    have hD : va_D A [(q_o, .inr (3, [x_o_show, x_o_filled, .int p1, .int p2, x_o_bytes, x_o_end, x_o_at, x_o_number, x_o_planesTold, x_o_reachTold, x_o_lengthTold, x_o_priceTold]))] := hD
    refine lv_iconst (v := 0) hx hb dX3_fail_10 (by decide) ?_
    obtain rfl := so_o hF
    rw [hQQ]
    exact kr_z (v := (0 : Int32)) hx hb hr hlocks rfl hP hD hS dX3_fail_11
  exact main s.heap [] ls hP hD hS hl
