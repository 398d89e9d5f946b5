/-! contracts, written by program (gen.py): X3_isDigit X3_readNumber X4_begin X3_readSign X3_readBox X3_isOfLine X3_readLine X3_readPlane X3_readHole X3_readReach X3_readLength X3_readKind X3_readViewer -/
theorem kd_X3_isDigit : yX3_isDigit.cls ≠ "java/lang/invoke/MethodHandle" ∧ yX3_isDigit.cls ≠ "java/lang/invoke/VarHandle" ∧ (parseMethodDescriptor yX3_isDigit.desc).map (fun d => d.parameters.length) = some 1 := by decide +kernel
set_option maxHeartbeats 4000000 in
set_option maxRecDepth 100000 in
theorem c_X3_isDigit {l : Launch} {D : va_G} {cy : Nat → ClassId} (sz : Nat) (p0 : Int32) (res : Int32) (hF : X3_isDigit p0 = some res) : Met l yX3_isDigit wsX3_isDigit ({ frames := 0, cells := 0, slots := 0, locals := 0 } : Room) (kP (EN D cy) D [.int p0] [] sz) (kQi D res [] (va_A [] sz)) 0 0 (va_A [] sz) := by
  refine kMet (y := yX3_isDigit) (av := [.int p0]) (cc := cX3_isDigit) (maxL := 1) (ret := some .boolean) (own := RX3) (Qc := fun A9 => (kQi D res [] A9)) (by decide) rfl rfl (Nat.le_of_ble_eq_true rfl) ?_
  intro p e s m args below meth c A hx hb hr hts hown hml hlocks hname hE hP hD hA hsz ls hl
  have hK := hE.1
  have hl : lv_has ls 1 [(0, .int p0)] := hl
  have hS : va_S A s.heap s.heap [] := va_S.rf
  obtain ⟨QQ, hQQ⟩ : ∃ Q9, Q9 = MQ below (kQi D res [] A) args s 0 0 A := ⟨_, rfl⟩
  rw [← hQQ]
  have main : ∀ (H : Heap) (locs : List Loc) (ls : Array Slot), va_P D vwCl [] H → va_D A [] → va_S A s.heap H locs → lv_has ls 1 [(0, .int p0)] → W p l e ({ frames := 0, cells := 0, slots := 0, locals := 0 } : Room) s m args below meth c H locs 0 0 QQ (F0 m 0 ls []) := by
    intro H locs ls hP hD hS hl
    unfold X3_isDigit at hF
    refine lv_iload_n hx hb dX3_isDigit_0 rfl (lv_at hl 0 rfl) ?_
    refine lv_bipush (v := 48) hx hb dX3_isDigit_1 (by decide) ?_
    refine lv_icmp_lt (tgt := 16) hx hb dX3_isDigit_3 (by decide) (fun c1 => ?_) (fun c1 => ?_)
    · have hF := if_p hF c1
      refine lv_iconst (v := 0) hx hb dX3_isDigit_16 (by decide) ?_
      obtain rfl := so_o hF
      rw [hQQ]
      exact kr_z (v := (0 : Int32)) hx hb hr hlocks rfl hP hD hS dX3_isDigit_17
    · have hF := if_n hF c1
      refine lv_iload_n hx hb dX3_isDigit_6 rfl (lv_at hl 0 rfl) ?_
      refine lv_bipush (v := 57) hx hb dX3_isDigit_7 (by decide) ?_
      refine lv_icmp_gt (tgt := 16) hx hb dX3_isDigit_9 (by decide) (fun c2 => ?_) (fun c2 => ?_)
      · have hF := if_p hF c2
        refine lv_iconst (v := 0) hx hb dX3_isDigit_16 (by decide) ?_
        obtain rfl := so_o hF
        rw [hQQ]
        exact kr_z (v := (0 : Int32)) hx hb hr hlocks rfl hP hD hS dX3_isDigit_17
      · have hF := if_n hF c2
        refine lv_iconst (v := 1) hx hb dX3_isDigit_12 (by decide) ?_
        refine lv_goto (tgt := 17) hx hb dX3_isDigit_13 (by decide) ?_
        obtain rfl := so_o hF
        rw [hQQ]
        exact kr_z (v := (1 : Int32)) hx hb hr hlocks rfl hP hD hS dX3_isDigit_17
  exact main s.heap [] ls hP hD hS hl
theorem kd_X3_readNumber : yX3_readNumber.cls = RX3 ∧ yX3_readNumber.cls ≠ "java/lang/invoke/MethodHandle" ∧ yX3_readNumber.cls ≠ "java/lang/invoke/VarHandle" ∧ (parseMethodDescriptor yX3_readNumber.desc).map (fun d => d.parameters.length) = some 2 := by decide +kernel
set_option maxHeartbeats 4000000 in
set_option maxRecDepth 100000 in
theorem c_X3_readNumber {l : Launch} {D : va_G} {cy : Nat → ClassId} (q_o q_o_bytes : Nat) (sz : Nat) (x_o_show x_o_filled x_o_planesTold x_o_reachTold x_o_lengthTold x_o_priceTold : Value) (o_error : Int32) (o_errorAt : Int32) (o_end : Int32) (o_at : Int32) (o_number : Int32) (o_bytes : Nat → Int32) (p1 : Int32) (p2 : Int32) (res : Int32 × Int32 × Int32 × Int32 × Int32) (hF : X3_readNumber o_error o_errorAt o_end o_at o_number o_bytes p1 p2 = some res) : Met l yX3_readNumber wsX3_readNumber ({ frames := 1, cells := 0, slots := 0, locals := 30 } : Room) (kP (EN D cy) D [.ref q_o, .int p1, .int p2] [(q_o, .inr (3, [x_o_show, x_o_filled, .int o_error, .int o_errorAt, .ref q_o_bytes, .int o_end, .int o_at, .int o_number, x_o_planesTold, x_o_reachTold, x_o_lengthTold, x_o_priceTold])), (q_o_bytes, .inl (cy 1, 800, .inl o_bytes))] sz) (kQi D res.1 [(q_o, .inr (3, [x_o_show, x_o_filled, .int res.2.1, .int res.2.2.1, .ref q_o_bytes, .int o_end, .int res.2.2.2.1, .int res.2.2.2.2, x_o_planesTold, x_o_reachTold, x_o_lengthTold, x_o_priceTold])), (q_o_bytes, .inl (cy 1, 800, .inl o_bytes))] (va_A [(q_o, .inr (3, [x_o_show, x_o_filled, .int o_error, .int o_errorAt, .ref q_o_bytes, .int o_end, .int o_at, .int o_number, x_o_planesTold, x_o_reachTold, x_o_lengthTold, x_o_priceTold])), (q_o_bytes, .inl (cy 1, 800, .inl o_bytes))] sz)) 0 0 (va_A [(q_o, .inr (3, [x_o_show, x_o_filled, .int o_error, .int o_errorAt, .ref q_o_bytes, .int o_end, .int o_at, .int o_number, x_o_planesTold, x_o_reachTold, x_o_lengthTold, x_o_priceTold])), (q_o_bytes, .inl (cy 1, 800, .inl o_bytes))] sz) := by
  refine kMet (y := yX3_readNumber) (av := [.ref q_o, .int p1, .int p2]) (cc := cX3_readNumber) (maxL := 4) (ret := some .boolean) (own := RX3) (Qc := fun A9 => (kQi D res.1 [(q_o, .inr (3, [x_o_show, x_o_filled, .int res.2.1, .int res.2.2.1, .ref q_o_bytes, .int o_end, .int res.2.2.2.1, .int res.2.2.2.2, x_o_planesTold, x_o_reachTold, x_o_lengthTold, x_o_priceTold])), (q_o_bytes, .inl (cy 1, 800, .inl o_bytes))] A9)) (by decide) rfl rfl (Nat.le_of_ble_eq_true rfl) ?_
  intro p e s m args below meth c A hx hb hr hts hown hml hlocks hname hE hP hD hA hsz ls hl
  have hK := hE.1
  have hl : lv_has ls 4 [(0, .ref q_o), (1, .int p1), (2, .int p2)] := hl
  have hS : va_S A s.heap s.heap [] := va_S.rf
  have f_f38 := hts (.fieldLink RX3 38 "PeepBox$Setup" "number" "I") (by decide +kernel)
  have f_inX3 : ∀ w ∈ wsX30, w ∈ wsX3_readNumber := by decide +kernel
  have f_f35 := hts (.fieldLink RX3 35 "PeepBox$Setup" "at" "I") (by decide +kernel)
  have f_f32 := hts (.fieldLink RX3 32 "PeepBox$Setup" "end" "I") (by decide +kernel)
  have f_f28 := hts (.fieldLink RX3 28 "PeepBox$Setup" "bytes" "[B") (by decide +kernel)
  have f_c210 := hts (.constant RX3 210 (99999)) (by decide +kernel)
  have f_m86 := hts (.methodLink RX3 86 Lib.Math.min.name) (by decide +kernel)
  have f_s_va_mmin := hts (.static Lib.Math.min.name) (by decide +kernel)
  have f_iMath := hts (.initialized "java/lang/Math") (by decide +kernel)
  have f_k_va_mmin := hts (.code Lib.Math.min.name Lib.Math.min.code 2 (some .int)) (by decide +kernel)
  obtain ⟨QQ, hQQ⟩ : ∃ Q9, Q9 = MQ below (kQi D res.1 [(q_o, .inr (3, [x_o_show, x_o_filled, .int res.2.1, .int res.2.2.1, .ref q_o_bytes, .int o_end, .int res.2.2.2.1, .int res.2.2.2.2, x_o_planesTold, x_o_reachTold, x_o_lengthTold, x_o_priceTold])), (q_o_bytes, .inl (cy 1, 800, .inl o_bytes))] A) args s 0 0 A := ⟨_, rfl⟩
  rw [← hQQ]
  have J125 : ∀ (o_error : Int32) (o_errorAt : Int32) (o_at : Int32) (o_number : Int32) (H : Heap) (locs : List Loc) (ls : Array Slot), va_P D vwCl [(q_o, .inr (3, [x_o_show, x_o_filled, .int o_error, .int o_errorAt, .ref q_o_bytes, .int o_end, .int o_at, .int o_number, x_o_planesTold, x_o_reachTold, x_o_lengthTold, x_o_priceTold])), (q_o_bytes, .inl (cy 1, 800, .inl o_bytes))] H → va_D A [(q_o, .inr (3, [x_o_show, x_o_filled, .int o_error, .int o_errorAt, .ref q_o_bytes, .int o_end, .int o_at, .int o_number, x_o_planesTold, x_o_reachTold, x_o_lengthTold, x_o_priceTold])), (q_o_bytes, .inl (cy 1, 800, .inl o_bytes))] → va_S A s.heap H locs → lv_has ls 4 [] → X3_readNumber_J125 o_end o_bytes p1 p2 o_error o_errorAt o_at o_number = some res → W p l e ({ frames := 1, cells := 0, slots := 0, locals := 30 } : Room) s m args below meth c H locs 0 0 QQ (F0 m 125 ls []) := by
    intro o_error o_errorAt o_at o_number H locs ls hP hD hS hl hF
    unfold X3_readNumber_J125 at hF
    refine lv_iconst (v := 1) hx hb dX3_readNumber_125 (by decide) ?_
    refine lv_goto (tgt := 130) hx hb dX3_readNumber_126 (by decide) ?_
    obtain rfl := so_o hF
    rw [hQQ]
    exact kr_z (v := (1 : Int32)) hx hb hr hlocks rfl hP hD hS dX3_readNumber_130
  have J115 : ∀ (l3 : Int32) (o_at : Int32) (o_number : Int32) (H : Heap) (locs : List Loc) (ls : Array Slot), va_P D vwCl [(q_o, .inr (3, [x_o_show, x_o_filled, .int o_error, .int o_errorAt, .ref q_o_bytes, .int o_end, .int o_at, .int o_number, x_o_planesTold, x_o_reachTold, x_o_lengthTold, x_o_priceTold])), (q_o_bytes, .inl (cy 1, 800, .inl o_bytes))] H → va_D A [(q_o, .inr (3, [x_o_show, x_o_filled, .int o_error, .int o_errorAt, .ref q_o_bytes, .int o_end, .int o_at, .int o_number, x_o_planesTold, x_o_reachTold, x_o_lengthTold, x_o_priceTold])), (q_o_bytes, .inl (cy 1, 800, .inl o_bytes))] → va_S A s.heap H locs → lv_has ls 4 [(0, .ref q_o), (3, .int l3)] → X3_readNumber_J115 o_error o_errorAt o_end o_bytes p1 p2 l3 o_at o_number = some res → W p l e ({ frames := 1, cells := 0, slots := 0, locals := 30 } : Room) s m args below meth c H locs 0 0 QQ (F0 m 115 ls []) := by
    intro l3 o_at o_number H locs ls hP hD hS hl hF
    unfold X3_readNumber_J115 at hF
    refine lv_aload_n hx hb dX3_readNumber_115 rfl (lv_at hl 0 rfl) ?_
    refine lv_bipush (v := -3) hx hb dX3_readNumber_116 (by decide) ?_
    refine lv_iload_n hx hb dX3_readNumber_118 rfl (lv_at hl 1 rfl) ?_
    obtain ⟨r1, o2, o3, h4, hF⟩ := bn3_o hF
    refine kd_i [(q_o, .inr (3, [x_o_show, x_o_filled, .int o2, .int o3, .ref q_o_bytes, .int o_end, .int o_at, .int o_number, x_o_planesTold, x_o_reachTold, x_o_lengthTold, x_o_priceTold])), (q_o_bytes, .inl (cy 1, 800, .inl o_bytes))] (va_runV (As := [.int (-3 : Int32), .int l3]) (rest := []) ⟨hx, hb, hml, hown, hts⟩ (c_X3_fail q_o H.size x_o_show x_o_filled (.ref q_o_bytes) (.int o_end) (.int o_at) (.int o_number) x_o_planesTold x_o_reachTold x_o_lengthTold x_o_priceTold o_error o_errorAt (-3 : Int32) l3 _ h4) (cwV 2 hts gX3_readNumber_X3_fail rfl rfl rfl kd_X3_fail ⟨Nat.le_of_ble_eq_true rfl, Nat.le_of_ble_eq_true rfl⟩) ⟨kP_blind (EN_ok D cy) D _ _ _, va_recv hK hP (ci := 3) (q0 := 0) rfl rfl, kStart (EN_ok D cy) hE hP hD hS hA [0] rfl rfl _⟩ rfl rfl hl.1 rfl (lv_room (Nat.le_of_ble_eq_true rfl)) dX3_readNumber_119 ⟨Nat.zero_le _, Nat.zero_le _⟩) hP hD hS hA [0] [1] rfl rfl rfl 2 rfl (by decide +kernel) (fun H locs hP hD hS => ?_)
    refine lv_if_eq (tgt := 129) hx hb dX3_readNumber_122 (by decide) (fun c5 => ?_) (fun c5 => ?_)
    · have hF := if_p hF c5
      refine lv_iconst (v := 0) hx hb dX3_readNumber_129 (by decide) ?_
      obtain rfl := so_o hF
      rw [hQQ]
      exact kr_z (v := (0 : Int32)) hx hb hr hlocks rfl hP hD hS dX3_readNumber_130
    · have hF := if_n hF c5
      exact J125 o2 o3 o_at o_number H locs ls hP hD hS (lv_sub hl [] rfl) hF
  have J99 : ∀ (l3 : Int32) (o_at : Int32) (o_number : Int32) (H : Heap) (locs : List Loc) (ls : Array Slot), va_P D vwCl [(q_o, .inr (3, [x_o_show, x_o_filled, .int o_error, .int o_errorAt, .ref q_o_bytes, .int o_end, .int o_at, .int o_number, x_o_planesTold, x_o_reachTold, x_o_lengthTold, x_o_priceTold])), (q_o_bytes, .inl (cy 1, 800, .inl o_bytes))] H → va_D A [(q_o, .inr (3, [x_o_show, x_o_filled, .int o_error, .int o_errorAt, .ref q_o_bytes, .int o_end, .int o_at, .int o_number, x_o_planesTold, x_o_reachTold, x_o_lengthTold, x_o_priceTold])), (q_o_bytes, .inl (cy 1, 800, .inl o_bytes))] → va_S A s.heap H locs → lv_has ls 4 [(0, .ref q_o), (1, .int p1), (2, .int p2), (3, .int l3)] → X3_readNumber_J99 o_error o_errorAt o_end o_bytes p1 p2 l3 o_at o_number = some res → W p l e ({ frames := 1, cells := 0, slots := 0, locals := 30 } : Room) s m args below meth c H locs 0 0 QQ (F0 m 99 ls []) := by
    intro l3 o_at o_number H locs ls hP hD hS hl hF
    unfold X3_readNumber_J99 at hF
    refine lv_aload_n hx hb dX3_readNumber_99 rfl (lv_at hl 0 rfl) ?_
    refine va_get (D := D) (ci := 3) (v := .int o_number) (C := RX3) (T := TX3) (N := 12) hx hb hts f_inX3 hown hK hP 0 rfl rfl 7 (by decide) f_f38 (fun _ h9 => h9) rfl dX3_readNumber_100 ?_
    refine lv_iload_n hx hb dX3_readNumber_103 rfl (lv_at hl 1 rfl) ?_
    refine lv_icmp_lt (tgt := 115) hx hb dX3_readNumber_104 (by decide) (fun c6 => ?_) (fun c6 => ?_)
    · have hF := if_p hF c6
      exact J115 l3 o_at o_number H locs ls hP hD hS (lv_sub hl [0, 3] rfl) hF
    · have hF := if_n hF c6
      refine lv_aload_n hx hb dX3_readNumber_107 rfl (lv_at hl 0 rfl) ?_
      refine va_get (D := D) (ci := 3) (v := .int o_number) (C := RX3) (T := TX3) (N := 12) hx hb hts f_inX3 hown hK hP 0 rfl rfl 7 (by decide) f_f38 (fun _ h9 => h9) rfl dX3_readNumber_108 ?_
      refine lv_iload_n hx hb dX3_readNumber_111 rfl (lv_at hl 2 rfl) ?_
      refine lv_icmp_le (tgt := 125) hx hb dX3_readNumber_112 (by decide) (fun c7 => ?_) (fun c7 => ?_)
      · have hF := if_p hF c7
        exact J125 o_error o_errorAt o_at o_number H locs ls hP hD hS (lv_sub hl [] rfl) hF
      · have hF := if_n hF c7
        exact J115 l3 o_at o_number H locs ls hP hD hS (lv_sub hl [0, 3] rfl) hF
  have J31 : ∀ (n31 : Nat) (l3 : Int32) (o_at : Int32) (o_number : Int32) (H : Heap) (locs : List Loc) (ls : Array Slot), va_P D vwCl [(q_o, .inr (3, [x_o_show, x_o_filled, .int o_error, .int o_errorAt, .ref q_o_bytes, .int o_end, .int o_at, .int o_number, x_o_planesTold, x_o_reachTold, x_o_lengthTold, x_o_priceTold])), (q_o_bytes, .inl (cy 1, 800, .inl o_bytes))] H → va_D A [(q_o, .inr (3, [x_o_show, x_o_filled, .int o_error, .int o_errorAt, .ref q_o_bytes, .int o_end, .int o_at, .int o_number, x_o_planesTold, x_o_reachTold, x_o_lengthTold, x_o_priceTold])), (q_o_bytes, .inl (cy 1, 800, .inl o_bytes))] → va_S A s.heap H locs → lv_has ls 4 [(0, .ref q_o), (1, .int p1), (2, .int p2), (3, .int l3)] → X3_readNumber_L31 o_error o_errorAt o_end o_bytes p1 p2 n31 l3 o_at o_number = some res → W p l e ({ frames := 1, cells := 0, slots := 0, locals := 30 } : Room) s m args below meth c H locs 0 0 QQ (F0 m 31 ls []) := by
    intro n31
    induction n31 with
    | zero =>
      intro l3 o_at o_number H locs ls hP hD hS hl hF
      rw [X3_readNumber_L31] at hF
      cases hF
    | succ n31 ih31 =>
      intro l3 o_at o_number H locs ls hP hD hS hl hF
      rw [X3_readNumber_L31] at hF
      refine lv_aload_n hx hb dX3_readNumber_31 rfl (lv_at hl 0 rfl) ?_
      refine va_get (D := D) (ci := 3) (v := .int o_at) (C := RX3) (T := TX3) (N := 12) hx hb hts f_inX3 hown hK hP 0 rfl rfl 6 (by decide) f_f35 (fun _ h9 => h9) rfl dX3_readNumber_32 ?_
      refine lv_aload_n hx hb dX3_readNumber_35 rfl (lv_at hl 0 rfl) ?_
      refine va_get (D := D) (ci := 3) (v := .int o_end) (C := RX3) (T := TX3) (N := 12) hx hb hts f_inX3 hown hK hP 0 rfl rfl 5 (by decide) f_f32 (fun _ h9 => h9) rfl dX3_readNumber_36 ?_
      refine lv_icmp_ge (tgt := 99) hx hb dX3_readNumber_39 (by decide) (fun c8 => ?_) (fun c8 => ?_)
      · have hF := if_p hF c8
        exact J99 l3 o_at o_number H locs ls hP hD hS (lv_sub hl [0, 1, 2, 3] rfl) hF
      · have hF := if_n hF c8
        refine lv_aload_n hx hb dX3_readNumber_42 rfl (lv_at hl 0 rfl) ?_
        refine va_get (D := D) (ci := 3) (v := .ref q_o_bytes) (C := RX3) (T := TX3) (N := 12) hx hb hts f_inX3 hown hK hP 0 rfl rfl 4 (by decide) f_f28 (fun _ h9 => h9) rfl dX3_readNumber_43 ?_
        refine lv_aload_n hx hb dX3_readNumber_46 rfl (lv_at hl 0 rfl) ?_
        refine va_get (D := D) (ci := 3) (v := .int o_at) (C := RX3) (T := TX3) (N := 12) hx hb hts f_inX3 hown hK hP 0 rfl rfl 6 (by decide) f_f35 (fun _ h9 => h9) rfl dX3_readNumber_47 ?_
        obtain ⟨h9, hF⟩ := ld_o hF
        refine va_bald hx hb hK hP 1 1 rfl rfl h9 dX3_readNumber_50 ?_
        refine lv_topi (fun v10 ev10 => ?_)
        have hF := hF v10 ev10
        obtain ⟨r11, h12, hF⟩ := bn1_o hF
        refine kd_i [(q_o, .inr (3, [x_o_show, x_o_filled, .int o_error, .int o_errorAt, .ref q_o_bytes, .int o_end, .int o_at, .int o_number, x_o_planesTold, x_o_reachTold, x_o_lengthTold, x_o_priceTold])), (q_o_bytes, .inl (cy 1, 800, .inl o_bytes))] (va_runS (As := [.int v10]) (rest := []) ⟨hx, hb, hml, hown, hts⟩ (c_X3_isDigit H.size v10 _ h12) (va_cwS 1 hts gX3_readNumber_X3_isDigit rfl rfl rfl kd_X3_isDigit ⟨Nat.le_of_ble_eq_true rfl, Nat.le_of_ble_eq_true rfl⟩) ⟨kP_blind (EN_ok D cy) D _ _ _, kStart (EN_ok D cy) hE hP hD hS hA [] rfl rfl _⟩ rfl rfl hl.1 rfl (lv_room (Nat.le_of_ble_eq_true rfl)) dX3_readNumber_51 ⟨Nat.zero_le _, Nat.zero_le _⟩) hP hD hS hA [] [0, 1] rfl rfl rfl 2 rfl (by decide +kernel) (fun H locs hP hD hS => ?_)
        refine lv_if_eq (tgt := 99) hx hb dX3_readNumber_54 (by decide) (fun c13 => ?_) (fun c13 => ?_)
        · have hF := if_p hF c13
          exact J99 l3 o_at o_number H locs ls hP hD hS (lv_sub hl [0, 1, 2, 3] rfl) hF
        · have hF := if_n hF c13
          refine lv_aload_n hx hb dX3_readNumber_57 rfl (lv_at hl 0 rfl) ?_
          refine lv_bipush (v := 10) hx hb dX3_readNumber_58 (by decide) ?_
          refine lv_aload_n hx hb dX3_readNumber_60 rfl (lv_at hl 0 rfl) ?_
          refine va_get (D := D) (ci := 3) (v := .int o_number) (C := RX3) (T := TX3) (N := 12) hx hb hts f_inX3 hown hK hP 0 rfl rfl 7 (by decide) f_f38 (fun _ h9 => h9) rfl dX3_readNumber_61 ?_
          refine lv_imul hx hb dX3_readNumber_64 ?_
          refine lv_aload_n hx hb dX3_readNumber_65 rfl (lv_at hl 0 rfl) ?_
          refine va_get (D := D) (ci := 3) (v := .ref q_o_bytes) (C := RX3) (T := TX3) (N := 12) hx hb hts f_inX3 hown hK hP 0 rfl rfl 4 (by decide) f_f28 (fun _ h9 => h9) rfl dX3_readNumber_66 ?_
          refine lv_aload_n hx hb dX3_readNumber_69 rfl (lv_at hl 0 rfl) ?_
          refine va_get (D := D) (ci := 3) (v := .int o_at) (C := RX3) (T := TX3) (N := 12) hx hb hts f_inX3 hown hK hP 0 rfl rfl 6 (by decide) f_f35 (fun _ h9 => h9) rfl dX3_readNumber_70 ?_
          obtain ⟨h14, hF⟩ := ld_o hF
          refine va_bald hx hb hK hP 1 1 rfl rfl h14 dX3_readNumber_73 ?_
          refine lv_topi (fun v15 ev15 => ?_)
          have hF := hF v15 ev15
          refine lv_iadd hx hb dX3_readNumber_74 ?_
          refine lv_bipush (v := 48) hx hb dX3_readNumber_75 (by decide) ?_
          refine lv_isub hx hb dX3_readNumber_77 ?_
          refine lv_ldc (v := 99999) hx hb hown f_c210 dX3_readNumber_78 ?_
          refine va_mmin hx hb (by rw [hml]; exact hl.1.symm) hown f_m86 f_s_va_mmin f_iMath f_k_va_mmin (Nat.le_of_ble_eq_true rfl) (Nat.le_of_ble_eq_true rfl) (Nat.zero_le _) (Nat.zero_le _) dX3_readNumber_80 ?_
          refine lv_topi (fun v16 ev16 => ?_)
          have hF := nm_o hF v16 ev16
          refine va_put (D := D) (ci := 3) (v := .int v16) (ty := .int) (C := RX3) (T := TX3) (N := 12) hx hb hts f_inX3 tyX3 tyX3_ok nmX3 hown hK hP hD hS 0 rfl rfl 7 (by decide) f_f38 (fun _ h9 => h9) rfl (by decide +kernel) rfl rfl (Nat.le_of_ble_eq_true rfl) dX3_readNumber_83 (fun H locs hP hD hS => ?_)
          have hP : va_P D vwCl [(q_o, .inr (3, [x_o_show, x_o_filled, .int o_error, .int o_errorAt, .ref q_o_bytes, .int o_end, .int o_at, .int v16, x_o_planesTold, x_o_reachTold, x_o_lengthTold, x_o_priceTold])), (q_o_bytes, .inl (cy 1, 800, .inl o_bytes))] H := hP
          have hD : va_D A [(q_o, .inr (3, [x_o_show, x_o_filled, .int o_error, .int o_errorAt, .ref q_o_bytes, .int o_end, .int o_at, .int v16, x_o_planesTold, x_o_reachTold, x_o_lengthTold, x_o_priceTold])), (q_o_bytes, .inl (cy 1, 800, .inl o_bytes))] := hD
          refine lv_aload_n hx hb dX3_readNumber_86 rfl (lv_at hl 0 rfl) ?_
          refine lv_dup hx hb dX3_readNumber_87 rfl ?_
          refine va_get (D := D) (ci := 3) (v := .int o_at) (C := RX3) (T := TX3) (N := 12) hx hb hts f_inX3 hown hK hP 0 rfl rfl 6 (by decide) f_f35 (fun _ h9 => h9) rfl dX3_readNumber_88 ?_
          refine lv_iconst (v := 1) hx hb dX3_readNumber_91 (by decide) ?_
          refine lv_iadd hx hb dX3_readNumber_92 ?_
          refine lv_topi (fun v17 ev17 => ?_)
          have hF := nm_o hF v17 ev17
          refine va_put (D := D) (ci := 3) (v := .int v17) (ty := .int) (C := RX3) (T := TX3) (N := 12) hx hb hts f_inX3 tyX3 tyX3_ok nmX3 hown hK hP hD hS 0 rfl rfl 6 (by decide) f_f35 (fun _ h9 => h9) rfl (by decide +kernel) rfl rfl (Nat.le_of_ble_eq_true rfl) dX3_readNumber_93 (fun H locs hP hD hS => ?_)
          have hP : va_P D vwCl [(q_o, .inr (3, [x_o_show, x_o_filled, .int o_error, .int o_errorAt, .ref q_o_bytes, .int o_end, .int v17, .int v16, x_o_planesTold, x_o_reachTold, x_o_lengthTold, x_o_priceTold])), (q_o_bytes, .inl (cy 1, 800, .inl o_bytes))] H := hP
          have hD : va_D A [(q_o, .inr (3, [x_o_show, x_o_filled, .int o_error, .int o_errorAt, .ref q_o_bytes, .int o_end, .int v17, .int v16, x_o_planesTold, x_o_reachTold, x_o_lengthTold, x_o_priceTold])), (q_o_bytes, .inl (cy 1, 800, .inl o_bytes))] := hD
          refine lv_goto (tgt := 31) hx hb dX3_readNumber_96 (by decide) ?_
          exact ih31 l3 v17 v16 H locs ls hP hD hS (lv_sub hl [0, 1, 2, 3] rfl) hF
  have main : ∀ (H : Heap) (locs : List Loc) (ls : Array Slot), va_P D vwCl [(q_o, .inr (3, [x_o_show, x_o_filled, .int o_error, .int o_errorAt, .ref q_o_bytes, .int o_end, .int o_at, .int o_number, x_o_planesTold, x_o_reachTold, x_o_lengthTold, x_o_priceTold])), (q_o_bytes, .inl (cy 1, 800, .inl o_bytes))] H → va_D A [(q_o, .inr (3, [x_o_show, x_o_filled, .int o_error, .int o_errorAt, .ref q_o_bytes, .int o_end, .int o_at, .int o_number, x_o_planesTold, x_o_reachTold, x_o_lengthTold, x_o_priceTold])), (q_o_bytes, .inl (cy 1, 800, .inl o_bytes))] → va_S A s.heap H locs → lv_has ls 4 [(0, .ref q_o), (1, .int p1), (2, .int p2)] → W p l e ({ frames := 1, cells := 0, slots := 0, locals := 30 } : Room) s m args below meth c H locs 0 0 QQ (F0 m 0 ls []) := by
    intro H locs ls hP hD hS hl
    unfold X3_readNumber at hF
    refine lv_aload_n hx hb dX3_readNumber_0 rfl (lv_at hl 0 rfl) ?_
    obtain ⟨r18, o19, h20, hF⟩ := bn2_o hF
    refine kd_i [(q_o, .inr (3, [x_o_show, x_o_filled, .int o_error, .int o_errorAt, .ref q_o_bytes, .int o_end, .int o19, .int o_number, x_o_planesTold, x_o_reachTold, x_o_lengthTold, x_o_priceTold])), (q_o_bytes, .inl (cy 1, 800, .inl o_bytes))] (va_runV (As := []) (rest := []) ⟨hx, hb, hml, hown, hts⟩ (c_X3_peek q_o q_o_bytes H.size x_o_show x_o_filled (.int o_error) (.int o_errorAt) (.int o_number) x_o_planesTold x_o_reachTold x_o_lengthTold x_o_priceTold o_end o_at o_bytes _ h20) (cwV 0 hts gX3_readNumber_X3_peek rfl rfl rfl kd_X3_peek ⟨Nat.le_of_ble_eq_true rfl, Nat.le_of_ble_eq_true rfl⟩) ⟨kP_blind (EN_ok D cy) D _ _ _, va_recv hK hP (ci := 3) (q0 := 0) rfl rfl, kStart (EN_ok D cy) hE hP hD hS hA [0, 1] rfl rfl _⟩ rfl rfl hl.1 rfl (lv_room (Nat.le_of_ble_eq_true rfl)) dX3_readNumber_1 ⟨Nat.zero_le _, Nat.zero_le _⟩) hP hD hS hA [0, 1] [] rfl rfl rfl 2 rfl (by decide +kernel) (fun H locs hP hD hS => ?_)
    obtain ⟨r21, h22, hF⟩ := bn1_o hF
    refine kd_i [(q_o, .inr (3, [x_o_show, x_o_filled, .int o_error, .int o_errorAt, .ref q_o_bytes, .int o_end, .int o19, .int o_number, x_o_planesTold, x_o_reachTold, x_o_lengthTold, x_o_priceTold])), (q_o_bytes, .inl (cy 1, 800, .inl o_bytes))] (va_runS (As := [.int r18]) (rest := []) ⟨hx, hb, hml, hown, hts⟩ (c_X3_isDigit H.size r18 _ h22) (va_cwS 1 hts gX3_readNumber_X3_isDigit rfl rfl rfl kd_X3_isDigit ⟨Nat.le_of_ble_eq_true rfl, Nat.le_of_ble_eq_true rfl⟩) ⟨kP_blind (EN_ok D cy) D _ _ _, kStart (EN_ok D cy) hE hP hD hS hA [] rfl rfl _⟩ rfl rfl hl.1 rfl (lv_room (Nat.le_of_ble_eq_true rfl)) dX3_readNumber_4 ⟨Nat.zero_le _, Nat.zero_le _⟩) hP hD hS hA [] [0, 1] rfl rfl rfl 2 rfl (by decide +kernel) (fun H locs hP hD hS => ?_)
    refine lv_if_ne (tgt := 21) hx hb dX3_readNumber_7 (by decide) (fun c23 => ?_) (fun c23 => ?_)
    · have hF := if_n hF c23
      refine lv_aload_n hx hb dX3_readNumber_21 rfl (lv_at hl 0 rfl) ?_
      refine va_get (D := D) (ci := 3) (v := .int o19) (C := RX3) (T := TX3) (N := 12) hx hb hts f_inX3 hown hK hP 0 rfl rfl 6 (by decide) f_f35 (fun _ h9 => h9) rfl dX3_readNumber_22 ?_
      refine lv_istore_n (lv' := [(3, .int o19), (0, .ref q_o), (1, .int p1), (2, .int p2)]) hx hb dX3_readNumber_25 rfl hl (by decide) rfl (fun ls hl => ?_)
      refine lv_aload_n hx hb dX3_readNumber_26 rfl (lv_at hl 1 rfl) ?_
      refine lv_iconst (v := 0) hx hb dX3_readNumber_27 (by decide) ?_
      refine va_put (D := D) (ci := 3) (v := .int (0 : Int32)) (ty := .int) (C := RX3) (T := TX3) (N := 12) hx hb hts f_inX3 tyX3 tyX3_ok nmX3 hown hK hP hD hS 0 rfl rfl 7 (by decide) f_f38 (fun _ h9 => h9) rfl (by decide +kernel) rfl rfl (Nat.le_of_ble_eq_true rfl) dX3_readNumber_28 (fun H locs hP hD hS => ?_)
      have hP : va_P D vwCl [(q_o, .inr (3, [x_o_show, x_o_filled, .int o_error, .int o_errorAt, .ref q_o_bytes, .int o_end, .int o19, .int (0 : Int32), x_o_planesTold, x_o_reachTold, x_o_lengthTold, x_o_priceTold])), (q_o_bytes, .inl (cy 1, 800, .inl o_bytes))] H := hP
      have hD : va_D A [(q_o, .inr (3, [x_o_show, x_o_filled, .int o_error, .int o_errorAt, .ref q_o_bytes, .int o_end, .int o19, .int (0 : Int32), x_o_planesTold, x_o_reachTold, x_o_lengthTold, x_o_priceTold])), (q_o_bytes, .inl (cy 1, 800, .inl o_bytes))] := hD
      exact J31 FU o19 o19 (0 : Int32) H locs ls hP hD hS (lv_sub hl [1, 2, 3, 0] rfl) hF
    · have hF := if_p hF c23
      refine lv_aload_n hx hb dX3_readNumber_10 rfl (lv_at hl 0 rfl) ?_
      refine lv_bipush (v := -2) hx hb dX3_readNumber_11 (by decide) ?_
      refine lv_aload_n hx hb dX3_readNumber_13 rfl (lv_at hl 0 rfl) ?_
      refine va_get (D := D) (ci := 3) (v := .int o19) (C := RX3) (T := TX3) (N := 12) hx hb hts f_inX3 hown hK hP 0 rfl rfl 6 (by decide) f_f35 (fun _ h9 => h9) rfl dX3_readNumber_14 ?_
      obtain ⟨r24, o25, o26, h27, hF⟩ := bn3_o hF
      refine kd_i [(q_o, .inr (3, [x_o_show, x_o_filled, .int o25, .int o26, .ref q_o_bytes, .int o_end, .int o19, .int o_number, x_o_planesTold, x_o_reachTold, x_o_lengthTold, x_o_priceTold])), (q_o_bytes, .inl (cy 1, 800, .inl o_bytes))] (va_runV (As := [.int (-2 : Int32), .int o19]) (rest := []) ⟨hx, hb, hml, hown, hts⟩ (c_X3_fail q_o H.size x_o_show x_o_filled (.ref q_o_bytes) (.int o_end) (.int o19) (.int o_number) x_o_planesTold x_o_reachTold x_o_lengthTold x_o_priceTold o_error o_errorAt (-2 : Int32) o19 _ h27) (cwV 2 hts gX3_readNumber_X3_fail rfl rfl rfl kd_X3_fail ⟨Nat.le_of_ble_eq_true rfl, Nat.le_of_ble_eq_true rfl⟩) ⟨kP_blind (EN_ok D cy) D _ _ _, va_recv hK hP (ci := 3) (q0 := 0) rfl rfl, kStart (EN_ok D cy) hE hP hD hS hA [0] rfl rfl _⟩ rfl rfl hl.1 rfl (lv_room (Nat.le_of_ble_eq_true rfl)) dX3_readNumber_17 ⟨Nat.zero_le _, Nat.zero_le _⟩) hP hD hS hA [0] [1] rfl rfl rfl 2 rfl (by decide +kernel) (fun H locs hP hD hS => ?_)
      obtain ⟨h28, hF⟩ := ck_o hF
      obtain rfl := so_o hF
      rw [hQQ]
      exact kr_z (v := r24) hx hb hr hlocks (by rcases h28 with h9 | h9 <;> rw [h9] <;> rfl) hP hD hS dX3_readNumber_20
  exact main s.heap [] ls hP hD hS hl
theorem kd_X4_begin : yX4_begin.cls = RX4 ∧ yX4_begin.cls ≠ "java/lang/invoke/MethodHandle" ∧ yX4_begin.cls ≠ "java/lang/invoke/VarHandle" ∧ (parseMethodDescriptor yX4_begin.desc).map (fun d => d.parameters.length) = some 3 := by decide +kernel
set_option maxHeartbeats 4000000 in
set_option maxRecDepth 100000 in
theorem c_X4_begin {l : Launch} {D : va_G} {cy : Nat → ClassId} (q_o q_o_box q_o_box_cells q_o_box_pulls q_o_box_price q_o_box_price_codes q_o_crowd q_o_crowd_lookers : Nat) (sz : Nat) (x_o_box_holeX x_o_box_holeY x_o_box_price_waiting x_o_crowd_facts : Value) (o_box_width : Int32) (o_box_height : Int32) (o_box_planes : Int32) (o_box_holes : Int32) (o_box_reach : Int32) (o_box_cells : Nat → Int32) (o_box_pulls : Nat → Int32) (o_box_price_size : Int32) (o_box_price_codes : Nat → Int32) (o_crowd_viewers : Int32) (o_crowd_lookLength : Int32) (o_crowd_time : Int32) (o_crowd_lookers : Nat → Int32) (p1 : Int32) (p2 : Int32) (p3 : Int32) (res : Int32 × Int32 × Int32 × Int32 × Int32 × (Nat → Int32) × (Nat → Int32) × Int32 × (Nat → Int32) × Int32 × Int32 × Int32 × (Nat → Int32)) (hF : X4_begin o_box_width o_box_height o_box_planes o_box_holes o_box_reach o_box_cells o_box_pulls o_box_price_size o_box_price_codes o_crowd_viewers o_crowd_lookLength o_crowd_time o_crowd_lookers p1 p2 p3 = some res) : Met l yX4_begin wsX4_begin ({ frames := 4, cells := 0, slots := 0, locals := 87 } : Room) (kP (EN D cy) D [.ref q_o, .int p1, .int p2, .int p3] [(q_o, .inr (4, [.ref q_o_box, .ref q_o_crowd])), (q_o_box, .inr (0, [.int o_box_width, .int o_box_height, .int o_box_planes, .int o_box_holes, .int o_box_reach, .ref q_o_box_cells, .ref q_o_box_pulls, x_o_box_holeX, x_o_box_holeY, .ref q_o_box_price])), (q_o_box_cells, .inl (cy 0, 480, .inl o_box_cells)), (q_o_box_pulls, .inl (cy 0, 5, .inl o_box_pulls)), (q_o_box_price, .inr (2, [.ref q_o_box_price_codes, .int o_box_price_size, x_o_box_price_waiting])), (q_o_box_price_codes, .inl (cy 0, 800, .inl o_box_price_codes)), (q_o_crowd, .inr (1, [.int o_crowd_viewers, .int o_crowd_lookLength, .int o_crowd_time, .ref q_o_crowd_lookers, x_o_crowd_facts])), (q_o_crowd_lookers, .inl (cy 0, 4, .inl o_crowd_lookers))] sz) (kQv D [(q_o, .inr (4, [.ref q_o_box, .ref q_o_crowd])), (q_o_box, .inr (0, [.int res.1, .int res.2.1, .int res.2.2.1, .int res.2.2.2.1, .int res.2.2.2.2.1, .ref q_o_box_cells, .ref q_o_box_pulls, x_o_box_holeX, x_o_box_holeY, .ref q_o_box_price])), (q_o_box_cells, .inl (cy 0, 480, .inl res.2.2.2.2.2.1)), (q_o_box_pulls, .inl (cy 0, 5, .inl res.2.2.2.2.2.2.1)), (q_o_box_price, .inr (2, [.ref q_o_box_price_codes, .int res.2.2.2.2.2.2.2.1, x_o_box_price_waiting])), (q_o_box_price_codes, .inl (cy 0, 800, .inl res.2.2.2.2.2.2.2.2.1)), (q_o_crowd, .inr (1, [.int res.2.2.2.2.2.2.2.2.2.1, .int res.2.2.2.2.2.2.2.2.2.2.1, .int res.2.2.2.2.2.2.2.2.2.2.2.1, .ref q_o_crowd_lookers, x_o_crowd_facts])), (q_o_crowd_lookers, .inl (cy 0, 4, .inl res.2.2.2.2.2.2.2.2.2.2.2.2))] (va_A [(q_o, .inr (4, [.ref q_o_box, .ref q_o_crowd])), (q_o_box, .inr (0, [.int o_box_width, .int o_box_height, .int o_box_planes, .int o_box_holes, .int o_box_reach, .ref q_o_box_cells, .ref q_o_box_pulls, x_o_box_holeX, x_o_box_holeY, .ref q_o_box_price])), (q_o_box_cells, .inl (cy 0, 480, .inl o_box_cells)), (q_o_box_pulls, .inl (cy 0, 5, .inl o_box_pulls)), (q_o_box_price, .inr (2, [.ref q_o_box_price_codes, .int o_box_price_size, x_o_box_price_waiting])), (q_o_box_price_codes, .inl (cy 0, 800, .inl o_box_price_codes)), (q_o_crowd, .inr (1, [.int o_crowd_viewers, .int o_crowd_lookLength, .int o_crowd_time, .ref q_o_crowd_lookers, x_o_crowd_facts])), (q_o_crowd_lookers, .inl (cy 0, 4, .inl o_crowd_lookers))] sz)) 0 0 (va_A [(q_o, .inr (4, [.ref q_o_box, .ref q_o_crowd])), (q_o_box, .inr (0, [.int o_box_width, .int o_box_height, .int o_box_planes, .int o_box_holes, .int o_box_reach, .ref q_o_box_cells, .ref q_o_box_pulls, x_o_box_holeX, x_o_box_holeY, .ref q_o_box_price])), (q_o_box_cells, .inl (cy 0, 480, .inl o_box_cells)), (q_o_box_pulls, .inl (cy 0, 5, .inl o_box_pulls)), (q_o_box_price, .inr (2, [.ref q_o_box_price_codes, .int o_box_price_size, x_o_box_price_waiting])), (q_o_box_price_codes, .inl (cy 0, 800, .inl o_box_price_codes)), (q_o_crowd, .inr (1, [.int o_crowd_viewers, .int o_crowd_lookLength, .int o_crowd_time, .ref q_o_crowd_lookers, x_o_crowd_facts])), (q_o_crowd_lookers, .inl (cy 0, 4, .inl o_crowd_lookers))] sz) := by
  refine kMet (y := yX4_begin) (av := [.ref q_o, .int p1, .int p2, .int p3]) (cc := cX4_begin) (maxL := 4) (ret := none) (own := RX4) (Qc := fun A9 => (kQv D [(q_o, .inr (4, [.ref q_o_box, .ref q_o_crowd])), (q_o_box, .inr (0, [.int res.1, .int res.2.1, .int res.2.2.1, .int res.2.2.2.1, .int res.2.2.2.2.1, .ref q_o_box_cells, .ref q_o_box_pulls, x_o_box_holeX, x_o_box_holeY, .ref q_o_box_price])), (q_o_box_cells, .inl (cy 0, 480, .inl res.2.2.2.2.2.1)), (q_o_box_pulls, .inl (cy 0, 5, .inl res.2.2.2.2.2.2.1)), (q_o_box_price, .inr (2, [.ref q_o_box_price_codes, .int res.2.2.2.2.2.2.2.1, x_o_box_price_waiting])), (q_o_box_price_codes, .inl (cy 0, 800, .inl res.2.2.2.2.2.2.2.2.1)), (q_o_crowd, .inr (1, [.int res.2.2.2.2.2.2.2.2.2.1, .int res.2.2.2.2.2.2.2.2.2.2.1, .int res.2.2.2.2.2.2.2.2.2.2.2.1, .ref q_o_crowd_lookers, x_o_crowd_facts])), (q_o_crowd_lookers, .inl (cy 0, 4, .inl res.2.2.2.2.2.2.2.2.2.2.2.2))] A9)) (by decide) rfl rfl (Nat.le_of_ble_eq_true rfl) ?_
  intro p e s m args below meth c A hx hb hr hts hown hml hlocks hname hE hP hD hA hsz ls hl
  have hK := hE.1
  have hl : lv_has ls 4 [(0, .ref q_o), (1, .int p1), (2, .int p2), (3, .int p3)] := hl
  have hS : va_S A s.heap s.heap [] := va_S.rf
  have f_f10 := hts (.fieldLink RX4 10 "PeepBox$Show" "box" "LPeepBox$Box;") (by decide +kernel)
  have f_inX4 : ∀ w ∈ wsX40, w ∈ wsX4_begin := by decide +kernel
  have f_f19 := hts (.fieldLink RX4 19 "PeepBox$Show" "crowd" "LPeepBox$Crowd;") (by decide +kernel)
  obtain ⟨QQ, hQQ⟩ : ∃ Q9, Q9 = MQ below (kQv D [(q_o, .inr (4, [.ref q_o_box, .ref q_o_crowd])), (q_o_box, .inr (0, [.int res.1, .int res.2.1, .int res.2.2.1, .int res.2.2.2.1, .int res.2.2.2.2.1, .ref q_o_box_cells, .ref q_o_box_pulls, x_o_box_holeX, x_o_box_holeY, .ref q_o_box_price])), (q_o_box_cells, .inl (cy 0, 480, .inl res.2.2.2.2.2.1)), (q_o_box_pulls, .inl (cy 0, 5, .inl res.2.2.2.2.2.2.1)), (q_o_box_price, .inr (2, [.ref q_o_box_price_codes, .int res.2.2.2.2.2.2.2.1, x_o_box_price_waiting])), (q_o_box_price_codes, .inl (cy 0, 800, .inl res.2.2.2.2.2.2.2.2.1)), (q_o_crowd, .inr (1, [.int res.2.2.2.2.2.2.2.2.2.1, .int res.2.2.2.2.2.2.2.2.2.2.1, .int res.2.2.2.2.2.2.2.2.2.2.2.1, .ref q_o_crowd_lookers, x_o_crowd_facts])), (q_o_crowd_lookers, .inl (cy 0, 4, .inl res.2.2.2.2.2.2.2.2.2.2.2.2))] A) args s 0 0 A := ⟨_, rfl⟩
  rw [← hQQ]
  have main : ∀ (H : Heap) (locs : List Loc) (ls : Array Slot), va_P D vwCl [(q_o, .inr (4, [.ref q_o_box, .ref q_o_crowd])), (q_o_box, .inr (0, [.int o_box_width, .int o_box_height, .int o_box_planes, .int o_box_holes, .int o_box_reach, .ref q_o_box_cells, .ref q_o_box_pulls, x_o_box_holeX, x_o_box_holeY, .ref q_o_box_price])), (q_o_box_cells, .inl (cy 0, 480, .inl o_box_cells)), (q_o_box_pulls, .inl (cy 0, 5, .inl o_box_pulls)), (q_o_box_price, .inr (2, [.ref q_o_box_price_codes, .int o_box_price_size, x_o_box_price_waiting])), (q_o_box_price_codes, .inl (cy 0, 800, .inl o_box_price_codes)), (q_o_crowd, .inr (1, [.int o_crowd_viewers, .int o_crowd_lookLength, .int o_crowd_time, .ref q_o_crowd_lookers, x_o_crowd_facts])), (q_o_crowd_lookers, .inl (cy 0, 4, .inl o_crowd_lookers))] H → va_D A [(q_o, .inr (4, [.ref q_o_box, .ref q_o_crowd])), (q_o_box, .inr (0, [.int o_box_width, .int o_box_height, .int o_box_planes, .int o_box_holes, .int o_box_reach, .ref q_o_box_cells, .ref q_o_box_pulls, x_o_box_holeX, x_o_box_holeY, .ref q_o_box_price])), (q_o_box_cells, .inl (cy 0, 480, .inl o_box_cells)), (q_o_box_pulls, .inl (cy 0, 5, .inl o_box_pulls)), (q_o_box_price, .inr (2, [.ref q_o_box_price_codes, .int o_box_price_size, x_o_box_price_waiting])), (q_o_box_price_codes, .inl (cy 0, 800, .inl o_box_price_codes)), (q_o_crowd, .inr (1, [.int o_crowd_viewers, .int o_crowd_lookLength, .int o_crowd_time, .ref q_o_crowd_lookers, x_o_crowd_facts])), (q_o_crowd_lookers, .inl (cy 0, 4, .inl o_crowd_lookers))] → va_S A s.heap H locs → lv_has ls 4 [(0, .ref q_o), (1, .int p1), (2, .int p2), (3, .int p3)] → W p l e ({ frames := 4, cells := 0, slots := 0, locals := 87 } : Room) s m args below meth c H locs 0 0 QQ (F0 m 0 ls []) := by
    intro H locs ls hP hD hS hl
    unfold X4_begin at hF
    refine lv_aload_n hx hb dX4_begin_0 rfl (lv_at hl 0 rfl) ?_
    refine va_get (D := D) (ci := 4) (v := .ref q_o_box) (C := RX4) (T := TX4) (N := 2) hx hb hts f_inX4 hown hK hP 0 rfl rfl 0 (by decide) f_f10 (fun _ h9 => h9) rfl dX4_begin_1 ?_
    refine lv_iload_n hx hb dX4_begin_4 rfl (lv_at hl 1 rfl) ?_
    refine lv_iload_n hx hb dX4_begin_5 rfl (lv_at hl 2 rfl) ?_
    refine lv_iload_n hx hb dX4_begin_6 rfl (lv_at hl 3 rfl) ?_
    obtain ⟨o1, o2, o3, o4, o5, o6, o7, o8, o9, h10, hF⟩ := bn9_o hF
    refine kd_v [(q_o, .inr (4, [.ref q_o_box, .ref q_o_crowd])), (q_o_box, .inr (0, [.int o1, .int o2, .int o3, .int o4, .int o5, .ref q_o_box_cells, .ref q_o_box_pulls, x_o_box_holeX, x_o_box_holeY, .ref q_o_box_price])), (q_o_box_cells, .inl (cy 0, 480, .inl o6)), (q_o_box_pulls, .inl (cy 0, 5, .inl o7)), (q_o_box_price, .inr (2, [.ref q_o_box_price_codes, .int o8, x_o_box_price_waiting])), (q_o_box_price_codes, .inl (cy 0, 800, .inl o9)), (q_o_crowd, .inr (1, [.int o_crowd_viewers, .int o_crowd_lookLength, .int o_crowd_time, .ref q_o_crowd_lookers, x_o_crowd_facts])), (q_o_crowd_lookers, .inl (cy 0, 4, .inl o_crowd_lookers))] (va_runV (As := [.int p1, .int p2, .int p3]) (rest := []) ⟨hx, hb, hml, hown, hts⟩ (c_X0_begin q_o_box q_o_box_cells q_o_box_pulls q_o_box_price q_o_box_price_codes H.size x_o_box_holeX x_o_box_holeY x_o_box_price_waiting o_box_width o_box_height o_box_planes o_box_holes o_box_reach o_box_cells o_box_pulls o_box_price_size o_box_price_codes p1 p2 p3 _ h10) (cwV 3 hts gX4_begin_X0_begin rfl rfl rfl kd_X0_begin ⟨Nat.le_of_ble_eq_true rfl, Nat.le_of_ble_eq_true rfl⟩) ⟨kP_blind (EN_ok D cy) D _ _ _, va_recv hK hP (ci := 0) (q0 := 1) rfl rfl, kStart (EN_ok D cy) hE hP hD hS hA [1, 2, 3, 4, 5] rfl rfl _⟩ rfl rfl hl.1 rfl (lv_room (Nat.le_of_ble_eq_true rfl)) dX4_begin_7 ⟨Nat.zero_le _, Nat.zero_le _⟩) hP hD hS hA [1, 2, 3, 4, 5] [0, 6, 7] rfl rfl rfl 8 rfl (by decide +kernel) (fun H locs hP hD hS => ?_)
    refine lv_aload_n hx hb dX4_begin_10 rfl (lv_at hl 0 rfl) ?_
    refine va_get (D := D) (ci := 4) (v := .ref q_o_crowd) (C := RX4) (T := TX4) (N := 2) hx hb hts f_inX4 hown hK hP 0 rfl rfl 1 (by decide) f_f19 (fun _ h9 => h9) rfl dX4_begin_11 ?_
    obtain ⟨o11, o12, o13, o14, h15, hF⟩ := bn4_o hF
    refine kd_v [(q_o, .inr (4, [.ref q_o_box, .ref q_o_crowd])), (q_o_box, .inr (0, [.int o1, .int o2, .int o3, .int o4, .int o5, .ref q_o_box_cells, .ref q_o_box_pulls, x_o_box_holeX, x_o_box_holeY, .ref q_o_box_price])), (q_o_box_cells, .inl (cy 0, 480, .inl o6)), (q_o_box_pulls, .inl (cy 0, 5, .inl o7)), (q_o_box_price, .inr (2, [.ref q_o_box_price_codes, .int o8, x_o_box_price_waiting])), (q_o_box_price_codes, .inl (cy 0, 800, .inl o9)), (q_o_crowd, .inr (1, [.int o11, .int o12, .int o13, .ref q_o_crowd_lookers, x_o_crowd_facts])), (q_o_crowd_lookers, .inl (cy 0, 4, .inl o14))] (va_runV (As := []) (rest := []) ⟨hx, hb, hml, hown, hts⟩ (c_X1_begin q_o_crowd q_o_crowd_lookers H.size x_o_crowd_facts o_crowd_viewers o_crowd_lookLength o_crowd_time o_crowd_lookers _ h15) (cwV 0 hts gX4_begin_X1_begin rfl rfl rfl kd_X1_begin ⟨Nat.le_of_ble_eq_true rfl, Nat.le_of_ble_eq_true rfl⟩) ⟨kP_blind (EN_ok D cy) D _ _ _, va_recv hK hP (ci := 1) (q0 := 6) rfl rfl, kStart (EN_ok D cy) hE hP hD hS hA [6, 7] rfl rfl _⟩ rfl rfl hl.1 rfl (lv_room (Nat.le_of_ble_eq_true rfl)) dX4_begin_14 ⟨Nat.zero_le _, Nat.zero_le _⟩) hP hD hS hA [6, 7] [0, 1, 2, 3, 4, 5] rfl rfl rfl 8 rfl (by decide +kernel) (fun H locs hP hD hS => ?_)
    obtain rfl := so_o hF
    rw [hQQ]
    exact kr_v hx hb hr hlocks hP hD hS dX4_begin_17
  exact main s.heap [] ls hP hD hS hl
theorem kd_X3_readSign : yX3_readSign.cls = RX3 ∧ yX3_readSign.cls ≠ "java/lang/invoke/MethodHandle" ∧ yX3_readSign.cls ≠ "java/lang/invoke/VarHandle" ∧ (parseMethodDescriptor yX3_readSign.desc).map (fun d => d.parameters.length) = some 1 := by decide +kernel
set_option maxHeartbeats 4000000 in
set_option maxRecDepth 100000 in
theorem c_X3_readSign {l : Launch} {D : va_G} {cy : Nat → ClassId} (q_o q_o_bytes : Nat) (sz : Nat) (x_o_show x_o_filled x_o_number x_o_planesTold x_o_reachTold x_o_lengthTold x_o_priceTold : Value) (o_error : Int32) (o_errorAt : Int32) (o_end : Int32) (o_at : Int32) (o_bytes : Nat → Int32) (p1 : Int32) (res : Int32 × Int32 × Int32 × Int32) (hF : X3_readSign o_error o_errorAt o_end o_at o_bytes p1 = some res) : Met l yX3_readSign wsX3_readSign ({ frames := 1, cells := 0, slots := 0, locals := 22 } : Room) (kP (EN D cy) D [.ref q_o, .int p1] [(q_o, .inr (3, [x_o_show, x_o_filled, .int o_error, .int o_errorAt, .ref q_o_bytes, .int o_end, .int o_at, x_o_number, x_o_planesTold, x_o_reachTold, x_o_lengthTold, x_o_priceTold])), (q_o_bytes, .inl (cy 1, 800, .inl o_bytes))] sz) (kQi D res.1 [(q_o, .inr (3, [x_o_show, x_o_filled, .int res.2.1, .int res.2.2.1, .ref q_o_bytes, .int o_end, .int res.2.2.2, x_o_number, x_o_planesTold, x_o_reachTold, x_o_lengthTold, x_o_priceTold])), (q_o_bytes, .inl (cy 1, 800, .inl o_bytes))] (va_A [(q_o, .inr (3, [x_o_show, x_o_filled, .int o_error, .int o_errorAt, .ref q_o_bytes, .int o_end, .int o_at, x_o_number, x_o_planesTold, x_o_reachTold, x_o_lengthTold, x_o_priceTold])), (q_o_bytes, .inl (cy 1, 800, .inl o_bytes))] sz)) 0 0 (va_A [(q_o, .inr (3, [x_o_show, x_o_filled, .int o_error, .int o_errorAt, .ref q_o_bytes, .int o_end, .int o_at, x_o_number, x_o_planesTold, x_o_reachTold, x_o_lengthTold, x_o_priceTold])), (q_o_bytes, .inl (cy 1, 800, .inl o_bytes))] sz) := by
  refine kMet (y := yX3_readSign) (av := [.ref q_o, .int p1]) (cc := cX3_readSign) (maxL := 2) (ret := some .boolean) (own := RX3) (Qc := fun A9 => (kQi D res.1 [(q_o, .inr (3, [x_o_show, x_o_filled, .int res.2.1, .int res.2.2.1, .ref q_o_bytes, .int o_end, .int res.2.2.2, x_o_number, x_o_planesTold, x_o_reachTold, x_o_lengthTold, x_o_priceTold])), (q_o_bytes, .inl (cy 1, 800, .inl o_bytes))] A9)) (by decide) rfl rfl (Nat.le_of_ble_eq_true rfl) ?_
  intro p e s m args below meth c A hx hb hr hts hown hml hlocks hname hE hP hD hA hsz ls hl
  have hK := hE.1
  have hl : lv_has ls 2 [(0, .ref q_o), (1, .int p1)] := hl
  have hS : va_S A s.heap s.heap [] := va_S.rf
  have f_f35 := hts (.fieldLink RX3 35 "PeepBox$Setup" "at" "I") (by decide +kernel)
  have f_inX3 : ∀ w ∈ wsX30, w ∈ wsX3_readSign := by decide +kernel
  obtain ⟨QQ, hQQ⟩ : ∃ Q9, Q9 = MQ below (kQi D res.1 [(q_o, .inr (3, [x_o_show, x_o_filled, .int res.2.1, .int res.2.2.1, .ref q_o_bytes, .int o_end, .int res.2.2.2, x_o_number, x_o_planesTold, x_o_reachTold, x_o_lengthTold, x_o_priceTold])), (q_o_bytes, .inl (cy 1, 800, .inl o_bytes))] A) args s 0 0 A := ⟨_, rfl⟩
  rw [← hQQ]
  have main : ∀ (H : Heap) (locs : List Loc) (ls : Array Slot), va_P D vwCl [(q_o, .inr (3, [x_o_show, x_o_filled, .int o_error, .int o_errorAt, .ref q_o_bytes, .int o_end, .int o_at, x_o_number, x_o_planesTold, x_o_reachTold, x_o_lengthTold, x_o_priceTold])), (q_o_bytes, .inl (cy 1, 800, .inl o_bytes))] H → va_D A [(q_o, .inr (3, [x_o_show, x_o_filled, .int o_error, .int o_errorAt, .ref q_o_bytes, .int o_end, .int o_at, x_o_number, x_o_planesTold, x_o_reachTold, x_o_lengthTold, x_o_priceTold])), (q_o_bytes, .inl (cy 1, 800, .inl o_bytes))] → va_S A s.heap H locs → lv_has ls 2 [(0, .ref q_o), (1, .int p1)] → W p l e ({ frames := 1, cells := 0, slots := 0, locals := 22 } : Room) s m args below meth c H locs 0 0 QQ (F0 m 0 ls []) := by
    intro H locs ls hP hD hS hl
    unfold X3_readSign at hF
    refine lv_aload_n hx hb dX3_readSign_0 rfl (lv_at hl 0 rfl) ?_
    obtain ⟨r1, o2, h3, hF⟩ := bn2_o hF
    refine kd_i [(q_o, .inr (3, [x_o_show, x_o_filled, .int o_error, .int o_errorAt, .ref q_o_bytes, .int o_end, .int o2, x_o_number, x_o_planesTold, x_o_reachTold, x_o_lengthTold, x_o_priceTold])), (q_o_bytes, .inl (cy 1, 800, .inl o_bytes))] (va_runV (As := []) (rest := []) ⟨hx, hb, hml, hown, hts⟩ (c_X3_peek q_o q_o_bytes H.size x_o_show x_o_filled (.int o_error) (.int o_errorAt) x_o_number x_o_planesTold x_o_reachTold x_o_lengthTold x_o_priceTold o_end o_at o_bytes _ h3) (cwV 0 hts gX3_readSign_X3_peek rfl rfl rfl kd_X3_peek ⟨Nat.le_of_ble_eq_true rfl, Nat.le_of_ble_eq_true rfl⟩) ⟨kP_blind (EN_ok D cy) D _ _ _, va_recv hK hP (ci := 3) (q0 := 0) rfl rfl, kStart (EN_ok D cy) hE hP hD hS hA [0, 1] rfl rfl _⟩ rfl rfl hl.1 rfl (lv_room (Nat.le_of_ble_eq_true rfl)) dX3_readSign_1 ⟨Nat.zero_le _, Nat.zero_le _⟩) hP hD hS hA [0, 1] [] rfl rfl rfl 2 rfl (by decide +kernel) (fun H locs hP hD hS => ?_)
    refine lv_iload_n hx hb dX3_readSign_4 rfl (lv_at hl 1 rfl) ?_
    refine lv_icmp_eq (tgt := 19) hx hb dX3_readSign_5 (by decide) (fun c4 => ?_) (fun c4 => ?_)
    · have hF := if_p hF c4
      refine lv_aload_n hx hb dX3_readSign_19 rfl (lv_at hl 0 rfl) ?_
      refine lv_dup hx hb dX3_readSign_20 rfl ?_
      refine va_get (D := D) (ci := 3) (v := .int o2) (C := RX3) (T := TX3) (N := 12) hx hb hts f_inX3 hown hK hP 0 rfl rfl 6 (by decide) f_f35 (fun _ h9 => h9) rfl dX3_readSign_21 ?_
      refine lv_iconst (v := 1) hx hb dX3_readSign_24 (by decide) ?_
      refine lv_iadd hx hb dX3_readSign_25 ?_
      refine lv_topi (fun v5 ev5 => ?_)
      have hF := nm_o hF v5 ev5
      refine va_put (D := D) (ci := 3) (v := .int v5) (ty := .int) (C := RX3) (T := TX3) (N := 12) hx hb hts f_inX3 tyX3 tyX3_ok nmX3 hown hK hP hD hS 0 rfl rfl 6 (by decide) f_f35 (fun _ h9 => h9) rfl (by decide +kernel) rfl rfl (Nat.le_of_ble_eq_true rfl) dX3_readSign_26 (fun H locs hP hD hS => ?_)
      have hP : va_P D vwCl [(q_o, .inr (3, [x_o_show, x_o_filled, .int o_error, .int o_errorAt, .ref q_o_bytes, .int o_end, .int v5, x_o_number, x_o_planesTold, x_o_reachTold, x_o_lengthTold, x_o_priceTold])), (q_o_bytes, .inl (cy 1, 800, .inl o_bytes))] H := hP
      have hD : va_D A [(q_o, .inr (3, [x_o_show, x_o_filled, .int o_error, .int o_errorAt, .ref q_o_bytes, .int o_end, .int v5, x_o_number, x_o_planesTold, x_o_reachTold, x_o_lengthTold, x_o_priceTold])), (q_o_bytes, .inl (cy 1, 800, .inl o_bytes))] := hD
      refine lv_iconst (v := 1) hx hb dX3_readSign_29 (by decide) ?_
      obtain rfl := so_o hF
      rw [hQQ]
      exact kr_z (v := (1 : Int32)) hx hb hr hlocks rfl hP hD hS dX3_readSign_30
    · have hF := if_n hF c4
      refine lv_aload_n hx hb dX3_readSign_8 rfl (lv_at hl 0 rfl) ?_
      refine lv_bipush (v := -2) hx hb dX3_readSign_9 (by decide) ?_
      refine lv_aload_n hx hb dX3_readSign_11 rfl (lv_at hl 0 rfl) ?_
      refine va_get (D := D) (ci := 3) (v := .int o2) (C := RX3) (T := TX3) (N := 12) hx hb hts f_inX3 hown hK hP 0 rfl rfl 6 (by decide) f_f35 (fun _ h9 => h9) rfl dX3_readSign_12 ?_
      obtain ⟨r6, o7, o8, h9, hF⟩ := bn3_o hF
      refine kd_i [(q_o, .inr (3, [x_o_show, x_o_filled, .int o7, .int o8, .ref q_o_bytes, .int o_end, .int o2, x_o_number, x_o_planesTold, x_o_reachTold, x_o_lengthTold, x_o_priceTold])), (q_o_bytes, .inl (cy 1, 800, .inl o_bytes))] (va_runV (As := [.int (-2 : Int32), .int o2]) (rest := []) ⟨hx, hb, hml, hown, hts⟩ (c_X3_fail q_o H.size x_o_show x_o_filled (.ref q_o_bytes) (.int o_end) (.int o2) x_o_number x_o_planesTold x_o_reachTold x_o_lengthTold x_o_priceTold o_error o_errorAt (-2 : Int32) o2 _ h9) (cwV 2 hts gX3_readSign_X3_fail rfl rfl rfl kd_X3_fail ⟨Nat.le_of_ble_eq_true rfl, Nat.le_of_ble_eq_true rfl⟩) ⟨kP_blind (EN_ok D cy) D _ _ _, va_recv hK hP (ci := 3) (q0 := 0) rfl rfl, kStart (EN_ok D cy) hE hP hD hS hA [0] rfl rfl _⟩ rfl rfl hl.1 rfl (lv_room (Nat.le_of_ble_eq_true rfl)) dX3_readSign_15 ⟨Nat.zero_le _, Nat.zero_le _⟩) hP hD hS hA [0] [1] rfl rfl rfl 2 rfl (by decide +kernel) (fun H locs hP hD hS => ?_)
      obtain ⟨h10, hF⟩ := ck_o hF
      obtain rfl := so_o hF
      rw [hQQ]
      exact kr_z (v := r6) hx hb hr hlocks (by rcases h10 with h9 | h9 <;> rw [h9] <;> rfl) hP hD hS dX3_readSign_18
  exact main s.heap [] ls hP hD hS hl
theorem kd_X3_readBox : yX3_readBox.cls = RX3 ∧ yX3_readBox.cls ≠ "java/lang/invoke/MethodHandle" ∧ yX3_readBox.cls ≠ "java/lang/invoke/VarHandle" ∧ (parseMethodDescriptor yX3_readBox.desc).map (fun d => d.parameters.length) = some 0 := by decide +kernel
set_option maxHeartbeats 4000000 in
set_option maxRecDepth 100000 in
theorem c_X3_readBox {l : Launch} {D : va_G} {cy : Nat → ClassId} (q_o q_o_show q_o_show_box q_o_show_box_cells q_o_show_box_pulls q_o_show_box_price q_o_show_box_price_codes q_o_show_crowd q_o_show_crowd_lookers q_o_bytes : Nat) (sz : Nat) (x_o_filled x_o_planesTold x_o_reachTold x_o_lengthTold x_o_priceTold x_o_show_box_holeX x_o_show_box_holeY x_o_show_box_price_waiting x_o_show_crowd_facts : Value) (o_error : Int32) (o_errorAt : Int32) (o_end : Int32) (o_at : Int32) (o_number : Int32) (o_show_box_width : Int32) (o_show_box_height : Int32) (o_show_box_planes : Int32) (o_show_box_holes : Int32) (o_show_box_reach : Int32) (o_show_box_cells : Nat → Int32) (o_show_box_pulls : Nat → Int32) (o_show_box_price_size : Int32) (o_show_box_price_codes : Nat → Int32) (o_show_crowd_viewers : Int32) (o_show_crowd_lookLength : Int32) (o_show_crowd_time : Int32) (o_show_crowd_lookers : Nat → Int32) (o_bytes : Nat → Int32) (res : Int32 × Int32 × Int32 × Int32 × Int32 × Int32 × Int32 × Int32 × Int32 × Int32 × (Nat → Int32) × (Nat → Int32) × Int32 × (Nat → Int32) × Int32 × Int32 × Int32 × (Nat → Int32)) (hF : X3_readBox o_error o_errorAt o_end o_at o_number o_show_box_width o_show_box_height o_show_box_planes o_show_box_holes o_show_box_reach o_show_box_cells o_show_box_pulls o_show_box_price_size o_show_box_price_codes o_show_crowd_viewers o_show_crowd_lookLength o_show_crowd_time o_show_crowd_lookers o_bytes = some res) : Met l yX3_readBox wsX3_readBox ({ frames := 5, cells := 0, slots := 0, locals := 124 } : Room) (kP (EN D cy) D [.ref q_o] [(q_o, .inr (3, [.ref q_o_show, x_o_filled, .int o_error, .int o_errorAt, .ref q_o_bytes, .int o_end, .int o_at, .int o_number, x_o_planesTold, x_o_reachTold, x_o_lengthTold, x_o_priceTold])), (q_o_show, .inr (4, [.ref q_o_show_box, .ref q_o_show_crowd])), (q_o_show_box, .inr (0, [.int o_show_box_width, .int o_show_box_height, .int o_show_box_planes, .int o_show_box_holes, .int o_show_box_reach, .ref q_o_show_box_cells, .ref q_o_show_box_pulls, x_o_show_box_holeX, x_o_show_box_holeY, .ref q_o_show_box_price])), (q_o_show_box_cells, .inl (cy 0, 480, .inl o_show_box_cells)), (q_o_show_box_pulls, .inl (cy 0, 5, .inl o_show_box_pulls)), (q_o_show_box_price, .inr (2, [.ref q_o_show_box_price_codes, .int o_show_box_price_size, x_o_show_box_price_waiting])), (q_o_show_box_price_codes, .inl (cy 0, 800, .inl o_show_box_price_codes)), (q_o_show_crowd, .inr (1, [.int o_show_crowd_viewers, .int o_show_crowd_lookLength, .int o_show_crowd_time, .ref q_o_show_crowd_lookers, x_o_show_crowd_facts])), (q_o_show_crowd_lookers, .inl (cy 0, 4, .inl o_show_crowd_lookers)), (q_o_bytes, .inl (cy 1, 800, .inl o_bytes))] sz) (kQi D res.1 [(q_o, .inr (3, [.ref q_o_show, x_o_filled, .int res.2.1, .int res.2.2.1, .ref q_o_bytes, .int o_end, .int res.2.2.2.1, .int res.2.2.2.2.1, x_o_planesTold, x_o_reachTold, x_o_lengthTold, x_o_priceTold])), (q_o_show, .inr (4, [.ref q_o_show_box, .ref q_o_show_crowd])), (q_o_show_box, .inr (0, [.int res.2.2.2.2.2.1, .int res.2.2.2.2.2.2.1, .int res.2.2.2.2.2.2.2.1, .int res.2.2.2.2.2.2.2.2.1, .int res.2.2.2.2.2.2.2.2.2.1, .ref q_o_show_box_cells, .ref q_o_show_box_pulls, x_o_show_box_holeX, x_o_show_box_holeY, .ref q_o_show_box_price])), (q_o_show_box_cells, .inl (cy 0, 480, .inl res.2.2.2.2.2.2.2.2.2.2.1)), (q_o_show_box_pulls, .inl (cy 0, 5, .inl res.2.2.2.2.2.2.2.2.2.2.2.1)), (q_o_show_box_price, .inr (2, [.ref q_o_show_box_price_codes, .int res.2.2.2.2.2.2.2.2.2.2.2.2.1, x_o_show_box_price_waiting])), (q_o_show_box_price_codes, .inl (cy 0, 800, .inl res.2.2.2.2.2.2.2.2.2.2.2.2.2.1)), (q_o_show_crowd, .inr (1, [.int res.2.2.2.2.2.2.2.2.2.2.2.2.2.2.1, .int res.2.2.2.2.2.2.2.2.2.2.2.2.2.2.2.1, .int res.2.2.2.2.2.2.2.2.2.2.2.2.2.2.2.2.1, .ref q_o_show_crowd_lookers, x_o_show_crowd_facts])), (q_o_show_crowd_lookers, .inl (cy 0, 4, .inl res.2.2.2.2.2.2.2.2.2.2.2.2.2.2.2.2.2)), (q_o_bytes, .inl (cy 1, 800, .inl o_bytes))] (va_A [(q_o, .inr (3, [.ref q_o_show, x_o_filled, .int o_error, .int o_errorAt, .ref q_o_bytes, .int o_end, .int o_at, .int o_number, x_o_planesTold, x_o_reachTold, x_o_lengthTold, x_o_priceTold])), (q_o_show, .inr (4, [.ref q_o_show_box, .ref q_o_show_crowd])), (q_o_show_box, .inr (0, [.int o_show_box_width, .int o_show_box_height, .int o_show_box_planes, .int o_show_box_holes, .int o_show_box_reach, .ref q_o_show_box_cells, .ref q_o_show_box_pulls, x_o_show_box_holeX, x_o_show_box_holeY, .ref q_o_show_box_price])), (q_o_show_box_cells, .inl (cy 0, 480, .inl o_show_box_cells)), (q_o_show_box_pulls, .inl (cy 0, 5, .inl o_show_box_pulls)), (q_o_show_box_price, .inr (2, [.ref q_o_show_box_price_codes, .int o_show_box_price_size, x_o_show_box_price_waiting])), (q_o_show_box_price_codes, .inl (cy 0, 800, .inl o_show_box_price_codes)), (q_o_show_crowd, .inr (1, [.int o_show_crowd_viewers, .int o_show_crowd_lookLength, .int o_show_crowd_time, .ref q_o_show_crowd_lookers, x_o_show_crowd_facts])), (q_o_show_crowd_lookers, .inl (cy 0, 4, .inl o_show_crowd_lookers)), (q_o_bytes, .inl (cy 1, 800, .inl o_bytes))] sz)) 0 0 (va_A [(q_o, .inr (3, [.ref q_o_show, x_o_filled, .int o_error, .int o_errorAt, .ref q_o_bytes, .int o_end, .int o_at, .int o_number, x_o_planesTold, x_o_reachTold, x_o_lengthTold, x_o_priceTold])), (q_o_show, .inr (4, [.ref q_o_show_box, .ref q_o_show_crowd])), (q_o_show_box, .inr (0, [.int o_show_box_width, .int o_show_box_height, .int o_show_box_planes, .int o_show_box_holes, .int o_show_box_reach, .ref q_o_show_box_cells, .ref q_o_show_box_pulls, x_o_show_box_holeX, x_o_show_box_holeY, .ref q_o_show_box_price])), (q_o_show_box_cells, .inl (cy 0, 480, .inl o_show_box_cells)), (q_o_show_box_pulls, .inl (cy 0, 5, .inl o_show_box_pulls)), (q_o_show_box_price, .inr (2, [.ref q_o_show_box_price_codes, .int o_show_box_price_size, x_o_show_box_price_waiting])), (q_o_show_box_price_codes, .inl (cy 0, 800, .inl o_show_box_price_codes)), (q_o_show_crowd, .inr (1, [.int o_show_crowd_viewers, .int o_show_crowd_lookLength, .int o_show_crowd_time, .ref q_o_show_crowd_lookers, x_o_show_crowd_facts])), (q_o_show_crowd_lookers, .inl (cy 0, 4, .inl o_show_crowd_lookers)), (q_o_bytes, .inl (cy 1, 800, .inl o_bytes))] sz) := by
  refine kMet (y := yX3_readBox) (av := [.ref q_o]) (cc := cX3_readBox) (maxL := 3) (ret := some .boolean) (own := RX3) (Qc := fun A9 => (kQi D res.1 [(q_o, .inr (3, [.ref q_o_show, x_o_filled, .int res.2.1, .int res.2.2.1, .ref q_o_bytes, .int o_end, .int res.2.2.2.1, .int res.2.2.2.2.1, x_o_planesTold, x_o_reachTold, x_o_lengthTold, x_o_priceTold])), (q_o_show, .inr (4, [.ref q_o_show_box, .ref q_o_show_crowd])), (q_o_show_box, .inr (0, [.int res.2.2.2.2.2.1, .int res.2.2.2.2.2.2.1, .int res.2.2.2.2.2.2.2.1, .int res.2.2.2.2.2.2.2.2.1, .int res.2.2.2.2.2.2.2.2.2.1, .ref q_o_show_box_cells, .ref q_o_show_box_pulls, x_o_show_box_holeX, x_o_show_box_holeY, .ref q_o_show_box_price])), (q_o_show_box_cells, .inl (cy 0, 480, .inl res.2.2.2.2.2.2.2.2.2.2.1)), (q_o_show_box_pulls, .inl (cy 0, 5, .inl res.2.2.2.2.2.2.2.2.2.2.2.1)), (q_o_show_box_price, .inr (2, [.ref q_o_show_box_price_codes, .int res.2.2.2.2.2.2.2.2.2.2.2.2.1, x_o_show_box_price_waiting])), (q_o_show_box_price_codes, .inl (cy 0, 800, .inl res.2.2.2.2.2.2.2.2.2.2.2.2.2.1)), (q_o_show_crowd, .inr (1, [.int res.2.2.2.2.2.2.2.2.2.2.2.2.2.2.1, .int res.2.2.2.2.2.2.2.2.2.2.2.2.2.2.2.1, .int res.2.2.2.2.2.2.2.2.2.2.2.2.2.2.2.2.1, .ref q_o_show_crowd_lookers, x_o_show_crowd_facts])), (q_o_show_crowd_lookers, .inl (cy 0, 4, .inl res.2.2.2.2.2.2.2.2.2.2.2.2.2.2.2.2.2)), (q_o_bytes, .inl (cy 1, 800, .inl o_bytes))] A9)) (by decide) rfl rfl (Nat.le_of_ble_eq_true rfl) ?_
  intro p e s m args below meth c A hx hb hr hts hown hml hlocks hname hE hP hD hA hsz ls hl
  have hK := hE.1
  have hl : lv_has ls 3 [(0, .ref q_o)] := hl
  have hS : va_S A s.heap s.heap [] := va_S.rf
  have f_f38 := hts (.fieldLink RX3 38 "PeepBox$Setup" "number" "I") (by decide +kernel)
  have f_inX3 : ∀ w ∈ wsX30, w ∈ wsX3_readBox := by decide +kernel
  have f_f12 := hts (.fieldLink RX3 12 "PeepBox$Setup" "show" "LPeepBox$Show;") (by decide +kernel)
  have f_f35 := hts (.fieldLink RX3 35 "PeepBox$Setup" "at" "I") (by decide +kernel)
  obtain ⟨QQ, hQQ⟩ : ∃ Q9, Q9 = MQ below (kQi D res.1 [(q_o, .inr (3, [.ref q_o_show, x_o_filled, .int res.2.1, .int res.2.2.1, .ref q_o_bytes, .int o_end, .int res.2.2.2.1, .int res.2.2.2.2.1, x_o_planesTold, x_o_reachTold, x_o_lengthTold, x_o_priceTold])), (q_o_show, .inr (4, [.ref q_o_show_box, .ref q_o_show_crowd])), (q_o_show_box, .inr (0, [.int res.2.2.2.2.2.1, .int res.2.2.2.2.2.2.1, .int res.2.2.2.2.2.2.2.1, .int res.2.2.2.2.2.2.2.2.1, .int res.2.2.2.2.2.2.2.2.2.1, .ref q_o_show_box_cells, .ref q_o_show_box_pulls, x_o_show_box_holeX, x_o_show_box_holeY, .ref q_o_show_box_price])), (q_o_show_box_cells, .inl (cy 0, 480, .inl res.2.2.2.2.2.2.2.2.2.2.1)), (q_o_show_box_pulls, .inl (cy 0, 5, .inl res.2.2.2.2.2.2.2.2.2.2.2.1)), (q_o_show_box_price, .inr (2, [.ref q_o_show_box_price_codes, .int res.2.2.2.2.2.2.2.2.2.2.2.2.1, x_o_show_box_price_waiting])), (q_o_show_box_price_codes, .inl (cy 0, 800, .inl res.2.2.2.2.2.2.2.2.2.2.2.2.2.1)), (q_o_show_crowd, .inr (1, [.int res.2.2.2.2.2.2.2.2.2.2.2.2.2.2.1, .int res.2.2.2.2.2.2.2.2.2.2.2.2.2.2.2.1, .int res.2.2.2.2.2.2.2.2.2.2.2.2.2.2.2.2.1, .ref q_o_show_crowd_lookers, x_o_show_crowd_facts])), (q_o_show_crowd_lookers, .inl (cy 0, 4, .inl res.2.2.2.2.2.2.2.2.2.2.2.2.2.2.2.2.2)), (q_o_bytes, .inl (cy 1, 800, .inl o_bytes))] A) args s 0 0 A := ⟨_, rfl⟩
  rw [← hQQ]
  have main : ∀ (H : Heap) (locs : List Loc) (ls : Array Slot), va_P D vwCl [(q_o, .inr (3, [.ref q_o_show, x_o_filled, .int o_error, .int o_errorAt, .ref q_o_bytes, .int o_end, .int o_at, .int o_number, x_o_planesTold, x_o_reachTold, x_o_lengthTold, x_o_priceTold])), (q_o_show, .inr (4, [.ref q_o_show_box, .ref q_o_show_crowd])), (q_o_show_box, .inr (0, [.int o_show_box_width, .int o_show_box_height, .int o_show_box_planes, .int o_show_box_holes, .int o_show_box_reach, .ref q_o_show_box_cells, .ref q_o_show_box_pulls, x_o_show_box_holeX, x_o_show_box_holeY, .ref q_o_show_box_price])), (q_o_show_box_cells, .inl (cy 0, 480, .inl o_show_box_cells)), (q_o_show_box_pulls, .inl (cy 0, 5, .inl o_show_box_pulls)), (q_o_show_box_price, .inr (2, [.ref q_o_show_box_price_codes, .int o_show_box_price_size, x_o_show_box_price_waiting])), (q_o_show_box_price_codes, .inl (cy 0, 800, .inl o_show_box_price_codes)), (q_o_show_crowd, .inr (1, [.int o_show_crowd_viewers, .int o_show_crowd_lookLength, .int o_show_crowd_time, .ref q_o_show_crowd_lookers, x_o_show_crowd_facts])), (q_o_show_crowd_lookers, .inl (cy 0, 4, .inl o_show_crowd_lookers)), (q_o_bytes, .inl (cy 1, 800, .inl o_bytes))] H → va_D A [(q_o, .inr (3, [.ref q_o_show, x_o_filled, .int o_error, .int o_errorAt, .ref q_o_bytes, .int o_end, .int o_at, .int o_number, x_o_planesTold, x_o_reachTold, x_o_lengthTold, x_o_priceTold])), (q_o_show, .inr (4, [.ref q_o_show_box, .ref q_o_show_crowd])), (q_o_show_box, .inr (0, [.int o_show_box_width, .int o_show_box_height, .int o_show_box_planes, .int o_show_box_holes, .int o_show_box_reach, .ref q_o_show_box_cells, .ref q_o_show_box_pulls, x_o_show_box_holeX, x_o_show_box_holeY, .ref q_o_show_box_price])), (q_o_show_box_cells, .inl (cy 0, 480, .inl o_show_box_cells)), (q_o_show_box_pulls, .inl (cy 0, 5, .inl o_show_box_pulls)), (q_o_show_box_price, .inr (2, [.ref q_o_show_box_price_codes, .int o_show_box_price_size, x_o_show_box_price_waiting])), (q_o_show_box_price_codes, .inl (cy 0, 800, .inl o_show_box_price_codes)), (q_o_show_crowd, .inr (1, [.int o_show_crowd_viewers, .int o_show_crowd_lookLength, .int o_show_crowd_time, .ref q_o_show_crowd_lookers, x_o_show_crowd_facts])), (q_o_show_crowd_lookers, .inl (cy 0, 4, .inl o_show_crowd_lookers)), (q_o_bytes, .inl (cy 1, 800, .inl o_bytes))] → va_S A s.heap H locs → lv_has ls 3 [(0, .ref q_o)] → W p l e ({ frames := 5, cells := 0, slots := 0, locals := 124 } : Room) s m args below meth c H locs 0 0 QQ (F0 m 0 ls []) := by
    intro H locs ls hP hD hS hl
    unfold X3_readBox at hF
    refine lv_aload_n hx hb dX3_readBox_0 rfl (lv_at hl 0 rfl) ?_
    obtain ⟨r1, o2, h3, hF⟩ := bn2_o hF
    refine kd_i [(q_o, .inr (3, [.ref q_o_show, x_o_filled, .int o_error, .int o_errorAt, .ref q_o_bytes, .int o_end, .int o2, .int o_number, x_o_planesTold, x_o_reachTold, x_o_lengthTold, x_o_priceTold])), (q_o_show, .inr (4, [.ref q_o_show_box, .ref q_o_show_crowd])), (q_o_show_box, .inr (0, [.int o_show_box_width, .int o_show_box_height, .int o_show_box_planes, .int o_show_box_holes, .int o_show_box_reach, .ref q_o_show_box_cells, .ref q_o_show_box_pulls, x_o_show_box_holeX, x_o_show_box_holeY, .ref q_o_show_box_price])), (q_o_show_box_cells, .inl (cy 0, 480, .inl o_show_box_cells)), (q_o_show_box_pulls, .inl (cy 0, 5, .inl o_show_box_pulls)), (q_o_show_box_price, .inr (2, [.ref q_o_show_box_price_codes, .int o_show_box_price_size, x_o_show_box_price_waiting])), (q_o_show_box_price_codes, .inl (cy 0, 800, .inl o_show_box_price_codes)), (q_o_show_crowd, .inr (1, [.int o_show_crowd_viewers, .int o_show_crowd_lookLength, .int o_show_crowd_time, .ref q_o_show_crowd_lookers, x_o_show_crowd_facts])), (q_o_show_crowd_lookers, .inl (cy 0, 4, .inl o_show_crowd_lookers)), (q_o_bytes, .inl (cy 1, 800, .inl o_bytes))] (va_runV (As := []) (rest := []) ⟨hx, hb, hml, hown, hts⟩ (c_X3_peek q_o q_o_bytes H.size (.ref q_o_show) x_o_filled (.int o_error) (.int o_errorAt) (.int o_number) x_o_planesTold x_o_reachTold x_o_lengthTold x_o_priceTold o_end o_at o_bytes _ h3) (cwV 0 hts gX3_readBox_X3_peek rfl rfl rfl kd_X3_peek ⟨Nat.le_of_ble_eq_true rfl, Nat.le_of_ble_eq_true rfl⟩) ⟨kP_blind (EN_ok D cy) D _ _ _, va_recv hK hP (ci := 3) (q0 := 0) rfl rfl, kStart (EN_ok D cy) hE hP hD hS hA [0, 9] rfl rfl _⟩ rfl rfl hl.1 rfl (lv_room (Nat.le_of_ble_eq_true rfl)) dX3_readBox_1 ⟨Nat.zero_le _, Nat.zero_le _⟩) hP hD hS hA [0, 9] [1, 2, 3, 4, 5, 6, 7, 8] rfl rfl rfl 10 rfl (by decide +kernel) (fun H locs hP hD hS => ?_)
    refine lv_pop hx hb dX3_readBox_4 rfl ?_
    refine lv_aload_n hx hb dX3_readBox_5 rfl (lv_at hl 0 rfl) ?_
    obtain ⟨a4, hRa4, hTa4⟩ := hE.2.2.1 ("PeepBox$Setup", 92, "box", [98, 111, 120]) (by decide +kernel)
    refine va_ldcS hx hb hown hRa4 dX3_readBox_6 ?_
    obtain ⟨r5, o6, h7, hF⟩ := bn2_o hF
    refine kd_i [(q_o, .inr (3, [.ref q_o_show, x_o_filled, .int o_error, .int o_errorAt, .ref q_o_bytes, .int o_end, .int o6, .int o_number, x_o_planesTold, x_o_reachTold, x_o_lengthTold, x_o_priceTold])), (q_o_show, .inr (4, [.ref q_o_show_box, .ref q_o_show_crowd])), (q_o_show_box, .inr (0, [.int o_show_box_width, .int o_show_box_height, .int o_show_box_planes, .int o_show_box_holes, .int o_show_box_reach, .ref q_o_show_box_cells, .ref q_o_show_box_pulls, x_o_show_box_holeX, x_o_show_box_holeY, .ref q_o_show_box_price])), (q_o_show_box_cells, .inl (cy 0, 480, .inl o_show_box_cells)), (q_o_show_box_pulls, .inl (cy 0, 5, .inl o_show_box_pulls)), (q_o_show_box_price, .inr (2, [.ref q_o_show_box_price_codes, .int o_show_box_price_size, x_o_show_box_price_waiting])), (q_o_show_box_price_codes, .inl (cy 0, 800, .inl o_show_box_price_codes)), (q_o_show_crowd, .inr (1, [.int o_show_crowd_viewers, .int o_show_crowd_lookLength, .int o_show_crowd_time, .ref q_o_show_crowd_lookers, x_o_show_crowd_facts])), (q_o_show_crowd_lookers, .inl (cy 0, 4, .inl o_show_crowd_lookers)), (q_o_bytes, .inl (cy 1, 800, .inl o_bytes))] (va_runV (As := [.ref a4]) (rest := []) ⟨hx, hb, hml, hown, hts⟩ (c_X3_takesWord q_o q_o_bytes H.size (.ref q_o_show) x_o_filled (.int o_error) (.int o_errorAt) (.int o_number) x_o_planesTold x_o_reachTold x_o_lengthTold x_o_priceTold o_end o2 o_bytes [98, 111, 120] a4 _ h7) (cwV 1 hts gX3_readBox_X3_takesWord rfl rfl rfl kd_X3_takesWord ⟨Nat.le_of_ble_eq_true rfl, Nat.le_of_ble_eq_true rfl⟩) ⟨kP_blind (ES_ok D cy [98, 111, 120] a4) D _ _ _, va_recv hK hP (ci := 3) (q0 := 0) rfl rfl, kStart (ES_ok D cy [98, 111, 120] a4) (show ES D cy [98, 111, 120] a4 A s s.heap from ⟨hE, hTa4⟩) hP hD hS hA [0, 9] rfl rfl _⟩ rfl rfl hl.1 rfl (lv_room (Nat.le_of_ble_eq_true rfl)) dX3_readBox_8 ⟨Nat.zero_le _, Nat.zero_le _⟩) hP hD hS hA [0, 9] [1, 2, 3, 4, 5, 6, 7, 8] rfl rfl rfl 10 rfl (by decide +kernel) (fun H locs hP hD hS => ?_)
    refine lv_if_ne (tgt := 25) hx hb dX3_readBox_11 (by decide) (fun c8 => ?_) (fun c8 => ?_)
    · have hF := if_n hF c8
      refine lv_aload_n hx hb dX3_readBox_25 rfl (lv_at hl 0 rfl) ?_
      refine lv_iconst (v := 1) hx hb dX3_readBox_26 (by decide) ?_
      refine lv_bipush (v := 12) hx hb dX3_readBox_27 (by decide) ?_
      obtain ⟨r9, o10, o11, o12, o13, h14, hF⟩ := bn5_o hF
      refine kd_i [(q_o, .inr (3, [.ref q_o_show, x_o_filled, .int o10, .int o11, .ref q_o_bytes, .int o_end, .int o12, .int o13, x_o_planesTold, x_o_reachTold, x_o_lengthTold, x_o_priceTold])), (q_o_show, .inr (4, [.ref q_o_show_box, .ref q_o_show_crowd])), (q_o_show_box, .inr (0, [.int o_show_box_width, .int o_show_box_height, .int o_show_box_planes, .int o_show_box_holes, .int o_show_box_reach, .ref q_o_show_box_cells, .ref q_o_show_box_pulls, x_o_show_box_holeX, x_o_show_box_holeY, .ref q_o_show_box_price])), (q_o_show_box_cells, .inl (cy 0, 480, .inl o_show_box_cells)), (q_o_show_box_pulls, .inl (cy 0, 5, .inl o_show_box_pulls)), (q_o_show_box_price, .inr (2, [.ref q_o_show_box_price_codes, .int o_show_box_price_size, x_o_show_box_price_waiting])), (q_o_show_box_price_codes, .inl (cy 0, 800, .inl o_show_box_price_codes)), (q_o_show_crowd, .inr (1, [.int o_show_crowd_viewers, .int o_show_crowd_lookLength, .int o_show_crowd_time, .ref q_o_show_crowd_lookers, x_o_show_crowd_facts])), (q_o_show_crowd_lookers, .inl (cy 0, 4, .inl o_show_crowd_lookers)), (q_o_bytes, .inl (cy 1, 800, .inl o_bytes))] (va_runV (As := [.int (1 : Int32), .int (12 : Int32)]) (rest := []) ⟨hx, hb, hml, hown, hts⟩ (c_X3_readNumber q_o q_o_bytes H.size (.ref q_o_show) x_o_filled x_o_planesTold x_o_reachTold x_o_lengthTold x_o_priceTold o_error o_errorAt o_end o6 o_number o_bytes (1 : Int32) (12 : Int32) _ h14) (cwV 2 hts gX3_readBox_X3_readNumber rfl rfl rfl kd_X3_readNumber ⟨Nat.le_of_ble_eq_true rfl, Nat.le_of_ble_eq_true rfl⟩) ⟨kP_blind (EN_ok D cy) D _ _ _, va_recv hK hP (ci := 3) (q0 := 0) rfl rfl, kStart (EN_ok D cy) hE hP hD hS hA [0, 9] rfl rfl _⟩ rfl rfl hl.1 rfl (lv_room (Nat.le_of_ble_eq_true rfl)) dX3_readBox_29 ⟨Nat.zero_le _, Nat.zero_le _⟩) hP hD hS hA [0, 9] [1, 2, 3, 4, 5, 6, 7, 8] rfl rfl rfl 10 rfl (by decide +kernel) (fun H locs hP hD hS => ?_)
      refine lv_if_ne (tgt := 37) hx hb dX3_readBox_32 (by decide) (fun c15 => ?_) (fun c15 => ?_)
      · have hF := if_n hF c15
        refine lv_aload_n hx hb dX3_readBox_37 rfl (lv_at hl 0 rfl) ?_
        refine va_get (D := D) (ci := 3) (v := .int o13) (C := RX3) (T := TX3) (N := 12) hx hb hts f_inX3 hown hK hP 0 rfl rfl 7 (by decide) f_f38 (fun _ h9 => h9) rfl dX3_readBox_38 ?_
        refine lv_istore_n (lv' := [(1, .int o13), (0, .ref q_o)]) hx hb dX3_readBox_41 rfl hl (by decide) rfl (fun ls hl => ?_)
        refine lv_aload_n hx hb dX3_readBox_42 rfl (lv_at hl 1 rfl) ?_
        refine lv_iconst (v := 1) hx hb dX3_readBox_43 (by decide) ?_
        refine lv_bipush (v := 8) hx hb dX3_readBox_44 (by decide) ?_
        obtain ⟨r16, o17, o18, o19, o20, h21, hF⟩ := bn5_o hF
        refine kd_i [(q_o, .inr (3, [.ref q_o_show, x_o_filled, .int o17, .int o18, .ref q_o_bytes, .int o_end, .int o19, .int o20, x_o_planesTold, x_o_reachTold, x_o_lengthTold, x_o_priceTold])), (q_o_show, .inr (4, [.ref q_o_show_box, .ref q_o_show_crowd])), (q_o_show_box, .inr (0, [.int o_show_box_width, .int o_show_box_height, .int o_show_box_planes, .int o_show_box_holes, .int o_show_box_reach, .ref q_o_show_box_cells, .ref q_o_show_box_pulls, x_o_show_box_holeX, x_o_show_box_holeY, .ref q_o_show_box_price])), (q_o_show_box_cells, .inl (cy 0, 480, .inl o_show_box_cells)), (q_o_show_box_pulls, .inl (cy 0, 5, .inl o_show_box_pulls)), (q_o_show_box_price, .inr (2, [.ref q_o_show_box_price_codes, .int o_show_box_price_size, x_o_show_box_price_waiting])), (q_o_show_box_price_codes, .inl (cy 0, 800, .inl o_show_box_price_codes)), (q_o_show_crowd, .inr (1, [.int o_show_crowd_viewers, .int o_show_crowd_lookLength, .int o_show_crowd_time, .ref q_o_show_crowd_lookers, x_o_show_crowd_facts])), (q_o_show_crowd_lookers, .inl (cy 0, 4, .inl o_show_crowd_lookers)), (q_o_bytes, .inl (cy 1, 800, .inl o_bytes))] (va_runV (As := [.int (1 : Int32), .int (8 : Int32)]) (rest := []) ⟨hx, hb, hml, hown, hts⟩ (c_X3_readNumber q_o q_o_bytes H.size (.ref q_o_show) x_o_filled x_o_planesTold x_o_reachTold x_o_lengthTold x_o_priceTold o10 o11 o_end o12 o13 o_bytes (1 : Int32) (8 : Int32) _ h21) (cwV 2 hts gX3_readBox_X3_readNumber rfl rfl rfl kd_X3_readNumber ⟨Nat.le_of_ble_eq_true rfl, Nat.le_of_ble_eq_true rfl⟩) ⟨kP_blind (EN_ok D cy) D _ _ _, va_recv hK hP (ci := 3) (q0 := 0) rfl rfl, kStart (EN_ok D cy) hE hP hD hS hA [0, 9] rfl rfl _⟩ rfl rfl hl.1 rfl (lv_room (Nat.le_of_ble_eq_true rfl)) dX3_readBox_46 ⟨Nat.zero_le _, Nat.zero_le _⟩) hP hD hS hA [0, 9] [1, 2, 3, 4, 5, 6, 7, 8] rfl rfl rfl 10 rfl (by decide +kernel) (fun H locs hP hD hS => ?_)
        refine lv_if_ne (tgt := 54) hx hb dX3_readBox_49 (by decide) (fun c22 => ?_) (fun c22 => ?_)
        · have hF := if_n hF c22
          refine lv_aload_n hx hb dX3_readBox_54 rfl (lv_at hl 1 rfl) ?_
          refine va_get (D := D) (ci := 3) (v := .int o20) (C := RX3) (T := TX3) (N := 12) hx hb hts f_inX3 hown hK hP 0 rfl rfl 7 (by decide) f_f38 (fun _ h9 => h9) rfl dX3_readBox_55 ?_
          refine lv_istore_n (lv' := [(2, .int o20), (1, .int o13), (0, .ref q_o)]) hx hb dX3_readBox_58 rfl hl (by decide) rfl (fun ls hl => ?_)
          refine lv_aload_n hx hb dX3_readBox_59 rfl (lv_at hl 2 rfl) ?_
          refine lv_iconst (v := 1) hx hb dX3_readBox_60 (by decide) ?_
          refine lv_iconst (v := 5) hx hb dX3_readBox_61 (by decide) ?_
          obtain ⟨r23, o24, o25, o26, o27, h28, hF⟩ := bn5_o hF
          refine kd_i [(q_o, .inr (3, [.ref q_o_show, x_o_filled, .int o24, .int o25, .ref q_o_bytes, .int o_end, .int o26, .int o27, x_o_planesTold, x_o_reachTold, x_o_lengthTold, x_o_priceTold])), (q_o_show, .inr (4, [.ref q_o_show_box, .ref q_o_show_crowd])), (q_o_show_box, .inr (0, [.int o_show_box_width, .int o_show_box_height, .int o_show_box_planes, .int o_show_box_holes, .int o_show_box_reach, .ref q_o_show_box_cells, .ref q_o_show_box_pulls, x_o_show_box_holeX, x_o_show_box_holeY, .ref q_o_show_box_price])), (q_o_show_box_cells, .inl (cy 0, 480, .inl o_show_box_cells)), (q_o_show_box_pulls, .inl (cy 0, 5, .inl o_show_box_pulls)), (q_o_show_box_price, .inr (2, [.ref q_o_show_box_price_codes, .int o_show_box_price_size, x_o_show_box_price_waiting])), (q_o_show_box_price_codes, .inl (cy 0, 800, .inl o_show_box_price_codes)), (q_o_show_crowd, .inr (1, [.int o_show_crowd_viewers, .int o_show_crowd_lookLength, .int o_show_crowd_time, .ref q_o_show_crowd_lookers, x_o_show_crowd_facts])), (q_o_show_crowd_lookers, .inl (cy 0, 4, .inl o_show_crowd_lookers)), (q_o_bytes, .inl (cy 1, 800, .inl o_bytes))] (va_runV (As := [.int (1 : Int32), .int (5 : Int32)]) (rest := []) ⟨hx, hb, hml, hown, hts⟩ (c_X3_readNumber q_o q_o_bytes H.size (.ref q_o_show) x_o_filled x_o_planesTold x_o_reachTold x_o_lengthTold x_o_priceTold o17 o18 o_end o19 o20 o_bytes (1 : Int32) (5 : Int32) _ h28) (cwV 2 hts gX3_readBox_X3_readNumber rfl rfl rfl kd_X3_readNumber ⟨Nat.le_of_ble_eq_true rfl, Nat.le_of_ble_eq_true rfl⟩) ⟨kP_blind (EN_ok D cy) D _ _ _, va_recv hK hP (ci := 3) (q0 := 0) rfl rfl, kStart (EN_ok D cy) hE hP hD hS hA [0, 9] rfl rfl _⟩ rfl rfl hl.1 rfl (lv_room (Nat.le_of_ble_eq_true rfl)) dX3_readBox_62 ⟨Nat.zero_le _, Nat.zero_le _⟩) hP hD hS hA [0, 9] [1, 2, 3, 4, 5, 6, 7, 8] rfl rfl rfl 10 rfl (by decide +kernel) (fun H locs hP hD hS => ?_)
          refine lv_if_ne (tgt := 70) hx hb dX3_readBox_65 (by decide) (fun c29 => ?_) (fun c29 => ?_)
          · have hF := if_n hF c29
            refine lv_aload_n hx hb dX3_readBox_70 rfl (lv_at hl 2 rfl) ?_
            refine va_get (D := D) (ci := 3) (v := .ref q_o_show) (C := RX3) (T := TX3) (N := 12) hx hb hts f_inX3 hown hK hP 0 rfl rfl 0 (by decide) f_f12 (fun _ h9 => h9) rfl dX3_readBox_71 ?_
            refine lv_iload_n hx hb dX3_readBox_74 rfl (lv_at hl 1 rfl) ?_
            refine lv_iload_n hx hb dX3_readBox_75 rfl (lv_at hl 0 rfl) ?_
            refine lv_aload_n hx hb dX3_readBox_76 rfl (lv_at hl 2 rfl) ?_
            refine va_get (D := D) (ci := 3) (v := .int o27) (C := RX3) (T := TX3) (N := 12) hx hb hts f_inX3 hown hK hP 0 rfl rfl 7 (by decide) f_f38 (fun _ h9 => h9) rfl dX3_readBox_77 ?_
            obtain ⟨o30, o31, o32, o33, o34, o35, o36, o37, o38, o39, o40, o41, o42, h43, hF⟩ := bn13_o hF
            refine kd_v [(q_o, .inr (3, [.ref q_o_show, x_o_filled, .int o24, .int o25, .ref q_o_bytes, .int o_end, .int o26, .int o27, x_o_planesTold, x_o_reachTold, x_o_lengthTold, x_o_priceTold])), (q_o_show, .inr (4, [.ref q_o_show_box, .ref q_o_show_crowd])), (q_o_show_box, .inr (0, [.int o30, .int o31, .int o32, .int o33, .int o34, .ref q_o_show_box_cells, .ref q_o_show_box_pulls, x_o_show_box_holeX, x_o_show_box_holeY, .ref q_o_show_box_price])), (q_o_show_box_cells, .inl (cy 0, 480, .inl o35)), (q_o_show_box_pulls, .inl (cy 0, 5, .inl o36)), (q_o_show_box_price, .inr (2, [.ref q_o_show_box_price_codes, .int o37, x_o_show_box_price_waiting])), (q_o_show_box_price_codes, .inl (cy 0, 800, .inl o38)), (q_o_show_crowd, .inr (1, [.int o39, .int o40, .int o41, .ref q_o_show_crowd_lookers, x_o_show_crowd_facts])), (q_o_show_crowd_lookers, .inl (cy 0, 4, .inl o42)), (q_o_bytes, .inl (cy 1, 800, .inl o_bytes))] (va_runV (As := [.int o13, .int o20, .int o27]) (rest := []) ⟨hx, hb, hml, hown, hts⟩ (c_X4_begin q_o_show q_o_show_box q_o_show_box_cells q_o_show_box_pulls q_o_show_box_price q_o_show_box_price_codes q_o_show_crowd q_o_show_crowd_lookers H.size x_o_show_box_holeX x_o_show_box_holeY x_o_show_box_price_waiting x_o_show_crowd_facts o_show_box_width o_show_box_height o_show_box_planes o_show_box_holes o_show_box_reach o_show_box_cells o_show_box_pulls o_show_box_price_size o_show_box_price_codes o_show_crowd_viewers o_show_crowd_lookLength o_show_crowd_time o_show_crowd_lookers o13 o20 o27 _ h43) (cwV 3 hts gX3_readBox_X4_begin rfl rfl rfl kd_X4_begin ⟨Nat.le_of_ble_eq_true rfl, Nat.le_of_ble_eq_true rfl⟩) ⟨kP_blind (EN_ok D cy) D _ _ _, va_recv hK hP (ci := 4) (q0 := 1) rfl rfl, kStart (EN_ok D cy) hE hP hD hS hA [1, 2, 3, 4, 5, 6, 7, 8] rfl rfl _⟩ rfl rfl hl.1 rfl (lv_room (Nat.le_of_ble_eq_true rfl)) dX3_readBox_80 ⟨Nat.zero_le _, Nat.zero_le _⟩) hP hD hS hA [1, 2, 3, 4, 5, 6, 7, 8] [0, 9] rfl rfl rfl 10 rfl (by decide +kernel) (fun H locs hP hD hS => ?_)
            refine lv_aload_n hx hb dX3_readBox_83 rfl (lv_at hl 2 rfl) ?_
            refine lv_bipush (v := 59) hx hb dX3_readBox_84 (by decide) ?_
            obtain ⟨r44, o45, o46, o47, h48, hF⟩ := bn4_o hF
            refine kd_i [(q_o, .inr (3, [.ref q_o_show, x_o_filled, .int o45, .int o46, .ref q_o_bytes, .int o_end, .int o47, .int o27, x_o_planesTold, x_o_reachTold, x_o_lengthTold, x_o_priceTold])), (q_o_show, .inr (4, [.ref q_o_show_box, .ref q_o_show_crowd])), (q_o_show_box, .inr (0, [.int o30, .int o31, .int o32, .int o33, .int o34, .ref q_o_show_box_cells, .ref q_o_show_box_pulls, x_o_show_box_holeX, x_o_show_box_holeY, .ref q_o_show_box_price])), (q_o_show_box_cells, .inl (cy 0, 480, .inl o35)), (q_o_show_box_pulls, .inl (cy 0, 5, .inl o36)), (q_o_show_box_price, .inr (2, [.ref q_o_show_box_price_codes, .int o37, x_o_show_box_price_waiting])), (q_o_show_box_price_codes, .inl (cy 0, 800, .inl o38)), (q_o_show_crowd, .inr (1, [.int o39, .int o40, .int o41, .ref q_o_show_crowd_lookers, x_o_show_crowd_facts])), (q_o_show_crowd_lookers, .inl (cy 0, 4, .inl o42)), (q_o_bytes, .inl (cy 1, 800, .inl o_bytes))] (va_runV (As := [.int (59 : Int32)]) (rest := []) ⟨hx, hb, hml, hown, hts⟩ (c_X3_readSign q_o q_o_bytes H.size (.ref q_o_show) x_o_filled (.int o27) x_o_planesTold x_o_reachTold x_o_lengthTold x_o_priceTold o24 o25 o_end o26 o_bytes (59 : Int32) _ h48) (cwV 1 hts gX3_readBox_X3_readSign rfl rfl rfl kd_X3_readSign ⟨Nat.le_of_ble_eq_true rfl, Nat.le_of_ble_eq_true rfl⟩) ⟨kP_blind (EN_ok D cy) D _ _ _, va_recv hK hP (ci := 3) (q0 := 0) rfl rfl, kStart (EN_ok D cy) hE hP hD hS hA [0, 9] rfl rfl _⟩ rfl rfl hl.1 rfl (lv_room (Nat.le_of_ble_eq_true rfl)) dX3_readBox_86 ⟨Nat.zero_le _, Nat.zero_le _⟩) hP hD hS hA [0, 9] [1, 2, 3, 4, 5, 6, 7, 8] rfl rfl rfl 10 rfl (by decide +kernel) (fun H locs hP hD hS => ?_)
            obtain ⟨h49, hF⟩ := ck_o hF
            obtain rfl := so_o hF
            rw [hQQ]
            exact kr_z (v := r44) hx hb hr hlocks (by rcases h49 with h9 | h9 <;> rw [h9] <;> rfl) hP hD hS dX3_readBox_89
          · have hF := if_p hF c29
            refine lv_iconst (v := 0) hx hb dX3_readBox_68 (by decide) ?_
            obtain rfl := so_o hF
            rw [hQQ]
            exact kr_z (v := (0 : Int32)) hx hb hr hlocks rfl hP hD hS dX3_readBox_69
        · have hF := if_p hF c22
          refine lv_iconst (v := 0) hx hb dX3_readBox_52 (by decide) ?_
          obtain rfl := so_o hF
          rw [hQQ]
          exact kr_z (v := (0 : Int32)) hx hb hr hlocks rfl hP hD hS dX3_readBox_53
      · have hF := if_p hF c15
        refine lv_iconst (v := 0) hx hb dX3_readBox_35 (by decide) ?_
        obtain rfl := so_o hF
        rw [hQQ]
        exact kr_z (v := (0 : Int32)) hx hb hr hlocks rfl hP hD hS dX3_readBox_36
    · have hF := if_p hF c8
      refine lv_aload_n hx hb dX3_readBox_14 rfl (lv_at hl 0 rfl) ?_
      refine lv_bipush (v := -2) hx hb dX3_readBox_15 (by decide) ?_
      refine lv_aload_n hx hb dX3_readBox_17 rfl (lv_at hl 0 rfl) ?_
      refine va_get (D := D) (ci := 3) (v := .int o6) (C := RX3) (T := TX3) (N := 12) hx hb hts f_inX3 hown hK hP 0 rfl rfl 6 (by decide) f_f35 (fun _ h9 => h9) rfl dX3_readBox_18 ?_
      obtain ⟨r50, o51, o52, h53, hF⟩ := bn3_o hF
      refine kd_i [(q_o, .inr (3, [.ref q_o_show, x_o_filled, .int o51, .int o52, .ref q_o_bytes, .int o_end, .int o6, .int o_number, x_o_planesTold, x_o_reachTold, x_o_lengthTold, x_o_priceTold])), (q_o_show, .inr (4, [.ref q_o_show_box, .ref q_o_show_crowd])), (q_o_show_box, .inr (0, [.int o_show_box_width, .int o_show_box_height, .int o_show_box_planes, .int o_show_box_holes, .int o_show_box_reach, .ref q_o_show_box_cells, .ref q_o_show_box_pulls, x_o_show_box_holeX, x_o_show_box_holeY, .ref q_o_show_box_price])), (q_o_show_box_cells, .inl (cy 0, 480, .inl o_show_box_cells)), (q_o_show_box_pulls, .inl (cy 0, 5, .inl o_show_box_pulls)), (q_o_show_box_price, .inr (2, [.ref q_o_show_box_price_codes, .int o_show_box_price_size, x_o_show_box_price_waiting])), (q_o_show_box_price_codes, .inl (cy 0, 800, .inl o_show_box_price_codes)), (q_o_show_crowd, .inr (1, [.int o_show_crowd_viewers, .int o_show_crowd_lookLength, .int o_show_crowd_time, .ref q_o_show_crowd_lookers, x_o_show_crowd_facts])), (q_o_show_crowd_lookers, .inl (cy 0, 4, .inl o_show_crowd_lookers)), (q_o_bytes, .inl (cy 1, 800, .inl o_bytes))] (va_runV (As := [.int (-2 : Int32), .int o6]) (rest := []) ⟨hx, hb, hml, hown, hts⟩ (c_X3_fail q_o H.size (.ref q_o_show) x_o_filled (.ref q_o_bytes) (.int o_end) (.int o6) (.int o_number) x_o_planesTold x_o_reachTold x_o_lengthTold x_o_priceTold o_error o_errorAt (-2 : Int32) o6 _ h53) (cwV 2 hts gX3_readBox_X3_fail rfl rfl rfl kd_X3_fail ⟨Nat.le_of_ble_eq_true rfl, Nat.le_of_ble_eq_true rfl⟩) ⟨kP_blind (EN_ok D cy) D _ _ _, va_recv hK hP (ci := 3) (q0 := 0) rfl rfl, kStart (EN_ok D cy) hE hP hD hS hA [0] rfl rfl _⟩ rfl rfl hl.1 rfl (lv_room (Nat.le_of_ble_eq_true rfl)) dX3_readBox_21 ⟨Nat.zero_le _, Nat.zero_le _⟩) hP hD hS hA [0] [1, 2, 3, 4, 5, 6, 7, 8, 9] rfl rfl rfl 10 rfl (by decide +kernel) (fun H locs hP hD hS => ?_)
      obtain ⟨h54, hF⟩ := ck_o hF
      obtain rfl := so_o hF
      rw [hQQ]
      exact kr_z (v := r50) hx hb hr hlocks (by rcases h54 with h9 | h9 <;> rw [h9] <;> rfl) hP hD hS dX3_readBox_24
  exact main s.heap [] ls hP hD hS hl
theorem kd_X3_isOfLine : yX3_isOfLine.cls ≠ "java/lang/invoke/MethodHandle" ∧ yX3_isOfLine.cls ≠ "java/lang/invoke/VarHandle" ∧ (parseMethodDescriptor yX3_isOfLine.desc).map (fun d => d.parameters.length) = some 1 := by decide +kernel
set_option maxHeartbeats 4000000 in
set_option maxRecDepth 100000 in
theorem c_X3_isOfLine {l : Launch} {D : va_G} {cy : Nat → ClassId} (sz : Nat) (p0 : Int32) (res : Int32) (hF : X3_isOfLine p0 = some res) : Met l yX3_isOfLine wsX3_isOfLine ({ frames := 1, cells := 0, slots := 0, locals := 20 } : Room) (kP (EN D cy) D [.int p0] [] sz) (kQi D res [] (va_A [] sz)) 0 0 (va_A [] sz) := by
  refine kMet (y := yX3_isOfLine) (av := [.int p0]) (cc := cX3_isOfLine) (maxL := 1) (ret := some .boolean) (own := RX3) (Qc := fun A9 => (kQi D res [] A9)) (by decide) rfl rfl (Nat.le_of_ble_eq_true rfl) ?_
  intro p e s m args below meth c A hx hb hr hts hown hml hlocks hname hE hP hD hA hsz ls hl
  have hK := hE.1
  have hl : lv_has ls 1 [(0, .int p0)] := hl
  have hS : va_S A s.heap s.heap [] := va_S.rf
  obtain ⟨QQ, hQQ⟩ : ∃ Q9, Q9 = MQ below (kQi D res [] A) args s 0 0 A := ⟨_, rfl⟩
  rw [← hQQ]
  have J13 : ∀ (H : Heap) (locs : List Loc) (ls : Array Slot), va_P D vwCl [] H → va_D A [] → va_S A s.heap H locs → lv_has ls 1 [] → X3_isOfLine_J13 p0 = some res → W p l e ({ frames := 1, cells := 0, slots := 0, locals := 20 } : Room) s m args below meth c H locs 0 0 QQ (F0 m 13 ls []) := by
    intro  H locs ls hP hD hS hl hF
    unfold X3_isOfLine_J13 at hF
    refine lv_iconst (v := 1) hx hb dX3_isOfLine_13 (by decide) ?_
    refine lv_goto (tgt := 18) hx hb dX3_isOfLine_14 (by decide) ?_
    obtain rfl := so_o hF
    rw [hQQ]
    exact kr_z (v := (1 : Int32)) hx hb hr hlocks rfl hP hD hS dX3_isOfLine_18
  have main : ∀ (H : Heap) (locs : List Loc) (ls : Array Slot), va_P D vwCl [] H → va_D A [] → va_S A s.heap H locs → lv_has ls 1 [(0, .int p0)] → W p l e ({ frames := 1, cells := 0, slots := 0, locals := 20 } : Room) s m args below meth c H locs 0 0 QQ (F0 m 0 ls []) := by
    intro H locs ls hP hD hS hl
    unfold X3_isOfLine at hF
    refine lv_iload_n hx hb dX3_isOfLine_0 rfl (lv_at hl 0 rfl) ?_
    refine lv_bipush (v := 46) hx hb dX3_isOfLine_1 (by decide) ?_
    refine lv_icmp_eq (tgt := 13) hx hb dX3_isOfLine_3 (by decide) (fun c1 => ?_) (fun c1 => ?_)
    · have hF := if_p hF c1
      exact J13  H locs ls hP hD hS (lv_sub hl [] rfl) hF
    · have hF := if_n hF c1
      refine lv_iload_n hx hb dX3_isOfLine_6 rfl (lv_at hl 0 rfl) ?_
      obtain ⟨r2, h3, hF⟩ := bn1_o hF
      refine kd_i [] (va_runS (As := [.int p0]) (rest := []) ⟨hx, hb, hml, hown, hts⟩ (c_X3_isLetter H.size p0 _ h3) (va_cwS 1 hts gX3_isOfLine_X3_isLetter rfl rfl rfl kd_X3_isLetter ⟨Nat.le_of_ble_eq_true rfl, Nat.le_of_ble_eq_true rfl⟩) ⟨kP_blind (EN_ok D cy) D _ _ _, kStart (EN_ok D cy) hE hP hD hS hA [] rfl rfl _⟩ rfl rfl hl.1 rfl (lv_room (Nat.le_of_ble_eq_true rfl)) dX3_isOfLine_7 ⟨Nat.zero_le _, Nat.zero_le _⟩) hP hD hS hA [] [] rfl rfl rfl 0 rfl (by decide +kernel) (fun H locs hP hD hS => ?_)
      refine lv_if_eq (tgt := 17) hx hb dX3_isOfLine_10 (by decide) (fun c4 => ?_) (fun c4 => ?_)
      · have hF := if_p hF c4
        refine lv_iconst (v := 0) hx hb dX3_isOfLine_17 (by decide) ?_
        obtain rfl := so_o hF
        rw [hQQ]
        exact kr_z (v := (0 : Int32)) hx hb hr hlocks rfl hP hD hS dX3_isOfLine_18
      · have hF := if_n hF c4
        exact J13  H locs ls hP hD hS (lv_sub hl [] rfl) hF
  exact main s.heap [] ls hP hD hS hl
theorem kd_X3_readLine : yX3_readLine.cls = RX3 ∧ yX3_readLine.cls ≠ "java/lang/invoke/MethodHandle" ∧ yX3_readLine.cls ≠ "java/lang/invoke/VarHandle" ∧ (parseMethodDescriptor yX3_readLine.desc).map (fun d => d.parameters.length) = some 2 := by decide +kernel
set_option maxHeartbeats 4000000 in
set_option maxRecDepth 100000 in
theorem c_X3_readLine {l : Launch} {D : va_G} {cy : Nat → ClassId} (q_o q_o_show q_o_show_box q_o_show_box_cells q_o_bytes : Nat) (sz : Nat) (x_o_filled x_o_number x_o_planesTold x_o_reachTold x_o_lengthTold x_o_priceTold x_o_show_crowd x_o_show_box_height x_o_show_box_holes x_o_show_box_reach x_o_show_box_pulls x_o_show_box_holeX x_o_show_box_holeY x_o_show_box_price : Value) (o_error : Int32) (o_errorAt : Int32) (o_end : Int32) (o_at : Int32) (o_show_box_width : Int32) (o_show_box_planes : Int32) (o_show_box_cells : Nat → Int32) (o_bytes : Nat → Int32) (p1 : Int32) (p2 : Int32) (res : Int32 × Int32 × Int32 × Int32 × (Nat → Int32)) (hF : X3_readLine o_error o_errorAt o_end o_at o_show_box_width o_show_box_planes o_show_box_cells o_bytes p1 p2 = some res) : Met l yX3_readLine wsX3_readLine ({ frames := 2, cells := 0, slots := 0, locals := 40 } : Room) (kP (EN D cy) D [.ref q_o, .int p1, .int p2] [(q_o, .inr (3, [.ref q_o_show, x_o_filled, .int o_error, .int o_errorAt, .ref q_o_bytes, .int o_end, .int o_at, x_o_number, x_o_planesTold, x_o_reachTold, x_o_lengthTold, x_o_priceTold])), (q_o_show, .inr (4, [.ref q_o_show_box, x_o_show_crowd])), (q_o_show_box, .inr (0, [.int o_show_box_width, x_o_show_box_height, .int o_show_box_planes, x_o_show_box_holes, x_o_show_box_reach, .ref q_o_show_box_cells, x_o_show_box_pulls, x_o_show_box_holeX, x_o_show_box_holeY, x_o_show_box_price])), (q_o_show_box_cells, .inl (cy 0, 480, .inl o_show_box_cells)), (q_o_bytes, .inl (cy 1, 800, .inl o_bytes))] sz) (kQi D res.1 [(q_o, .inr (3, [.ref q_o_show, x_o_filled, .int res.2.1, .int res.2.2.1, .ref q_o_bytes, .int o_end, .int res.2.2.2.1, x_o_number, x_o_planesTold, x_o_reachTold, x_o_lengthTold, x_o_priceTold])), (q_o_show, .inr (4, [.ref q_o_show_box, x_o_show_crowd])), (q_o_show_box, .inr (0, [.int o_show_box_width, x_o_show_box_height, .int o_show_box_planes, x_o_show_box_holes, x_o_show_box_reach, .ref q_o_show_box_cells, x_o_show_box_pulls, x_o_show_box_holeX, x_o_show_box_holeY, x_o_show_box_price])), (q_o_show_box_cells, .inl (cy 0, 480, .inl res.2.2.2.2)), (q_o_bytes, .inl (cy 1, 800, .inl o_bytes))] (va_A [(q_o, .inr (3, [.ref q_o_show, x_o_filled, .int o_error, .int o_errorAt, .ref q_o_bytes, .int o_end, .int o_at, x_o_number, x_o_planesTold, x_o_reachTold, x_o_lengthTold, x_o_priceTold])), (q_o_show, .inr (4, [.ref q_o_show_box, x_o_show_crowd])), (q_o_show_box, .inr (0, [.int o_show_box_width, x_o_show_box_height, .int o_show_box_planes, x_o_show_box_holes, x_o_show_box_reach, .ref q_o_show_box_cells, x_o_show_box_pulls, x_o_show_box_holeX, x_o_show_box_holeY, x_o_show_box_price])), (q_o_show_box_cells, .inl (cy 0, 480, .inl o_show_box_cells)), (q_o_bytes, .inl (cy 1, 800, .inl o_bytes))] sz)) 0 0 (va_A [(q_o, .inr (3, [.ref q_o_show, x_o_filled, .int o_error, .int o_errorAt, .ref q_o_bytes, .int o_end, .int o_at, x_o_number, x_o_planesTold, x_o_reachTold, x_o_lengthTold, x_o_priceTold])), (q_o_show, .inr (4, [.ref q_o_show_box, x_o_show_crowd])), (q_o_show_box, .inr (0, [.int o_show_box_width, x_o_show_box_height, .int o_show_box_planes, x_o_show_box_holes, x_o_show_box_reach, .ref q_o_show_box_cells, x_o_show_box_pulls, x_o_show_box_holeX, x_o_show_box_holeY, x_o_show_box_price])), (q_o_show_box_cells, .inl (cy 0, 480, .inl o_show_box_cells)), (q_o_bytes, .inl (cy 1, 800, .inl o_bytes))] sz) := by
  refine kMet (y := yX3_readLine) (av := [.ref q_o, .int p1, .int p2]) (cc := cX3_readLine) (maxL := 6) (ret := some .boolean) (own := RX3) (Qc := fun A9 => (kQi D res.1 [(q_o, .inr (3, [.ref q_o_show, x_o_filled, .int res.2.1, .int res.2.2.1, .ref q_o_bytes, .int o_end, .int res.2.2.2.1, x_o_number, x_o_planesTold, x_o_reachTold, x_o_lengthTold, x_o_priceTold])), (q_o_show, .inr (4, [.ref q_o_show_box, x_o_show_crowd])), (q_o_show_box, .inr (0, [.int o_show_box_width, x_o_show_box_height, .int o_show_box_planes, x_o_show_box_holes, x_o_show_box_reach, .ref q_o_show_box_cells, x_o_show_box_pulls, x_o_show_box_holeX, x_o_show_box_holeY, x_o_show_box_price])), (q_o_show_box_cells, .inl (cy 0, 480, .inl res.2.2.2.2)), (q_o_bytes, .inl (cy 1, 800, .inl o_bytes))] A9)) (by decide) rfl rfl (Nat.le_of_ble_eq_true rfl) ?_
  intro p e s m args below meth c A hx hb hr hts hown hml hlocks hname hE hP hD hA hsz ls hl
  have hK := hE.1
  have hl : lv_has ls 6 [(0, .ref q_o), (1, .int p1), (2, .int p2)] := hl
  have hS : va_S A s.heap s.heap [] := va_S.rf
  have f_f12 := hts (.fieldLink RX3 12 "PeepBox$Setup" "show" "LPeepBox$Show;") (by decide +kernel)
  have f_inX3 : ∀ w ∈ wsX30, w ∈ wsX3_readLine := by decide +kernel
  have f_f73 := hts (.fieldLink RX3 73 "PeepBox$Show" "box" "LPeepBox$Box;") (by decide +kernel)
  have f_inX4 : ∀ w ∈ wsX40, w ∈ wsX3_readLine := by decide +kernel
  have f_f28 := hts (.fieldLink RX3 28 "PeepBox$Setup" "bytes" "[B") (by decide +kernel)
  have f_f149 := hts (.fieldLink RX3 149 "PeepBox$Box" "width" "I") (by decide +kernel)
  have f_inX0 : ∀ w ∈ wsX00, w ∈ wsX3_readLine := by decide +kernel
  have f_f35 := hts (.fieldLink RX3 35 "PeepBox$Setup" "at" "I") (by decide +kernel)
  have f_f32 := hts (.fieldLink RX3 32 "PeepBox$Setup" "end" "I") (by decide +kernel)
  obtain ⟨QQ, hQQ⟩ : ∃ Q9, Q9 = MQ below (kQi D res.1 [(q_o, .inr (3, [.ref q_o_show, x_o_filled, .int res.2.1, .int res.2.2.1, .ref q_o_bytes, .int o_end, .int res.2.2.2.1, x_o_number, x_o_planesTold, x_o_reachTold, x_o_lengthTold, x_o_priceTold])), (q_o_show, .inr (4, [.ref q_o_show_box, x_o_show_crowd])), (q_o_show_box, .inr (0, [.int o_show_box_width, x_o_show_box_height, .int o_show_box_planes, x_o_show_box_holes, x_o_show_box_reach, .ref q_o_show_box_cells, x_o_show_box_pulls, x_o_show_box_holeX, x_o_show_box_holeY, x_o_show_box_price])), (q_o_show_box_cells, .inl (cy 0, 480, .inl res.2.2.2.2)), (q_o_bytes, .inl (cy 1, 800, .inl o_bytes))] A) args s 0 0 A := ⟨_, rfl⟩
  rw [← hQQ]
  have J95 : ∀ (n95 : Nat) (l3 : Int32) (l4 : Int32) (o_at : Int32) (o_show_box_cells : Nat → Int32) (H : Heap) (locs : List Loc) (ls : Array Slot), va_P D vwCl [(q_o, .inr (3, [.ref q_o_show, x_o_filled, .int o_error, .int o_errorAt, .ref q_o_bytes, .int o_end, .int o_at, x_o_number, x_o_planesTold, x_o_reachTold, x_o_lengthTold, x_o_priceTold])), (q_o_show, .inr (4, [.ref q_o_show_box, x_o_show_crowd])), (q_o_show_box, .inr (0, [.int o_show_box_width, x_o_show_box_height, .int o_show_box_planes, x_o_show_box_holes, x_o_show_box_reach, .ref q_o_show_box_cells, x_o_show_box_pulls, x_o_show_box_holeX, x_o_show_box_holeY, x_o_show_box_price])), (q_o_show_box_cells, .inl (cy 0, 480, .inl o_show_box_cells)), (q_o_bytes, .inl (cy 1, 800, .inl o_bytes))] H → va_D A [(q_o, .inr (3, [.ref q_o_show, x_o_filled, .int o_error, .int o_errorAt, .ref q_o_bytes, .int o_end, .int o_at, x_o_number, x_o_planesTold, x_o_reachTold, x_o_lengthTold, x_o_priceTold])), (q_o_show, .inr (4, [.ref q_o_show_box, x_o_show_crowd])), (q_o_show_box, .inr (0, [.int o_show_box_width, x_o_show_box_height, .int o_show_box_planes, x_o_show_box_holes, x_o_show_box_reach, .ref q_o_show_box_cells, x_o_show_box_pulls, x_o_show_box_holeX, x_o_show_box_holeY, x_o_show_box_price])), (q_o_show_box_cells, .inl (cy 0, 480, .inl o_show_box_cells)), (q_o_bytes, .inl (cy 1, 800, .inl o_bytes))] → va_S A s.heap H locs → lv_has ls 6 [(0, .ref q_o), (1, .int p1), (2, .int p2), (3, .int l3), (4, .int l4)] → X3_readLine_L95 o_error o_errorAt o_end o_show_box_width o_show_box_planes o_bytes p1 p2 n95 l3 l4 o_at o_show_box_cells = some res → W p l e ({ frames := 2, cells := 0, slots := 0, locals := 40 } : Room) s m args below meth c H locs 0 0 QQ (F0 m 95 ls []) := by
    intro n95
    induction n95 with
    | zero =>
      intro l3 l4 o_at o_show_box_cells H locs ls hP hD hS hl hF
      rw [X3_readLine_L95] at hF
      cases hF
    | succ n95 ih95 =>
      have J193 : ∀ (l3 : Int32) (l4 : Int32) (k1 : Int32) (k2 : Int32) (k3 : Int32) (k4 : Int32) (o_at : Int32) (o_show_box_cells : Nat → Int32) (H : Heap) (locs : List Loc) (ls : Array Slot), va_P D vwCl [(q_o, .inr (3, [.ref q_o_show, x_o_filled, .int o_error, .int o_errorAt, .ref q_o_bytes, .int o_end, .int o_at, x_o_number, x_o_planesTold, x_o_reachTold, x_o_lengthTold, x_o_priceTold])), (q_o_show, .inr (4, [.ref q_o_show_box, x_o_show_crowd])), (q_o_show_box, .inr (0, [.int o_show_box_width, x_o_show_box_height, .int o_show_box_planes, x_o_show_box_holes, x_o_show_box_reach, .ref q_o_show_box_cells, x_o_show_box_pulls, x_o_show_box_holeX, x_o_show_box_holeY, x_o_show_box_price])), (q_o_show_box_cells, .inl (cy 0, 480, .inl o_show_box_cells)), (q_o_bytes, .inl (cy 1, 800, .inl o_bytes))] H → va_D A [(q_o, .inr (3, [.ref q_o_show, x_o_filled, .int o_error, .int o_errorAt, .ref q_o_bytes, .int o_end, .int o_at, x_o_number, x_o_planesTold, x_o_reachTold, x_o_lengthTold, x_o_priceTold])), (q_o_show, .inr (4, [.ref q_o_show_box, x_o_show_crowd])), (q_o_show_box, .inr (0, [.int o_show_box_width, x_o_show_box_height, .int o_show_box_planes, x_o_show_box_holes, x_o_show_box_reach, .ref q_o_show_box_cells, x_o_show_box_pulls, x_o_show_box_holeX, x_o_show_box_holeY, x_o_show_box_price])), (q_o_show_box_cells, .inl (cy 0, 480, .inl o_show_box_cells)), (q_o_bytes, .inl (cy 1, 800, .inl o_bytes))] → va_S A s.heap H locs → lv_has ls 6 [(0, .ref q_o), (1, .int p1), (2, .int p2), (3, .int l3), (4, .int l4)] → X3_readLine_J193 o_error o_errorAt o_end o_show_box_width o_show_box_planes o_bytes p1 p2 (fun z0 z1 z2 z3 => X3_readLine_L95 o_error o_errorAt o_end o_show_box_width o_show_box_planes o_bytes p1 p2 n95 z0 z1 z2 z3) l3 l4 k1 k2 k3 k4 o_at o_show_box_cells = some res → W p l e ({ frames := 2, cells := 0, slots := 0, locals := 40 } : Room) s m args below meth c H locs 0 0 QQ (F0 m 193 ls [.int k4, .int k3, .int k2, .int k1, .ref q_o_show_box]) := by
        intro l3 l4 k1 k2 k3 k4 o_at o_show_box_cells H locs ls hP hD hS hl hF
        unfold X3_readLine_J193 at hF
        obtain ⟨o1, h2, hF⟩ := bn1_o hF
        refine kd_v [(q_o, .inr (3, [.ref q_o_show, x_o_filled, .int o_error, .int o_errorAt, .ref q_o_bytes, .int o_end, .int o_at, x_o_number, x_o_planesTold, x_o_reachTold, x_o_lengthTold, x_o_priceTold])), (q_o_show, .inr (4, [.ref q_o_show_box, x_o_show_crowd])), (q_o_show_box, .inr (0, [.int o_show_box_width, x_o_show_box_height, .int o_show_box_planes, x_o_show_box_holes, x_o_show_box_reach, .ref q_o_show_box_cells, x_o_show_box_pulls, x_o_show_box_holeX, x_o_show_box_holeY, x_o_show_box_price])), (q_o_show_box_cells, .inl (cy 0, 480, .inl o1)), (q_o_bytes, .inl (cy 1, 800, .inl o_bytes))] (va_runV (As := [.int k1, .int k2, .int k3, .int k4]) (rest := []) ⟨hx, hb, hml, hown, hts⟩ (c_X0_setKind q_o_show_box q_o_show_box_cells H.size (.int o_show_box_width) x_o_show_box_height (.int o_show_box_planes) x_o_show_box_holes x_o_show_box_reach x_o_show_box_pulls x_o_show_box_holeX x_o_show_box_holeY x_o_show_box_price o_show_box_cells k1 k2 k3 k4 _ h2) (cwV 4 hts gX3_readLine_X0_setKind rfl rfl rfl kd_X0_setKind ⟨Nat.le_of_ble_eq_true rfl, Nat.le_of_ble_eq_true rfl⟩) ⟨kP_blind (EN_ok D cy) D _ _ _, va_recv hK hP (ci := 0) (q0 := 2) rfl rfl, kStart (EN_ok D cy) hE hP hD hS hA [2, 3] rfl rfl _⟩ rfl rfl hl.1 rfl (lv_room (Nat.le_of_ble_eq_true rfl)) dX3_readLine_193 ⟨Nat.zero_le _, Nat.zero_le _⟩) hP hD hS hA [2, 3] [0, 1, 4] rfl rfl rfl 5 rfl (by decide +kernel) (fun H locs hP hD hS => ?_)
        obtain ⟨v3, ev3⟩ : ∃ y : Int32, y = l4 + (1 : Int32) := ⟨_, rfl⟩
        have hF := nm_o hF v3 ev3
        refine lv_iinc (v := v3) (lv' := [(4, .int v3), (0, .ref q_o), (1, .int p1), (2, .int p2), (3, .int l3)]) hx hb dX3_readLine_196 hl (k := 4) rfl (by rw [ev3]; rfl) (by decide) rfl (fun ls hl => ?_)
        refine lv_goto (tgt := 95) hx hb dX3_readLine_199 (by decide) ?_
        exact ih95 l3 v3 o_at o1 H locs ls hP hD hS (lv_sub hl [1, 2, 3, 4, 0] rfl) hF
      have J161 : ∀ (l3 : Int32) (l4 : Int32) (l5 : Int32) (o_at : Int32) (o_show_box_cells : Nat → Int32) (H : Heap) (locs : List Loc) (ls : Array Slot), va_P D vwCl [(q_o, .inr (3, [.ref q_o_show, x_o_filled, .int o_error, .int o_errorAt, .ref q_o_bytes, .int o_end, .int o_at, x_o_number, x_o_planesTold, x_o_reachTold, x_o_lengthTold, x_o_priceTold])), (q_o_show, .inr (4, [.ref q_o_show_box, x_o_show_crowd])), (q_o_show_box, .inr (0, [.int o_show_box_width, x_o_show_box_height, .int o_show_box_planes, x_o_show_box_holes, x_o_show_box_reach, .ref q_o_show_box_cells, x_o_show_box_pulls, x_o_show_box_holeX, x_o_show_box_holeY, x_o_show_box_price])), (q_o_show_box_cells, .inl (cy 0, 480, .inl o_show_box_cells)), (q_o_bytes, .inl (cy 1, 800, .inl o_bytes))] H → va_D A [(q_o, .inr (3, [.ref q_o_show, x_o_filled, .int o_error, .int o_errorAt, .ref q_o_bytes, .int o_end, .int o_at, x_o_number, x_o_planesTold, x_o_reachTold, x_o_lengthTold, x_o_priceTold])), (q_o_show, .inr (4, [.ref q_o_show_box, x_o_show_crowd])), (q_o_show_box, .inr (0, [.int o_show_box_width, x_o_show_box_height, .int o_show_box_planes, x_o_show_box_holes, x_o_show_box_reach, .ref q_o_show_box_cells, x_o_show_box_pulls, x_o_show_box_holeX, x_o_show_box_holeY, x_o_show_box_price])), (q_o_show_box_cells, .inl (cy 0, 480, .inl o_show_box_cells)), (q_o_bytes, .inl (cy 1, 800, .inl o_bytes))] → va_S A s.heap H locs → lv_has ls 6 [(0, .ref q_o), (1, .int p1), (2, .int p2), (3, .int l3), (4, .int l4), (5, .int l5)] → X3_readLine_J161 o_error o_errorAt o_end o_show_box_width o_show_box_planes o_bytes p1 p2 (fun z0 z1 z2 z3 => X3_readLine_L95 o_error o_errorAt o_end o_show_box_width o_show_box_planes o_bytes p1 p2 n95 z0 z1 z2 z3) l3 l4 l5 o_at o_show_box_cells = some res → W p l e ({ frames := 2, cells := 0, slots := 0, locals := 40 } : Room) s m args below meth c H locs 0 0 QQ (F0 m 161 ls []) := by
        intro l3 l4 l5 o_at o_show_box_cells H locs ls hP hD hS hl hF
        unfold X3_readLine_J161 at hF
        refine lv_aload_n hx hb dX3_readLine_161 rfl (lv_at hl 0 rfl) ?_
        refine va_get (D := D) (ci := 3) (v := .ref q_o_show) (C := RX3) (T := TX3) (N := 12) hx hb hts f_inX3 hown hK hP 0 rfl rfl 0 (by decide) f_f12 (fun _ h9 => h9) rfl dX3_readLine_162 ?_
        refine va_get (D := D) (ci := 4) (v := .ref q_o_show_box) (C := RX4) (T := TX4) (N := 2) hx hb hts f_inX4 hown hK hP 1 rfl rfl 0 (by decide) f_f73 (fun _ h9 => h9) rfl dX3_readLine_165 ?_
        refine lv_iload_n hx hb dX3_readLine_168 rfl (lv_at hl 1 rfl) ?_
        refine lv_iload hx hb dX3_readLine_169 (lv_at hl 4 rfl) ?_
        refine lv_iload_n hx hb dX3_readLine_171 rfl (lv_at hl 2 rfl) ?_
        refine lv_iload hx hb dX3_readLine_172 (lv_at hl 5 rfl) ?_
        refine lv_if_eq (tgt := 181) hx hb dX3_readLine_174 (by decide) (fun c4 => ?_) (fun c4 => ?_)
        · have hF := if_p hF c4
          refine lv_aload_n hx hb dX3_readLine_181 rfl (lv_at hl 0 rfl) ?_
          refine va_get (D := D) (ci := 3) (v := .ref q_o_bytes) (C := RX3) (T := TX3) (N := 12) hx hb hts f_inX3 hown hK hP 0 rfl rfl 4 (by decide) f_f28 (fun _ h9 => h9) rfl dX3_readLine_182 ?_
          refine lv_iload_n hx hb dX3_readLine_185 rfl (lv_at hl 3 rfl) ?_
          refine lv_iload hx hb dX3_readLine_186 (lv_at hl 4 rfl) ?_
          refine lv_iadd hx hb dX3_readLine_188 ?_
          obtain ⟨h5, hF⟩ := ld_o hF
          refine va_bald hx hb hK hP 4 1 rfl rfl h5 dX3_readLine_189 ?_
          refine lv_topi (fun v6 ev6 => ?_)
          have hF := hF v6 ev6
          refine lv_bipush (v := 97) hx hb dX3_readLine_190 (by decide) ?_
          refine lv_isub hx hb dX3_readLine_192 ?_
          exact J193 l3 l4 p1 l4 p2 (v6 - (97 : Int32)) o_at o_show_box_cells H locs ls hP hD hS (lv_sub hl [0, 1, 2, 3, 4] rfl) hF
        · have hF := if_n hF c4
          refine lv_iconst (v := -1) hx hb dX3_readLine_177 (by decide) ?_
          refine lv_goto (tgt := 193) hx hb dX3_readLine_178 (by decide) ?_
          exact J193 l3 l4 p1 l4 p2 (-1 : Int32) o_at o_show_box_cells H locs ls hP hD hS (lv_sub hl [0, 1, 2, 3, 4] rfl) hF
      have J129 : ∀ (l3 : Int32) (l4 : Int32) (k0 : Int32) (o_at : Int32) (o_show_box_cells : Nat → Int32) (H : Heap) (locs : List Loc) (ls : Array Slot), va_P D vwCl [(q_o, .inr (3, [.ref q_o_show, x_o_filled, .int o_error, .int o_errorAt, .ref q_o_bytes, .int o_end, .int o_at, x_o_number, x_o_planesTold, x_o_reachTold, x_o_lengthTold, x_o_priceTold])), (q_o_show, .inr (4, [.ref q_o_show_box, x_o_show_crowd])), (q_o_show_box, .inr (0, [.int o_show_box_width, x_o_show_box_height, .int o_show_box_planes, x_o_show_box_holes, x_o_show_box_reach, .ref q_o_show_box_cells, x_o_show_box_pulls, x_o_show_box_holeX, x_o_show_box_holeY, x_o_show_box_price])), (q_o_show_box_cells, .inl (cy 0, 480, .inl o_show_box_cells)), (q_o_bytes, .inl (cy 1, 800, .inl o_bytes))] H → va_D A [(q_o, .inr (3, [.ref q_o_show, x_o_filled, .int o_error, .int o_errorAt, .ref q_o_bytes, .int o_end, .int o_at, x_o_number, x_o_planesTold, x_o_reachTold, x_o_lengthTold, x_o_priceTold])), (q_o_show, .inr (4, [.ref q_o_show_box, x_o_show_crowd])), (q_o_show_box, .inr (0, [.int o_show_box_width, x_o_show_box_height, .int o_show_box_planes, x_o_show_box_holes, x_o_show_box_reach, .ref q_o_show_box_cells, x_o_show_box_pulls, x_o_show_box_holeX, x_o_show_box_holeY, x_o_show_box_price])), (q_o_show_box_cells, .inl (cy 0, 480, .inl o_show_box_cells)), (q_o_bytes, .inl (cy 1, 800, .inl o_bytes))] → va_S A s.heap H locs → lv_has ls 6 [(0, .ref q_o), (1, .int p1), (2, .int p2), (3, .int l3), (4, .int l4)] → X3_readLine_J129 o_error o_errorAt o_end o_show_box_width o_show_box_planes o_bytes p1 p2 (fun z0 z1 z2 z3 => X3_readLine_L95 o_error o_errorAt o_end o_show_box_width o_show_box_planes o_bytes p1 p2 n95 z0 z1 z2 z3) l3 l4 k0 o_at o_show_box_cells = some res → W p l e ({ frames := 2, cells := 0, slots := 0, locals := 40 } : Room) s m args below meth c H locs 0 0 QQ (F0 m 129 ls [.int k0]) := by
        intro l3 l4 k0 o_at o_show_box_cells H locs ls hP hD hS hl hF
        unfold X3_readLine_J129 at hF
        refine lv_istore (lv' := [(5, .int k0), (0, .ref q_o), (1, .int p1), (2, .int p2), (3, .int l3), (4, .int l4)]) hx hb dX3_readLine_129 hl (by decide) rfl (fun ls hl => ?_)
        refine lv_iload hx hb dX3_readLine_131 (lv_at hl 0 rfl) ?_
        refine lv_if_eq (tgt := 161) hx hb dX3_readLine_133 (by decide) (fun c7 => ?_) (fun c7 => ?_)
        · have hF := if_p hF c7
          exact J161 l3 l4 k0 o_at o_show_box_cells H locs ls hP hD hS (lv_sub hl [1, 2, 3, 4, 5, 0] rfl) hF
        · have hF := if_n hF c7
          refine lv_aload_n hx hb dX3_readLine_136 rfl (lv_at hl 1 rfl) ?_
          refine va_get (D := D) (ci := 3) (v := .ref q_o_show) (C := RX3) (T := TX3) (N := 12) hx hb hts f_inX3 hown hK hP 0 rfl rfl 0 (by decide) f_f12 (fun _ h9 => h9) rfl dX3_readLine_137 ?_
          refine va_get (D := D) (ci := 4) (v := .ref q_o_show_box) (C := RX4) (T := TX4) (N := 2) hx hb hts f_inX4 hown hK hP 1 rfl rfl 0 (by decide) f_f73 (fun _ h9 => h9) rfl dX3_readLine_140 ?_
          refine lv_iload_n hx hb dX3_readLine_143 rfl (lv_at hl 2 rfl) ?_
          obtain ⟨r8, h9, hF⟩ := bn1_o hF
          refine kd_i [(q_o, .inr (3, [.ref q_o_show, x_o_filled, .int o_error, .int o_errorAt, .ref q_o_bytes, .int o_end, .int o_at, x_o_number, x_o_planesTold, x_o_reachTold, x_o_lengthTold, x_o_priceTold])), (q_o_show, .inr (4, [.ref q_o_show_box, x_o_show_crowd])), (q_o_show_box, .inr (0, [.int o_show_box_width, x_o_show_box_height, .int o_show_box_planes, x_o_show_box_holes, x_o_show_box_reach, .ref q_o_show_box_cells, x_o_show_box_pulls, x_o_show_box_holeX, x_o_show_box_holeY, x_o_show_box_price])), (q_o_show_box_cells, .inl (cy 0, 480, .inl o_show_box_cells)), (q_o_bytes, .inl (cy 1, 800, .inl o_bytes))] (va_runV (As := [.int p1]) (rest := []) ⟨hx, hb, hml, hown, hts⟩ (c_X0_isBack q_o_show_box H.size (.int o_show_box_width) x_o_show_box_height x_o_show_box_holes x_o_show_box_reach (.ref q_o_show_box_cells) x_o_show_box_pulls x_o_show_box_holeX x_o_show_box_holeY x_o_show_box_price o_show_box_planes p1 _ h9) (cwV 1 hts gX3_readLine_X0_isBack rfl rfl rfl kd_X0_isBack ⟨Nat.le_of_ble_eq_true rfl, Nat.le_of_ble_eq_true rfl⟩) ⟨kP_blind (EN_ok D cy) D _ _ _, va_recv hK hP (ci := 0) (q0 := 2) rfl rfl, kStart (EN_ok D cy) hE hP hD hS hA [2] rfl rfl _⟩ rfl rfl hl.1 rfl (lv_room (Nat.le_of_ble_eq_true rfl)) dX3_readLine_144 ⟨Nat.zero_le _, Nat.zero_le _⟩) hP hD hS hA [2] [0, 1, 3, 4] rfl rfl rfl 5 rfl (by decide +kernel) (fun H locs hP hD hS => ?_)
          refine lv_if_eq (tgt := 161) hx hb dX3_readLine_147 (by decide) (fun c10 => ?_) (fun c10 => ?_)
          · have hF := if_p hF c10
            exact J161 l3 l4 k0 o_at o_show_box_cells H locs ls hP hD hS (lv_sub hl [1, 2, 3, 4, 5, 0] rfl) hF
          · have hF := if_n hF c10
            refine lv_aload_n hx hb dX3_readLine_150 rfl (lv_at hl 1 rfl) ?_
            refine lv_bipush (v := -4) hx hb dX3_readLine_151 (by decide) ?_
            refine lv_iload_n hx hb dX3_readLine_153 rfl (lv_at hl 4 rfl) ?_
            refine lv_iload hx hb dX3_readLine_154 (lv_at hl 5 rfl) ?_
            refine lv_iadd hx hb dX3_readLine_156 ?_
            obtain ⟨r11, o12, o13, h14, hF⟩ := bn3_o hF
            refine kd_i [(q_o, .inr (3, [.ref q_o_show, x_o_filled, .int o12, .int o13, .ref q_o_bytes, .int o_end, .int o_at, x_o_number, x_o_planesTold, x_o_reachTold, x_o_lengthTold, x_o_priceTold])), (q_o_show, .inr (4, [.ref q_o_show_box, x_o_show_crowd])), (q_o_show_box, .inr (0, [.int o_show_box_width, x_o_show_box_height, .int o_show_box_planes, x_o_show_box_holes, x_o_show_box_reach, .ref q_o_show_box_cells, x_o_show_box_pulls, x_o_show_box_holeX, x_o_show_box_holeY, x_o_show_box_price])), (q_o_show_box_cells, .inl (cy 0, 480, .inl o_show_box_cells)), (q_o_bytes, .inl (cy 1, 800, .inl o_bytes))] (va_runV (As := [.int (-4 : Int32), .int (l3 + l4)]) (rest := []) ⟨hx, hb, hml, hown, hts⟩ (c_X3_fail q_o H.size (.ref q_o_show) x_o_filled (.ref q_o_bytes) (.int o_end) (.int o_at) x_o_number x_o_planesTold x_o_reachTold x_o_lengthTold x_o_priceTold o_error o_errorAt (-4 : Int32) (l3 + l4) _ h14) (cwV 2 hts gX3_readLine_X3_fail rfl rfl rfl kd_X3_fail ⟨Nat.le_of_ble_eq_true rfl, Nat.le_of_ble_eq_true rfl⟩) ⟨kP_blind (EN_ok D cy) D _ _ _, va_recv hK hP (ci := 3) (q0 := 0) rfl rfl, kStart (EN_ok D cy) hE hP hD hS hA [0] rfl rfl _⟩ rfl rfl hl.1 rfl (lv_room (Nat.le_of_ble_eq_true rfl)) dX3_readLine_157 ⟨Nat.zero_le _, Nat.zero_le _⟩) hP hD hS hA [0] [1, 2, 3, 4] rfl rfl rfl 5 rfl (by decide +kernel) (fun H locs hP hD hS => ?_)
            obtain ⟨h15, hF⟩ := ck_o hF
            obtain rfl := so_o hF
            rw [hQQ]
            exact kr_z (v := r11) hx hb hr hlocks (by rcases h15 with h9 | h9 <;> rw [h9] <;> rfl) hP hD hS dX3_readLine_160
      intro l3 l4 o_at o_show_box_cells H locs ls hP hD hS hl hF
      rw [X3_readLine_L95] at hF
      refine lv_iload hx hb dX3_readLine_95 (lv_at hl 4 rfl) ?_
      refine lv_aload_n hx hb dX3_readLine_97 rfl (lv_at hl 0 rfl) ?_
      refine va_get (D := D) (ci := 3) (v := .ref q_o_show) (C := RX3) (T := TX3) (N := 12) hx hb hts f_inX3 hown hK hP 0 rfl rfl 0 (by decide) f_f12 (fun _ h9 => h9) rfl dX3_readLine_98 ?_
      refine va_get (D := D) (ci := 4) (v := .ref q_o_show_box) (C := RX4) (T := TX4) (N := 2) hx hb hts f_inX4 hown hK hP 1 rfl rfl 0 (by decide) f_f73 (fun _ h9 => h9) rfl dX3_readLine_101 ?_
      refine va_get (D := D) (ci := 0) (v := .int o_show_box_width) (C := RX0) (T := TX0) (N := 10) hx hb hts f_inX0 hown hK hP 2 rfl rfl 0 (by decide) f_f149 (fun _ h9 => h9) rfl dX3_readLine_104 ?_
      refine lv_icmp_ge (tgt := 202) hx hb dX3_readLine_107 (by decide) (fun c16 => ?_) (fun c16 => ?_)
      · have hF := if_p hF c16
        refine lv_iconst (v := 1) hx hb dX3_readLine_202 (by decide) ?_
        obtain rfl := so_o hF
        rw [hQQ]
        exact kr_z (v := (1 : Int32)) hx hb hr hlocks rfl hP hD hS dX3_readLine_203
      · have hF := if_n hF c16
        refine lv_aload_n hx hb dX3_readLine_110 rfl (lv_at hl 0 rfl) ?_
        refine va_get (D := D) (ci := 3) (v := .ref q_o_bytes) (C := RX3) (T := TX3) (N := 12) hx hb hts f_inX3 hown hK hP 0 rfl rfl 4 (by decide) f_f28 (fun _ h9 => h9) rfl dX3_readLine_111 ?_
        refine lv_iload_n hx hb dX3_readLine_114 rfl (lv_at hl 3 rfl) ?_
        refine lv_iload hx hb dX3_readLine_115 (lv_at hl 4 rfl) ?_
        refine lv_iadd hx hb dX3_readLine_117 ?_
        obtain ⟨h17, hF⟩ := ld_o hF
        refine va_bald hx hb hK hP 4 1 rfl rfl h17 dX3_readLine_118 ?_
        refine lv_topi (fun v18 ev18 => ?_)
        have hF := hF v18 ev18
        refine lv_bipush (v := 46) hx hb dX3_readLine_119 (by decide) ?_
        refine lv_icmp_ne (tgt := 128) hx hb dX3_readLine_121 (by decide) (fun c19 => ?_) (fun c19 => ?_)
        · have hF := if_n hF c19
          refine lv_iconst (v := 0) hx hb dX3_readLine_128 (by decide) ?_
          exact J129 l3 l4 (0 : Int32) o_at o_show_box_cells H locs ls hP hD hS (lv_sub hl [0, 1, 2, 3, 4] rfl) hF
        · have hF := if_p hF c19
          refine lv_iconst (v := 1) hx hb dX3_readLine_124 (by decide) ?_
          refine lv_goto (tgt := 129) hx hb dX3_readLine_125 (by decide) ?_
          exact J129 l3 l4 (1 : Int32) o_at o_show_box_cells H locs ls hP hD hS (lv_sub hl [0, 1, 2, 3, 4] rfl) hF
  have J49 : ∀ (l3 : Int32) (o_at : Int32) (H : Heap) (locs : List Loc) (ls : Array Slot), va_P D vwCl [(q_o, .inr (3, [.ref q_o_show, x_o_filled, .int o_error, .int o_errorAt, .ref q_o_bytes, .int o_end, .int o_at, x_o_number, x_o_planesTold, x_o_reachTold, x_o_lengthTold, x_o_priceTold])), (q_o_show, .inr (4, [.ref q_o_show_box, x_o_show_crowd])), (q_o_show_box, .inr (0, [.int o_show_box_width, x_o_show_box_height, .int o_show_box_planes, x_o_show_box_holes, x_o_show_box_reach, .ref q_o_show_box_cells, x_o_show_box_pulls, x_o_show_box_holeX, x_o_show_box_holeY, x_o_show_box_price])), (q_o_show_box_cells, .inl (cy 0, 480, .inl o_show_box_cells)), (q_o_bytes, .inl (cy 1, 800, .inl o_bytes))] H → va_D A [(q_o, .inr (3, [.ref q_o_show, x_o_filled, .int o_error, .int o_errorAt, .ref q_o_bytes, .int o_end, .int o_at, x_o_number, x_o_planesTold, x_o_reachTold, x_o_lengthTold, x_o_priceTold])), (q_o_show, .inr (4, [.ref q_o_show_box, x_o_show_crowd])), (q_o_show_box, .inr (0, [.int o_show_box_width, x_o_show_box_height, .int o_show_box_planes, x_o_show_box_holes, x_o_show_box_reach, .ref q_o_show_box_cells, x_o_show_box_pulls, x_o_show_box_holeX, x_o_show_box_holeY, x_o_show_box_price])), (q_o_show_box_cells, .inl (cy 0, 480, .inl o_show_box_cells)), (q_o_bytes, .inl (cy 1, 800, .inl o_bytes))] → va_S A s.heap H locs → lv_has ls 6 [(0, .ref q_o), (1, .int p1), (2, .int p2), (3, .int l3)] → X3_readLine_J49 o_error o_errorAt o_end o_show_box_width o_show_box_planes o_show_box_cells o_bytes p1 p2 l3 o_at = some res → W p l e ({ frames := 2, cells := 0, slots := 0, locals := 40 } : Room) s m args below meth c H locs 0 0 QQ (F0 m 49 ls []) := by
    intro l3 o_at H locs ls hP hD hS hl hF
    unfold X3_readLine_J49 at hF
    refine lv_aload_n hx hb dX3_readLine_49 rfl (lv_at hl 0 rfl) ?_
    refine va_get (D := D) (ci := 3) (v := .int o_at) (C := RX3) (T := TX3) (N := 12) hx hb hts f_inX3 hown hK hP 0 rfl rfl 6 (by decide) f_f35 (fun _ h9 => h9) rfl dX3_readLine_50 ?_
    refine lv_iload_n hx hb dX3_readLine_53 rfl (lv_at hl 3 rfl) ?_
    refine lv_icmp_ne (tgt := 65) hx hb dX3_readLine_54 (by decide) (fun c20 => ?_) (fun c20 => ?_)
    · have hF := if_n hF c20
      refine lv_aload_n hx hb dX3_readLine_65 rfl (lv_at hl 0 rfl) ?_
      refine va_get (D := D) (ci := 3) (v := .int o_at) (C := RX3) (T := TX3) (N := 12) hx hb hts f_inX3 hown hK hP 0 rfl rfl 6 (by decide) f_f35 (fun _ h9 => h9) rfl dX3_readLine_66 ?_
      refine lv_iload_n hx hb dX3_readLine_69 rfl (lv_at hl 3 rfl) ?_
      refine lv_isub hx hb dX3_readLine_70 ?_
      refine lv_aload_n hx hb dX3_readLine_71 rfl (lv_at hl 0 rfl) ?_
      refine va_get (D := D) (ci := 3) (v := .ref q_o_show) (C := RX3) (T := TX3) (N := 12) hx hb hts f_inX3 hown hK hP 0 rfl rfl 0 (by decide) f_f12 (fun _ h9 => h9) rfl dX3_readLine_72 ?_
      refine va_get (D := D) (ci := 4) (v := .ref q_o_show_box) (C := RX4) (T := TX4) (N := 2) hx hb hts f_inX4 hown hK hP 1 rfl rfl 0 (by decide) f_f73 (fun _ h9 => h9) rfl dX3_readLine_75 ?_
      refine va_get (D := D) (ci := 0) (v := .int o_show_box_width) (C := RX0) (T := TX0) (N := 10) hx hb hts f_inX0 hown hK hP 2 rfl rfl 0 (by decide) f_f149 (fun _ h9 => h9) rfl dX3_readLine_78 ?_
      refine lv_icmp_eq (tgt := 92) hx hb dX3_readLine_81 (by decide) (fun c21 => ?_) (fun c21 => ?_)
      · have hF := if_p hF c21
        refine lv_iconst (v := 0) hx hb dX3_readLine_92 (by decide) ?_
        refine lv_istore (lv' := [(4, .int (0 : Int32)), (0, .ref q_o), (1, .int p1), (2, .int p2), (3, .int l3)]) hx hb dX3_readLine_93 hl (by decide) rfl (fun ls hl => ?_)
        exact J95 FU l3 (0 : Int32) o_at o_show_box_cells H locs ls hP hD hS (lv_sub hl [1, 2, 3, 4, 0] rfl) hF
      · have hF := if_n hF c21
        refine lv_aload_n hx hb dX3_readLine_84 rfl (lv_at hl 0 rfl) ?_
        refine lv_bipush (v := -4) hx hb dX3_readLine_85 (by decide) ?_
        refine lv_iload_n hx hb dX3_readLine_87 rfl (lv_at hl 3 rfl) ?_
        obtain ⟨r22, o23, o24, h25, hF⟩ := bn3_o hF
        refine kd_i [(q_o, .inr (3, [.ref q_o_show, x_o_filled, .int o23, .int o24, .ref q_o_bytes, .int o_end, .int o_at, x_o_number, x_o_planesTold, x_o_reachTold, x_o_lengthTold, x_o_priceTold])), (q_o_show, .inr (4, [.ref q_o_show_box, x_o_show_crowd])), (q_o_show_box, .inr (0, [.int o_show_box_width, x_o_show_box_height, .int o_show_box_planes, x_o_show_box_holes, x_o_show_box_reach, .ref q_o_show_box_cells, x_o_show_box_pulls, x_o_show_box_holeX, x_o_show_box_holeY, x_o_show_box_price])), (q_o_show_box_cells, .inl (cy 0, 480, .inl o_show_box_cells)), (q_o_bytes, .inl (cy 1, 800, .inl o_bytes))] (va_runV (As := [.int (-4 : Int32), .int l3]) (rest := []) ⟨hx, hb, hml, hown, hts⟩ (c_X3_fail q_o H.size (.ref q_o_show) x_o_filled (.ref q_o_bytes) (.int o_end) (.int o_at) x_o_number x_o_planesTold x_o_reachTold x_o_lengthTold x_o_priceTold o_error o_errorAt (-4 : Int32) l3 _ h25) (cwV 2 hts gX3_readLine_X3_fail rfl rfl rfl kd_X3_fail ⟨Nat.le_of_ble_eq_true rfl, Nat.le_of_ble_eq_true rfl⟩) ⟨kP_blind (EN_ok D cy) D _ _ _, va_recv hK hP (ci := 3) (q0 := 0) rfl rfl, kStart (EN_ok D cy) hE hP hD hS hA [0] rfl rfl _⟩ rfl rfl hl.1 rfl (lv_room (Nat.le_of_ble_eq_true rfl)) dX3_readLine_88 ⟨Nat.zero_le _, Nat.zero_le _⟩) hP hD hS hA [0] [1, 2, 3, 4] rfl rfl rfl 5 rfl (by decide +kernel) (fun H locs hP hD hS => ?_)
        obtain ⟨h26, hF⟩ := ck_o hF
        obtain rfl := so_o hF
        rw [hQQ]
        exact kr_z (v := r22) hx hb hr hlocks (by rcases h26 with h9 | h9 <;> rw [h9] <;> rfl) hP hD hS dX3_readLine_91
    · have hF := if_p hF c20
      refine lv_aload_n hx hb dX3_readLine_57 rfl (lv_at hl 0 rfl) ?_
      refine lv_bipush (v := -2) hx hb dX3_readLine_58 (by decide) ?_
      refine lv_iload_n hx hb dX3_readLine_60 rfl (lv_at hl 3 rfl) ?_
      obtain ⟨r27, o28, o29, h30, hF⟩ := bn3_o hF
      refine kd_i [(q_o, .inr (3, [.ref q_o_show, x_o_filled, .int o28, .int o29, .ref q_o_bytes, .int o_end, .int o_at, x_o_number, x_o_planesTold, x_o_reachTold, x_o_lengthTold, x_o_priceTold])), (q_o_show, .inr (4, [.ref q_o_show_box, x_o_show_crowd])), (q_o_show_box, .inr (0, [.int o_show_box_width, x_o_show_box_height, .int o_show_box_planes, x_o_show_box_holes, x_o_show_box_reach, .ref q_o_show_box_cells, x_o_show_box_pulls, x_o_show_box_holeX, x_o_show_box_holeY, x_o_show_box_price])), (q_o_show_box_cells, .inl (cy 0, 480, .inl o_show_box_cells)), (q_o_bytes, .inl (cy 1, 800, .inl o_bytes))] (va_runV (As := [.int (-2 : Int32), .int l3]) (rest := []) ⟨hx, hb, hml, hown, hts⟩ (c_X3_fail q_o H.size (.ref q_o_show) x_o_filled (.ref q_o_bytes) (.int o_end) (.int o_at) x_o_number x_o_planesTold x_o_reachTold x_o_lengthTold x_o_priceTold o_error o_errorAt (-2 : Int32) l3 _ h30) (cwV 2 hts gX3_readLine_X3_fail rfl rfl rfl kd_X3_fail ⟨Nat.le_of_ble_eq_true rfl, Nat.le_of_ble_eq_true rfl⟩) ⟨kP_blind (EN_ok D cy) D _ _ _, va_recv hK hP (ci := 3) (q0 := 0) rfl rfl, kStart (EN_ok D cy) hE hP hD hS hA [0] rfl rfl _⟩ rfl rfl hl.1 rfl (lv_room (Nat.le_of_ble_eq_true rfl)) dX3_readLine_61 ⟨Nat.zero_le _, Nat.zero_le _⟩) hP hD hS hA [0] [1, 2, 3, 4] rfl rfl rfl 5 rfl (by decide +kernel) (fun H locs hP hD hS => ?_)
      obtain ⟨h31, hF⟩ := ck_o hF
      obtain rfl := so_o hF
      rw [hQQ]
      exact kr_z (v := r27) hx hb hr hlocks (by rcases h31 with h9 | h9 <;> rw [h9] <;> rfl) hP hD hS dX3_readLine_64
  have J10 : ∀ (n10 : Nat) (l3 : Int32) (o_at : Int32) (H : Heap) (locs : List Loc) (ls : Array Slot), va_P D vwCl [(q_o, .inr (3, [.ref q_o_show, x_o_filled, .int o_error, .int o_errorAt, .ref q_o_bytes, .int o_end, .int o_at, x_o_number, x_o_planesTold, x_o_reachTold, x_o_lengthTold, x_o_priceTold])), (q_o_show, .inr (4, [.ref q_o_show_box, x_o_show_crowd])), (q_o_show_box, .inr (0, [.int o_show_box_width, x_o_show_box_height, .int o_show_box_planes, x_o_show_box_holes, x_o_show_box_reach, .ref q_o_show_box_cells, x_o_show_box_pulls, x_o_show_box_holeX, x_o_show_box_holeY, x_o_show_box_price])), (q_o_show_box_cells, .inl (cy 0, 480, .inl o_show_box_cells)), (q_o_bytes, .inl (cy 1, 800, .inl o_bytes))] H → va_D A [(q_o, .inr (3, [.ref q_o_show, x_o_filled, .int o_error, .int o_errorAt, .ref q_o_bytes, .int o_end, .int o_at, x_o_number, x_o_planesTold, x_o_reachTold, x_o_lengthTold, x_o_priceTold])), (q_o_show, .inr (4, [.ref q_o_show_box, x_o_show_crowd])), (q_o_show_box, .inr (0, [.int o_show_box_width, x_o_show_box_height, .int o_show_box_planes, x_o_show_box_holes, x_o_show_box_reach, .ref q_o_show_box_cells, x_o_show_box_pulls, x_o_show_box_holeX, x_o_show_box_holeY, x_o_show_box_price])), (q_o_show_box_cells, .inl (cy 0, 480, .inl o_show_box_cells)), (q_o_bytes, .inl (cy 1, 800, .inl o_bytes))] → va_S A s.heap H locs → lv_has ls 6 [(0, .ref q_o), (1, .int p1), (2, .int p2), (3, .int l3)] → X3_readLine_L10 o_error o_errorAt o_end o_show_box_width o_show_box_planes o_show_box_cells o_bytes p1 p2 n10 l3 o_at = some res → W p l e ({ frames := 2, cells := 0, slots := 0, locals := 40 } : Room) s m args below meth c H locs 0 0 QQ (F0 m 10 ls []) := by
    intro n10
    induction n10 with
    | zero =>
      intro l3 o_at H locs ls hP hD hS hl hF
      rw [X3_readLine_L10] at hF
      cases hF
    | succ n10 ih10 =>
      intro l3 o_at H locs ls hP hD hS hl hF
      rw [X3_readLine_L10] at hF
      refine lv_aload_n hx hb dX3_readLine_10 rfl (lv_at hl 0 rfl) ?_
      refine va_get (D := D) (ci := 3) (v := .int o_at) (C := RX3) (T := TX3) (N := 12) hx hb hts f_inX3 hown hK hP 0 rfl rfl 6 (by decide) f_f35 (fun _ h9 => h9) rfl dX3_readLine_11 ?_
      refine lv_aload_n hx hb dX3_readLine_14 rfl (lv_at hl 0 rfl) ?_
      refine va_get (D := D) (ci := 3) (v := .int o_end) (C := RX3) (T := TX3) (N := 12) hx hb hts f_inX3 hown hK hP 0 rfl rfl 5 (by decide) f_f32 (fun _ h9 => h9) rfl dX3_readLine_15 ?_
      refine lv_icmp_ge (tgt := 49) hx hb dX3_readLine_18 (by decide) (fun c32 => ?_) (fun c32 => ?_)
      · have hF := if_p hF c32
        exact J49 l3 o_at H locs ls hP hD hS (lv_sub hl [0, 1, 2, 3] rfl) hF
      · have hF := if_n hF c32
        refine lv_aload_n hx hb dX3_readLine_21 rfl (lv_at hl 0 rfl) ?_
        refine va_get (D := D) (ci := 3) (v := .ref q_o_bytes) (C := RX3) (T := TX3) (N := 12) hx hb hts f_inX3 hown hK hP 0 rfl rfl 4 (by decide) f_f28 (fun _ h9 => h9) rfl dX3_readLine_22 ?_
        refine lv_aload_n hx hb dX3_readLine_25 rfl (lv_at hl 0 rfl) ?_
        refine va_get (D := D) (ci := 3) (v := .int o_at) (C := RX3) (T := TX3) (N := 12) hx hb hts f_inX3 hown hK hP 0 rfl rfl 6 (by decide) f_f35 (fun _ h9 => h9) rfl dX3_readLine_26 ?_
        obtain ⟨h33, hF⟩ := ld_o hF
        refine va_bald hx hb hK hP 4 1 rfl rfl h33 dX3_readLine_29 ?_
        refine lv_topi (fun v34 ev34 => ?_)
        have hF := hF v34 ev34
        obtain ⟨r35, h36, hF⟩ := bn1_o hF
        refine kd_i [(q_o, .inr (3, [.ref q_o_show, x_o_filled, .int o_error, .int o_errorAt, .ref q_o_bytes, .int o_end, .int o_at, x_o_number, x_o_planesTold, x_o_reachTold, x_o_lengthTold, x_o_priceTold])), (q_o_show, .inr (4, [.ref q_o_show_box, x_o_show_crowd])), (q_o_show_box, .inr (0, [.int o_show_box_width, x_o_show_box_height, .int o_show_box_planes, x_o_show_box_holes, x_o_show_box_reach, .ref q_o_show_box_cells, x_o_show_box_pulls, x_o_show_box_holeX, x_o_show_box_holeY, x_o_show_box_price])), (q_o_show_box_cells, .inl (cy 0, 480, .inl o_show_box_cells)), (q_o_bytes, .inl (cy 1, 800, .inl o_bytes))] (va_runS (As := [.int v34]) (rest := []) ⟨hx, hb, hml, hown, hts⟩ (c_X3_isOfLine H.size v34 _ h36) (va_cwS 1 hts gX3_readLine_X3_isOfLine rfl rfl rfl kd_X3_isOfLine ⟨Nat.le_of_ble_eq_true rfl, Nat.le_of_ble_eq_true rfl⟩) ⟨kP_blind (EN_ok D cy) D _ _ _, kStart (EN_ok D cy) hE hP hD hS hA [] rfl rfl _⟩ rfl rfl hl.1 rfl (lv_room (Nat.le_of_ble_eq_true rfl)) dX3_readLine_30 ⟨Nat.zero_le _, Nat.zero_le _⟩) hP hD hS hA [] [0, 1, 2, 3, 4] rfl rfl rfl 5 rfl (by decide +kernel) (fun H locs hP hD hS => ?_)
        refine lv_if_eq (tgt := 49) hx hb dX3_readLine_33 (by decide) (fun c37 => ?_) (fun c37 => ?_)
        · have hF := if_p hF c37
          exact J49 l3 o_at H locs ls hP hD hS (lv_sub hl [0, 1, 2, 3] rfl) hF
        · have hF := if_n hF c37
          refine lv_aload_n hx hb dX3_readLine_36 rfl (lv_at hl 0 rfl) ?_
          refine lv_dup hx hb dX3_readLine_37 rfl ?_
          refine va_get (D := D) (ci := 3) (v := .int o_at) (C := RX3) (T := TX3) (N := 12) hx hb hts f_inX3 hown hK hP 0 rfl rfl 6 (by decide) f_f35 (fun _ h9 => h9) rfl dX3_readLine_38 ?_
          refine lv_iconst (v := 1) hx hb dX3_readLine_41 (by decide) ?_
          refine lv_iadd hx hb dX3_readLine_42 ?_
          refine lv_topi (fun v38 ev38 => ?_)
          have hF := nm_o hF v38 ev38
          refine va_put (D := D) (ci := 3) (v := .int v38) (ty := .int) (C := RX3) (T := TX3) (N := 12) hx hb hts f_inX3 tyX3 tyX3_ok nmX3 hown hK hP hD hS 0 rfl rfl 6 (by decide) f_f35 (fun _ h9 => h9) rfl (by decide +kernel) rfl rfl (Nat.le_of_ble_eq_true rfl) dX3_readLine_43 (fun H locs hP hD hS => ?_)
          have hP : va_P D vwCl [(q_o, .inr (3, [.ref q_o_show, x_o_filled, .int o_error, .int o_errorAt, .ref q_o_bytes, .int o_end, .int v38, x_o_number, x_o_planesTold, x_o_reachTold, x_o_lengthTold, x_o_priceTold])), (q_o_show, .inr (4, [.ref q_o_show_box, x_o_show_crowd])), (q_o_show_box, .inr (0, [.int o_show_box_width, x_o_show_box_height, .int o_show_box_planes, x_o_show_box_holes, x_o_show_box_reach, .ref q_o_show_box_cells, x_o_show_box_pulls, x_o_show_box_holeX, x_o_show_box_holeY, x_o_show_box_price])), (q_o_show_box_cells, .inl (cy 0, 480, .inl o_show_box_cells)), (q_o_bytes, .inl (cy 1, 800, .inl o_bytes))] H := hP
          have hD : va_D A [(q_o, .inr (3, [.ref q_o_show, x_o_filled, .int o_error, .int o_errorAt, .ref q_o_bytes, .int o_end, .int v38, x_o_number, x_o_planesTold, x_o_reachTold, x_o_lengthTold, x_o_priceTold])), (q_o_show, .inr (4, [.ref q_o_show_box, x_o_show_crowd])), (q_o_show_box, .inr (0, [.int o_show_box_width, x_o_show_box_height, .int o_show_box_planes, x_o_show_box_holes, x_o_show_box_reach, .ref q_o_show_box_cells, x_o_show_box_pulls, x_o_show_box_holeX, x_o_show_box_holeY, x_o_show_box_price])), (q_o_show_box_cells, .inl (cy 0, 480, .inl o_show_box_cells)), (q_o_bytes, .inl (cy 1, 800, .inl o_bytes))] := hD
          refine lv_goto (tgt := 10) hx hb dX3_readLine_46 (by decide) ?_
          exact ih10 l3 v38 H locs ls hP hD hS (lv_sub hl [0, 1, 2, 3] rfl) hF
  have main : ∀ (H : Heap) (locs : List Loc) (ls : Array Slot), va_P D vwCl [(q_o, .inr (3, [.ref q_o_show, x_o_filled, .int o_error, .int o_errorAt, .ref q_o_bytes, .int o_end, .int o_at, x_o_number, x_o_planesTold, x_o_reachTold, x_o_lengthTold, x_o_priceTold])), (q_o_show, .inr (4, [.ref q_o_show_box, x_o_show_crowd])), (q_o_show_box, .inr (0, [.int o_show_box_width, x_o_show_box_height, .int o_show_box_planes, x_o_show_box_holes, x_o_show_box_reach, .ref q_o_show_box_cells, x_o_show_box_pulls, x_o_show_box_holeX, x_o_show_box_holeY, x_o_show_box_price])), (q_o_show_box_cells, .inl (cy 0, 480, .inl o_show_box_cells)), (q_o_bytes, .inl (cy 1, 800, .inl o_bytes))] H → va_D A [(q_o, .inr (3, [.ref q_o_show, x_o_filled, .int o_error, .int o_errorAt, .ref q_o_bytes, .int o_end, .int o_at, x_o_number, x_o_planesTold, x_o_reachTold, x_o_lengthTold, x_o_priceTold])), (q_o_show, .inr (4, [.ref q_o_show_box, x_o_show_crowd])), (q_o_show_box, .inr (0, [.int o_show_box_width, x_o_show_box_height, .int o_show_box_planes, x_o_show_box_holes, x_o_show_box_reach, .ref q_o_show_box_cells, x_o_show_box_pulls, x_o_show_box_holeX, x_o_show_box_holeY, x_o_show_box_price])), (q_o_show_box_cells, .inl (cy 0, 480, .inl o_show_box_cells)), (q_o_bytes, .inl (cy 1, 800, .inl o_bytes))] → va_S A s.heap H locs → lv_has ls 6 [(0, .ref q_o), (1, .int p1), (2, .int p2)] → W p l e ({ frames := 2, cells := 0, slots := 0, locals := 40 } : Room) s m args below meth c H locs 0 0 QQ (F0 m 0 ls []) := by
    intro H locs ls hP hD hS hl
    unfold X3_readLine at hF
    refine lv_aload_n hx hb dX3_readLine_0 rfl (lv_at hl 0 rfl) ?_
    obtain ⟨r39, o40, h41, hF⟩ := bn2_o hF
    refine kd_i [(q_o, .inr (3, [.ref q_o_show, x_o_filled, .int o_error, .int o_errorAt, .ref q_o_bytes, .int o_end, .int o40, x_o_number, x_o_planesTold, x_o_reachTold, x_o_lengthTold, x_o_priceTold])), (q_o_show, .inr (4, [.ref q_o_show_box, x_o_show_crowd])), (q_o_show_box, .inr (0, [.int o_show_box_width, x_o_show_box_height, .int o_show_box_planes, x_o_show_box_holes, x_o_show_box_reach, .ref q_o_show_box_cells, x_o_show_box_pulls, x_o_show_box_holeX, x_o_show_box_holeY, x_o_show_box_price])), (q_o_show_box_cells, .inl (cy 0, 480, .inl o_show_box_cells)), (q_o_bytes, .inl (cy 1, 800, .inl o_bytes))] (va_runV (As := []) (rest := []) ⟨hx, hb, hml, hown, hts⟩ (c_X3_peek q_o q_o_bytes H.size (.ref q_o_show) x_o_filled (.int o_error) (.int o_errorAt) x_o_number x_o_planesTold x_o_reachTold x_o_lengthTold x_o_priceTold o_end o_at o_bytes _ h41) (cwV 0 hts gX3_readLine_X3_peek rfl rfl rfl kd_X3_peek ⟨Nat.le_of_ble_eq_true rfl, Nat.le_of_ble_eq_true rfl⟩) ⟨kP_blind (EN_ok D cy) D _ _ _, va_recv hK hP (ci := 3) (q0 := 0) rfl rfl, kStart (EN_ok D cy) hE hP hD hS hA [0, 4] rfl rfl _⟩ rfl rfl hl.1 rfl (lv_room (Nat.le_of_ble_eq_true rfl)) dX3_readLine_1 ⟨Nat.zero_le _, Nat.zero_le _⟩) hP hD hS hA [0, 4] [1, 2, 3] rfl rfl rfl 5 rfl (by decide +kernel) (fun H locs hP hD hS => ?_)
    refine lv_pop hx hb dX3_readLine_4 rfl ?_
    refine lv_aload_n hx hb dX3_readLine_5 rfl (lv_at hl 0 rfl) ?_
    refine va_get (D := D) (ci := 3) (v := .int o40) (C := RX3) (T := TX3) (N := 12) hx hb hts f_inX3 hown hK hP 0 rfl rfl 6 (by decide) f_f35 (fun _ h9 => h9) rfl dX3_readLine_6 ?_
    refine lv_istore_n (lv' := [(3, .int o40), (0, .ref q_o), (1, .int p1), (2, .int p2)]) hx hb dX3_readLine_9 rfl hl (by decide) rfl (fun ls hl => ?_)
    exact J10 FU o40 o40 H locs ls hP hD hS (lv_sub hl [1, 2, 3, 0] rfl) hF
  exact main s.heap [] ls hP hD hS hl
theorem kd_X3_readPlane : yX3_readPlane.cls = RX3 ∧ yX3_readPlane.cls ≠ "java/lang/invoke/MethodHandle" ∧ yX3_readPlane.cls ≠ "java/lang/invoke/VarHandle" ∧ (parseMethodDescriptor yX3_readPlane.desc).map (fun d => d.parameters.length) = some 1 := by decide +kernel
set_option maxHeartbeats 4000000 in
set_option maxRecDepth 100000 in
theorem c_X3_readPlane {l : Launch} {D : va_G} {cy : Nat → ClassId} (q_o q_o_show q_o_show_box q_o_show_box_cells q_o_bytes : Nat) (sz : Nat) (x_o_filled x_o_number x_o_reachTold x_o_lengthTold x_o_priceTold x_o_show_crowd x_o_show_box_holes x_o_show_box_reach x_o_show_box_pulls x_o_show_box_holeX x_o_show_box_holeY x_o_show_box_price : Value) (o_error : Int32) (o_errorAt : Int32) (o_end : Int32) (o_at : Int32) (o_planesTold : Int32) (o_show_box_width : Int32) (o_show_box_height : Int32) (o_show_box_planes : Int32) (o_show_box_cells : Nat → Int32) (o_bytes : Nat → Int32) (p1 : Int32) (res : Int32 × Int32 × Int32 × Int32 × Int32 × (Nat → Int32)) (hF : X3_readPlane o_error o_errorAt o_end o_at o_planesTold o_show_box_width o_show_box_height o_show_box_planes o_show_box_cells o_bytes p1 = some res) : Met l yX3_readPlane wsX3_readPlane ({ frames := 3, cells := 0, slots := 0, locals := 65 } : Room) (kP (EN D cy) D [.ref q_o, .int p1] [(q_o, .inr (3, [.ref q_o_show, x_o_filled, .int o_error, .int o_errorAt, .ref q_o_bytes, .int o_end, .int o_at, x_o_number, .int o_planesTold, x_o_reachTold, x_o_lengthTold, x_o_priceTold])), (q_o_show, .inr (4, [.ref q_o_show_box, x_o_show_crowd])), (q_o_show_box, .inr (0, [.int o_show_box_width, .int o_show_box_height, .int o_show_box_planes, x_o_show_box_holes, x_o_show_box_reach, .ref q_o_show_box_cells, x_o_show_box_pulls, x_o_show_box_holeX, x_o_show_box_holeY, x_o_show_box_price])), (q_o_show_box_cells, .inl (cy 0, 480, .inl o_show_box_cells)), (q_o_bytes, .inl (cy 1, 800, .inl o_bytes))] sz) (kQi D res.1 [(q_o, .inr (3, [.ref q_o_show, x_o_filled, .int res.2.1, .int res.2.2.1, .ref q_o_bytes, .int o_end, .int res.2.2.2.1, x_o_number, .int res.2.2.2.2.1, x_o_reachTold, x_o_lengthTold, x_o_priceTold])), (q_o_show, .inr (4, [.ref q_o_show_box, x_o_show_crowd])), (q_o_show_box, .inr (0, [.int o_show_box_width, .int o_show_box_height, .int o_show_box_planes, x_o_show_box_holes, x_o_show_box_reach, .ref q_o_show_box_cells, x_o_show_box_pulls, x_o_show_box_holeX, x_o_show_box_holeY, x_o_show_box_price])), (q_o_show_box_cells, .inl (cy 0, 480, .inl res.2.2.2.2.2)), (q_o_bytes, .inl (cy 1, 800, .inl o_bytes))] (va_A [(q_o, .inr (3, [.ref q_o_show, x_o_filled, .int o_error, .int o_errorAt, .ref q_o_bytes, .int o_end, .int o_at, x_o_number, .int o_planesTold, x_o_reachTold, x_o_lengthTold, x_o_priceTold])), (q_o_show, .inr (4, [.ref q_o_show_box, x_o_show_crowd])), (q_o_show_box, .inr (0, [.int o_show_box_width, .int o_show_box_height, .int o_show_box_planes, x_o_show_box_holes, x_o_show_box_reach, .ref q_o_show_box_cells, x_o_show_box_pulls, x_o_show_box_holeX, x_o_show_box_holeY, x_o_show_box_price])), (q_o_show_box_cells, .inl (cy 0, 480, .inl o_show_box_cells)), (q_o_bytes, .inl (cy 1, 800, .inl o_bytes))] sz)) 0 0 (va_A [(q_o, .inr (3, [.ref q_o_show, x_o_filled, .int o_error, .int o_errorAt, .ref q_o_bytes, .int o_end, .int o_at, x_o_number, .int o_planesTold, x_o_reachTold, x_o_lengthTold, x_o_priceTold])), (q_o_show, .inr (4, [.ref q_o_show_box, x_o_show_crowd])), (q_o_show_box, .inr (0, [.int o_show_box_width, .int o_show_box_height, .int o_show_box_planes, x_o_show_box_holes, x_o_show_box_reach, .ref q_o_show_box_cells, x_o_show_box_pulls, x_o_show_box_holeX, x_o_show_box_holeY, x_o_show_box_price])), (q_o_show_box_cells, .inl (cy 0, 480, .inl o_show_box_cells)), (q_o_bytes, .inl (cy 1, 800, .inl o_bytes))] sz) := by
  refine kMet (y := yX3_readPlane) (av := [.ref q_o, .int p1]) (cc := cX3_readPlane) (maxL := 3) (ret := some .boolean) (own := RX3) (Qc := fun A9 => (kQi D res.1 [(q_o, .inr (3, [.ref q_o_show, x_o_filled, .int res.2.1, .int res.2.2.1, .ref q_o_bytes, .int o_end, .int res.2.2.2.1, x_o_number, .int res.2.2.2.2.1, x_o_reachTold, x_o_lengthTold, x_o_priceTold])), (q_o_show, .inr (4, [.ref q_o_show_box, x_o_show_crowd])), (q_o_show_box, .inr (0, [.int o_show_box_width, .int o_show_box_height, .int o_show_box_planes, x_o_show_box_holes, x_o_show_box_reach, .ref q_o_show_box_cells, x_o_show_box_pulls, x_o_show_box_holeX, x_o_show_box_holeY, x_o_show_box_price])), (q_o_show_box_cells, .inl (cy 0, 480, .inl res.2.2.2.2.2)), (q_o_bytes, .inl (cy 1, 800, .inl o_bytes))] A9)) (by decide) rfl rfl (Nat.le_of_ble_eq_true rfl) ?_
  intro p e s m args below meth c A hx hb hr hts hown hml hlocks hname hE hP hD hA hsz ls hl
  have hK := hE.1
  have hl : lv_has ls 3 [(0, .ref q_o), (1, .int p1)] := hl
  have hS : va_S A s.heap s.heap [] := va_S.rf
  have f_f12 := hts (.fieldLink RX3 12 "PeepBox$Setup" "show" "LPeepBox$Show;") (by decide +kernel)
  have f_inX3 : ∀ w ∈ wsX30, w ∈ wsX3_readPlane := by decide +kernel
  have f_f73 := hts (.fieldLink RX3 73 "PeepBox$Show" "box" "LPeepBox$Box;") (by decide +kernel)
  have f_inX4 : ∀ w ∈ wsX40, w ∈ wsX3_readPlane := by decide +kernel
  have f_f140 := hts (.fieldLink RX3 140 "PeepBox$Box" "height" "I") (by decide +kernel)
  have f_inX0 : ∀ w ∈ wsX00, w ∈ wsX3_readPlane := by decide +kernel
  have f_f41 := hts (.fieldLink RX3 41 "PeepBox$Setup" "planesTold" "I") (by decide +kernel)
  have f_f137 := hts (.fieldLink RX3 137 "PeepBox$Box" "planes" "I") (by decide +kernel)
  obtain ⟨QQ, hQQ⟩ : ∃ Q9, Q9 = MQ below (kQi D res.1 [(q_o, .inr (3, [.ref q_o_show, x_o_filled, .int res.2.1, .int res.2.2.1, .ref q_o_bytes, .int o_end, .int res.2.2.2.1, x_o_number, .int res.2.2.2.2.1, x_o_reachTold, x_o_lengthTold, x_o_priceTold])), (q_o_show, .inr (4, [.ref q_o_show_box, x_o_show_crowd])), (q_o_show_box, .inr (0, [.int o_show_box_width, .int o_show_box_height, .int o_show_box_planes, x_o_show_box_holes, x_o_show_box_reach, .ref q_o_show_box_cells, x_o_show_box_pulls, x_o_show_box_holeX, x_o_show_box_holeY, x_o_show_box_price])), (q_o_show_box_cells, .inl (cy 0, 480, .inl res.2.2.2.2.2)), (q_o_bytes, .inl (cy 1, 800, .inl o_bytes))] A) args s 0 0 A := ⟨_, rfl⟩
  rw [← hQQ]
  have J27 : ∀ (n27 : Nat) (l2 : Int32) (o_error : Int32) (o_errorAt : Int32) (o_at : Int32) (o_show_box_cells : Nat → Int32) (H : Heap) (locs : List Loc) (ls : Array Slot), va_P D vwCl [(q_o, .inr (3, [.ref q_o_show, x_o_filled, .int o_error, .int o_errorAt, .ref q_o_bytes, .int o_end, .int o_at, x_o_number, .int o_planesTold, x_o_reachTold, x_o_lengthTold, x_o_priceTold])), (q_o_show, .inr (4, [.ref q_o_show_box, x_o_show_crowd])), (q_o_show_box, .inr (0, [.int o_show_box_width, .int o_show_box_height, .int o_show_box_planes, x_o_show_box_holes, x_o_show_box_reach, .ref q_o_show_box_cells, x_o_show_box_pulls, x_o_show_box_holeX, x_o_show_box_holeY, x_o_show_box_price])), (q_o_show_box_cells, .inl (cy 0, 480, .inl o_show_box_cells)), (q_o_bytes, .inl (cy 1, 800, .inl o_bytes))] H → va_D A [(q_o, .inr (3, [.ref q_o_show, x_o_filled, .int o_error, .int o_errorAt, .ref q_o_bytes, .int o_end, .int o_at, x_o_number, .int o_planesTold, x_o_reachTold, x_o_lengthTold, x_o_priceTold])), (q_o_show, .inr (4, [.ref q_o_show_box, x_o_show_crowd])), (q_o_show_box, .inr (0, [.int o_show_box_width, .int o_show_box_height, .int o_show_box_planes, x_o_show_box_holes, x_o_show_box_reach, .ref q_o_show_box_cells, x_o_show_box_pulls, x_o_show_box_holeX, x_o_show_box_holeY, x_o_show_box_price])), (q_o_show_box_cells, .inl (cy 0, 480, .inl o_show_box_cells)), (q_o_bytes, .inl (cy 1, 800, .inl o_bytes))] → va_S A s.heap H locs → lv_has ls 3 [(0, .ref q_o), (2, .int l2)] → X3_readPlane_L27 o_end o_planesTold o_show_box_width o_show_box_height o_show_box_planes o_bytes p1 n27 l2 o_error o_errorAt o_at o_show_box_cells = some res → W p l e ({ frames := 3, cells := 0, slots := 0, locals := 65 } : Room) s m args below meth c H locs 0 0 QQ (F0 m 27 ls []) := by
    intro n27
    induction n27 with
    | zero =>
      intro l2 o_error o_errorAt o_at o_show_box_cells H locs ls hP hD hS hl hF
      rw [X3_readPlane_L27] at hF
      cases hF
    | succ n27 ih27 =>
      intro l2 o_error o_errorAt o_at o_show_box_cells H locs ls hP hD hS hl hF
      rw [X3_readPlane_L27] at hF
      refine lv_iload_n hx hb dX3_readPlane_27 rfl (lv_at hl 1 rfl) ?_
      refine lv_aload_n hx hb dX3_readPlane_28 rfl (lv_at hl 0 rfl) ?_
      refine va_get (D := D) (ci := 3) (v := .ref q_o_show) (C := RX3) (T := TX3) (N := 12) hx hb hts f_inX3 hown hK hP 0 rfl rfl 0 (by decide) f_f12 (fun _ h9 => h9) rfl dX3_readPlane_29 ?_
      refine va_get (D := D) (ci := 4) (v := .ref q_o_show_box) (C := RX4) (T := TX4) (N := 2) hx hb hts f_inX4 hown hK hP 1 rfl rfl 0 (by decide) f_f73 (fun _ h9 => h9) rfl dX3_readPlane_32 ?_
      refine va_get (D := D) (ci := 0) (v := .int o_show_box_height) (C := RX0) (T := TX0) (N := 10) hx hb hts f_inX0 hown hK hP 2 rfl rfl 1 (by decide) f_f140 (fun _ h9 => h9) rfl dX3_readPlane_35 ?_
      refine lv_icmp_ge (tgt := 61) hx hb dX3_readPlane_38 (by decide) (fun c1 => ?_) (fun c1 => ?_)
      · have hF := if_p hF c1
        refine lv_aload_n hx hb dX3_readPlane_61 rfl (lv_at hl 0 rfl) ?_
        refine lv_dup hx hb dX3_readPlane_62 rfl ?_
        refine va_get (D := D) (ci := 3) (v := .int o_planesTold) (C := RX3) (T := TX3) (N := 12) hx hb hts f_inX3 hown hK hP 0 rfl rfl 8 (by decide) f_f41 (fun _ h9 => h9) rfl dX3_readPlane_63 ?_
        refine lv_iconst (v := 1) hx hb dX3_readPlane_66 (by decide) ?_
        refine lv_iadd hx hb dX3_readPlane_67 ?_
        refine lv_topi (fun v2 ev2 => ?_)
        have hF := nm_o hF v2 ev2
        refine va_put (D := D) (ci := 3) (v := .int v2) (ty := .int) (C := RX3) (T := TX3) (N := 12) hx hb hts f_inX3 tyX3 tyX3_ok nmX3 hown hK hP hD hS 0 rfl rfl 8 (by decide) f_f41 (fun _ h9 => h9) rfl (by decide +kernel) rfl rfl (Nat.le_of_ble_eq_true rfl) dX3_readPlane_68 (fun H locs hP hD hS => ?_)
        have hP : va_P D vwCl [(q_o, .inr (3, [.ref q_o_show, x_o_filled, .int o_error, .int o_errorAt, .ref q_o_bytes, .int o_end, .int o_at, x_o_number, .int v2, x_o_reachTold, x_o_lengthTold, x_o_priceTold])), (q_o_show, .inr (4, [.ref q_o_show_box, x_o_show_crowd])), (q_o_show_box, .inr (0, [.int o_show_box_width, .int o_show_box_height, .int o_show_box_planes, x_o_show_box_holes, x_o_show_box_reach, .ref q_o_show_box_cells, x_o_show_box_pulls, x_o_show_box_holeX, x_o_show_box_holeY, x_o_show_box_price])), (q_o_show_box_cells, .inl (cy 0, 480, .inl o_show_box_cells)), (q_o_bytes, .inl (cy 1, 800, .inl o_bytes))] H := hP
        have hD : va_D A [(q_o, .inr (3, [.ref q_o_show, x_o_filled, .int o_error, .int o_errorAt, .ref q_o_bytes, .int o_end, .int o_at, x_o_number, .int v2, x_o_reachTold, x_o_lengthTold, x_o_priceTold])), (q_o_show, .inr (4, [.ref q_o_show_box, x_o_show_crowd])), (q_o_show_box, .inr (0, [.int o_show_box_width, .int o_show_box_height, .int o_show_box_planes, x_o_show_box_holes, x_o_show_box_reach, .ref q_o_show_box_cells, x_o_show_box_pulls, x_o_show_box_holeX, x_o_show_box_holeY, x_o_show_box_price])), (q_o_show_box_cells, .inl (cy 0, 480, .inl o_show_box_cells)), (q_o_bytes, .inl (cy 1, 800, .inl o_bytes))] := hD
        refine lv_iconst (v := 1) hx hb dX3_readPlane_71 (by decide) ?_
        obtain rfl := so_o hF
        rw [hQQ]
        exact kr_z (v := (1 : Int32)) hx hb hr hlocks rfl hP hD hS dX3_readPlane_72
      · have hF := if_n hF c1
        refine lv_aload_n hx hb dX3_readPlane_41 rfl (lv_at hl 0 rfl) ?_
        refine lv_aload_n hx hb dX3_readPlane_42 rfl (lv_at hl 0 rfl) ?_
        refine va_get (D := D) (ci := 3) (v := .int o_planesTold) (C := RX3) (T := TX3) (N := 12) hx hb hts f_inX3 hown hK hP 0 rfl rfl 8 (by decide) f_f41 (fun _ h9 => h9) rfl dX3_readPlane_43 ?_
        refine lv_iload_n hx hb dX3_readPlane_46 rfl (lv_at hl 1 rfl) ?_
        obtain ⟨r3, o4, o5, o6, o7, h8, hF⟩ := bn5_o hF
        refine kd_i [(q_o, .inr (3, [.ref q_o_show, x_o_filled, .int o4, .int o5, .ref q_o_bytes, .int o_end, .int o6, x_o_number, .int o_planesTold, x_o_reachTold, x_o_lengthTold, x_o_priceTold])), (q_o_show, .inr (4, [.ref q_o_show_box, x_o_show_crowd])), (q_o_show_box, .inr (0, [.int o_show_box_width, .int o_show_box_height, .int o_show_box_planes, x_o_show_box_holes, x_o_show_box_reach, .ref q_o_show_box_cells, x_o_show_box_pulls, x_o_show_box_holeX, x_o_show_box_holeY, x_o_show_box_price])), (q_o_show_box_cells, .inl (cy 0, 480, .inl o7)), (q_o_bytes, .inl (cy 1, 800, .inl o_bytes))] (va_runV (As := [.int o_planesTold, .int l2]) (rest := []) ⟨hx, hb, hml, hown, hts⟩ (c_X3_readLine q_o q_o_show q_o_show_box q_o_show_box_cells q_o_bytes H.size x_o_filled x_o_number (.int o_planesTold) x_o_reachTold x_o_lengthTold x_o_priceTold x_o_show_crowd (.int o_show_box_height) x_o_show_box_holes x_o_show_box_reach x_o_show_box_pulls x_o_show_box_holeX x_o_show_box_holeY x_o_show_box_price o_error o_errorAt o_end o_at o_show_box_width o_show_box_planes o_show_box_cells o_bytes o_planesTold l2 _ h8) (cwV 2 hts gX3_readPlane_X3_readLine rfl rfl rfl kd_X3_readLine ⟨Nat.le_of_ble_eq_true rfl, Nat.le_of_ble_eq_true rfl⟩) ⟨kP_blind (EN_ok D cy) D _ _ _, va_recv hK hP (ci := 3) (q0 := 0) rfl rfl, kStart (EN_ok D cy) hE hP hD hS hA [0, 1, 2, 3, 4] rfl rfl _⟩ rfl rfl hl.1 rfl (lv_room (Nat.le_of_ble_eq_true rfl)) dX3_readPlane_47 ⟨Nat.zero_le _, Nat.zero_le _⟩) hP hD hS hA [0, 1, 2, 3, 4] [] rfl rfl rfl 5 rfl (by decide +kernel) (fun H locs hP hD hS => ?_)
        refine lv_if_ne (tgt := 55) hx hb dX3_readPlane_50 (by decide) (fun c9 => ?_) (fun c9 => ?_)
        · have hF := if_n hF c9
          obtain ⟨v10, ev10⟩ : ∃ y : Int32, y = l2 + (1 : Int32) := ⟨_, rfl⟩
          have hF := nm_o hF v10 ev10
          refine lv_iinc (v := v10) (lv' := [(2, .int v10), (0, .ref q_o)]) hx hb dX3_readPlane_55 hl (k := 1) rfl (by rw [ev10]; rfl) (by decide) rfl (fun ls hl => ?_)
          refine lv_goto (tgt := 27) hx hb dX3_readPlane_58 (by decide) ?_
          exact ih27 v10 o4 o5 o6 o7 H locs ls hP hD hS (lv_sub hl [1, 0] rfl) hF
        · have hF := if_p hF c9
          refine lv_iconst (v := 0) hx hb dX3_readPlane_53 (by decide) ?_
          obtain rfl := so_o hF
          rw [hQQ]
          exact kr_z (v := (0 : Int32)) hx hb hr hlocks rfl hP hD hS dX3_readPlane_54
  have main : ∀ (H : Heap) (locs : List Loc) (ls : Array Slot), va_P D vwCl [(q_o, .inr (3, [.ref q_o_show, x_o_filled, .int o_error, .int o_errorAt, .ref q_o_bytes, .int o_end, .int o_at, x_o_number, .int o_planesTold, x_o_reachTold, x_o_lengthTold, x_o_priceTold])), (q_o_show, .inr (4, [.ref q_o_show_box, x_o_show_crowd])), (q_o_show_box, .inr (0, [.int o_show_box_width, .int o_show_box_height, .int o_show_box_planes, x_o_show_box_holes, x_o_show_box_reach, .ref q_o_show_box_cells, x_o_show_box_pulls, x_o_show_box_holeX, x_o_show_box_holeY, x_o_show_box_price])), (q_o_show_box_cells, .inl (cy 0, 480, .inl o_show_box_cells)), (q_o_bytes, .inl (cy 1, 800, .inl o_bytes))] H → va_D A [(q_o, .inr (3, [.ref q_o_show, x_o_filled, .int o_error, .int o_errorAt, .ref q_o_bytes, .int o_end, .int o_at, x_o_number, .int o_planesTold, x_o_reachTold, x_o_lengthTold, x_o_priceTold])), (q_o_show, .inr (4, [.ref q_o_show_box, x_o_show_crowd])), (q_o_show_box, .inr (0, [.int o_show_box_width, .int o_show_box_height, .int o_show_box_planes, x_o_show_box_holes, x_o_show_box_reach, .ref q_o_show_box_cells, x_o_show_box_pulls, x_o_show_box_holeX, x_o_show_box_holeY, x_o_show_box_price])), (q_o_show_box_cells, .inl (cy 0, 480, .inl o_show_box_cells)), (q_o_bytes, .inl (cy 1, 800, .inl o_bytes))] → va_S A s.heap H locs → lv_has ls 3 [(0, .ref q_o), (1, .int p1)] → W p l e ({ frames := 3, cells := 0, slots := 0, locals := 65 } : Room) s m args below meth c H locs 0 0 QQ (F0 m 0 ls []) := by
    intro H locs ls hP hD hS hl
    unfold X3_readPlane at hF
    refine lv_aload_n hx hb dX3_readPlane_0 rfl (lv_at hl 0 rfl) ?_
    refine va_get (D := D) (ci := 3) (v := .int o_planesTold) (C := RX3) (T := TX3) (N := 12) hx hb hts f_inX3 hown hK hP 0 rfl rfl 8 (by decide) f_f41 (fun _ h9 => h9) rfl dX3_readPlane_1 ?_
    refine lv_aload_n hx hb dX3_readPlane_4 rfl (lv_at hl 0 rfl) ?_
    refine va_get (D := D) (ci := 3) (v := .ref q_o_show) (C := RX3) (T := TX3) (N := 12) hx hb hts f_inX3 hown hK hP 0 rfl rfl 0 (by decide) f_f12 (fun _ h9 => h9) rfl dX3_readPlane_5 ?_
    refine va_get (D := D) (ci := 4) (v := .ref q_o_show_box) (C := RX4) (T := TX4) (N := 2) hx hb hts f_inX4 hown hK hP 1 rfl rfl 0 (by decide) f_f73 (fun _ h9 => h9) rfl dX3_readPlane_8 ?_
    refine va_get (D := D) (ci := 0) (v := .int o_show_box_planes) (C := RX0) (T := TX0) (N := 10) hx hb hts f_inX0 hown hK hP 2 rfl rfl 2 (by decide) f_f137 (fun _ h9 => h9) rfl dX3_readPlane_11 ?_
    refine lv_icmp_lt (tgt := 25) hx hb dX3_readPlane_14 (by decide) (fun c11 => ?_) (fun c11 => ?_)
    · have hF := if_p hF c11
      refine lv_iconst (v := 0) hx hb dX3_readPlane_25 (by decide) ?_
      refine lv_istore_n (lv' := [(2, .int (0 : Int32)), (0, .ref q_o), (1, .int p1)]) hx hb dX3_readPlane_26 rfl hl (by decide) rfl (fun ls hl => ?_)
      exact J27 FU (0 : Int32) o_error o_errorAt o_at o_show_box_cells H locs ls hP hD hS (lv_sub hl [1, 0] rfl) hF
    · have hF := if_n hF c11
      refine lv_aload_n hx hb dX3_readPlane_17 rfl (lv_at hl 0 rfl) ?_
      refine lv_bipush (v := -5) hx hb dX3_readPlane_18 (by decide) ?_
      refine lv_iload_n hx hb dX3_readPlane_20 rfl (lv_at hl 1 rfl) ?_
      obtain ⟨r12, o13, o14, h15, hF⟩ := bn3_o hF
      refine kd_i [(q_o, .inr (3, [.ref q_o_show, x_o_filled, .int o13, .int o14, .ref q_o_bytes, .int o_end, .int o_at, x_o_number, .int o_planesTold, x_o_reachTold, x_o_lengthTold, x_o_priceTold])), (q_o_show, .inr (4, [.ref q_o_show_box, x_o_show_crowd])), (q_o_show_box, .inr (0, [.int o_show_box_width, .int o_show_box_height, .int o_show_box_planes, x_o_show_box_holes, x_o_show_box_reach, .ref q_o_show_box_cells, x_o_show_box_pulls, x_o_show_box_holeX, x_o_show_box_holeY, x_o_show_box_price])), (q_o_show_box_cells, .inl (cy 0, 480, .inl o_show_box_cells)), (q_o_bytes, .inl (cy 1, 800, .inl o_bytes))] (va_runV (As := [.int (-5 : Int32), .int p1]) (rest := []) ⟨hx, hb, hml, hown, hts⟩ (c_X3_fail q_o H.size (.ref q_o_show) x_o_filled (.ref q_o_bytes) (.int o_end) (.int o_at) x_o_number (.int o_planesTold) x_o_reachTold x_o_lengthTold x_o_priceTold o_error o_errorAt (-5 : Int32) p1 _ h15) (cwV 2 hts gX3_readPlane_X3_fail rfl rfl rfl kd_X3_fail ⟨Nat.le_of_ble_eq_true rfl, Nat.le_of_ble_eq_true rfl⟩) ⟨kP_blind (EN_ok D cy) D _ _ _, va_recv hK hP (ci := 3) (q0 := 0) rfl rfl, kStart (EN_ok D cy) hE hP hD hS hA [0] rfl rfl _⟩ rfl rfl hl.1 rfl (lv_room (Nat.le_of_ble_eq_true rfl)) dX3_readPlane_21 ⟨Nat.zero_le _, Nat.zero_le _⟩) hP hD hS hA [0] [1, 2, 3, 4] rfl rfl rfl 5 rfl (by decide +kernel) (fun H locs hP hD hS => ?_)
      obtain ⟨h16, hF⟩ := ck_o hF
      obtain rfl := so_o hF
      rw [hQQ]
      exact kr_z (v := r12) hx hb hr hlocks (by rcases h16 with h9 | h9 <;> rw [h9] <;> rfl) hP hD hS dX3_readPlane_24
  exact main s.heap [] ls hP hD hS hl
theorem kd_X3_readHole : yX3_readHole.cls = RX3 ∧ yX3_readHole.cls ≠ "java/lang/invoke/MethodHandle" ∧ yX3_readHole.cls ≠ "java/lang/invoke/VarHandle" ∧ (parseMethodDescriptor yX3_readHole.desc).map (fun d => d.parameters.length) = some 1 := by decide +kernel
set_option maxHeartbeats 4000000 in
set_option maxRecDepth 100000 in
theorem c_X3_readHole {l : Launch} {D : va_G} {cy : Nat → ClassId} (q_o q_o_show q_o_show_box q_o_show_box_holeX q_o_show_box_holeY q_o_bytes : Nat) (sz : Nat) (x_o_filled x_o_planesTold x_o_reachTold x_o_lengthTold x_o_priceTold x_o_show_crowd x_o_show_box_planes x_o_show_box_reach x_o_show_box_cells x_o_show_box_pulls x_o_show_box_price : Value) (o_error : Int32) (o_errorAt : Int32) (o_end : Int32) (o_at : Int32) (o_number : Int32) (o_show_box_width : Int32) (o_show_box_height : Int32) (o_show_box_holes : Int32) (o_show_box_holeX : Nat → Int32) (o_show_box_holeY : Nat → Int32) (o_bytes : Nat → Int32) (p1 : Int32) (res : Int32 × Int32 × Int32 × Int32 × Int32 × Int32 × (Nat → Int32) × (Nat → Int32)) (hF : X3_readHole o_error o_errorAt o_end o_at o_number o_show_box_width o_show_box_height o_show_box_holes o_show_box_holeX o_show_box_holeY o_bytes p1 = some res) : Met l yX3_readHole wsX3_readHole ({ frames := 2, cells := 0, slots := 0, locals := 53 } : Room) (kP (EN D cy) D [.ref q_o, .int p1] [(q_o, .inr (3, [.ref q_o_show, x_o_filled, .int o_error, .int o_errorAt, .ref q_o_bytes, .int o_end, .int o_at, .int o_number, x_o_planesTold, x_o_reachTold, x_o_lengthTold, x_o_priceTold])), (q_o_show, .inr (4, [.ref q_o_show_box, x_o_show_crowd])), (q_o_show_box, .inr (0, [.int o_show_box_width, .int o_show_box_height, x_o_show_box_planes, .int o_show_box_holes, x_o_show_box_reach, x_o_show_box_cells, x_o_show_box_pulls, .ref q_o_show_box_holeX, .ref q_o_show_box_holeY, x_o_show_box_price])), (q_o_show_box_holeX, .inl (cy 0, 4, .inl o_show_box_holeX)), (q_o_show_box_holeY, .inl (cy 0, 4, .inl o_show_box_holeY)), (q_o_bytes, .inl (cy 1, 800, .inl o_bytes))] sz) (kQi D res.1 [(q_o, .inr (3, [.ref q_o_show, x_o_filled, .int res.2.1, .int res.2.2.1, .ref q_o_bytes, .int o_end, .int res.2.2.2.1, .int res.2.2.2.2.1, x_o_planesTold, x_o_reachTold, x_o_lengthTold, x_o_priceTold])), (q_o_show, .inr (4, [.ref q_o_show_box, x_o_show_crowd])), (q_o_show_box, .inr (0, [.int o_show_box_width, .int o_show_box_height, x_o_show_box_planes, .int res.2.2.2.2.2.1, x_o_show_box_reach, x_o_show_box_cells, x_o_show_box_pulls, .ref q_o_show_box_holeX, .ref q_o_show_box_holeY, x_o_show_box_price])), (q_o_show_box_holeX, .inl (cy 0, 4, .inl res.2.2.2.2.2.2.1)), (q_o_show_box_holeY, .inl (cy 0, 4, .inl res.2.2.2.2.2.2.2)), (q_o_bytes, .inl (cy 1, 800, .inl o_bytes))] (va_A [(q_o, .inr (3, [.ref q_o_show, x_o_filled, .int o_error, .int o_errorAt, .ref q_o_bytes, .int o_end, .int o_at, .int o_number, x_o_planesTold, x_o_reachTold, x_o_lengthTold, x_o_priceTold])), (q_o_show, .inr (4, [.ref q_o_show_box, x_o_show_crowd])), (q_o_show_box, .inr (0, [.int o_show_box_width, .int o_show_box_height, x_o_show_box_planes, .int o_show_box_holes, x_o_show_box_reach, x_o_show_box_cells, x_o_show_box_pulls, .ref q_o_show_box_holeX, .ref q_o_show_box_holeY, x_o_show_box_price])), (q_o_show_box_holeX, .inl (cy 0, 4, .inl o_show_box_holeX)), (q_o_show_box_holeY, .inl (cy 0, 4, .inl o_show_box_holeY)), (q_o_bytes, .inl (cy 1, 800, .inl o_bytes))] sz)) 0 0 (va_A [(q_o, .inr (3, [.ref q_o_show, x_o_filled, .int o_error, .int o_errorAt, .ref q_o_bytes, .int o_end, .int o_at, .int o_number, x_o_planesTold, x_o_reachTold, x_o_lengthTold, x_o_priceTold])), (q_o_show, .inr (4, [.ref q_o_show_box, x_o_show_crowd])), (q_o_show_box, .inr (0, [.int o_show_box_width, .int o_show_box_height, x_o_show_box_planes, .int o_show_box_holes, x_o_show_box_reach, x_o_show_box_cells, x_o_show_box_pulls, .ref q_o_show_box_holeX, .ref q_o_show_box_holeY, x_o_show_box_price])), (q_o_show_box_holeX, .inl (cy 0, 4, .inl o_show_box_holeX)), (q_o_show_box_holeY, .inl (cy 0, 4, .inl o_show_box_holeY)), (q_o_bytes, .inl (cy 1, 800, .inl o_bytes))] sz) := by
  refine kMet (y := yX3_readHole) (av := [.ref q_o, .int p1]) (cc := cX3_readHole) (maxL := 3) (ret := some .boolean) (own := RX3) (Qc := fun A9 => (kQi D res.1 [(q_o, .inr (3, [.ref q_o_show, x_o_filled, .int res.2.1, .int res.2.2.1, .ref q_o_bytes, .int o_end, .int res.2.2.2.1, .int res.2.2.2.2.1, x_o_planesTold, x_o_reachTold, x_o_lengthTold, x_o_priceTold])), (q_o_show, .inr (4, [.ref q_o_show_box, x_o_show_crowd])), (q_o_show_box, .inr (0, [.int o_show_box_width, .int o_show_box_height, x_o_show_box_planes, .int res.2.2.2.2.2.1, x_o_show_box_reach, x_o_show_box_cells, x_o_show_box_pulls, .ref q_o_show_box_holeX, .ref q_o_show_box_holeY, x_o_show_box_price])), (q_o_show_box_holeX, .inl (cy 0, 4, .inl res.2.2.2.2.2.2.1)), (q_o_show_box_holeY, .inl (cy 0, 4, .inl res.2.2.2.2.2.2.2)), (q_o_bytes, .inl (cy 1, 800, .inl o_bytes))] A9)) (by decide) rfl rfl (Nat.le_of_ble_eq_true rfl) ?_
  intro p e s m args below meth c A hx hb hr hts hown hml hlocks hname hE hP hD hA hsz ls hl
  have hK := hE.1
  have hl : lv_has ls 3 [(0, .ref q_o), (1, .int p1)] := hl
  have hS : va_S A s.heap s.heap [] := va_S.rf
  have f_f12 := hts (.fieldLink RX3 12 "PeepBox$Setup" "show" "LPeepBox$Show;") (by decide +kernel)
  have f_inX3 : ∀ w ∈ wsX30, w ∈ wsX3_readHole := by decide +kernel
  have f_f73 := hts (.fieldLink RX3 73 "PeepBox$Show" "box" "LPeepBox$Box;") (by decide +kernel)
  have f_inX4 : ∀ w ∈ wsX40, w ∈ wsX3_readHole := by decide +kernel
  have f_f77 := hts (.fieldLink RX3 77 "PeepBox$Box" "holes" "I") (by decide +kernel)
  have f_inX0 : ∀ w ∈ wsX00, w ∈ wsX3_readHole := by decide +kernel
  have f_f149 := hts (.fieldLink RX3 149 "PeepBox$Box" "width" "I") (by decide +kernel)
  have f_f38 := hts (.fieldLink RX3 38 "PeepBox$Setup" "number" "I") (by decide +kernel)
  have f_f140 := hts (.fieldLink RX3 140 "PeepBox$Box" "height" "I") (by decide +kernel)
  obtain ⟨QQ, hQQ⟩ : ∃ Q9, Q9 = MQ below (kQi D res.1 [(q_o, .inr (3, [.ref q_o_show, x_o_filled, .int res.2.1, .int res.2.2.1, .ref q_o_bytes, .int o_end, .int res.2.2.2.1, .int res.2.2.2.2.1, x_o_planesTold, x_o_reachTold, x_o_lengthTold, x_o_priceTold])), (q_o_show, .inr (4, [.ref q_o_show_box, x_o_show_crowd])), (q_o_show_box, .inr (0, [.int o_show_box_width, .int o_show_box_height, x_o_show_box_planes, .int res.2.2.2.2.2.1, x_o_show_box_reach, x_o_show_box_cells, x_o_show_box_pulls, .ref q_o_show_box_holeX, .ref q_o_show_box_holeY, x_o_show_box_price])), (q_o_show_box_holeX, .inl (cy 0, 4, .inl res.2.2.2.2.2.2.1)), (q_o_show_box_holeY, .inl (cy 0, 4, .inl res.2.2.2.2.2.2.2)), (q_o_bytes, .inl (cy 1, 800, .inl o_bytes))] A) args s 0 0 A := ⟨_, rfl⟩
  rw [← hQQ]
  have main : ∀ (H : Heap) (locs : List Loc) (ls : Array Slot), va_P D vwCl [(q_o, .inr (3, [.ref q_o_show, x_o_filled, .int o_error, .int o_errorAt, .ref q_o_bytes, .int o_end, .int o_at, .int o_number, x_o_planesTold, x_o_reachTold, x_o_lengthTold, x_o_priceTold])), (q_o_show, .inr (4, [.ref q_o_show_box, x_o_show_crowd])), (q_o_show_box, .inr (0, [.int o_show_box_width, .int o_show_box_height, x_o_show_box_planes, .int o_show_box_holes, x_o_show_box_reach, x_o_show_box_cells, x_o_show_box_pulls, .ref q_o_show_box_holeX, .ref q_o_show_box_holeY, x_o_show_box_price])), (q_o_show_box_holeX, .inl (cy 0, 4, .inl o_show_box_holeX)), (q_o_show_box_holeY, .inl (cy 0, 4, .inl o_show_box_holeY)), (q_o_bytes, .inl (cy 1, 800, .inl o_bytes))] H → va_D A [(q_o, .inr (3, [.ref q_o_show, x_o_filled, .int o_error, .int o_errorAt, .ref q_o_bytes, .int o_end, .int o_at, .int o_number, x_o_planesTold, x_o_reachTold, x_o_lengthTold, x_o_priceTold])), (q_o_show, .inr (4, [.ref q_o_show_box, x_o_show_crowd])), (q_o_show_box, .inr (0, [.int o_show_box_width, .int o_show_box_height, x_o_show_box_planes, .int o_show_box_holes, x_o_show_box_reach, x_o_show_box_cells, x_o_show_box_pulls, .ref q_o_show_box_holeX, .ref q_o_show_box_holeY, x_o_show_box_price])), (q_o_show_box_holeX, .inl (cy 0, 4, .inl o_show_box_holeX)), (q_o_show_box_holeY, .inl (cy 0, 4, .inl o_show_box_holeY)), (q_o_bytes, .inl (cy 1, 800, .inl o_bytes))] → va_S A s.heap H locs → lv_has ls 3 [(0, .ref q_o), (1, .int p1)] → W p l e ({ frames := 2, cells := 0, slots := 0, locals := 53 } : Room) s m args below meth c H locs 0 0 QQ (F0 m 0 ls []) := by
    intro H locs ls hP hD hS hl
    unfold X3_readHole at hF
    refine lv_aload_n hx hb dX3_readHole_0 rfl (lv_at hl 0 rfl) ?_
    refine va_get (D := D) (ci := 3) (v := .ref q_o_show) (C := RX3) (T := TX3) (N := 12) hx hb hts f_inX3 hown hK hP 0 rfl rfl 0 (by decide) f_f12 (fun _ h9 => h9) rfl dX3_readHole_1 ?_
    refine va_get (D := D) (ci := 4) (v := .ref q_o_show_box) (C := RX4) (T := TX4) (N := 2) hx hb hts f_inX4 hown hK hP 1 rfl rfl 0 (by decide) f_f73 (fun _ h9 => h9) rfl dX3_readHole_4 ?_
    refine va_get (D := D) (ci := 0) (v := .int o_show_box_holes) (C := RX0) (T := TX0) (N := 10) hx hb hts f_inX0 hown hK hP 2 rfl rfl 3 (by decide) f_f77 (fun _ h9 => h9) rfl dX3_readHole_7 ?_
    refine lv_iconst (v := 4) hx hb dX3_readHole_10 (by decide) ?_
    refine lv_icmp_lt (tgt := 22) hx hb dX3_readHole_11 (by decide) (fun c1 => ?_) (fun c1 => ?_)
    · have hF := if_p hF c1
      refine lv_aload_n hx hb dX3_readHole_22 rfl (lv_at hl 0 rfl) ?_
      refine lv_iconst (v := 0) hx hb dX3_readHole_23 (by decide) ?_
      refine lv_aload_n hx hb dX3_readHole_24 rfl (lv_at hl 0 rfl) ?_
      refine va_get (D := D) (ci := 3) (v := .ref q_o_show) (C := RX3) (T := TX3) (N := 12) hx hb hts f_inX3 hown hK hP 0 rfl rfl 0 (by decide) f_f12 (fun _ h9 => h9) rfl dX3_readHole_25 ?_
      refine va_get (D := D) (ci := 4) (v := .ref q_o_show_box) (C := RX4) (T := TX4) (N := 2) hx hb hts f_inX4 hown hK hP 1 rfl rfl 0 (by decide) f_f73 (fun _ h9 => h9) rfl dX3_readHole_28 ?_
      refine va_get (D := D) (ci := 0) (v := .int o_show_box_width) (C := RX0) (T := TX0) (N := 10) hx hb hts f_inX0 hown hK hP 2 rfl rfl 0 (by decide) f_f149 (fun _ h9 => h9) rfl dX3_readHole_31 ?_
      refine lv_iconst (v := 1) hx hb dX3_readHole_34 (by decide) ?_
      refine lv_isub hx hb dX3_readHole_35 ?_
      obtain ⟨r2, o3, o4, o5, o6, h7, hF⟩ := bn5_o hF
      refine kd_i [(q_o, .inr (3, [.ref q_o_show, x_o_filled, .int o3, .int o4, .ref q_o_bytes, .int o_end, .int o5, .int o6, x_o_planesTold, x_o_reachTold, x_o_lengthTold, x_o_priceTold])), (q_o_show, .inr (4, [.ref q_o_show_box, x_o_show_crowd])), (q_o_show_box, .inr (0, [.int o_show_box_width, .int o_show_box_height, x_o_show_box_planes, .int o_show_box_holes, x_o_show_box_reach, x_o_show_box_cells, x_o_show_box_pulls, .ref q_o_show_box_holeX, .ref q_o_show_box_holeY, x_o_show_box_price])), (q_o_show_box_holeX, .inl (cy 0, 4, .inl o_show_box_holeX)), (q_o_show_box_holeY, .inl (cy 0, 4, .inl o_show_box_holeY)), (q_o_bytes, .inl (cy 1, 800, .inl o_bytes))] (va_runV (As := [.int (0 : Int32), .int (o_show_box_width - (1 : Int32))]) (rest := []) ⟨hx, hb, hml, hown, hts⟩ (c_X3_readNumber q_o q_o_bytes H.size (.ref q_o_show) x_o_filled x_o_planesTold x_o_reachTold x_o_lengthTold x_o_priceTold o_error o_errorAt o_end o_at o_number o_bytes (0 : Int32) (o_show_box_width - (1 : Int32)) _ h7) (cwV 2 hts gX3_readHole_X3_readNumber rfl rfl rfl kd_X3_readNumber ⟨Nat.le_of_ble_eq_true rfl, Nat.le_of_ble_eq_true rfl⟩) ⟨kP_blind (EN_ok D cy) D _ _ _, va_recv hK hP (ci := 3) (q0 := 0) rfl rfl, kStart (EN_ok D cy) hE hP hD hS hA [0, 5] rfl rfl _⟩ rfl rfl hl.1 rfl (lv_room (Nat.le_of_ble_eq_true rfl)) dX3_readHole_36 ⟨Nat.zero_le _, Nat.zero_le _⟩) hP hD hS hA [0, 5] [1, 2, 3, 4] rfl rfl rfl 6 rfl (by decide +kernel) (fun H locs hP hD hS => ?_)
      refine lv_if_ne (tgt := 44) hx hb dX3_readHole_39 (by decide) (fun c8 => ?_) (fun c8 => ?_)
      · have hF := if_n hF c8
        refine lv_aload_n hx hb dX3_readHole_44 rfl (lv_at hl 0 rfl) ?_
        refine va_get (D := D) (ci := 3) (v := .int o6) (C := RX3) (T := TX3) (N := 12) hx hb hts f_inX3 hown hK hP 0 rfl rfl 7 (by decide) f_f38 (fun _ h9 => h9) rfl dX3_readHole_45 ?_
        refine lv_istore_n (lv' := [(2, .int o6), (0, .ref q_o), (1, .int p1)]) hx hb dX3_readHole_48 rfl hl (by decide) rfl (fun ls hl => ?_)
        refine lv_aload_n hx hb dX3_readHole_49 rfl (lv_at hl 1 rfl) ?_
        refine lv_iconst (v := 0) hx hb dX3_readHole_50 (by decide) ?_
        refine lv_aload_n hx hb dX3_readHole_51 rfl (lv_at hl 1 rfl) ?_
        refine va_get (D := D) (ci := 3) (v := .ref q_o_show) (C := RX3) (T := TX3) (N := 12) hx hb hts f_inX3 hown hK hP 0 rfl rfl 0 (by decide) f_f12 (fun _ h9 => h9) rfl dX3_readHole_52 ?_
        refine va_get (D := D) (ci := 4) (v := .ref q_o_show_box) (C := RX4) (T := TX4) (N := 2) hx hb hts f_inX4 hown hK hP 1 rfl rfl 0 (by decide) f_f73 (fun _ h9 => h9) rfl dX3_readHole_55 ?_
        refine va_get (D := D) (ci := 0) (v := .int o_show_box_height) (C := RX0) (T := TX0) (N := 10) hx hb hts f_inX0 hown hK hP 2 rfl rfl 1 (by decide) f_f140 (fun _ h9 => h9) rfl dX3_readHole_58 ?_
        refine lv_iconst (v := 1) hx hb dX3_readHole_61 (by decide) ?_
        refine lv_isub hx hb dX3_readHole_62 ?_
        obtain ⟨r9, o10, o11, o12, o13, h14, hF⟩ := bn5_o hF
        refine kd_i [(q_o, .inr (3, [.ref q_o_show, x_o_filled, .int o10, .int o11, .ref q_o_bytes, .int o_end, .int o12, .int o13, x_o_planesTold, x_o_reachTold, x_o_lengthTold, x_o_priceTold])), (q_o_show, .inr (4, [.ref q_o_show_box, x_o_show_crowd])), (q_o_show_box, .inr (0, [.int o_show_box_width, .int o_show_box_height, x_o_show_box_planes, .int o_show_box_holes, x_o_show_box_reach, x_o_show_box_cells, x_o_show_box_pulls, .ref q_o_show_box_holeX, .ref q_o_show_box_holeY, x_o_show_box_price])), (q_o_show_box_holeX, .inl (cy 0, 4, .inl o_show_box_holeX)), (q_o_show_box_holeY, .inl (cy 0, 4, .inl o_show_box_holeY)), (q_o_bytes, .inl (cy 1, 800, .inl o_bytes))] (va_runV (As := [.int (0 : Int32), .int (o_show_box_height - (1 : Int32))]) (rest := []) ⟨hx, hb, hml, hown, hts⟩ (c_X3_readNumber q_o q_o_bytes H.size (.ref q_o_show) x_o_filled x_o_planesTold x_o_reachTold x_o_lengthTold x_o_priceTold o3 o4 o_end o5 o6 o_bytes (0 : Int32) (o_show_box_height - (1 : Int32)) _ h14) (cwV 2 hts gX3_readHole_X3_readNumber rfl rfl rfl kd_X3_readNumber ⟨Nat.le_of_ble_eq_true rfl, Nat.le_of_ble_eq_true rfl⟩) ⟨kP_blind (EN_ok D cy) D _ _ _, va_recv hK hP (ci := 3) (q0 := 0) rfl rfl, kStart (EN_ok D cy) hE hP hD hS hA [0, 5] rfl rfl _⟩ rfl rfl hl.1 rfl (lv_room (Nat.le_of_ble_eq_true rfl)) dX3_readHole_63 ⟨Nat.zero_le _, Nat.zero_le _⟩) hP hD hS hA [0, 5] [1, 2, 3, 4] rfl rfl rfl 6 rfl (by decide +kernel) (fun H locs hP hD hS => ?_)
        refine lv_if_ne (tgt := 71) hx hb dX3_readHole_66 (by decide) (fun c15 => ?_) (fun c15 => ?_)
        · have hF := if_n hF c15
          refine lv_aload_n hx hb dX3_readHole_71 rfl (lv_at hl 1 rfl) ?_
          refine va_get (D := D) (ci := 3) (v := .ref q_o_show) (C := RX3) (T := TX3) (N := 12) hx hb hts f_inX3 hown hK hP 0 rfl rfl 0 (by decide) f_f12 (fun _ h9 => h9) rfl dX3_readHole_72 ?_
          refine va_get (D := D) (ci := 4) (v := .ref q_o_show_box) (C := RX4) (T := TX4) (N := 2) hx hb hts f_inX4 hown hK hP 1 rfl rfl 0 (by decide) f_f73 (fun _ h9 => h9) rfl dX3_readHole_75 ?_
          refine lv_iload_n hx hb dX3_readHole_78 rfl (lv_at hl 0 rfl) ?_
          refine lv_aload_n hx hb dX3_readHole_79 rfl (lv_at hl 1 rfl) ?_
          refine va_get (D := D) (ci := 3) (v := .int o13) (C := RX3) (T := TX3) (N := 12) hx hb hts f_inX3 hown hK hP 0 rfl rfl 7 (by decide) f_f38 (fun _ h9 => h9) rfl dX3_readHole_80 ?_
          obtain ⟨o16, o17, o18, h19, hF⟩ := bn3_o hF
          refine kd_v [(q_o, .inr (3, [.ref q_o_show, x_o_filled, .int o10, .int o11, .ref q_o_bytes, .int o_end, .int o12, .int o13, x_o_planesTold, x_o_reachTold, x_o_lengthTold, x_o_priceTold])), (q_o_show, .inr (4, [.ref q_o_show_box, x_o_show_crowd])), (q_o_show_box, .inr (0, [.int o_show_box_width, .int o_show_box_height, x_o_show_box_planes, .int o16, x_o_show_box_reach, x_o_show_box_cells, x_o_show_box_pulls, .ref q_o_show_box_holeX, .ref q_o_show_box_holeY, x_o_show_box_price])), (q_o_show_box_holeX, .inl (cy 0, 4, .inl o17)), (q_o_show_box_holeY, .inl (cy 0, 4, .inl o18)), (q_o_bytes, .inl (cy 1, 800, .inl o_bytes))] (va_runV (As := [.int o6, .int o13]) (rest := []) ⟨hx, hb, hml, hown, hts⟩ (c_X0_addHole q_o_show_box q_o_show_box_holeX q_o_show_box_holeY H.size (.int o_show_box_width) (.int o_show_box_height) x_o_show_box_planes x_o_show_box_reach x_o_show_box_cells x_o_show_box_pulls x_o_show_box_price o_show_box_holes o_show_box_holeX o_show_box_holeY o6 o13 _ h19) (cwV 2 hts gX3_readHole_X0_addHole rfl rfl rfl kd_X0_addHole ⟨Nat.le_of_ble_eq_true rfl, Nat.le_of_ble_eq_true rfl⟩) ⟨kP_blind (EN_ok D cy) D _ _ _, va_recv hK hP (ci := 0) (q0 := 2) rfl rfl, kStart (EN_ok D cy) hE hP hD hS hA [2, 3, 4] rfl rfl _⟩ rfl rfl hl.1 rfl (lv_room (Nat.le_of_ble_eq_true rfl)) dX3_readHole_83 ⟨Nat.zero_le _, Nat.zero_le _⟩) hP hD hS hA [2, 3, 4] [0, 1, 5] rfl rfl rfl 6 rfl (by decide +kernel) (fun H locs hP hD hS => ?_)
          refine lv_iconst (v := 1) hx hb dX3_readHole_86 (by decide) ?_
          obtain rfl := so_o hF
          rw [hQQ]
          exact kr_z (v := (1 : Int32)) hx hb hr hlocks rfl hP hD hS dX3_readHole_87
        · have hF := if_p hF c15
          refine lv_iconst (v := 0) hx hb dX3_readHole_69 (by decide) ?_
          obtain rfl := so_o hF
          rw [hQQ]
          exact kr_z (v := (0 : Int32)) hx hb hr hlocks rfl hP hD hS dX3_readHole_70
      · have hF := if_p hF c8
        refine lv_iconst (v := 0) hx hb dX3_readHole_42 (by decide) ?_
        obtain rfl := so_o hF
        rw [hQQ]
        exact kr_z (v := (0 : Int32)) hx hb hr hlocks rfl hP hD hS dX3_readHole_43
    · have hF := if_n hF c1
      refine lv_aload_n hx hb dX3_readHole_14 rfl (lv_at hl 0 rfl) ?_
      refine lv_bipush (v := -5) hx hb dX3_readHole_15 (by decide) ?_
      refine lv_iload_n hx hb dX3_readHole_17 rfl (lv_at hl 1 rfl) ?_
      obtain ⟨r20, o21, o22, h23, hF⟩ := bn3_o hF
      refine kd_i [(q_o, .inr (3, [.ref q_o_show, x_o_filled, .int o21, .int o22, .ref q_o_bytes, .int o_end, .int o_at, .int o_number, x_o_planesTold, x_o_reachTold, x_o_lengthTold, x_o_priceTold])), (q_o_show, .inr (4, [.ref q_o_show_box, x_o_show_crowd])), (q_o_show_box, .inr (0, [.int o_show_box_width, .int o_show_box_height, x_o_show_box_planes, .int o_show_box_holes, x_o_show_box_reach, x_o_show_box_cells, x_o_show_box_pulls, .ref q_o_show_box_holeX, .ref q_o_show_box_holeY, x_o_show_box_price])), (q_o_show_box_holeX, .inl (cy 0, 4, .inl o_show_box_holeX)), (q_o_show_box_holeY, .inl (cy 0, 4, .inl o_show_box_holeY)), (q_o_bytes, .inl (cy 1, 800, .inl o_bytes))] (va_runV (As := [.int (-5 : Int32), .int p1]) (rest := []) ⟨hx, hb, hml, hown, hts⟩ (c_X3_fail q_o H.size (.ref q_o_show) x_o_filled (.ref q_o_bytes) (.int o_end) (.int o_at) (.int o_number) x_o_planesTold x_o_reachTold x_o_lengthTold x_o_priceTold o_error o_errorAt (-5 : Int32) p1 _ h23) (cwV 2 hts gX3_readHole_X3_fail rfl rfl rfl kd_X3_fail ⟨Nat.le_of_ble_eq_true rfl, Nat.le_of_ble_eq_true rfl⟩) ⟨kP_blind (EN_ok D cy) D _ _ _, va_recv hK hP (ci := 3) (q0 := 0) rfl rfl, kStart (EN_ok D cy) hE hP hD hS hA [0] rfl rfl _⟩ rfl rfl hl.1 rfl (lv_room (Nat.le_of_ble_eq_true rfl)) dX3_readHole_18 ⟨Nat.zero_le _, Nat.zero_le _⟩) hP hD hS hA [0] [1, 2, 3, 4, 5] rfl rfl rfl 6 rfl (by decide +kernel) (fun H locs hP hD hS => ?_)
      obtain ⟨h24, hF⟩ := ck_o hF
      obtain rfl := so_o hF
      rw [hQQ]
      exact kr_z (v := r20) hx hb hr hlocks (by rcases h24 with h9 | h9 <;> rw [h9] <;> rfl) hP hD hS dX3_readHole_21
  exact main s.heap [] ls hP hD hS hl
theorem kd_X3_readReach : yX3_readReach.cls = RX3 ∧ yX3_readReach.cls ≠ "java/lang/invoke/MethodHandle" ∧ yX3_readReach.cls ≠ "java/lang/invoke/VarHandle" ∧ (parseMethodDescriptor yX3_readReach.desc).map (fun d => d.parameters.length) = some 1 := by decide +kernel
set_option maxHeartbeats 4000000 in
set_option maxRecDepth 100000 in
theorem c_X3_readReach {l : Launch} {D : va_G} {cy : Nat → ClassId} (q_o q_o_show q_o_show_box q_o_bytes : Nat) (sz : Nat) (x_o_filled x_o_planesTold x_o_lengthTold x_o_priceTold x_o_show_crowd x_o_show_box_width x_o_show_box_height x_o_show_box_planes x_o_show_box_holes x_o_show_box_cells x_o_show_box_pulls x_o_show_box_holeX x_o_show_box_holeY x_o_show_box_price : Value) (o_error : Int32) (o_errorAt : Int32) (o_end : Int32) (o_at : Int32) (o_number : Int32) (o_reachTold : Int32) (o_show_box_reach : Int32) (o_bytes : Nat → Int32) (p1 : Int32) (res : Int32 × Int32 × Int32 × Int32 × Int32 × Int32 × Int32) (hF : X3_readReach o_error o_errorAt o_end o_at o_number o_reachTold o_show_box_reach o_bytes p1 = some res) : Met l yX3_readReach wsX3_readReach ({ frames := 2, cells := 0, slots := 0, locals := 53 } : Room) (kP (EN D cy) D [.ref q_o, .int p1] [(q_o, .inr (3, [.ref q_o_show, x_o_filled, .int o_error, .int o_errorAt, .ref q_o_bytes, .int o_end, .int o_at, .int o_number, x_o_planesTold, .int o_reachTold, x_o_lengthTold, x_o_priceTold])), (q_o_show, .inr (4, [.ref q_o_show_box, x_o_show_crowd])), (q_o_show_box, .inr (0, [x_o_show_box_width, x_o_show_box_height, x_o_show_box_planes, x_o_show_box_holes, .int o_show_box_reach, x_o_show_box_cells, x_o_show_box_pulls, x_o_show_box_holeX, x_o_show_box_holeY, x_o_show_box_price])), (q_o_bytes, .inl (cy 1, 800, .inl o_bytes))] sz) (kQi D res.1 [(q_o, .inr (3, [.ref q_o_show, x_o_filled, .int res.2.1, .int res.2.2.1, .ref q_o_bytes, .int o_end, .int res.2.2.2.1, .int res.2.2.2.2.1, x_o_planesTold, .int res.2.2.2.2.2.1, x_o_lengthTold, x_o_priceTold])), (q_o_show, .inr (4, [.ref q_o_show_box, x_o_show_crowd])), (q_o_show_box, .inr (0, [x_o_show_box_width, x_o_show_box_height, x_o_show_box_planes, x_o_show_box_holes, .int res.2.2.2.2.2.2, x_o_show_box_cells, x_o_show_box_pulls, x_o_show_box_holeX, x_o_show_box_holeY, x_o_show_box_price])), (q_o_bytes, .inl (cy 1, 800, .inl o_bytes))] (va_A [(q_o, .inr (3, [.ref q_o_show, x_o_filled, .int o_error, .int o_errorAt, .ref q_o_bytes, .int o_end, .int o_at, .int o_number, x_o_planesTold, .int o_reachTold, x_o_lengthTold, x_o_priceTold])), (q_o_show, .inr (4, [.ref q_o_show_box, x_o_show_crowd])), (q_o_show_box, .inr (0, [x_o_show_box_width, x_o_show_box_height, x_o_show_box_planes, x_o_show_box_holes, .int o_show_box_reach, x_o_show_box_cells, x_o_show_box_pulls, x_o_show_box_holeX, x_o_show_box_holeY, x_o_show_box_price])), (q_o_bytes, .inl (cy 1, 800, .inl o_bytes))] sz)) 0 0 (va_A [(q_o, .inr (3, [.ref q_o_show, x_o_filled, .int o_error, .int o_errorAt, .ref q_o_bytes, .int o_end, .int o_at, .int o_number, x_o_planesTold, .int o_reachTold, x_o_lengthTold, x_o_priceTold])), (q_o_show, .inr (4, [.ref q_o_show_box, x_o_show_crowd])), (q_o_show_box, .inr (0, [x_o_show_box_width, x_o_show_box_height, x_o_show_box_planes, x_o_show_box_holes, .int o_show_box_reach, x_o_show_box_cells, x_o_show_box_pulls, x_o_show_box_holeX, x_o_show_box_holeY, x_o_show_box_price])), (q_o_bytes, .inl (cy 1, 800, .inl o_bytes))] sz) := by
  refine kMet (y := yX3_readReach) (av := [.ref q_o, .int p1]) (cc := cX3_readReach) (maxL := 2) (ret := some .boolean) (own := RX3) (Qc := fun A9 => (kQi D res.1 [(q_o, .inr (3, [.ref q_o_show, x_o_filled, .int res.2.1, .int res.2.2.1, .ref q_o_bytes, .int o_end, .int res.2.2.2.1, .int res.2.2.2.2.1, x_o_planesTold, .int res.2.2.2.2.2.1, x_o_lengthTold, x_o_priceTold])), (q_o_show, .inr (4, [.ref q_o_show_box, x_o_show_crowd])), (q_o_show_box, .inr (0, [x_o_show_box_width, x_o_show_box_height, x_o_show_box_planes, x_o_show_box_holes, .int res.2.2.2.2.2.2, x_o_show_box_cells, x_o_show_box_pulls, x_o_show_box_holeX, x_o_show_box_holeY, x_o_show_box_price])), (q_o_bytes, .inl (cy 1, 800, .inl o_bytes))] A9)) (by decide) rfl rfl (Nat.le_of_ble_eq_true rfl) ?_
  intro p e s m args below meth c A hx hb hr hts hown hml hlocks hname hE hP hD hA hsz ls hl
  have hK := hE.1
  have hl : lv_has ls 2 [(0, .ref q_o), (1, .int p1)] := hl
  have hS : va_S A s.heap s.heap [] := va_S.rf
  have f_f44 := hts (.fieldLink RX3 44 "PeepBox$Setup" "reachTold" "Z") (by decide +kernel)
  have f_inX3 : ∀ w ∈ wsX30, w ∈ wsX3_readReach := by decide +kernel
  have f_f12 := hts (.fieldLink RX3 12 "PeepBox$Setup" "show" "LPeepBox$Show;") (by decide +kernel)
  have f_f73 := hts (.fieldLink RX3 73 "PeepBox$Show" "box" "LPeepBox$Box;") (by decide +kernel)
  have f_inX4 : ∀ w ∈ wsX40, w ∈ wsX3_readReach := by decide +kernel
  have f_f38 := hts (.fieldLink RX3 38 "PeepBox$Setup" "number" "I") (by decide +kernel)
  have f_f159 := hts (.fieldLink RX3 159 "PeepBox$Box" "reach" "I") (by decide +kernel)
  have f_inX0 : ∀ w ∈ wsX00, w ∈ wsX3_readReach := by decide +kernel
  obtain ⟨QQ, hQQ⟩ : ∃ Q9, Q9 = MQ below (kQi D res.1 [(q_o, .inr (3, [.ref q_o_show, x_o_filled, .int res.2.1, .int res.2.2.1, .ref q_o_bytes, .int o_end, .int res.2.2.2.1, .int res.2.2.2.2.1, x_o_planesTold, .int res.2.2.2.2.2.1, x_o_lengthTold, x_o_priceTold])), (q_o_show, .inr (4, [.ref q_o_show_box, x_o_show_crowd])), (q_o_show_box, .inr (0, [x_o_show_box_width, x_o_show_box_height, x_o_show_box_planes, x_o_show_box_holes, .int res.2.2.2.2.2.2, x_o_show_box_cells, x_o_show_box_pulls, x_o_show_box_holeX, x_o_show_box_holeY, x_o_show_box_price])), (q_o_bytes, .inl (cy 1, 800, .inl o_bytes))] A) args s 0 0 A := ⟨_, rfl⟩
  rw [← hQQ]
  have main : ∀ (H : Heap) (locs : List Loc) (ls : Array Slot), va_P D vwCl [(q_o, .inr (3, [.ref q_o_show, x_o_filled, .int o_error, .int o_errorAt, .ref q_o_bytes, .int o_end, .int o_at, .int o_number, x_o_planesTold, .int o_reachTold, x_o_lengthTold, x_o_priceTold])), (q_o_show, .inr (4, [.ref q_o_show_box, x_o_show_crowd])), (q_o_show_box, .inr (0, [x_o_show_box_width, x_o_show_box_height, x_o_show_box_planes, x_o_show_box_holes, .int o_show_box_reach, x_o_show_box_cells, x_o_show_box_pulls, x_o_show_box_holeX, x_o_show_box_holeY, x_o_show_box_price])), (q_o_bytes, .inl (cy 1, 800, .inl o_bytes))] H → va_D A [(q_o, .inr (3, [.ref q_o_show, x_o_filled, .int o_error, .int o_errorAt, .ref q_o_bytes, .int o_end, .int o_at, .int o_number, x_o_planesTold, .int o_reachTold, x_o_lengthTold, x_o_priceTold])), (q_o_show, .inr (4, [.ref q_o_show_box, x_o_show_crowd])), (q_o_show_box, .inr (0, [x_o_show_box_width, x_o_show_box_height, x_o_show_box_planes, x_o_show_box_holes, .int o_show_box_reach, x_o_show_box_cells, x_o_show_box_pulls, x_o_show_box_holeX, x_o_show_box_holeY, x_o_show_box_price])), (q_o_bytes, .inl (cy 1, 800, .inl o_bytes))] → va_S A s.heap H locs → lv_has ls 2 [(0, .ref q_o), (1, .int p1)] → W p l e ({ frames := 2, cells := 0, slots := 0, locals := 53 } : Room) s m args below meth c H locs 0 0 QQ (F0 m 0 ls []) := by
    intro H locs ls hP hD hS hl
    unfold X3_readReach at hF
    refine lv_aload_n hx hb dX3_readReach_0 rfl (lv_at hl 0 rfl) ?_
    refine va_get (D := D) (ci := 3) (v := .int o_reachTold) (C := RX3) (T := TX3) (N := 12) hx hb hts f_inX3 hown hK hP 0 rfl rfl 9 (by decide) f_f44 (fun _ h9 => h9) rfl dX3_readReach_1 ?_
    refine lv_if_eq (tgt := 15) hx hb dX3_readReach_4 (by decide) (fun c1 => ?_) (fun c1 => ?_)
    · have hF := if_p hF c1
      refine lv_aload_n hx hb dX3_readReach_15 rfl (lv_at hl 0 rfl) ?_
      refine lv_iconst (v := 0) hx hb dX3_readReach_16 (by decide) ?_
      refine lv_bipush (v := 9) hx hb dX3_readReach_17 (by decide) ?_
      obtain ⟨r2, o3, o4, o5, o6, h7, hF⟩ := bn5_o hF
      refine kd_i [(q_o, .inr (3, [.ref q_o_show, x_o_filled, .int o3, .int o4, .ref q_o_bytes, .int o_end, .int o5, .int o6, x_o_planesTold, .int o_reachTold, x_o_lengthTold, x_o_priceTold])), (q_o_show, .inr (4, [.ref q_o_show_box, x_o_show_crowd])), (q_o_show_box, .inr (0, [x_o_show_box_width, x_o_show_box_height, x_o_show_box_planes, x_o_show_box_holes, .int o_show_box_reach, x_o_show_box_cells, x_o_show_box_pulls, x_o_show_box_holeX, x_o_show_box_holeY, x_o_show_box_price])), (q_o_bytes, .inl (cy 1, 800, .inl o_bytes))] (va_runV (As := [.int (0 : Int32), .int (9 : Int32)]) (rest := []) ⟨hx, hb, hml, hown, hts⟩ (c_X3_readNumber q_o q_o_bytes H.size (.ref q_o_show) x_o_filled x_o_planesTold (.int o_reachTold) x_o_lengthTold x_o_priceTold o_error o_errorAt o_end o_at o_number o_bytes (0 : Int32) (9 : Int32) _ h7) (cwV 2 hts gX3_readReach_X3_readNumber rfl rfl rfl kd_X3_readNumber ⟨Nat.le_of_ble_eq_true rfl, Nat.le_of_ble_eq_true rfl⟩) ⟨kP_blind (EN_ok D cy) D _ _ _, va_recv hK hP (ci := 3) (q0 := 0) rfl rfl, kStart (EN_ok D cy) hE hP hD hS hA [0, 3] rfl rfl _⟩ rfl rfl hl.1 rfl (lv_room (Nat.le_of_ble_eq_true rfl)) dX3_readReach_19 ⟨Nat.zero_le _, Nat.zero_le _⟩) hP hD hS hA [0, 3] [1, 2] rfl rfl rfl 4 rfl (by decide +kernel) (fun H locs hP hD hS => ?_)
      refine lv_if_ne (tgt := 27) hx hb dX3_readReach_22 (by decide) (fun c8 => ?_) (fun c8 => ?_)
      · have hF := if_n hF c8
        refine lv_aload_n hx hb dX3_readReach_27 rfl (lv_at hl 0 rfl) ?_
        refine lv_iconst (v := 1) hx hb dX3_readReach_28 (by decide) ?_
        refine va_put (D := D) (ci := 3) (v := .int (1 : Int32)) (ty := .boolean) (C := RX3) (T := TX3) (N := 12) hx hb hts f_inX3 tyX3 tyX3_ok nmX3 hown hK hP hD hS 0 rfl rfl 9 (by decide) f_f44 (fun _ h9 => h9) rfl (by decide +kernel) rfl rfl (Nat.le_of_ble_eq_true rfl) dX3_readReach_29 (fun H locs hP hD hS => ?_)
        have hP : va_P D vwCl [(q_o, .inr (3, [.ref q_o_show, x_o_filled, .int o3, .int o4, .ref q_o_bytes, .int o_end, .int o5, .int o6, x_o_planesTold, .int (1 : Int32), x_o_lengthTold, x_o_priceTold])), (q_o_show, .inr (4, [.ref q_o_show_box, x_o_show_crowd])), (q_o_show_box, .inr (0, [x_o_show_box_width, x_o_show_box_height, x_o_show_box_planes, x_o_show_box_holes, .int o_show_box_reach, x_o_show_box_cells, x_o_show_box_pulls, x_o_show_box_holeX, x_o_show_box_holeY, x_o_show_box_price])), (q_o_bytes, .inl (cy 1, 800, .inl o_bytes))] H := hP
        have hD : va_D A [(q_o, .inr (3, [.ref q_o_show, x_o_filled, .int o3, .int o4, .ref q_o_bytes, .int o_end, .int o5, .int o6, x_o_planesTold, .int (1 : Int32), x_o_lengthTold, x_o_priceTold])), (q_o_show, .inr (4, [.ref q_o_show_box, x_o_show_crowd])), (q_o_show_box, .inr (0, [x_o_show_box_width, x_o_show_box_height, x_o_show_box_planes, x_o_show_box_holes, .int o_show_box_reach, x_o_show_box_cells, x_o_show_box_pulls, x_o_show_box_holeX, x_o_show_box_holeY, x_o_show_box_price])), (q_o_bytes, .inl (cy 1, 800, .inl o_bytes))] := hD
        refine lv_aload_n hx hb dX3_readReach_32 rfl (lv_at hl 0 rfl) ?_
        refine va_get (D := D) (ci := 3) (v := .ref q_o_show) (C := RX3) (T := TX3) (N := 12) hx hb hts f_inX3 hown hK hP 0 rfl rfl 0 (by decide) f_f12 (fun _ h9 => h9) rfl dX3_readReach_33 ?_
        refine va_get (D := D) (ci := 4) (v := .ref q_o_show_box) (C := RX4) (T := TX4) (N := 2) hx hb hts f_inX4 hown hK hP 1 rfl rfl 0 (by decide) f_f73 (fun _ h9 => h9) rfl dX3_readReach_36 ?_
        refine lv_aload_n hx hb dX3_readReach_39 rfl (lv_at hl 0 rfl) ?_
        refine va_get (D := D) (ci := 3) (v := .int o6) (C := RX3) (T := TX3) (N := 12) hx hb hts f_inX3 hown hK hP 0 rfl rfl 7 (by decide) f_f38 (fun _ h9 => h9) rfl dX3_readReach_40 ?_
        refine va_put (D := D) (ci := 0) (v := .int o6) (ty := .int) (C := RX0) (T := TX0) (N := 10) hx hb hts f_inX0 tyX0 tyX0_ok nmX0 hown hK hP hD hS 2 rfl rfl 4 (by decide) f_f159 (fun _ h9 => h9) rfl (by decide +kernel) rfl rfl (Nat.le_of_ble_eq_true rfl) dX3_readReach_43 (fun H locs hP hD hS => ?_)
        have hP : va_P D vwCl [(q_o, .inr (3, [.ref q_o_show, x_o_filled, .int o3, .int o4, .ref q_o_bytes, .int o_end, .int o5, .int o6, x_o_planesTold, .int (1 : Int32), x_o_lengthTold, x_o_priceTold])), (q_o_show, .inr (4, [.ref q_o_show_box, x_o_show_crowd])), (q_o_show_box, .inr (0, [x_o_show_box_width, x_o_show_box_height, x_o_show_box_planes, x_o_show_box_holes, .int o6, x_o_show_box_cells, x_o_show_box_pulls, x_o_show_box_holeX, x_o_show_box_holeY, x_o_show_box_price])), (q_o_bytes, .inl (cy 1, 800, .inl o_bytes))] H := hP
        have hD : va_D A [(q_o, .inr (3, [.ref q_o_show, x_o_filled, .int o3, .int o4, .ref q_o_bytes, .int o_end, .int o5, .int o6, x_o_planesTold, .int (1 : Int32), x_o_lengthTold, x_o_priceTold])), (q_o_show, .inr (4, [.ref q_o_show_box, x_o_show_crowd])), (q_o_show_box, .inr (0, [x_o_show_box_width, x_o_show_box_height, x_o_show_box_planes, x_o_show_box_holes, .int o6, x_o_show_box_cells, x_o_show_box_pulls, x_o_show_box_holeX, x_o_show_box_holeY, x_o_show_box_price])), (q_o_bytes, .inl (cy 1, 800, .inl o_bytes))] := hD
        refine lv_iconst (v := 1) hx hb dX3_readReach_46 (by decide) ?_
        obtain rfl := so_o hF
        rw [hQQ]
        exact kr_z (v := (1 : Int32)) hx hb hr hlocks rfl hP hD hS dX3_readReach_47
      · have hF := if_p hF c8
        refine lv_iconst (v := 0) hx hb dX3_readReach_25 (by decide) ?_
        obtain rfl := so_o hF
        rw [hQQ]
        exact kr_z (v := (0 : Int32)) hx hb hr hlocks rfl hP hD hS dX3_readReach_26
    · have hF := if_n hF c1
      refine lv_aload_n hx hb dX3_readReach_7 rfl (lv_at hl 0 rfl) ?_
      refine lv_bipush (v := -2) hx hb dX3_readReach_8 (by decide) ?_
      refine lv_iload_n hx hb dX3_readReach_10 rfl (lv_at hl 1 rfl) ?_
      obtain ⟨r9, o10, o11, h12, hF⟩ := bn3_o hF
      refine kd_i [(q_o, .inr (3, [.ref q_o_show, x_o_filled, .int o10, .int o11, .ref q_o_bytes, .int o_end, .int o_at, .int o_number, x_o_planesTold, .int o_reachTold, x_o_lengthTold, x_o_priceTold])), (q_o_show, .inr (4, [.ref q_o_show_box, x_o_show_crowd])), (q_o_show_box, .inr (0, [x_o_show_box_width, x_o_show_box_height, x_o_show_box_planes, x_o_show_box_holes, .int o_show_box_reach, x_o_show_box_cells, x_o_show_box_pulls, x_o_show_box_holeX, x_o_show_box_holeY, x_o_show_box_price])), (q_o_bytes, .inl (cy 1, 800, .inl o_bytes))] (va_runV (As := [.int (-2 : Int32), .int p1]) (rest := []) ⟨hx, hb, hml, hown, hts⟩ (c_X3_fail q_o H.size (.ref q_o_show) x_o_filled (.ref q_o_bytes) (.int o_end) (.int o_at) (.int o_number) x_o_planesTold (.int o_reachTold) x_o_lengthTold x_o_priceTold o_error o_errorAt (-2 : Int32) p1 _ h12) (cwV 2 hts gX3_readReach_X3_fail rfl rfl rfl kd_X3_fail ⟨Nat.le_of_ble_eq_true rfl, Nat.le_of_ble_eq_true rfl⟩) ⟨kP_blind (EN_ok D cy) D _ _ _, va_recv hK hP (ci := 3) (q0 := 0) rfl rfl, kStart (EN_ok D cy) hE hP hD hS hA [0] rfl rfl _⟩ rfl rfl hl.1 rfl (lv_room (Nat.le_of_ble_eq_true rfl)) dX3_readReach_11 ⟨Nat.zero_le _, Nat.zero_le _⟩) hP hD hS hA [0] [1, 2, 3] rfl rfl rfl 4 rfl (by decide +kernel) (fun H locs hP hD hS => ?_)
      obtain ⟨h13, hF⟩ := ck_o hF
      obtain rfl := so_o hF
      rw [hQQ]
      exact kr_z (v := r9) hx hb hr hlocks (by rcases h13 with h9 | h9 <;> rw [h9] <;> rfl) hP hD hS dX3_readReach_14
  exact main s.heap [] ls hP hD hS hl
theorem kd_X3_readLength : yX3_readLength.cls = RX3 ∧ yX3_readLength.cls ≠ "java/lang/invoke/MethodHandle" ∧ yX3_readLength.cls ≠ "java/lang/invoke/VarHandle" ∧ (parseMethodDescriptor yX3_readLength.desc).map (fun d => d.parameters.length) = some 1 := by decide +kernel
set_option maxHeartbeats 4000000 in
set_option maxRecDepth 100000 in
theorem c_X3_readLength {l : Launch} {D : va_G} {cy : Nat → ClassId} (q_o q_o_show q_o_show_crowd q_o_bytes : Nat) (sz : Nat) (x_o_filled x_o_planesTold x_o_reachTold x_o_priceTold x_o_show_box x_o_show_crowd_viewers x_o_show_crowd_time x_o_show_crowd_lookers x_o_show_crowd_facts : Value) (o_error : Int32) (o_errorAt : Int32) (o_end : Int32) (o_at : Int32) (o_number : Int32) (o_lengthTold : Int32) (o_show_crowd_lookLength : Int32) (o_bytes : Nat → Int32) (p1 : Int32) (res : Int32 × Int32 × Int32 × Int32 × Int32 × Int32 × Int32) (hF : X3_readLength o_error o_errorAt o_end o_at o_number o_lengthTold o_show_crowd_lookLength o_bytes p1 = some res) : Met l yX3_readLength wsX3_readLength ({ frames := 2, cells := 0, slots := 0, locals := 53 } : Room) (kP (EN D cy) D [.ref q_o, .int p1] [(q_o, .inr (3, [.ref q_o_show, x_o_filled, .int o_error, .int o_errorAt, .ref q_o_bytes, .int o_end, .int o_at, .int o_number, x_o_planesTold, x_o_reachTold, .int o_lengthTold, x_o_priceTold])), (q_o_show, .inr (4, [x_o_show_box, .ref q_o_show_crowd])), (q_o_show_crowd, .inr (1, [x_o_show_crowd_viewers, .int o_show_crowd_lookLength, x_o_show_crowd_time, x_o_show_crowd_lookers, x_o_show_crowd_facts])), (q_o_bytes, .inl (cy 1, 800, .inl o_bytes))] sz) (kQi D res.1 [(q_o, .inr (3, [.ref q_o_show, x_o_filled, .int res.2.1, .int res.2.2.1, .ref q_o_bytes, .int o_end, .int res.2.2.2.1, .int res.2.2.2.2.1, x_o_planesTold, x_o_reachTold, .int res.2.2.2.2.2.1, x_o_priceTold])), (q_o_show, .inr (4, [x_o_show_box, .ref q_o_show_crowd])), (q_o_show_crowd, .inr (1, [x_o_show_crowd_viewers, .int res.2.2.2.2.2.2, x_o_show_crowd_time, x_o_show_crowd_lookers, x_o_show_crowd_facts])), (q_o_bytes, .inl (cy 1, 800, .inl o_bytes))] (va_A [(q_o, .inr (3, [.ref q_o_show, x_o_filled, .int o_error, .int o_errorAt, .ref q_o_bytes, .int o_end, .int o_at, .int o_number, x_o_planesTold, x_o_reachTold, .int o_lengthTold, x_o_priceTold])), (q_o_show, .inr (4, [x_o_show_box, .ref q_o_show_crowd])), (q_o_show_crowd, .inr (1, [x_o_show_crowd_viewers, .int o_show_crowd_lookLength, x_o_show_crowd_time, x_o_show_crowd_lookers, x_o_show_crowd_facts])), (q_o_bytes, .inl (cy 1, 800, .inl o_bytes))] sz)) 0 0 (va_A [(q_o, .inr (3, [.ref q_o_show, x_o_filled, .int o_error, .int o_errorAt, .ref q_o_bytes, .int o_end, .int o_at, .int o_number, x_o_planesTold, x_o_reachTold, .int o_lengthTold, x_o_priceTold])), (q_o_show, .inr (4, [x_o_show_box, .ref q_o_show_crowd])), (q_o_show_crowd, .inr (1, [x_o_show_crowd_viewers, .int o_show_crowd_lookLength, x_o_show_crowd_time, x_o_show_crowd_lookers, x_o_show_crowd_facts])), (q_o_bytes, .inl (cy 1, 800, .inl o_bytes))] sz) := by
  refine kMet (y := yX3_readLength) (av := [.ref q_o, .int p1]) (cc := cX3_readLength) (maxL := 2) (ret := some .boolean) (own := RX3) (Qc := fun A9 => (kQi D res.1 [(q_o, .inr (3, [.ref q_o_show, x_o_filled, .int res.2.1, .int res.2.2.1, .ref q_o_bytes, .int o_end, .int res.2.2.2.1, .int res.2.2.2.2.1, x_o_planesTold, x_o_reachTold, .int res.2.2.2.2.2.1, x_o_priceTold])), (q_o_show, .inr (4, [x_o_show_box, .ref q_o_show_crowd])), (q_o_show_crowd, .inr (1, [x_o_show_crowd_viewers, .int res.2.2.2.2.2.2, x_o_show_crowd_time, x_o_show_crowd_lookers, x_o_show_crowd_facts])), (q_o_bytes, .inl (cy 1, 800, .inl o_bytes))] A9)) (by decide) rfl rfl (Nat.le_of_ble_eq_true rfl) ?_
  intro p e s m args below meth c A hx hb hr hts hown hml hlocks hname hE hP hD hA hsz ls hl
  have hK := hE.1
  have hl : lv_has ls 2 [(0, .ref q_o), (1, .int p1)] := hl
  have hS : va_S A s.heap s.heap [] := va_S.rf
  have f_f48 := hts (.fieldLink RX3 48 "PeepBox$Setup" "lengthTold" "Z") (by decide +kernel)
  have f_inX3 : ∀ w ∈ wsX30, w ∈ wsX3_readLength := by decide +kernel
  have f_f12 := hts (.fieldLink RX3 12 "PeepBox$Setup" "show" "LPeepBox$Show;") (by decide +kernel)
  have f_f161 := hts (.fieldLink RX3 161 "PeepBox$Show" "crowd" "LPeepBox$Crowd;") (by decide +kernel)
  have f_inX4 : ∀ w ∈ wsX40, w ∈ wsX3_readLength := by decide +kernel
  have f_f38 := hts (.fieldLink RX3 38 "PeepBox$Setup" "number" "I") (by decide +kernel)
  have f_f165 := hts (.fieldLink RX3 165 "PeepBox$Crowd" "lookLength" "I") (by decide +kernel)
  have f_inX1 : ∀ w ∈ wsX10, w ∈ wsX3_readLength := by decide +kernel
  obtain ⟨QQ, hQQ⟩ : ∃ Q9, Q9 = MQ below (kQi D res.1 [(q_o, .inr (3, [.ref q_o_show, x_o_filled, .int res.2.1, .int res.2.2.1, .ref q_o_bytes, .int o_end, .int res.2.2.2.1, .int res.2.2.2.2.1, x_o_planesTold, x_o_reachTold, .int res.2.2.2.2.2.1, x_o_priceTold])), (q_o_show, .inr (4, [x_o_show_box, .ref q_o_show_crowd])), (q_o_show_crowd, .inr (1, [x_o_show_crowd_viewers, .int res.2.2.2.2.2.2, x_o_show_crowd_time, x_o_show_crowd_lookers, x_o_show_crowd_facts])), (q_o_bytes, .inl (cy 1, 800, .inl o_bytes))] A) args s 0 0 A := ⟨_, rfl⟩
  rw [← hQQ]
  have main : ∀ (H : Heap) (locs : List Loc) (ls : Array Slot), va_P D vwCl [(q_o, .inr (3, [.ref q_o_show, x_o_filled, .int o_error, .int o_errorAt, .ref q_o_bytes, .int o_end, .int o_at, .int o_number, x_o_planesTold, x_o_reachTold, .int o_lengthTold, x_o_priceTold])), (q_o_show, .inr (4, [x_o_show_box, .ref q_o_show_crowd])), (q_o_show_crowd, .inr (1, [x_o_show_crowd_viewers, .int o_show_crowd_lookLength, x_o_show_crowd_time, x_o_show_crowd_lookers, x_o_show_crowd_facts])), (q_o_bytes, .inl (cy 1, 800, .inl o_bytes))] H → va_D A [(q_o, .inr (3, [.ref q_o_show, x_o_filled, .int o_error, .int o_errorAt, .ref q_o_bytes, .int o_end, .int o_at, .int o_number, x_o_planesTold, x_o_reachTold, .int o_lengthTold, x_o_priceTold])), (q_o_show, .inr (4, [x_o_show_box, .ref q_o_show_crowd])), (q_o_show_crowd, .inr (1, [x_o_show_crowd_viewers, .int o_show_crowd_lookLength, x_o_show_crowd_time, x_o_show_crowd_lookers, x_o_show_crowd_facts])), (q_o_bytes, .inl (cy 1, 800, .inl o_bytes))] → va_S A s.heap H locs → lv_has ls 2 [(0, .ref q_o), (1, .int p1)] → W p l e ({ frames := 2, cells := 0, slots := 0, locals := 53 } : Room) s m args below meth c H locs 0 0 QQ (F0 m 0 ls []) := by
    intro H locs ls hP hD hS hl
    unfold X3_readLength at hF
    refine lv_aload_n hx hb dX3_readLength_0 rfl (lv_at hl 0 rfl) ?_
    refine va_get (D := D) (ci := 3) (v := .int o_lengthTold) (C := RX3) (T := TX3) (N := 12) hx hb hts f_inX3 hown hK hP 0 rfl rfl 10 (by decide) f_f48 (fun _ h9 => h9) rfl dX3_readLength_1 ?_
    refine lv_if_eq (tgt := 15) hx hb dX3_readLength_4 (by decide) (fun c1 => ?_) (fun c1 => ?_)
    · have hF := if_p hF c1
      refine lv_aload_n hx hb dX3_readLength_15 rfl (lv_at hl 0 rfl) ?_
      refine lv_iconst (v := 1) hx hb dX3_readLength_16 (by decide) ?_
      refine lv_bipush (v := 20) hx hb dX3_readLength_17 (by decide) ?_
      obtain ⟨r2, o3, o4, o5, o6, h7, hF⟩ := bn5_o hF
      refine kd_i [(q_o, .inr (3, [.ref q_o_show, x_o_filled, .int o3, .int o4, .ref q_o_bytes, .int o_end, .int o5, .int o6, x_o_planesTold, x_o_reachTold, .int o_lengthTold, x_o_priceTold])), (q_o_show, .inr (4, [x_o_show_box, .ref q_o_show_crowd])), (q_o_show_crowd, .inr (1, [x_o_show_crowd_viewers, .int o_show_crowd_lookLength, x_o_show_crowd_time, x_o_show_crowd_lookers, x_o_show_crowd_facts])), (q_o_bytes, .inl (cy 1, 800, .inl o_bytes))] (va_runV (As := [.int (1 : Int32), .int (20 : Int32)]) (rest := []) ⟨hx, hb, hml, hown, hts⟩ (c_X3_readNumber q_o q_o_bytes H.size (.ref q_o_show) x_o_filled x_o_planesTold x_o_reachTold (.int o_lengthTold) x_o_priceTold o_error o_errorAt o_end o_at o_number o_bytes (1 : Int32) (20 : Int32) _ h7) (cwV 2 hts gX3_readLength_X3_readNumber rfl rfl rfl kd_X3_readNumber ⟨Nat.le_of_ble_eq_true rfl, Nat.le_of_ble_eq_true rfl⟩) ⟨kP_blind (EN_ok D cy) D _ _ _, va_recv hK hP (ci := 3) (q0 := 0) rfl rfl, kStart (EN_ok D cy) hE hP hD hS hA [0, 3] rfl rfl _⟩ rfl rfl hl.1 rfl (lv_room (Nat.le_of_ble_eq_true rfl)) dX3_readLength_19 ⟨Nat.zero_le _, Nat.zero_le _⟩) hP hD hS hA [0, 3] [1, 2] rfl rfl rfl 4 rfl (by decide +kernel) (fun H locs hP hD hS => ?_)
      refine lv_if_ne (tgt := 27) hx hb dX3_readLength_22 (by decide) (fun c8 => ?_) (fun c8 => ?_)
      · have hF := if_n hF c8
        refine lv_aload_n hx hb dX3_readLength_27 rfl (lv_at hl 0 rfl) ?_
        refine lv_iconst (v := 1) hx hb dX3_readLength_28 (by decide) ?_
        refine va_put (D := D) (ci := 3) (v := .int (1 : Int32)) (ty := .boolean) (C := RX3) (T := TX3) (N := 12) hx hb hts f_inX3 tyX3 tyX3_ok nmX3 hown hK hP hD hS 0 rfl rfl 10 (by decide) f_f48 (fun _ h9 => h9) rfl (by decide +kernel) rfl rfl (Nat.le_of_ble_eq_true rfl) dX3_readLength_29 (fun H locs hP hD hS => ?_)
        have hP : va_P D vwCl [(q_o, .inr (3, [.ref q_o_show, x_o_filled, .int o3, .int o4, .ref q_o_bytes, .int o_end, .int o5, .int o6, x_o_planesTold, x_o_reachTold, .int (1 : Int32), x_o_priceTold])), (q_o_show, .inr (4, [x_o_show_box, .ref q_o_show_crowd])), (q_o_show_crowd, .inr (1, [x_o_show_crowd_viewers, .int o_show_crowd_lookLength, x_o_show_crowd_time, x_o_show_crowd_lookers, x_o_show_crowd_facts])), (q_o_bytes, .inl (cy 1, 800, .inl o_bytes))] H := hP
        have hD : va_D A [(q_o, .inr (3, [.ref q_o_show, x_o_filled, .int o3, .int o4, .ref q_o_bytes, .int o_end, .int o5, .int o6, x_o_planesTold, x_o_reachTold, .int (1 : Int32), x_o_priceTold])), (q_o_show, .inr (4, [x_o_show_box, .ref q_o_show_crowd])), (q_o_show_crowd, .inr (1, [x_o_show_crowd_viewers, .int o_show_crowd_lookLength, x_o_show_crowd_time, x_o_show_crowd_lookers, x_o_show_crowd_facts])), (q_o_bytes, .inl (cy 1, 800, .inl o_bytes))] := hD
        refine lv_aload_n hx hb dX3_readLength_32 rfl (lv_at hl 0 rfl) ?_
        refine va_get (D := D) (ci := 3) (v := .ref q_o_show) (C := RX3) (T := TX3) (N := 12) hx hb hts f_inX3 hown hK hP 0 rfl rfl 0 (by decide) f_f12 (fun _ h9 => h9) rfl dX3_readLength_33 ?_
        refine va_get (D := D) (ci := 4) (v := .ref q_o_show_crowd) (C := RX4) (T := TX4) (N := 2) hx hb hts f_inX4 hown hK hP 1 rfl rfl 1 (by decide) f_f161 (fun _ h9 => h9) rfl dX3_readLength_36 ?_
        refine lv_aload_n hx hb dX3_readLength_39 rfl (lv_at hl 0 rfl) ?_
        refine va_get (D := D) (ci := 3) (v := .int o6) (C := RX3) (T := TX3) (N := 12) hx hb hts f_inX3 hown hK hP 0 rfl rfl 7 (by decide) f_f38 (fun _ h9 => h9) rfl dX3_readLength_40 ?_
        refine va_put (D := D) (ci := 1) (v := .int o6) (ty := .int) (C := RX1) (T := TX1) (N := 5) hx hb hts f_inX1 tyX1 tyX1_ok nmX1 hown hK hP hD hS 2 rfl rfl 1 (by decide) f_f165 (fun _ h9 => h9) rfl (by decide +kernel) rfl rfl (Nat.le_of_ble_eq_true rfl) dX3_readLength_43 (fun H locs hP hD hS => ?_)
        have hP : va_P D vwCl [(q_o, .inr (3, [.ref q_o_show, x_o_filled, .int o3, .int o4, .ref q_o_bytes, .int o_end, .int o5, .int o6, x_o_planesTold, x_o_reachTold, .int (1 : Int32), x_o_priceTold])), (q_o_show, .inr (4, [x_o_show_box, .ref q_o_show_crowd])), (q_o_show_crowd, .inr (1, [x_o_show_crowd_viewers, .int o6, x_o_show_crowd_time, x_o_show_crowd_lookers, x_o_show_crowd_facts])), (q_o_bytes, .inl (cy 1, 800, .inl o_bytes))] H := hP
        have hD : va_D A [(q_o, .inr (3, [.ref q_o_show, x_o_filled, .int o3, .int o4, .ref q_o_bytes, .int o_end, .int o5, .int o6, x_o_planesTold, x_o_reachTold, .int (1 : Int32), x_o_priceTold])), (q_o_show, .inr (4, [x_o_show_box, .ref q_o_show_crowd])), (q_o_show_crowd, .inr (1, [x_o_show_crowd_viewers, .int o6, x_o_show_crowd_time, x_o_show_crowd_lookers, x_o_show_crowd_facts])), (q_o_bytes, .inl (cy 1, 800, .inl o_bytes))] := hD
        refine lv_iconst (v := 1) hx hb dX3_readLength_46 (by decide) ?_
        obtain rfl := so_o hF
        rw [hQQ]
        exact kr_z (v := (1 : Int32)) hx hb hr hlocks rfl hP hD hS dX3_readLength_47
      · have hF := if_p hF c8
        refine lv_iconst (v := 0) hx hb dX3_readLength_25 (by decide) ?_
        obtain rfl := so_o hF
        rw [hQQ]
        exact kr_z (v := (0 : Int32)) hx hb hr hlocks rfl hP hD hS dX3_readLength_26
    · have hF := if_n hF c1
      refine lv_aload_n hx hb dX3_readLength_7 rfl (lv_at hl 0 rfl) ?_
      refine lv_bipush (v := -2) hx hb dX3_readLength_8 (by decide) ?_
      refine lv_iload_n hx hb dX3_readLength_10 rfl (lv_at hl 1 rfl) ?_
      obtain ⟨r9, o10, o11, h12, hF⟩ := bn3_o hF
      refine kd_i [(q_o, .inr (3, [.ref q_o_show, x_o_filled, .int o10, .int o11, .ref q_o_bytes, .int o_end, .int o_at, .int o_number, x_o_planesTold, x_o_reachTold, .int o_lengthTold, x_o_priceTold])), (q_o_show, .inr (4, [x_o_show_box, .ref q_o_show_crowd])), (q_o_show_crowd, .inr (1, [x_o_show_crowd_viewers, .int o_show_crowd_lookLength, x_o_show_crowd_time, x_o_show_crowd_lookers, x_o_show_crowd_facts])), (q_o_bytes, .inl (cy 1, 800, .inl o_bytes))] (va_runV (As := [.int (-2 : Int32), .int p1]) (rest := []) ⟨hx, hb, hml, hown, hts⟩ (c_X3_fail q_o H.size (.ref q_o_show) x_o_filled (.ref q_o_bytes) (.int o_end) (.int o_at) (.int o_number) x_o_planesTold x_o_reachTold (.int o_lengthTold) x_o_priceTold o_error o_errorAt (-2 : Int32) p1 _ h12) (cwV 2 hts gX3_readLength_X3_fail rfl rfl rfl kd_X3_fail ⟨Nat.le_of_ble_eq_true rfl, Nat.le_of_ble_eq_true rfl⟩) ⟨kP_blind (EN_ok D cy) D _ _ _, va_recv hK hP (ci := 3) (q0 := 0) rfl rfl, kStart (EN_ok D cy) hE hP hD hS hA [0] rfl rfl _⟩ rfl rfl hl.1 rfl (lv_room (Nat.le_of_ble_eq_true rfl)) dX3_readLength_11 ⟨Nat.zero_le _, Nat.zero_le _⟩) hP hD hS hA [0] [1, 2, 3] rfl rfl rfl 4 rfl (by decide +kernel) (fun H locs hP hD hS => ?_)
      obtain ⟨h13, hF⟩ := ck_o hF
      obtain rfl := so_o hF
      rw [hQQ]
      exact kr_z (v := r9) hx hb hr hlocks (by rcases h13 with h9 | h9 <;> rw [h9] <;> rfl) hP hD hS dX3_readLength_14
  exact main s.heap [] ls hP hD hS hl
theorem kd_X3_readKind : yX3_readKind.cls = RX3 ∧ yX3_readKind.cls ≠ "java/lang/invoke/MethodHandle" ∧ yX3_readKind.cls ≠ "java/lang/invoke/VarHandle" ∧ (parseMethodDescriptor yX3_readKind.desc).map (fun d => d.parameters.length) = some 0 := by decide +kernel
set_option maxHeartbeats 4000000 in
set_option maxRecDepth 100000 in
theorem c_X3_readKind {l : Launch} {D : va_G} {cy : Nat → ClassId} (q_o q_o_bytes : Nat) (sz : Nat) (x_o_show x_o_filled x_o_planesTold x_o_reachTold x_o_lengthTold x_o_priceTold : Value) (o_error : Int32) (o_errorAt : Int32) (o_end : Int32) (o_at : Int32) (o_number : Int32) (o_bytes : Nat → Int32) (res : Int32 × Int32 × Int32 × Int32 × Int32) (hF : X3_readKind o_error o_errorAt o_end o_at o_number o_bytes = some res) : Met l yX3_readKind wsX3_readKind ({ frames := 1, cells := 0, slots := 0, locals := 22 } : Room) (kP (EN D cy) D [.ref q_o] [(q_o, .inr (3, [x_o_show, x_o_filled, .int o_error, .int o_errorAt, .ref q_o_bytes, .int o_end, .int o_at, .int o_number, x_o_planesTold, x_o_reachTold, x_o_lengthTold, x_o_priceTold])), (q_o_bytes, .inl (cy 1, 800, .inl o_bytes))] sz) (kQi D res.1 [(q_o, .inr (3, [x_o_show, x_o_filled, .int res.2.1, .int res.2.2.1, .ref q_o_bytes, .int o_end, .int res.2.2.2.1, .int res.2.2.2.2, x_o_planesTold, x_o_reachTold, x_o_lengthTold, x_o_priceTold])), (q_o_bytes, .inl (cy 1, 800, .inl o_bytes))] (va_A [(q_o, .inr (3, [x_o_show, x_o_filled, .int o_error, .int o_errorAt, .ref q_o_bytes, .int o_end, .int o_at, .int o_number, x_o_planesTold, x_o_reachTold, x_o_lengthTold, x_o_priceTold])), (q_o_bytes, .inl (cy 1, 800, .inl o_bytes))] sz)) 0 0 (va_A [(q_o, .inr (3, [x_o_show, x_o_filled, .int o_error, .int o_errorAt, .ref q_o_bytes, .int o_end, .int o_at, .int o_number, x_o_planesTold, x_o_reachTold, x_o_lengthTold, x_o_priceTold])), (q_o_bytes, .inl (cy 1, 800, .inl o_bytes))] sz) := by
  refine kMet (y := yX3_readKind) (av := [.ref q_o]) (cc := cX3_readKind) (maxL := 3) (ret := some .boolean) (own := RX3) (Qc := fun A9 => (kQi D res.1 [(q_o, .inr (3, [x_o_show, x_o_filled, .int res.2.1, .int res.2.2.1, .ref q_o_bytes, .int o_end, .int res.2.2.2.1, .int res.2.2.2.2, x_o_planesTold, x_o_reachTold, x_o_lengthTold, x_o_priceTold])), (q_o_bytes, .inl (cy 1, 800, .inl o_bytes))] A9)) (by decide) rfl rfl (Nat.le_of_ble_eq_true rfl) ?_
  intro p e s m args below meth c A hx hb hr hts hown hml hlocks hname hE hP hD hA hsz ls hl
  have hK := hE.1
  have hl : lv_has ls 3 [(0, .ref q_o)] := hl
  have hS : va_S A s.heap s.heap [] := va_S.rf
  have f_f35 := hts (.fieldLink RX3 35 "PeepBox$Setup" "at" "I") (by decide +kernel)
  have f_inX3 : ∀ w ∈ wsX30, w ∈ wsX3_readKind := by decide +kernel
  have f_f38 := hts (.fieldLink RX3 38 "PeepBox$Setup" "number" "I") (by decide +kernel)
  have f_f32 := hts (.fieldLink RX3 32 "PeepBox$Setup" "end" "I") (by decide +kernel)
  have f_f28 := hts (.fieldLink RX3 28 "PeepBox$Setup" "bytes" "[B") (by decide +kernel)
  obtain ⟨QQ, hQQ⟩ : ∃ Q9, Q9 = MQ below (kQi D res.1 [(q_o, .inr (3, [x_o_show, x_o_filled, .int res.2.1, .int res.2.2.1, .ref q_o_bytes, .int o_end, .int res.2.2.2.1, .int res.2.2.2.2, x_o_planesTold, x_o_reachTold, x_o_lengthTold, x_o_priceTold])), (q_o_bytes, .inl (cy 1, 800, .inl o_bytes))] A) args s 0 0 A := ⟨_, rfl⟩
  rw [← hQQ]
  have J82 : ∀ (o_error : Int32) (o_errorAt : Int32) (o_at : Int32) (o_number : Int32) (H : Heap) (locs : List Loc) (ls : Array Slot), va_P D vwCl [(q_o, .inr (3, [x_o_show, x_o_filled, .int o_error, .int o_errorAt, .ref q_o_bytes, .int o_end, .int o_at, .int o_number, x_o_planesTold, x_o_reachTold, x_o_lengthTold, x_o_priceTold])), (q_o_bytes, .inl (cy 1, 800, .inl o_bytes))] H → va_D A [(q_o, .inr (3, [x_o_show, x_o_filled, .int o_error, .int o_errorAt, .ref q_o_bytes, .int o_end, .int o_at, .int o_number, x_o_planesTold, x_o_reachTold, x_o_lengthTold, x_o_priceTold])), (q_o_bytes, .inl (cy 1, 800, .inl o_bytes))] → va_S A s.heap H locs → lv_has ls 3 [] → X3_readKind_J82 o_end o_bytes o_error o_errorAt o_at o_number = some res → W p l e ({ frames := 1, cells := 0, slots := 0, locals := 22 } : Room) s m args below meth c H locs 0 0 QQ (F0 m 82 ls []) := by
    intro o_error o_errorAt o_at o_number H locs ls hP hD hS hl hF
    unfold X3_readKind_J82 at hF
    refine lv_iconst (v := 1) hx hb dX3_readKind_82 (by decide) ?_
    refine lv_goto (tgt := 87) hx hb dX3_readKind_83 (by decide) ?_
    obtain rfl := so_o hF
    rw [hQQ]
    exact kr_z (v := (1 : Int32)) hx hb hr hlocks rfl hP hD hS dX3_readKind_87
  have main : ∀ (H : Heap) (locs : List Loc) (ls : Array Slot), va_P D vwCl [(q_o, .inr (3, [x_o_show, x_o_filled, .int o_error, .int o_errorAt, .ref q_o_bytes, .int o_end, .int o_at, .int o_number, x_o_planesTold, x_o_reachTold, x_o_lengthTold, x_o_priceTold])), (q_o_bytes, .inl (cy 1, 800, .inl o_bytes))] H → va_D A [(q_o, .inr (3, [x_o_show, x_o_filled, .int o_error, .int o_errorAt, .ref q_o_bytes, .int o_end, .int o_at, .int o_number, x_o_planesTold, x_o_reachTold, x_o_lengthTold, x_o_priceTold])), (q_o_bytes, .inl (cy 1, 800, .inl o_bytes))] → va_S A s.heap H locs → lv_has ls 3 [(0, .ref q_o)] → W p l e ({ frames := 1, cells := 0, slots := 0, locals := 22 } : Room) s m args below meth c H locs 0 0 QQ (F0 m 0 ls []) := by
    intro H locs ls hP hD hS hl
    unfold X3_readKind at hF
    refine lv_aload_n hx hb dX3_readKind_0 rfl (lv_at hl 0 rfl) ?_
    obtain ⟨r1, o2, h3, hF⟩ := bn2_o hF
    refine kd_i [(q_o, .inr (3, [x_o_show, x_o_filled, .int o_error, .int o_errorAt, .ref q_o_bytes, .int o_end, .int o2, .int o_number, x_o_planesTold, x_o_reachTold, x_o_lengthTold, x_o_priceTold])), (q_o_bytes, .inl (cy 1, 800, .inl o_bytes))] (va_runV (As := []) (rest := []) ⟨hx, hb, hml, hown, hts⟩ (c_X3_peek q_o q_o_bytes H.size x_o_show x_o_filled (.int o_error) (.int o_errorAt) (.int o_number) x_o_planesTold x_o_reachTold x_o_lengthTold x_o_priceTold o_end o_at o_bytes _ h3) (cwV 0 hts gX3_readKind_X3_peek rfl rfl rfl kd_X3_peek ⟨Nat.le_of_ble_eq_true rfl, Nat.le_of_ble_eq_true rfl⟩) ⟨kP_blind (EN_ok D cy) D _ _ _, va_recv hK hP (ci := 3) (q0 := 0) rfl rfl, kStart (EN_ok D cy) hE hP hD hS hA [0, 1] rfl rfl _⟩ rfl rfl hl.1 rfl (lv_room (Nat.le_of_ble_eq_true rfl)) dX3_readKind_1 ⟨Nat.zero_le _, Nat.zero_le _⟩) hP hD hS hA [0, 1] [] rfl rfl rfl 2 rfl (by decide +kernel) (fun H locs hP hD hS => ?_)
    refine lv_istore_n (lv' := [(1, .int r1), (0, .ref q_o)]) hx hb dX3_readKind_4 rfl hl (by decide) rfl (fun ls hl => ?_)
    refine lv_iload_n hx hb dX3_readKind_5 rfl (lv_at hl 0 rfl) ?_
    obtain ⟨r4, h5, hF⟩ := bn1_o hF
    refine kd_i [(q_o, .inr (3, [x_o_show, x_o_filled, .int o_error, .int o_errorAt, .ref q_o_bytes, .int o_end, .int o2, .int o_number, x_o_planesTold, x_o_reachTold, x_o_lengthTold, x_o_priceTold])), (q_o_bytes, .inl (cy 1, 800, .inl o_bytes))] (va_runS (As := [.int r1]) (rest := []) ⟨hx, hb, hml, hown, hts⟩ (c_X3_isLetter H.size r1 _ h5) (va_cwS 1 hts gX3_readKind_X3_isLetter rfl rfl rfl kd_X3_isLetter ⟨Nat.le_of_ble_eq_true rfl, Nat.le_of_ble_eq_true rfl⟩) ⟨kP_blind (EN_ok D cy) D _ _ _, kStart (EN_ok D cy) hE hP hD hS hA [] rfl rfl _⟩ rfl rfl hl.1 rfl (lv_room (Nat.le_of_ble_eq_true rfl)) dX3_readKind_6 ⟨Nat.zero_le _, Nat.zero_le _⟩) hP hD hS hA [] [0, 1] rfl rfl rfl 2 rfl (by decide +kernel) (fun H locs hP hD hS => ?_)
    refine lv_if_ne (tgt := 23) hx hb dX3_readKind_9 (by decide) (fun c6 => ?_) (fun c6 => ?_)
    · have hF := if_n hF c6
      refine lv_aload_n hx hb dX3_readKind_23 rfl (lv_at hl 1 rfl) ?_
      refine va_get (D := D) (ci := 3) (v := .int o2) (C := RX3) (T := TX3) (N := 12) hx hb hts f_inX3 hown hK hP 0 rfl rfl 6 (by decide) f_f35 (fun _ h9 => h9) rfl dX3_readKind_24 ?_
      refine lv_istore_n (lv' := [(2, .int o2), (1, .int r1), (0, .ref q_o)]) hx hb dX3_readKind_27 rfl hl (by decide) rfl (fun ls hl => ?_)
      refine lv_aload_n hx hb dX3_readKind_28 rfl (lv_at hl 2 rfl) ?_
      refine lv_dup hx hb dX3_readKind_29 rfl ?_
      refine va_get (D := D) (ci := 3) (v := .int o2) (C := RX3) (T := TX3) (N := 12) hx hb hts f_inX3 hown hK hP 0 rfl rfl 6 (by decide) f_f35 (fun _ h9 => h9) rfl dX3_readKind_30 ?_
      refine lv_iconst (v := 1) hx hb dX3_readKind_33 (by decide) ?_
      refine lv_iadd hx hb dX3_readKind_34 ?_
      refine lv_topi (fun v7 ev7 => ?_)
      have hF := nm_o hF v7 ev7
      refine va_put (D := D) (ci := 3) (v := .int v7) (ty := .int) (C := RX3) (T := TX3) (N := 12) hx hb hts f_inX3 tyX3 tyX3_ok nmX3 hown hK hP hD hS 0 rfl rfl 6 (by decide) f_f35 (fun _ h9 => h9) rfl (by decide +kernel) rfl rfl (Nat.le_of_ble_eq_true rfl) dX3_readKind_35 (fun H locs hP hD hS => ?_)
      have hP : va_P D vwCl [(q_o, .inr (3, [x_o_show, x_o_filled, .int o_error, .int o_errorAt, .ref q_o_bytes, .int o_end, .int v7, .int o_number, x_o_planesTold, x_o_reachTold, x_o_lengthTold, x_o_priceTold])), (q_o_bytes, .inl (cy 1, 800, .inl o_bytes))] H := hP
      have hD : va_D A [(q_o, .inr (3, [x_o_show, x_o_filled, .int o_error, .int o_errorAt, .ref q_o_bytes, .int o_end, .int v7, .int o_number, x_o_planesTold, x_o_reachTold, x_o_lengthTold, x_o_priceTold])), (q_o_bytes, .inl (cy 1, 800, .inl o_bytes))] := hD
      refine lv_aload_n hx hb dX3_readKind_38 rfl (lv_at hl 2 rfl) ?_
      refine lv_iload_n hx hb dX3_readKind_39 rfl (lv_at hl 1 rfl) ?_
      refine lv_bipush (v := 97) hx hb dX3_readKind_40 (by decide) ?_
      refine lv_isub hx hb dX3_readKind_42 ?_
      refine lv_topi (fun v8 ev8 => ?_)
      have hF := nm_o hF v8 ev8
      refine va_put (D := D) (ci := 3) (v := .int v8) (ty := .int) (C := RX3) (T := TX3) (N := 12) hx hb hts f_inX3 tyX3 tyX3_ok nmX3 hown hK hP hD hS 0 rfl rfl 7 (by decide) f_f38 (fun _ h9 => h9) rfl (by decide +kernel) rfl rfl (Nat.le_of_ble_eq_true rfl) dX3_readKind_43 (fun H locs hP hD hS => ?_)
      have hP : va_P D vwCl [(q_o, .inr (3, [x_o_show, x_o_filled, .int o_error, .int o_errorAt, .ref q_o_bytes, .int o_end, .int v7, .int v8, x_o_planesTold, x_o_reachTold, x_o_lengthTold, x_o_priceTold])), (q_o_bytes, .inl (cy 1, 800, .inl o_bytes))] H := hP
      have hD : va_D A [(q_o, .inr (3, [x_o_show, x_o_filled, .int o_error, .int o_errorAt, .ref q_o_bytes, .int o_end, .int v7, .int v8, x_o_planesTold, x_o_reachTold, x_o_lengthTold, x_o_priceTold])), (q_o_bytes, .inl (cy 1, 800, .inl o_bytes))] := hD
      refine lv_aload_n hx hb dX3_readKind_46 rfl (lv_at hl 2 rfl) ?_
      refine va_get (D := D) (ci := 3) (v := .int v7) (C := RX3) (T := TX3) (N := 12) hx hb hts f_inX3 hown hK hP 0 rfl rfl 6 (by decide) f_f35 (fun _ h9 => h9) rfl dX3_readKind_47 ?_
      refine lv_aload_n hx hb dX3_readKind_50 rfl (lv_at hl 2 rfl) ?_
      refine va_get (D := D) (ci := 3) (v := .int o_end) (C := RX3) (T := TX3) (N := 12) hx hb hts f_inX3 hown hK hP 0 rfl rfl 5 (by decide) f_f32 (fun _ h9 => h9) rfl dX3_readKind_51 ?_
      refine lv_icmp_ge (tgt := 82) hx hb dX3_readKind_54 (by decide) (fun c9 => ?_) (fun c9 => ?_)
      · have hF := if_p hF c9
        exact J82 o_error o_errorAt v7 v8 H locs ls hP hD hS (lv_sub hl [] rfl) hF
      · have hF := if_n hF c9
        refine lv_aload_n hx hb dX3_readKind_57 rfl (lv_at hl 2 rfl) ?_
        refine va_get (D := D) (ci := 3) (v := .ref q_o_bytes) (C := RX3) (T := TX3) (N := 12) hx hb hts f_inX3 hown hK hP 0 rfl rfl 4 (by decide) f_f28 (fun _ h9 => h9) rfl dX3_readKind_58 ?_
        refine lv_aload_n hx hb dX3_readKind_61 rfl (lv_at hl 2 rfl) ?_
        refine va_get (D := D) (ci := 3) (v := .int v7) (C := RX3) (T := TX3) (N := 12) hx hb hts f_inX3 hown hK hP 0 rfl rfl 6 (by decide) f_f35 (fun _ h9 => h9) rfl dX3_readKind_62 ?_
        obtain ⟨h10, hF⟩ := ld_o hF
        refine va_bald hx hb hK hP 1 1 rfl rfl h10 dX3_readKind_65 ?_
        refine lv_topi (fun v11 ev11 => ?_)
        have hF := hF v11 ev11
        obtain ⟨r12, h13, hF⟩ := bn1_o hF
        refine kd_i [(q_o, .inr (3, [x_o_show, x_o_filled, .int o_error, .int o_errorAt, .ref q_o_bytes, .int o_end, .int v7, .int v8, x_o_planesTold, x_o_reachTold, x_o_lengthTold, x_o_priceTold])), (q_o_bytes, .inl (cy 1, 800, .inl o_bytes))] (va_runS (As := [.int v11]) (rest := []) ⟨hx, hb, hml, hown, hts⟩ (c_X3_isLetter H.size v11 _ h13) (va_cwS 1 hts gX3_readKind_X3_isLetter rfl rfl rfl kd_X3_isLetter ⟨Nat.le_of_ble_eq_true rfl, Nat.le_of_ble_eq_true rfl⟩) ⟨kP_blind (EN_ok D cy) D _ _ _, kStart (EN_ok D cy) hE hP hD hS hA [] rfl rfl _⟩ rfl rfl hl.1 rfl (lv_room (Nat.le_of_ble_eq_true rfl)) dX3_readKind_66 ⟨Nat.zero_le _, Nat.zero_le _⟩) hP hD hS hA [] [0, 1] rfl rfl rfl 2 rfl (by decide +kernel) (fun H locs hP hD hS => ?_)
        refine lv_if_eq (tgt := 82) hx hb dX3_readKind_69 (by decide) (fun c14 => ?_) (fun c14 => ?_)
        · have hF := if_p hF c14
          exact J82 o_error o_errorAt v7 v8 H locs ls hP hD hS (lv_sub hl [] rfl) hF
        · have hF := if_n hF c14
          refine lv_aload_n hx hb dX3_readKind_72 rfl (lv_at hl 2 rfl) ?_
          refine lv_bipush (v := -3) hx hb dX3_readKind_73 (by decide) ?_
          refine lv_iload_n hx hb dX3_readKind_75 rfl (lv_at hl 0 rfl) ?_
          obtain ⟨r15, o16, o17, h18, hF⟩ := bn3_o hF
          refine kd_i [(q_o, .inr (3, [x_o_show, x_o_filled, .int o16, .int o17, .ref q_o_bytes, .int o_end, .int v7, .int v8, x_o_planesTold, x_o_reachTold, x_o_lengthTold, x_o_priceTold])), (q_o_bytes, .inl (cy 1, 800, .inl o_bytes))] (va_runV (As := [.int (-3 : Int32), .int o2]) (rest := []) ⟨hx, hb, hml, hown, hts⟩ (c_X3_fail q_o H.size x_o_show x_o_filled (.ref q_o_bytes) (.int o_end) (.int v7) (.int v8) x_o_planesTold x_o_reachTold x_o_lengthTold x_o_priceTold o_error o_errorAt (-3 : Int32) o2 _ h18) (cwV 2 hts gX3_readKind_X3_fail rfl rfl rfl kd_X3_fail ⟨Nat.le_of_ble_eq_true rfl, Nat.le_of_ble_eq_true rfl⟩) ⟨kP_blind (EN_ok D cy) D _ _ _, va_recv hK hP (ci := 3) (q0 := 0) rfl rfl, kStart (EN_ok D cy) hE hP hD hS hA [0] rfl rfl _⟩ rfl rfl hl.1 rfl (lv_room (Nat.le_of_ble_eq_true rfl)) dX3_readKind_76 ⟨Nat.zero_le _, Nat.zero_le _⟩) hP hD hS hA [0] [1] rfl rfl rfl 2 rfl (by decide +kernel) (fun H locs hP hD hS => ?_)
          refine lv_if_eq (tgt := 86) hx hb dX3_readKind_79 (by decide) (fun c19 => ?_) (fun c19 => ?_)
          · have hF := if_p hF c19
            refine lv_iconst (v := 0) hx hb dX3_readKind_86 (by decide) ?_
            obtain rfl := so_o hF
            rw [hQQ]
            exact kr_z (v := (0 : Int32)) hx hb hr hlocks rfl hP hD hS dX3_readKind_87
          · have hF := if_n hF c19
            exact J82 o16 o17 v7 v8 H locs ls hP hD hS (lv_sub hl [] rfl) hF
    · have hF := if_p hF c6
      refine lv_aload_n hx hb dX3_readKind_12 rfl (lv_at hl 1 rfl) ?_
      refine lv_bipush (v := -2) hx hb dX3_readKind_13 (by decide) ?_
      refine lv_aload_n hx hb dX3_readKind_15 rfl (lv_at hl 1 rfl) ?_
      refine va_get (D := D) (ci := 3) (v := .int o2) (C := RX3) (T := TX3) (N := 12) hx hb hts f_inX3 hown hK hP 0 rfl rfl 6 (by decide) f_f35 (fun _ h9 => h9) rfl dX3_readKind_16 ?_
      obtain ⟨r20, o21, o22, h23, hF⟩ := bn3_o hF
      refine kd_i [(q_o, .inr (3, [x_o_show, x_o_filled, .int o21, .int o22, .ref q_o_bytes, .int o_end, .int o2, .int o_number, x_o_planesTold, x_o_reachTold, x_o_lengthTold, x_o_priceTold])), (q_o_bytes, .inl (cy 1, 800, .inl o_bytes))] (va_runV (As := [.int (-2 : Int32), .int o2]) (rest := []) ⟨hx, hb, hml, hown, hts⟩ (c_X3_fail q_o H.size x_o_show x_o_filled (.ref q_o_bytes) (.int o_end) (.int o2) (.int o_number) x_o_planesTold x_o_reachTold x_o_lengthTold x_o_priceTold o_error o_errorAt (-2 : Int32) o2 _ h23) (cwV 2 hts gX3_readKind_X3_fail rfl rfl rfl kd_X3_fail ⟨Nat.le_of_ble_eq_true rfl, Nat.le_of_ble_eq_true rfl⟩) ⟨kP_blind (EN_ok D cy) D _ _ _, va_recv hK hP (ci := 3) (q0 := 0) rfl rfl, kStart (EN_ok D cy) hE hP hD hS hA [0] rfl rfl _⟩ rfl rfl hl.1 rfl (lv_room (Nat.le_of_ble_eq_true rfl)) dX3_readKind_19 ⟨Nat.zero_le _, Nat.zero_le _⟩) hP hD hS hA [0] [1] rfl rfl rfl 2 rfl (by decide +kernel) (fun H locs hP hD hS => ?_)
      obtain ⟨h24, hF⟩ := ck_o hF
      obtain rfl := so_o hF
      rw [hQQ]
      exact kr_z (v := r20) hx hb hr hlocks (by rcases h24 with h9 | h9 <;> rw [h9] <;> rfl) hP hD hS dX3_readKind_22
  exact main s.heap [] ls hP hD hS hl
theorem kd_X3_readViewer : yX3_readViewer.cls = RX3 ∧ yX3_readViewer.cls ≠ "java/lang/invoke/MethodHandle" ∧ yX3_readViewer.cls ≠ "java/lang/invoke/VarHandle" ∧ (parseMethodDescriptor yX3_readViewer.desc).map (fun d => d.parameters.length) = some 1 := by decide +kernel
set_option maxHeartbeats 4000000 in
set_option maxRecDepth 100000 in
theorem c_X3_readViewer {l : Launch} {D : va_G} {cy : Nat → ClassId} (q_o q_o_show q_o_show_crowd q_o_show_crowd_facts q_o_bytes : Nat) (sz : Nat) (x_o_filled x_o_planesTold x_o_reachTold x_o_lengthTold x_o_priceTold x_o_show_box x_o_show_crowd_lookLength x_o_show_crowd_time x_o_show_crowd_lookers : Value) (o_error : Int32) (o_errorAt : Int32) (o_end : Int32) (o_at : Int32) (o_number : Int32) (o_show_crowd_viewers : Int32) (o_show_crowd_facts : Nat → Int32) (o_bytes : Nat → Int32) (p1 : Int32) (res : Int32 × Int32 × Int32 × Int32 × Int32 × Int32 × (Nat → Int32)) (hF : X3_readViewer o_error o_errorAt o_end o_at o_number o_show_crowd_viewers o_show_crowd_facts o_bytes p1 = some res) : Met l yX3_readViewer wsX3_readViewer ({ frames := 3, cells := 0, slots := 0, locals := 69 } : Room) (kP (EN D cy) D [.ref q_o, .int p1] [(q_o, .inr (3, [.ref q_o_show, x_o_filled, .int o_error, .int o_errorAt, .ref q_o_bytes, .int o_end, .int o_at, .int o_number, x_o_planesTold, x_o_reachTold, x_o_lengthTold, x_o_priceTold])), (q_o_show, .inr (4, [x_o_show_box, .ref q_o_show_crowd])), (q_o_show_crowd, .inr (1, [.int o_show_crowd_viewers, x_o_show_crowd_lookLength, x_o_show_crowd_time, x_o_show_crowd_lookers, .ref q_o_show_crowd_facts])), (q_o_show_crowd_facts, .inl (cy 0, 140, .inl o_show_crowd_facts)), (q_o_bytes, .inl (cy 1, 800, .inl o_bytes))] sz) (kQi D res.1 [(q_o, .inr (3, [.ref q_o_show, x_o_filled, .int res.2.1, .int res.2.2.1, .ref q_o_bytes, .int o_end, .int res.2.2.2.1, .int res.2.2.2.2.1, x_o_planesTold, x_o_reachTold, x_o_lengthTold, x_o_priceTold])), (q_o_show, .inr (4, [x_o_show_box, .ref q_o_show_crowd])), (q_o_show_crowd, .inr (1, [.int res.2.2.2.2.2.1, x_o_show_crowd_lookLength, x_o_show_crowd_time, x_o_show_crowd_lookers, .ref q_o_show_crowd_facts])), (q_o_show_crowd_facts, .inl (cy 0, 140, .inl res.2.2.2.2.2.2)), (q_o_bytes, .inl (cy 1, 800, .inl o_bytes))] (va_A [(q_o, .inr (3, [.ref q_o_show, x_o_filled, .int o_error, .int o_errorAt, .ref q_o_bytes, .int o_end, .int o_at, .int o_number, x_o_planesTold, x_o_reachTold, x_o_lengthTold, x_o_priceTold])), (q_o_show, .inr (4, [x_o_show_box, .ref q_o_show_crowd])), (q_o_show_crowd, .inr (1, [.int o_show_crowd_viewers, x_o_show_crowd_lookLength, x_o_show_crowd_time, x_o_show_crowd_lookers, .ref q_o_show_crowd_facts])), (q_o_show_crowd_facts, .inl (cy 0, 140, .inl o_show_crowd_facts)), (q_o_bytes, .inl (cy 1, 800, .inl o_bytes))] sz)) 0 0 (va_A [(q_o, .inr (3, [.ref q_o_show, x_o_filled, .int o_error, .int o_errorAt, .ref q_o_bytes, .int o_end, .int o_at, .int o_number, x_o_planesTold, x_o_reachTold, x_o_lengthTold, x_o_priceTold])), (q_o_show, .inr (4, [x_o_show_box, .ref q_o_show_crowd])), (q_o_show_crowd, .inr (1, [.int o_show_crowd_viewers, x_o_show_crowd_lookLength, x_o_show_crowd_time, x_o_show_crowd_lookers, .ref q_o_show_crowd_facts])), (q_o_show_crowd_facts, .inl (cy 0, 140, .inl o_show_crowd_facts)), (q_o_bytes, .inl (cy 1, 800, .inl o_bytes))] sz) := by
  refine kMet (y := yX3_readViewer) (av := [.ref q_o, .int p1]) (cc := cX3_readViewer) (maxL := 4) (ret := some .boolean) (own := RX3) (Qc := fun A9 => (kQi D res.1 [(q_o, .inr (3, [.ref q_o_show, x_o_filled, .int res.2.1, .int res.2.2.1, .ref q_o_bytes, .int o_end, .int res.2.2.2.1, .int res.2.2.2.2.1, x_o_planesTold, x_o_reachTold, x_o_lengthTold, x_o_priceTold])), (q_o_show, .inr (4, [x_o_show_box, .ref q_o_show_crowd])), (q_o_show_crowd, .inr (1, [.int res.2.2.2.2.2.1, x_o_show_crowd_lookLength, x_o_show_crowd_time, x_o_show_crowd_lookers, .ref q_o_show_crowd_facts])), (q_o_show_crowd_facts, .inl (cy 0, 140, .inl res.2.2.2.2.2.2)), (q_o_bytes, .inl (cy 1, 800, .inl o_bytes))] A9)) (by decide) rfl rfl (Nat.le_of_ble_eq_true rfl) ?_
  intro p e s m args below meth c A hx hb hr hts hown hml hlocks hname hE hP hD hA hsz ls hl
  have hK := hE.1
  have hl : lv_has ls 4 [(0, .ref q_o), (1, .int p1)] := hl
  have hS : va_S A s.heap s.heap [] := va_S.rf
  have f_f12 := hts (.fieldLink RX3 12 "PeepBox$Setup" "show" "LPeepBox$Show;") (by decide +kernel)
  have f_inX3 : ∀ w ∈ wsX30, w ∈ wsX3_readViewer := by decide +kernel
  have f_f161 := hts (.fieldLink RX3 161 "PeepBox$Show" "crowd" "LPeepBox$Crowd;") (by decide +kernel)
  have f_inX4 : ∀ w ∈ wsX40, w ∈ wsX3_readViewer := by decide +kernel
  have f_f38 := hts (.fieldLink RX3 38 "PeepBox$Setup" "number" "I") (by decide +kernel)
  obtain ⟨QQ, hQQ⟩ : ∃ Q9, Q9 = MQ below (kQi D res.1 [(q_o, .inr (3, [.ref q_o_show, x_o_filled, .int res.2.1, .int res.2.2.1, .ref q_o_bytes, .int o_end, .int res.2.2.2.1, .int res.2.2.2.2.1, x_o_planesTold, x_o_reachTold, x_o_lengthTold, x_o_priceTold])), (q_o_show, .inr (4, [x_o_show_box, .ref q_o_show_crowd])), (q_o_show_crowd, .inr (1, [.int res.2.2.2.2.2.1, x_o_show_crowd_lookLength, x_o_show_crowd_time, x_o_show_crowd_lookers, .ref q_o_show_crowd_facts])), (q_o_show_crowd_facts, .inl (cy 0, 140, .inl res.2.2.2.2.2.2)), (q_o_bytes, .inl (cy 1, 800, .inl o_bytes))] A) args s 0 0 A := ⟨_, rfl⟩
  rw [← hQQ]
  have main : ∀ (H : Heap) (locs : List Loc) (ls : Array Slot), va_P D vwCl [(q_o, .inr (3, [.ref q_o_show, x_o_filled, .int o_error, .int o_errorAt, .ref q_o_bytes, .int o_end, .int o_at, .int o_number, x_o_planesTold, x_o_reachTold, x_o_lengthTold, x_o_priceTold])), (q_o_show, .inr (4, [x_o_show_box, .ref q_o_show_crowd])), (q_o_show_crowd, .inr (1, [.int o_show_crowd_viewers, x_o_show_crowd_lookLength, x_o_show_crowd_time, x_o_show_crowd_lookers, .ref q_o_show_crowd_facts])), (q_o_show_crowd_facts, .inl (cy 0, 140, .inl o_show_crowd_facts)), (q_o_bytes, .inl (cy 1, 800, .inl o_bytes))] H → va_D A [(q_o, .inr (3, [.ref q_o_show, x_o_filled, .int o_error, .int o_errorAt, .ref q_o_bytes, .int o_end, .int o_at, .int o_number, x_o_planesTold, x_o_reachTold, x_o_lengthTold, x_o_priceTold])), (q_o_show, .inr (4, [x_o_show_box, .ref q_o_show_crowd])), (q_o_show_crowd, .inr (1, [.int o_show_crowd_viewers, x_o_show_crowd_lookLength, x_o_show_crowd_time, x_o_show_crowd_lookers, .ref q_o_show_crowd_facts])), (q_o_show_crowd_facts, .inl (cy 0, 140, .inl o_show_crowd_facts)), (q_o_bytes, .inl (cy 1, 800, .inl o_bytes))] → va_S A s.heap H locs → lv_has ls 4 [(0, .ref q_o), (1, .int p1)] → W p l e ({ frames := 3, cells := 0, slots := 0, locals := 69 } : Room) s m args below meth c H locs 0 0 QQ (F0 m 0 ls []) := by
    intro H locs ls hP hD hS hl
    unfold X3_readViewer at hF
    refine lv_aload_n hx hb dX3_readViewer_0 rfl (lv_at hl 0 rfl) ?_
    refine va_get (D := D) (ci := 3) (v := .ref q_o_show) (C := RX3) (T := TX3) (N := 12) hx hb hts f_inX3 hown hK hP 0 rfl rfl 0 (by decide) f_f12 (fun _ h9 => h9) rfl dX3_readViewer_1 ?_
    refine va_get (D := D) (ci := 4) (v := .ref q_o_show_crowd) (C := RX4) (T := TX4) (N := 2) hx hb hts f_inX4 hown hK hP 1 rfl rfl 1 (by decide) f_f161 (fun _ h9 => h9) rfl dX3_readViewer_4 ?_
    obtain ⟨r1, h2, hF⟩ := bn1_o hF
    refine kd_i [(q_o, .inr (3, [.ref q_o_show, x_o_filled, .int o_error, .int o_errorAt, .ref q_o_bytes, .int o_end, .int o_at, .int o_number, x_o_planesTold, x_o_reachTold, x_o_lengthTold, x_o_priceTold])), (q_o_show, .inr (4, [x_o_show_box, .ref q_o_show_crowd])), (q_o_show_crowd, .inr (1, [.int o_show_crowd_viewers, x_o_show_crowd_lookLength, x_o_show_crowd_time, x_o_show_crowd_lookers, .ref q_o_show_crowd_facts])), (q_o_show_crowd_facts, .inl (cy 0, 140, .inl o_show_crowd_facts)), (q_o_bytes, .inl (cy 1, 800, .inl o_bytes))] (va_runV (As := []) (rest := []) ⟨hx, hb, hml, hown, hts⟩ (c_X1_isFull q_o_show_crowd H.size x_o_show_crowd_lookLength x_o_show_crowd_time x_o_show_crowd_lookers (.ref q_o_show_crowd_facts) o_show_crowd_viewers _ h2) (cwV 0 hts gX3_readViewer_X1_isFull rfl rfl rfl kd_X1_isFull ⟨Nat.le_of_ble_eq_true rfl, Nat.le_of_ble_eq_true rfl⟩) ⟨kP_blind (EN_ok D cy) D _ _ _, va_recv hK hP (ci := 1) (q0 := 2) rfl rfl, kStart (EN_ok D cy) hE hP hD hS hA [2] rfl rfl _⟩ rfl rfl hl.1 rfl (lv_room (Nat.le_of_ble_eq_true rfl)) dX3_readViewer_7 ⟨Nat.zero_le _, Nat.zero_le _⟩) hP hD hS hA [2] [0, 1, 3, 4] rfl rfl rfl 5 rfl (by decide +kernel) (fun H locs hP hD hS => ?_)
    refine lv_if_eq (tgt := 21) hx hb dX3_readViewer_10 (by decide) (fun c3 => ?_) (fun c3 => ?_)
    · have hF := if_p hF c3
      refine lv_aload_n hx hb dX3_readViewer_21 rfl (lv_at hl 0 rfl) ?_
      refine lv_iconst (v := 0) hx hb dX3_readViewer_22 (by decide) ?_
      refine lv_bipush (v := 9) hx hb dX3_readViewer_23 (by decide) ?_
      obtain ⟨r4, o5, o6, o7, o8, h9, hF⟩ := bn5_o hF
      refine kd_i [(q_o, .inr (3, [.ref q_o_show, x_o_filled, .int o5, .int o6, .ref q_o_bytes, .int o_end, .int o7, .int o8, x_o_planesTold, x_o_reachTold, x_o_lengthTold, x_o_priceTold])), (q_o_show, .inr (4, [x_o_show_box, .ref q_o_show_crowd])), (q_o_show_crowd, .inr (1, [.int o_show_crowd_viewers, x_o_show_crowd_lookLength, x_o_show_crowd_time, x_o_show_crowd_lookers, .ref q_o_show_crowd_facts])), (q_o_show_crowd_facts, .inl (cy 0, 140, .inl o_show_crowd_facts)), (q_o_bytes, .inl (cy 1, 800, .inl o_bytes))] (va_runV (As := [.int (0 : Int32), .int (9 : Int32)]) (rest := []) ⟨hx, hb, hml, hown, hts⟩ (c_X3_readNumber q_o q_o_bytes H.size (.ref q_o_show) x_o_filled x_o_planesTold x_o_reachTold x_o_lengthTold x_o_priceTold o_error o_errorAt o_end o_at o_number o_bytes (0 : Int32) (9 : Int32) _ h9) (cwV 2 hts gX3_readViewer_X3_readNumber rfl rfl rfl kd_X3_readNumber ⟨Nat.le_of_ble_eq_true rfl, Nat.le_of_ble_eq_true rfl⟩) ⟨kP_blind (EN_ok D cy) D _ _ _, va_recv hK hP (ci := 3) (q0 := 0) rfl rfl, kStart (EN_ok D cy) hE hP hD hS hA [0, 4] rfl rfl _⟩ rfl rfl hl.1 rfl (lv_room (Nat.le_of_ble_eq_true rfl)) dX3_readViewer_25 ⟨Nat.zero_le _, Nat.zero_le _⟩) hP hD hS hA [0, 4] [1, 2, 3] rfl rfl rfl 5 rfl (by decide +kernel) (fun H locs hP hD hS => ?_)
      refine lv_if_ne (tgt := 33) hx hb dX3_readViewer_28 (by decide) (fun c10 => ?_) (fun c10 => ?_)
      · have hF := if_n hF c10
        refine lv_aload_n hx hb dX3_readViewer_33 rfl (lv_at hl 0 rfl) ?_
        refine va_get (D := D) (ci := 3) (v := .int o8) (C := RX3) (T := TX3) (N := 12) hx hb hts f_inX3 hown hK hP 0 rfl rfl 7 (by decide) f_f38 (fun _ h9 => h9) rfl dX3_readViewer_34 ?_
        refine lv_istore_n (lv' := [(2, .int o8), (0, .ref q_o), (1, .int p1)]) hx hb dX3_readViewer_37 rfl hl (by decide) rfl (fun ls hl => ?_)
        refine lv_aload_n hx hb dX3_readViewer_38 rfl (lv_at hl 1 rfl) ?_
        obtain ⟨r11, o12, o13, o14, o15, h16, hF⟩ := bn5_o hF
        refine kd_i [(q_o, .inr (3, [.ref q_o_show, x_o_filled, .int o12, .int o13, .ref q_o_bytes, .int o_end, .int o14, .int o15, x_o_planesTold, x_o_reachTold, x_o_lengthTold, x_o_priceTold])), (q_o_show, .inr (4, [x_o_show_box, .ref q_o_show_crowd])), (q_o_show_crowd, .inr (1, [.int o_show_crowd_viewers, x_o_show_crowd_lookLength, x_o_show_crowd_time, x_o_show_crowd_lookers, .ref q_o_show_crowd_facts])), (q_o_show_crowd_facts, .inl (cy 0, 140, .inl o_show_crowd_facts)), (q_o_bytes, .inl (cy 1, 800, .inl o_bytes))] (va_runV (As := []) (rest := []) ⟨hx, hb, hml, hown, hts⟩ (c_X3_readKind q_o q_o_bytes H.size (.ref q_o_show) x_o_filled x_o_planesTold x_o_reachTold x_o_lengthTold x_o_priceTold o5 o6 o_end o7 o8 o_bytes _ h16) (cwV 0 hts gX3_readViewer_X3_readKind rfl rfl rfl kd_X3_readKind ⟨Nat.le_of_ble_eq_true rfl, Nat.le_of_ble_eq_true rfl⟩) ⟨kP_blind (EN_ok D cy) D _ _ _, va_recv hK hP (ci := 3) (q0 := 0) rfl rfl, kStart (EN_ok D cy) hE hP hD hS hA [0, 4] rfl rfl _⟩ rfl rfl hl.1 rfl (lv_room (Nat.le_of_ble_eq_true rfl)) dX3_readViewer_39 ⟨Nat.zero_le _, Nat.zero_le _⟩) hP hD hS hA [0, 4] [1, 2, 3] rfl rfl rfl 5 rfl (by decide +kernel) (fun H locs hP hD hS => ?_)
        refine lv_if_ne (tgt := 47) hx hb dX3_readViewer_42 (by decide) (fun c17 => ?_) (fun c17 => ?_)
        · have hF := if_n hF c17
          refine lv_aload_n hx hb dX3_readViewer_47 rfl (lv_at hl 1 rfl) ?_
          refine va_get (D := D) (ci := 3) (v := .int o15) (C := RX3) (T := TX3) (N := 12) hx hb hts f_inX3 hown hK hP 0 rfl rfl 7 (by decide) f_f38 (fun _ h9 => h9) rfl dX3_readViewer_48 ?_
          refine lv_istore_n (lv' := [(3, .int o15), (2, .int o8), (0, .ref q_o), (1, .int p1)]) hx hb dX3_readViewer_51 rfl hl (by decide) rfl (fun ls hl => ?_)
          refine lv_aload_n hx hb dX3_readViewer_52 rfl (lv_at hl 2 rfl) ?_
          refine lv_iconst (v := 0) hx hb dX3_readViewer_53 (by decide) ?_
          refine lv_sipush (v := 999) hx hb dX3_readViewer_54 (by decide) ?_
          obtain ⟨r18, o19, o20, o21, o22, h23, hF⟩ := bn5_o hF
          refine kd_i [(q_o, .inr (3, [.ref q_o_show, x_o_filled, .int o19, .int o20, .ref q_o_bytes, .int o_end, .int o21, .int o22, x_o_planesTold, x_o_reachTold, x_o_lengthTold, x_o_priceTold])), (q_o_show, .inr (4, [x_o_show_box, .ref q_o_show_crowd])), (q_o_show_crowd, .inr (1, [.int o_show_crowd_viewers, x_o_show_crowd_lookLength, x_o_show_crowd_time, x_o_show_crowd_lookers, .ref q_o_show_crowd_facts])), (q_o_show_crowd_facts, .inl (cy 0, 140, .inl o_show_crowd_facts)), (q_o_bytes, .inl (cy 1, 800, .inl o_bytes))] (va_runV (As := [.int (0 : Int32), .int (999 : Int32)]) (rest := []) ⟨hx, hb, hml, hown, hts⟩ (c_X3_readNumber q_o q_o_bytes H.size (.ref q_o_show) x_o_filled x_o_planesTold x_o_reachTold x_o_lengthTold x_o_priceTold o12 o13 o_end o14 o15 o_bytes (0 : Int32) (999 : Int32) _ h23) (cwV 2 hts gX3_readViewer_X3_readNumber rfl rfl rfl kd_X3_readNumber ⟨Nat.le_of_ble_eq_true rfl, Nat.le_of_ble_eq_true rfl⟩) ⟨kP_blind (EN_ok D cy) D _ _ _, va_recv hK hP (ci := 3) (q0 := 0) rfl rfl, kStart (EN_ok D cy) hE hP hD hS hA [0, 4] rfl rfl _⟩ rfl rfl hl.1 rfl (lv_room (Nat.le_of_ble_eq_true rfl)) dX3_readViewer_57 ⟨Nat.zero_le _, Nat.zero_le _⟩) hP hD hS hA [0, 4] [1, 2, 3] rfl rfl rfl 5 rfl (by decide +kernel) (fun H locs hP hD hS => ?_)
          refine lv_if_ne (tgt := 65) hx hb dX3_readViewer_60 (by decide) (fun c24 => ?_) (fun c24 => ?_)
          · have hF := if_n hF c24
            refine lv_aload_n hx hb dX3_readViewer_65 rfl (lv_at hl 2 rfl) ?_
            refine va_get (D := D) (ci := 3) (v := .ref q_o_show) (C := RX3) (T := TX3) (N := 12) hx hb hts f_inX3 hown hK hP 0 rfl rfl 0 (by decide) f_f12 (fun _ h9 => h9) rfl dX3_readViewer_66 ?_
            refine va_get (D := D) (ci := 4) (v := .ref q_o_show_crowd) (C := RX4) (T := TX4) (N := 2) hx hb hts f_inX4 hown hK hP 1 rfl rfl 1 (by decide) f_f161 (fun _ h9 => h9) rfl dX3_readViewer_69 ?_
            refine lv_iload_n hx hb dX3_readViewer_72 rfl (lv_at hl 1 rfl) ?_
            refine lv_iload_n hx hb dX3_readViewer_73 rfl (lv_at hl 0 rfl) ?_
            refine lv_aload_n hx hb dX3_readViewer_74 rfl (lv_at hl 2 rfl) ?_
            refine va_get (D := D) (ci := 3) (v := .int o22) (C := RX3) (T := TX3) (N := 12) hx hb hts f_inX3 hown hK hP 0 rfl rfl 7 (by decide) f_f38 (fun _ h9 => h9) rfl dX3_readViewer_75 ?_
            obtain ⟨o25, o26, h27, hF⟩ := bn2_o hF
            refine kd_v [(q_o, .inr (3, [.ref q_o_show, x_o_filled, .int o19, .int o20, .ref q_o_bytes, .int o_end, .int o21, .int o22, x_o_planesTold, x_o_reachTold, x_o_lengthTold, x_o_priceTold])), (q_o_show, .inr (4, [x_o_show_box, .ref q_o_show_crowd])), (q_o_show_crowd, .inr (1, [.int o25, x_o_show_crowd_lookLength, x_o_show_crowd_time, x_o_show_crowd_lookers, .ref q_o_show_crowd_facts])), (q_o_show_crowd_facts, .inl (cy 0, 140, .inl o26)), (q_o_bytes, .inl (cy 1, 800, .inl o_bytes))] (va_runV (As := [.int o8, .int o15, .int o22]) (rest := []) ⟨hx, hb, hml, hown, hts⟩ (c_X1_add q_o_show_crowd q_o_show_crowd_facts H.size x_o_show_crowd_lookLength x_o_show_crowd_time x_o_show_crowd_lookers o_show_crowd_viewers o_show_crowd_facts o8 o15 o22 _ h27) (cwV 3 hts gX3_readViewer_X1_add rfl rfl rfl kd_X1_add ⟨Nat.le_of_ble_eq_true rfl, Nat.le_of_ble_eq_true rfl⟩) ⟨kP_blind (EN_ok D cy) D _ _ _, va_recv hK hP (ci := 1) (q0 := 2) rfl rfl, kStart (EN_ok D cy) hE hP hD hS hA [2, 3] rfl rfl _⟩ rfl rfl hl.1 rfl (lv_room (Nat.le_of_ble_eq_true rfl)) dX3_readViewer_78 ⟨Nat.zero_le _, Nat.zero_le _⟩) hP hD hS hA [2, 3] [0, 1, 4] rfl rfl rfl 5 rfl (by decide +kernel) (fun H locs hP hD hS => ?_)
            refine lv_iconst (v := 1) hx hb dX3_readViewer_81 (by decide) ?_
            obtain rfl := so_o hF
            rw [hQQ]
            exact kr_z (v := (1 : Int32)) hx hb hr hlocks rfl hP hD hS dX3_readViewer_82
          · have hF := if_p hF c24
            refine lv_iconst (v := 0) hx hb dX3_readViewer_63 (by decide) ?_
            obtain rfl := so_o hF
            rw [hQQ]
            exact kr_z (v := (0 : Int32)) hx hb hr hlocks rfl hP hD hS dX3_readViewer_64
        · have hF := if_p hF c17
          refine lv_iconst (v := 0) hx hb dX3_readViewer_45 (by decide) ?_
          obtain rfl := so_o hF
          rw [hQQ]
          exact kr_z (v := (0 : Int32)) hx hb hr hlocks rfl hP hD hS dX3_readViewer_46
      · have hF := if_p hF c10
        refine lv_iconst (v := 0) hx hb dX3_readViewer_31 (by decide) ?_
        obtain rfl := so_o hF
        rw [hQQ]
        exact kr_z (v := (0 : Int32)) hx hb hr hlocks rfl hP hD hS dX3_readViewer_32
    · have hF := if_n hF c3
      refine lv_aload_n hx hb dX3_readViewer_13 rfl (lv_at hl 0 rfl) ?_
      refine lv_bipush (v := -5) hx hb dX3_readViewer_14 (by decide) ?_
      refine lv_iload_n hx hb dX3_readViewer_16 rfl (lv_at hl 1 rfl) ?_
      obtain ⟨r28, o29, o30, h31, hF⟩ := bn3_o hF
      refine kd_i [(q_o, .inr (3, [.ref q_o_show, x_o_filled, .int o29, .int o30, .ref q_o_bytes, .int o_end, .int o_at, .int o_number, x_o_planesTold, x_o_reachTold, x_o_lengthTold, x_o_priceTold])), (q_o_show, .inr (4, [x_o_show_box, .ref q_o_show_crowd])), (q_o_show_crowd, .inr (1, [.int o_show_crowd_viewers, x_o_show_crowd_lookLength, x_o_show_crowd_time, x_o_show_crowd_lookers, .ref q_o_show_crowd_facts])), (q_o_show_crowd_facts, .inl (cy 0, 140, .inl o_show_crowd_facts)), (q_o_bytes, .inl (cy 1, 800, .inl o_bytes))] (va_runV (As := [.int (-5 : Int32), .int p1]) (rest := []) ⟨hx, hb, hml, hown, hts⟩ (c_X3_fail q_o H.size (.ref q_o_show) x_o_filled (.ref q_o_bytes) (.int o_end) (.int o_at) (.int o_number) x_o_planesTold x_o_reachTold x_o_lengthTold x_o_priceTold o_error o_errorAt (-5 : Int32) p1 _ h31) (cwV 2 hts gX3_readViewer_X3_fail rfl rfl rfl kd_X3_fail ⟨Nat.le_of_ble_eq_true rfl, Nat.le_of_ble_eq_true rfl⟩) ⟨kP_blind (EN_ok D cy) D _ _ _, va_recv hK hP (ci := 3) (q0 := 0) rfl rfl, kStart (EN_ok D cy) hE hP hD hS hA [0] rfl rfl _⟩ rfl rfl hl.1 rfl (lv_room (Nat.le_of_ble_eq_true rfl)) dX3_readViewer_17 ⟨Nat.zero_le _, Nat.zero_le _⟩) hP hD hS hA [0] [1, 2, 3, 4] rfl rfl rfl 5 rfl (by decide +kernel) (fun H locs hP hD hS => ?_)
      obtain ⟨h32, hF⟩ := ck_o hF
      obtain rfl := so_o hF
      rw [hQQ]
      exact kr_z (v := r28) hx hb hr hlocks (by rcases h32 with h9 | h9 <;> rw [h9] <;> rfl) hP hD hS dX3_readViewer_20
  exact main s.heap [] ls hP hD hS hl
