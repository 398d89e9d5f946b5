/-! contracts of the law's own reading methods, written by program (lg.py) -/
theorem kd_X10_on : yX10_on.cls = RX10 ∧ yX10_on.cls ≠ "java/lang/invoke/MethodHandle" ∧ yX10_on.cls ≠ "java/lang/invoke/VarHandle" ∧ (parseMethodDescriptor yX10_on.desc).map (fun d => d.parameters.length) = some 3 := by decide +kernel
set_option maxHeartbeats 4000000 in
set_option maxRecDepth 100000 in
theorem c_X10_on {l : Launch} {D : va_G} {cy : Nat → ClassId} (G : LG) (a qV sz : Nat) (p1 : Int32) (p2 : Int32) (p3 : Int32) (res : Int32) (hF : X10_on G p1 p2 p3 = some res) : Met l yX10_on wsX10_on ({ frames := 0, cells := 0, slots := 0, locals := 0 } : Room) (kP (EG D cy G a qV) D [.ref a, .int p1, .int p2, .int p3] ([] : va_W) sz) (kQi D res ([] : va_W) (va_A ([] : va_W) sz)) 0 0 (va_A ([] : va_W) sz) := by
  refine kMet (y := yX10_on) (av := [.ref a, .int p1, .int p2, .int p3]) (cc := cX10_on) (maxL := 4) (ret := some .int) (own := RX10) (Qc := fun A9 => (kQi D res ([] : va_W) A9)) (by decide) rfl rfl (Nat.le_of_ble_eq_true rfl) ?_
  intro p e s m args below meth c A hx hb hr hts hown hml hlocks hname hEG hP hD hA hsz ls hl
  have hN := hEG.1
  obtain ⟨qP, qU, qH, qG, vT, rP, rH, rG, rL, rN, g0, g1, g2, g3, g4, g5, g6, g7, g8, g9, g10⟩ := hEG.2
  have hK := hN.1
  have hl : lv_has ls 4 [(0, .ref a), (1, .int p1), (2, .int p2), (3, .int p3)] := hl
  have hS : va_S A s.heap s.heap [] := va_S.rf
  have f_f24 := hts (.fieldLink RX10 24 "PeepBoxLaw$Show" "planes" "[[Ljava/lang/String;") (by decide +kernel)
  have f_inX10 : ∀ w ∈ wsX100, w ∈ wsX10_on := by decide +kernel
  obtain ⟨QQ, hQQ⟩ : ∃ Q9, Q9 = MQ below (kQi D res ([] : va_W) A) args s 0 0 A := ⟨_, rfl⟩
  rw [← hQQ]
  have main : ∀ (H : Heap) (locs : List Loc) (ls : Array Slot), va_P D vwCl ([] : va_W) H → va_D A ([] : va_W) → va_S A s.heap H locs → lv_has ls 4 [(0, .ref a), (1, .int p1), (2, .int p2), (3, .int p3)] → W p l e ({ frames := 0, cells := 0, slots := 0, locals := 0 } : Room) s m args below meth c H locs 0 0 QQ (F0 m 0 ls []) := by
    intro H locs ls hP hD hS hl
    unfold X10_on at hF
    refine lv_iload_n hx hb dX10_on_0 rfl (lv_at hl 1 rfl) ?_
    refine lv_iload_n hx hb dX10_on_1 rfl (lv_at hl 2 rfl) ?_
    refine lv_iload_n hx hb dX10_on_2 rfl (lv_at hl 1 rfl) ?_
    refine lv_isub hx hb dX10_on_3 ?_
    refine lv_iload_n hx hb dX10_on_4 rfl (lv_at hl 3 rfl) ?_
    refine lv_iconst (v := 1) hx hb dX10_on_5 (by decide) ?_
    refine lv_iadd hx hb dX10_on_6 ?_
    refine lv_imul hx hb dX10_on_7 ?_
    refine lv_aload_n hx hb dX10_on_8 rfl (lv_at hl 0 rfl) ?_
    refine va_get (D := D) (ci := 10) (v := .ref qP) (C := RX10) (T := TX10) (N := 11) hx hb hts f_inX10 hown hK (g0.P hS) 0 rfl rfl 5 (by decide) f_f24 (fun _ h9 => h9) rfl dX10_on_9 ?_
    refine va_alen hx hb hK (g1.P hS) 0 7 rfl rfl (v := nI (shZ G 2)) rfl dX10_on_12 ?_
    obtain ⟨h1, hF⟩ := ck_o hF
    refine lv_idiv hx hb dX10_on_13 h1 ?_
    refine lv_iadd hx hb dX10_on_14 ?_
    obtain rfl := so_o hF
    rw [hQQ]
    exact kr_i hx hb hr hlocks hP hD hS dX10_on_15
  exact main s.heap [] ls hP hD hS hl
theorem kd_X10_stands : yX10_stands.cls = RX10 ∧ yX10_stands.cls ≠ "java/lang/invoke/MethodHandle" ∧ yX10_stands.cls ≠ "java/lang/invoke/VarHandle" ∧ (parseMethodDescriptor yX10_stands.desc).map (fun d => d.parameters.length) = some 3 := by decide +kernel
set_option maxHeartbeats 4000000 in
set_option maxRecDepth 100000 in
theorem c_X10_stands {l : Launch} {D : va_G} {cy : Nat → ClassId} (G : LG) (a qV sz : Nat) (p1 : Int32) (p2 : Int32) (p3 : Int32) (res : Int32) (hF : X10_stands G p1 p2 p3 = some res) : Met l yX10_stands wsX10_stands ({ frames := 4, cells := 0, slots := 0, locals := 101 } : Room) (kP (EG D cy G a qV) D [.ref a, .int p1, .int p2, .int p3] ([] : va_W) sz) (kQi D res ([] : va_W) (va_A ([] : va_W) sz)) 0 0 (va_A ([] : va_W) sz) := by
  refine kMet (y := yX10_stands) (av := [.ref a, .int p1, .int p2, .int p3]) (cc := cX10_stands) (maxL := 4) (ret := some .char) (own := RX10) (Qc := fun A9 => (kQi D res ([] : va_W) A9)) (by decide) rfl rfl (Nat.le_of_ble_eq_true rfl) ?_
  intro p e s m args below meth c A hx hb hr hts hown hml hlocks hname hEG hP hD hA hsz ls hl
  have hN := hEG.1
  obtain ⟨qP, qU, qH, qG, vT, rP, rH, rG, rL, rN, g0, g1, g2, g3, g4, g5, g6, g7, g8, g9, g10⟩ := hEG.2
  have hK := hN.1
  have hl : lv_has ls 4 [(0, .ref a), (1, .int p1), (2, .int p2), (3, .int p3)] := hl
  have hS : va_S A s.heap s.heap [] := va_S.rf
  have f_f28 := hts (.fieldLink RX10 28 "PeepBoxLaw$Show" "pulls" "[I") (by decide +kernel)
  have f_inX10 : ∀ w ∈ wsX100, w ∈ wsX10_stands := by decide +kernel
  have f_f13 := hts (.fieldLink RX10 13 "PeepBoxLaw$Show" "height" "I") (by decide +kernel)
  have f_f24 := hts (.fieldLink RX10 24 "PeepBoxLaw$Show" "planes" "[[Ljava/lang/String;") (by decide +kernel)
  obtain ⟨QQ, hQQ⟩ : ∃ Q9, Q9 = MQ below (kQi D res ([] : va_W) A) args s 0 0 A := ⟨_, rfl⟩
  rw [← hQQ]
  have main : ∀ (H : Heap) (locs : List Loc) (ls : Array Slot), va_P D vwCl ([] : va_W) H → va_D A ([] : va_W) → va_S A s.heap H locs → lv_has ls 4 [(0, .ref a), (1, .int p1), (2, .int p2), (3, .int p3)] → W p l e ({ frames := 4, cells := 0, slots := 0, locals := 101 } : Room) s m args below meth c H locs 0 0 QQ (F0 m 0 ls []) := by
    intro H locs ls hP hD hS hl
    unfold X10_stands at hF
    refine lv_iload_n hx hb dX10_stands_0 rfl (lv_at hl 3 rfl) ?_
    refine lv_aload_n hx hb dX10_stands_1 rfl (lv_at hl 0 rfl) ?_
    refine va_get (D := D) (ci := 10) (v := .ref qU) (C := RX10) (T := TX10) (N := 11) hx hb hts f_inX10 hown hK (g0.P hS) 0 rfl rfl 6 (by decide) f_f28 (fun _ h9 => h9) rfl dX10_stands_2 ?_
    refine lv_iload_n hx hb dX10_stands_5 rfl (lv_at hl 1 rfl) ?_
    obtain ⟨h1, hF⟩ := ld_o hF
    refine va_iald hx hb hK (g4.P hS) 0 0 rfl rfl h1 dX10_stands_6 ?_
    refine lv_topi (fun v2 ev2 => ?_)
    have hF := hF v2 ev2
    refine lv_iadd hx hb dX10_stands_7 ?_
    refine lv_aload_n hx hb dX10_stands_8 rfl (lv_at hl 0 rfl) ?_
    refine va_get (D := D) (ci := 10) (v := .int (nI (shZ G 1))) (C := RX10) (T := TX10) (N := 11) hx hb hts f_inX10 hown hK (g0.P hS) 0 rfl rfl 1 (by decide) f_f13 (fun _ h9 => h9) rfl dX10_stands_9 ?_
    refine lv_icmp_lt (tgt := 20) hx hb dX10_stands_12 (by decide) (fun h3 => ?_) (fun h3 => ?_)
    · have hF := if_p hF h3
      refine lv_aload_n hx hb dX10_stands_20 rfl (lv_at hl 0 rfl) ?_
      refine va_get (D := D) (ci := 10) (v := .ref qP) (C := RX10) (T := TX10) (N := 11) hx hb hts f_inX10 hown hK (g0.P hS) 0 rfl rfl 5 (by decide) f_f24 (fun _ h9 => h9) rfl dX10_stands_21 ?_
      refine lv_iload_n hx hb dX10_stands_24 rfl (lv_at hl 1 rfl) ?_
      obtain ⟨h4, hF⟩ := ck_o hF
      refine kg_alda hx hb hK (g1.P hS) 0 7 rfl rfl h4 dX10_stands_25 ?_
      show W p l e ({ frames := 4, cells := 0, slots := 0, locals := 101 } : Room) s m args below meth c H locs _ _ QQ (F0 m 26 ls [.ref (rP p1.toNatClampNeg)])
      refine lv_iload_n hx hb dX10_stands_26 rfl (lv_at hl 3 rfl) ?_
      refine lv_aload_n hx hb dX10_stands_27 rfl (lv_at hl 0 rfl) ?_
      refine va_get (D := D) (ci := 10) (v := .ref qU) (C := RX10) (T := TX10) (N := 11) hx hb hts f_inX10 hown hK (g0.P hS) 0 rfl rfl 6 (by decide) f_f28 (fun _ h9 => h9) rfl dX10_stands_28 ?_
      refine lv_iload_n hx hb dX10_stands_31 rfl (lv_at hl 1 rfl) ?_
      obtain ⟨h5, hF⟩ := ld_o hF
      refine va_iald hx hb hK (g4.P hS) 0 0 rfl rfl h5 dX10_stands_32 ?_
      refine lv_topi (fun v6 ev6 => ?_)
      have hF := hF v6 ev6
      refine lv_iadd hx hb dX10_stands_33 ?_
      obtain ⟨h7, hF⟩ := ck_o hF
      refine va_aldq hx hb hK ((g2 _ (kg_lt h4)).P hS) 0 6 rfl rfl h7 dX10_stands_34 ?_
      have hTa8 := g3 _ (kg_lt h4) _ (kg_lt h7)
      show W p l e ({ frames := 4, cells := 0, slots := 0, locals := 101 } : Room) s m args below meth c H locs _ _ QQ (F0 m 35 ls [.ref (rL p1.toNatClampNeg (p3 + v6).toNatClampNeg)])
      refine lv_iload_n hx hb dX10_stands_35 rfl (lv_at hl 2 rfl) ?_
      obtain ⟨r10, h9, hF⟩ := bn1_o hF
      refine kg_i (va_runV (As := [.int p2]) (rest := []) ⟨hx, hb, hml, hown, hts⟩ (c_J0_charAt_5068e H.size (shT G p1.toNatClampNeg (p3 + v6).toNatClampNeg) (rL p1.toNatClampNeg (p3 + v6).toNatClampNeg) p2 _ h9) (cwV 1 hts gX10_stands_J0_charAt_5068e rfl rfl rfl kd_J0_charAt_5068e ⟨Nat.le_of_ble_eq_true rfl, Nat.le_of_ble_eq_true rfl⟩) ⟨kP_blind (ES_ok D cy (shT G p1.toNatClampNeg (p3 + v6).toNatClampNeg) (rL p1.toNatClampNeg (p3 + v6).toNatClampNeg)) D _ _ _, kStr_recv hTa8 hS, kStart (ES_ok D cy (shT G p1.toNatClampNeg (p3 + v6).toNatClampNeg) (rL p1.toNatClampNeg (p3 + v6).toNatClampNeg)) (show ES D cy (shT G p1.toNatClampNeg (p3 + v6).toNatClampNeg) (rL p1.toNatClampNeg (p3 + v6).toNatClampNeg) A s s.heap from ⟨hN, hTa8⟩) hP hD hS hA [] rfl rfl _⟩ rfl rfl hl.1 rfl (lv_room (Nat.le_of_ble_eq_true rfl)) dX10_stands_36 ⟨Nat.zero_le _, Nat.zero_le _⟩) hP hD hS hA (fun H locs hP hD hS => ?_)
      obtain ⟨h11, hF⟩ := ck_o hF
      obtain rfl := so_o hF
      rw [hQQ]
      exact kr_z hx hb hr hlocks (kg_char h11) hP hD hS dX10_stands_39
    · have hF := if_n hF h3
      refine lv_bipush (v := 46) hx hb dX10_stands_15 (by decide) ?_
      refine lv_goto (tgt := 39) hx hb dX10_stands_17 (by decide) ?_
      obtain rfl := so_o hF
      rw [hQQ]
      exact kr_z (v := (46 : Int32)) hx hb hr hlocks rfl hP hD hS dX10_stands_39
  exact main s.heap [] ls hP hD hS hl
theorem kd_X10_sees : yX10_sees.cls = RX10 ∧ yX10_sees.cls ≠ "java/lang/invoke/MethodHandle" ∧ yX10_sees.cls ≠ "java/lang/invoke/VarHandle" ∧ (parseMethodDescriptor yX10_sees.desc).map (fun d => d.parameters.length) = some 3 := by decide +kernel
set_option maxHeartbeats 4000000 in
set_option maxRecDepth 100000 in
theorem c_X10_sees {l : Launch} {D : va_G} {cy : Nat → ClassId} (G : LG) (a qV sz : Nat) (p1 : Int32) (p2 : Int32) (p3 : Int32) (res : Int32) (hF : X10_sees G p1 p2 p3 = some res) : Met l yX10_sees wsX10_sees ({ frames := 5, cells := 0, slots := 0, locals := 124 } : Room) (kP (EG D cy G a qV) D [.ref a, .int p1, .int p2, .int p3] ([] : va_W) sz) (kQi D res ([] : va_W) (va_A ([] : va_W) sz)) 0 0 (va_A ([] : va_W) sz) := by
  refine kMet (y := yX10_sees) (av := [.ref a, .int p1, .int p2, .int p3]) (cc := cX10_sees) (maxL := 6) (ret := some .int) (own := RX10) (Qc := fun A9 => (kQi D res ([] : va_W) A9)) (by decide) rfl rfl (Nat.le_of_ble_eq_true rfl) ?_
  intro p e s m args below meth c A hx hb hr hts hown hml hlocks hname hEG hP hD hA hsz ls hl
  have hN := hEG.1
  obtain ⟨qP, qU, qH, qG, vT, rP, rH, rG, rL, rN, g0, g1, g2, g3, g4, g5, g6, g7, g8, g9, g10⟩ := hEG.2
  have hK := hN.1
  have hl : lv_has ls 6 [(0, .ref a), (1, .int p1), (2, .int p2), (3, .int p3)] := hl
  have hS : va_S A s.heap s.heap [] := va_S.rf
  have f_f24 := hts (.fieldLink RX10 24 "PeepBoxLaw$Show" "planes" "[[Ljava/lang/String;") (by decide +kernel)
  have f_inX10 : ∀ w ∈ wsX100, w ∈ wsX10_sees := by decide +kernel
  have f_f33 := hts (.fieldLink RX10 33 "PeepBoxLaw$Show" "holes" "[[I") (by decide +kernel)
  obtain ⟨QQ, hQQ⟩ : ∃ Q9, Q9 = MQ below (kQi D res ([] : va_W) A) args s 0 0 A := ⟨_, rfl⟩
  rw [← hQQ]
  have J3 : ∀ (n3 : Nat) (l4 : Int32) (H : Heap) (locs : List Loc) (ls : Array Slot), va_P D vwCl ([] : va_W) H → va_D A ([] : va_W) → va_S A s.heap H locs → lv_has ls 6 [(0, .ref a), (1, .int p1), (2, .int p2), (3, .int p3), (4, .int l4)] → X10_sees_L3 G p1 p2 p3 n3 l4 = some res → W p l e ({ frames := 5, cells := 0, slots := 0, locals := 124 } : Room) s m args below meth c H locs 0 0 QQ (F0 m 3 ls []) := by
    intro n3
    induction n3 with
    | zero =>
      intro l4 H locs ls hP hD hS hl hF
      rw [X10_sees_L3] at hF
      cases hF
    | succ n3 ih3 =>
      intro l4 H locs ls hP hD hS hl hF
      rw [X10_sees_L3] at hF
      refine lv_iload hx hb dX10_sees_3 (lv_at hl 4 rfl) ?_
      refine lv_aload_n hx hb dX10_sees_5 rfl (lv_at hl 0 rfl) ?_
      refine va_get (D := D) (ci := 10) (v := .ref qP) (C := RX10) (T := TX10) (N := 11) hx hb hts f_inX10 hown hK (g0.P hS) 0 rfl rfl 5 (by decide) f_f24 (fun _ h9 => h9) rfl dX10_sees_6 ?_
      refine va_alen hx hb hK (g1.P hS) 0 7 rfl rfl (v := nI (shZ G 2)) rfl dX10_sees_9 ?_
      refine lv_icmp_ge (tgt := 76) hx hb dX10_sees_10 (by decide) (fun h1 => ?_) (fun h1 => ?_)
      · have hF := if_p hF h1
        refine lv_iconst (v := -1) hx hb dX10_sees_76 (by decide) ?_
        obtain rfl := so_o hF
        rw [hQQ]
        exact kr_i hx hb hr hlocks hP hD hS dX10_sees_77
      · have hF := if_n hF h1
        refine lv_aload_n hx hb dX10_sees_13 rfl (lv_at hl 0 rfl) ?_
        refine lv_iload hx hb dX10_sees_14 (lv_at hl 4 rfl) ?_
        refine lv_aload_n hx hb dX10_sees_16 rfl (lv_at hl 0 rfl) ?_
        refine lv_aload_n hx hb dX10_sees_17 rfl (lv_at hl 0 rfl) ?_
        refine va_get (D := D) (ci := 10) (v := .ref qH) (C := RX10) (T := TX10) (N := 11) hx hb hts f_inX10 hown hK (g0.P hS) 0 rfl rfl 7 (by decide) f_f33 (fun _ h9 => h9) rfl dX10_sees_18 ?_
        refine lv_iload_n hx hb dX10_sees_21 rfl (lv_at hl 1 rfl) ?_
        obtain ⟨h2, hF⟩ := ck_o hF
        refine kg_alda hx hb hK (g5.P hS) 0 4 rfl rfl h2 dX10_sees_22 ?_
        show W p l e ({ frames := 5, cells := 0, slots := 0, locals := 124 } : Room) s m args below meth c H locs _ _ QQ (F0 m 23 ls [.ref (rH p1.toNatClampNeg), .ref a, .int l4, .ref a])
        refine lv_iconst (v := 0) hx hb dX10_sees_23 (by decide) ?_
        obtain ⟨h3, hF⟩ := ld_o hF
        refine va_iald hx hb hK ((g6 _ (kg_lt h2)).P hS) 0 0 rfl rfl h3 dX10_sees_24 ?_
        refine lv_topi (fun v4 ev4 => ?_)
        have hF := hF v4 ev4
        refine lv_iload_n hx hb dX10_sees_25 rfl (lv_at hl 2 rfl) ?_
        refine lv_iload hx hb dX10_sees_26 (lv_at hl 4 rfl) ?_
        obtain ⟨r6, h5, hF⟩ := bn1_o hF
        refine kg_i (va_runV (As := [.int v4, .int p2, .int l4]) (rest := [.int l4, .ref a]) ⟨hx, hb, hml, hown, hts⟩ (c_X10_on G a qV H.size v4 p2 l4 _ h5) (cwV 3 hts gX10_sees_X10_on rfl rfl rfl kd_X10_on ⟨Nat.le_of_ble_eq_true rfl, Nat.le_of_ble_eq_true rfl⟩) ⟨kP_blind (EG_ok D cy G a qV) D _ _ _, va_recv hK (g0.P hS) (ci := 10) (q0 := 0) rfl rfl, kStart (EG_ok D cy G a qV) hEG hP hD hS hA [] rfl rfl _⟩ rfl rfl hl.1 rfl (lv_room (Nat.le_of_ble_eq_true rfl)) dX10_sees_28 ⟨Nat.zero_le _, Nat.zero_le _⟩) hP hD hS hA (fun H locs hP hD hS => ?_)
        refine lv_aload_n hx hb dX10_sees_31 rfl (lv_at hl 0 rfl) ?_
        refine lv_aload_n hx hb dX10_sees_32 rfl (lv_at hl 0 rfl) ?_
        refine va_get (D := D) (ci := 10) (v := .ref qH) (C := RX10) (T := TX10) (N := 11) hx hb hts f_inX10 hown hK (g0.P hS) 0 rfl rfl 7 (by decide) f_f33 (fun _ h9 => h9) rfl dX10_sees_33 ?_
        refine lv_iload_n hx hb dX10_sees_36 rfl (lv_at hl 1 rfl) ?_
        obtain ⟨h7, hF⟩ := ck_o hF
        refine kg_alda hx hb hK (g5.P hS) 0 4 rfl rfl h7 dX10_sees_37 ?_
        show W p l e ({ frames := 5, cells := 0, slots := 0, locals := 124 } : Room) s m args below meth c H locs _ _ QQ (F0 m 38 ls [.ref (rH p1.toNatClampNeg), .ref a, .int r6, .int l4, .ref a])
        refine lv_iconst (v := 1) hx hb dX10_sees_38 (by decide) ?_
        obtain ⟨h8, hF⟩ := ld_o hF
        refine va_iald hx hb hK ((g6 _ (kg_lt h7)).P hS) 0 0 rfl rfl h8 dX10_sees_39 ?_
        refine lv_topi (fun v9 ev9 => ?_)
        have hF := hF v9 ev9
        refine lv_iload_n hx hb dX10_sees_40 rfl (lv_at hl 3 rfl) ?_
        refine lv_iload hx hb dX10_sees_41 (lv_at hl 4 rfl) ?_
        obtain ⟨r11, h10, hF⟩ := bn1_o hF
        refine kg_i (va_runV (As := [.int v9, .int p3, .int l4]) (rest := [.int r6, .int l4, .ref a]) ⟨hx, hb, hml, hown, hts⟩ (c_X10_on G a qV H.size v9 p3 l4 _ h10) (cwV 3 hts gX10_sees_X10_on rfl rfl rfl kd_X10_on ⟨Nat.le_of_ble_eq_true rfl, Nat.le_of_ble_eq_true rfl⟩) ⟨kP_blind (EG_ok D cy G a qV) D _ _ _, va_recv hK (g0.P hS) (ci := 10) (q0 := 0) rfl rfl, kStart (EG_ok D cy G a qV) hEG hP hD hS hA [] rfl rfl _⟩ rfl rfl hl.1 rfl (lv_room (Nat.le_of_ble_eq_true rfl)) dX10_sees_43 ⟨Nat.zero_le _, Nat.zero_le _⟩) hP hD hS hA (fun H locs hP hD hS => ?_)
        obtain ⟨r13, h12, hF⟩ := bn1_o hF
        refine kg_i (va_runV (As := [.int l4, .int r6, .int r11]) (rest := []) ⟨hx, hb, hml, hown, hts⟩ (c_X10_stands G a qV H.size l4 r6 r11 _ h12) (cwV 3 hts gX10_sees_X10_stands rfl rfl rfl kd_X10_stands ⟨Nat.le_of_ble_eq_true rfl, Nat.le_of_ble_eq_true rfl⟩) ⟨kP_blind (EG_ok D cy G a qV) D _ _ _, va_recv hK (g0.P hS) (ci := 10) (q0 := 0) rfl rfl, kStart (EG_ok D cy G a qV) hEG hP hD hS hA [] rfl rfl _⟩ rfl rfl hl.1 rfl (lv_room (Nat.le_of_ble_eq_true rfl)) dX10_sees_46 ⟨Nat.zero_le _, Nat.zero_le _⟩) hP hD hS hA (fun H locs hP hD hS => ?_)
        refine lv_istore (lv' := [(5, .int r13), (0, .ref a), (1, .int p1), (2, .int p2), (3, .int p3), (4, .int l4)]) hx hb dX10_sees_49 hl (by decide) rfl (fun ls hl => ?_)
        refine lv_iload hx hb dX10_sees_51 (lv_at hl 0 rfl) ?_
        refine lv_bipush (v := 46) hx hb dX10_sees_53 (by decide) ?_
        refine lv_icmp_eq (tgt := 70) hx hb dX10_sees_55 (by decide) (fun h14 => ?_) (fun h14 => ?_)
        · have hF := if_p hF h14
          obtain ⟨v15, ev15⟩ : ∃ y : Int32, y = l4 + (1 : Int32) := ⟨_, rfl⟩
          have hF := nm_o hF v15 ev15
          refine lv_iinc (v := v15) (lv' := [(4, .int v15), (5, .int r13), (0, .ref a), (1, .int p1), (2, .int p2), (3, .int p3)]) hx hb dX10_sees_70 hl (k := 5) rfl (by rw [ev15]; rfl) (by decide) rfl (fun ls hl => ?_)
          refine lv_goto (tgt := 3) hx hb dX10_sees_73 (by decide) ?_
          exact ih3 v15 H locs ls hP hD hS (lv_sub hl [2, 3, 4, 5, 0] rfl) hF
        · have hF := if_n hF h14
          refine lv_bipush (v := 100) hx hb dX10_sees_58 (by decide) ?_
          refine lv_iload hx hb dX10_sees_60 (lv_at hl 5 rfl) ?_
          refine lv_imul hx hb dX10_sees_62 ?_
          refine lv_iload hx hb dX10_sees_63 (lv_at hl 0 rfl) ?_
          refine lv_iadd hx hb dX10_sees_65 ?_
          refine lv_bipush (v := 97) hx hb dX10_sees_66 (by decide) ?_
          refine lv_isub hx hb dX10_sees_68 ?_
          obtain rfl := so_o hF
          rw [hQQ]
          exact kr_i hx hb hr hlocks hP hD hS dX10_sees_69
  have main : ∀ (H : Heap) (locs : List Loc) (ls : Array Slot), va_P D vwCl ([] : va_W) H → va_D A ([] : va_W) → va_S A s.heap H locs → lv_has ls 6 [(0, .ref a), (1, .int p1), (2, .int p2), (3, .int p3)] → W p l e ({ frames := 5, cells := 0, slots := 0, locals := 124 } : Room) s m args below meth c H locs 0 0 QQ (F0 m 0 ls []) := by
    intro H locs ls hP hD hS hl
    unfold X10_sees at hF
    refine lv_iconst (v := 0) hx hb dX10_sees_0 (by decide) ?_
    refine lv_istore (lv' := [(4, .int (0 : Int32)), (0, .ref a), (1, .int p1), (2, .int p2), (3, .int p3)]) hx hb dX10_sees_1 hl (by decide) rfl (fun ls hl => ?_)
    exact J3 FU (0 : Int32) H locs ls hP hD hS (lv_sub hl [1, 2, 3, 4, 0] rfl) hF
  exact main s.heap [] ls hP hD hS hl
theorem kd_X10_shown : yX10_shown.cls = RX10 ∧ yX10_shown.cls ≠ "java/lang/invoke/MethodHandle" ∧ yX10_shown.cls ≠ "java/lang/invoke/VarHandle" ∧ (parseMethodDescriptor yX10_shown.desc).map (fun d => d.parameters.length) = some 2 := by decide +kernel
set_option maxHeartbeats 4000000 in
set_option maxRecDepth 100000 in
theorem c_X10_shown {l : Launch} {D : va_G} {cy : Nat → ClassId} (G : LG) (a qV sz : Nat) (p1 : Int32) (p2 : Int32) (res : Int32) (hF : X10_shown G p1 p2 = some res) : Met l yX10_shown wsX10_shown ({ frames := 6, cells := 1, slots := 26, locals := 149 } : Room) (kP (EG D cy G a qV) D [.ref a, .int p1, .int p2] ([] : va_W) sz) (kQi D res ([] : va_W) (va_A ([] : va_W) sz)) 1 26 (va_A ([] : va_W) sz) := by
  refine kMet (y := yX10_shown) (av := [.ref a, .int p1, .int p2]) (cc := cX10_shown) (maxL := 11) (ret := some .int) (own := RX10) (Qc := fun A9 => (kQi D res ([] : va_W) A9)) (by decide) rfl rfl (Nat.le_of_ble_eq_true rfl) ?_
  intro p e s m args below meth c A hx hb hr hts hown hml hlocks hname hEG hP hD hA hsz ls hl
  have hN := hEG.1
  obtain ⟨qP, qU, qH, qG, vT, rP, rH, rG, rL, rN, g0, g1, g2, g3, g4, g5, g6, g7, g8, g9, g10⟩ := hEG.2
  have hK := hN.1
  have hl : lv_has ls 11 [(0, .ref a), (1, .int p1), (2, .int p2)] := hl
  have hS : va_S A s.heap s.heap [] := va_S.rf
  have f_aZ := hts (.arrayClass .boolean) (by decide +kernel)
  have f_f7 := hts (.fieldLink RX10 7 "PeepBoxLaw$Show" "width" "I") (by decide +kernel)
  have f_inX10 : ∀ w ∈ wsX100, w ∈ wsX10_shown := by decide +kernel
  have f_f13 := hts (.fieldLink RX10 13 "PeepBoxLaw$Show" "height" "I") (by decide +kernel)
  obtain ⟨QQ, hQQ⟩ : ∃ Q9, Q9 = MQ below (kQi D res ([] : va_W) A) args s 1 26 A := ⟨_, rfl⟩
  rw [← hQQ]
  have main : ∀ (H : Heap) (locs : List Loc) (ls : Array Slot), va_P D vwCl ([] : va_W) H → va_D A ([] : va_W) → va_S A s.heap H locs → lv_has ls 11 [(0, .ref a), (1, .int p1), (2, .int p2)] → W p l e ({ frames := 6, cells := 1, slots := 26, locals := 149 } : Room) s m args below meth c H locs 0 0 QQ (F0 m 0 ls []) := by
    intro H locs ls hP hD hS hl
    unfold X10_shown at hF
    refine lv_iconst (v := 0) hx hb dX10_shown_0 (by decide) ?_
    refine lv_istore_n (lv' := [(3, .int (0 : Int32)), (0, .ref a), (1, .int p1), (2, .int p2)]) hx hb dX10_shown_1 rfl hl (by decide) rfl (fun ls hl => ?_)
    refine lv_iconst (v := 0) hx hb dX10_shown_2 (by decide) ?_
    refine lv_istore (lv' := [(4, .int (0 : Int32)), (3, .int (0 : Int32)), (0, .ref a), (1, .int p1), (2, .int p2)]) hx hb dX10_shown_3 hl (by decide) rfl (fun ls hl => ?_)
    refine lv_bipush (v := 26) hx hb dX10_shown_5 (by decide) ?_
    refine va_newa (atype := .boolean) (N' := 26) (a0 := (26, .inl (fun _ => 0))) hx hb f_aZ rfl hK hP hD hS hA (fun _ => rfl) (by decide) (by decide) (by decide) (Nat.le_of_ble_eq_true rfl) (Nat.le_of_ble_eq_true rfl) dX10_shown_7 (fun q_t0 c_t0 H hKt hP hD hS => ?_)
    have g_t0 : True := trivial
    have hP : va_P D vwCl [(q_t0, .inl (c_t0, 26, .inl (fun _ => (0 : Int32))))] H := hP
    have hD : va_D A [(q_t0, .inl (c_t0, 26, .inl (fun _ => (0 : Int32))))] := hD
    have J111 : ∀ (n111 : Nat) (l3 : Int32) (l4 : Int32) (l6 : Int32) (l8 : Int32) (l9 : Int32) (ta : Nat → Int32) (H : Heap) (locs : List Loc) (ls : Array Slot), va_P D vwCl [(q_t0, .inl (c_t0, 26, .inl ta))] H → va_D A [(q_t0, .inl (c_t0, 26, .inl ta))] → va_S A s.heap H locs → lv_has ls 11 [(0, .ref a), (2, .int p2), (3, .int l3), (4, .int l4), (6, .int l6), (7, .ref q_t0), (8, .int l8), (9, .int l9)] → X10_shown_L111 G p1 p2 n111 l3 l4 l6 l8 l9 ta = some res → W p l e ({ frames := 6, cells := 1, slots := 26, locals := 149 } : Room) s m args below meth c H locs 1 26 QQ (F0 m 111 ls []) := by
      intro n111
      induction n111 with
      | zero =>
        intro l3 l4 l6 l8 l9 ta H locs ls hP hD hS hl hF
        rw [X10_shown_L111] at hF
        cases hF
      | succ n111 ih111 =>
        have J137 : ∀ (l3 : Int32) (l4 : Int32) (l8 : Int32) (l9 : Int32) (k0 : Int32) (k1 : Int32) (ta : Nat → Int32) (H : Heap) (locs : List Loc) (ls : Array Slot), va_P D vwCl [(q_t0, .inl (c_t0, 26, .inl ta))] H → va_D A [(q_t0, .inl (c_t0, 26, .inl ta))] → va_S A s.heap H locs → lv_has ls 11 [(0, .ref a), (2, .int p2), (3, .int l3), (4, .int l4), (7, .ref q_t0), (8, .int l8), (9, .int l9)] → X10_shown_J137 G p1 p2 (fun z0 z1 z2 z3 z4 z5 => X10_shown_L111 G p1 p2 n111 z0 z1 z2 z3 z4 z5) l3 l4 l8 l9 k0 k1 ta = some res → W p l e ({ frames := 6, cells := 1, slots := 26, locals := 149 } : Room) s m args below meth c H locs 1 26 QQ (F0 m 137 ls [.int k1, .int k0]) := by
          intro l3 l4 l8 l9 k0 k1 ta H locs ls hP hD hS hl hF
          unfold X10_shown_J137 at hF
          refine lv_iadd hx hb dX10_shown_137 ?_
          refine lv_topi (fun v1 ev1 => ?_)
          have hF := nm_o hF v1 ev1
          refine lv_istore (lv' := [(6, .int v1), (0, .ref a), (2, .int p2), (3, .int l3), (4, .int l4), (7, .ref q_t0), (8, .int l8), (9, .int l9)]) hx hb dX10_shown_138 hl (by decide) rfl (fun ls hl => ?_)
          obtain ⟨v2, ev2⟩ : ∃ y : Int32, y = l9 + (1 : Int32) := ⟨_, rfl⟩
          have hF := nm_o hF v2 ev2
          refine lv_iinc (v := v2) (lv' := [(9, .int v2), (6, .int v1), (0, .ref a), (2, .int p2), (3, .int l3), (4, .int l4), (7, .ref q_t0), (8, .int l8)]) hx hb dX10_shown_140 hl (k := 7) rfl (by rw [ev2]; rfl) (by decide) rfl (fun ls hl => ?_)
          refine lv_goto (tgt := 111) hx hb dX10_shown_143 (by decide) ?_
          exact ih111 l3 l4 v1 l8 v2 ta H locs ls hP hD hS (lv_sub hl [2, 3, 4, 5, 1, 6, 7, 0] rfl) hF
        intro l3 l4 l6 l8 l9 ta H locs ls hP hD hS hl hF
        rw [X10_shown_L111] at hF
        refine lv_iload hx hb dX10_shown_111 (lv_at hl 7 rfl) ?_
        refine lv_iload hx hb dX10_shown_113 (lv_at hl 6 rfl) ?_
        refine lv_icmp_ge (tgt := 146) hx hb dX10_shown_115 (by decide) (fun h3 => ?_) (fun h3 => ?_)
        · have hF := if_p hF h3
          refine lv_iload_n hx hb dX10_shown_146 rfl (lv_at hl 1 rfl) ?_
          refine lv_if_lt (tgt := 154) hx hb dX10_shown_147 (by decide) (fun h4 => ?_) (fun h4 => ?_)
          · have hF := if_p hF h4
            refine lv_iload_n hx hb dX10_shown_154 rfl (lv_at hl 1 rfl) ?_
            refine lv_iconst (v := -1) hx hb dX10_shown_155 (by decide) ?_
            refine lv_icmp_ne (tgt := 164) hx hb dX10_shown_156 (by decide) (fun h5 => ?_) (fun h5 => ?_)
            · have hF := if_n hF h5
              refine lv_iload hx hb dX10_shown_164 (lv_at hl 3 rfl) ?_
              refine lv_aload_n hx hb dX10_shown_166 rfl (lv_at hl 0 rfl) ?_
              refine va_get (D := D) (ci := 10) (v := .int (nI (shZ G 0))) (C := RX10) (T := TX10) (N := 11) hx hb hts f_inX10 hown hK (g0.P hS) 0 rfl rfl 0 (by decide) f_f7 (fun _ h9 => h9) rfl dX10_shown_167 ?_
              refine lv_aload_n hx hb dX10_shown_170 rfl (lv_at hl 0 rfl) ?_
              refine va_get (D := D) (ci := 10) (v := .int (nI (shZ G 1))) (C := RX10) (T := TX10) (N := 11) hx hb hts f_inX10 hown hK (g0.P hS) 0 rfl rfl 1 (by decide) f_f13 (fun _ h9 => h9) rfl dX10_shown_171 ?_
              refine lv_imul hx hb dX10_shown_174 ?_
              obtain ⟨h6, hF⟩ := ck_o hF
              refine lv_idiv hx hb dX10_shown_175 h6 ?_
              obtain rfl := so_o hF
              rw [hQQ]
              exact kr_i hx hb hr hlocks (hP.sub [] rfl) (hD.sub [] rfl rfl) hS dX10_shown_176
            · have hF := if_p hF h5
              refine lv_iload hx hb dX10_shown_159 (lv_at hl 4 rfl) ?_
              refine lv_goto (tgt := 176) hx hb dX10_shown_161 (by decide) ?_
              obtain rfl := so_o hF
              rw [hQQ]
              exact kr_i hx hb hr hlocks (hP.sub [] rfl) (hD.sub [] rfl rfl) hS dX10_shown_176
          · have hF := if_n hF h4
            refine lv_iload_n hx hb dX10_shown_150 rfl (lv_at hl 2 rfl) ?_
            refine lv_goto (tgt := 176) hx hb dX10_shown_151 (by decide) ?_
            obtain rfl := so_o hF
            rw [hQQ]
            exact kr_i hx hb hr hlocks (hP.sub [] rfl) (hD.sub [] rfl rfl) hS dX10_shown_176
        · have hF := if_n hF h3
          refine lv_aload hx hb dX10_shown_118 (lv_at hl 5 rfl) ?_
          refine lv_iload hx hb dX10_shown_120 (lv_at hl 7 rfl) ?_
          obtain ⟨h7, hF⟩ := ld_o hF
          refine va_zald hx hb hKt hP 0 10 rfl rfl h7 dX10_shown_122 ?_
          refine lv_topi (fun v8 ev8 => ?_)
          have hF := hF v8 ev8
          refine lv_istore (lv' := [(10, .int v8), (0, .ref a), (2, .int p2), (3, .int l3), (4, .int l4), (6, .int l6), (7, .ref q_t0), (8, .int l8), (9, .int l9)]) hx hb dX10_shown_123 hl (by decide) rfl (fun ls hl => ?_)
          refine lv_iload hx hb dX10_shown_125 (lv_at hl 5 rfl) ?_
          refine lv_iload hx hb dX10_shown_127 (lv_at hl 0 rfl) ?_
          refine lv_if_eq (tgt := 136) hx hb dX10_shown_129 (by decide) (fun h9 => ?_) (fun h9 => ?_)
          · have hF := if_p hF h9
            refine lv_iconst (v := 0) hx hb dX10_shown_136 (by decide) ?_
            exact J137 l3 l4 l8 l9 l6 (0 : Int32) ta H locs ls hP hD hS (lv_sub hl [1, 2, 3, 4, 6, 7, 8] rfl) hF
          · have hF := if_n hF h9
            refine lv_iconst (v := 1) hx hb dX10_shown_132 (by decide) ?_
            refine lv_goto (tgt := 137) hx hb dX10_shown_133 (by decide) ?_
            exact J137 l3 l4 l8 l9 l6 (1 : Int32) ta H locs ls hP hD hS (lv_sub hl [1, 2, 3, 4, 6, 7, 8] rfl) hF
    have J14 : ∀ (n14 : Nat) (l3 : Int32) (l4 : Int32) (l6 : Int32) (ta : Nat → Int32) (H : Heap) (locs : List Loc) (ls : Array Slot), va_P D vwCl [(q_t0, .inl (c_t0, 26, .inl ta))] H → va_D A [(q_t0, .inl (c_t0, 26, .inl ta))] → va_S A s.heap H locs → lv_has ls 11 [(0, .ref a), (1, .int p1), (2, .int p2), (3, .int l3), (4, .int l4), (5, .ref q_t0), (6, .int l6)] → X10_shown_L14 G p1 p2 n14 l3 l4 l6 ta = some res → W p l e ({ frames := 6, cells := 1, slots := 26, locals := 149 } : Room) s m args below meth c H locs 1 26 QQ (F0 m 14 ls []) := by
      intro n14
      induction n14 with
      | zero =>
        intro l3 l4 l6 ta H locs ls hP hD hS hl hF
        rw [X10_shown_L14] at hF
        cases hF
      | succ n14 ih14 =>
        have J26 : ∀ (n26 : Nat) (l3 : Int32) (l4 : Int32) (l6 : Int32) (l7 : Int32) (ta : Nat → Int32) (H : Heap) (locs : List Loc) (ls : Array Slot), va_P D vwCl [(q_t0, .inl (c_t0, 26, .inl ta))] H → va_D A [(q_t0, .inl (c_t0, 26, .inl ta))] → va_S A s.heap H locs → lv_has ls 11 [(0, .ref a), (1, .int p1), (2, .int p2), (3, .int l3), (4, .int l4), (5, .ref q_t0), (6, .int l6), (7, .int l7)] → X10_shown_L26 G p1 p2 (fun z0 z1 z2 z3 => X10_shown_L14 G p1 p2 n14 z0 z1 z2 z3) n26 l3 l4 l6 l7 ta = some res → W p l e ({ frames := 6, cells := 1, slots := 26, locals := 149 } : Room) s m args below meth c H locs 1 26 QQ (F0 m 26 ls []) := by
          intro n26
          induction n26 with
          | zero =>
            intro l3 l4 l6 l7 ta H locs ls hP hD hS hl hF
            rw [X10_shown_L26] at hF
            cases hF
          | succ n26 ih26 =>
            have J61 : ∀ (l4 : Int32) (l6 : Int32) (l7 : Int32) (l8 : Int32) (k0 : Int32) (k1 : Int32) (ta : Nat → Int32) (H : Heap) (locs : List Loc) (ls : Array Slot), va_P D vwCl [(q_t0, .inl (c_t0, 26, .inl ta))] H → va_D A [(q_t0, .inl (c_t0, 26, .inl ta))] → va_S A s.heap H locs → lv_has ls 11 [(0, .ref a), (1, .int p1), (2, .int p2), (4, .int l4), (5, .ref q_t0), (6, .int l6), (7, .int l7), (8, .int l8)] → X10_shown_J61 G p1 p2 (fun z0 z1 z2 z3 => X10_shown_L14 G p1 p2 n14 z0 z1 z2 z3) (fun z0 z1 z2 z3 z4 => X10_shown_L26 G p1 p2 (fun z0 z1 z2 z3 => X10_shown_L14 G p1 p2 n14 z0 z1 z2 z3) n26 z0 z1 z2 z3 z4) l4 l6 l7 l8 k0 k1 ta = some res → W p l e ({ frames := 6, cells := 1, slots := 26, locals := 149 } : Room) s m args below meth c H locs 1 26 QQ (F0 m 61 ls [.int k1, .int k0]) := by
              intro l4 l6 l7 l8 k0 k1 ta H locs ls hP hD hS hl hF
              unfold X10_shown_J61 at hF
              refine lv_iadd hx hb dX10_shown_61 ?_
              refine lv_topi (fun v10 ev10 => ?_)
              have hF := nm_o hF v10 ev10
              refine lv_istore_n (lv' := [(3, .int v10), (0, .ref a), (1, .int p1), (2, .int p2), (4, .int l4), (5, .ref q_t0), (6, .int l6), (7, .int l7), (8, .int l8)]) hx hb dX10_shown_62 rfl hl (by decide) rfl (fun ls hl => ?_)
              refine lv_iload hx hb dX10_shown_63 (lv_at hl 4 rfl) ?_
              refine lv_iload hx hb dX10_shown_65 (lv_at hl 8 rfl) ?_
              refine lv_bipush (v := 100) hx hb dX10_shown_67 (by decide) ?_
              refine lv_idiv hx hb dX10_shown_69 (by decide) ?_
              refine lv_iconst (v := 1) hx hb dX10_shown_70 (by decide) ?_
              refine lv_iadd hx hb dX10_shown_71 ?_
              refine lv_iadd hx hb dX10_shown_72 ?_
              refine lv_topi (fun v11 ev11 => ?_)
              have hF := nm_o hF v11 ev11
              refine lv_istore (lv' := [(4, .int v11), (3, .int v10), (0, .ref a), (1, .int p1), (2, .int p2), (5, .ref q_t0), (6, .int l6), (7, .int l7), (8, .int l8)]) hx hb dX10_shown_73 hl (by decide) rfl (fun ls hl => ?_)
              refine lv_aload hx hb dX10_shown_75 (lv_at hl 5 rfl) ?_
              refine lv_iload hx hb dX10_shown_77 (lv_at hl 8 rfl) ?_
              refine lv_bipush (v := 100) hx hb dX10_shown_79 (by decide) ?_
              refine lv_irem hx hb dX10_shown_81 (by decide) ?_
              refine lv_topi (fun v12 ev12 => ?_)
              have hF := nm_o hF v12 ev12
              refine lv_iconst (v := 1) hx hb dX10_shown_82 (by decide) ?_
              obtain ⟨h13, hF⟩ := st_o hF
              refine va_zast hx hb hKt hP hD hS 0 10 rfl rfl h13 dX10_shown_83 (fun H locs hP hD hS => ?_)
              obtain ⟨b14, eb14⟩ : ∃ y : Nat → Int32, y = (upd ta v12.toNatClampNeg (vp_nar .boolean (1 : Int32))) := ⟨_, rfl⟩
              have hF := hF b14 eb14
              have hP : va_P D vwCl [(q_t0, .inl (c_t0, 26, .inl b14))] H := by rw [eb14]; exact hP
              have hD : va_D A [(q_t0, .inl (c_t0, 26, .inl b14))] := by rw [eb14]; exact hD
              obtain ⟨v15, ev15⟩ : ∃ y : Int32, y = l7 + (1 : Int32) := ⟨_, rfl⟩
              have hF := nm_o hF v15 ev15
              refine lv_iinc (v := v15) (lv' := [(7, .int v15), (4, .int v11), (3, .int v10), (0, .ref a), (1, .int p1), (2, .int p2), (5, .ref q_t0), (6, .int l6), (8, .int l8)]) hx hb dX10_shown_84 hl (k := 7) rfl (by rw [ev15]; rfl) (by decide) rfl (fun ls hl => ?_)
              refine lv_goto (tgt := 26) hx hb dX10_shown_87 (by decide) ?_
              exact ih26 v10 v11 l6 v15 b14 H locs ls hP hD hS (lv_sub hl [3, 4, 5, 2, 1, 6, 7, 0] rfl) hF
            intro l3 l4 l6 l7 ta H locs ls hP hD hS hl hF
            rw [X10_shown_L26] at hF
            refine lv_iload hx hb dX10_shown_26 (lv_at hl 7 rfl) ?_
            refine lv_aload_n hx hb dX10_shown_28 rfl (lv_at hl 0 rfl) ?_
            refine va_get (D := D) (ci := 10) (v := .int (nI (shZ G 1))) (C := RX10) (T := TX10) (N := 11) hx hb hts f_inX10 hown hK (g0.P hS) 0 rfl rfl 1 (by decide) f_f13 (fun _ h9 => h9) rfl dX10_shown_29 ?_
            refine lv_icmp_ge (tgt := 90) hx hb dX10_shown_32 (by decide) (fun h16 => ?_) (fun h16 => ?_)
            · have hF := if_p hF h16
              obtain ⟨v17, ev17⟩ : ∃ y : Int32, y = l6 + (1 : Int32) := ⟨_, rfl⟩
              have hF := nm_o hF v17 ev17
              refine lv_iinc (v := v17) (lv' := [(6, .int v17), (0, .ref a), (1, .int p1), (2, .int p2), (3, .int l3), (4, .int l4), (5, .ref q_t0), (7, .int l7)]) hx hb dX10_shown_90 hl (k := 6) rfl (by rw [ev17]; rfl) (by decide) rfl (fun ls hl => ?_)
              refine lv_goto (tgt := 14) hx hb dX10_shown_93 (by decide) ?_
              exact ih14 l3 l4 v17 ta H locs ls hP hD hS (lv_sub hl [1, 2, 3, 4, 5, 6, 0] rfl) hF
            · have hF := if_n hF h16
              refine lv_aload_n hx hb dX10_shown_35 rfl (lv_at hl 0 rfl) ?_
              refine lv_iload_n hx hb dX10_shown_36 rfl (lv_at hl 1 rfl) ?_
              refine lv_iload hx hb dX10_shown_37 (lv_at hl 6 rfl) ?_
              refine lv_iload hx hb dX10_shown_39 (lv_at hl 7 rfl) ?_
              obtain ⟨r19, h18, hF⟩ := bn1_o hF
              refine kg_i (va_runV (As := [.int p1, .int l6, .int l7]) (rest := []) ⟨hx, hb, hml, hown, hts⟩ (c_X10_sees G a qV H.size p1 l6 l7 _ h18) (cwV 3 hts gX10_shown_X10_sees rfl rfl rfl kd_X10_sees ⟨Nat.le_of_ble_eq_true rfl, Nat.le_of_ble_eq_true rfl⟩) ⟨kP_blind (EG_ok D cy G a qV) D _ _ _, va_recv hK (g0.P hS) (ci := 10) (q0 := 0) rfl rfl, kStart (EG_ok D cy G a qV) hEG hP hD hS hA [] rfl rfl _⟩ rfl rfl hl.1 rfl (lv_room (Nat.le_of_ble_eq_true rfl)) dX10_shown_41 ⟨Nat.le_of_ble_eq_true rfl, Nat.le_of_ble_eq_true rfl⟩) hP hD hS hA (fun H locs hP hD hS => ?_)
              refine lv_istore (lv' := [(8, .int r19), (0, .ref a), (1, .int p1), (2, .int p2), (3, .int l3), (4, .int l4), (5, .ref q_t0), (6, .int l6), (7, .int l7)]) hx hb dX10_shown_44 hl (by decide) rfl (fun ls hl => ?_)
              refine lv_iload_n hx hb dX10_shown_46 rfl (lv_at hl 4 rfl) ?_
              refine lv_iload hx hb dX10_shown_47 (lv_at hl 0 rfl) ?_
              refine lv_bipush (v := 100) hx hb dX10_shown_49 (by decide) ?_
              refine lv_irem hx hb dX10_shown_51 (by decide) ?_
              refine lv_topi (fun v20 ev20 => ?_)
              have hF := nm_o hF v20 ev20
              refine lv_iload_n hx hb dX10_shown_52 rfl (lv_at hl 3 rfl) ?_
              refine lv_icmp_ne (tgt := 60) hx hb dX10_shown_53 (by decide) (fun h21 => ?_) (fun h21 => ?_)
              · have hF := if_n hF h21
                refine lv_iconst (v := 0) hx hb dX10_shown_60 (by decide) ?_
                exact J61 l4 l6 l7 r19 l3 (0 : Int32) ta H locs ls hP hD hS (lv_sub hl [1, 2, 3, 5, 6, 7, 8, 0] rfl) hF
              · have hF := if_p hF h21
                refine lv_iconst (v := 1) hx hb dX10_shown_56 (by decide) ?_
                refine lv_goto (tgt := 61) hx hb dX10_shown_57 (by decide) ?_
                exact J61 l4 l6 l7 r19 l3 (1 : Int32) ta H locs ls hP hD hS (lv_sub hl [1, 2, 3, 5, 6, 7, 8, 0] rfl) hF
        intro l3 l4 l6 ta H locs ls hP hD hS hl hF
        rw [X10_shown_L14] at hF
        refine lv_iload hx hb dX10_shown_14 (lv_at hl 6 rfl) ?_
        refine lv_aload_n hx hb dX10_shown_16 rfl (lv_at hl 0 rfl) ?_
        refine va_get (D := D) (ci := 10) (v := .int (nI (shZ G 0))) (C := RX10) (T := TX10) (N := 11) hx hb hts f_inX10 hown hK (g0.P hS) 0 rfl rfl 0 (by decide) f_f7 (fun _ h9 => h9) rfl dX10_shown_17 ?_
        refine lv_icmp_ge (tgt := 96) hx hb dX10_shown_20 (by decide) (fun h22 => ?_) (fun h22 => ?_)
        · have hF := if_p hF h22
          refine lv_iconst (v := 0) hx hb dX10_shown_96 (by decide) ?_
          refine lv_istore (lv' := [(6, .int (0 : Int32)), (0, .ref a), (1, .int p1), (2, .int p2), (3, .int l3), (4, .int l4), (5, .ref q_t0)]) hx hb dX10_shown_97 hl (by decide) rfl (fun ls hl => ?_)
          refine lv_aload hx hb dX10_shown_99 (lv_at hl 6 rfl) ?_
          refine lv_astore (lv' := [(7, .ref q_t0), (6, .int (0 : Int32)), (0, .ref a), (1, .int p1), (2, .int p2), (3, .int l3), (4, .int l4), (5, .ref q_t0)]) hx hb dX10_shown_101 hl (by decide) rfl (fun ls hl => ?_)
          refine lv_aload hx hb dX10_shown_103 (lv_at hl 0 rfl) ?_
          refine va_alen hx hb hKt hP 0 10 rfl rfl (v := 26) rfl dX10_shown_105 ?_
          refine lv_istore (lv' := [(8, .int (26 : Int32)), (7, .ref q_t0), (6, .int (0 : Int32)), (0, .ref a), (1, .int p1), (2, .int p2), (3, .int l3), (4, .int l4), (5, .ref q_t0)]) hx hb dX10_shown_106 hl (by decide) rfl (fun ls hl => ?_)
          refine lv_iconst (v := 0) hx hb dX10_shown_108 (by decide) ?_
          refine lv_istore (lv' := [(9, .int (0 : Int32)), (8, .int (26 : Int32)), (7, .ref q_t0), (6, .int (0 : Int32)), (0, .ref a), (1, .int p1), (2, .int p2), (3, .int l3), (4, .int l4), (5, .ref q_t0)]) hx hb dX10_shown_109 hl (by decide) rfl (fun ls hl => ?_)
          exact J111 FU l3 l4 (0 : Int32) (26 : Int32) (0 : Int32) ta H locs ls hP hD hS (lv_sub hl [4, 6, 7, 8, 3, 2, 1, 0] rfl) hF
        · have hF := if_n hF h22
          refine lv_iconst (v := 0) hx hb dX10_shown_23 (by decide) ?_
          refine lv_istore (lv' := [(7, .int (0 : Int32)), (0, .ref a), (1, .int p1), (2, .int p2), (3, .int l3), (4, .int l4), (5, .ref q_t0), (6, .int l6)]) hx hb dX10_shown_24 hl (by decide) rfl (fun ls hl => ?_)
          exact J26 FU l3 l4 l6 (0 : Int32) ta H locs ls hP hD hS (lv_sub hl [1, 2, 3, 4, 5, 6, 7, 0] rfl) hF
    refine lv_astore (lv' := [(5, .ref q_t0), (4, .int (0 : Int32)), (3, .int (0 : Int32)), (0, .ref a), (1, .int p1), (2, .int p2)]) hx hb dX10_shown_9 hl (by decide) rfl (fun ls hl => ?_)
    refine lv_iconst (v := 0) hx hb dX10_shown_11 (by decide) ?_
    refine lv_istore (lv' := [(6, .int (0 : Int32)), (5, .ref q_t0), (4, .int (0 : Int32)), (3, .int (0 : Int32)), (0, .ref a), (1, .int p1), (2, .int p2)]) hx hb dX10_shown_12 hl (by decide) rfl (fun ls hl => ?_)
    exact J14 FU (0 : Int32) (0 : Int32) (0 : Int32) (fun _ => (0 : Int32)) H locs ls hP hD hS (lv_sub hl [4, 5, 6, 3, 2, 1, 0] rfl) hF
  exact main s.heap [] ls hP hD hS hl
theorem kd_X10_canUse : yX10_canUse.cls = RX10 ∧ yX10_canUse.cls ≠ "java/lang/invoke/MethodHandle" ∧ yX10_canUse.cls ≠ "java/lang/invoke/VarHandle" ∧ (parseMethodDescriptor yX10_canUse.desc).map (fun d => d.parameters.length) = some 2 := by decide +kernel
set_option maxHeartbeats 4000000 in
set_option maxRecDepth 100000 in
theorem c_X10_canUse {l : Launch} {D : va_G} {cy : Nat → ClassId} (G : LG) (a qV x sz : Nat) (f : Nat → Int32) (p2 : Int32) (res : Int32) (hF : X10_canUse G f p2 = some res) : Met l yX10_canUse wsX10_canUse ({ frames := 1, cells := 0, slots := 0, locals := 30 } : Room) (kP (EU D cy G a qV x f) D [.ref a, .ref x, .int p2] ([] : va_W) sz) (kQi D res ([] : va_W) (va_A ([] : va_W) sz)) 0 0 (va_A ([] : va_W) sz) := by
  refine kMet (y := yX10_canUse) (av := [.ref a, .ref x, .int p2]) (cc := cX10_canUse) (maxL := 4) (ret := some .boolean) (own := RX10) (Qc := fun A9 => (kQi D res ([] : va_W) A9)) (by decide) rfl rfl (Nat.le_of_ble_eq_true rfl) ?_
  intro p e s m args below meth c A hx hb hr hts hown hml hlocks hname hEG hP hD hA hsz ls hl
  obtain ⟨hEG, gx⟩ := hEG
  have hN := hEG.1
  obtain ⟨qP, qU, qH, qG, vT, rP, rH, rG, rL, rN, g0, g1, g2, g3, g4, g5, g6, g7, g8, g9, g10⟩ := hEG.2
  have hK := hN.1
  have hl : lv_has ls 4 [(0, .ref a), (1, .ref x), (2, .int p2)] := hl
  have hS : va_S A s.heap s.heap [] := va_S.rf
  have f_f13 := hts (.fieldLink RX10 13 "PeepBoxLaw$Show" "height" "I") (by decide +kernel)
  have f_inX10 : ∀ w ∈ wsX100, w ∈ wsX10_canUse := by decide +kernel
  have f_f33 := hts (.fieldLink RX10 33 "PeepBoxLaw$Show" "holes" "[[I") (by decide +kernel)
  have f_f119 := hts (.fieldLink RX10 119 "PeepBoxLaw$Guest" "tall" "I") (by decide +kernel)
  have f_inX7 : ∀ w ∈ wsX70, w ∈ wsX10_canUse := by decide +kernel
  have f_m122 := hts (.methodLink RX10 122 Lib.Math.abs.name) (by decide +kernel)
  have f_s_va_mabs := hts (.static Lib.Math.abs.name) (by decide +kernel)
  have f_iMath := hts (.initialized "java/lang/Math") (by decide +kernel)
  have f_k_va_mabs := hts (.code Lib.Math.abs.name Lib.Math.abs.code 1 (some .int)) (by decide +kernel)
  have f_f16 := hts (.fieldLink RX10 16 "PeepBoxLaw$Show" "reach" "I") (by decide +kernel)
  obtain ⟨QQ, hQQ⟩ : ∃ Q9, Q9 = MQ below (kQi D res ([] : va_W) A) args s 0 0 A := ⟨_, rfl⟩
  rw [← hQQ]
  have main : ∀ (H : Heap) (locs : List Loc) (ls : Array Slot), va_P D vwCl ([] : va_W) H → va_D A ([] : va_W) → va_S A s.heap H locs → lv_has ls 4 [(0, .ref a), (1, .ref x), (2, .int p2)] → W p l e ({ frames := 1, cells := 0, slots := 0, locals := 30 } : Room) s m args below meth c H locs 0 0 QQ (F0 m 0 ls []) := by
    intro H locs ls hP hD hS hl
    unfold X10_canUse at hF
    refine lv_aload_n hx hb dX10_canUse_0 rfl (lv_at hl 0 rfl) ?_
    refine va_get (D := D) (ci := 10) (v := .int (nI (shZ G 1))) (C := RX10) (T := TX10) (N := 11) hx hb hts f_inX10 hown hK (g0.P hS) 0 rfl rfl 1 (by decide) f_f13 (fun _ h9 => h9) rfl dX10_canUse_1 ?_
    refine lv_iconst (v := 1) hx hb dX10_canUse_4 (by decide) ?_
    refine lv_isub hx hb dX10_canUse_5 ?_
    refine lv_aload_n hx hb dX10_canUse_6 rfl (lv_at hl 0 rfl) ?_
    refine va_get (D := D) (ci := 10) (v := .ref qH) (C := RX10) (T := TX10) (N := 11) hx hb hts f_inX10 hown hK (g0.P hS) 0 rfl rfl 7 (by decide) f_f33 (fun _ h9 => h9) rfl dX10_canUse_7 ?_
    refine lv_iload_n hx hb dX10_canUse_10 rfl (lv_at hl 2 rfl) ?_
    obtain ⟨h1, hF⟩ := ck_o hF
    refine kg_alda hx hb hK (g5.P hS) 0 4 rfl rfl h1 dX10_canUse_11 ?_
    show W p l e ({ frames := 1, cells := 0, slots := 0, locals := 30 } : Room) s m args below meth c H locs _ _ QQ (F0 m 12 ls [.ref (rH p2.toNatClampNeg), .int ((nI (shZ G 1)) - (1 : Int32))])
    refine lv_iconst (v := 1) hx hb dX10_canUse_12 (by decide) ?_
    obtain ⟨h2, hF⟩ := ld_o hF
    refine va_iald hx hb hK ((g6 _ (kg_lt h1)).P hS) 0 0 rfl rfl h2 dX10_canUse_13 ?_
    refine lv_topi (fun v3 ev3 => ?_)
    have hF := hF v3 ev3
    refine lv_isub hx hb dX10_canUse_14 ?_
    refine lv_topi (fun v4 ev4 => ?_)
    have hF := nm_o hF v4 ev4
    refine lv_istore_n (lv' := [(3, .int v4), (0, .ref a), (1, .ref x), (2, .int p2)]) hx hb dX10_canUse_15 rfl hl (by decide) rfl (fun ls hl => ?_)
    refine lv_aload_n hx hb dX10_canUse_16 rfl (lv_at hl 2 rfl) ?_
    refine va_get (D := D) (ci := 7) (v := .int (f 0)) (C := RX7) (T := TX7) (N := 7) hx hb hts f_inX7 hown hK (gx.P hS) 0 rfl rfl 0 (by decide) f_f119 (fun _ h9 => h9) rfl dX10_canUse_17 ?_
    refine lv_iload_n hx hb dX10_canUse_20 rfl (lv_at hl 0 rfl) ?_
    refine lv_isub hx hb dX10_canUse_21 ?_
    refine va_mabs hx hb (by rw [hml]; exact hl.1.symm) hown f_m122 f_s_va_mabs f_iMath f_k_va_mabs (Nat.le_of_ble_eq_true rfl) (Nat.le_of_ble_eq_true rfl) (Nat.zero_le _) (Nat.zero_le _) dX10_canUse_22 ?_
    refine lv_topi (fun v5 ev5 => ?_)
    have hF := nm_o hF v5 ev5
    refine lv_aload_n hx hb dX10_canUse_25 rfl (lv_at hl 1 rfl) ?_
    refine va_get (D := D) (ci := 10) (v := .int (shI G 0)) (C := RX10) (T := TX10) (N := 11) hx hb hts f_inX10 hown hK (g0.P hS) 0 rfl rfl 2 (by decide) f_f16 (fun _ h9 => h9) rfl dX10_canUse_26 ?_
    refine lv_icmp_gt (tgt := 36) hx hb dX10_canUse_29 (by decide) (fun h6 => ?_) (fun h6 => ?_)
    · have hF := if_p hF h6
      refine lv_iconst (v := 0) hx hb dX10_canUse_36 (by decide) ?_
      obtain rfl := so_o hF
      rw [hQQ]
      exact kr_z (v := (0 : Int32)) hx hb hr hlocks rfl hP hD hS dX10_canUse_37
    · have hF := if_n hF h6
      refine lv_iconst (v := 1) hx hb dX10_canUse_32 (by decide) ?_
      refine lv_goto (tgt := 37) hx hb dX10_canUse_33 (by decide) ?_
      obtain rfl := so_o hF
      rw [hQQ]
      exact kr_z (v := (1 : Int32)) hx hb hr hlocks rfl hP hD hS dX10_canUse_37
  exact main s.heap [] ls hP hD hS hl
theorem kd_X10_looker : yX10_looker.cls = RX10 ∧ yX10_looker.cls ≠ "java/lang/invoke/MethodHandle" ∧ yX10_looker.cls ≠ "java/lang/invoke/VarHandle" ∧ (parseMethodDescriptor yX10_looker.desc).map (fun d => d.parameters.length) = some 1 := by decide +kernel
set_option maxHeartbeats 4000000 in
set_option maxRecDepth 100000 in
theorem c_X10_looker {l : Launch} {D : va_G} {cy : Nat → ClassId} (G : LG) (a qV sz : Nat) (p1 : Int32) (res : Int32) (hF : X10_looker G p1 = some res) : Met l yX10_looker wsX10_looker ({ frames := 0, cells := 0, slots := 0, locals := 0 } : Room) (kP (EG D cy G a qV) D [.ref a, .int p1] ([] : va_W) sz) (kQi D res ([] : va_W) (va_A ([] : va_W) sz)) 0 0 (va_A ([] : va_W) sz) := by
  refine kMet (y := yX10_looker) (av := [.ref a, .int p1]) (cc := cX10_looker) (maxL := 3) (ret := some .int) (own := RX10) (Qc := fun A9 => (kQi D res ([] : va_W) A9)) (by decide) rfl rfl (Nat.le_of_ble_eq_true rfl) ?_
  intro p e s m args below meth c A hx hb hr hts hown hml hlocks hname hEG hP hD hA hsz ls hl
  have hN := hEG.1
  obtain ⟨qP, qU, qH, qG, vT, rP, rH, rG, rL, rN, g0, g1, g2, g3, g4, g5, g6, g7, g8, g9, g10⟩ := hEG.2
  have hK := hN.1
  have hl : lv_has ls 3 [(0, .ref a), (1, .int p1)] := hl
  have hS : va_S A s.heap s.heap [] := va_S.rf
  have f_f39 := hts (.fieldLink RX10 39 "PeepBoxLaw$Show" "guests" "[LPeepBoxLaw$Guest;") (by decide +kernel)
  have f_inX10 : ∀ w ∈ wsX100, w ∈ wsX10_looker := by decide +kernel
  have f_f126 := hts (.fieldLink RX10 126 "PeepBoxLaw$Guest" "state" "I") (by decide +kernel)
  have f_inX7 : ∀ w ∈ wsX70, w ∈ wsX10_looker := by decide +kernel
  have f_f129 := hts (.fieldLink RX10 129 "PeepBoxLaw$Guest" "hole" "I") (by decide +kernel)
  obtain ⟨QQ, hQQ⟩ : ∃ Q9, Q9 = MQ below (kQi D res ([] : va_W) A) args s 0 0 A := ⟨_, rfl⟩
  rw [← hQQ]
  have J2 : ∀ (n2 : Nat) (l2 : Int32) (H : Heap) (locs : List Loc) (ls : Array Slot), va_P D vwCl ([] : va_W) H → va_D A ([] : va_W) → va_S A s.heap H locs → lv_has ls 3 [(0, .ref a), (1, .int p1), (2, .int l2)] → X10_looker_L2 G p1 n2 l2 = some res → W p l e ({ frames := 0, cells := 0, slots := 0, locals := 0 } : Room) s m args below meth c H locs 0 0 QQ (F0 m 2 ls []) := by
    intro n2
    induction n2 with
    | zero =>
      intro l2 H locs ls hP hD hS hl hF
      rw [X10_looker_L2] at hF
      cases hF
    | succ n2 ih2 =>
      have J39 : ∀ (l2 : Int32) (H : Heap) (locs : List Loc) (ls : Array Slot), va_P D vwCl ([] : va_W) H → va_D A ([] : va_W) → va_S A s.heap H locs → lv_has ls 3 [(0, .ref a), (1, .int p1), (2, .int l2)] → X10_looker_J39 G p1 (fun z0 => X10_looker_L2 G p1 n2 z0) l2 = some res → W p l e ({ frames := 0, cells := 0, slots := 0, locals := 0 } : Room) s m args below meth c H locs 0 0 QQ (F0 m 39 ls []) := by
        intro l2 H locs ls hP hD hS hl hF
        unfold X10_looker_J39 at hF
        obtain ⟨v1, ev1⟩ : ∃ y : Int32, y = l2 + (1 : Int32) := ⟨_, rfl⟩
        have hF := nm_o hF v1 ev1
        refine lv_iinc (v := v1) (lv' := [(2, .int v1), (0, .ref a), (1, .int p1)]) hx hb dX10_looker_39 hl (k := 2) rfl (by rw [ev1]; rfl) (by decide) rfl (fun ls hl => ?_)
        refine lv_goto (tgt := 2) hx hb dX10_looker_42 (by decide) ?_
        exact ih2 v1 H locs ls hP hD hS (lv_sub hl [1, 2, 0] rfl) hF
      intro l2 H locs ls hP hD hS hl hF
      rw [X10_looker_L2] at hF
      refine lv_iload_n hx hb dX10_looker_2 rfl (lv_at hl 2 rfl) ?_
      refine lv_aload_n hx hb dX10_looker_3 rfl (lv_at hl 0 rfl) ?_
      refine va_get (D := D) (ci := 10) (v := .ref qG) (C := RX10) (T := TX10) (N := 11) hx hb hts f_inX10 hown hK (g0.P hS) 0 rfl rfl 8 (by decide) f_f39 (fun _ h9 => h9) rfl dX10_looker_4 ?_
      refine va_alen hx hb hK (g7.P hS) 0 8 rfl rfl (v := nI (shZ G 4)) rfl dX10_looker_7 ?_
      refine lv_icmp_ge (tgt := 45) hx hb dX10_looker_8 (by decide) (fun h2 => ?_) (fun h2 => ?_)
      · have hF := if_p hF h2
        refine lv_iconst (v := -1) hx hb dX10_looker_45 (by decide) ?_
        obtain rfl := so_o hF
        rw [hQQ]
        exact kr_i hx hb hr hlocks hP hD hS dX10_looker_46
      · have hF := if_n hF h2
        refine lv_aload_n hx hb dX10_looker_11 rfl (lv_at hl 0 rfl) ?_
        refine va_get (D := D) (ci := 10) (v := .ref qG) (C := RX10) (T := TX10) (N := 11) hx hb hts f_inX10 hown hK (g0.P hS) 0 rfl rfl 8 (by decide) f_f39 (fun _ h9 => h9) rfl dX10_looker_12 ?_
        refine lv_iload_n hx hb dX10_looker_15 rfl (lv_at hl 2 rfl) ?_
        obtain ⟨h3, hF⟩ := ck_o hF
        refine va_aldq hx hb hK (g7.P hS) 0 8 rfl rfl h3 dX10_looker_16 ?_
        show W p l e ({ frames := 0, cells := 0, slots := 0, locals := 0 } : Room) s m args below meth c H locs _ _ QQ (F0 m 17 ls [.ref (rG l2.toNatClampNeg)])
        refine va_get (D := D) (ci := 7) (v := .int (shG G l2.toNatClampNeg 3)) (C := RX7) (T := TX7) (N := 7) hx hb hts f_inX7 hown hK ((g8 _ (kg_lt h3)).P hS) 0 rfl rfl 3 (by decide) f_f126 (fun _ h9 => h9) rfl dX10_looker_17 ?_
        refine lv_iconst (v := 1) hx hb dX10_looker_20 (by decide) ?_
        refine lv_icmp_ne (tgt := 39) hx hb dX10_looker_21 (by decide) (fun h4 => ?_) (fun h4 => ?_)
        · have hF := if_n hF h4
          exact J39 l2 H locs ls hP hD hS (lv_sub hl [0, 1, 2] rfl) hF
        · have hF := if_p hF h4
          refine lv_aload_n hx hb dX10_looker_24 rfl (lv_at hl 0 rfl) ?_
          refine va_get (D := D) (ci := 10) (v := .ref qG) (C := RX10) (T := TX10) (N := 11) hx hb hts f_inX10 hown hK (g0.P hS) 0 rfl rfl 8 (by decide) f_f39 (fun _ h9 => h9) rfl dX10_looker_25 ?_
          refine lv_iload_n hx hb dX10_looker_28 rfl (lv_at hl 2 rfl) ?_
          obtain ⟨h5, hF⟩ := ck_o hF
          refine va_aldq hx hb hK (g7.P hS) 0 8 rfl rfl h5 dX10_looker_29 ?_
          show W p l e ({ frames := 0, cells := 0, slots := 0, locals := 0 } : Room) s m args below meth c H locs _ _ QQ (F0 m 30 ls [.ref (rG l2.toNatClampNeg)])
          refine va_get (D := D) (ci := 7) (v := .int (shG G l2.toNatClampNeg 4)) (C := RX7) (T := TX7) (N := 7) hx hb hts f_inX7 hown hK ((g8 _ (kg_lt h5)).P hS) 0 rfl rfl 4 (by decide) f_f129 (fun _ h9 => h9) rfl dX10_looker_30 ?_
          refine lv_iload_n hx hb dX10_looker_33 rfl (lv_at hl 1 rfl) ?_
          refine lv_icmp_ne (tgt := 39) hx hb dX10_looker_34 (by decide) (fun h6 => ?_) (fun h6 => ?_)
          · have hF := if_n hF h6
            exact J39 l2 H locs ls hP hD hS (lv_sub hl [0, 1, 2] rfl) hF
          · have hF := if_p hF h6
            refine lv_iload_n hx hb dX10_looker_37 rfl (lv_at hl 2 rfl) ?_
            obtain rfl := so_o hF
            rw [hQQ]
            exact kr_i hx hb hr hlocks hP hD hS dX10_looker_38
  have main : ∀ (H : Heap) (locs : List Loc) (ls : Array Slot), va_P D vwCl ([] : va_W) H → va_D A ([] : va_W) → va_S A s.heap H locs → lv_has ls 3 [(0, .ref a), (1, .int p1)] → W p l e ({ frames := 0, cells := 0, slots := 0, locals := 0 } : Room) s m args below meth c H locs 0 0 QQ (F0 m 0 ls []) := by
    intro H locs ls hP hD hS hl
    unfold X10_looker at hF
    refine lv_iconst (v := 0) hx hb dX10_looker_0 (by decide) ?_
    refine lv_istore_n (lv' := [(2, .int (0 : Int32)), (0, .ref a), (1, .int p1)]) hx hb dX10_looker_1 rfl hl (by decide) rfl (fun ls hl => ?_)
    exact J2 FU (0 : Int32) H locs ls hP hD hS (lv_sub hl [1, 2, 0] rfl) hF
  exact main s.heap [] ls hP hD hS hl
theorem kd_X10_inState : yX10_inState.cls = RX10 ∧ yX10_inState.cls ≠ "java/lang/invoke/MethodHandle" ∧ yX10_inState.cls ≠ "java/lang/invoke/VarHandle" ∧ (parseMethodDescriptor yX10_inState.desc).map (fun d => d.parameters.length) = some 1 := by decide +kernel
set_option maxHeartbeats 4000000 in
set_option maxRecDepth 100000 in
theorem c_X10_inState {l : Launch} {D : va_G} {cy : Nat → ClassId} (G : LG) (a qV sz : Nat) (p1 : Int32) (res : Int32) (hF : X10_inState G p1 = some res) : Met l yX10_inState wsX10_inState ({ frames := 0, cells := 0, slots := 0, locals := 0 } : Room) (kP (EG D cy G a qV) D [.ref a, .int p1] ([] : va_W) sz) (kQi D res ([] : va_W) (va_A ([] : va_W) sz)) 0 0 (va_A ([] : va_W) sz) := by
  refine kMet (y := yX10_inState) (av := [.ref a, .int p1]) (cc := cX10_inState) (maxL := 7) (ret := some .int) (own := RX10) (Qc := fun A9 => (kQi D res ([] : va_W) A9)) (by decide) rfl rfl (Nat.le_of_ble_eq_true rfl) ?_
  intro p e s m args below meth c A hx hb hr hts hown hml hlocks hname hEG hP hD hA hsz ls hl
  have hN := hEG.1
  obtain ⟨qP, qU, qH, qG, vT, rP, rH, rG, rL, rN, g0, g1, g2, g3, g4, g5, g6, g7, g8, g9, g10⟩ := hEG.2
  have hK := hN.1
  have hl : lv_has ls 7 [(0, .ref a), (1, .int p1)] := hl
  have hS : va_S A s.heap s.heap [] := va_S.rf
  have f_f126 := hts (.fieldLink RX10 126 "PeepBoxLaw$Guest" "state" "I") (by decide +kernel)
  have f_inX7 : ∀ w ∈ wsX70, w ∈ wsX10_inState := by decide +kernel
  have f_f39 := hts (.fieldLink RX10 39 "PeepBoxLaw$Show" "guests" "[LPeepBoxLaw$Guest;") (by decide +kernel)
  have f_inX10 : ∀ w ∈ wsX100, w ∈ wsX10_inState := by decide +kernel
  obtain ⟨QQ, hQQ⟩ : ∃ Q9, Q9 = MQ below (kQi D res ([] : va_W) A) args s 0 0 A := ⟨_, rfl⟩
  rw [← hQQ]
  have J14 : ∀ (n14 : Nat) (l2 : Int32) (l4 : Int32) (l5 : Int32) (H : Heap) (locs : List Loc) (ls : Array Slot), va_P D vwCl ([] : va_W) H → va_D A ([] : va_W) → va_S A s.heap H locs → lv_has ls 7 [(1, .int p1), (2, .int l2), (3, .ref qG), (4, .int l4), (5, .int l5)] → X10_inState_L14 G p1 n14 l2 l4 l5 = some res → W p l e ({ frames := 0, cells := 0, slots := 0, locals := 0 } : Room) s m args below meth c H locs 0 0 QQ (F0 m 14 ls []) := by
    intro n14
    induction n14 with
    | zero =>
      intro l2 l4 l5 H locs ls hP hD hS hl hF
      rw [X10_inState_L14] at hF
      cases hF
    | succ n14 ih14 =>
      have J39 : ∀ (l2 : Int32) (l4 : Int32) (l5 : Int32) (H : Heap) (locs : List Loc) (ls : Array Slot), va_P D vwCl ([] : va_W) H → va_D A ([] : va_W) → va_S A s.heap H locs → lv_has ls 7 [(1, .int p1), (2, .int l2), (3, .ref qG), (4, .int l4), (5, .int l5)] → X10_inState_J39 G p1 (fun z0 z1 z2 => X10_inState_L14 G p1 n14 z0 z1 z2) l2 l4 l5 = some res → W p l e ({ frames := 0, cells := 0, slots := 0, locals := 0 } : Room) s m args below meth c H locs 0 0 QQ (F0 m 39 ls []) := by
        intro l2 l4 l5 H locs ls hP hD hS hl hF
        unfold X10_inState_J39 at hF
        obtain ⟨v1, ev1⟩ : ∃ y : Int32, y = l5 + (1 : Int32) := ⟨_, rfl⟩
        have hF := nm_o hF v1 ev1
        refine lv_iinc (v := v1) (lv' := [(5, .int v1), (1, .int p1), (2, .int l2), (3, .ref qG), (4, .int l4)]) hx hb dX10_inState_39 hl (k := 4) rfl (by rw [ev1]; rfl) (by decide) rfl (fun ls hl => ?_)
        refine lv_goto (tgt := 14) hx hb dX10_inState_42 (by decide) ?_
        exact ih14 l2 l4 v1 H locs ls hP hD hS (lv_sub hl [1, 2, 3, 4, 0] rfl) hF
      intro l2 l4 l5 H locs ls hP hD hS hl hF
      rw [X10_inState_L14] at hF
      refine lv_iload hx hb dX10_inState_14 (lv_at hl 4 rfl) ?_
      refine lv_iload hx hb dX10_inState_16 (lv_at hl 3 rfl) ?_
      refine lv_icmp_ge (tgt := 45) hx hb dX10_inState_18 (by decide) (fun h2 => ?_) (fun h2 => ?_)
      · have hF := if_p hF h2
        refine lv_iload_n hx hb dX10_inState_45 rfl (lv_at hl 1 rfl) ?_
        obtain rfl := so_o hF
        rw [hQQ]
        exact kr_i hx hb hr hlocks hP hD hS dX10_inState_46
      · have hF := if_n hF h2
        refine lv_aload_n hx hb dX10_inState_21 rfl (lv_at hl 2 rfl) ?_
        refine lv_iload hx hb dX10_inState_22 (lv_at hl 4 rfl) ?_
        obtain ⟨h3, hF⟩ := ck_o hF
        refine va_aldq hx hb hK (g7.P hS) 0 8 rfl rfl h3 dX10_inState_24 ?_
        show W p l e ({ frames := 0, cells := 0, slots := 0, locals := 0 } : Room) s m args below meth c H locs _ _ QQ (F0 m 25 ls [.ref (rG l5.toNatClampNeg)])
        refine lv_astore (lv' := [(6, .ref (rG l5.toNatClampNeg)), (1, .int p1), (2, .int l2), (3, .ref qG), (4, .int l4), (5, .int l5)]) hx hb dX10_inState_25 hl (by decide) rfl (fun ls hl => ?_)
        refine lv_aload hx hb dX10_inState_27 (lv_at hl 0 rfl) ?_
        refine va_get (D := D) (ci := 7) (v := .int (shG G l5.toNatClampNeg 3)) (C := RX7) (T := TX7) (N := 7) hx hb hts f_inX7 hown hK ((g8 _ (kg_lt h3)).P hS) 0 rfl rfl 3 (by decide) f_f126 (fun _ h9 => h9) rfl dX10_inState_29 ?_
        refine lv_iload_n hx hb dX10_inState_32 rfl (lv_at hl 1 rfl) ?_
        refine lv_icmp_ne (tgt := 39) hx hb dX10_inState_33 (by decide) (fun h4 => ?_) (fun h4 => ?_)
        · have hF := if_n hF h4
          exact J39 l2 l4 l5 H locs ls hP hD hS (lv_sub hl [1, 2, 3, 4, 5] rfl) hF
        · have hF := if_p hF h4
          obtain ⟨v5, ev5⟩ : ∃ y : Int32, y = l2 + (1 : Int32) := ⟨_, rfl⟩
          have hF := nm_o hF v5 ev5
          refine lv_iinc (v := v5) (lv' := [(2, .int v5), (6, .ref (rG l5.toNatClampNeg)), (1, .int p1), (3, .ref qG), (4, .int l4), (5, .int l5)]) hx hb dX10_inState_36 hl (k := 2) rfl (by rw [ev5]; rfl) (by decide) rfl (fun ls hl => ?_)
          exact J39 v5 l4 l5 H locs ls hP hD hS (lv_sub hl [2, 0, 3, 4, 5] rfl) hF
  have main : ∀ (H : Heap) (locs : List Loc) (ls : Array Slot), va_P D vwCl ([] : va_W) H → va_D A ([] : va_W) → va_S A s.heap H locs → lv_has ls 7 [(0, .ref a), (1, .int p1)] → W p l e ({ frames := 0, cells := 0, slots := 0, locals := 0 } : Room) s m args below meth c H locs 0 0 QQ (F0 m 0 ls []) := by
    intro H locs ls hP hD hS hl
    unfold X10_inState at hF
    refine lv_iconst (v := 0) hx hb dX10_inState_0 (by decide) ?_
    refine lv_istore_n (lv' := [(2, .int (0 : Int32)), (0, .ref a), (1, .int p1)]) hx hb dX10_inState_1 rfl hl (by decide) rfl (fun ls hl => ?_)
    refine lv_aload_n hx hb dX10_inState_2 rfl (lv_at hl 1 rfl) ?_
    refine va_get (D := D) (ci := 10) (v := .ref qG) (C := RX10) (T := TX10) (N := 11) hx hb hts f_inX10 hown hK (g0.P hS) 0 rfl rfl 8 (by decide) f_f39 (fun _ h9 => h9) rfl dX10_inState_3 ?_
    refine lv_astore_n (lv' := [(3, .ref qG), (2, .int (0 : Int32)), (0, .ref a), (1, .int p1)]) hx hb dX10_inState_6 rfl hl (by decide) rfl (fun ls hl => ?_)
    refine lv_aload_n hx hb dX10_inState_7 rfl (lv_at hl 0 rfl) ?_
    refine va_alen hx hb hK (g7.P hS) 0 8 rfl rfl (v := nI (shZ G 4)) rfl dX10_inState_8 ?_
    refine lv_topi (fun v6 ev6 => ?_)
    have hF := nm_o hF v6 ev6
    refine lv_istore (lv' := [(4, .int v6), (3, .ref qG), (2, .int (0 : Int32)), (0, .ref a), (1, .int p1)]) hx hb dX10_inState_9 hl (by decide) rfl (fun ls hl => ?_)
    refine lv_iconst (v := 0) hx hb dX10_inState_11 (by decide) ?_
    refine lv_istore (lv' := [(5, .int (0 : Int32)), (4, .int v6), (3, .ref qG), (2, .int (0 : Int32)), (0, .ref a), (1, .int p1)]) hx hb dX10_inState_12 hl (by decide) rfl (fun ls hl => ?_)
    exact J14 FU (0 : Int32) v6 (0 : Int32) H locs ls hP hD hS (lv_sub hl [5, 3, 2, 1, 0] rfl) hF
  exact main s.heap [] ls hP hD hS hl
theorem kd_X10_paid : yX10_paid.cls = RX10 ∧ yX10_paid.cls ≠ "java/lang/invoke/MethodHandle" ∧ yX10_paid.cls ≠ "java/lang/invoke/VarHandle" ∧ (parseMethodDescriptor yX10_paid.desc).map (fun d => d.parameters.length) = some 0 := by decide +kernel
set_option maxHeartbeats 4000000 in
set_option maxRecDepth 100000 in
theorem c_X10_paid {l : Launch} {D : va_G} {cy : Nat → ClassId} (G : LG) (a qV sz : Nat) (res : Int32) (hF : X10_paid G = some res) : Met l yX10_paid wsX10_paid ({ frames := 0, cells := 0, slots := 0, locals := 0 } : Room) (kP (EG D cy G a qV) D [.ref a] ([] : va_W) sz) (kQi D res ([] : va_W) (va_A ([] : va_W) sz)) 0 0 (va_A ([] : va_W) sz) := by
  refine kMet (y := yX10_paid) (av := [.ref a]) (cc := cX10_paid) (maxL := 6) (ret := some .int) (own := RX10) (Qc := fun A9 => (kQi D res ([] : va_W) A9)) (by decide) rfl rfl (Nat.le_of_ble_eq_true rfl) ?_
  intro p e s m args below meth c A hx hb hr hts hown hml hlocks hname hEG hP hD hA hsz ls hl
  have hN := hEG.1
  obtain ⟨qP, qU, qH, qG, vT, rP, rH, rG, rL, rN, g0, g1, g2, g3, g4, g5, g6, g7, g8, g9, g10⟩ := hEG.2
  have hK := hN.1
  have hl : lv_has ls 6 [(0, .ref a)] := hl
  have hS : va_S A s.heap s.heap [] := va_S.rf
  have f_f146 := hts (.fieldLink RX10 146 "PeepBoxLaw$Guest" "paid" "I") (by decide +kernel)
  have f_inX7 : ∀ w ∈ wsX70, w ∈ wsX10_paid := by decide +kernel
  have f_f39 := hts (.fieldLink RX10 39 "PeepBoxLaw$Show" "guests" "[LPeepBoxLaw$Guest;") (by decide +kernel)
  have f_inX10 : ∀ w ∈ wsX100, w ∈ wsX10_paid := by decide +kernel
  obtain ⟨QQ, hQQ⟩ : ∃ Q9, Q9 = MQ below (kQi D res ([] : va_W) A) args s 0 0 A := ⟨_, rfl⟩
  rw [← hQQ]
  have J13 : ∀ (n13 : Nat) (l1 : Int32) (l3 : Int32) (l4 : Int32) (H : Heap) (locs : List Loc) (ls : Array Slot), va_P D vwCl ([] : va_W) H → va_D A ([] : va_W) → va_S A s.heap H locs → lv_has ls 6 [(1, .int l1), (2, .ref qG), (3, .int l3), (4, .int l4)] → X10_paid_L13 G n13 l1 l3 l4 = some res → W p l e ({ frames := 0, cells := 0, slots := 0, locals := 0 } : Room) s m args below meth c H locs 0 0 QQ (F0 m 13 ls []) := by
    intro n13
    induction n13 with
    | zero =>
      intro l1 l3 l4 H locs ls hP hD hS hl hF
      rw [X10_paid_L13] at hF
      cases hF
    | succ n13 ih13 =>
      intro l1 l3 l4 H locs ls hP hD hS hl hF
      rw [X10_paid_L13] at hF
      refine lv_iload hx hb dX10_paid_13 (lv_at hl 3 rfl) ?_
      refine lv_iload_n hx hb dX10_paid_15 rfl (lv_at hl 2 rfl) ?_
      refine lv_icmp_ge (tgt := 39) hx hb dX10_paid_16 (by decide) (fun h1 => ?_) (fun h1 => ?_)
      · have hF := if_p hF h1
        refine lv_iload_n hx hb dX10_paid_39 rfl (lv_at hl 0 rfl) ?_
        obtain rfl := so_o hF
        rw [hQQ]
        exact kr_i hx hb hr hlocks hP hD hS dX10_paid_40
      · have hF := if_n hF h1
        refine lv_aload_n hx hb dX10_paid_19 rfl (lv_at hl 1 rfl) ?_
        refine lv_iload hx hb dX10_paid_20 (lv_at hl 3 rfl) ?_
        obtain ⟨h2, hF⟩ := ck_o hF
        refine va_aldq hx hb hK (g7.P hS) 0 8 rfl rfl h2 dX10_paid_22 ?_
        show W p l e ({ frames := 0, cells := 0, slots := 0, locals := 0 } : Room) s m args below meth c H locs _ _ QQ (F0 m 23 ls [.ref (rG l4.toNatClampNeg)])
        refine lv_astore (lv' := [(5, .ref (rG l4.toNatClampNeg)), (1, .int l1), (2, .ref qG), (3, .int l3), (4, .int l4)]) hx hb dX10_paid_23 hl (by decide) rfl (fun ls hl => ?_)
        refine lv_iload_n hx hb dX10_paid_25 rfl (lv_at hl 1 rfl) ?_
        refine lv_aload hx hb dX10_paid_26 (lv_at hl 0 rfl) ?_
        refine va_get (D := D) (ci := 7) (v := .int (shG G l4.toNatClampNeg 6)) (C := RX7) (T := TX7) (N := 7) hx hb hts f_inX7 hown hK ((g8 _ (kg_lt h2)).P hS) 0 rfl rfl 6 (by decide) f_f146 (fun _ h9 => h9) rfl dX10_paid_28 ?_
        refine lv_iadd hx hb dX10_paid_31 ?_
        refine lv_topi (fun v3 ev3 => ?_)
        have hF := nm_o hF v3 ev3
        refine lv_istore_n (lv' := [(1, .int v3), (5, .ref (rG l4.toNatClampNeg)), (2, .ref qG), (3, .int l3), (4, .int l4)]) hx hb dX10_paid_32 rfl hl (by decide) rfl (fun ls hl => ?_)
        obtain ⟨v4, ev4⟩ : ∃ y : Int32, y = l4 + (1 : Int32) := ⟨_, rfl⟩
        have hF := nm_o hF v4 ev4
        refine lv_iinc (v := v4) (lv' := [(4, .int v4), (1, .int v3), (5, .ref (rG l4.toNatClampNeg)), (2, .ref qG), (3, .int l3)]) hx hb dX10_paid_33 hl (k := 4) rfl (by rw [ev4]; rfl) (by decide) rfl (fun ls hl => ?_)
        refine lv_goto (tgt := 13) hx hb dX10_paid_36 (by decide) ?_
        exact ih13 v3 l3 v4 H locs ls hP hD hS (lv_sub hl [1, 3, 4, 0] rfl) hF
  have main : ∀ (H : Heap) (locs : List Loc) (ls : Array Slot), va_P D vwCl ([] : va_W) H → va_D A ([] : va_W) → va_S A s.heap H locs → lv_has ls 6 [(0, .ref a)] → W p l e ({ frames := 0, cells := 0, slots := 0, locals := 0 } : Room) s m args below meth c H locs 0 0 QQ (F0 m 0 ls []) := by
    intro H locs ls hP hD hS hl
    unfold X10_paid at hF
    refine lv_iconst (v := 0) hx hb dX10_paid_0 (by decide) ?_
    refine lv_istore_n (lv' := [(1, .int (0 : Int32)), (0, .ref a)]) hx hb dX10_paid_1 rfl hl (by decide) rfl (fun ls hl => ?_)
    refine lv_aload_n hx hb dX10_paid_2 rfl (lv_at hl 1 rfl) ?_
    refine va_get (D := D) (ci := 10) (v := .ref qG) (C := RX10) (T := TX10) (N := 11) hx hb hts f_inX10 hown hK (g0.P hS) 0 rfl rfl 8 (by decide) f_f39 (fun _ h9 => h9) rfl dX10_paid_3 ?_
    refine lv_astore_n (lv' := [(2, .ref qG), (1, .int (0 : Int32)), (0, .ref a)]) hx hb dX10_paid_6 rfl hl (by decide) rfl (fun ls hl => ?_)
    refine lv_aload_n hx hb dX10_paid_7 rfl (lv_at hl 0 rfl) ?_
    refine va_alen hx hb hK (g7.P hS) 0 8 rfl rfl (v := nI (shZ G 4)) rfl dX10_paid_8 ?_
    refine lv_topi (fun v5 ev5 => ?_)
    have hF := nm_o hF v5 ev5
    refine lv_istore_n (lv' := [(3, .int v5), (2, .ref qG), (1, .int (0 : Int32)), (0, .ref a)]) hx hb dX10_paid_9 rfl hl (by decide) rfl (fun ls hl => ?_)
    refine lv_iconst (v := 0) hx hb dX10_paid_10 (by decide) ?_
    refine lv_istore (lv' := [(4, .int (0 : Int32)), (3, .int v5), (2, .ref qG), (1, .int (0 : Int32)), (0, .ref a)]) hx hb dX10_paid_11 hl (by decide) rfl (fun ls hl => ?_)
    exact J13 FU (0 : Int32) v5 (0 : Int32) H locs ls hP hD hS (lv_sub hl [3, 2, 1, 0] rfl) hF
  exact main s.heap [] ls hP hD hS hl
theorem kd_X10_told : yX10_told.cls = RX10 ∧ yX10_told.cls ≠ "java/lang/invoke/MethodHandle" ∧ yX10_told.cls ≠ "java/lang/invoke/VarHandle" ∧ (parseMethodDescriptor yX10_told.desc).map (fun d => d.parameters.length) = some 1 := by decide +kernel
set_option maxHeartbeats 4000000 in
set_option maxRecDepth 100000 in
theorem c_X10_told {l : Launch} {D : va_G} {cy : Nat → ClassId} (G : LG) (a qV sz : Nat) (p1 : Int32) (res : Int32) (hF : X10_told G p1 = some res) : Met l yX10_told wsX10_told ({ frames := 1, cells := 0, slots := 0, locals := 26 } : Room) (kP (EG D cy G a qV) D [.ref a, .int p1] ([] : va_W) sz) (kQi D res ([] : va_W) (va_A ([] : va_W) sz)) 0 0 (va_A ([] : va_W) sz) := by
  refine kMet (y := yX10_told) (av := [.ref a, .int p1]) (cc := cX10_told) (maxL := 4) (ret := some .int) (own := RX10) (Qc := fun A9 => (kQi D res ([] : va_W) A9)) (by decide) rfl rfl (Nat.le_of_ble_eq_true rfl) ?_
  intro p e s m args below meth c A hx hb hr hts hown hml hlocks hname hEG hP hD hA hsz ls hl
  have hN := hEG.1
  obtain ⟨qP, qU, qH, qG, vT, rP, rH, rG, rL, rN, g0, g1, g2, g3, g4, g5, g6, g7, g8, g9, g10⟩ := hEG.2
  have hK := hN.1
  have hl : lv_has ls 4 [(0, .ref a), (1, .int p1)] := hl
  have hS : va_S A s.heap s.heap [] := va_S.rf
  have f_f33 := hts (.fieldLink RX10 33 "PeepBoxLaw$Show" "holes" "[[I") (by decide +kernel)
  have f_inX10 : ∀ w ∈ wsX100, w ∈ wsX10_told := by decide +kernel
  have f_f39 := hts (.fieldLink RX10 39 "PeepBoxLaw$Show" "guests" "[LPeepBoxLaw$Guest;") (by decide +kernel)
  have f_f48 := hts (.fieldLink RX10 48 "PeepBoxLaw$Show" "time" "I") (by decide +kernel)
  have f_f19 := hts (.fieldLink RX10 19 "PeepBoxLaw$Show" "length" "I") (by decide +kernel)
  have f_f16 := hts (.fieldLink RX10 16 "PeepBoxLaw$Show" "reach" "I") (by decide +kernel)
  have f_f24 := hts (.fieldLink RX10 24 "PeepBoxLaw$Show" "planes" "[[Ljava/lang/String;") (by decide +kernel)
  have f_f13 := hts (.fieldLink RX10 13 "PeepBoxLaw$Show" "height" "I") (by decide +kernel)
  have f_f7 := hts (.fieldLink RX10 7 "PeepBoxLaw$Show" "width" "I") (by decide +kernel)
  obtain ⟨QQ, hQQ⟩ : ∃ Q9, Q9 = MQ below (kQi D res ([] : va_W) A) args s 0 0 A := ⟨_, rfl⟩
  rw [← hQQ]
  have J4 : ∀ (n4 : Nat) (l2 : Int32) (l3 : Int32) (H : Heap) (locs : List Loc) (ls : Array Slot), va_P D vwCl ([] : va_W) H → va_D A ([] : va_W) → va_S A s.heap H locs → lv_has ls 4 [(0, .ref a), (1, .int p1), (2, .int l2), (3, .int l3)] → X10_told_L4 G p1 n4 l2 l3 = some res → W p l e ({ frames := 1, cells := 0, slots := 0, locals := 26 } : Room) s m args below meth c H locs 0 0 QQ (F0 m 4 ls []) := by
    intro n4
    induction n4 with
    | zero =>
      intro l2 l3 H locs ls hP hD hS hl hF
      rw [X10_told_L4] at hF
      cases hF
    | succ n4 ih4 =>
      have J24 : ∀ (l2 : Int32) (l3 : Int32) (H : Heap) (locs : List Loc) (ls : Array Slot), va_P D vwCl ([] : va_W) H → va_D A ([] : va_W) → va_S A s.heap H locs → lv_has ls 4 [(0, .ref a), (1, .int p1), (2, .int l2), (3, .int l3)] → X10_told_J24 G p1 (fun z0 z1 => X10_told_L4 G p1 n4 z0 z1) l2 l3 = some res → W p l e ({ frames := 1, cells := 0, slots := 0, locals := 26 } : Room) s m args below meth c H locs 0 0 QQ (F0 m 24 ls []) := by
        intro l2 l3 H locs ls hP hD hS hl hF
        unfold X10_told_J24 at hF
        obtain ⟨v1, ev1⟩ : ∃ y : Int32, y = l3 + (1 : Int32) := ⟨_, rfl⟩
        have hF := nm_o hF v1 ev1
        refine lv_iinc (v := v1) (lv' := [(3, .int v1), (0, .ref a), (1, .int p1), (2, .int l2)]) hx hb dX10_told_24 hl (k := 3) rfl (by rw [ev1]; rfl) (by decide) rfl (fun ls hl => ?_)
        refine lv_goto (tgt := 4) hx hb dX10_told_27 (by decide) ?_
        exact ih4 l2 v1 H locs ls hP hD hS (lv_sub hl [1, 2, 3, 0] rfl) hF
      intro l2 l3 H locs ls hP hD hS hl hF
      rw [X10_told_L4] at hF
      refine lv_iload_n hx hb dX10_told_4 rfl (lv_at hl 3 rfl) ?_
      refine lv_aload_n hx hb dX10_told_5 rfl (lv_at hl 0 rfl) ?_
      refine va_get (D := D) (ci := 10) (v := .ref qH) (C := RX10) (T := TX10) (N := 11) hx hb hts f_inX10 hown hK (g0.P hS) 0 rfl rfl 7 (by decide) f_f33 (fun _ h9 => h9) rfl dX10_told_6 ?_
      refine va_alen hx hb hK (g5.P hS) 0 4 rfl rfl (v := nI (shZ G 3)) rfl dX10_told_9 ?_
      refine lv_icmp_ge (tgt := 30) hx hb dX10_told_10 (by decide) (fun h2 => ?_) (fun h2 => ?_)
      · have hF := if_p hF h2
        refine lv_iload_n hx hb dX10_told_30 rfl (lv_at hl 1 rfl) ?_
        refine lv_if_ne (tgt := 41) hx hb dX10_told_31 (by decide) (fun h3 => ?_) (fun h3 => ?_)
        · have hF := if_n hF h3
          refine lv_iload_n hx hb dX10_told_41 rfl (lv_at hl 1 rfl) ?_
          refine lv_iconst (v := 1) hx hb dX10_told_42 (by decide) ?_
          refine lv_icmp_ne (tgt := 53) hx hb dX10_told_43 (by decide) (fun h4 => ?_) (fun h4 => ?_)
          · have hF := if_n hF h4
            refine lv_iload_n hx hb dX10_told_53 rfl (lv_at hl 1 rfl) ?_
            refine lv_iconst (v := 2) hx hb dX10_told_54 (by decide) ?_
            refine lv_icmp_ne (tgt := 66) hx hb dX10_told_55 (by decide) (fun h5 => ?_) (fun h5 => ?_)
            · have hF := if_n hF h5
              refine lv_iload_n hx hb dX10_told_66 rfl (lv_at hl 1 rfl) ?_
              refine lv_iconst (v := 3) hx hb dX10_told_67 (by decide) ?_
              refine lv_icmp_ne (tgt := 79) hx hb dX10_told_68 (by decide) (fun h6 => ?_) (fun h6 => ?_)
              · have hF := if_n hF h6
                refine lv_iload_n hx hb dX10_told_79 rfl (lv_at hl 1 rfl) ?_
                refine lv_iconst (v := 4) hx hb dX10_told_80 (by decide) ?_
                refine lv_icmp_ne (tgt := 91) hx hb dX10_told_81 (by decide) (fun h7 => ?_) (fun h7 => ?_)
                · have hF := if_n hF h7
                  refine lv_iload_n hx hb dX10_told_91 rfl (lv_at hl 1 rfl) ?_
                  refine lv_iconst (v := 5) hx hb dX10_told_92 (by decide) ?_
                  refine lv_icmp_ne (tgt := 103) hx hb dX10_told_93 (by decide) (fun h8 => ?_) (fun h8 => ?_)
                  · have hF := if_n hF h8
                    refine lv_iload_n hx hb dX10_told_103 rfl (lv_at hl 1 rfl) ?_
                    refine lv_bipush (v := 6) hx hb dX10_told_104 (by decide) ?_
                    refine lv_icmp_ne (tgt := 116) hx hb dX10_told_106 (by decide) (fun h9 => ?_) (fun h9 => ?_)
                    · have hF := if_n hF h9
                      refine lv_iload_n hx hb dX10_told_116 rfl (lv_at hl 1 rfl) ?_
                      refine lv_bipush (v := 7) hx hb dX10_told_117 (by decide) ?_
                      refine lv_icmp_ne (tgt := 130) hx hb dX10_told_119 (by decide) (fun h10 => ?_) (fun h10 => ?_)
                      · have hF := if_n hF h10
                        refine lv_iload_n hx hb dX10_told_130 rfl (lv_at hl 1 rfl) ?_
                        refine lv_bipush (v := 12) hx hb dX10_told_131 (by decide) ?_
                        refine lv_icmp_ge (tgt := 147) hx hb dX10_told_133 (by decide) (fun h11 => ?_) (fun h11 => ?_)
                        · have hF := if_p hF h11
                          refine lv_iload_n hx hb dX10_told_147 rfl (lv_at hl 1 rfl) ?_
                          refine lv_bipush (v := 12) hx hb dX10_told_148 (by decide) ?_
                          refine lv_icmp_ne (tgt := 160) hx hb dX10_told_150 (by decide) (fun h12 => ?_) (fun h12 => ?_)
                          · have hF := if_n hF h12
                            refine lv_iload_n hx hb dX10_told_160 rfl (lv_at hl 2 rfl) ?_
                            obtain rfl := so_o hF
                            rw [hQQ]
                            exact kr_i hx hb hr hlocks hP hD hS dX10_told_161
                          · have hF := if_p hF h12
                            refine lv_aload_n hx hb dX10_told_153 rfl (lv_at hl 0 rfl) ?_
                            obtain ⟨r14, h13, hF⟩ := bn1_o hF
                            refine kg_i (va_runV (As := []) (rest := []) ⟨hx, hb, hml, hown, hts⟩ (c_X10_paid G a qV H.size  _ h13) (cwV 0 hts gX10_told_X10_paid rfl rfl rfl kd_X10_paid ⟨Nat.le_of_ble_eq_true rfl, Nat.le_of_ble_eq_true rfl⟩) ⟨kP_blind (EG_ok D cy G a qV) D _ _ _, va_recv hK (g0.P hS) (ci := 10) (q0 := 0) rfl rfl, kStart (EG_ok D cy G a qV) hEG hP hD hS hA [] rfl rfl _⟩ rfl rfl hl.1 rfl (lv_room (Nat.le_of_ble_eq_true rfl)) dX10_told_154 ⟨Nat.zero_le _, Nat.zero_le _⟩) hP hD hS hA (fun H locs hP hD hS => ?_)
                            refine lv_goto (tgt := 161) hx hb dX10_told_157 (by decide) ?_
                            obtain rfl := so_o hF
                            rw [hQQ]
                            exact kr_i hx hb hr hlocks hP hD hS dX10_told_161
                        · have hF := if_n hF h11
                          refine lv_aload_n hx hb dX10_told_136 rfl (lv_at hl 0 rfl) ?_
                          refine lv_iload_n hx hb dX10_told_137 rfl (lv_at hl 1 rfl) ?_
                          refine lv_bipush (v := 8) hx hb dX10_told_138 (by decide) ?_
                          refine lv_isub hx hb dX10_told_140 ?_
                          obtain ⟨r16, h15, hF⟩ := bn1_o hF
                          refine kg_i (va_runV (As := [.int (p1 - (8 : Int32))]) (rest := []) ⟨hx, hb, hml, hown, hts⟩ (c_X10_inState G a qV H.size (p1 - (8 : Int32)) _ h15) (cwV 1 hts gX10_told_X10_inState rfl rfl rfl kd_X10_inState ⟨Nat.le_of_ble_eq_true rfl, Nat.le_of_ble_eq_true rfl⟩) ⟨kP_blind (EG_ok D cy G a qV) D _ _ _, va_recv hK (g0.P hS) (ci := 10) (q0 := 0) rfl rfl, kStart (EG_ok D cy G a qV) hEG hP hD hS hA [] rfl rfl _⟩ rfl rfl hl.1 rfl (lv_room (Nat.le_of_ble_eq_true rfl)) dX10_told_141 ⟨Nat.zero_le _, Nat.zero_le _⟩) hP hD hS hA (fun H locs hP hD hS => ?_)
                          refine lv_goto (tgt := 161) hx hb dX10_told_144 (by decide) ?_
                          obtain rfl := so_o hF
                          rw [hQQ]
                          exact kr_i hx hb hr hlocks hP hD hS dX10_told_161
                      · have hF := if_p hF h10
                        refine lv_aload_n hx hb dX10_told_122 rfl (lv_at hl 0 rfl) ?_
                        refine va_get (D := D) (ci := 10) (v := .ref qG) (C := RX10) (T := TX10) (N := 11) hx hb hts f_inX10 hown hK (g0.P hS) 0 rfl rfl 8 (by decide) f_f39 (fun _ h9 => h9) rfl dX10_told_123 ?_
                        refine va_alen hx hb hK (g7.P hS) 0 8 rfl rfl (v := nI (shZ G 4)) rfl dX10_told_126 ?_
                        refine lv_goto (tgt := 161) hx hb dX10_told_127 (by decide) ?_
                        obtain rfl := so_o hF
                        rw [hQQ]
                        exact kr_i hx hb hr hlocks hP hD hS dX10_told_161
                    · have hF := if_p hF h9
                      refine lv_aload_n hx hb dX10_told_109 rfl (lv_at hl 0 rfl) ?_
                      refine va_get (D := D) (ci := 10) (v := .int (shI G 2)) (C := RX10) (T := TX10) (N := 11) hx hb hts f_inX10 hown hK (g0.P hS) 0 rfl rfl 4 (by decide) f_f48 (fun _ h9 => h9) rfl dX10_told_110 ?_
                      refine lv_goto (tgt := 161) hx hb dX10_told_113 (by decide) ?_
                      obtain rfl := so_o hF
                      rw [hQQ]
                      exact kr_i hx hb hr hlocks hP hD hS dX10_told_161
                  · have hF := if_p hF h8
                    refine lv_aload_n hx hb dX10_told_96 rfl (lv_at hl 0 rfl) ?_
                    refine va_get (D := D) (ci := 10) (v := .int (shI G 1)) (C := RX10) (T := TX10) (N := 11) hx hb hts f_inX10 hown hK (g0.P hS) 0 rfl rfl 3 (by decide) f_f19 (fun _ h9 => h9) rfl dX10_told_97 ?_
                    refine lv_goto (tgt := 161) hx hb dX10_told_100 (by decide) ?_
                    obtain rfl := so_o hF
                    rw [hQQ]
                    exact kr_i hx hb hr hlocks hP hD hS dX10_told_161
                · have hF := if_p hF h7
                  refine lv_aload_n hx hb dX10_told_84 rfl (lv_at hl 0 rfl) ?_
                  refine va_get (D := D) (ci := 10) (v := .int (shI G 0)) (C := RX10) (T := TX10) (N := 11) hx hb hts f_inX10 hown hK (g0.P hS) 0 rfl rfl 2 (by decide) f_f16 (fun _ h9 => h9) rfl dX10_told_85 ?_
                  refine lv_goto (tgt := 161) hx hb dX10_told_88 (by decide) ?_
                  obtain rfl := so_o hF
                  rw [hQQ]
                  exact kr_i hx hb hr hlocks hP hD hS dX10_told_161
              · have hF := if_p hF h6
                refine lv_aload_n hx hb dX10_told_71 rfl (lv_at hl 0 rfl) ?_
                refine va_get (D := D) (ci := 10) (v := .ref qH) (C := RX10) (T := TX10) (N := 11) hx hb hts f_inX10 hown hK (g0.P hS) 0 rfl rfl 7 (by decide) f_f33 (fun _ h9 => h9) rfl dX10_told_72 ?_
                refine va_alen hx hb hK (g5.P hS) 0 4 rfl rfl (v := nI (shZ G 3)) rfl dX10_told_75 ?_
                refine lv_goto (tgt := 161) hx hb dX10_told_76 (by decide) ?_
                obtain rfl := so_o hF
                rw [hQQ]
                exact kr_i hx hb hr hlocks hP hD hS dX10_told_161
            · have hF := if_p hF h5
              refine lv_aload_n hx hb dX10_told_58 rfl (lv_at hl 0 rfl) ?_
              refine va_get (D := D) (ci := 10) (v := .ref qP) (C := RX10) (T := TX10) (N := 11) hx hb hts f_inX10 hown hK (g0.P hS) 0 rfl rfl 5 (by decide) f_f24 (fun _ h9 => h9) rfl dX10_told_59 ?_
              refine va_alen hx hb hK (g1.P hS) 0 7 rfl rfl (v := nI (shZ G 2)) rfl dX10_told_62 ?_
              refine lv_goto (tgt := 161) hx hb dX10_told_63 (by decide) ?_
              obtain rfl := so_o hF
              rw [hQQ]
              exact kr_i hx hb hr hlocks hP hD hS dX10_told_161
          · have hF := if_p hF h4
            refine lv_aload_n hx hb dX10_told_46 rfl (lv_at hl 0 rfl) ?_
            refine va_get (D := D) (ci := 10) (v := .int (nI (shZ G 1))) (C := RX10) (T := TX10) (N := 11) hx hb hts f_inX10 hown hK (g0.P hS) 0 rfl rfl 1 (by decide) f_f13 (fun _ h9 => h9) rfl dX10_told_47 ?_
            refine lv_goto (tgt := 161) hx hb dX10_told_50 (by decide) ?_
            obtain rfl := so_o hF
            rw [hQQ]
            exact kr_i hx hb hr hlocks hP hD hS dX10_told_161
        · have hF := if_p hF h3
          refine lv_aload_n hx hb dX10_told_34 rfl (lv_at hl 0 rfl) ?_
          refine va_get (D := D) (ci := 10) (v := .int (nI (shZ G 0))) (C := RX10) (T := TX10) (N := 11) hx hb hts f_inX10 hown hK (g0.P hS) 0 rfl rfl 0 (by decide) f_f7 (fun _ h9 => h9) rfl dX10_told_35 ?_
          refine lv_goto (tgt := 161) hx hb dX10_told_38 (by decide) ?_
          obtain rfl := so_o hF
          rw [hQQ]
          exact kr_i hx hb hr hlocks hP hD hS dX10_told_161
      · have hF := if_n hF h2
        refine lv_aload_n hx hb dX10_told_13 rfl (lv_at hl 0 rfl) ?_
        refine lv_iload_n hx hb dX10_told_14 rfl (lv_at hl 3 rfl) ?_
        obtain ⟨r18, h17, hF⟩ := bn1_o hF
        refine kg_i (va_runV (As := [.int l3]) (rest := []) ⟨hx, hb, hml, hown, hts⟩ (c_X10_looker G a qV H.size l3 _ h17) (cwV 1 hts gX10_told_X10_looker rfl rfl rfl kd_X10_looker ⟨Nat.le_of_ble_eq_true rfl, Nat.le_of_ble_eq_true rfl⟩) ⟨kP_blind (EG_ok D cy G a qV) D _ _ _, va_recv hK (g0.P hS) (ci := 10) (q0 := 0) rfl rfl, kStart (EG_ok D cy G a qV) hEG hP hD hS hA [] rfl rfl _⟩ rfl rfl hl.1 rfl (lv_room (Nat.le_of_ble_eq_true rfl)) dX10_told_15 ⟨Nat.zero_le _, Nat.zero_le _⟩) hP hD hS hA (fun H locs hP hD hS => ?_)
        refine lv_if_ge (tgt := 24) hx hb dX10_told_18 (by decide) (fun h19 => ?_) (fun h19 => ?_)
        · have hF := if_p hF h19
          exact J24 l2 l3 H locs ls hP hD hS (lv_sub hl [0, 1, 2, 3] rfl) hF
        · have hF := if_n hF h19
          obtain ⟨v20, ev20⟩ : ∃ y : Int32, y = l2 + (1 : Int32) := ⟨_, rfl⟩
          have hF := nm_o hF v20 ev20
          refine lv_iinc (v := v20) (lv' := [(2, .int v20), (0, .ref a), (1, .int p1), (3, .int l3)]) hx hb dX10_told_21 hl (k := 2) rfl (by rw [ev20]; rfl) (by decide) rfl (fun ls hl => ?_)
          exact J24 v20 l3 H locs ls hP hD hS (lv_sub hl [1, 2, 0, 3] rfl) hF
  have main : ∀ (H : Heap) (locs : List Loc) (ls : Array Slot), va_P D vwCl ([] : va_W) H → va_D A ([] : va_W) → va_S A s.heap H locs → lv_has ls 4 [(0, .ref a), (1, .int p1)] → W p l e ({ frames := 1, cells := 0, slots := 0, locals := 26 } : Room) s m args below meth c H locs 0 0 QQ (F0 m 0 ls []) := by
    intro H locs ls hP hD hS hl
    unfold X10_told at hF
    refine lv_iconst (v := 0) hx hb dX10_told_0 (by decide) ?_
    refine lv_istore_n (lv' := [(2, .int (0 : Int32)), (0, .ref a), (1, .int p1)]) hx hb dX10_told_1 rfl hl (by decide) rfl (fun ls hl => ?_)
    refine lv_iconst (v := 0) hx hb dX10_told_2 (by decide) ?_
    refine lv_istore_n (lv' := [(3, .int (0 : Int32)), (2, .int (0 : Int32)), (0, .ref a), (1, .int p1)]) hx hb dX10_told_3 rfl hl (by decide) rfl (fun ls hl => ?_)
    exact J4 FU (0 : Int32) (0 : Int32) H locs ls hP hD hS (lv_sub hl [2, 3, 1, 0] rfl) hF
  exact main s.heap [] ls hP hD hS hl
theorem kd_X10_ofPlane : yX10_ofPlane.cls = RX10 ∧ yX10_ofPlane.cls ≠ "java/lang/invoke/MethodHandle" ∧ yX10_ofPlane.cls ≠ "java/lang/invoke/VarHandle" ∧ (parseMethodDescriptor yX10_ofPlane.desc).map (fun d => d.parameters.length) = some 2 := by decide +kernel
set_option maxHeartbeats 4000000 in
set_option maxRecDepth 100000 in
theorem c_X10_ofPlane {l : Launch} {D : va_G} {cy : Nat → ClassId} (G : LG) (a qV sz : Nat) (p1 : Int32) (p2 : Int32) (res : Int32) (hF : X10_ofPlane G p1 p2 = some res) : Met l yX10_ofPlane wsX10_ofPlane ({ frames := 6, cells := 0, slots := 0, locals := 149 } : Room) (kP (EG D cy G a qV) D [.ref a, .int p1, .int p2] ([] : va_W) sz) (kQi D res ([] : va_W) (va_A ([] : va_W) sz)) 0 0 (va_A ([] : va_W) sz) := by
  refine kMet (y := yX10_ofPlane) (av := [.ref a, .int p1, .int p2]) (cc := cX10_ofPlane) (maxL := 8) (ret := some .int) (own := RX10) (Qc := fun A9 => (kQi D res ([] : va_W) A9)) (by decide) rfl rfl (Nat.le_of_ble_eq_true rfl) ?_
  intro p e s m args below meth c A hx hb hr hts hown hml hlocks hname hEG hP hD hA hsz ls hl
  have hN := hEG.1
  obtain ⟨qP, qU, qH, qG, vT, rP, rH, rG, rL, rN, g0, g1, g2, g3, g4, g5, g6, g7, g8, g9, g10⟩ := hEG.2
  have hK := hN.1
  have hl : lv_has ls 8 [(0, .ref a), (1, .int p1), (2, .int p2)] := hl
  have hS : va_S A s.heap s.heap [] := va_S.rf
  have f_f33 := hts (.fieldLink RX10 33 "PeepBoxLaw$Show" "holes" "[[I") (by decide +kernel)
  have f_inX10 : ∀ w ∈ wsX100, w ∈ wsX10_ofPlane := by decide +kernel
  have f_f13 := hts (.fieldLink RX10 13 "PeepBoxLaw$Show" "height" "I") (by decide +kernel)
  have f_f7 := hts (.fieldLink RX10 7 "PeepBoxLaw$Show" "width" "I") (by decide +kernel)
  have f_f28 := hts (.fieldLink RX10 28 "PeepBoxLaw$Show" "pulls" "[I") (by decide +kernel)
  obtain ⟨QQ, hQQ⟩ : ∃ Q9, Q9 = MQ below (kQi D res ([] : va_W) A) args s 0 0 A := ⟨_, rfl⟩
  rw [← hQQ]
  have J8 : ∀ (n8 : Nat) (l3 : Int32) (l4 : Int32) (l5 : Int32) (H : Heap) (locs : List Loc) (ls : Array Slot), va_P D vwCl ([] : va_W) H → va_D A ([] : va_W) → va_S A s.heap H locs → lv_has ls 8 [(0, .ref a), (1, .int p1), (2, .int p2), (3, .int l3), (4, .int l4), (5, .int l5)] → X10_ofPlane_L8 G p1 p2 n8 l3 l4 l5 = some res → W p l e ({ frames := 6, cells := 0, slots := 0, locals := 149 } : Room) s m args below meth c H locs 0 0 QQ (F0 m 8 ls []) := by
    intro n8
    induction n8 with
    | zero =>
      intro l3 l4 l5 H locs ls hP hD hS hl hF
      rw [X10_ofPlane_L8] at hF
      cases hF
    | succ n8 ih8 =>
      have J20 : ∀ (n20 : Nat) (l3 : Int32) (l4 : Int32) (l5 : Int32) (l6 : Int32) (H : Heap) (locs : List Loc) (ls : Array Slot), va_P D vwCl ([] : va_W) H → va_D A ([] : va_W) → va_S A s.heap H locs → lv_has ls 8 [(0, .ref a), (1, .int p1), (2, .int p2), (3, .int l3), (4, .int l4), (5, .int l5), (6, .int l6)] → X10_ofPlane_L20 G p1 p2 (fun z0 z1 z2 => X10_ofPlane_L8 G p1 p2 n8 z0 z1 z2) n20 l3 l4 l5 l6 = some res → W p l e ({ frames := 6, cells := 0, slots := 0, locals := 149 } : Room) s m args below meth c H locs 0 0 QQ (F0 m 20 ls []) := by
        intro n20
        induction n20 with
        | zero =>
          intro l3 l4 l5 l6 H locs ls hP hD hS hl hF
          rw [X10_ofPlane_L20] at hF
          cases hF
        | succ n20 ih20 =>
          have J49 : ∀ (n49 : Nat) (l3 : Int32) (l4 : Int32) (l5 : Int32) (l6 : Int32) (l7 : Int32) (H : Heap) (locs : List Loc) (ls : Array Slot), va_P D vwCl ([] : va_W) H → va_D A ([] : va_W) → va_S A s.heap H locs → lv_has ls 8 [(0, .ref a), (1, .int p1), (2, .int p2), (3, .int l3), (4, .int l4), (5, .int l5), (6, .int l6), (7, .int l7)] → X10_ofPlane_L49 G p1 p2 (fun z0 z1 z2 => X10_ofPlane_L8 G p1 p2 n8 z0 z1 z2) (fun z0 z1 z2 z3 => X10_ofPlane_L20 G p1 p2 (fun z0 z1 z2 => X10_ofPlane_L8 G p1 p2 n8 z0 z1 z2) n20 z0 z1 z2 z3) n49 l3 l4 l5 l6 l7 = some res → W p l e ({ frames := 6, cells := 0, slots := 0, locals := 149 } : Room) s m args below meth c H locs 0 0 QQ (F0 m 49 ls []) := by
            intro n49
            induction n49 with
            | zero =>
              intro l3 l4 l5 l6 l7 H locs ls hP hD hS hl hF
              rw [X10_ofPlane_L49] at hF
              cases hF
            | succ n49 ih49 =>
              have J79 : ∀ (l3 : Int32) (l4 : Int32) (l5 : Int32) (l6 : Int32) (l7 : Int32) (H : Heap) (locs : List Loc) (ls : Array Slot), va_P D vwCl ([] : va_W) H → va_D A ([] : va_W) → va_S A s.heap H locs → lv_has ls 8 [(0, .ref a), (1, .int p1), (2, .int p2), (3, .int l3), (4, .int l4), (5, .int l5), (6, .int l6), (7, .int l7)] → X10_ofPlane_J79 G p1 p2 (fun z0 z1 z2 => X10_ofPlane_L8 G p1 p2 n8 z0 z1 z2) (fun z0 z1 z2 z3 => X10_ofPlane_L20 G p1 p2 (fun z0 z1 z2 => X10_ofPlane_L8 G p1 p2 n8 z0 z1 z2) n20 z0 z1 z2 z3) (fun z0 z1 z2 z3 z4 => X10_ofPlane_L49 G p1 p2 (fun z0 z1 z2 => X10_ofPlane_L8 G p1 p2 n8 z0 z1 z2) (fun z0 z1 z2 z3 => X10_ofPlane_L20 G p1 p2 (fun z0 z1 z2 => X10_ofPlane_L8 G p1 p2 n8 z0 z1 z2) n20 z0 z1 z2 z3) n49 z0 z1 z2 z3 z4) l3 l4 l5 l6 l7 = some res → W p l e ({ frames := 6, cells := 0, slots := 0, locals := 149 } : Room) s m args below meth c H locs 0 0 QQ (F0 m 79 ls []) := by
                intro l3 l4 l5 l6 l7 H locs ls hP hD hS hl hF
                unfold X10_ofPlane_J79 at hF
                obtain ⟨v1, ev1⟩ : ∃ y : Int32, y = l7 + (1 : Int32) := ⟨_, rfl⟩
                have hF := nm_o hF v1 ev1
                refine lv_iinc (v := v1) (lv' := [(7, .int v1), (0, .ref a), (1, .int p1), (2, .int p2), (3, .int l3), (4, .int l4), (5, .int l5), (6, .int l6)]) hx hb dX10_ofPlane_79 hl (k := 7) rfl (by rw [ev1]; rfl) (by decide) rfl (fun ls hl => ?_)
                refine lv_goto (tgt := 49) hx hb dX10_ofPlane_82 (by decide) ?_
                exact ih49 l3 l4 l5 l6 v1 H locs ls hP hD hS (lv_sub hl [1, 2, 3, 4, 5, 6, 7, 0] rfl) hF
              intro l3 l4 l5 l6 l7 H locs ls hP hD hS hl hF
              rw [X10_ofPlane_L49] at hF
              refine lv_iload hx hb dX10_ofPlane_49 (lv_at hl 7 rfl) ?_
              refine lv_aload_n hx hb dX10_ofPlane_51 rfl (lv_at hl 0 rfl) ?_
              refine va_get (D := D) (ci := 10) (v := .ref qH) (C := RX10) (T := TX10) (N := 11) hx hb hts f_inX10 hown hK (g0.P hS) 0 rfl rfl 7 (by decide) f_f33 (fun _ h9 => h9) rfl dX10_ofPlane_52 ?_
              refine va_alen hx hb hK (g5.P hS) 0 4 rfl rfl (v := nI (shZ G 3)) rfl dX10_ofPlane_55 ?_
              refine lv_icmp_ge (tgt := 85) hx hb dX10_ofPlane_56 (by decide) (fun h2 => ?_) (fun h2 => ?_)
              · have hF := if_p hF h2
                obtain ⟨v3, ev3⟩ : ∃ y : Int32, y = l6 + (1 : Int32) := ⟨_, rfl⟩
                have hF := nm_o hF v3 ev3
                refine lv_iinc (v := v3) (lv' := [(6, .int v3), (0, .ref a), (1, .int p1), (2, .int p2), (3, .int l3), (4, .int l4), (5, .int l5), (7, .int l7)]) hx hb dX10_ofPlane_85 hl (k := 6) rfl (by rw [ev3]; rfl) (by decide) rfl (fun ls hl => ?_)
                refine lv_goto (tgt := 20) hx hb dX10_ofPlane_88 (by decide) ?_
                exact ih20 l3 l4 l5 v3 H locs ls hP hD hS (lv_sub hl [1, 2, 3, 4, 5, 6, 0] rfl) hF
              · have hF := if_n hF h2
                refine lv_aload_n hx hb dX10_ofPlane_59 rfl (lv_at hl 0 rfl) ?_
                refine lv_iload hx hb dX10_ofPlane_60 (lv_at hl 7 rfl) ?_
                refine lv_iload hx hb dX10_ofPlane_62 (lv_at hl 5 rfl) ?_
                refine lv_iload hx hb dX10_ofPlane_64 (lv_at hl 6 rfl) ?_
                obtain ⟨r5, h4, hF⟩ := bn1_o hF
                refine kg_i (va_runV (As := [.int l7, .int l5, .int l6]) (rest := []) ⟨hx, hb, hml, hown, hts⟩ (c_X10_sees G a qV H.size l7 l5 l6 _ h4) (cwV 3 hts gX10_ofPlane_X10_sees rfl rfl rfl kd_X10_sees ⟨Nat.le_of_ble_eq_true rfl, Nat.le_of_ble_eq_true rfl⟩) ⟨kP_blind (EG_ok D cy G a qV) D _ _ _, va_recv hK (g0.P hS) (ci := 10) (q0 := 0) rfl rfl, kStart (EG_ok D cy G a qV) hEG hP hD hS hA [] rfl rfl _⟩ rfl rfl hl.1 rfl (lv_room (Nat.le_of_ble_eq_true rfl)) dX10_ofPlane_66 ⟨Nat.zero_le _, Nat.zero_le _⟩) hP hD hS hA (fun H locs hP hD hS => ?_)
                refine lv_bipush (v := 100) hx hb dX10_ofPlane_69 (by decide) ?_
                refine lv_idiv hx hb dX10_ofPlane_71 (by decide) ?_
                refine lv_iload_n hx hb dX10_ofPlane_72 rfl (lv_at hl 1 rfl) ?_
                refine lv_icmp_ne (tgt := 79) hx hb dX10_ofPlane_73 (by decide) (fun h6 => ?_) (fun h6 => ?_)
                · have hF := if_n hF h6
                  exact J79 l3 l4 l5 l6 l7 H locs ls hP hD hS (lv_sub hl [0, 1, 2, 3, 4, 5, 6, 7] rfl) hF
                · have hF := if_p hF h6
                  obtain ⟨v7, ev7⟩ : ∃ y : Int32, y = l4 + (1 : Int32) := ⟨_, rfl⟩
                  have hF := nm_o hF v7 ev7
                  refine lv_iinc (v := v7) (lv' := [(4, .int v7), (0, .ref a), (1, .int p1), (2, .int p2), (3, .int l3), (5, .int l5), (6, .int l6), (7, .int l7)]) hx hb dX10_ofPlane_76 hl (k := 4) rfl (by rw [ev7]; rfl) (by decide) rfl (fun ls hl => ?_)
                  exact J79 l3 v7 l5 l6 l7 H locs ls hP hD hS (lv_sub hl [1, 2, 3, 4, 0, 5, 6, 7] rfl) hF
          have J46 : ∀ (l3 : Int32) (l4 : Int32) (l5 : Int32) (l6 : Int32) (H : Heap) (locs : List Loc) (ls : Array Slot), va_P D vwCl ([] : va_W) H → va_D A ([] : va_W) → va_S A s.heap H locs → lv_has ls 8 [(0, .ref a), (1, .int p1), (2, .int p2), (3, .int l3), (4, .int l4), (5, .int l5), (6, .int l6)] → X10_ofPlane_J46 G p1 p2 (fun z0 z1 z2 => X10_ofPlane_L8 G p1 p2 n8 z0 z1 z2) (fun z0 z1 z2 z3 => X10_ofPlane_L20 G p1 p2 (fun z0 z1 z2 => X10_ofPlane_L8 G p1 p2 n8 z0 z1 z2) n20 z0 z1 z2 z3) l3 l4 l5 l6 = some res → W p l e ({ frames := 6, cells := 0, slots := 0, locals := 149 } : Room) s m args below meth c H locs 0 0 QQ (F0 m 46 ls []) := by
            intro l3 l4 l5 l6 H locs ls hP hD hS hl hF
            unfold X10_ofPlane_J46 at hF
            refine lv_iconst (v := 0) hx hb dX10_ofPlane_46 (by decide) ?_
            refine lv_istore (lv' := [(7, .int (0 : Int32)), (0, .ref a), (1, .int p1), (2, .int p2), (3, .int l3), (4, .int l4), (5, .int l5), (6, .int l6)]) hx hb dX10_ofPlane_47 hl (by decide) rfl (fun ls hl => ?_)
            exact J49 FU l3 l4 l5 l6 (0 : Int32) H locs ls hP hD hS (lv_sub hl [1, 2, 3, 4, 5, 6, 7, 0] rfl) hF
          intro l3 l4 l5 l6 H locs ls hP hD hS hl hF
          rw [X10_ofPlane_L20] at hF
          refine lv_iload hx hb dX10_ofPlane_20 (lv_at hl 6 rfl) ?_
          refine lv_aload_n hx hb dX10_ofPlane_22 rfl (lv_at hl 0 rfl) ?_
          refine va_get (D := D) (ci := 10) (v := .int (nI (shZ G 1))) (C := RX10) (T := TX10) (N := 11) hx hb hts f_inX10 hown hK (g0.P hS) 0 rfl rfl 1 (by decide) f_f13 (fun _ h9 => h9) rfl dX10_ofPlane_23 ?_
          refine lv_icmp_ge (tgt := 91) hx hb dX10_ofPlane_26 (by decide) (fun h8 => ?_) (fun h8 => ?_)
          · have hF := if_p hF h8
            obtain ⟨v9, ev9⟩ : ∃ y : Int32, y = l5 + (1 : Int32) := ⟨_, rfl⟩
            have hF := nm_o hF v9 ev9
            refine lv_iinc (v := v9) (lv' := [(5, .int v9), (0, .ref a), (1, .int p1), (2, .int p2), (3, .int l3), (4, .int l4), (6, .int l6)]) hx hb dX10_ofPlane_91 hl (k := 5) rfl (by rw [ev9]; rfl) (by decide) rfl (fun ls hl => ?_)
            refine lv_goto (tgt := 8) hx hb dX10_ofPlane_94 (by decide) ?_
            exact ih8 l3 l4 v9 H locs ls hP hD hS (lv_sub hl [1, 2, 3, 4, 5, 0] rfl) hF
          · have hF := if_n hF h8
            refine lv_aload_n hx hb dX10_ofPlane_29 rfl (lv_at hl 0 rfl) ?_
            refine lv_iload_n hx hb dX10_ofPlane_30 rfl (lv_at hl 1 rfl) ?_
            refine lv_iload hx hb dX10_ofPlane_31 (lv_at hl 5 rfl) ?_
            refine lv_iload hx hb dX10_ofPlane_33 (lv_at hl 6 rfl) ?_
            obtain ⟨r11, h10, hF⟩ := bn1_o hF
            refine kg_i (va_runV (As := [.int p1, .int l5, .int l6]) (rest := []) ⟨hx, hb, hml, hown, hts⟩ (c_X10_stands G a qV H.size p1 l5 l6 _ h10) (cwV 3 hts gX10_ofPlane_X10_stands rfl rfl rfl kd_X10_stands ⟨Nat.le_of_ble_eq_true rfl, Nat.le_of_ble_eq_true rfl⟩) ⟨kP_blind (EG_ok D cy G a qV) D _ _ _, va_recv hK (g0.P hS) (ci := 10) (q0 := 0) rfl rfl, kStart (EG_ok D cy G a qV) hEG hP hD hS hA [] rfl rfl _⟩ rfl rfl hl.1 rfl (lv_room (Nat.le_of_ble_eq_true rfl)) dX10_ofPlane_35 ⟨Nat.zero_le _, Nat.zero_le _⟩) hP hD hS hA (fun H locs hP hD hS => ?_)
            refine lv_bipush (v := 46) hx hb dX10_ofPlane_38 (by decide) ?_
            refine lv_icmp_eq (tgt := 46) hx hb dX10_ofPlane_40 (by decide) (fun h12 => ?_) (fun h12 => ?_)
            · have hF := if_p hF h12
              exact J46 l3 l4 l5 l6 H locs ls hP hD hS (lv_sub hl [0, 1, 2, 3, 4, 5, 6] rfl) hF
            · have hF := if_n hF h12
              obtain ⟨v13, ev13⟩ : ∃ y : Int32, y = l3 + (1 : Int32) := ⟨_, rfl⟩
              have hF := nm_o hF v13 ev13
              refine lv_iinc (v := v13) (lv' := [(3, .int v13), (0, .ref a), (1, .int p1), (2, .int p2), (4, .int l4), (5, .int l5), (6, .int l6)]) hx hb dX10_ofPlane_43 hl (k := 3) rfl (by rw [ev13]; rfl) (by decide) rfl (fun ls hl => ?_)
              exact J46 v13 l4 l5 l6 H locs ls hP hD hS (lv_sub hl [1, 2, 3, 0, 4, 5, 6] rfl) hF
      intro l3 l4 l5 H locs ls hP hD hS hl hF
      rw [X10_ofPlane_L8] at hF
      refine lv_iload hx hb dX10_ofPlane_8 (lv_at hl 5 rfl) ?_
      refine lv_aload_n hx hb dX10_ofPlane_10 rfl (lv_at hl 0 rfl) ?_
      refine va_get (D := D) (ci := 10) (v := .int (nI (shZ G 0))) (C := RX10) (T := TX10) (N := 11) hx hb hts f_inX10 hown hK (g0.P hS) 0 rfl rfl 0 (by decide) f_f7 (fun _ h9 => h9) rfl dX10_ofPlane_11 ?_
      refine lv_icmp_ge (tgt := 97) hx hb dX10_ofPlane_14 (by decide) (fun h14 => ?_) (fun h14 => ?_)
      · have hF := if_p hF h14
        refine lv_iload_n hx hb dX10_ofPlane_97 rfl (lv_at hl 2 rfl) ?_
        refine lv_if_ne (tgt := 110) hx hb dX10_ofPlane_98 (by decide) (fun h15 => ?_) (fun h15 => ?_)
        · have hF := if_n hF h15
          refine lv_iload_n hx hb dX10_ofPlane_110 rfl (lv_at hl 2 rfl) ?_
          refine lv_iconst (v := 1) hx hb dX10_ofPlane_111 (by decide) ?_
          refine lv_icmp_ne (tgt := 119) hx hb dX10_ofPlane_112 (by decide) (fun h16 => ?_) (fun h16 => ?_)
          · have hF := if_n hF h16
            refine lv_iload hx hb dX10_ofPlane_119 (lv_at hl 4 rfl) ?_
            obtain rfl := so_o hF
            rw [hQQ]
            exact kr_i hx hb hr hlocks hP hD hS dX10_ofPlane_121
          · have hF := if_p hF h16
            refine lv_iload_n hx hb dX10_ofPlane_115 rfl (lv_at hl 3 rfl) ?_
            refine lv_goto (tgt := 121) hx hb dX10_ofPlane_116 (by decide) ?_
            obtain rfl := so_o hF
            rw [hQQ]
            exact kr_i hx hb hr hlocks hP hD hS dX10_ofPlane_121
        · have hF := if_p hF h15
          refine lv_aload_n hx hb dX10_ofPlane_101 rfl (lv_at hl 0 rfl) ?_
          refine va_get (D := D) (ci := 10) (v := .ref qU) (C := RX10) (T := TX10) (N := 11) hx hb hts f_inX10 hown hK (g0.P hS) 0 rfl rfl 6 (by decide) f_f28 (fun _ h9 => h9) rfl dX10_ofPlane_102 ?_
          refine lv_iload_n hx hb dX10_ofPlane_105 rfl (lv_at hl 1 rfl) ?_
          obtain ⟨h17, hF⟩ := ld_o hF
          refine va_iald hx hb hK (g4.P hS) 0 0 rfl rfl h17 dX10_ofPlane_106 ?_
          refine lv_topi (fun v18 ev18 => ?_)
          have hF := hF v18 ev18
          refine lv_goto (tgt := 121) hx hb dX10_ofPlane_107 (by decide) ?_
          obtain rfl := so_o hF
          rw [hQQ]
          exact kr_i hx hb hr hlocks hP hD hS dX10_ofPlane_121
      · have hF := if_n hF h14
        refine lv_iconst (v := 0) hx hb dX10_ofPlane_17 (by decide) ?_
        refine lv_istore (lv' := [(6, .int (0 : Int32)), (0, .ref a), (1, .int p1), (2, .int p2), (3, .int l3), (4, .int l4), (5, .int l5)]) hx hb dX10_ofPlane_18 hl (by decide) rfl (fun ls hl => ?_)
        exact J20 FU l3 l4 l5 (0 : Int32) H locs ls hP hD hS (lv_sub hl [1, 2, 3, 4, 5, 6, 0] rfl) hF
  have main : ∀ (H : Heap) (locs : List Loc) (ls : Array Slot), va_P D vwCl ([] : va_W) H → va_D A ([] : va_W) → va_S A s.heap H locs → lv_has ls 8 [(0, .ref a), (1, .int p1), (2, .int p2)] → W p l e ({ frames := 6, cells := 0, slots := 0, locals := 149 } : Room) s m args below meth c H locs 0 0 QQ (F0 m 0 ls []) := by
    intro H locs ls hP hD hS hl
    unfold X10_ofPlane at hF
    refine lv_iconst (v := 0) hx hb dX10_ofPlane_0 (by decide) ?_
    refine lv_istore_n (lv' := [(3, .int (0 : Int32)), (0, .ref a), (1, .int p1), (2, .int p2)]) hx hb dX10_ofPlane_1 rfl hl (by decide) rfl (fun ls hl => ?_)
    refine lv_iconst (v := 0) hx hb dX10_ofPlane_2 (by decide) ?_
    refine lv_istore (lv' := [(4, .int (0 : Int32)), (3, .int (0 : Int32)), (0, .ref a), (1, .int p1), (2, .int p2)]) hx hb dX10_ofPlane_3 hl (by decide) rfl (fun ls hl => ?_)
    refine lv_iconst (v := 0) hx hb dX10_ofPlane_5 (by decide) ?_
    refine lv_istore (lv' := [(5, .int (0 : Int32)), (4, .int (0 : Int32)), (3, .int (0 : Int32)), (0, .ref a), (1, .int p1), (2, .int p2)]) hx hb dX10_ofPlane_6 hl (by decide) rfl (fun ls hl => ?_)
    exact J8 FU (0 : Int32) (0 : Int32) (0 : Int32) H locs ls hP hD hS (lv_sub hl [3, 4, 5, 2, 1, 0] rfl) hF
  exact main s.heap [] ls hP hD hS hl
theorem kd_X10_ofHole : yX10_ofHole.cls = RX10 ∧ yX10_ofHole.cls ≠ "java/lang/invoke/MethodHandle" ∧ yX10_ofHole.cls ≠ "java/lang/invoke/VarHandle" ∧ (parseMethodDescriptor yX10_ofHole.desc).map (fun d => d.parameters.length) = some 2 := by decide +kernel
set_option maxHeartbeats 4000000 in
set_option maxRecDepth 100000 in
theorem c_X10_ofHole {l : Launch} {D : va_G} {cy : Nat → ClassId} (G : LG) (a qV sz : Nat) (p1 : Int32) (p2 : Int32) (res : Int32) (hF : X10_ofHole G p1 p2 = some res) : Met l yX10_ofHole wsX10_ofHole ({ frames := 7, cells := 1, slots := 26, locals := 179 } : Room) (kP (EG D cy G a qV) D [.ref a, .int p1, .int p2] ([] : va_W) sz) (kQi D res ([] : va_W) (va_A ([] : va_W) sz)) 1 26 (va_A ([] : va_W) sz) := by
  refine kMet (y := yX10_ofHole) (av := [.ref a, .int p1, .int p2]) (cc := cX10_ofHole) (maxL := 3) (ret := some .int) (own := RX10) (Qc := fun A9 => (kQi D res ([] : va_W) A9)) (by decide) rfl rfl (Nat.le_of_ble_eq_true rfl) ?_
  intro p e s m args below meth c A hx hb hr hts hown hml hlocks hname hEG hP hD hA hsz ls hl
  have hN := hEG.1
  obtain ⟨qP, qU, qH, qG, vT, rP, rH, rG, rL, rN, g0, g1, g2, g3, g4, g5, g6, g7, g8, g9, g10⟩ := hEG.2
  have hK := hN.1
  have hl : lv_has ls 3 [(0, .ref a), (1, .int p1), (2, .int p2)] := hl
  have hS : va_S A s.heap s.heap [] := va_S.rf
  have f_f33 := hts (.fieldLink RX10 33 "PeepBoxLaw$Show" "holes" "[[I") (by decide +kernel)
  have f_inX10 : ∀ w ∈ wsX100, w ∈ wsX10_ofHole := by decide +kernel
  obtain ⟨QQ, hQQ⟩ : ∃ Q9, Q9 = MQ below (kQi D res ([] : va_W) A) args s 1 26 A := ⟨_, rfl⟩
  rw [← hQQ]
  have J42 : ∀ (k1 : Int32) (k2 : Int32) (H : Heap) (locs : List Loc) (ls : Array Slot), va_P D vwCl ([] : va_W) H → va_D A ([] : va_W) → va_S A s.heap H locs → lv_has ls 3 [] → X10_ofHole_J42 G p1 p2 k1 k2 = some res → W p l e ({ frames := 7, cells := 1, slots := 26, locals := 179 } : Room) s m args below meth c H locs 0 0 QQ (F0 m 42 ls [.int k2, .int k1, .ref a]) := by
    intro k1 k2 H locs ls hP hD hS hl hF
    unfold X10_ofHole_J42 at hF
    obtain ⟨r2, h1, hF⟩ := bn1_o hF
    refine kg_i (va_runV (As := [.int k1, .int k2]) (rest := []) ⟨hx, hb, hml, hown, hts⟩ (c_X10_shown G a qV H.size k1 k2 _ h1) (cwV 2 hts gX10_ofHole_X10_shown rfl rfl rfl kd_X10_shown ⟨Nat.le_of_ble_eq_true rfl, Nat.le_of_ble_eq_true rfl⟩) ⟨kP_blind (EG_ok D cy G a qV) D _ _ _, va_recv hK (g0.P hS) (ci := 10) (q0 := 0) rfl rfl, kStart (EG_ok D cy G a qV) hEG hP hD hS hA [] rfl rfl _⟩ rfl rfl hl.1 rfl (lv_room (Nat.le_of_ble_eq_true rfl)) dX10_ofHole_42 ⟨Nat.le_of_ble_eq_true rfl, Nat.le_of_ble_eq_true rfl⟩) hP hD hS hA (fun H locs hP hD hS => ?_)
    show W p l e ({ frames := 7, cells := 1, slots := 26, locals := 179 } : Room) s m args below meth c H locs 1 26 QQ (F0 m 45 ls [.int r2])
    obtain rfl := so_o hF
    rw [hQQ]
    exact kr_i hx hb hr hlocks hP hD hS dX10_ofHole_45
  have main : ∀ (H : Heap) (locs : List Loc) (ls : Array Slot), va_P D vwCl ([] : va_W) H → va_D A ([] : va_W) → va_S A s.heap H locs → lv_has ls 3 [(0, .ref a), (1, .int p1), (2, .int p2)] → W p l e ({ frames := 7, cells := 1, slots := 26, locals := 179 } : Room) s m args below meth c H locs 0 0 QQ (F0 m 0 ls []) := by
    intro H locs ls hP hD hS hl
    unfold X10_ofHole at hF
    refine lv_iload_n hx hb dX10_ofHole_0 rfl (lv_at hl 2 rfl) ?_
    refine lv_iconst (v := 2) hx hb dX10_ofHole_1 (by decide) ?_
    refine lv_icmp_ge (tgt := 16) hx hb dX10_ofHole_2 (by decide) (fun h3 => ?_) (fun h3 => ?_)
    · have hF := if_p hF h3
      refine lv_iload_n hx hb dX10_ofHole_16 rfl (lv_at hl 2 rfl) ?_
      refine lv_iconst (v := 2) hx hb dX10_ofHole_17 (by decide) ?_
      refine lv_icmp_ne (tgt := 29) hx hb dX10_ofHole_18 (by decide) (fun h4 => ?_) (fun h4 => ?_)
      · have hF := if_n hF h4
        refine lv_aload_n hx hb dX10_ofHole_29 rfl (lv_at hl 0 rfl) ?_
        refine lv_iload_n hx hb dX10_ofHole_30 rfl (lv_at hl 1 rfl) ?_
        refine lv_iload_n hx hb dX10_ofHole_31 rfl (lv_at hl 2 rfl) ?_
        refine lv_iconst (v := 3) hx hb dX10_ofHole_32 (by decide) ?_
        refine lv_icmp_ne (tgt := 40) hx hb dX10_ofHole_33 (by decide) (fun h5 => ?_) (fun h5 => ?_)
        · have hF := if_n hF h5
          refine lv_bipush (v := -2) hx hb dX10_ofHole_40 (by decide) ?_
          exact J42 p1 (-2 : Int32) H locs ls hP hD hS (lv_sub hl [] rfl) hF
        · have hF := if_p hF h5
          refine lv_iconst (v := -1) hx hb dX10_ofHole_36 (by decide) ?_
          refine lv_goto (tgt := 42) hx hb dX10_ofHole_37 (by decide) ?_
          exact J42 p1 (-1 : Int32) H locs ls hP hD hS (lv_sub hl [] rfl) hF
      · have hF := if_p hF h4
        refine lv_aload_n hx hb dX10_ofHole_21 rfl (lv_at hl 0 rfl) ?_
        refine lv_iload_n hx hb dX10_ofHole_22 rfl (lv_at hl 1 rfl) ?_
        obtain ⟨r7, h6, hF⟩ := bn1_o hF
        refine kg_i (va_runV (As := [.int p1]) (rest := []) ⟨hx, hb, hml, hown, hts⟩ (c_X10_looker G a qV H.size p1 _ h6) (cwV 1 hts gX10_ofHole_X10_looker rfl rfl rfl kd_X10_looker ⟨Nat.le_of_ble_eq_true rfl, Nat.le_of_ble_eq_true rfl⟩) ⟨kP_blind (EG_ok D cy G a qV) D _ _ _, va_recv hK (g0.P hS) (ci := 10) (q0 := 0) rfl rfl, kStart (EG_ok D cy G a qV) hEG hP hD hS hA [] rfl rfl _⟩ rfl rfl hl.1 rfl (lv_room (Nat.le_of_ble_eq_true rfl)) dX10_ofHole_23 ⟨Nat.le_of_ble_eq_true rfl, Nat.le_of_ble_eq_true rfl⟩) hP hD hS hA (fun H locs hP hD hS => ?_)
        refine lv_goto (tgt := 45) hx hb dX10_ofHole_26 (by decide) ?_
        obtain rfl := so_o hF
        refine W.widen (k := 1) (n := 26) (by decide) (by decide) ?_
        rw [hQQ]
        exact kr_i hx hb hr hlocks hP hD hS dX10_ofHole_45
    · have hF := if_n hF h3
      refine lv_aload_n hx hb dX10_ofHole_5 rfl (lv_at hl 0 rfl) ?_
      refine va_get (D := D) (ci := 10) (v := .ref qH) (C := RX10) (T := TX10) (N := 11) hx hb hts f_inX10 hown hK (g0.P hS) 0 rfl rfl 7 (by decide) f_f33 (fun _ h9 => h9) rfl dX10_ofHole_6 ?_
      refine lv_iload_n hx hb dX10_ofHole_9 rfl (lv_at hl 1 rfl) ?_
      obtain ⟨h8, hF⟩ := ck_o hF
      refine kg_alda hx hb hK (g5.P hS) 0 4 rfl rfl h8 dX10_ofHole_10 ?_
      show W p l e ({ frames := 7, cells := 1, slots := 26, locals := 179 } : Room) s m args below meth c H locs _ _ QQ (F0 m 11 ls [.ref (rH p1.toNatClampNeg)])
      refine lv_iload_n hx hb dX10_ofHole_11 rfl (lv_at hl 2 rfl) ?_
      obtain ⟨h9, hF⟩ := ld_o hF
      refine va_iald hx hb hK ((g6 _ (kg_lt h8)).P hS) 0 0 rfl rfl h9 dX10_ofHole_12 ?_
      refine lv_topi (fun v10 ev10 => ?_)
      have hF := hF v10 ev10
      refine lv_goto (tgt := 45) hx hb dX10_ofHole_13 (by decide) ?_
      obtain rfl := so_o hF
      refine W.widen (k := 1) (n := 26) (by decide) (by decide) ?_
      rw [hQQ]
      exact kr_i hx hb hr hlocks hP hD hS dX10_ofHole_45
  exact main s.heap [] ls hP hD hS hl
theorem kd_X10_ofGuest : yX10_ofGuest.cls = RX10 ∧ yX10_ofGuest.cls ≠ "java/lang/invoke/MethodHandle" ∧ yX10_ofGuest.cls ≠ "java/lang/invoke/VarHandle" ∧ (parseMethodDescriptor yX10_ofGuest.desc).map (fun d => d.parameters.length) = some 2 := by decide +kernel
set_option maxHeartbeats 4000000 in
set_option maxRecDepth 100000 in
theorem c_X10_ofGuest {l : Launch} {D : va_G} {cy : Nat → ClassId} (G : LG) (a qV sz : Nat) (p1 : Int32) (p2 : Int32) (res : Int32) (hF : X10_ofGuest G p1 p2 = some res) : Met l yX10_ofGuest wsX10_ofGuest ({ frames := 0, cells := 0, slots := 0, locals := 0 } : Room) (kP (EG D cy G a qV) D [.ref a, .int p1, .int p2] ([] : va_W) sz) (kQi D res ([] : va_W) (va_A ([] : va_W) sz)) 0 0 (va_A ([] : va_W) sz) := by
  refine kMet (y := yX10_ofGuest) (av := [.ref a, .int p1, .int p2]) (cc := cX10_ofGuest) (maxL := 4) (ret := some .int) (own := RX10) (Qc := fun A9 => (kQi D res ([] : va_W) A9)) (by decide) rfl rfl (Nat.le_of_ble_eq_true rfl) ?_
  intro p e s m args below meth c A hx hb hr hts hown hml hlocks hname hEG hP hD hA hsz ls hl
  have hN := hEG.1
  obtain ⟨qP, qU, qH, qG, vT, rP, rH, rG, rL, rN, g0, g1, g2, g3, g4, g5, g6, g7, g8, g9, g10⟩ := hEG.2
  have hK := hN.1
  have hl : lv_has ls 4 [(0, .ref a), (1, .int p1), (2, .int p2)] := hl
  have hS : va_S A s.heap s.heap [] := va_S.rf
  have f_f39 := hts (.fieldLink RX10 39 "PeepBoxLaw$Show" "guests" "[LPeepBoxLaw$Guest;") (by decide +kernel)
  have f_inX10 : ∀ w ∈ wsX100, w ∈ wsX10_ofGuest := by decide +kernel
  have f_f146 := hts (.fieldLink RX10 146 "PeepBoxLaw$Guest" "paid" "I") (by decide +kernel)
  have f_inX7 : ∀ w ∈ wsX70, w ∈ wsX10_ofGuest := by decide +kernel
  have f_f132 := hts (.fieldLink RX10 132 "PeepBoxLaw$Guest" "left" "I") (by decide +kernel)
  have f_f129 := hts (.fieldLink RX10 129 "PeepBoxLaw$Guest" "hole" "I") (by decide +kernel)
  have f_f126 := hts (.fieldLink RX10 126 "PeepBoxLaw$Guest" "state" "I") (by decide +kernel)
  have f_f135 := hts (.fieldLink RX10 135 "PeepBoxLaw$Guest" "coins" "I") (by decide +kernel)
  have f_f138 := hts (.fieldLink RX10 138 "PeepBoxLaw$Guest" "wish" "I") (by decide +kernel)
  have f_f119 := hts (.fieldLink RX10 119 "PeepBoxLaw$Guest" "tall" "I") (by decide +kernel)
  obtain ⟨QQ, hQQ⟩ : ∃ Q9, Q9 = MQ below (kQi D res ([] : va_W) A) args s 0 0 A := ⟨_, rfl⟩
  rw [← hQQ]
  have main : ∀ (H : Heap) (locs : List Loc) (ls : Array Slot), va_P D vwCl ([] : va_W) H → va_D A ([] : va_W) → va_S A s.heap H locs → lv_has ls 4 [(0, .ref a), (1, .int p1), (2, .int p2)] → W p l e ({ frames := 0, cells := 0, slots := 0, locals := 0 } : Room) s m args below meth c H locs 0 0 QQ (F0 m 0 ls []) := by
    intro H locs ls hP hD hS hl
    unfold X10_ofGuest at hF
    refine lv_aload_n hx hb dX10_ofGuest_0 rfl (lv_at hl 0 rfl) ?_
    refine va_get (D := D) (ci := 10) (v := .ref qG) (C := RX10) (T := TX10) (N := 11) hx hb hts f_inX10 hown hK (g0.P hS) 0 rfl rfl 8 (by decide) f_f39 (fun _ h9 => h9) rfl dX10_ofGuest_1 ?_
    refine lv_iload_n hx hb dX10_ofGuest_4 rfl (lv_at hl 1 rfl) ?_
    obtain ⟨h1, hF⟩ := ck_o hF
    refine va_aldq hx hb hK (g7.P hS) 0 8 rfl rfl h1 dX10_ofGuest_5 ?_
    show W p l e ({ frames := 0, cells := 0, slots := 0, locals := 0 } : Room) s m args below meth c H locs _ _ QQ (F0 m 6 ls [.ref (rG p1.toNatClampNeg)])
    refine lv_astore_n (lv' := [(3, .ref (rG p1.toNatClampNeg)), (0, .ref a), (1, .int p1), (2, .int p2)]) hx hb dX10_ofGuest_6 rfl hl (by decide) rfl (fun ls hl => ?_)
    refine lv_iload_n hx hb dX10_ofGuest_7 rfl (lv_at hl 3 rfl) ?_
    refine lv_if_ne (tgt := 18) hx hb dX10_ofGuest_8 (by decide) (fun h2 => ?_) (fun h2 => ?_)
    · have hF := if_n hF h2
      refine lv_iload_n hx hb dX10_ofGuest_18 rfl (lv_at hl 3 rfl) ?_
      refine lv_iconst (v := 1) hx hb dX10_ofGuest_19 (by decide) ?_
      refine lv_icmp_ne (tgt := 30) hx hb dX10_ofGuest_20 (by decide) (fun h3 => ?_) (fun h3 => ?_)
      · have hF := if_n hF h3
        refine lv_iload_n hx hb dX10_ofGuest_30 rfl (lv_at hl 3 rfl) ?_
        refine lv_iconst (v := 2) hx hb dX10_ofGuest_31 (by decide) ?_
        refine lv_icmp_ne (tgt := 42) hx hb dX10_ofGuest_32 (by decide) (fun h4 => ?_) (fun h4 => ?_)
        · have hF := if_n hF h4
          refine lv_iload_n hx hb dX10_ofGuest_42 rfl (lv_at hl 3 rfl) ?_
          refine lv_iconst (v := 3) hx hb dX10_ofGuest_43 (by decide) ?_
          refine lv_icmp_ne (tgt := 54) hx hb dX10_ofGuest_44 (by decide) (fun h5 => ?_) (fun h5 => ?_)
          · have hF := if_n hF h5
            refine lv_iload_n hx hb dX10_ofGuest_54 rfl (lv_at hl 3 rfl) ?_
            refine lv_iconst (v := 4) hx hb dX10_ofGuest_55 (by decide) ?_
            refine lv_icmp_ne (tgt := 66) hx hb dX10_ofGuest_56 (by decide) (fun h6 => ?_) (fun h6 => ?_)
            · have hF := if_n hF h6
              refine lv_iload_n hx hb dX10_ofGuest_66 rfl (lv_at hl 3 rfl) ?_
              refine lv_iconst (v := 5) hx hb dX10_ofGuest_67 (by decide) ?_
              refine lv_icmp_ne (tgt := 78) hx hb dX10_ofGuest_68 (by decide) (fun h7 => ?_) (fun h7 => ?_)
              · have hF := if_n hF h7
                refine lv_aload_n hx hb dX10_ofGuest_78 rfl (lv_at hl 0 rfl) ?_
                refine va_get (D := D) (ci := 7) (v := .int (shG G p1.toNatClampNeg 6)) (C := RX7) (T := TX7) (N := 7) hx hb hts f_inX7 hown hK ((g8 _ (kg_lt h1)).P hS) 0 rfl rfl 6 (by decide) f_f146 (fun _ h9 => h9) rfl dX10_ofGuest_79 ?_
                obtain rfl := so_o hF
                rw [hQQ]
                exact kr_i hx hb hr hlocks hP hD hS dX10_ofGuest_82
              · have hF := if_p hF h7
                refine lv_aload_n hx hb dX10_ofGuest_71 rfl (lv_at hl 0 rfl) ?_
                refine va_get (D := D) (ci := 7) (v := .int (shG G p1.toNatClampNeg 5)) (C := RX7) (T := TX7) (N := 7) hx hb hts f_inX7 hown hK ((g8 _ (kg_lt h1)).P hS) 0 rfl rfl 5 (by decide) f_f132 (fun _ h9 => h9) rfl dX10_ofGuest_72 ?_
                refine lv_goto (tgt := 82) hx hb dX10_ofGuest_75 (by decide) ?_
                obtain rfl := so_o hF
                rw [hQQ]
                exact kr_i hx hb hr hlocks hP hD hS dX10_ofGuest_82
            · have hF := if_p hF h6
              refine lv_aload_n hx hb dX10_ofGuest_59 rfl (lv_at hl 0 rfl) ?_
              refine va_get (D := D) (ci := 7) (v := .int (shG G p1.toNatClampNeg 4)) (C := RX7) (T := TX7) (N := 7) hx hb hts f_inX7 hown hK ((g8 _ (kg_lt h1)).P hS) 0 rfl rfl 4 (by decide) f_f129 (fun _ h9 => h9) rfl dX10_ofGuest_60 ?_
              refine lv_goto (tgt := 82) hx hb dX10_ofGuest_63 (by decide) ?_
              obtain rfl := so_o hF
              rw [hQQ]
              exact kr_i hx hb hr hlocks hP hD hS dX10_ofGuest_82
          · have hF := if_p hF h5
            refine lv_aload_n hx hb dX10_ofGuest_47 rfl (lv_at hl 0 rfl) ?_
            refine va_get (D := D) (ci := 7) (v := .int (shG G p1.toNatClampNeg 3)) (C := RX7) (T := TX7) (N := 7) hx hb hts f_inX7 hown hK ((g8 _ (kg_lt h1)).P hS) 0 rfl rfl 3 (by decide) f_f126 (fun _ h9 => h9) rfl dX10_ofGuest_48 ?_
            refine lv_goto (tgt := 82) hx hb dX10_ofGuest_51 (by decide) ?_
            obtain rfl := so_o hF
            rw [hQQ]
            exact kr_i hx hb hr hlocks hP hD hS dX10_ofGuest_82
        · have hF := if_p hF h4
          refine lv_aload_n hx hb dX10_ofGuest_35 rfl (lv_at hl 0 rfl) ?_
          refine va_get (D := D) (ci := 7) (v := .int (shG G p1.toNatClampNeg 2)) (C := RX7) (T := TX7) (N := 7) hx hb hts f_inX7 hown hK ((g8 _ (kg_lt h1)).P hS) 0 rfl rfl 2 (by decide) f_f135 (fun _ h9 => h9) rfl dX10_ofGuest_36 ?_
          refine lv_goto (tgt := 82) hx hb dX10_ofGuest_39 (by decide) ?_
          obtain rfl := so_o hF
          rw [hQQ]
          exact kr_i hx hb hr hlocks hP hD hS dX10_ofGuest_82
      · have hF := if_p hF h3
        refine lv_aload_n hx hb dX10_ofGuest_23 rfl (lv_at hl 0 rfl) ?_
        refine va_get (D := D) (ci := 7) (v := .int (shG G p1.toNatClampNeg 1)) (C := RX7) (T := TX7) (N := 7) hx hb hts f_inX7 hown hK ((g8 _ (kg_lt h1)).P hS) 0 rfl rfl 1 (by decide) f_f138 (fun _ h9 => h9) rfl dX10_ofGuest_24 ?_
        refine lv_goto (tgt := 82) hx hb dX10_ofGuest_27 (by decide) ?_
        obtain rfl := so_o hF
        rw [hQQ]
        exact kr_i hx hb hr hlocks hP hD hS dX10_ofGuest_82
    · have hF := if_p hF h2
      refine lv_aload_n hx hb dX10_ofGuest_11 rfl (lv_at hl 0 rfl) ?_
      refine va_get (D := D) (ci := 7) (v := .int (shG G p1.toNatClampNeg 0)) (C := RX7) (T := TX7) (N := 7) hx hb hts f_inX7 hown hK ((g8 _ (kg_lt h1)).P hS) 0 rfl rfl 0 (by decide) f_f119 (fun _ h9 => h9) rfl dX10_ofGuest_12 ?_
      refine lv_goto (tgt := 82) hx hb dX10_ofGuest_15 (by decide) ?_
      obtain rfl := so_o hF
      rw [hQQ]
      exact kr_i hx hb hr hlocks hP hD hS dX10_ofGuest_82
  exact main s.heap [] ls hP hD hS hl
theorem kd_X10_checksum : yX10_checksum.cls = RX10 ∧ yX10_checksum.cls ≠ "java/lang/invoke/MethodHandle" ∧ yX10_checksum.cls ≠ "java/lang/invoke/VarHandle" ∧ (parseMethodDescriptor yX10_checksum.desc).map (fun d => d.parameters.length) = some 0 := by decide +kernel
set_option maxHeartbeats 4000000 in
set_option maxRecDepth 100000 in
theorem c_X10_checksum {l : Launch} {D : va_G} {cy : Nat → ClassId} (G : LG) (a qV sz : Nat) (res : Int64) (hF : X10_checksum G = some res) : Met l yX10_checksum wsX10_checksum ({ frames := 8, cells := 20, slots := 520, locals := 201 } : Room) (kP (EG D cy G a qV) D [.ref a] ([] : va_W) sz) (kQl D res ([] : va_W) (va_A ([] : va_W) sz)) 20 520 (va_A ([] : va_W) sz) := by
  refine kMet (y := yX10_checksum) (av := [.ref a]) (cc := cX10_checksum) (maxL := 5) (ret := some .long) (own := RX10) (Qc := fun A9 => (kQl D res ([] : va_W) A9)) (by decide) rfl rfl (Nat.le_of_ble_eq_true rfl) ?_
  intro p e s m args below meth c A hx hb hr hts hown hml hlocks hname hEG hP hD hA hsz ls hl
  have hN := hEG.1
  obtain ⟨qP, qU, qH, qG, vT, rP, rH, rG, rL, rN, g0, g1, g2, g3, g4, g5, g6, g7, g8, g9, g10⟩ := hEG.2
  have hK := hN.1
  have hl : lv_has ls 5 [(0, .ref a)] := hl
  have hS : va_S A s.heap s.heap [] := va_S.rf
  have f_c167 := hts (.constantLong RX10 167 (31)) (by decide +kernel)
  have f_f39 := hts (.fieldLink RX10 39 "PeepBoxLaw$Show" "guests" "[LPeepBoxLaw$Guest;") (by decide +kernel)
  have f_inX10 : ∀ w ∈ wsX100, w ∈ wsX10_checksum := by decide +kernel
  have f_f33 := hts (.fieldLink RX10 33 "PeepBoxLaw$Show" "holes" "[[I") (by decide +kernel)
  have f_f24 := hts (.fieldLink RX10 24 "PeepBoxLaw$Show" "planes" "[[Ljava/lang/String;") (by decide +kernel)
  obtain ⟨QQ, hQQ⟩ : ∃ Q9, Q9 = MQ below (kQl D res ([] : va_W) A) args s 20 520 A := ⟨_, rfl⟩
  rw [← hQQ]
  have J125 : ∀ (n125 : Nat) (l1 : Int64) (l3 : Int32) (nc : Nat) (hnc : nc ≤ 20) (H : Heap) (locs : List Loc) (ls : Array Slot), va_P D vwCl ([] : va_W) H → va_D A ([] : va_W) → va_S A s.heap H locs → lv_has ls 5 [(0, .ref a), (1, .long l1), (3, .int l3)] → X10_checksum_L125 G n125 l1 l3 nc = some res → W p l e ({ frames := 8, cells := 20, slots := 520, locals := 201 } : Room) s m args below meth c H locs nc (26 * nc) QQ (F0 m 125 ls []) := by
    intro n125
    induction n125 with
    | zero =>
      intro l1 l3 nc hnc H locs ls hP hD hS hl hF
      rw [X10_checksum_L125] at hF
      cases hF
    | succ n125 ih125 =>
      have J137 : ∀ (n137 : Nat) (l1 : Int64) (l3 : Int32) (l4 : Int32) (nc : Nat) (hnc : nc ≤ 20) (H : Heap) (locs : List Loc) (ls : Array Slot), va_P D vwCl ([] : va_W) H → va_D A ([] : va_W) → va_S A s.heap H locs → lv_has ls 5 [(0, .ref a), (1, .long l1), (3, .int l3), (4, .int l4)] → X10_checksum_L137 G (fun z0 z1 z2 => X10_checksum_L125 G n125 z0 z1 z2) n137 l1 l3 l4 nc = some res → W p l e ({ frames := 8, cells := 20, slots := 520, locals := 201 } : Room) s m args below meth c H locs nc (26 * nc) QQ (F0 m 137 ls []) := by
        intro n137
        induction n137 with
        | zero =>
          intro l1 l3 l4 nc hnc H locs ls hP hD hS hl hF
          rw [X10_checksum_L137] at hF
          cases hF
        | succ n137 ih137 =>
          intro l1 l3 l4 nc hnc H locs ls hP hD hS hl hF
          rw [X10_checksum_L137] at hF
          refine lv_iload hx hb dX10_checksum_137 (lv_at hl 3 rfl) ?_
          refine lv_bipush (v := 7) hx hb dX10_checksum_139 (by decide) ?_
          refine lv_icmp_ge (tgt := 165) hx hb dX10_checksum_141 (by decide) (fun h1 => ?_) (fun h1 => ?_)
          · have hF := if_p hF h1
            obtain ⟨v2, ev2⟩ : ∃ y : Int32, y = l3 + (1 : Int32) := ⟨_, rfl⟩
            have hF := nm_o hF v2 ev2
            refine lv_iinc (v := v2) (lv' := [(3, .int v2), (0, .ref a), (1, .long l1), (4, .int l4)]) hx hb dX10_checksum_165 hl (k := 2) rfl (by rw [ev2]; rfl) (by decide) rfl (fun ls hl => ?_)
            refine lv_goto (tgt := 125) hx hb dX10_checksum_168 (by decide) ?_
            exact ih125 l1 v2 nc hnc H locs ls hP hD hS (lv_sub hl [1, 2, 0] rfl) hF
          · have hF := if_n hF h1
            refine lv_ldc2 (v := 31) hx hb hown f_c167 dX10_checksum_144 ?_
            refine lv_lload_n hx hb dX10_checksum_147 rfl (lv_at hl 1 rfl) ?_
            refine lv_lmul hx hb dX10_checksum_148 ?_
            refine lv_aload_n hx hb dX10_checksum_149 rfl (lv_at hl 0 rfl) ?_
            refine lv_iload_n hx hb dX10_checksum_150 rfl (lv_at hl 2 rfl) ?_
            refine lv_iload hx hb dX10_checksum_151 (lv_at hl 3 rfl) ?_
            obtain ⟨r4, h3, hF⟩ := bn1_o hF
            refine kg_i (va_runV (As := [.int l3, .int l4]) (rest := [.long ((31 : Int64) * l1)]) ⟨hx, hb, hml, hown, hts⟩ (c_X10_ofGuest G a qV H.size l3 l4 _ h3) (cwV 2 hts gX10_checksum_X10_ofGuest rfl rfl rfl kd_X10_ofGuest ⟨Nat.le_of_ble_eq_true rfl, Nat.le_of_ble_eq_true rfl⟩) ⟨kP_blind (EG_ok D cy G a qV) D _ _ _, va_recv hK (g0.P hS) (ci := 10) (q0 := 0) rfl rfl, kStart (EG_ok D cy G a qV) hEG hP hD hS hA [] rfl rfl _⟩ rfl rfl hl.1 rfl (lv_room (Nat.le_of_ble_eq_true rfl)) dX10_checksum_153 ⟨by show nc + 0 ≤ 20; omega, by show 26 * nc + 0 ≤ 520; omega⟩) hP hD hS hA (fun H locs hP hD hS => ?_)
            show W p l e ({ frames := 8, cells := 20, slots := 520, locals := 201 } : Room) s m args below meth c H locs nc (26 * nc) QQ (F0 m 156 ls [.int r4, .long ((31 : Int64) * l1)])
            refine lv_i2l hx hb dX10_checksum_156 rfl ?_
            refine lv_ladd hx hb dX10_checksum_157 ?_
            refine lv_topl (fun v5 ev5 => ?_)
            have hF := nm_o hF v5 ev5
            refine lv_lstore_n (lv' := [(1, .long v5), (0, .ref a), (3, .int l3), (4, .int l4)]) hx hb dX10_checksum_158 rfl hl (by decide) rfl (fun ls hl => ?_)
            obtain ⟨v6, ev6⟩ : ∃ y : Int32, y = l4 + (1 : Int32) := ⟨_, rfl⟩
            have hF := nm_o hF v6 ev6
            refine lv_iinc (v := v6) (lv' := [(4, .int v6), (1, .long v5), (0, .ref a), (3, .int l3)]) hx hb dX10_checksum_159 hl (k := 3) rfl (by rw [ev6]; rfl) (by decide) rfl (fun ls hl => ?_)
            refine lv_goto (tgt := 137) hx hb dX10_checksum_162 (by decide) ?_
            exact ih137 v5 l3 v6 nc hnc H locs ls hP hD hS (lv_sub hl [2, 1, 3, 0] rfl) hF
      intro l1 l3 nc hnc H locs ls hP hD hS hl hF
      rw [X10_checksum_L125] at hF
      refine lv_iload_n hx hb dX10_checksum_125 rfl (lv_at hl 2 rfl) ?_
      refine lv_aload_n hx hb dX10_checksum_126 rfl (lv_at hl 0 rfl) ?_
      refine va_get (D := D) (ci := 10) (v := .ref qG) (C := RX10) (T := TX10) (N := 11) hx hb hts f_inX10 hown hK (g0.P hS) 0 rfl rfl 8 (by decide) f_f39 (fun _ h9 => h9) rfl dX10_checksum_127 ?_
      refine va_alen hx hb hK (g7.P hS) 0 8 rfl rfl (v := nI (shZ G 4)) rfl dX10_checksum_130 ?_
      refine lv_icmp_ge (tgt := 171) hx hb dX10_checksum_131 (by decide) (fun h7 => ?_) (fun h7 => ?_)
      · have hF := if_p hF h7
        refine lv_lload_n hx hb dX10_checksum_171 rfl (lv_at hl 1 rfl) ?_
        obtain rfl := so_o hF
        refine W.widen (k := 20) (n := 520) hnc (by omega) ?_
        rw [hQQ]
        exact kr_l hx hb hr hlocks hP hD hS dX10_checksum_172
      · have hF := if_n hF h7
        refine lv_iconst (v := 0) hx hb dX10_checksum_134 (by decide) ?_
        refine lv_istore (lv' := [(4, .int (0 : Int32)), (0, .ref a), (1, .long l1), (3, .int l3)]) hx hb dX10_checksum_135 hl (by decide) rfl (fun ls hl => ?_)
        exact J137 FU l1 l3 (0 : Int32) nc hnc H locs ls hP hD hS (lv_sub hl [1, 2, 3, 0] rfl) hF
  have J78 : ∀ (n78 : Nat) (l1 : Int64) (l3 : Int32) (nc : Nat) (hnc : nc ≤ 20) (H : Heap) (locs : List Loc) (ls : Array Slot), va_P D vwCl ([] : va_W) H → va_D A ([] : va_W) → va_S A s.heap H locs → lv_has ls 5 [(0, .ref a), (1, .long l1), (3, .int l3)] → X10_checksum_L78 G n78 l1 l3 nc = some res → W p l e ({ frames := 8, cells := 20, slots := 520, locals := 201 } : Room) s m args below meth c H locs nc (26 * nc) QQ (F0 m 78 ls []) := by
    intro n78
    induction n78 with
    | zero =>
      intro l1 l3 nc hnc H locs ls hP hD hS hl hF
      rw [X10_checksum_L78] at hF
      cases hF
    | succ n78 ih78 =>
      have J90 : ∀ (n90 : Nat) (l1 : Int64) (l3 : Int32) (l4 : Int32) (nc : Nat) (hnc : nc ≤ 20) (H : Heap) (locs : List Loc) (ls : Array Slot), va_P D vwCl ([] : va_W) H → va_D A ([] : va_W) → va_S A s.heap H locs → lv_has ls 5 [(0, .ref a), (1, .long l1), (3, .int l3), (4, .int l4)] → X10_checksum_L90 G (fun z0 z1 z2 => X10_checksum_L78 G n78 z0 z1 z2) n90 l1 l3 l4 nc = some res → W p l e ({ frames := 8, cells := 20, slots := 520, locals := 201 } : Room) s m args below meth c H locs nc (26 * nc) QQ (F0 m 90 ls []) := by
        intro n90
        induction n90 with
        | zero =>
          intro l1 l3 l4 nc hnc H locs ls hP hD hS hl hF
          rw [X10_checksum_L90] at hF
          cases hF
        | succ n90 ih90 =>
          intro l1 l3 l4 nc hnc H locs ls hP hD hS hl hF
          rw [X10_checksum_L90] at hF
          refine lv_iload hx hb dX10_checksum_90 (lv_at hl 3 rfl) ?_
          refine lv_iconst (v := 5) hx hb dX10_checksum_92 (by decide) ?_
          refine lv_icmp_ge (tgt := 117) hx hb dX10_checksum_93 (by decide) (fun h8 => ?_) (fun h8 => ?_)
          · have hF := if_p hF h8
            obtain ⟨v9, ev9⟩ : ∃ y : Int32, y = l3 + (1 : Int32) := ⟨_, rfl⟩
            have hF := nm_o hF v9 ev9
            refine lv_iinc (v := v9) (lv' := [(3, .int v9), (0, .ref a), (1, .long l1), (4, .int l4)]) hx hb dX10_checksum_117 hl (k := 2) rfl (by rw [ev9]; rfl) (by decide) rfl (fun ls hl => ?_)
            refine lv_goto (tgt := 78) hx hb dX10_checksum_120 (by decide) ?_
            exact ih78 l1 v9 nc hnc H locs ls hP hD hS (lv_sub hl [1, 2, 0] rfl) hF
          · have hF := if_n hF h8
            refine lv_ldc2 (v := 31) hx hb hown f_c167 dX10_checksum_96 ?_
            refine lv_lload_n hx hb dX10_checksum_99 rfl (lv_at hl 1 rfl) ?_
            refine lv_lmul hx hb dX10_checksum_100 ?_
            refine lv_aload_n hx hb dX10_checksum_101 rfl (lv_at hl 0 rfl) ?_
            refine lv_iload_n hx hb dX10_checksum_102 rfl (lv_at hl 2 rfl) ?_
            refine lv_iload hx hb dX10_checksum_103 (lv_at hl 3 rfl) ?_
            obtain ⟨r11, h10, hF⟩ := bn1_o hF
            obtain ⟨h12, hF⟩ := ck_o hF
            refine kg_i (va_runV (As := [.int l3, .int l4]) (rest := [.long ((31 : Int64) * l1)]) ⟨hx, hb, hml, hown, hts⟩ (c_X10_ofHole G a qV H.size l3 l4 _ h10) (cwV 2 hts gX10_checksum_X10_ofHole rfl rfl rfl kd_X10_ofHole ⟨Nat.le_of_ble_eq_true rfl, Nat.le_of_ble_eq_true rfl⟩) ⟨kP_blind (EG_ok D cy G a qV) D _ _ _, va_recv hK (g0.P hS) (ci := 10) (q0 := 0) rfl rfl, kStart (EG_ok D cy G a qV) hEG hP hD hS hA [] rfl rfl _⟩ rfl rfl hl.1 rfl (lv_room (Nat.le_of_ble_eq_true rfl)) dX10_checksum_105 (kg_budget h12)) hP hD hS hA (fun H locs hP hD hS => ?_)
            refine kg_step ?_
            obtain ⟨nc13, enc13⟩ : ∃ y : Nat, y = nc + 1 := ⟨_, rfl⟩
            have hnc : nc13 ≤ 20 := by rw [enc13]; exact h12
            rw [← enc13]
            have hF := nm_o hF nc13 enc13
            refine lv_i2l hx hb dX10_checksum_108 rfl ?_
            refine lv_ladd hx hb dX10_checksum_109 ?_
            refine lv_topl (fun v14 ev14 => ?_)
            have hF := nm_o hF v14 ev14
            refine lv_lstore_n (lv' := [(1, .long v14), (0, .ref a), (3, .int l3), (4, .int l4)]) hx hb dX10_checksum_110 rfl hl (by decide) rfl (fun ls hl => ?_)
            obtain ⟨v15, ev15⟩ : ∃ y : Int32, y = l4 + (1 : Int32) := ⟨_, rfl⟩
            have hF := nm_o hF v15 ev15
            refine lv_iinc (v := v15) (lv' := [(4, .int v15), (1, .long v14), (0, .ref a), (3, .int l3)]) hx hb dX10_checksum_111 hl (k := 3) rfl (by rw [ev15]; rfl) (by decide) rfl (fun ls hl => ?_)
            refine lv_goto (tgt := 90) hx hb dX10_checksum_114 (by decide) ?_
            exact ih90 v14 l3 v15 nc13 hnc H locs ls hP hD hS (lv_sub hl [2, 1, 3, 0] rfl) hF
      intro l1 l3 nc hnc H locs ls hP hD hS hl hF
      rw [X10_checksum_L78] at hF
      refine lv_iload_n hx hb dX10_checksum_78 rfl (lv_at hl 2 rfl) ?_
      refine lv_aload_n hx hb dX10_checksum_79 rfl (lv_at hl 0 rfl) ?_
      refine va_get (D := D) (ci := 10) (v := .ref qH) (C := RX10) (T := TX10) (N := 11) hx hb hts f_inX10 hown hK (g0.P hS) 0 rfl rfl 7 (by decide) f_f33 (fun _ h9 => h9) rfl dX10_checksum_80 ?_
      refine va_alen hx hb hK (g5.P hS) 0 4 rfl rfl (v := nI (shZ G 3)) rfl dX10_checksum_83 ?_
      refine lv_icmp_ge (tgt := 123) hx hb dX10_checksum_84 (by decide) (fun h16 => ?_) (fun h16 => ?_)
      · have hF := if_p hF h16
        refine lv_iconst (v := 0) hx hb dX10_checksum_123 (by decide) ?_
        refine lv_istore_n (lv' := [(3, .int (0 : Int32)), (0, .ref a), (1, .long l1)]) hx hb dX10_checksum_124 rfl hl (by decide) rfl (fun ls hl => ?_)
        exact J125 FU l1 (0 : Int32) nc hnc H locs ls hP hD hS (lv_sub hl [1, 2, 0] rfl) hF
      · have hF := if_n hF h16
        refine lv_iconst (v := 0) hx hb dX10_checksum_87 (by decide) ?_
        refine lv_istore (lv' := [(4, .int (0 : Int32)), (0, .ref a), (1, .long l1), (3, .int l3)]) hx hb dX10_checksum_88 hl (by decide) rfl (fun ls hl => ?_)
        exact J90 FU l1 l3 (0 : Int32) nc hnc H locs ls hP hD hS (lv_sub hl [1, 2, 3, 0] rfl) hF
  have J31 : ∀ (n31 : Nat) (l1 : Int64) (l3 : Int32) (nc : Nat) (hnc : nc ≤ 20) (H : Heap) (locs : List Loc) (ls : Array Slot), va_P D vwCl ([] : va_W) H → va_D A ([] : va_W) → va_S A s.heap H locs → lv_has ls 5 [(0, .ref a), (1, .long l1), (3, .int l3)] → X10_checksum_L31 G n31 l1 l3 nc = some res → W p l e ({ frames := 8, cells := 20, slots := 520, locals := 201 } : Room) s m args below meth c H locs nc (26 * nc) QQ (F0 m 31 ls []) := by
    intro n31
    induction n31 with
    | zero =>
      intro l1 l3 nc hnc H locs ls hP hD hS hl hF
      rw [X10_checksum_L31] at hF
      cases hF
    | succ n31 ih31 =>
      have J43 : ∀ (n43 : Nat) (l1 : Int64) (l3 : Int32) (l4 : Int32) (nc : Nat) (hnc : nc ≤ 20) (H : Heap) (locs : List Loc) (ls : Array Slot), va_P D vwCl ([] : va_W) H → va_D A ([] : va_W) → va_S A s.heap H locs → lv_has ls 5 [(0, .ref a), (1, .long l1), (3, .int l3), (4, .int l4)] → X10_checksum_L43 G (fun z0 z1 z2 => X10_checksum_L31 G n31 z0 z1 z2) n43 l1 l3 l4 nc = some res → W p l e ({ frames := 8, cells := 20, slots := 520, locals := 201 } : Room) s m args below meth c H locs nc (26 * nc) QQ (F0 m 43 ls []) := by
        intro n43
        induction n43 with
        | zero =>
          intro l1 l3 l4 nc hnc H locs ls hP hD hS hl hF
          rw [X10_checksum_L43] at hF
          cases hF
        | succ n43 ih43 =>
          intro l1 l3 l4 nc hnc H locs ls hP hD hS hl hF
          rw [X10_checksum_L43] at hF
          refine lv_iload hx hb dX10_checksum_43 (lv_at hl 3 rfl) ?_
          refine lv_iconst (v := 3) hx hb dX10_checksum_45 (by decide) ?_
          refine lv_icmp_ge (tgt := 70) hx hb dX10_checksum_46 (by decide) (fun h17 => ?_) (fun h17 => ?_)
          · have hF := if_p hF h17
            obtain ⟨v18, ev18⟩ : ∃ y : Int32, y = l3 + (1 : Int32) := ⟨_, rfl⟩
            have hF := nm_o hF v18 ev18
            refine lv_iinc (v := v18) (lv' := [(3, .int v18), (0, .ref a), (1, .long l1), (4, .int l4)]) hx hb dX10_checksum_70 hl (k := 2) rfl (by rw [ev18]; rfl) (by decide) rfl (fun ls hl => ?_)
            refine lv_goto (tgt := 31) hx hb dX10_checksum_73 (by decide) ?_
            exact ih31 l1 v18 nc hnc H locs ls hP hD hS (lv_sub hl [1, 2, 0] rfl) hF
          · have hF := if_n hF h17
            refine lv_ldc2 (v := 31) hx hb hown f_c167 dX10_checksum_49 ?_
            refine lv_lload_n hx hb dX10_checksum_52 rfl (lv_at hl 1 rfl) ?_
            refine lv_lmul hx hb dX10_checksum_53 ?_
            refine lv_aload_n hx hb dX10_checksum_54 rfl (lv_at hl 0 rfl) ?_
            refine lv_iload_n hx hb dX10_checksum_55 rfl (lv_at hl 2 rfl) ?_
            refine lv_iload hx hb dX10_checksum_56 (lv_at hl 3 rfl) ?_
            obtain ⟨r20, h19, hF⟩ := bn1_o hF
            refine kg_i (va_runV (As := [.int l3, .int l4]) (rest := [.long ((31 : Int64) * l1)]) ⟨hx, hb, hml, hown, hts⟩ (c_X10_ofPlane G a qV H.size l3 l4 _ h19) (cwV 2 hts gX10_checksum_X10_ofPlane rfl rfl rfl kd_X10_ofPlane ⟨Nat.le_of_ble_eq_true rfl, Nat.le_of_ble_eq_true rfl⟩) ⟨kP_blind (EG_ok D cy G a qV) D _ _ _, va_recv hK (g0.P hS) (ci := 10) (q0 := 0) rfl rfl, kStart (EG_ok D cy G a qV) hEG hP hD hS hA [] rfl rfl _⟩ rfl rfl hl.1 rfl (lv_room (Nat.le_of_ble_eq_true rfl)) dX10_checksum_58 ⟨by show nc + 0 ≤ 20; omega, by show 26 * nc + 0 ≤ 520; omega⟩) hP hD hS hA (fun H locs hP hD hS => ?_)
            show W p l e ({ frames := 8, cells := 20, slots := 520, locals := 201 } : Room) s m args below meth c H locs nc (26 * nc) QQ (F0 m 61 ls [.int r20, .long ((31 : Int64) * l1)])
            refine lv_i2l hx hb dX10_checksum_61 rfl ?_
            refine lv_ladd hx hb dX10_checksum_62 ?_
            refine lv_topl (fun v21 ev21 => ?_)
            have hF := nm_o hF v21 ev21
            refine lv_lstore_n (lv' := [(1, .long v21), (0, .ref a), (3, .int l3), (4, .int l4)]) hx hb dX10_checksum_63 rfl hl (by decide) rfl (fun ls hl => ?_)
            obtain ⟨v22, ev22⟩ : ∃ y : Int32, y = l4 + (1 : Int32) := ⟨_, rfl⟩
            have hF := nm_o hF v22 ev22
            refine lv_iinc (v := v22) (lv' := [(4, .int v22), (1, .long v21), (0, .ref a), (3, .int l3)]) hx hb dX10_checksum_64 hl (k := 3) rfl (by rw [ev22]; rfl) (by decide) rfl (fun ls hl => ?_)
            refine lv_goto (tgt := 43) hx hb dX10_checksum_67 (by decide) ?_
            exact ih43 v21 l3 v22 nc hnc H locs ls hP hD hS (lv_sub hl [2, 1, 3, 0] rfl) hF
      intro l1 l3 nc hnc H locs ls hP hD hS hl hF
      rw [X10_checksum_L31] at hF
      refine lv_iload_n hx hb dX10_checksum_31 rfl (lv_at hl 2 rfl) ?_
      refine lv_aload_n hx hb dX10_checksum_32 rfl (lv_at hl 0 rfl) ?_
      refine va_get (D := D) (ci := 10) (v := .ref qP) (C := RX10) (T := TX10) (N := 11) hx hb hts f_inX10 hown hK (g0.P hS) 0 rfl rfl 5 (by decide) f_f24 (fun _ h9 => h9) rfl dX10_checksum_33 ?_
      refine va_alen hx hb hK (g1.P hS) 0 7 rfl rfl (v := nI (shZ G 2)) rfl dX10_checksum_36 ?_
      refine lv_icmp_ge (tgt := 76) hx hb dX10_checksum_37 (by decide) (fun h23 => ?_) (fun h23 => ?_)
      · have hF := if_p hF h23
        refine lv_iconst (v := 0) hx hb dX10_checksum_76 (by decide) ?_
        refine lv_istore_n (lv' := [(3, .int (0 : Int32)), (0, .ref a), (1, .long l1)]) hx hb dX10_checksum_77 rfl hl (by decide) rfl (fun ls hl => ?_)
        exact J78 FU l1 (0 : Int32) nc hnc H locs ls hP hD hS (lv_sub hl [1, 2, 0] rfl) hF
      · have hF := if_n hF h23
        refine lv_iconst (v := 0) hx hb dX10_checksum_40 (by decide) ?_
        refine lv_istore (lv' := [(4, .int (0 : Int32)), (0, .ref a), (1, .long l1), (3, .int l3)]) hx hb dX10_checksum_41 hl (by decide) rfl (fun ls hl => ?_)
        exact J43 FU l1 l3 (0 : Int32) nc hnc H locs ls hP hD hS (lv_sub hl [1, 2, 3, 0] rfl) hF
  have J4 : ∀ (n4 : Nat) (l1 : Int64) (l3 : Int32) (nc : Nat) (hnc : nc ≤ 20) (H : Heap) (locs : List Loc) (ls : Array Slot), va_P D vwCl ([] : va_W) H → va_D A ([] : va_W) → va_S A s.heap H locs → lv_has ls 5 [(0, .ref a), (1, .long l1), (3, .int l3)] → X10_checksum_L4 G n4 l1 l3 nc = some res → W p l e ({ frames := 8, cells := 20, slots := 520, locals := 201 } : Room) s m args below meth c H locs nc (26 * nc) QQ (F0 m 4 ls []) := by
    intro n4
    induction n4 with
    | zero =>
      intro l1 l3 nc hnc H locs ls hP hD hS hl hF
      rw [X10_checksum_L4] at hF
      cases hF
    | succ n4 ih4 =>
      intro l1 l3 nc hnc H locs ls hP hD hS hl hF
      rw [X10_checksum_L4] at hF
      refine lv_iload_n hx hb dX10_checksum_4 rfl (lv_at hl 2 rfl) ?_
      refine lv_bipush (v := 14) hx hb dX10_checksum_5 (by decide) ?_
      refine lv_icmp_ge (tgt := 29) hx hb dX10_checksum_7 (by decide) (fun h24 => ?_) (fun h24 => ?_)
      · have hF := if_p hF h24
        refine lv_iconst (v := 0) hx hb dX10_checksum_29 (by decide) ?_
        refine lv_istore_n (lv' := [(3, .int (0 : Int32)), (0, .ref a), (1, .long l1)]) hx hb dX10_checksum_30 rfl hl (by decide) rfl (fun ls hl => ?_)
        exact J31 FU l1 (0 : Int32) nc hnc H locs ls hP hD hS (lv_sub hl [1, 2, 0] rfl) hF
      · have hF := if_n hF h24
        refine lv_ldc2 (v := 31) hx hb hown f_c167 dX10_checksum_10 ?_
        refine lv_lload_n hx hb dX10_checksum_13 rfl (lv_at hl 1 rfl) ?_
        refine lv_lmul hx hb dX10_checksum_14 ?_
        refine lv_aload_n hx hb dX10_checksum_15 rfl (lv_at hl 0 rfl) ?_
        refine lv_iload_n hx hb dX10_checksum_16 rfl (lv_at hl 2 rfl) ?_
        obtain ⟨r26, h25, hF⟩ := bn1_o hF
        refine kg_i (va_runV (As := [.int l3]) (rest := [.long ((31 : Int64) * l1)]) ⟨hx, hb, hml, hown, hts⟩ (c_X10_told G a qV H.size l3 _ h25) (cwV 1 hts gX10_checksum_X10_told rfl rfl rfl kd_X10_told ⟨Nat.le_of_ble_eq_true rfl, Nat.le_of_ble_eq_true rfl⟩) ⟨kP_blind (EG_ok D cy G a qV) D _ _ _, va_recv hK (g0.P hS) (ci := 10) (q0 := 0) rfl rfl, kStart (EG_ok D cy G a qV) hEG hP hD hS hA [] rfl rfl _⟩ rfl rfl hl.1 rfl (lv_room (Nat.le_of_ble_eq_true rfl)) dX10_checksum_17 ⟨by show nc + 0 ≤ 20; omega, by show 26 * nc + 0 ≤ 520; omega⟩) hP hD hS hA (fun H locs hP hD hS => ?_)
        show W p l e ({ frames := 8, cells := 20, slots := 520, locals := 201 } : Room) s m args below meth c H locs nc (26 * nc) QQ (F0 m 20 ls [.int r26, .long ((31 : Int64) * l1)])
        refine lv_i2l hx hb dX10_checksum_20 rfl ?_
        refine lv_ladd hx hb dX10_checksum_21 ?_
        refine lv_topl (fun v27 ev27 => ?_)
        have hF := nm_o hF v27 ev27
        refine lv_lstore_n (lv' := [(1, .long v27), (0, .ref a), (3, .int l3)]) hx hb dX10_checksum_22 rfl hl (by decide) rfl (fun ls hl => ?_)
        obtain ⟨v28, ev28⟩ : ∃ y : Int32, y = l3 + (1 : Int32) := ⟨_, rfl⟩
        have hF := nm_o hF v28 ev28
        refine lv_iinc (v := v28) (lv' := [(3, .int v28), (1, .long v27), (0, .ref a)]) hx hb dX10_checksum_23 hl (k := 2) rfl (by rw [ev28]; rfl) (by decide) rfl (fun ls hl => ?_)
        refine lv_goto (tgt := 4) hx hb dX10_checksum_26 (by decide) ?_
        exact ih4 v27 v28 nc hnc H locs ls hP hD hS (lv_sub hl [2, 1, 0] rfl) hF
  have main : ∀ (H : Heap) (locs : List Loc) (ls : Array Slot), va_P D vwCl ([] : va_W) H → va_D A ([] : va_W) → va_S A s.heap H locs → lv_has ls 5 [(0, .ref a)] → W p l e ({ frames := 8, cells := 20, slots := 520, locals := 201 } : Room) s m args below meth c H locs 0 0 QQ (F0 m 0 ls []) := by
    intro H locs ls hP hD hS hl
    unfold X10_checksum at hF
    have hnc : 0 ≤ 20 := Nat.zero_le _
    refine lv_lconst (v := 0) hx hb dX10_checksum_0 (by decide) ?_
    refine lv_lstore_n (lv' := [(1, .long (0 : Int64)), (0, .ref a)]) hx hb dX10_checksum_1 rfl hl (by decide) rfl (fun ls hl => ?_)
    refine lv_iconst (v := 0) hx hb dX10_checksum_2 (by decide) ?_
    refine lv_istore_n (lv' := [(3, .int (0 : Int32)), (1, .long (0 : Int64)), (0, .ref a)]) hx hb dX10_checksum_3 rfl hl (by decide) rfl (fun ls hl => ?_)
    exact J4 FU (0 : Int64) (0 : Int32) 0 hnc H locs ls hP hD hS (lv_sub hl [2, 1, 0] rfl) hF
  exact main s.heap [] ls hP hD hS hl
theorem kd_X10_price : yX10_price.cls = RX10 ∧ yX10_price.cls ≠ "java/lang/invoke/MethodHandle" ∧ yX10_price.cls ≠ "java/lang/invoke/VarHandle" ∧ (parseMethodDescriptor yX10_price.desc).map (fun d => d.parameters.length) = some 2 := by decide +kernel
set_option maxHeartbeats 4000000 in
set_option maxRecDepth 100000 in
theorem c_X10_price {l : Launch} {D : va_G} {cy : Nat → ClassId} (G : LG) (a qV sz : Nat) (va : Nat → Int64) (p1 : Int32) (p2 : Int32) (res : Int32 × (Nat → Int64)) (hF : X10_price G va p1 p2 = some res) : Met l yX10_price wsX10_price ({ frames := 7, cells := 3, slots := 78, locals := 267 } : Room) (kP (EG D cy G a qV) D [.ref a, .int p1, .int p2] [(qV, .inl (cy 2, 4, .inr (.inl va)))] sz) (kQi D res.1 [(qV, .inl (cy 2, 4, .inr (.inl res.2)))] (va_A [(qV, .inl (cy 2, 4, .inr (.inl va)))] sz)) 3 78 (va_A [(qV, .inl (cy 2, 4, .inr (.inl va)))] sz) := by
  refine kMet (y := yX10_price) (av := [.ref a, .int p1, .int p2]) (cc := cX10_price) (maxL := 4) (ret := some .int) (own := RX10) (Qc := fun A9 => (kQi D res.1 [(qV, .inl (cy 2, 4, .inr (.inl res.2)))] A9)) (by decide) rfl rfl (Nat.le_of_ble_eq_true rfl) ?_
  intro p e s m args below meth c A hx hb hr hts hown hml hlocks hname hEG hP hD hA hsz ls hl
  have hN := hEG.1
  obtain ⟨qP, qU, qH, qG, vT, rP, rH, rG, rL, rN, g0, g1, g2, g3, g4, g5, g6, g7, g8, g9, g10⟩ := hEG.2
  have hK := hN.1
  have hl : lv_has ls 4 [(0, .ref a), (1, .int p1), (2, .int p2)] := hl
  have hS : va_S A s.heap s.heap [] := va_S.rf
  have f_f59 := hts (.fieldLink RX10 59 "PeepBoxLaw$Show" "term" "LPeepBoxLaw$Node;") (by decide +kernel)
  have f_inX10 : ∀ w ∈ wsX100, w ∈ wsX10_price := by decide +kernel
  have f_f43 := hts (.fieldLink RX10 43 "PeepBoxLaw$Show" "variables" "[J") (by decide +kernel)
  have f_c102 := hts (.constantLong RX10 102 (999)) (by decide +kernel)
  have f_m110 := hts (.methodLink RX10 110 Lib.MathLoose.min_long.x) (by decide +kernel)
  have f_s_va_mmin_long := hts (.static Lib.MathLoose.min_long.x) (by decide +kernel)
  have f_iMath := hts (.initialized "java/lang/Math") (by decide +kernel)
  have f_k_va_mmin_long := hts (.code Lib.MathLoose.min_long.x Lib.MathLoose.min_long.code 4 (some .long)) (by decide +kernel)
  have f_m116 := hts (.methodLink RX10 116 Lib.MathLoose.max_long.x) (by decide +kernel)
  have f_s_va_mmax_long := hts (.static Lib.MathLoose.max_long.x) (by decide +kernel)
  have f_k_va_mmax_long := hts (.code Lib.MathLoose.max_long.x Lib.MathLoose.max_long.code 4 (some .long)) (by decide +kernel)
  obtain ⟨QQ, hQQ⟩ : ∃ Q9, Q9 = MQ below (kQi D res.1 [(qV, .inl (cy 2, 4, .inr (.inl res.2)))] A) args s 3 78 A := ⟨_, rfl⟩
  rw [← hQQ]
  have main : ∀ (H : Heap) (locs : List Loc) (ls : Array Slot), va_P D vwCl [(qV, .inl (cy 2, 4, .inr (.inl va)))] H → va_D A [(qV, .inl (cy 2, 4, .inr (.inl va)))] → va_S A s.heap H locs → lv_has ls 4 [(0, .ref a), (1, .int p1), (2, .int p2)] → W p l e ({ frames := 7, cells := 3, slots := 78, locals := 267 } : Room) s m args below meth c H locs 0 0 QQ (F0 m 0 ls []) := by
    intro H locs ls hP hD hS hl
    unfold X10_price at hF
    refine lv_aload_n hx hb dX10_price_0 rfl (lv_at hl 0 rfl) ?_
    refine lv_iload_n hx hb dX10_price_1 rfl (lv_at hl 2 rfl) ?_
    refine lv_iload_n hx hb dX10_price_2 rfl (lv_at hl 1 rfl) ?_
    obtain ⟨r2, h1, hF⟩ := bn1_o hF
    refine kg_i (va_runV (As := [.int p2, .int p1]) (rest := []) ⟨hx, hb, hml, hown, hts⟩ (c_X10_shown G a qV H.size p2 p1 _ h1) (cwV 2 hts gX10_price_X10_shown rfl rfl rfl kd_X10_shown ⟨Nat.le_of_ble_eq_true rfl, Nat.le_of_ble_eq_true rfl⟩) ⟨kP_blind (EG_ok D cy G a qV) D _ _ _, va_recv hK (g0.P hS) (ci := 10) (q0 := 0) rfl rfl, kStart (EG_ok D cy G a qV) hEG hP hD hS hA [] rfl rfl _⟩ rfl rfl hl.1 rfl (lv_room (Nat.le_of_ble_eq_true rfl)) dX10_price_3 ⟨Nat.le_of_ble_eq_true rfl, Nat.le_of_ble_eq_true rfl⟩) hP hD hS hA (fun H locs hP hD hS => ?_)
    show W p l e ({ frames := 7, cells := 3, slots := 78, locals := 267 } : Room) s m args below meth c H locs 1 26 QQ (F0 m 6 ls [.int r2])
    refine lv_istore_n (lv' := [(3, .int r2), (0, .ref a), (1, .int p1), (2, .int p2)]) hx hb dX10_price_6 rfl hl (by decide) rfl (fun ls hl => ?_)
    refine lv_aload_n hx hb dX10_price_7 rfl (lv_at hl 1 rfl) ?_
    refine va_get (D := D) (ci := 10) (v := vT) (C := RX10) (T := TX10) (N := 11) hx hb hts f_inX10 hown hK (g0.P hS) 0 rfl rfl 9 (by decide) f_f59 (fun _ h9 => h9) rfl dX10_price_8 ?_
    by_cases h3 : shZ G 5 = 0
    · have hF := if_p hF h3
      have e9 : vT = .null := by rw [g9, if_pos h3]
      rw [e9]
      refine lv_ifnonnullN hx hb dX10_price_11 ?_
      refine lv_iload_n hx hb dX10_price_14 rfl (lv_at hl 0 rfl) ?_
      refine lv_iconst (v := 1) hx hb dX10_price_15 (by decide) ?_
      refine lv_iadd hx hb dX10_price_16 ?_
      obtain rfl := so_o hF
      refine W.widen (k := 3) (n := 78) (by decide) (by decide) ?_
      rw [hQQ]
      exact kr_i hx hb hr hlocks hP hD hS dX10_price_17
    · have hF := if_n hF h3
      have e9 : vT = .ref (rN 1) := by rw [g9, if_neg h3]
      rw [e9]
      refine lv_ifnonnull (tgt := 18) hx hb dX10_price_11 (by decide) ?_
      have g10 := g10 h3
      rw [e9] at g0
      refine lv_aload_n hx hb dX10_price_18 rfl (lv_at hl 1 rfl) ?_
      refine va_get (D := D) (ci := 10) (v := .ref qV) (C := RX10) (T := TX10) (N := 11) hx hb hts f_inX10 hown hK (g0.P hS) 0 rfl rfl 10 (by decide) f_f43 (fun _ h9 => h9) rfl dX10_price_19 ?_
      refine lv_iconst (v := 0) hx hb dX10_price_22 (by decide) ?_
      refine lv_iload_n hx hb dX10_price_23 rfl (lv_at hl 0 rfl) ?_
      refine lv_i2l hx hb dX10_price_24 rfl ?_
      obtain ⟨h4, hF⟩ := st_o hF
      refine va_last hx hb hK hP hD hS 0 2 rfl rfl h4 dX10_price_25 (fun H locs hP hD hS => ?_)
      obtain ⟨b5, eb5⟩ : ∃ y : Nat → Int64, y = (vp_updL va (0 : Int32).toNatClampNeg r2.toInt64) := ⟨_, rfl⟩
      have hF := hF b5 eb5
      have hP : va_P D vwCl [(qV, .inl (cy 2, 4, .inr (.inl b5)))] H := by rw [eb5]; exact hP
      have hD : va_D A [(qV, .inl (cy 2, 4, .inr (.inl b5)))] := by rw [eb5]; exact hD
      refine lv_aload_n hx hb dX10_price_26 rfl (lv_at hl 1 rfl) ?_
      refine va_get (D := D) (ci := 10) (v := .ref qV) (C := RX10) (T := TX10) (N := 11) hx hb hts f_inX10 hown hK (g0.P hS) 0 rfl rfl 10 (by decide) f_f43 (fun _ h9 => h9) rfl dX10_price_27 ?_
      refine lv_iconst (v := 1) hx hb dX10_price_30 (by decide) ?_
      refine lv_aload_n hx hb dX10_price_31 rfl (lv_at hl 1 rfl) ?_
      refine lv_iload_n hx hb dX10_price_32 rfl (lv_at hl 3 rfl) ?_
      refine lv_iconst (v := -1) hx hb dX10_price_33 (by decide) ?_
      obtain ⟨r7, h6, hF⟩ := bn1_o hF
      refine kg_i (va_runV (As := [.int p2, .int (-1 : Int32)]) (rest := [.int (1 : Int32), .ref qV]) ⟨hx, hb, hml, hown, hts⟩ (c_X10_shown G a qV H.size p2 (-1 : Int32) _ h6) (cwV 2 hts gX10_price_X10_shown rfl rfl rfl kd_X10_shown ⟨Nat.le_of_ble_eq_true rfl, Nat.le_of_ble_eq_true rfl⟩) ⟨kP_blind (EG_ok D cy G a qV) D _ _ _, va_recv hK (g0.P hS) (ci := 10) (q0 := 0) rfl rfl, kStart (EG_ok D cy G a qV) hEG hP hD hS hA [] rfl rfl _⟩ rfl rfl hl.1 rfl (lv_room (Nat.le_of_ble_eq_true rfl)) dX10_price_34 ⟨Nat.le_of_ble_eq_true rfl, Nat.le_of_ble_eq_true rfl⟩) hP hD hS hA (fun H locs hP hD hS => ?_)
      show W p l e ({ frames := 7, cells := 3, slots := 78, locals := 267 } : Room) s m args below meth c H locs 2 52 QQ (F0 m 37 ls [.int r7, .int (1 : Int32), .ref qV])
      refine lv_i2l hx hb dX10_price_37 rfl ?_
      obtain ⟨h8, hF⟩ := st_o hF
      refine va_last hx hb hK hP hD hS 0 2 rfl rfl h8 dX10_price_38 (fun H locs hP hD hS => ?_)
      obtain ⟨b9, eb9⟩ : ∃ y : Nat → Int64, y = (vp_updL b5 (1 : Int32).toNatClampNeg r7.toInt64) := ⟨_, rfl⟩
      have hF := hF b9 eb9
      have hP : va_P D vwCl [(qV, .inl (cy 2, 4, .inr (.inl b9)))] H := by rw [eb9]; exact hP
      have hD : va_D A [(qV, .inl (cy 2, 4, .inr (.inl b9)))] := by rw [eb9]; exact hD
      refine lv_aload_n hx hb dX10_price_39 rfl (lv_at hl 1 rfl) ?_
      refine va_get (D := D) (ci := 10) (v := .ref qV) (C := RX10) (T := TX10) (N := 11) hx hb hts f_inX10 hown hK (g0.P hS) 0 rfl rfl 10 (by decide) f_f43 (fun _ h9 => h9) rfl dX10_price_40 ?_
      refine lv_iconst (v := 2) hx hb dX10_price_43 (by decide) ?_
      refine lv_aload_n hx hb dX10_price_44 rfl (lv_at hl 1 rfl) ?_
      refine lv_iload_n hx hb dX10_price_45 rfl (lv_at hl 3 rfl) ?_
      refine lv_bipush (v := -2) hx hb dX10_price_46 (by decide) ?_
      obtain ⟨r11, h10, hF⟩ := bn1_o hF
      refine kg_i (va_runV (As := [.int p2, .int (-2 : Int32)]) (rest := [.int (2 : Int32), .ref qV]) ⟨hx, hb, hml, hown, hts⟩ (c_X10_shown G a qV H.size p2 (-2 : Int32) _ h10) (cwV 2 hts gX10_price_X10_shown rfl rfl rfl kd_X10_shown ⟨Nat.le_of_ble_eq_true rfl, Nat.le_of_ble_eq_true rfl⟩) ⟨kP_blind (EG_ok D cy G a qV) D _ _ _, va_recv hK (g0.P hS) (ci := 10) (q0 := 0) rfl rfl, kStart (EG_ok D cy G a qV) hEG hP hD hS hA [] rfl rfl _⟩ rfl rfl hl.1 rfl (lv_room (Nat.le_of_ble_eq_true rfl)) dX10_price_48 ⟨Nat.le_of_ble_eq_true rfl, Nat.le_of_ble_eq_true rfl⟩) hP hD hS hA (fun H locs hP hD hS => ?_)
      show W p l e ({ frames := 7, cells := 3, slots := 78, locals := 267 } : Room) s m args below meth c H locs 3 78 QQ (F0 m 51 ls [.int r11, .int (2 : Int32), .ref qV])
      refine lv_i2l hx hb dX10_price_51 rfl ?_
      obtain ⟨h12, hF⟩ := st_o hF
      refine va_last hx hb hK hP hD hS 0 2 rfl rfl h12 dX10_price_52 (fun H locs hP hD hS => ?_)
      obtain ⟨b13, eb13⟩ : ∃ y : Nat → Int64, y = (vp_updL b9 (2 : Int32).toNatClampNeg r11.toInt64) := ⟨_, rfl⟩
      have hF := hF b13 eb13
      have hP : va_P D vwCl [(qV, .inl (cy 2, 4, .inr (.inl b13)))] H := by rw [eb13]; exact hP
      have hD : va_D A [(qV, .inl (cy 2, 4, .inr (.inl b13)))] := by rw [eb13]; exact hD
      refine lv_aload_n hx hb dX10_price_53 rfl (lv_at hl 1 rfl) ?_
      refine va_get (D := D) (ci := 10) (v := .ref qV) (C := RX10) (T := TX10) (N := 11) hx hb hts f_inX10 hown hK (g0.P hS) 0 rfl rfl 10 (by decide) f_f43 (fun _ h9 => h9) rfl dX10_price_54 ?_
      refine lv_iconst (v := 3) hx hb dX10_price_57 (by decide) ?_
      refine lv_iload_n hx hb dX10_price_58 rfl (lv_at hl 3 rfl) ?_
      refine lv_i2l hx hb dX10_price_59 rfl ?_
      obtain ⟨h14, hF⟩ := st_o hF
      refine va_last hx hb hK hP hD hS 0 2 rfl rfl h14 dX10_price_60 (fun H locs hP hD hS => ?_)
      obtain ⟨b15, eb15⟩ : ∃ y : Nat → Int64, y = (vp_updL b13 (3 : Int32).toNatClampNeg p2.toInt64) := ⟨_, rfl⟩
      have hF := hF b15 eb15
      have hP : va_P D vwCl [(qV, .inl (cy 2, 4, .inr (.inl b15)))] H := by rw [eb15]; exact hP
      have hD : va_D A [(qV, .inl (cy 2, 4, .inr (.inl b15)))] := by rw [eb15]; exact hD
      refine lv_lconst (v := 0) hx hb dX10_price_61 (by decide) ?_
      refine lv_ldc2 (v := 999) hx hb hown f_c102 dX10_price_62 ?_
      refine lv_aload_n hx hb dX10_price_65 rfl (lv_at hl 1 rfl) ?_
      refine va_get (D := D) (ci := 10) (v := .ref (rN 1)) (C := RX10) (T := TX10) (N := 11) hx hb hts f_inX10 hown hK (g0.P hS) 0 rfl rfl 9 (by decide) f_f59 (fun _ h9 => h9) rfl dX10_price_66 ?_
      refine lv_aload_n hx hb dX10_price_69 rfl (lv_at hl 1 rfl) ?_
      refine va_get (D := D) (ci := 10) (v := .ref qV) (C := RX10) (T := TX10) (N := 11) hx hb hts f_inX10 hown hK (g0.P hS) 0 rfl rfl 10 (by decide) f_f43 (fun _ h9 => h9) rfl dX10_price_70 ?_
      obtain ⟨r17, h16, hF⟩ := bn1_o hF
      refine kc_l (va_runV (As := [.ref qV]) (rest := [.long (999 : Int64), .long (0 : Int64)]) ⟨hx, hb, hml, hown, hts⟩ (c_X8_root G rN qV H.size b15 _ h16) (cwV 1 hts gX10_price_X8_value rfl rfl rfl kd_X8_value ⟨Nat.le_of_ble_eq_true rfl, Nat.le_of_ble_eq_true rfl⟩) ⟨kP_blind (ET_ok D cy G rN) D _ _ _, va_recv hK ((g10 1 rfl).P hS) (ci := 8) (q0 := 0) rfl rfl, kStart (ET_ok D cy G rN) (show ET D cy G rN A s s.heap from ⟨hN, g10⟩) hP hD hS hA [0] rfl rfl _⟩ rfl rfl hl.1 rfl (lv_room (Nat.le_of_ble_eq_true rfl)) dX10_price_73 ⟨Nat.le_of_ble_eq_true rfl, Nat.le_of_ble_eq_true rfl⟩) hP hD hS hA [0] rfl (Nat.le_refl _) (fun H locs hP hD hS => ?_)
      have hP : va_P D vwCl [(qV, .inl (cy 2, 4, .inr (.inl b15)))] H := hP
      have hD : va_D A [(qV, .inl (cy 2, 4, .inr (.inl b15)))] := hD
      refine va_mmin_long hx hb (by rw [hml]; exact hl.1.symm) hown f_m110 f_s_va_mmin_long f_iMath f_k_va_mmin_long (Nat.le_of_ble_eq_true rfl) (Nat.le_of_ble_eq_true rfl) (Nat.le_of_ble_eq_true rfl) (Nat.le_of_ble_eq_true rfl) dX10_price_76 ?_
      refine lv_topl (fun v18 ev18 => ?_)
      have hF := nm_o hF v18 ev18
      refine va_mmax_long hx hb (by rw [hml]; exact hl.1.symm) hown f_m116 f_s_va_mmax_long f_iMath f_k_va_mmax_long (Nat.le_of_ble_eq_true rfl) (Nat.le_of_ble_eq_true rfl) (Nat.le_of_ble_eq_true rfl) (Nat.le_of_ble_eq_true rfl) dX10_price_79 ?_
      refine lv_topl (fun v19 ev19 => ?_)
      have hF := nm_o hF v19 ev19
      refine lv_l2i hx hb dX10_price_82 rfl ?_
      obtain rfl := so_o hF
      rw [hQQ]
      exact kr_i hx hb hr hlocks hP hD hS dX10_price_83
  exact main s.heap [] ls hP hD hS hl
