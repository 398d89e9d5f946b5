/-! agrees (ag.py) -/
theorem lg_cmp_self (x : Int64) : lg_cmp x x = 0 := by
  unfold lg_cmp
  simp
def EA (D : va_G) (cy : Nat → ClassId) (G : LG) (a qV : Nat) (A : Nat → Prop) (U : State) (H : Heap) : Prop := EH D cy A U H ∧ EG D cy G a qV A U H
theorem EA_ok (D : va_G) (cy : Nat → ClassId) (G : LG) (a qV : Nat) : EOK (EA D cy G a qV) := fun A B s U H0 H h hq hAB hW => ⟨EH_ok D cy A B s U H0 H h.1 hq hAB hW, EG_ok D cy G a qV A B s U H0 H h.2 hq hAB hW⟩
theorem kd_L_agrees : yL_agrees.cls ≠ "java/lang/invoke/MethodHandle" ∧ yL_agrees.cls ≠ "java/lang/invoke/VarHandle" ∧ (parseMethodDescriptor yL_agrees.desc).map (fun d => d.parameters.length) = some 2 := by decide +kernel
set_option maxHeartbeats 4000000 in
set_option maxRecDepth 100000 in
theorem c_L_agrees {l : Launch} {D : va_G} {cy : Nat → ClassId} (u : Nat → Nat) (qo a qV sz : Nat) (st : St) (G : LG) (cv : Int64) (hst : l.stackTraces = false) (hck : X6_checksum (Sh.width (St.now st)) (Sh.height (St.now st)) (Sh.planes (St.now st)) (Sh.holes (St.now st)) (Sh.reach (St.now st)) (Sh.cells (St.now st)) (Sh.pulls (St.now st)) (Sh.holeX (St.now st)) (Sh.holeY (St.now st)) (Sh.viewers (St.now st)) (Sh.lookLength (St.now st)) (Sh.time (St.now st)) (Sh.lookers (St.now st)) (Sh.facts (St.now st)) (Vw.seen (St.view st)) (Vw.kinds (St.view st)) (Vw.depths (St.view st)) = some cv) (hcg : X10_checksum G = some cv) (h14 : X6_state (Sh.width (St.now st)) (Sh.height (St.now st)) (Sh.planes (St.now st)) (Sh.holes (St.now st)) (Sh.reach (St.now st)) (Sh.viewers (St.now st)) (Sh.lookLength (St.now st)) (Sh.time (St.now st)) (Sh.facts (St.now st)) (14 : Int32) = some (.inl 2)) (hpl : X6_plane (Sh.width (St.now st)) (Sh.height (St.now st)) (Sh.planes (St.now st)) (Sh.holes (St.now st)) (Sh.cells (St.now st)) (Sh.pulls (St.now st)) (Vw.seen (St.view st)) (nI (shZ G 2)) (0 : Int32) = some (.inl 1)) (hho : X6_hole (Sh.holes (St.now st)) (Sh.holeX (St.now st)) (Sh.holeY (St.now st)) (Sh.lookers (St.now st)) (Vw.kinds (St.view st)) (Vw.depths (St.view st)) (nI (shZ G 3)) (0 : Int32) = some (.inl 1)) (hvi : X6_viewer (Sh.viewers (St.now st)) (Sh.facts (St.now st)) (nI (shZ G 4)) (0 : Int32) = some (.inl 1)) (hsa : ∀ i, i < 14 → ∃ r, X6_state (Sh.width (St.now st)) (Sh.height (St.now st)) (Sh.planes (St.now st)) (Sh.holes (St.now st)) (Sh.reach (St.now st)) (Sh.viewers (St.now st)) (Sh.lookLength (St.now st)) (Sh.time (St.now st)) (Sh.facts (St.now st)) (nI i) = some (.inr r) ∧ X10_told G (nI i) = some r) : Met l yL_agrees wsL_agrees ({ frames := 40, cells := 24, slots := 544, locals := 2000 } : Room) (kP (EA D cy G a qV) D [.ref qo, .ref a] ((CW cy u qo st)) sz) (kQi D 1 (CW cy u qo st) (va_A ((CW cy u qo st)) sz)) 24 544 (va_A ((CW cy u qo st)) sz) := by
  refine kMet (y := yL_agrees) (av := [.ref qo, .ref a]) (cc := cL_agrees) (maxL := 4) (ret := some .boolean) (own := RL) (Qc := fun A9 => (kQi D 1 (CW cy u qo st) A9)) (by decide) rfl rfl (Nat.le_of_ble_eq_true rfl) ?_
  intro p e s m args below meth c A hx hb hr hts hown hml hlocks hname hE hP hD hA hsz ls hl
  obtain ⟨hEH, hEG⟩ := hE
  have hE := hEH.1
  obtain ⟨-, qP, qU, qH, qG, vT, rP, rH, rG, rL, rN, g1, g2, g3, g4, g5, g6, g7, g8, g9, g10, g11⟩ := id hEG
  have hK := hE.1
  have hl : lv_has ls 4 [(0, .ref qo), (1, .ref a)] := hl
  have hS : va_S A s.heap s.heap [] := va_S.rf
  have c42 := hts (.constant RL 42 (-2000000098)) (by decide +kernel)
  have f148 := hts (.fieldLink RL 148 "PeepBoxLaw$Show" "planes" "[[Ljava/lang/String;") (by decide +kernel)
  have inX10 : ∀ w ∈ wsX100, w ∈ wsL_agrees := by decide +kernel
  have c52 := hts (.constant RL 52 (-2000000097)) (by decide +kernel)
  have f154 := hts (.fieldLink RL 154 "PeepBoxLaw$Show" "holes" "[[I") (by decide +kernel)
  have f219 := hts (.fieldLink RL 219 "PeepBoxLaw$Show" "guests" "[LPeepBoxLaw$Guest;") (by decide +kernel)
  obtain ⟨QQ, hQQ⟩ : ∃ Q9, Q9 = MQ below (kQi D 1 (CW cy u qo st) A) args s 24 544 A := ⟨_, rfl⟩
  rw [← hQQ]
  obtain ⟨H, hH⟩ : ∃ H9, H9 = s.heap := ⟨_, rfl⟩
  have hP : va_P D vwCl ((CW cy u qo st)) H := by rw [hH]; exact hP
  have hS : va_S A s.heap H [] := by rw [hH]; exact hS
  rw [← hH]
  have hP : va_P D vwCl ((CW cy u qo st) ++ ([] : va_W)) H := by rw [List.append_nil]; exact hP
  have hD : va_D A ((CW cy u qo st) ++ ([] : va_W)) := by rw [List.append_nil]; exact hD
  refine lv_aload_n hx hb dL_agrees_0 rfl (lv_at hl 0 rfl) ?_
  refine kp_l (va_runV (As := []) (rest := []) ⟨hx, hb, hml, hown, hts⟩ (k_X6_checksum u qo H.size st cv hck) (cwV 0 hts gL_agrees_X6_checksum rfl rfl rfl kd_X6_checksum ⟨Nat.le_of_ble_eq_true rfl, Nat.le_of_ble_eq_true rfl⟩) ⟨kP_blind (EN_ok D cy) D _ _ _, va_recv hK hP (ci := 6) (q0 := 0) rfl rfl, kpStart (EN_ok D cy) hE hP hD hS hA _⟩ rfl rfl hl.1 rfl (lv_room (Nat.le_of_ble_eq_true rfl)) dL_agrees_1 ⟨by show 0 + 0 ≤ 24; omega, by show 0 + 0 ≤ 544; omega⟩) hP hD hS hA (fun H locs hP hD hS => ?_)
  refine lv_aload_n hx hb dL_agrees_4 rfl (lv_at hl 1 rfl) ?_
  refine kg_l (va_runV (As := []) (rest := [.long cv]) ⟨hx, hb, hml, hown, hts⟩ (c_X10_checksum G a qV H.size cv hcg) (cwV 0 hts gL_agrees_X10_checksum rfl rfl rfl kd_X10_checksum ⟨Nat.le_of_ble_eq_true rfl, Nat.le_of_ble_eq_true rfl⟩) ⟨kP_blind (EG_ok D cy G a qV) D _ _ _, va_recv hK (g1.P hS) (ci := 10) (q0 := 0) rfl rfl, kStart (EG_ok D cy G a qV) hEG hP hD hS hA [] rfl rfl _⟩ rfl rfl hl.1 rfl (lv_room (Nat.le_of_ble_eq_true rfl)) dL_agrees_5 ⟨by show 0 + 20 ≤ 24; omega, by show 0 + 520 ≤ 544; omega⟩) hP hD hS hA (fun H locs hP hD hS => ?_)
  refine W.lcmp hx hb dL_agrees_8 ?_
  rw [lg_cmp_self]
  refine lv_if_ne (tgt := 72) hx hb dL_agrees_9 (by decide) (fun h1 => absurd (rfl) h1) (fun _ => ?_)
  refine lv_aload_n hx hb dL_agrees_12 rfl (lv_at hl 0 rfl) ?_
  refine lv_bipush (v := 14) hx hb dL_agrees_13 (by decide) ?_
  refine kp_i (vx_runSW (As := [.ref qo, .int (14 : Int32)]) (rest := []) ⟨hx, hb, hml, hown, hts⟩ (k2_L_state u qo H.size st (14 : Int32) hst h14) (vx_cwSW 2 hts gL_agrees_L_state rfl rfl rfl kd_L_state ⟨Nat.le_of_ble_eq_true rfl, Nat.le_of_ble_eq_true rfl⟩) ⟨kP_blind (EH_ok D cy) D _ _ _, kpStart (EH_ok D cy) hEH hP hD hS hA _⟩ rfl rfl hl.1 rfl (lv_room (Nat.le_of_ble_eq_true rfl)) dL_agrees_15 ⟨by show (0 + 20) + 1 ≤ 24; omega, by show (0 + 520) + 6 ≤ 544; omega⟩) hP hD hS hA (fun H locs hP hD hS => ?_)
  refine lv_ldc (v := -2000000098) hx hb hown c42 dL_agrees_18 ?_
  refine lv_icmp_ne (tgt := 72) hx hb dL_agrees_20 (by decide) (fun h2 => absurd (rfl) h2) (fun _ => ?_)
  refine lv_aload_n hx hb dL_agrees_23 rfl (lv_at hl 0 rfl) ?_
  refine lv_aload_n hx hb dL_agrees_24 rfl (lv_at hl 1 rfl) ?_
  refine va_get (D := D) (ci := 10) (v := .ref qP) (C := RX10) (T := TX10) (N := 11) hx hb hts inX10 hown hK (g1.P hS) 0 rfl rfl 5 (by decide) f148 (fun _ h9 => h9) rfl dL_agrees_25 ?_
  refine va_alen hx hb hK (g2.P hS) 0 7 rfl rfl (v := nI (shZ G 2)) rfl dL_agrees_28 ?_
  refine lv_iconst (v := 0) hx hb dL_agrees_29 (by decide) ?_
  refine kp_i (vx_runSW (As := [.ref qo, .int (nI (shZ G 2)), .int (0 : Int32)]) (rest := []) ⟨hx, hb, hml, hown, hts⟩ (k1_L_plane u qo H.size st (nI (shZ G 2)) (0 : Int32) hst hpl) (vx_cwSW 3 hts gL_agrees_L_plane rfl rfl rfl kd_L_plane ⟨Nat.le_of_ble_eq_true rfl, Nat.le_of_ble_eq_true rfl⟩) ⟨kP_blind (EH_ok D cy) D _ _ _, kpStart (EH_ok D cy) hEH hP hD hS hA _⟩ rfl rfl hl.1 rfl (lv_room (Nat.le_of_ble_eq_true rfl)) dL_agrees_30 ⟨by show ((0 + 20) + 1) + 1 ≤ 24; omega, by show ((0 + 520) + 6) + 6 ≤ 544; omega⟩) hP hD hS hA (fun H locs hP hD hS => ?_)
  refine lv_ldc (v := -2000000097) hx hb hown c52 dL_agrees_33 ?_
  refine lv_icmp_ne (tgt := 72) hx hb dL_agrees_35 (by decide) (fun h3 => absurd (rfl) h3) (fun _ => ?_)
  refine lv_aload_n hx hb dL_agrees_38 rfl (lv_at hl 0 rfl) ?_
  refine lv_aload_n hx hb dL_agrees_39 rfl (lv_at hl 1 rfl) ?_
  refine va_get (D := D) (ci := 10) (v := .ref qH) (C := RX10) (T := TX10) (N := 11) hx hb hts inX10 hown hK (g1.P hS) 0 rfl rfl 7 (by decide) f154 (fun _ h9 => h9) rfl dL_agrees_40 ?_
  refine va_alen hx hb hK (g6.P hS) 0 4 rfl rfl (v := nI (shZ G 3)) rfl dL_agrees_43 ?_
  refine lv_iconst (v := 0) hx hb dL_agrees_44 (by decide) ?_
  refine kp_i (vx_runSW (As := [.ref qo, .int (nI (shZ G 3)), .int (0 : Int32)]) (rest := []) ⟨hx, hb, hml, hown, hts⟩ (k1_L_hole u qo H.size st (nI (shZ G 3)) (0 : Int32) hst hho) (vx_cwSW 3 hts gL_agrees_L_hole rfl rfl rfl kd_L_hole ⟨Nat.le_of_ble_eq_true rfl, Nat.le_of_ble_eq_true rfl⟩) ⟨kP_blind (EH_ok D cy) D _ _ _, kpStart (EH_ok D cy) hEH hP hD hS hA _⟩ rfl rfl hl.1 rfl (lv_room (Nat.le_of_ble_eq_true rfl)) dL_agrees_45 ⟨by show (((0 + 20) + 1) + 1) + 1 ≤ 24; omega, by show (((0 + 520) + 6) + 6) + 6 ≤ 544; omega⟩) hP hD hS hA (fun H locs hP hD hS => ?_)
  refine lv_ldc (v := -2000000097) hx hb hown c52 dL_agrees_48 ?_
  refine lv_icmp_ne (tgt := 72) hx hb dL_agrees_50 (by decide) (fun h4 => absurd (rfl) h4) (fun _ => ?_)
  refine lv_aload_n hx hb dL_agrees_53 rfl (lv_at hl 0 rfl) ?_
  refine lv_aload_n hx hb dL_agrees_54 rfl (lv_at hl 1 rfl) ?_
  refine va_get (D := D) (ci := 10) (v := .ref qG) (C := RX10) (T := TX10) (N := 11) hx hb hts inX10 hown hK (g1.P hS) 0 rfl rfl 8 (by decide) f219 (fun _ h9 => h9) rfl dL_agrees_55 ?_
  refine va_alen hx hb hK (g8.P hS) 0 8 rfl rfl (v := nI (shZ G 4)) rfl dL_agrees_58 ?_
  refine lv_iconst (v := 0) hx hb dL_agrees_59 (by decide) ?_
  refine kp_i (vx_runSW (As := [.ref qo, .int (nI (shZ G 4)), .int (0 : Int32)]) (rest := []) ⟨hx, hb, hml, hown, hts⟩ (k1_L_viewer u qo H.size st (nI (shZ G 4)) (0 : Int32) hst hvi) (vx_cwSW 3 hts gL_agrees_L_viewer rfl rfl rfl kd_L_viewer ⟨Nat.le_of_ble_eq_true rfl, Nat.le_of_ble_eq_true rfl⟩) ⟨kP_blind (EH_ok D cy) D _ _ _, kpStart (EH_ok D cy) hEH hP hD hS hA _⟩ rfl rfl hl.1 rfl (lv_room (Nat.le_of_ble_eq_true rfl)) dL_agrees_60 ⟨by show ((((0 + 20) + 1) + 1) + 1) + 1 ≤ 24; omega, by show ((((0 + 520) + 6) + 6) + 6) + 6 ≤ 544; omega⟩) hP hD hS hA (fun H locs hP hD hS => ?_)
  refine lv_ldc (v := -2000000097) hx hb hown c52 dL_agrees_63 ?_
  refine lv_icmp_ne (tgt := 72) hx hb dL_agrees_65 (by decide) (fun h5 => absurd (rfl) h5) (fun _ => ?_)
  refine lv_iconst (v := 1) hx hb dL_agrees_68 (by decide) ?_
  refine lv_goto (tgt := 73) hx hb dL_agrees_69 (by decide) ?_
  refine lv_istore_n (lv' := [(2, .int (1 : Int32)), (0, .ref qo), (1, .ref a)]) hx hb dL_agrees_73 rfl hl (by decide) rfl (fun ls hl => ?_)
  refine lv_iconst (v := 0) hx hb dL_agrees_74 (by decide) ?_
  refine lv_istore_n (lv' := [(3, .int (0 : Int32)), (2, .int (1 : Int32)), (0, .ref qo), (1, .ref a)]) hx hb dL_agrees_75 rfl hl (by decide) rfl (fun ls hl => ?_)
  refine W.widen (k := 24) (n := 544) (by omega) (by omega) ?_
  have J : ∀ (n i : Nat) (H : Heap) (locs : List Loc) (ls : Array Slot), 14 - i < n → i ≤ 14 → va_P D vwCl ((CW cy u qo st) ++ ([] : va_W)) H → va_D A ((CW cy u qo st) ++ ([] : va_W)) → va_S A s.heap H locs → lv_has ls 4 [(3, .int (nI i)), (2, .int (1 : Int32)), (0, .ref qo), (1, .ref a)] → W p l e ({ frames := 40, cells := 24, slots := 544, locals := 2000 } : Room) s m args below meth c H locs 24 544 QQ (F0 m 76 ls []) := by
    intro n
    induction n with
    | zero => intro i H locs ls h1; omega
    | succ n ih =>
      intro i H locs ls h1 h2 hP hD hS hl
      refine lv_iload_n hx hb dL_agrees_76 rfl (lv_at hl 0 rfl) ?_
      refine lv_bipush (v := 14) hx hb dL_agrees_77 (by decide) ?_
      by_cases hi : i < 14
      · skip
        refine lv_icmp_ge (tgt := 111) hx hb dL_agrees_79 (by decide) (fun h6 => absurd h6 (nI_ge (a := i) (b := 14) hi (by decide))) (fun _ => ?_)
        refine lv_iload_n hx hb dL_agrees_82 rfl (lv_at hl 1 rfl) ?_
        refine lv_if_eq (tgt := 111) hx hb dL_agrees_83 (by decide) (fun h7 => absurd h7 ((by decide : ¬ ((1 : Int32) = 0)))) (fun _ => ?_)
        obtain ⟨r, hr1, hr2⟩ := hsa i hi
        refine lv_aload_n hx hb dL_agrees_86 rfl (lv_at hl 2 rfl) ?_
        refine lv_iload_n hx hb dL_agrees_87 rfl (lv_at hl 0 rfl) ?_
        refine kp_i (vx_runSW (As := [.ref qo, .int (nI i)]) (rest := []) ⟨hx, hb, hml, hown, hts⟩ (k_L_state u qo H.size st (nI i) r hr1) (vx_cwSW 2 hts gL_agrees_L_state rfl rfl rfl kd_L_state ⟨Nat.le_of_ble_eq_true rfl, Nat.le_of_ble_eq_true rfl⟩) ⟨kP_blind (EH_ok D cy) D _ _ _, kpStart (EH_ok D cy) hEH hP hD hS hA _⟩ rfl rfl hl.1 rfl (lv_room (Nat.le_of_ble_eq_true rfl)) dL_agrees_88 ⟨by show 24 + 0 ≤ 24; omega, by show 544 + 0 ≤ 544; omega⟩) hP hD hS hA (fun H locs hP hD hS => ?_)
        refine lv_aload_n hx hb dL_agrees_91 rfl (lv_at hl 3 rfl) ?_
        refine lv_iload_n hx hb dL_agrees_92 rfl (lv_at hl 0 rfl) ?_
        refine kg_i (va_runV (As := [.int (nI i)]) (rest := [.int r]) ⟨hx, hb, hml, hown, hts⟩ (c_X10_told G a qV H.size (nI i) r hr2) (cwV 1 hts gL_agrees_X10_told rfl rfl rfl kd_X10_told ⟨Nat.le_of_ble_eq_true rfl, Nat.le_of_ble_eq_true rfl⟩) ⟨kP_blind (EG_ok D cy G a qV) D _ _ _, va_recv hK (g1.P hS) (ci := 10) (q0 := 0) rfl rfl, kStart (EG_ok D cy G a qV) hEG hP hD hS hA [] rfl rfl _⟩ rfl rfl hl.1 rfl (lv_room (Nat.le_of_ble_eq_true rfl)) dL_agrees_93 ⟨by show 24 + 0 ≤ 24; omega, by show 544 + 0 ≤ 544; omega⟩) hP hD hS hA (fun H locs hP hD hS => ?_)
        refine lv_icmp_ne (tgt := 103) hx hb dL_agrees_96 (by decide) (fun h8 => absurd (rfl) h8) (fun _ => ?_)
        refine lv_iconst (v := 1) hx hb dL_agrees_99 (by decide) ?_
        refine lv_goto (tgt := 104) hx hb dL_agrees_100 (by decide) ?_
        refine lv_istore_n (lv' := [(2, .int (1 : Int32)), (3, .int (nI i)), (0, .ref qo), (1, .ref a)]) hx hb dL_agrees_104 rfl hl (by decide) rfl (fun ls hl => ?_)
        refine lv_iinc (v := (nI (i + 1))) (lv' := [(3, .int (nI (i + 1))), (2, .int (1 : Int32)), (0, .ref qo), (1, .ref a)]) hx hb dL_agrees_105 hl (k := 1) rfl (by rw [nI_succ]; rfl) (by decide) rfl (fun ls hl => ?_)
        refine lv_goto (tgt := 76) hx hb dL_agrees_108 (by decide) ?_
        exact ih (i + 1) H _ ls (by omega) (by omega) hP hD hS (lv_sub hl [0, 1, 2, 3] rfl)
      · skip
        refine lv_icmp_ge (tgt := 111) hx hb dL_agrees_79 (by decide) (fun _ => ?_) (fun h6 => absurd (nI_le (a := 14) (b := i) (by omega) (by omega)) h6)
        refine lv_iload_n hx hb dL_agrees_111 rfl (lv_at hl 1 rfl) ?_
        rw [List.append_nil] at hP hD
        rw [hQQ]
        exact kr_z (v := 1) hx hb hr hlocks rfl hP hD hS dL_agrees_112
  exact J 15 0 H _ ls (by omega) (by omega) hP hD hS (lv_sub hl [0, 1, 2, 3] rfl)
