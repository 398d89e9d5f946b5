/-! Node.value (val.py) -/
/-- Node.value: fuel, the node's place -/
def X8_op (k : Nat) (a b : Int64) : Int64 := if k = 2 then a + b else if k = 3 then a - b else if k = 4 then a * b else if b = 0 then 0 else a / b
def X8_lim (v : Int64) : Int64 := if (if v < (1000000 : Int64) then v else (1000000 : Int64)) < (-1000000 : Int64) then (-1000000 : Int64) else (if v < (1000000 : Int64) then v else (1000000 : Int64))
def X8_value (G : LG) (va : Nat → Int64) : Nat → Nat → Option Int64
  | 0, _ => none
  | d + 1, i => ck (shK G i < 6) <|
    if shK G i < 2 then (if shK G i = 0 then some (shN G i).toInt64 else ld va 4 (shN G i) fun (v : Int64) => some v)
    else bn1 (X8_value G va d (2 * i)) fun (a : Int64) => bn1 (X8_value G va d (2 * i + 1)) fun (b : Int64) => nm (X8_op (shK G i) a b) fun (v : Int64) => some (X8_lim v)
/-- the places at the depth that d says -/
def X8_at (d i : Nat) : Prop := d = 0 ∨ (d = 1 ∧ 4 ≤ i ∧ i ≤ 7) ∨ (d = 2 ∧ 2 ≤ i ∧ i ≤ 3) ∨ (d = 3 ∧ i = 1)
theorem X8_kids {G : LG} {d i : Nat} (h : X8_at (d + 1) i) (h0 : shQ G i = true) (hk : 1 < shK G i) (hd : 0 < d) : shQ G (2 * i) = true ∧ shQ G (2 * i + 1) = true ∧ X8_at d (2 * i) ∧ X8_at d (2 * i + 1) := by
  rcases h with h | ⟨h, h1, h2⟩ | ⟨h, h1, h2⟩ | ⟨h, h1⟩
  · omega
  · omega
  · obtain rfl : d = 1 := by omega
    have : i = 2 ∨ i = 3 := by omega
    rcases this with rfl | rfl
    · have h9 : (decide (1 < shK G 1) && decide (1 < shK G 2)) = true := by
        have : decide (1 < shK G 1) = true := h0
        rw [this]; simpa using hk
      exact ⟨h9, h9, Or.inr (Or.inl ⟨rfl, by omega, by omega⟩), Or.inr (Or.inl ⟨rfl, by omega, by omega⟩)⟩
    · have h9 : (decide (1 < shK G 1) && decide (1 < shK G 3)) = true := by
        have : decide (1 < shK G 1) = true := h0
        rw [this]; simpa using hk
      exact ⟨h9, h9, Or.inr (Or.inl ⟨rfl, by omega, by omega⟩), Or.inr (Or.inl ⟨rfl, by omega, by omega⟩)⟩
  · subst h1
    obtain rfl : d = 2 := by omega
    have h9 : decide (1 < shK G 1) = true := by simpa using hk
    exact ⟨h9, h9, Or.inr (Or.inr (Or.inl ⟨rfl, by omega, by omega⟩)), Or.inr (Or.inr (Or.inl ⟨rfl, by omega, by omega⟩))⟩
theorem kx_cmp0 {x : Int64} (h : lg_cmp x 0 = 0) : x = 0 := by
  unfold lg_cmp at h
  by_cases c1 : x > 0
  · rw [if_pos c1] at h; exact absurd h (by decide)
  · by_cases c2 : x = 0
    · exact c2
    · rw [if_neg c1, if_neg c2] at h; exact absurd h (by decide)
theorem kd_X8_value : yX8_value.cls = RX8 ∧ yX8_value.cls ≠ "java/lang/invoke/MethodHandle" ∧ yX8_value.cls ≠ "java/lang/invoke/VarHandle" ∧ (parseMethodDescriptor yX8_value.desc).map (fun d => d.parameters.length) = some 1 := by decide +kernel
set_option maxHeartbeats 4000000 in
set_option maxRecDepth 100000 in
theorem b_X8_value {l : Launch} {D : va_G} {cy : Nat → ClassId} (G : LG) (rN : Nat → Nat) (qV : Nat) (va : Nat → Int64) : ∀ (d i sz : Nat) (res : Int64), shQ G i = true → X8_at d i → X8_value G va d i = some res → Met l yX8_value wsX8_value ({ frames := d, cells := 0, slots := 0, locals := 80 * (d) } : Room) (kP (ET D cy G rN) D [.ref (rN i), .ref qV] [(qV, .inl (cy 2, 4, .inr (.inl va)))] sz) (kQl D res [(qV, .inl (cy 2, 4, .inr (.inl va)))] (va_A [(qV, .inl (cy 2, 4, .inr (.inl va)))] sz)) 0 0 (va_A [(qV, .inl (cy 2, 4, .inr (.inl va)))] sz) := by
  intro d
  induction d with
  | zero =>
    intro i sz res _ _ hF
    cases hF
  | succ d ih =>
    intro i sz res hq hat hF
    refine kMet (y := yX8_value) (av := [.ref (rN i), .ref qV]) (cc := cX8_value) (maxL := 8) (ret := some .long) (own := RX8) (Qc := fun A9 => (kQl D res [(qV, .inl (cy 2, 4, .inr (.inl va)))] A9)) (by decide) rfl rfl (Nat.le_of_ble_eq_true rfl) ?_
    intro p e s m args below meth c A hx hb hr hts hown hml hlocks hname hET hP hD hA hsz ls hl
    have hN := hET.1
    have gn := hET.2 i hq
    have hK := hN.1
    have hl : lv_has ls 8 [(0, .ref (rN i)), (1, .ref qV)] := hl
    have hS : va_S A s.heap s.heap [] := va_S.rf
    have f16 := hts (.fieldLink RX8 16 "PeepBoxLaw$Node" "kind" "I") (by decide +kernel)
    have f20 := hts (.fieldLink RX8 20 "PeepBoxLaw$Node" "number" "I") (by decide +kernel)
    have f27 := hts (.fieldLink RX8 27 "PeepBoxLaw$Node" "left" "LPeepBoxLaw$Node;") (by decide +kernel)
    have f31 := hts (.fieldLink RX8 31 "PeepBoxLaw$Node" "right" "LPeepBoxLaw$Node;") (by decide +kernel)
    have inX8 : ∀ w ∈ wsX80, w ∈ wsX8_value := by decide +kernel
    have mmin := hts (.methodLink RX8 80 Lib.MathLoose.min_long.x) (by decide +kernel)
    have smin := hts (.static Lib.MathLoose.min_long.x) (by decide +kernel)
    have kmin := hts (.code Lib.MathLoose.min_long.x Lib.MathLoose.min_long.code 4 (some .long)) (by decide +kernel)
    have mmax := hts (.methodLink RX8 86 Lib.MathLoose.max_long.x) (by decide +kernel)
    have smax := hts (.static Lib.MathLoose.max_long.x) (by decide +kernel)
    have kmax := hts (.code Lib.MathLoose.max_long.x Lib.MathLoose.max_long.code 4 (some .long)) (by decide +kernel)
    have iMath := hts (.initialized "java/lang/Math") (by decide +kernel)
    have c76 := hts (.constantLong RX8 76 (-1000000)) (by decide +kernel)
    have c78 := hts (.constantLong RX8 78 (1000000)) (by decide +kernel)
    obtain ⟨QQ, hQQ⟩ : ∃ Q9, Q9 = MQ below (kQl D res [(qV, .inl (cy 2, 4, .inr (.inl va)))] A) args s 0 0 A := ⟨_, rfl⟩
    rw [← hQQ]
    rw [X8_value] at hF
    obtain ⟨hk6, hF⟩ := ck_o hF
    have hlt : ∀ n : Nat, n < 6 → (nI (shK G i) = nI n ↔ shK G i = n) := fun n hn => nI_eq (by omega) (by omega)
    refine lv_aload_n hx hb dX8_value_0 rfl (lv_at hl 0 rfl) ?_
    refine va_get (D := D) (ci := 8) (v := .int (nI (shK G i))) (C := RX8) (T := TX8) (N := 4) hx hb hts inX8 hown hK (gn.P hS) 0 rfl rfl 0 (by decide) f16 (fun _ h9 => h9) rfl dX8_value_1 ?_
    refine lv_iconst (v := 2) hx hb dX8_value_4 (by decide) ?_
    refine lv_icmp_ge (tgt := 30) hx hb dX8_value_5 (by decide) (fun h1 => ?_) (fun h1 => ?_)
    · have h2 : ¬ shK G i < 2 := fun z => nI_ge z (by decide) h1
      have hF := if_n hF h2
      obtain ⟨va1, hz1, hF⟩ := bn1_o hF
      obtain ⟨va2, hz2, hF⟩ := bn1_o hF
      have hd : 0 < d := by cases d with | zero => cases hz1 | succ d => exact Nat.succ_pos d
      obtain ⟨q1, q2, t1, t2⟩ := X8_kids hat hq (by omega) hd
      have k1 : 1 < shK G i := by omega
      have gn : ro D (rN i) (.inr (8, [.int (nI (shK G i)), .int (shN G i), .ref (rN (2 * i)), .ref (rN (2 * i + 1))])) A s.heap := by have := gn; unfold nodeE at this; rw [if_pos k1, if_pos k1] at this; exact this
      obtain ⟨H, hH⟩ : ∃ H9, H9 = s.heap := ⟨_, rfl⟩
      have hP : va_P D vwCl [(qV, .inl (cy 2, 4, .inr (.inl va)))] H := by rw [hH]; exact hP
      have hS : va_S A s.heap H [] := by rw [hH]; exact hS
      rw [← hH]
      refine lv_aload_n hx hb dX8_value_30 rfl (lv_at hl 0 rfl) ?_
      refine va_get (D := D) (ci := 8) (v := .ref (rN (2 * i))) (C := RX8) (T := TX8) (N := 4) hx hb hts inX8 hown hK (gn.P hS) 0 rfl rfl 2 (by decide) f27 (fun _ h9 => h9) rfl dX8_value_31 ?_
      refine lv_aload_n hx hb dX8_value_34 rfl (lv_at hl 1 rfl) ?_
      refine kc_l (va_runV (As := [.ref qV]) (rest := []) ⟨hx, hb, hml, hown, hts⟩ (ih (2 * i) H.size _ q1 t1 hz1) (cwV 1 hts gX8_value_X8_value rfl rfl rfl kd_X8_value ⟨by dsimp only; omega, by dsimp only; omega⟩) ⟨kP_blind (ET_ok D cy G rN) D _ _ _, va_recv hK ((hET.2 (2 * i) q1).P hS) (ci := 8) (q0 := 0) rfl rfl, kStart (ET_ok D cy G rN) hET hP hD hS hA [0] rfl rfl _⟩ rfl rfl hl.1 rfl (lv_room (Nat.le_of_ble_eq_true rfl)) dX8_value_35 ⟨Nat.zero_le _, Nat.zero_le _⟩) hP hD hS hA [0] rfl (Nat.le_refl _) (fun H locs hP hD hS => ?_)
      have hP : va_P D vwCl [(qV, .inl (cy 2, 4, .inr (.inl va)))] H := hP
      have hD : va_D A [(qV, .inl (cy 2, 4, .inr (.inl va)))] := hD
      refine lv_lstore_n (lv' := [(2, .long va1), (0, .ref (rN i)), (1, .ref qV)]) hx hb dX8_value_38 rfl hl (by decide) rfl (fun ls hl => ?_)
      refine lv_aload_n hx hb dX8_value_39 rfl (lv_at hl 1 rfl) ?_
      refine va_get (D := D) (ci := 8) (v := .ref (rN (2 * i + 1))) (C := RX8) (T := TX8) (N := 4) hx hb hts inX8 hown hK (gn.P hS) 0 rfl rfl 3 (by decide) f31 (fun _ h9 => h9) rfl dX8_value_40 ?_
      refine lv_aload_n hx hb dX8_value_43 rfl (lv_at hl 2 rfl) ?_
      refine kc_l (va_runV (As := [.ref qV]) (rest := []) ⟨hx, hb, hml, hown, hts⟩ (ih (2 * i + 1) H.size _ q2 t2 hz2) (cwV 1 hts gX8_value_X8_value rfl rfl rfl kd_X8_value ⟨by dsimp only; omega, by dsimp only; omega⟩) ⟨kP_blind (ET_ok D cy G rN) D _ _ _, va_recv hK ((hET.2 (2 * i + 1) q2).P hS) (ci := 8) (q0 := 0) rfl rfl, kStart (ET_ok D cy G rN) hET hP hD hS hA [0] rfl rfl _⟩ rfl rfl hl.1 rfl (lv_room (Nat.le_of_ble_eq_true rfl)) dX8_value_44 ⟨Nat.zero_le _, Nat.zero_le _⟩) hP hD hS hA [0] rfl (Nat.le_refl _) (fun H locs hP hD hS => ?_)
      have hP : va_P D vwCl [(qV, .inl (cy 2, 4, .inr (.inl va)))] H := hP
      have hD : va_D A [(qV, .inl (cy 2, 4, .inr (.inl va)))] := hD
      refine lv_lstore (lv' := [(4, .long va2), (2, .long va1), (0, .ref (rN i)), (1, .ref qV)]) hx hb dX8_value_47 hl (by decide) rfl (fun ls hl => ?_)
      have J : ∀ (v : Int64) (H : Heap) (locs : List Loc) (ls : Array Slot), v = X8_op (shK G i) va1 va2 → va_P D vwCl [(qV, .inl (cy 2, 4, .inr (.inl va)))] H → va_D A [(qV, .inl (cy 2, 4, .inr (.inl va)))] → va_S A s.heap H locs → lv_has ls 8 [(4, .long va2), (2, .long va1), (0, .ref (rN i)), (1, .ref qV)] → W p l e ({ frames := d + 1, cells := 0, slots := 0, locals := 80 * (d + 1) } : Room) s m args below meth c H locs 0 0 QQ (F0 m 109 ls [.long v]) := by
        intro v H locs ls ev hP hD hS hl
        have hF := nm_o hF v ev
        obtain rfl := so_o hF
        refine lv_lstore (lv' := [(6, .long v), (4, .long va2), (2, .long va1), (0, .ref (rN i)), (1, .ref qV)]) hx hb dX8_value_109 hl (by decide) rfl (fun ls hl => ?_)
        refine lv_ldc2 (v := -1000000) hx hb hown c76 dX8_value_111 ?_
        refine lv_ldc2 (v := 1000000) hx hb hown c78 dX8_value_114 ?_
        refine lv_lload hx hb dX8_value_117 (lv_at hl 0 rfl) ?_
        refine va_mmin_long hx hb (by rw [hml]; exact hl.1.symm) hown mmin smin iMath kmin (by show 1 ≤ d + 1; omega) (by show _ ≤ 80 * (d + 1); exact Nat.le_trans (Nat.le_of_ble_eq_true rfl : _ ≤ 80) (by omega)) (Nat.zero_le _) (Nat.zero_le _) dX8_value_119 ?_
        refine va_mmax_long hx hb (by rw [hml]; exact hl.1.symm) hown mmax smax iMath kmax (by show 1 ≤ d + 1; omega) (by show _ ≤ 80 * (d + 1); exact Nat.le_trans (Nat.le_of_ble_eq_true rfl : _ ≤ 80) (by omega)) (Nat.zero_le _) (Nat.zero_le _) dX8_value_122 ?_
        rw [hQQ]
        exact kr_l hx hb hr hlocks hP hD hS dX8_value_125
      refine lv_aload_n hx hb dX8_value_49 rfl (lv_at hl 2 rfl) ?_
      refine va_get (D := D) (ci := 8) (v := .int (nI (shK G i))) (C := RX8) (T := TX8) (N := 4) hx hb hts inX8 hown hK (gn.P hS) 0 rfl rfl 0 (by decide) f16 (fun _ h9 => h9) rfl dX8_value_50 ?_
      refine lv_iconst (v := 2) hx hb dX8_value_53 (by decide) ?_
      refine lv_icmp_ne (tgt := 64) hx hb dX8_value_54 (by decide) (fun e2 => ?_) (fun e2 => ?_)
      · have n2 : shK G i ≠ 2 := fun z => e2 (by rw [z]; rfl)
        refine lv_aload_n hx hb dX8_value_64 rfl (lv_at hl 2 rfl) ?_
        refine va_get (D := D) (ci := 8) (v := .int (nI (shK G i))) (C := RX8) (T := TX8) (N := 4) hx hb hts inX8 hown hK (gn.P hS) 0 rfl rfl 0 (by decide) f16 (fun _ h9 => h9) rfl dX8_value_65 ?_
        refine lv_iconst (v := 3) hx hb dX8_value_68 (by decide) ?_
        refine lv_icmp_ne (tgt := 79) hx hb dX8_value_69 (by decide) (fun e3 => ?_) (fun e3 => ?_)
        · have n3 : shK G i ≠ 3 := fun z => e3 (by rw [z]; rfl)
          refine lv_aload_n hx hb dX8_value_79 rfl (lv_at hl 2 rfl) ?_
          refine va_get (D := D) (ci := 8) (v := .int (nI (shK G i))) (C := RX8) (T := TX8) (N := 4) hx hb hts inX8 hown hK (gn.P hS) 0 rfl rfl 0 (by decide) f16 (fun _ h9 => h9) rfl dX8_value_80 ?_
          refine lv_iconst (v := 4) hx hb dX8_value_83 (by decide) ?_
          refine lv_icmp_ne (tgt := 94) hx hb dX8_value_84 (by decide) (fun e4 => ?_) (fun e4 => ?_)
          · have n4 : shK G i ≠ 4 := fun z => e4 (by rw [z]; rfl)
            refine lv_lload hx hb dX8_value_94 (lv_at hl 0 rfl) ?_
            refine lv_lconst (v := 0) hx hb dX8_value_96 (by decide) ?_
            refine W.lcmp hx hb dX8_value_97 ?_
            refine lv_if_ne (tgt := 105) hx hb dX8_value_98 (by decide) (fun hc => ?_) (fun hc => ?_)
            · have hb0 : ¬ va2 = 0 := fun z => hc (by rw [z]; decide)
              refine lv_lload_n hx hb dX8_value_105 rfl (lv_at hl 1 rfl) ?_
              refine lv_lload hx hb dX8_value_106 (lv_at hl 0 rfl) ?_
              refine lv_ldiv hx hb dX8_value_108 hb0 ?_
              exact J _ H _ ls (by unfold X8_op; rw [if_neg n2, if_neg n3, if_neg n4, if_neg hb0]) hP hD hS hl
            · have hb0 : va2 = 0 := kx_cmp0 hc
              refine lv_lconst (v := 0) hx hb dX8_value_101 (by decide) ?_
              refine lv_goto (tgt := 109) hx hb dX8_value_102 (by decide) ?_
              exact J _ H _ ls (by unfold X8_op; rw [if_neg n2, if_neg n3, if_neg n4, if_pos hb0]) hP hD hS hl
          · have n4 : shK G i = 4 := (hlt 4 (by decide)).mp e4
            refine lv_lload_n hx hb dX8_value_87 rfl (lv_at hl 1 rfl) ?_
            refine lv_lload hx hb dX8_value_88 (lv_at hl 0 rfl) ?_
            refine lv_lmul hx hb dX8_value_90 ?_
            refine lv_goto (tgt := 109) hx hb dX8_value_91 (by decide) ?_
            exact J _ H _ ls (by unfold X8_op; rw [if_neg n2, if_neg n3, if_pos n4]) hP hD hS hl
        · have n3 : shK G i = 3 := (hlt 3 (by decide)).mp e3
          refine lv_lload_n hx hb dX8_value_72 rfl (lv_at hl 1 rfl) ?_
          refine lv_lload hx hb dX8_value_73 (lv_at hl 0 rfl) ?_
          refine lv_lsub hx hb dX8_value_75 ?_
          refine lv_goto (tgt := 109) hx hb dX8_value_76 (by decide) ?_
          exact J _ H _ ls (by unfold X8_op; rw [if_neg n2, if_pos n3]) hP hD hS hl
      · have n2 : shK G i = 2 := (hlt 2 (by decide)).mp e2
        refine lv_lload_n hx hb dX8_value_57 rfl (lv_at hl 1 rfl) ?_
        refine lv_lload hx hb dX8_value_58 (lv_at hl 0 rfl) ?_
        refine lv_ladd hx hb dX8_value_60 ?_
        refine lv_goto (tgt := 109) hx hb dX8_value_61 (by decide) ?_
        exact J _ H _ ls (by unfold X8_op; rw [if_pos n2]) hP hD hS hl
    · have h2 : shK G i < 2 := Nat.lt_of_not_le (fun z => h1 (nI_le z (by omega)))
      have hF := if_p hF h2
      refine lv_aload_n hx hb dX8_value_8 rfl (lv_at hl 0 rfl) ?_
      refine va_get (D := D) (ci := 8) (v := .int (nI (shK G i))) (C := RX8) (T := TX8) (N := 4) hx hb hts inX8 hown hK (gn.P hS) 0 rfl rfl 0 (by decide) f16 (fun _ h9 => h9) rfl dX8_value_9 ?_
      refine lv_if_ne (tgt := 23) hx hb dX8_value_12 (by decide) (fun h3 => ?_) (fun h3 => ?_)
      · have h4 : shK G i ≠ 0 := fun z => h3 (by rw [z]; rfl)
        have hF := if_n hF h4
        obtain ⟨h5, hF⟩ := ld_o hF
        refine lv_aload_n hx hb dX8_value_23 rfl (lv_at hl 1 rfl) ?_
        refine lv_aload_n hx hb dX8_value_24 rfl (lv_at hl 0 rfl) ?_
        refine va_get (D := D) (ci := 8) (v := .int (shN G i)) (C := RX8) (T := TX8) (N := 4) hx hb hts inX8 hown hK (gn.P hS) 0 rfl rfl 1 (by decide) f20 (fun _ h9 => h9) rfl dX8_value_25 ?_
        refine va_lald hx hb hK hP 0 2 rfl rfl h5 dX8_value_28 ?_
        refine lv_topl (fun v ev => ?_)
        have hF := hF v ev
        obtain rfl := so_o hF
        rw [hQQ]
        exact kr_l hx hb hr hlocks hP hD hS dX8_value_29
      · have h4 : shK G i = 0 := (hlt 0 (by decide)).mp h3
        have hF := if_p hF h4
        obtain rfl := so_o hF
        refine lv_aload_n hx hb dX8_value_15 rfl (lv_at hl 0 rfl) ?_
        refine va_get (D := D) (ci := 8) (v := .int (shN G i)) (C := RX8) (T := TX8) (N := 4) hx hb hts inX8 hown hK (gn.P hS) 0 rfl rfl 1 (by decide) f20 (fun _ h9 => h9) rfl dX8_value_16 ?_
        refine lv_i2l hx hb dX8_value_19 rfl ?_
        refine lv_goto (tgt := 29) hx hb dX8_value_20 (by decide) ?_
        rw [hQQ]
        exact kr_l hx hb hr hlocks hP hD hS dX8_value_29
theorem c_X8_root {l : Launch} {D : va_G} {cy : Nat → ClassId} (G : LG) (rN : Nat → Nat) (qV sz : Nat) (va : Nat → Int64) (res : Int64) (hF : X8_value G va 3 1 = some res) : Met l yX8_value wsX8_value ({ frames := 3, cells := 0, slots := 0, locals := 80 * (3) } : Room) (kP (ET D cy G rN) D [.ref (rN 1), .ref qV] [(qV, .inl (cy 2, 4, .inr (.inl va)))] sz) (kQl D res [(qV, .inl (cy 2, 4, .inr (.inl va)))] (va_A [(qV, .inl (cy 2, 4, .inr (.inl va)))] sz)) 0 0 (va_A [(qV, .inl (cy 2, 4, .inr (.inl va)))] sz) := b_X8_value G rN qV va 3 1 sz res rfl (Or.inr (Or.inr (Or.inr ⟨rfl, rfl⟩))) hF
