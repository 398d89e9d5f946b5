/-! the law's writing of texts (ltx.py) -/
def L_flush_L22 (n_p1 : Nat)  : Nat → Int32 → Int32 → (Nat → Int32) → (Nat → Int32) → Option (Int32 × (Nat → Int32) × (Nat → Int32))
  | 0, _, _, _, _ => none
  | n + 1, l2, o_setup_filled, o_setup_bytes, p1 =>
    if (6 : Int32) ≤ l2 then
      some (o_setup_filled, o_setup_bytes, p1)
    else
      st n_p1 l2 (upd p1 l2.toNatClampNeg (0 : Int32)) fun (b3 : Nat → Int32) =>
      nm (l2 + (1 : Int32)) fun (v4 : Int32) =>
      L_flush_L22 n_p1 n v4 o_setup_filled o_setup_bytes b3
def L_flush (n_p1 : Nat) (o_setup_filled : Int32) (o_setup_bytes : Nat → Int32) (p1 : Nat → Int32) : Option (Int32 × (Nat → Int32) × (Nat → Int32)) :=
  ld p1 n_p1 (1 : Int32) fun (v6 : Int32) =>
  ld p1 n_p1 (2 : Int32) fun (v8 : Int32) =>
  ld p1 n_p1 (3 : Int32) fun (v10 : Int32) =>
  ld p1 n_p1 (4 : Int32) fun (v12 : Int32) =>
  ld p1 n_p1 (5 : Int32) fun (v14 : Int32) =>
  bn3 (X6_append o_setup_filled o_setup_bytes v6 v8 v10 v12 v14) fun (r15 : Int32) (o16 : Int32) (o17 : Nat → Int32) =>
  L_flush_L22 n_p1 FU (1 : Int32) o16 o17 p1
def L_put (n_p1 : Nat) (o_setup_filled : Int32) (o_setup_bytes : Nat → Int32) (p1 : Nat → Int32) (p2 : Int32) : Option (Int32 × (Nat → Int32) × (Nat → Int32)) :=
  ld p1 n_p1 (0 : Int32) fun (v2 : Int32) =>
  nm (v2 - v2 / (20 : Int32) * (20 : Int32)) fun (v3 : Int32) =>
  ld p1 n_p1 ((1 : Int32) + (v3 / (4 : Int32))) fun (v5 : Int32) =>
  ld p1 n_p1 (0 : Int32) fun (v7 : Int32) =>
  nm (v7 - v7 / (4 : Int32) * (4 : Int32)) fun (v8 : Int32) =>
  st n_p1 ((1 : Int32) + (v3 / (4 : Int32))) (upd p1 ((1 : Int32) + (v3 / (4 : Int32))).toNatClampNeg (v5 ||| (p2 <<< (((24 : Int32) - ((8 : Int32) * v8)) &&& 31)))) fun (b10 : Nat → Int32) =>
  ld b10 n_p1 (0 : Int32) fun (v12 : Int32) =>
  st n_p1 (0 : Int32) (upd b10 (0 : Int32).toNatClampNeg (v12 + (1 : Int32))) fun (b14 : Nat → Int32) =>
  ld b14 n_p1 (0 : Int32) fun (v16 : Int32) =>
  nm (v16 - v16 / (20 : Int32) * (20 : Int32)) fun (v17 : Int32) =>
  if v17 = 0 then
    bn3 (L_flush n_p1 o_setup_filled o_setup_bytes b14) fun (o19 : Int32) (o20 : Nat → Int32) (o21 : Nat → Int32) =>
    some (o19, o20, o21)
  else
    some (o_setup_filled, o_setup_bytes, b14)
def L_write_L2 (n_p1 : Nat) (tx : List Int32)  : Nat → Int32 → Int32 → (Nat → Int32) → (Nat → Int32) → Option (Int32 × (Nat → Int32) × (Nat → Int32))
  | 0, _, _, _, _ => none
  | n + 1, l3, o_setup_filled, o_setup_bytes, p1 =>
    bn1 (J0_length_8abf5 tx) fun (r1 : Int32) =>
    if r1 ≤ l3 then
      some (o_setup_filled, o_setup_bytes, p1)
    else
      bn1 (J0_charAt_5068e tx l3) fun (r4 : Int32) =>
      bn3 (L_put n_p1 o_setup_filled o_setup_bytes p1 r4) fun (o6 : Int32) (o7 : Nat → Int32) (o8 : Nat → Int32) =>
      nm (l3 + (1 : Int32)) fun (v10 : Int32) =>
      L_write_L2 n_p1 tx n v10 o6 o7 o8
def L_write (n_p1 : Nat) (tx : List Int32) (o_setup_filled : Int32) (o_setup_bytes : Nat → Int32) (p1 : Nat → Int32) : Option (Int32 × (Nat → Int32) × (Nat → Int32)) :=
  L_write_L2 n_p1 tx FU (0 : Int32) o_setup_filled o_setup_bytes p1
def L_writeNumber_L18 (n_p1 : Nat) (p2 : Int32)  : Nat → Int32 → Int32 → (Nat → Int32) → (Nat → Int32) → Option (Int32 × (Nat → Int32) × (Nat → Int32))
  | 0, _, _, _, _ => none
  | n + 1, l3, o_setup_filled, o_setup_bytes, p1 =>
    if l3 ≤ 0 then
      some (o_setup_filled, o_setup_bytes, p1)
    else
      ck (¬ l3 = 0) <|
      nm ((p2 / l3) - (p2 / l3) / (10 : Int32) * (10 : Int32)) fun (v3 : Int32) =>
      bn3 (L_put n_p1 o_setup_filled o_setup_bytes p1 ((48 : Int32) + v3)) fun (o4 : Int32) (o5 : Nat → Int32) (o6 : Nat → Int32) =>
      nm (l3 / (10 : Int32)) fun (v8 : Int32) =>
      L_writeNumber_L18 n_p1 p2 n v8 o4 o5 o6
def L_writeNumber_L2 (n_p1 : Nat) (o_setup_filled : Int32) (o_setup_bytes : Nat → Int32) (p1 : Nat → Int32) (p2 : Int32)  : Nat → Int32 → Option (Int32 × (Nat → Int32) × (Nat → Int32))
  | 0, _ => none
  | n + 1, l3 =>
    if (p2 / (10 : Int32)) < l3 then
      L_writeNumber_L18 n_p1 p2 FU l3 o_setup_filled o_setup_bytes p1
    else
      nm (l3 * (10 : Int32)) fun (v10 : Int32) =>
      L_writeNumber_L2 n_p1 o_setup_filled o_setup_bytes p1 p2 n v10
def L_writeNumber (n_p1 : Nat) (o_setup_filled : Int32) (o_setup_bytes : Nat → Int32) (p1 : Nat → Int32) (p2 : Int32) : Option (Int32 × (Nat → Int32) × (Nat → Int32)) :=
  L_writeNumber_L2 n_p1 o_setup_filled o_setup_bytes p1 p2 FU (1 : Int32)
theorem kd_L_flush : yL_flush.cls ≠ "java/lang/invoke/MethodHandle" ∧ yL_flush.cls ≠ "java/lang/invoke/VarHandle" ∧ (parseMethodDescriptor yL_flush.desc).map (fun d => d.parameters.length) = some 2 := by decide +kernel
set_option maxHeartbeats 4000000 in
set_option maxRecDepth 100000 in
theorem c_L_flush {l : Launch} {D : va_G} {cy : Nat → ClassId} (n_p1 : Nat) (q_o q_o_setup q_o_setup_bytes q_p1 : Nat) (sz : Nat) (x_o_now x_o_trial x_o_view x_o_trialView x_o_past x_o_nextPast x_o_undoable x_o_setup_show x_o_setup_error x_o_setup_errorAt x_o_setup_end x_o_setup_at x_o_setup_number x_o_setup_planesTold x_o_setup_reachTold x_o_setup_lengthTold x_o_setup_priceTold : Value) (o_setup_filled : Int32) (o_setup_bytes : Nat → Int32) (p1 : Nat → Int32) (res : Int32 × (Nat → Int32) × (Nat → Int32)) (hF : L_flush n_p1 o_setup_filled o_setup_bytes p1 = some res) : Met l yL_flush wsL_flush ({ frames := 2, cells := 0, slots := 0, locals := 47 } : Room) (kP (EN D cy) D [.ref q_o, .ref q_p1] [(q_o, .inr (6, [.ref q_o_setup, x_o_now, x_o_trial, x_o_view, x_o_trialView, x_o_past, x_o_nextPast, x_o_undoable])), (q_o_setup, .inr (3, [x_o_setup_show, .int o_setup_filled, x_o_setup_error, x_o_setup_errorAt, .ref q_o_setup_bytes, x_o_setup_end, x_o_setup_at, x_o_setup_number, x_o_setup_planesTold, x_o_setup_reachTold, x_o_setup_lengthTold, x_o_setup_priceTold])), (q_o_setup_bytes, .inl (cy 1, 800, .inl o_setup_bytes)), (q_p1, .inl (cy 0, n_p1, .inl p1))] sz) (kQv D [(q_o, .inr (6, [.ref q_o_setup, x_o_now, x_o_trial, x_o_view, x_o_trialView, x_o_past, x_o_nextPast, x_o_undoable])), (q_o_setup, .inr (3, [x_o_setup_show, .int res.1, x_o_setup_error, x_o_setup_errorAt, .ref q_o_setup_bytes, x_o_setup_end, x_o_setup_at, x_o_setup_number, x_o_setup_planesTold, x_o_setup_reachTold, x_o_setup_lengthTold, x_o_setup_priceTold])), (q_o_setup_bytes, .inl (cy 1, 800, .inl res.2.1)), (q_p1, .inl (cy 0, n_p1, .inl res.2.2))] (va_A [(q_o, .inr (6, [.ref q_o_setup, x_o_now, x_o_trial, x_o_view, x_o_trialView, x_o_past, x_o_nextPast, x_o_undoable])), (q_o_setup, .inr (3, [x_o_setup_show, .int o_setup_filled, x_o_setup_error, x_o_setup_errorAt, .ref q_o_setup_bytes, x_o_setup_end, x_o_setup_at, x_o_setup_number, x_o_setup_planesTold, x_o_setup_reachTold, x_o_setup_lengthTold, x_o_setup_priceTold])), (q_o_setup_bytes, .inl (cy 1, 800, .inl o_setup_bytes)), (q_p1, .inl (cy 0, n_p1, .inl p1))] sz)) 0 0 (va_A [(q_o, .inr (6, [.ref q_o_setup, x_o_now, x_o_trial, x_o_view, x_o_trialView, x_o_past, x_o_nextPast, x_o_undoable])), (q_o_setup, .inr (3, [x_o_setup_show, .int o_setup_filled, x_o_setup_error, x_o_setup_errorAt, .ref q_o_setup_bytes, x_o_setup_end, x_o_setup_at, x_o_setup_number, x_o_setup_planesTold, x_o_setup_reachTold, x_o_setup_lengthTold, x_o_setup_priceTold])), (q_o_setup_bytes, .inl (cy 1, 800, .inl o_setup_bytes)), (q_p1, .inl (cy 0, n_p1, .inl p1))] sz) := by
  refine kMet (y := yL_flush) (av := [.ref q_o, .ref q_p1]) (cc := cL_flush) (maxL := 3) (ret := none) (own := RL) (Qc := fun A9 => (kQv D [(q_o, .inr (6, [.ref q_o_setup, x_o_now, x_o_trial, x_o_view, x_o_trialView, x_o_past, x_o_nextPast, x_o_undoable])), (q_o_setup, .inr (3, [x_o_setup_show, .int res.1, x_o_setup_error, x_o_setup_errorAt, .ref q_o_setup_bytes, x_o_setup_end, x_o_setup_at, x_o_setup_number, x_o_setup_planesTold, x_o_setup_reachTold, x_o_setup_lengthTold, x_o_setup_priceTold])), (q_o_setup_bytes, .inl (cy 1, 800, .inl res.2.1)), (q_p1, .inl (cy 0, n_p1, .inl res.2.2))] A9)) (by decide) rfl rfl (Nat.le_of_ble_eq_true rfl) ?_
  intro p e s m args below meth c A hx hb hr hts hown hml hlocks hname hE hP hD hA hsz ls hl
  have hK := hE.1
  have hl : lv_has ls 3 [(0, .ref q_o), (1, .ref q_p1)] := hl
  have hS : va_S A s.heap s.heap [] := va_S.rf
  obtain ⟨QQ, hQQ⟩ : ∃ Q9, Q9 = MQ below (kQv D [(q_o, .inr (6, [.ref q_o_setup, x_o_now, x_o_trial, x_o_view, x_o_trialView, x_o_past, x_o_nextPast, x_o_undoable])), (q_o_setup, .inr (3, [x_o_setup_show, .int res.1, x_o_setup_error, x_o_setup_errorAt, .ref q_o_setup_bytes, x_o_setup_end, x_o_setup_at, x_o_setup_number, x_o_setup_planesTold, x_o_setup_reachTold, x_o_setup_lengthTold, x_o_setup_priceTold])), (q_o_setup_bytes, .inl (cy 1, 800, .inl res.2.1)), (q_p1, .inl (cy 0, n_p1, .inl res.2.2))] A) args s 0 0 A := ⟨_, rfl⟩
  rw [← hQQ]
  have J22 : ∀ (n22 : Nat) (l2 : Int32) (o_setup_filled : Int32) (o_setup_bytes : Nat → Int32) (p1 : Nat → Int32) (H : Heap) (locs : List Loc) (ls : Array Slot), va_P D vwCl [(q_o, .inr (6, [.ref q_o_setup, x_o_now, x_o_trial, x_o_view, x_o_trialView, x_o_past, x_o_nextPast, x_o_undoable])), (q_o_setup, .inr (3, [x_o_setup_show, .int o_setup_filled, x_o_setup_error, x_o_setup_errorAt, .ref q_o_setup_bytes, x_o_setup_end, x_o_setup_at, x_o_setup_number, x_o_setup_planesTold, x_o_setup_reachTold, x_o_setup_lengthTold, x_o_setup_priceTold])), (q_o_setup_bytes, .inl (cy 1, 800, .inl o_setup_bytes)), (q_p1, .inl (cy 0, n_p1, .inl p1))] H → va_D A [(q_o, .inr (6, [.ref q_o_setup, x_o_now, x_o_trial, x_o_view, x_o_trialView, x_o_past, x_o_nextPast, x_o_undoable])), (q_o_setup, .inr (3, [x_o_setup_show, .int o_setup_filled, x_o_setup_error, x_o_setup_errorAt, .ref q_o_setup_bytes, x_o_setup_end, x_o_setup_at, x_o_setup_number, x_o_setup_planesTold, x_o_setup_reachTold, x_o_setup_lengthTold, x_o_setup_priceTold])), (q_o_setup_bytes, .inl (cy 1, 800, .inl o_setup_bytes)), (q_p1, .inl (cy 0, n_p1, .inl p1))] → va_S A s.heap H locs → lv_has ls 3 [(1, .ref q_p1), (2, .int l2)] → L_flush_L22 n_p1 n22 l2 o_setup_filled o_setup_bytes p1 = some res → W p l e ({ frames := 2, cells := 0, slots := 0, locals := 47 } : Room) s m args below meth c H locs 0 0 QQ (F0 m 22 ls []) := by
    intro n22
    induction n22 with
    | zero =>
      intro l2 o_setup_filled o_setup_bytes p1 H locs ls hP hD hS hl hF
      rw [L_flush_L22] at hF
      cases hF
    | succ n22 ih22 =>
      intro l2 o_setup_filled o_setup_bytes p1 H locs ls hP hD hS hl hF
      rw [L_flush_L22] at hF
      refine lv_iload_n hx hb dL_flush_22 rfl (lv_at hl 1 rfl) ?_
      refine lv_bipush (v := 6) hx hb dL_flush_23 (by decide) ?_
      refine lv_icmp_ge (tgt := 38) hx hb dL_flush_25 (by decide) (fun c1 => ?_) (fun c1 => ?_)
      · have hF := if_p hF c1
        obtain rfl := so_o hF
        rw [hQQ]
        exact kr_v hx hb hr hlocks hP hD hS dL_flush_38
      · have hF := if_n hF c1
        refine lv_aload_n hx hb dL_flush_28 rfl (lv_at hl 0 rfl) ?_
        refine lv_iload_n hx hb dL_flush_29 rfl (lv_at hl 1 rfl) ?_
        refine lv_iconst (v := 0) hx hb dL_flush_30 (by decide) ?_
        obtain ⟨h2, hF⟩ := st_o hF
        refine va_iast hx hb hK hP hD hS 3 0 rfl rfl h2 dL_flush_31 (fun H locs hP hD hS => ?_)
        obtain ⟨b3, eb3⟩ : ∃ y : Nat → Int32, y = (upd p1 l2.toNatClampNeg (0 : Int32)) := ⟨_, rfl⟩
        have hF := hF b3 eb3
        have hP : va_P D vwCl [(q_o, .inr (6, [.ref q_o_setup, x_o_now, x_o_trial, x_o_view, x_o_trialView, x_o_past, x_o_nextPast, x_o_undoable])), (q_o_setup, .inr (3, [x_o_setup_show, .int o_setup_filled, x_o_setup_error, x_o_setup_errorAt, .ref q_o_setup_bytes, x_o_setup_end, x_o_setup_at, x_o_setup_number, x_o_setup_planesTold, x_o_setup_reachTold, x_o_setup_lengthTold, x_o_setup_priceTold])), (q_o_setup_bytes, .inl (cy 1, 800, .inl o_setup_bytes)), (q_p1, .inl (cy 0, n_p1, .inl b3))] H := by rw [eb3]; exact hP
        have hD : va_D A [(q_o, .inr (6, [.ref q_o_setup, x_o_now, x_o_trial, x_o_view, x_o_trialView, x_o_past, x_o_nextPast, x_o_undoable])), (q_o_setup, .inr (3, [x_o_setup_show, .int o_setup_filled, x_o_setup_error, x_o_setup_errorAt, .ref q_o_setup_bytes, x_o_setup_end, x_o_setup_at, x_o_setup_number, x_o_setup_planesTold, x_o_setup_reachTold, x_o_setup_lengthTold, x_o_setup_priceTold])), (q_o_setup_bytes, .inl (cy 1, 800, .inl o_setup_bytes)), (q_p1, .inl (cy 0, n_p1, .inl b3))] := by rw [eb3]; exact hD
        obtain ⟨v4, ev4⟩ : ∃ y : Int32, y = l2 + (1 : Int32) := ⟨_, rfl⟩
        have hF := nm_o hF v4 ev4
        refine lv_iinc (v := v4) (lv' := [(2, .int v4), (1, .ref q_p1)]) hx hb dL_flush_32 hl (k := 1) rfl (by rw [ev4]; rfl) (by decide) rfl (fun ls hl => ?_)
        refine lv_goto (tgt := 22) hx hb dL_flush_35 (by decide) ?_
        exact ih22 v4 o_setup_filled o_setup_bytes b3 H locs ls hP hD hS (lv_sub hl [1, 0] rfl) hF
  have main : ∀ (H : Heap) (locs : List Loc) (ls : Array Slot), va_P D vwCl [(q_o, .inr (6, [.ref q_o_setup, x_o_now, x_o_trial, x_o_view, x_o_trialView, x_o_past, x_o_nextPast, x_o_undoable])), (q_o_setup, .inr (3, [x_o_setup_show, .int o_setup_filled, x_o_setup_error, x_o_setup_errorAt, .ref q_o_setup_bytes, x_o_setup_end, x_o_setup_at, x_o_setup_number, x_o_setup_planesTold, x_o_setup_reachTold, x_o_setup_lengthTold, x_o_setup_priceTold])), (q_o_setup_bytes, .inl (cy 1, 800, .inl o_setup_bytes)), (q_p1, .inl (cy 0, n_p1, .inl p1))] H → va_D A [(q_o, .inr (6, [.ref q_o_setup, x_o_now, x_o_trial, x_o_view, x_o_trialView, x_o_past, x_o_nextPast, x_o_undoable])), (q_o_setup, .inr (3, [x_o_setup_show, .int o_setup_filled, x_o_setup_error, x_o_setup_errorAt, .ref q_o_setup_bytes, x_o_setup_end, x_o_setup_at, x_o_setup_number, x_o_setup_planesTold, x_o_setup_reachTold, x_o_setup_lengthTold, x_o_setup_priceTold])), (q_o_setup_bytes, .inl (cy 1, 800, .inl o_setup_bytes)), (q_p1, .inl (cy 0, n_p1, .inl p1))] → va_S A s.heap H locs → lv_has ls 3 [(0, .ref q_o), (1, .ref q_p1)] → W p l e ({ frames := 2, cells := 0, slots := 0, locals := 47 } : Room) s m args below meth c H locs 0 0 QQ (F0 m 0 ls []) := by
    intro H locs ls hP hD hS hl
    unfold L_flush at hF
    refine lv_aload_n hx hb dL_flush_0 rfl (lv_at hl 0 rfl) ?_
    refine lv_aload_n hx hb dL_flush_1 rfl (lv_at hl 1 rfl) ?_
    refine lv_iconst (v := 1) hx hb dL_flush_2 (by decide) ?_
    obtain ⟨h5, hF⟩ := ld_o hF
    refine va_iald hx hb hK hP 3 0 rfl rfl h5 dL_flush_3 ?_
    refine lv_topi (fun v6 ev6 => ?_)
    have hF := hF v6 ev6
    refine lv_aload_n hx hb dL_flush_4 rfl (lv_at hl 1 rfl) ?_
    refine lv_iconst (v := 2) hx hb dL_flush_5 (by decide) ?_
    obtain ⟨h7, hF⟩ := ld_o hF
    refine va_iald hx hb hK hP 3 0 rfl rfl h7 dL_flush_6 ?_
    refine lv_topi (fun v8 ev8 => ?_)
    have hF := hF v8 ev8
    refine lv_aload_n hx hb dL_flush_7 rfl (lv_at hl 1 rfl) ?_
    refine lv_iconst (v := 3) hx hb dL_flush_8 (by decide) ?_
    obtain ⟨h9, hF⟩ := ld_o hF
    refine va_iald hx hb hK hP 3 0 rfl rfl h9 dL_flush_9 ?_
    refine lv_topi (fun v10 ev10 => ?_)
    have hF := hF v10 ev10
    refine lv_aload_n hx hb dL_flush_10 rfl (lv_at hl 1 rfl) ?_
    refine lv_iconst (v := 4) hx hb dL_flush_11 (by decide) ?_
    obtain ⟨h11, hF⟩ := ld_o hF
    refine va_iald hx hb hK hP 3 0 rfl rfl h11 dL_flush_12 ?_
    refine lv_topi (fun v12 ev12 => ?_)
    have hF := hF v12 ev12
    refine lv_aload_n hx hb dL_flush_13 rfl (lv_at hl 1 rfl) ?_
    refine lv_iconst (v := 5) hx hb dL_flush_14 (by decide) ?_
    obtain ⟨h13, hF⟩ := ld_o hF
    refine va_iald hx hb hK hP 3 0 rfl rfl h13 dL_flush_15 ?_
    refine lv_topi (fun v14 ev14 => ?_)
    have hF := hF v14 ev14
    obtain ⟨r15, o16, o17, h18, hF⟩ := bn3_o hF
    refine kd_i [(q_o, .inr (6, [.ref q_o_setup, x_o_now, x_o_trial, x_o_view, x_o_trialView, x_o_past, x_o_nextPast, x_o_undoable])), (q_o_setup, .inr (3, [x_o_setup_show, .int o16, x_o_setup_error, x_o_setup_errorAt, .ref q_o_setup_bytes, x_o_setup_end, x_o_setup_at, x_o_setup_number, x_o_setup_planesTold, x_o_setup_reachTold, x_o_setup_lengthTold, x_o_setup_priceTold])), (q_o_setup_bytes, .inl (cy 1, 800, .inl o17)), (q_p1, .inl (cy 0, n_p1, .inl p1))] (va_runV (As := [.int v6, .int v8, .int v10, .int v12, .int v14]) (rest := []) ⟨hx, hb, hml, hown, hts⟩ (c_X6_append q_o q_o_setup q_o_setup_bytes H.size x_o_now x_o_trial x_o_view x_o_trialView x_o_past x_o_nextPast x_o_undoable x_o_setup_show x_o_setup_error x_o_setup_errorAt x_o_setup_end x_o_setup_at x_o_setup_number x_o_setup_planesTold x_o_setup_reachTold x_o_setup_lengthTold x_o_setup_priceTold o_setup_filled o_setup_bytes v6 v8 v10 v12 v14 _ h18) (cwV 5 hts gL_flush_X6_append rfl rfl rfl kd_X6_append ⟨Nat.le_of_ble_eq_true rfl, Nat.le_of_ble_eq_true rfl⟩) ⟨kP_blind (EN_ok D cy) D _ _ _, va_recv hK hP (ci := 6) (q0 := 0) rfl rfl, kStart (EN_ok D cy) hE hP hD hS hA [0, 1, 2] rfl rfl _⟩ rfl rfl hl.1 rfl (lv_room (Nat.le_of_ble_eq_true rfl)) dL_flush_16 ⟨Nat.zero_le _, Nat.zero_le _⟩) hP hD hS hA [0, 1, 2] [3] rfl rfl rfl 4 rfl (by decide +kernel) (fun H locs hP hD hS => ?_)
    refine lv_pop hx hb dL_flush_19 rfl ?_
    refine lv_iconst (v := 1) hx hb dL_flush_20 (by decide) ?_
    refine lv_istore_n (lv' := [(2, .int (1 : Int32)), (0, .ref q_o), (1, .ref q_p1)]) hx hb dL_flush_21 rfl hl (by decide) rfl (fun ls hl => ?_)
    exact J22 FU (1 : Int32) o16 o17 p1 H locs ls hP hD hS (lv_sub hl [2, 0] rfl) hF
  exact main s.heap [] ls hP hD hS hl
theorem kd_L_put : yL_put.cls ≠ "java/lang/invoke/MethodHandle" ∧ yL_put.cls ≠ "java/lang/invoke/VarHandle" ∧ (parseMethodDescriptor yL_put.desc).map (fun d => d.parameters.length) = some 3 := by decide +kernel
set_option maxHeartbeats 4000000 in
set_option maxRecDepth 100000 in
theorem c_L_put {l : Launch} {D : va_G} {cy : Nat → ClassId} (n_p1 : Nat) (q_o q_o_setup q_o_setup_bytes q_p1 : Nat) (sz : Nat) (x_o_now x_o_trial x_o_view x_o_trialView x_o_past x_o_nextPast x_o_undoable x_o_setup_show x_o_setup_error x_o_setup_errorAt x_o_setup_end x_o_setup_at x_o_setup_number x_o_setup_planesTold x_o_setup_reachTold x_o_setup_lengthTold x_o_setup_priceTold : Value) (o_setup_filled : Int32) (o_setup_bytes : Nat → Int32) (p1 : Nat → Int32) (p2 : Int32) (res : Int32 × (Nat → Int32) × (Nat → Int32)) (hF : L_put n_p1 o_setup_filled o_setup_bytes p1 p2 = some res) : Met l yL_put wsL_put ({ frames := 3, cells := 0, slots := 0, locals := 69 } : Room) (kP (EN D cy) D [.ref q_o, .ref q_p1, .int p2] [(q_o, .inr (6, [.ref q_o_setup, x_o_now, x_o_trial, x_o_view, x_o_trialView, x_o_past, x_o_nextPast, x_o_undoable])), (q_o_setup, .inr (3, [x_o_setup_show, .int o_setup_filled, x_o_setup_error, x_o_setup_errorAt, .ref q_o_setup_bytes, x_o_setup_end, x_o_setup_at, x_o_setup_number, x_o_setup_planesTold, x_o_setup_reachTold, x_o_setup_lengthTold, x_o_setup_priceTold])), (q_o_setup_bytes, .inl (cy 1, 800, .inl o_setup_bytes)), (q_p1, .inl (cy 0, n_p1, .inl p1))] sz) (kQv D [(q_o, .inr (6, [.ref q_o_setup, x_o_now, x_o_trial, x_o_view, x_o_trialView, x_o_past, x_o_nextPast, x_o_undoable])), (q_o_setup, .inr (3, [x_o_setup_show, .int res.1, x_o_setup_error, x_o_setup_errorAt, .ref q_o_setup_bytes, x_o_setup_end, x_o_setup_at, x_o_setup_number, x_o_setup_planesTold, x_o_setup_reachTold, x_o_setup_lengthTold, x_o_setup_priceTold])), (q_o_setup_bytes, .inl (cy 1, 800, .inl res.2.1)), (q_p1, .inl (cy 0, n_p1, .inl res.2.2))] (va_A [(q_o, .inr (6, [.ref q_o_setup, x_o_now, x_o_trial, x_o_view, x_o_trialView, x_o_past, x_o_nextPast, x_o_undoable])), (q_o_setup, .inr (3, [x_o_setup_show, .int o_setup_filled, x_o_setup_error, x_o_setup_errorAt, .ref q_o_setup_bytes, x_o_setup_end, x_o_setup_at, x_o_setup_number, x_o_setup_planesTold, x_o_setup_reachTold, x_o_setup_lengthTold, x_o_setup_priceTold])), (q_o_setup_bytes, .inl (cy 1, 800, .inl o_setup_bytes)), (q_p1, .inl (cy 0, n_p1, .inl p1))] sz)) 0 0 (va_A [(q_o, .inr (6, [.ref q_o_setup, x_o_now, x_o_trial, x_o_view, x_o_trialView, x_o_past, x_o_nextPast, x_o_undoable])), (q_o_setup, .inr (3, [x_o_setup_show, .int o_setup_filled, x_o_setup_error, x_o_setup_errorAt, .ref q_o_setup_bytes, x_o_setup_end, x_o_setup_at, x_o_setup_number, x_o_setup_planesTold, x_o_setup_reachTold, x_o_setup_lengthTold, x_o_setup_priceTold])), (q_o_setup_bytes, .inl (cy 1, 800, .inl o_setup_bytes)), (q_p1, .inl (cy 0, n_p1, .inl p1))] sz) := by
  refine kMet (y := yL_put) (av := [.ref q_o, .ref q_p1, .int p2]) (cc := cL_put) (maxL := 3) (ret := none) (own := RL) (Qc := fun A9 => (kQv D [(q_o, .inr (6, [.ref q_o_setup, x_o_now, x_o_trial, x_o_view, x_o_trialView, x_o_past, x_o_nextPast, x_o_undoable])), (q_o_setup, .inr (3, [x_o_setup_show, .int res.1, x_o_setup_error, x_o_setup_errorAt, .ref q_o_setup_bytes, x_o_setup_end, x_o_setup_at, x_o_setup_number, x_o_setup_planesTold, x_o_setup_reachTold, x_o_setup_lengthTold, x_o_setup_priceTold])), (q_o_setup_bytes, .inl (cy 1, 800, .inl res.2.1)), (q_p1, .inl (cy 0, n_p1, .inl res.2.2))] A9)) (by decide) rfl rfl (Nat.le_of_ble_eq_true rfl) ?_
  intro p e s m args below meth c A hx hb hr hts hown hml hlocks hname hE hP hD hA hsz ls hl
  have hK := hE.1
  have hl : lv_has ls 3 [(0, .ref q_o), (1, .ref q_p1), (2, .int p2)] := hl
  have hS : va_S A s.heap s.heap [] := va_S.rf
  obtain ⟨QQ, hQQ⟩ : ∃ Q9, Q9 = MQ below (kQv D [(q_o, .inr (6, [.ref q_o_setup, x_o_now, x_o_trial, x_o_view, x_o_trialView, x_o_past, x_o_nextPast, x_o_undoable])), (q_o_setup, .inr (3, [x_o_setup_show, .int res.1, x_o_setup_error, x_o_setup_errorAt, .ref q_o_setup_bytes, x_o_setup_end, x_o_setup_at, x_o_setup_number, x_o_setup_planesTold, x_o_setup_reachTold, x_o_setup_lengthTold, x_o_setup_priceTold])), (q_o_setup_bytes, .inl (cy 1, 800, .inl res.2.1)), (q_p1, .inl (cy 0, n_p1, .inl res.2.2))] A) args s 0 0 A := ⟨_, rfl⟩
  rw [← hQQ]
  have main : ∀ (H : Heap) (locs : List Loc) (ls : Array Slot), va_P D vwCl [(q_o, .inr (6, [.ref q_o_setup, x_o_now, x_o_trial, x_o_view, x_o_trialView, x_o_past, x_o_nextPast, x_o_undoable])), (q_o_setup, .inr (3, [x_o_setup_show, .int o_setup_filled, x_o_setup_error, x_o_setup_errorAt, .ref q_o_setup_bytes, x_o_setup_end, x_o_setup_at, x_o_setup_number, x_o_setup_planesTold, x_o_setup_reachTold, x_o_setup_lengthTold, x_o_setup_priceTold])), (q_o_setup_bytes, .inl (cy 1, 800, .inl o_setup_bytes)), (q_p1, .inl (cy 0, n_p1, .inl p1))] H → va_D A [(q_o, .inr (6, [.ref q_o_setup, x_o_now, x_o_trial, x_o_view, x_o_trialView, x_o_past, x_o_nextPast, x_o_undoable])), (q_o_setup, .inr (3, [x_o_setup_show, .int o_setup_filled, x_o_setup_error, x_o_setup_errorAt, .ref q_o_setup_bytes, x_o_setup_end, x_o_setup_at, x_o_setup_number, x_o_setup_planesTold, x_o_setup_reachTold, x_o_setup_lengthTold, x_o_setup_priceTold])), (q_o_setup_bytes, .inl (cy 1, 800, .inl o_setup_bytes)), (q_p1, .inl (cy 0, n_p1, .inl p1))] → va_S A s.heap H locs → lv_has ls 3 [(0, .ref q_o), (1, .ref q_p1), (2, .int p2)] → W p l e ({ frames := 3, cells := 0, slots := 0, locals := 69 } : Room) s m args below meth c H locs 0 0 QQ (F0 m 0 ls []) := by
    intro H locs ls hP hD hS hl
    unfold L_put at hF
    refine lv_aload_n hx hb dL_put_0 rfl (lv_at hl 1 rfl) ?_
    refine lv_iconst (v := 1) hx hb dL_put_1 (by decide) ?_
    refine lv_aload_n hx hb dL_put_2 rfl (lv_at hl 1 rfl) ?_
    refine lv_iconst (v := 0) hx hb dL_put_3 (by decide) ?_
    obtain ⟨h1, hF⟩ := ld_o hF
    refine va_iald hx hb hK hP 3 0 rfl rfl h1 dL_put_4 ?_
    refine lv_topi (fun v2 ev2 => ?_)
    have hF := hF v2 ev2
    refine lv_bipush (v := 20) hx hb dL_put_5 (by decide) ?_
    refine lv_irem hx hb dL_put_7 (by decide) ?_
    refine lv_topi (fun v3 ev3 => ?_)
    have hF := nm_o hF v3 ev3
    refine lv_iconst (v := 4) hx hb dL_put_8 (by decide) ?_
    refine lv_idiv hx hb dL_put_9 (by decide) ?_
    refine lv_iadd hx hb dL_put_10 ?_
    refine lv_dup2_11 hx hb dL_put_11 rfl rfl ?_
    obtain ⟨h4, hF⟩ := ld_o hF
    refine va_iald hx hb hK hP 3 0 rfl rfl h4 dL_put_12 ?_
    refine lv_topi (fun v5 ev5 => ?_)
    have hF := hF v5 ev5
    refine lv_iload_n hx hb dL_put_13 rfl (lv_at hl 2 rfl) ?_
    refine lv_bipush (v := 24) hx hb dL_put_14 (by decide) ?_
    refine lv_bipush (v := 8) hx hb dL_put_16 (by decide) ?_
    refine lv_aload_n hx hb dL_put_18 rfl (lv_at hl 1 rfl) ?_
    refine lv_iconst (v := 0) hx hb dL_put_19 (by decide) ?_
    obtain ⟨h6, hF⟩ := ld_o hF
    refine va_iald hx hb hK hP 3 0 rfl rfl h6 dL_put_20 ?_
    refine lv_topi (fun v7 ev7 => ?_)
    have hF := hF v7 ev7
    refine lv_iconst (v := 4) hx hb dL_put_21 (by decide) ?_
    refine lv_irem hx hb dL_put_22 (by decide) ?_
    refine lv_topi (fun v8 ev8 => ?_)
    have hF := nm_o hF v8 ev8
    refine lv_imul hx hb dL_put_23 ?_
    refine lv_isub hx hb dL_put_24 ?_
    refine lv_ishl hx hb dL_put_25 ?_
    refine lv_ior hx hb dL_put_26 ?_
    obtain ⟨h9, hF⟩ := st_o hF
    refine va_iast hx hb hK hP hD hS 3 0 rfl rfl h9 dL_put_27 (fun H locs hP hD hS => ?_)
    obtain ⟨b10, eb10⟩ : ∃ y : Nat → Int32, y = (upd p1 ((1 : Int32) + (v3 / (4 : Int32))).toNatClampNeg (v5 ||| (p2 <<< (((24 : Int32) - ((8 : Int32) * v8)) &&& 31)))) := ⟨_, rfl⟩
    have hF := hF b10 eb10
    have hP : va_P D vwCl [(q_o, .inr (6, [.ref q_o_setup, x_o_now, x_o_trial, x_o_view, x_o_trialView, x_o_past, x_o_nextPast, x_o_undoable])), (q_o_setup, .inr (3, [x_o_setup_show, .int o_setup_filled, x_o_setup_error, x_o_setup_errorAt, .ref q_o_setup_bytes, x_o_setup_end, x_o_setup_at, x_o_setup_number, x_o_setup_planesTold, x_o_setup_reachTold, x_o_setup_lengthTold, x_o_setup_priceTold])), (q_o_setup_bytes, .inl (cy 1, 800, .inl o_setup_bytes)), (q_p1, .inl (cy 0, n_p1, .inl b10))] H := by rw [eb10]; exact hP
    have hD : va_D A [(q_o, .inr (6, [.ref q_o_setup, x_o_now, x_o_trial, x_o_view, x_o_trialView, x_o_past, x_o_nextPast, x_o_undoable])), (q_o_setup, .inr (3, [x_o_setup_show, .int o_setup_filled, x_o_setup_error, x_o_setup_errorAt, .ref q_o_setup_bytes, x_o_setup_end, x_o_setup_at, x_o_setup_number, x_o_setup_planesTold, x_o_setup_reachTold, x_o_setup_lengthTold, x_o_setup_priceTold])), (q_o_setup_bytes, .inl (cy 1, 800, .inl o_setup_bytes)), (q_p1, .inl (cy 0, n_p1, .inl b10))] := by rw [eb10]; exact hD
    refine lv_aload_n hx hb dL_put_28 rfl (lv_at hl 1 rfl) ?_
    refine lv_iconst (v := 0) hx hb dL_put_29 (by decide) ?_
    refine lv_dup2_11 hx hb dL_put_30 rfl rfl ?_
    obtain ⟨h11, hF⟩ := ld_o hF
    refine va_iald hx hb hK hP 3 0 rfl rfl h11 dL_put_31 ?_
    refine lv_topi (fun v12 ev12 => ?_)
    have hF := hF v12 ev12
    refine lv_iconst (v := 1) hx hb dL_put_32 (by decide) ?_
    refine lv_iadd hx hb dL_put_33 ?_
    obtain ⟨h13, hF⟩ := st_o hF
    refine va_iast hx hb hK hP hD hS 3 0 rfl rfl h13 dL_put_34 (fun H locs hP hD hS => ?_)
    obtain ⟨b14, eb14⟩ : ∃ y : Nat → Int32, y = (upd b10 (0 : Int32).toNatClampNeg (v12 + (1 : Int32))) := ⟨_, rfl⟩
    have hF := hF b14 eb14
    have hP : va_P D vwCl [(q_o, .inr (6, [.ref q_o_setup, x_o_now, x_o_trial, x_o_view, x_o_trialView, x_o_past, x_o_nextPast, x_o_undoable])), (q_o_setup, .inr (3, [x_o_setup_show, .int o_setup_filled, x_o_setup_error, x_o_setup_errorAt, .ref q_o_setup_bytes, x_o_setup_end, x_o_setup_at, x_o_setup_number, x_o_setup_planesTold, x_o_setup_reachTold, x_o_setup_lengthTold, x_o_setup_priceTold])), (q_o_setup_bytes, .inl (cy 1, 800, .inl o_setup_bytes)), (q_p1, .inl (cy 0, n_p1, .inl b14))] H := by rw [eb14]; exact hP
    have hD : va_D A [(q_o, .inr (6, [.ref q_o_setup, x_o_now, x_o_trial, x_o_view, x_o_trialView, x_o_past, x_o_nextPast, x_o_undoable])), (q_o_setup, .inr (3, [x_o_setup_show, .int o_setup_filled, x_o_setup_error, x_o_setup_errorAt, .ref q_o_setup_bytes, x_o_setup_end, x_o_setup_at, x_o_setup_number, x_o_setup_planesTold, x_o_setup_reachTold, x_o_setup_lengthTold, x_o_setup_priceTold])), (q_o_setup_bytes, .inl (cy 1, 800, .inl o_setup_bytes)), (q_p1, .inl (cy 0, n_p1, .inl b14))] := by rw [eb14]; exact hD
    refine lv_aload_n hx hb dL_put_35 rfl (lv_at hl 1 rfl) ?_
    refine lv_iconst (v := 0) hx hb dL_put_36 (by decide) ?_
    obtain ⟨h15, hF⟩ := ld_o hF
    refine va_iald hx hb hK hP 3 0 rfl rfl h15 dL_put_37 ?_
    refine lv_topi (fun v16 ev16 => ?_)
    have hF := hF v16 ev16
    refine lv_bipush (v := 20) hx hb dL_put_38 (by decide) ?_
    refine lv_irem hx hb dL_put_40 (by decide) ?_
    refine lv_topi (fun v17 ev17 => ?_)
    have hF := nm_o hF v17 ev17
    refine lv_if_ne (tgt := 49) hx hb dL_put_41 (by decide) (fun c18 => ?_) (fun c18 => ?_)
    · have hF := if_n hF c18
      obtain rfl := so_o hF
      rw [hQQ]
      exact kr_v hx hb hr hlocks hP hD hS dL_put_49
    · have hF := if_p hF c18
      refine lv_aload_n hx hb dL_put_44 rfl (lv_at hl 0 rfl) ?_
      refine lv_aload_n hx hb dL_put_45 rfl (lv_at hl 1 rfl) ?_
      obtain ⟨o19, o20, o21, h22, hF⟩ := bn3_o hF
      refine kd_v [(q_o, .inr (6, [.ref q_o_setup, x_o_now, x_o_trial, x_o_view, x_o_trialView, x_o_past, x_o_nextPast, x_o_undoable])), (q_o_setup, .inr (3, [x_o_setup_show, .int o19, x_o_setup_error, x_o_setup_errorAt, .ref q_o_setup_bytes, x_o_setup_end, x_o_setup_at, x_o_setup_number, x_o_setup_planesTold, x_o_setup_reachTold, x_o_setup_lengthTold, x_o_setup_priceTold])), (q_o_setup_bytes, .inl (cy 1, 800, .inl o20)), (q_p1, .inl (cy 0, n_p1, .inl o21))] (va_runS (As := [.ref q_o, .ref q_p1]) (rest := []) ⟨hx, hb, hml, hown, hts⟩ (c_L_flush n_p1 q_o q_o_setup q_o_setup_bytes q_p1 H.size x_o_now x_o_trial x_o_view x_o_trialView x_o_past x_o_nextPast x_o_undoable x_o_setup_show x_o_setup_error x_o_setup_errorAt x_o_setup_end x_o_setup_at x_o_setup_number x_o_setup_planesTold x_o_setup_reachTold x_o_setup_lengthTold x_o_setup_priceTold o_setup_filled o_setup_bytes b14 _ h22) (va_cwS 2 hts gL_put_L_flush rfl rfl rfl kd_L_flush ⟨Nat.le_of_ble_eq_true rfl, Nat.le_of_ble_eq_true rfl⟩) ⟨kP_blind (EN_ok D cy) D _ _ _, kStart (EN_ok D cy) hE hP hD hS hA [0, 1, 2, 3] rfl rfl _⟩ rfl rfl hl.1 rfl (lv_room (Nat.le_of_ble_eq_true rfl)) dL_put_46 ⟨Nat.zero_le _, Nat.zero_le _⟩) hP hD hS hA [0, 1, 2, 3] [] rfl rfl rfl 4 rfl (by decide +kernel) (fun H locs hP hD hS => ?_)
      obtain rfl := so_o hF
      rw [hQQ]
      exact kr_v hx hb hr hlocks hP hD hS dL_put_49
  exact main s.heap [] ls hP hD hS hl
theorem kd_L_write : yL_write.cls ≠ "java/lang/invoke/MethodHandle" ∧ yL_write.cls ≠ "java/lang/invoke/VarHandle" ∧ (parseMethodDescriptor yL_write.desc).map (fun d => d.parameters.length) = some 3 := by decide +kernel
set_option maxHeartbeats 4000000 in
set_option maxRecDepth 100000 in
theorem c_L_write {l : Launch} {D : va_G} {cy : Nat → ClassId} (n_p1 : Nat) (q_o q_o_setup q_o_setup_bytes q_p1 : Nat) (sz : Nat) (x_o_now x_o_trial x_o_view x_o_trialView x_o_past x_o_nextPast x_o_undoable x_o_setup_show x_o_setup_error x_o_setup_errorAt x_o_setup_end x_o_setup_at x_o_setup_number x_o_setup_planesTold x_o_setup_reachTold x_o_setup_lengthTold x_o_setup_priceTold : Value) (o_setup_filled : Int32) (o_setup_bytes : Nat → Int32) (p1 : Nat → Int32) (tx : List Int32) (a_tx : Nat) (res : Int32 × (Nat → Int32) × (Nat → Int32)) (hF : L_write n_p1 tx o_setup_filled o_setup_bytes p1 = some res) : Met l yL_write wsL_write ({ frames := 4, cells := 0, slots := 0, locals := 101 } : Room) (kP (ES D cy tx a_tx) D [.ref q_o, .ref q_p1, .ref a_tx] [(q_o, .inr (6, [.ref q_o_setup, x_o_now, x_o_trial, x_o_view, x_o_trialView, x_o_past, x_o_nextPast, x_o_undoable])), (q_o_setup, .inr (3, [x_o_setup_show, .int o_setup_filled, x_o_setup_error, x_o_setup_errorAt, .ref q_o_setup_bytes, x_o_setup_end, x_o_setup_at, x_o_setup_number, x_o_setup_planesTold, x_o_setup_reachTold, x_o_setup_lengthTold, x_o_setup_priceTold])), (q_o_setup_bytes, .inl (cy 1, 800, .inl o_setup_bytes)), (q_p1, .inl (cy 0, n_p1, .inl p1))] sz) (kQv D [(q_o, .inr (6, [.ref q_o_setup, x_o_now, x_o_trial, x_o_view, x_o_trialView, x_o_past, x_o_nextPast, x_o_undoable])), (q_o_setup, .inr (3, [x_o_setup_show, .int res.1, x_o_setup_error, x_o_setup_errorAt, .ref q_o_setup_bytes, x_o_setup_end, x_o_setup_at, x_o_setup_number, x_o_setup_planesTold, x_o_setup_reachTold, x_o_setup_lengthTold, x_o_setup_priceTold])), (q_o_setup_bytes, .inl (cy 1, 800, .inl res.2.1)), (q_p1, .inl (cy 0, n_p1, .inl res.2.2))] (va_A [(q_o, .inr (6, [.ref q_o_setup, x_o_now, x_o_trial, x_o_view, x_o_trialView, x_o_past, x_o_nextPast, x_o_undoable])), (q_o_setup, .inr (3, [x_o_setup_show, .int o_setup_filled, x_o_setup_error, x_o_setup_errorAt, .ref q_o_setup_bytes, x_o_setup_end, x_o_setup_at, x_o_setup_number, x_o_setup_planesTold, x_o_setup_reachTold, x_o_setup_lengthTold, x_o_setup_priceTold])), (q_o_setup_bytes, .inl (cy 1, 800, .inl o_setup_bytes)), (q_p1, .inl (cy 0, n_p1, .inl p1))] sz)) 0 0 (va_A [(q_o, .inr (6, [.ref q_o_setup, x_o_now, x_o_trial, x_o_view, x_o_trialView, x_o_past, x_o_nextPast, x_o_undoable])), (q_o_setup, .inr (3, [x_o_setup_show, .int o_setup_filled, x_o_setup_error, x_o_setup_errorAt, .ref q_o_setup_bytes, x_o_setup_end, x_o_setup_at, x_o_setup_number, x_o_setup_planesTold, x_o_setup_reachTold, x_o_setup_lengthTold, x_o_setup_priceTold])), (q_o_setup_bytes, .inl (cy 1, 800, .inl o_setup_bytes)), (q_p1, .inl (cy 0, n_p1, .inl p1))] sz) := by
  refine kMet (y := yL_write) (av := [.ref q_o, .ref q_p1, .ref a_tx]) (cc := cL_write) (maxL := 4) (ret := none) (own := RL) (Qc := fun A9 => (kQv D [(q_o, .inr (6, [.ref q_o_setup, x_o_now, x_o_trial, x_o_view, x_o_trialView, x_o_past, x_o_nextPast, x_o_undoable])), (q_o_setup, .inr (3, [x_o_setup_show, .int res.1, x_o_setup_error, x_o_setup_errorAt, .ref q_o_setup_bytes, x_o_setup_end, x_o_setup_at, x_o_setup_number, x_o_setup_planesTold, x_o_setup_reachTold, x_o_setup_lengthTold, x_o_setup_priceTold])), (q_o_setup_bytes, .inl (cy 1, 800, .inl res.2.1)), (q_p1, .inl (cy 0, n_p1, .inl res.2.2))] A9)) (by decide) rfl rfl (Nat.le_of_ble_eq_true rfl) ?_
  intro p e s m args below meth c A hx hb hr hts hown hml hlocks hname hE hP hD hA hsz ls hl
  obtain ⟨hE, hTa_tx⟩ := hE
  have hK := hE.1
  have hl : lv_has ls 4 [(0, .ref q_o), (1, .ref q_p1), (2, .ref a_tx)] := hl
  have hS : va_S A s.heap s.heap [] := va_S.rf
  obtain ⟨QQ, hQQ⟩ : ∃ Q9, Q9 = MQ below (kQv D [(q_o, .inr (6, [.ref q_o_setup, x_o_now, x_o_trial, x_o_view, x_o_trialView, x_o_past, x_o_nextPast, x_o_undoable])), (q_o_setup, .inr (3, [x_o_setup_show, .int res.1, x_o_setup_error, x_o_setup_errorAt, .ref q_o_setup_bytes, x_o_setup_end, x_o_setup_at, x_o_setup_number, x_o_setup_planesTold, x_o_setup_reachTold, x_o_setup_lengthTold, x_o_setup_priceTold])), (q_o_setup_bytes, .inl (cy 1, 800, .inl res.2.1)), (q_p1, .inl (cy 0, n_p1, .inl res.2.2))] A) args s 0 0 A := ⟨_, rfl⟩
  rw [← hQQ]
  have J2 : ∀ (n2 : Nat) (l3 : Int32) (o_setup_filled : Int32) (o_setup_bytes : Nat → Int32) (p1 : Nat → Int32) (H : Heap) (locs : List Loc) (ls : Array Slot), va_P D vwCl [(q_o, .inr (6, [.ref q_o_setup, x_o_now, x_o_trial, x_o_view, x_o_trialView, x_o_past, x_o_nextPast, x_o_undoable])), (q_o_setup, .inr (3, [x_o_setup_show, .int o_setup_filled, x_o_setup_error, x_o_setup_errorAt, .ref q_o_setup_bytes, x_o_setup_end, x_o_setup_at, x_o_setup_number, x_o_setup_planesTold, x_o_setup_reachTold, x_o_setup_lengthTold, x_o_setup_priceTold])), (q_o_setup_bytes, .inl (cy 1, 800, .inl o_setup_bytes)), (q_p1, .inl (cy 0, n_p1, .inl p1))] H → va_D A [(q_o, .inr (6, [.ref q_o_setup, x_o_now, x_o_trial, x_o_view, x_o_trialView, x_o_past, x_o_nextPast, x_o_undoable])), (q_o_setup, .inr (3, [x_o_setup_show, .int o_setup_filled, x_o_setup_error, x_o_setup_errorAt, .ref q_o_setup_bytes, x_o_setup_end, x_o_setup_at, x_o_setup_number, x_o_setup_planesTold, x_o_setup_reachTold, x_o_setup_lengthTold, x_o_setup_priceTold])), (q_o_setup_bytes, .inl (cy 1, 800, .inl o_setup_bytes)), (q_p1, .inl (cy 0, n_p1, .inl p1))] → va_S A s.heap H locs → lv_has ls 4 [(0, .ref q_o), (1, .ref q_p1), (2, .ref a_tx), (3, .int l3)] → L_write_L2 n_p1 tx n2 l3 o_setup_filled o_setup_bytes p1 = some res → W p l e ({ frames := 4, cells := 0, slots := 0, locals := 101 } : Room) s m args below meth c H locs 0 0 QQ (F0 m 2 ls []) := by
    intro n2
    induction n2 with
    | zero =>
      intro l3 o_setup_filled o_setup_bytes p1 H locs ls hP hD hS hl hF
      rw [L_write_L2] at hF
      cases hF
    | succ n2 ih2 =>
      intro l3 o_setup_filled o_setup_bytes p1 H locs ls hP hD hS hl hF
      rw [L_write_L2] at hF
      refine lv_iload_n hx hb dL_write_2 rfl (lv_at hl 3 rfl) ?_
      refine lv_aload_n hx hb dL_write_3 rfl (lv_at hl 2 rfl) ?_
      obtain ⟨r1, h2, hF⟩ := bn1_o hF
      refine kd_i [(q_o, .inr (6, [.ref q_o_setup, x_o_now, x_o_trial, x_o_view, x_o_trialView, x_o_past, x_o_nextPast, x_o_undoable])), (q_o_setup, .inr (3, [x_o_setup_show, .int o_setup_filled, x_o_setup_error, x_o_setup_errorAt, .ref q_o_setup_bytes, x_o_setup_end, x_o_setup_at, x_o_setup_number, x_o_setup_planesTold, x_o_setup_reachTold, x_o_setup_lengthTold, x_o_setup_priceTold])), (q_o_setup_bytes, .inl (cy 1, 800, .inl o_setup_bytes)), (q_p1, .inl (cy 0, n_p1, .inl p1))] (va_runV (As := []) (rest := [.int l3]) ⟨hx, hb, hml, hown, hts⟩ (c_J0_length_8abf5 H.size tx a_tx _ h2) (cwV 0 hts gL_write_J0_length_8abf5 rfl rfl rfl kd_J0_length_8abf5 ⟨Nat.le_of_ble_eq_true rfl, Nat.le_of_ble_eq_true rfl⟩) ⟨kP_blind (ES_ok D cy tx a_tx) D _ _ _, kStr_recv hTa_tx hS, kStart (ES_ok D cy tx a_tx) (show ES D cy tx a_tx A s s.heap from ⟨hE, hTa_tx⟩) hP hD hS hA [] rfl rfl _⟩ rfl rfl hl.1 rfl (lv_room (Nat.le_of_ble_eq_true rfl)) dL_write_4 ⟨Nat.zero_le _, Nat.zero_le _⟩) hP hD hS hA [] [0, 1, 2, 3] rfl rfl rfl 4 rfl (by decide +kernel) (fun H locs hP hD hS => ?_)
      refine lv_icmp_ge (tgt := 26) hx hb dL_write_7 (by decide) (fun c3 => ?_) (fun c3 => ?_)
      · have hF := if_p hF c3
        obtain rfl := so_o hF
        rw [hQQ]
        exact kr_v hx hb hr hlocks hP hD hS dL_write_26
      · have hF := if_n hF c3
        refine lv_aload_n hx hb dL_write_10 rfl (lv_at hl 0 rfl) ?_
        refine lv_aload_n hx hb dL_write_11 rfl (lv_at hl 1 rfl) ?_
        refine lv_aload_n hx hb dL_write_12 rfl (lv_at hl 2 rfl) ?_
        refine lv_iload_n hx hb dL_write_13 rfl (lv_at hl 3 rfl) ?_
        obtain ⟨r4, h5, hF⟩ := bn1_o hF
        refine kd_i [(q_o, .inr (6, [.ref q_o_setup, x_o_now, x_o_trial, x_o_view, x_o_trialView, x_o_past, x_o_nextPast, x_o_undoable])), (q_o_setup, .inr (3, [x_o_setup_show, .int o_setup_filled, x_o_setup_error, x_o_setup_errorAt, .ref q_o_setup_bytes, x_o_setup_end, x_o_setup_at, x_o_setup_number, x_o_setup_planesTold, x_o_setup_reachTold, x_o_setup_lengthTold, x_o_setup_priceTold])), (q_o_setup_bytes, .inl (cy 1, 800, .inl o_setup_bytes)), (q_p1, .inl (cy 0, n_p1, .inl p1))] (va_runV (As := [.int l3]) (rest := [.ref q_p1, .ref q_o]) ⟨hx, hb, hml, hown, hts⟩ (c_J0_charAt_5068e H.size tx a_tx l3 _ h5) (cwV 1 hts gL_write_J0_charAt_5068e rfl rfl rfl kd_J0_charAt_5068e ⟨Nat.le_of_ble_eq_true rfl, Nat.le_of_ble_eq_true rfl⟩) ⟨kP_blind (ES_ok D cy tx a_tx) D _ _ _, kStr_recv hTa_tx hS, kStart (ES_ok D cy tx a_tx) (show ES D cy tx a_tx A s s.heap from ⟨hE, hTa_tx⟩) hP hD hS hA [] rfl rfl _⟩ rfl rfl hl.1 rfl (lv_room (Nat.le_of_ble_eq_true rfl)) dL_write_14 ⟨Nat.zero_le _, Nat.zero_le _⟩) hP hD hS hA [] [0, 1, 2, 3] rfl rfl rfl 4 rfl (by decide +kernel) (fun H locs hP hD hS => ?_)
        obtain ⟨o6, o7, o8, h9, hF⟩ := bn3_o hF
        refine kd_v [(q_o, .inr (6, [.ref q_o_setup, x_o_now, x_o_trial, x_o_view, x_o_trialView, x_o_past, x_o_nextPast, x_o_undoable])), (q_o_setup, .inr (3, [x_o_setup_show, .int o6, x_o_setup_error, x_o_setup_errorAt, .ref q_o_setup_bytes, x_o_setup_end, x_o_setup_at, x_o_setup_number, x_o_setup_planesTold, x_o_setup_reachTold, x_o_setup_lengthTold, x_o_setup_priceTold])), (q_o_setup_bytes, .inl (cy 1, 800, .inl o7)), (q_p1, .inl (cy 0, n_p1, .inl o8))] (va_runS (As := [.ref q_o, .ref q_p1, .int r4]) (rest := []) ⟨hx, hb, hml, hown, hts⟩ (c_L_put n_p1 q_o q_o_setup q_o_setup_bytes q_p1 H.size x_o_now x_o_trial x_o_view x_o_trialView x_o_past x_o_nextPast x_o_undoable x_o_setup_show x_o_setup_error x_o_setup_errorAt x_o_setup_end x_o_setup_at x_o_setup_number x_o_setup_planesTold x_o_setup_reachTold x_o_setup_lengthTold x_o_setup_priceTold o_setup_filled o_setup_bytes p1 r4 _ h9) (va_cwS 3 hts gL_write_L_put rfl rfl rfl kd_L_put ⟨Nat.le_of_ble_eq_true rfl, Nat.le_of_ble_eq_true rfl⟩) ⟨kP_blind (EN_ok D cy) D _ _ _, kStart (EN_ok D cy) hE hP hD hS hA [0, 1, 2, 3] rfl rfl _⟩ rfl rfl hl.1 rfl (lv_room (Nat.le_of_ble_eq_true rfl)) dL_write_17 ⟨Nat.zero_le _, Nat.zero_le _⟩) hP hD hS hA [0, 1, 2, 3] [] rfl rfl rfl 4 rfl (by decide +kernel) (fun H locs hP hD hS => ?_)
        obtain ⟨v10, ev10⟩ : ∃ y : Int32, y = l3 + (1 : Int32) := ⟨_, rfl⟩
        have hF := nm_o hF v10 ev10
        refine lv_iinc (v := v10) (lv' := [(3, .int v10), (0, .ref q_o), (1, .ref q_p1), (2, .ref a_tx)]) hx hb dL_write_20 hl (k := 3) rfl (by rw [ev10]; rfl) (by decide) rfl (fun ls hl => ?_)
        refine lv_goto (tgt := 2) hx hb dL_write_23 (by decide) ?_
        exact ih2 v10 o6 o7 o8 H locs ls hP hD hS (lv_sub hl [1, 2, 3, 0] rfl) hF
  have main : ∀ (H : Heap) (locs : List Loc) (ls : Array Slot), va_P D vwCl [(q_o, .inr (6, [.ref q_o_setup, x_o_now, x_o_trial, x_o_view, x_o_trialView, x_o_past, x_o_nextPast, x_o_undoable])), (q_o_setup, .inr (3, [x_o_setup_show, .int o_setup_filled, x_o_setup_error, x_o_setup_errorAt, .ref q_o_setup_bytes, x_o_setup_end, x_o_setup_at, x_o_setup_number, x_o_setup_planesTold, x_o_setup_reachTold, x_o_setup_lengthTold, x_o_setup_priceTold])), (q_o_setup_bytes, .inl (cy 1, 800, .inl o_setup_bytes)), (q_p1, .inl (cy 0, n_p1, .inl p1))] H → va_D A [(q_o, .inr (6, [.ref q_o_setup, x_o_now, x_o_trial, x_o_view, x_o_trialView, x_o_past, x_o_nextPast, x_o_undoable])), (q_o_setup, .inr (3, [x_o_setup_show, .int o_setup_filled, x_o_setup_error, x_o_setup_errorAt, .ref q_o_setup_bytes, x_o_setup_end, x_o_setup_at, x_o_setup_number, x_o_setup_planesTold, x_o_setup_reachTold, x_o_setup_lengthTold, x_o_setup_priceTold])), (q_o_setup_bytes, .inl (cy 1, 800, .inl o_setup_bytes)), (q_p1, .inl (cy 0, n_p1, .inl p1))] → va_S A s.heap H locs → lv_has ls 4 [(0, .ref q_o), (1, .ref q_p1), (2, .ref a_tx)] → W p l e ({ frames := 4, cells := 0, slots := 0, locals := 101 } : Room) s m args below meth c H locs 0 0 QQ (F0 m 0 ls []) := by
    intro H locs ls hP hD hS hl
    unfold L_write at hF
    refine lv_iconst (v := 0) hx hb dL_write_0 (by decide) ?_
    refine lv_istore_n (lv' := [(3, .int (0 : Int32)), (0, .ref q_o), (1, .ref q_p1), (2, .ref a_tx)]) hx hb dL_write_1 rfl hl (by decide) rfl (fun ls hl => ?_)
    exact J2 FU (0 : Int32) o_setup_filled o_setup_bytes p1 H locs ls hP hD hS (lv_sub hl [1, 2, 3, 0] rfl) hF
  exact main s.heap [] ls hP hD hS hl
theorem kd_L_writeNumber : yL_writeNumber.cls ≠ "java/lang/invoke/MethodHandle" ∧ yL_writeNumber.cls ≠ "java/lang/invoke/VarHandle" ∧ (parseMethodDescriptor yL_writeNumber.desc).map (fun d => d.parameters.length) = some 3 := by decide +kernel
set_option maxHeartbeats 4000000 in
set_option maxRecDepth 100000 in
theorem c_L_writeNumber {l : Launch} {D : va_G} {cy : Nat → ClassId} (n_p1 : Nat) (q_o q_o_setup q_o_setup_bytes q_p1 : Nat) (sz : Nat) (x_o_now x_o_trial x_o_view x_o_trialView x_o_past x_o_nextPast x_o_undoable x_o_setup_show x_o_setup_error x_o_setup_errorAt x_o_setup_end x_o_setup_at x_o_setup_number x_o_setup_planesTold x_o_setup_reachTold x_o_setup_lengthTold x_o_setup_priceTold : Value) (o_setup_filled : Int32) (o_setup_bytes : Nat → Int32) (p1 : Nat → Int32) (p2 : Int32) (res : Int32 × (Nat → Int32) × (Nat → Int32)) (hF : L_writeNumber n_p1 o_setup_filled o_setup_bytes p1 p2 = some res) : Met l yL_writeNumber wsL_writeNumber ({ frames := 4, cells := 0, slots := 0, locals := 91 } : Room) (kP (EN D cy) D [.ref q_o, .ref q_p1, .int p2] [(q_o, .inr (6, [.ref q_o_setup, x_o_now, x_o_trial, x_o_view, x_o_trialView, x_o_past, x_o_nextPast, x_o_undoable])), (q_o_setup, .inr (3, [x_o_setup_show, .int o_setup_filled, x_o_setup_error, x_o_setup_errorAt, .ref q_o_setup_bytes, x_o_setup_end, x_o_setup_at, x_o_setup_number, x_o_setup_planesTold, x_o_setup_reachTold, x_o_setup_lengthTold, x_o_setup_priceTold])), (q_o_setup_bytes, .inl (cy 1, 800, .inl o_setup_bytes)), (q_p1, .inl (cy 0, n_p1, .inl p1))] sz) (kQv D [(q_o, .inr (6, [.ref q_o_setup, x_o_now, x_o_trial, x_o_view, x_o_trialView, x_o_past, x_o_nextPast, x_o_undoable])), (q_o_setup, .inr (3, [x_o_setup_show, .int res.1, x_o_setup_error, x_o_setup_errorAt, .ref q_o_setup_bytes, x_o_setup_end, x_o_setup_at, x_o_setup_number, x_o_setup_planesTold, x_o_setup_reachTold, x_o_setup_lengthTold, x_o_setup_priceTold])), (q_o_setup_bytes, .inl (cy 1, 800, .inl res.2.1)), (q_p1, .inl (cy 0, n_p1, .inl res.2.2))] (va_A [(q_o, .inr (6, [.ref q_o_setup, x_o_now, x_o_trial, x_o_view, x_o_trialView, x_o_past, x_o_nextPast, x_o_undoable])), (q_o_setup, .inr (3, [x_o_setup_show, .int o_setup_filled, x_o_setup_error, x_o_setup_errorAt, .ref q_o_setup_bytes, x_o_setup_end, x_o_setup_at, x_o_setup_number, x_o_setup_planesTold, x_o_setup_reachTold, x_o_setup_lengthTold, x_o_setup_priceTold])), (q_o_setup_bytes, .inl (cy 1, 800, .inl o_setup_bytes)), (q_p1, .inl (cy 0, n_p1, .inl p1))] sz)) 0 0 (va_A [(q_o, .inr (6, [.ref q_o_setup, x_o_now, x_o_trial, x_o_view, x_o_trialView, x_o_past, x_o_nextPast, x_o_undoable])), (q_o_setup, .inr (3, [x_o_setup_show, .int o_setup_filled, x_o_setup_error, x_o_setup_errorAt, .ref q_o_setup_bytes, x_o_setup_end, x_o_setup_at, x_o_setup_number, x_o_setup_planesTold, x_o_setup_reachTold, x_o_setup_lengthTold, x_o_setup_priceTold])), (q_o_setup_bytes, .inl (cy 1, 800, .inl o_setup_bytes)), (q_p1, .inl (cy 0, n_p1, .inl p1))] sz) := by
  refine kMet (y := yL_writeNumber) (av := [.ref q_o, .ref q_p1, .int p2]) (cc := cL_writeNumber) (maxL := 4) (ret := none) (own := RL) (Qc := fun A9 => (kQv D [(q_o, .inr (6, [.ref q_o_setup, x_o_now, x_o_trial, x_o_view, x_o_trialView, x_o_past, x_o_nextPast, x_o_undoable])), (q_o_setup, .inr (3, [x_o_setup_show, .int res.1, x_o_setup_error, x_o_setup_errorAt, .ref q_o_setup_bytes, x_o_setup_end, x_o_setup_at, x_o_setup_number, x_o_setup_planesTold, x_o_setup_reachTold, x_o_setup_lengthTold, x_o_setup_priceTold])), (q_o_setup_bytes, .inl (cy 1, 800, .inl res.2.1)), (q_p1, .inl (cy 0, n_p1, .inl res.2.2))] A9)) (by decide) rfl rfl (Nat.le_of_ble_eq_true rfl) ?_
  intro p e s m args below meth c A hx hb hr hts hown hml hlocks hname hE hP hD hA hsz ls hl
  have hK := hE.1
  have hl : lv_has ls 4 [(0, .ref q_o), (1, .ref q_p1), (2, .int p2)] := hl
  have hS : va_S A s.heap s.heap [] := va_S.rf
  obtain ⟨QQ, hQQ⟩ : ∃ Q9, Q9 = MQ below (kQv D [(q_o, .inr (6, [.ref q_o_setup, x_o_now, x_o_trial, x_o_view, x_o_trialView, x_o_past, x_o_nextPast, x_o_undoable])), (q_o_setup, .inr (3, [x_o_setup_show, .int res.1, x_o_setup_error, x_o_setup_errorAt, .ref q_o_setup_bytes, x_o_setup_end, x_o_setup_at, x_o_setup_number, x_o_setup_planesTold, x_o_setup_reachTold, x_o_setup_lengthTold, x_o_setup_priceTold])), (q_o_setup_bytes, .inl (cy 1, 800, .inl res.2.1)), (q_p1, .inl (cy 0, n_p1, .inl res.2.2))] A) args s 0 0 A := ⟨_, rfl⟩
  rw [← hQQ]
  have J18 : ∀ (n18 : Nat) (l3 : Int32) (o_setup_filled : Int32) (o_setup_bytes : Nat → Int32) (p1 : Nat → Int32) (H : Heap) (locs : List Loc) (ls : Array Slot), va_P D vwCl [(q_o, .inr (6, [.ref q_o_setup, x_o_now, x_o_trial, x_o_view, x_o_trialView, x_o_past, x_o_nextPast, x_o_undoable])), (q_o_setup, .inr (3, [x_o_setup_show, .int o_setup_filled, x_o_setup_error, x_o_setup_errorAt, .ref q_o_setup_bytes, x_o_setup_end, x_o_setup_at, x_o_setup_number, x_o_setup_planesTold, x_o_setup_reachTold, x_o_setup_lengthTold, x_o_setup_priceTold])), (q_o_setup_bytes, .inl (cy 1, 800, .inl o_setup_bytes)), (q_p1, .inl (cy 0, n_p1, .inl p1))] H → va_D A [(q_o, .inr (6, [.ref q_o_setup, x_o_now, x_o_trial, x_o_view, x_o_trialView, x_o_past, x_o_nextPast, x_o_undoable])), (q_o_setup, .inr (3, [x_o_setup_show, .int o_setup_filled, x_o_setup_error, x_o_setup_errorAt, .ref q_o_setup_bytes, x_o_setup_end, x_o_setup_at, x_o_setup_number, x_o_setup_planesTold, x_o_setup_reachTold, x_o_setup_lengthTold, x_o_setup_priceTold])), (q_o_setup_bytes, .inl (cy 1, 800, .inl o_setup_bytes)), (q_p1, .inl (cy 0, n_p1, .inl p1))] → va_S A s.heap H locs → lv_has ls 4 [(0, .ref q_o), (1, .ref q_p1), (2, .int p2), (3, .int l3)] → L_writeNumber_L18 n_p1 p2 n18 l3 o_setup_filled o_setup_bytes p1 = some res → W p l e ({ frames := 4, cells := 0, slots := 0, locals := 91 } : Room) s m args below meth c H locs 0 0 QQ (F0 m 18 ls []) := by
    intro n18
    induction n18 with
    | zero =>
      intro l3 o_setup_filled o_setup_bytes p1 H locs ls hP hD hS hl hF
      rw [L_writeNumber_L18] at hF
      cases hF
    | succ n18 ih18 =>
      intro l3 o_setup_filled o_setup_bytes p1 H locs ls hP hD hS hl hF
      rw [L_writeNumber_L18] at hF
      refine lv_iload_n hx hb dL_writeNumber_18 rfl (lv_at hl 3 rfl) ?_
      refine lv_if_le (tgt := 44) hx hb dL_writeNumber_19 (by decide) (fun c1 => ?_) (fun c1 => ?_)
      · have hF := if_p hF c1
        obtain rfl := so_o hF
        rw [hQQ]
        exact kr_v hx hb hr hlocks hP hD hS dL_writeNumber_44
      · have hF := if_n hF c1
        refine lv_aload_n hx hb dL_writeNumber_22 rfl (lv_at hl 0 rfl) ?_
        refine lv_aload_n hx hb dL_writeNumber_23 rfl (lv_at hl 1 rfl) ?_
        refine lv_bipush (v := 48) hx hb dL_writeNumber_24 (by decide) ?_
        refine lv_iload_n hx hb dL_writeNumber_26 rfl (lv_at hl 2 rfl) ?_
        refine lv_iload_n hx hb dL_writeNumber_27 rfl (lv_at hl 3 rfl) ?_
        obtain ⟨h2, hF⟩ := ck_o hF
        refine lv_idiv hx hb dL_writeNumber_28 h2 ?_
        refine lv_bipush (v := 10) hx hb dL_writeNumber_29 (by decide) ?_
        refine lv_irem hx hb dL_writeNumber_31 (by decide) ?_
        refine lv_topi (fun v3 ev3 => ?_)
        have hF := nm_o hF v3 ev3
        refine lv_iadd hx hb dL_writeNumber_32 ?_
        obtain ⟨o4, o5, o6, h7, hF⟩ := bn3_o hF
        refine kd_v [(q_o, .inr (6, [.ref q_o_setup, x_o_now, x_o_trial, x_o_view, x_o_trialView, x_o_past, x_o_nextPast, x_o_undoable])), (q_o_setup, .inr (3, [x_o_setup_show, .int o4, x_o_setup_error, x_o_setup_errorAt, .ref q_o_setup_bytes, x_o_setup_end, x_o_setup_at, x_o_setup_number, x_o_setup_planesTold, x_o_setup_reachTold, x_o_setup_lengthTold, x_o_setup_priceTold])), (q_o_setup_bytes, .inl (cy 1, 800, .inl o5)), (q_p1, .inl (cy 0, n_p1, .inl o6))] (va_runS (As := [.ref q_o, .ref q_p1, .int ((48 : Int32) + v3)]) (rest := []) ⟨hx, hb, hml, hown, hts⟩ (c_L_put n_p1 q_o q_o_setup q_o_setup_bytes q_p1 H.size x_o_now x_o_trial x_o_view x_o_trialView x_o_past x_o_nextPast x_o_undoable x_o_setup_show x_o_setup_error x_o_setup_errorAt x_o_setup_end x_o_setup_at x_o_setup_number x_o_setup_planesTold x_o_setup_reachTold x_o_setup_lengthTold x_o_setup_priceTold o_setup_filled o_setup_bytes p1 ((48 : Int32) + v3) _ h7) (va_cwS 3 hts gL_writeNumber_L_put rfl rfl rfl kd_L_put ⟨Nat.le_of_ble_eq_true rfl, Nat.le_of_ble_eq_true rfl⟩) ⟨kP_blind (EN_ok D cy) D _ _ _, kStart (EN_ok D cy) hE hP hD hS hA [0, 1, 2, 3] rfl rfl _⟩ rfl rfl hl.1 rfl (lv_room (Nat.le_of_ble_eq_true rfl)) dL_writeNumber_33 ⟨Nat.zero_le _, Nat.zero_le _⟩) hP hD hS hA [0, 1, 2, 3] [] rfl rfl rfl 4 rfl (by decide +kernel) (fun H locs hP hD hS => ?_)
        refine lv_iload_n hx hb dL_writeNumber_36 rfl (lv_at hl 3 rfl) ?_
        refine lv_bipush (v := 10) hx hb dL_writeNumber_37 (by decide) ?_
        refine lv_idiv hx hb dL_writeNumber_39 (by decide) ?_
        refine lv_topi (fun v8 ev8 => ?_)
        have hF := nm_o hF v8 ev8
        refine lv_istore_n (lv' := [(3, .int v8), (0, .ref q_o), (1, .ref q_p1), (2, .int p2)]) hx hb dL_writeNumber_40 rfl hl (by decide) rfl (fun ls hl => ?_)
        refine lv_goto (tgt := 18) hx hb dL_writeNumber_41 (by decide) ?_
        exact ih18 v8 o4 o5 o6 H locs ls hP hD hS (lv_sub hl [1, 2, 3, 0] rfl) hF
  have J2 : ∀ (n2 : Nat) (l3 : Int32) (H : Heap) (locs : List Loc) (ls : Array Slot), va_P D vwCl [(q_o, .inr (6, [.ref q_o_setup, x_o_now, x_o_trial, x_o_view, x_o_trialView, x_o_past, x_o_nextPast, x_o_undoable])), (q_o_setup, .inr (3, [x_o_setup_show, .int o_setup_filled, x_o_setup_error, x_o_setup_errorAt, .ref q_o_setup_bytes, x_o_setup_end, x_o_setup_at, x_o_setup_number, x_o_setup_planesTold, x_o_setup_reachTold, x_o_setup_lengthTold, x_o_setup_priceTold])), (q_o_setup_bytes, .inl (cy 1, 800, .inl o_setup_bytes)), (q_p1, .inl (cy 0, n_p1, .inl p1))] H → va_D A [(q_o, .inr (6, [.ref q_o_setup, x_o_now, x_o_trial, x_o_view, x_o_trialView, x_o_past, x_o_nextPast, x_o_undoable])), (q_o_setup, .inr (3, [x_o_setup_show, .int o_setup_filled, x_o_setup_error, x_o_setup_errorAt, .ref q_o_setup_bytes, x_o_setup_end, x_o_setup_at, x_o_setup_number, x_o_setup_planesTold, x_o_setup_reachTold, x_o_setup_lengthTold, x_o_setup_priceTold])), (q_o_setup_bytes, .inl (cy 1, 800, .inl o_setup_bytes)), (q_p1, .inl (cy 0, n_p1, .inl p1))] → va_S A s.heap H locs → lv_has ls 4 [(0, .ref q_o), (1, .ref q_p1), (2, .int p2), (3, .int l3)] → L_writeNumber_L2 n_p1 o_setup_filled o_setup_bytes p1 p2 n2 l3 = some res → W p l e ({ frames := 4, cells := 0, slots := 0, locals := 91 } : Room) s m args below meth c H locs 0 0 QQ (F0 m 2 ls []) := by
    intro n2
    induction n2 with
    | zero =>
      intro l3 H locs ls hP hD hS hl hF
      rw [L_writeNumber_L2] at hF
      cases hF
    | succ n2 ih2 =>
      intro l3 H locs ls hP hD hS hl hF
      rw [L_writeNumber_L2] at hF
      refine lv_iload_n hx hb dL_writeNumber_2 rfl (lv_at hl 3 rfl) ?_
      refine lv_iload_n hx hb dL_writeNumber_3 rfl (lv_at hl 2 rfl) ?_
      refine lv_bipush (v := 10) hx hb dL_writeNumber_4 (by decide) ?_
      refine lv_idiv hx hb dL_writeNumber_6 (by decide) ?_
      refine lv_icmp_gt (tgt := 18) hx hb dL_writeNumber_7 (by decide) (fun c9 => ?_) (fun c9 => ?_)
      · have hF := if_p hF c9
        exact J18 FU l3 o_setup_filled o_setup_bytes p1 H locs ls hP hD hS (lv_sub hl [0, 1, 2, 3] rfl) hF
      · have hF := if_n hF c9
        refine lv_iload_n hx hb dL_writeNumber_10 rfl (lv_at hl 3 rfl) ?_
        refine lv_bipush (v := 10) hx hb dL_writeNumber_11 (by decide) ?_
        refine lv_imul hx hb dL_writeNumber_13 ?_
        refine lv_topi (fun v10 ev10 => ?_)
        have hF := nm_o hF v10 ev10
        refine lv_istore_n (lv' := [(3, .int v10), (0, .ref q_o), (1, .ref q_p1), (2, .int p2)]) hx hb dL_writeNumber_14 rfl hl (by decide) rfl (fun ls hl => ?_)
        refine lv_goto (tgt := 2) hx hb dL_writeNumber_15 (by decide) ?_
        exact ih2 v10 H locs ls hP hD hS (lv_sub hl [1, 2, 3, 0] rfl) hF
  have main : ∀ (H : Heap) (locs : List Loc) (ls : Array Slot), va_P D vwCl [(q_o, .inr (6, [.ref q_o_setup, x_o_now, x_o_trial, x_o_view, x_o_trialView, x_o_past, x_o_nextPast, x_o_undoable])), (q_o_setup, .inr (3, [x_o_setup_show, .int o_setup_filled, x_o_setup_error, x_o_setup_errorAt, .ref q_o_setup_bytes, x_o_setup_end, x_o_setup_at, x_o_setup_number, x_o_setup_planesTold, x_o_setup_reachTold, x_o_setup_lengthTold, x_o_setup_priceTold])), (q_o_setup_bytes, .inl (cy 1, 800, .inl o_setup_bytes)), (q_p1, .inl (cy 0, n_p1, .inl p1))] H → va_D A [(q_o, .inr (6, [.ref q_o_setup, x_o_now, x_o_trial, x_o_view, x_o_trialView, x_o_past, x_o_nextPast, x_o_undoable])), (q_o_setup, .inr (3, [x_o_setup_show, .int o_setup_filled, x_o_setup_error, x_o_setup_errorAt, .ref q_o_setup_bytes, x_o_setup_end, x_o_setup_at, x_o_setup_number, x_o_setup_planesTold, x_o_setup_reachTold, x_o_setup_lengthTold, x_o_setup_priceTold])), (q_o_setup_bytes, .inl (cy 1, 800, .inl o_setup_bytes)), (q_p1, .inl (cy 0, n_p1, .inl p1))] → va_S A s.heap H locs → lv_has ls 4 [(0, .ref q_o), (1, .ref q_p1), (2, .int p2)] → W p l e ({ frames := 4, cells := 0, slots := 0, locals := 91 } : Room) s m args below meth c H locs 0 0 QQ (F0 m 0 ls []) := by
    intro H locs ls hP hD hS hl
    unfold L_writeNumber at hF
    refine lv_iconst (v := 1) hx hb dL_writeNumber_0 (by decide) ?_
    refine lv_istore_n (lv' := [(3, .int (1 : Int32)), (0, .ref q_o), (1, .ref q_p1), (2, .int p2)]) hx hb dL_writeNumber_1 rfl hl (by decide) rfl (fun ls hl => ?_)
    exact J2 FU (1 : Int32) H locs ls hP hD hS (lv_sub hl [1, 2, 3, 0] rfl) hF
  exact main s.heap [] ls hP hD hS hl
