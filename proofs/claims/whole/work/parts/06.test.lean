def J7_fill_53178_L5 (n_o : Nat) (p1 : Int32)  : Nat → Int32 → Int32 → (Nat → Int32) → Option ((Nat → Int32))
  | 0, _, _, _ => none
  | n + 1, l2, l3, o =>
    if l3 ≤ l2 then
      some o
    else
      st n_o l2 (upd o l2.toNatClampNeg p1) fun (b3 : Nat → Int32) =>
      nm (l2 + (1 : Int32)) fun (v4 : Int32) =>
      J7_fill_53178_L5 n_o p1 n v4 l3 b3
def J7_fill_53178 (n_o : Nat) (o : Nat → Int32) (p1 : Int32) : Option ((Nat → Int32)) :=
  nm (nI n_o) fun (v5 : Int32) =>
  J7_fill_53178_L5 n_o p1 FU (0 : Int32) v5 o
def X6_quotient (p0 : Int64) (p2 : Int64) : Option (Int64) :=
  if (lg_cmp p2 (0 : Int64)) = 0 then
    some (0 : Int64)
  else
    ck (¬ p2 = 0) <|
    some (p0 / p2)
def X1_set (o_facts : Nat → Int32) (p1 : Int32) (p2 : Int32) (p3 : Int32) : Option ((Nat → Int32)) :=
  st 140 ((p1 * (7 : Int32)) + p2) (upd o_facts ((p1 * (7 : Int32)) + p2).toNatClampNeg p3) fun (b2 : Nat → Int32) =>
  some b2
def X1_fact (o_facts : Nat → Int32) (p1 : Int32) (p2 : Int32) : Option (Int32) :=
  ld o_facts 140 ((p1 * (7 : Int32)) + p2) fun (v2 : Int32) =>
  some v2
def X1_count_J25 (o_viewers : Int32) (o_facts : Nat → Int32) (p1 : Int32) (kL4 : Int32 → Int32 → Option (Int32)) (l2 : Int32) (l3 : Int32) : Option (Int32) :=
  nm (l3 + (1 : Int32)) fun (v1 : Int32) =>
  kL4 l2 v1
def X1_count_L4 (o_viewers : Int32) (o_facts : Nat → Int32) (p1 : Int32)  : Nat → Int32 → Int32 → Option (Int32)
  | 0, _, _ => none
  | n + 1, l2, l3 =>
    if o_viewers ≤ l3 then
      some l2
    else
      bn1 (X1_fact o_facts l3 (3 : Int32)) fun (r3 : Int32) =>
      if r3 = p1 then
        nm (l2 + (1 : Int32)) fun (v6 : Int32) =>
        X1_count_J25 o_viewers o_facts p1 (fun z0 z1 => X1_count_L4 o_viewers o_facts p1 n z0 z1) v6 l3
      else
        X1_count_J25 o_viewers o_facts p1 (fun z0 z1 => X1_count_L4 o_viewers o_facts p1 n z0 z1) l2 l3
def X1_count (o_viewers : Int32) (o_facts : Nat → Int32) (p1 : Int32) : Option (Int32) :=
  X1_count_L4 o_viewers o_facts p1 FU (0 : Int32) (0 : Int32)
def X1_isBusy (o_viewers : Int32) (o_facts : Nat → Int32) : Option (Int32) :=
  bn1 (X1_count o_viewers o_facts (0 : Int32)) fun (r1 : Int32) =>
  bn1 (X1_count o_viewers o_facts (1 : Int32)) fun (r3 : Int32) =>
  if (r1 + r3) ≤ 0 then
    some (0 : Int32)
  else
    some (1 : Int32)
def X6_limited (p0 : Int64) (p2 : Int32) (p3 : Int32) : Option (Int32) :=
  nm (if p0 < p3.toInt64 then p0 else p3.toInt64) fun (v1 : Int64) =>
  nm (if p2.toInt64 < v1 then v1 else p2.toInt64) fun (v2 : Int64) =>
  some v2.toInt32
def X2_combine (p0 : Int32) (p1 : Int64) (p3 : Int64) : Option (Int32) :=
  if p0 = (42 : Int32) then
    bn1 (X6_limited (p1 * p3) (-1000000 : Int32) (1000000 : Int32)) fun (r2 : Int32) =>
    some r2
  else
  if p0 = (43 : Int32) then
    bn1 (X6_limited (p1 + p3) (-1000000 : Int32) (1000000 : Int32)) fun (r5 : Int32) =>
    some r5
  else
  if p0 = (44 : Int32) then
    bn1 (X6_quotient p1 p3) fun (r8 : Int64) =>
    bn1 (X6_limited r8 (-1000000 : Int32) (1000000 : Int32)) fun (r10 : Int32) =>
    some r10
  else
  if p0 = (45 : Int32) then
    bn1 (X6_limited (p1 - p3) (-1000000 : Int32) (1000000 : Int32)) fun (r13 : Int32) =>
    some r13
  else
  bn1 (X6_quotient p1 p3) fun (r15 : Int64) =>
  bn1 (X6_limited r15 (-1000000 : Int32) (1000000 : Int32)) fun (r17 : Int32) =>
  some r17
def X6_requireHole_J18 (o_now_box_holes : Int32) (p1 : Int32)   : Option (Sum Nat (Unit)) :=
  some (.inl 1)
def X6_requireHole (o_now_box_holes : Int32) (p1 : Int32) : Option (Sum Nat (Unit)) :=
  if p1 < 0 then
    X6_requireHole_J18 o_now_box_holes p1
  else
    if p1 < o_now_box_holes then
      some (.inr ())
    else
      X6_requireHole_J18 o_now_box_holes p1
def X6_requireRange_J10 (p0 : Int32) (p1 : Int32) (p2 : Int32)   : Option (Sum Nat (Unit)) :=
  some (.inl 2)
def X6_requireRange (p0 : Int32) (p1 : Int32) (p2 : Int32) : Option (Sum Nat (Unit)) :=
  if p0 < p1 then
    X6_requireRange_J10 p0 p1 p2
  else
    if p0 ≤ p2 then
      some (.inr ())
    else
      X6_requireRange_J10 p0 p1 p2
def X6_shown (o_now_box_holes : Int32) (o_view_counts : Nat → Int32) (p1 : Int32) (p2 : Int32) : Option (Sum Nat (Int32)) :=
  bx0 (X6_requireHole o_now_box_holes p1) fun _ =>
  bx0 (X6_requireRange p2 (0 : Int32) (25 : Int32)) fun _ =>
  ld o_view_counts 104 ((p1 * (26 : Int32)) + p2) fun (v4 : Int32) =>
  some (.inr v4)
theorem kd_J7_fill_53178 : yJ7_fill_53178.cls ≠ "java/lang/invoke/MethodHandle" ∧ yJ7_fill_53178.cls ≠ "java/lang/invoke/VarHandle" ∧ (parseMethodDescriptor yJ7_fill_53178.desc).map (fun d => d.parameters.length) = some 2 := by decide +kernel
set_option maxHeartbeats 4000000 in
set_option maxRecDepth 100000 in
theorem c_J7_fill_53178 {l : Launch} {D : va_G} {cy : Nat → ClassId} (n_o : Nat) (q_o : Nat) (sz : Nat) (o : Nat → Int32) (p1 : Int32) (res : (Nat → Int32)) (hF : J7_fill_53178 n_o o p1 = some res) : Met l yJ7_fill_53178 wsJ7_fill_53178 ({ frames := 0, cells := 0, slots := 0, locals := 0 } : Room) (kP (EN D cy) D [.ref q_o, .int p1] [(q_o, .inl (cy 0, n_o, .inl o))] sz) (kQv D [(q_o, .inl (cy 0, n_o, .inl res))] (va_A [(q_o, .inl (cy 0, n_o, .inl o))] sz)) 0 0 (va_A [(q_o, .inl (cy 0, n_o, .inl o))] sz) := by
  refine kMet (cc := cJ7_fill_53178) (maxL := 4) (ret := none) (own := RJ7) (Qc := fun A9 => (kQv D [(q_o, .inl (cy 0, n_o, .inl res))] A9)) (by decide) rfl rfl (Nat.le_of_ble_eq_true rfl) ?_
  intro p e s m args below meth c A hx hb hr hts hown hml hlocks hname hE hP hD hA hsz ls hl
  have hK := hE.1
  have hl : lv_has ls 4 [(0, .ref q_o), (1, .int p1)] := hl
  have hS : va_S A s.heap s.heap [] := va_S.rf
  obtain ⟨QQ, hQQ⟩ : ∃ Q9, Q9 = MQ below (kQv D [(q_o, .inl (cy 0, n_o, .inl res))] A) args s 0 0 A := ⟨_, rfl⟩
  rw [← hQQ]
  have J5 : ∀ (n5 : Nat) (l2 : Int32) (l3 : Int32) (o : Nat → Int32) (H : Heap) (locs : List Loc) (ls : Array Slot), va_P D vwCl [(q_o, .inl (cy 0, n_o, .inl o))] H → va_D A [(q_o, .inl (cy 0, n_o, .inl o))] → va_S A s.heap H locs → lv_has ls 4 [(0, .ref q_o), (1, .int p1), (2, .int l2), (3, .int l3)] → J7_fill_53178_L5 n_o p1 n5 l2 l3 o = some res → W p l e ({ frames := 0, cells := 0, slots := 0, locals := 0 } : Room) s m args below meth c H locs 0 0 QQ (F0 m 5 ls []) := by
    intro n5
    induction n5 with
    | zero =>
      intro l2 l3 o H locs ls hP hD hS hl hF
      rw [J7_fill_53178_L5] at hF
      cases hF
    | succ n5 ih5 =>
      intro l2 l3 o H locs ls hP hD hS hl hF
      rw [J7_fill_53178_L5] at hF
      refine lv_iload_n hx hb dJ7_fill_53178_5 rfl (lv_at hl 2 rfl) ?_
      refine lv_iload_n hx hb dJ7_fill_53178_6 rfl (lv_at hl 3 rfl) ?_
      refine lv_icmp_ge (tgt := 20) hx hb dJ7_fill_53178_7 (by decide) (fun c1 => ?_) (fun c1 => ?_)
      · have hF := if_p hF c1
        obtain rfl := so_o hF
        rw [hQQ]
        exact kr_v hx hb hr hlocks hP hD hS dJ7_fill_53178_20
      · have hF := if_n hF c1
        refine lv_aload_n hx hb dJ7_fill_53178_10 rfl (lv_at hl 0 rfl) ?_
        refine lv_iload_n hx hb dJ7_fill_53178_11 rfl (lv_at hl 2 rfl) ?_
        refine lv_iload_n hx hb dJ7_fill_53178_12 rfl (lv_at hl 1 rfl) ?_
        obtain ⟨h2, hF⟩ := st_o hF
        refine va_iast hx hb hK hP hD hS 0 0 rfl rfl h2 dJ7_fill_53178_13 (fun H locs hP hD hS => ?_)
        obtain ⟨b3, eb3⟩ : ∃ y : Nat → Int32, y = (upd o l2.toNatClampNeg p1) := ⟨_, rfl⟩
        have hF := hF b3 eb3
        have hP : va_P D vwCl [(q_o, .inl (cy 0, n_o, .inl b3))] H := by rw [eb3]; exact hP
        have hD : va_D A [(q_o, .inl (cy 0, n_o, .inl b3))] := by rw [eb3]; exact hD
        obtain ⟨v4, ev4⟩ : ∃ y : Int32, y = l2 + (1 : Int32) := ⟨_, rfl⟩
        have hF := nm_o hF v4 ev4
        refine lv_iinc (v := v4) (lv' := [(2, .int v4), (0, .ref q_o), (1, .int p1), (3, .int l3)]) hx hb dJ7_fill_53178_14 hl (k := 2) rfl (by rw [ev4]; rfl) (by decide) rfl (fun ls hl => ?_)
        refine lv_goto (tgt := 5) hx hb dJ7_fill_53178_17 (by decide) ?_
        exact ih5 v4 l3 b3 H locs ls hP hD hS (lv_sub hl [1, 2, 0, 3] rfl) hF
  have main : ∀ (H : Heap) (locs : List Loc) (ls : Array Slot), va_P D vwCl [(q_o, .inl (cy 0, n_o, .inl o))] H → va_D A [(q_o, .inl (cy 0, n_o, .inl o))] → va_S A s.heap H locs → lv_has ls 4 [(0, .ref q_o), (1, .int p1)] → W p l e ({ frames := 0, cells := 0, slots := 0, locals := 0 } : Room) s m args below meth c H locs 0 0 QQ (F0 m 0 ls []) := by
    intro H locs ls hP hD hS hl
    unfold J7_fill_53178 at hF
    refine lv_iconst (v := 0) hx hb dJ7_fill_53178_0 (by decide) ?_
    refine lv_istore_n (lv' := [(2, .int (0 : Int32)), (0, .ref q_o), (1, .int p1)]) hx hb dJ7_fill_53178_1 rfl hl (by decide) rfl (fun ls hl => ?_)
    refine lv_aload_n hx hb dJ7_fill_53178_2 rfl (lv_at hl 1 rfl) ?_
    refine va_alen hx hb hK hP 0 0 rfl rfl (v := nI n_o) rfl dJ7_fill_53178_3 ?_
    refine lv_topi (fun v5 ev5 => ?_)
    have hF := nm_o hF v5 ev5
    refine lv_istore_n (lv' := [(3, .int v5), (2, .int (0 : Int32)), (0, .ref q_o), (1, .int p1)]) hx hb dJ7_fill_53178_4 rfl hl (by decide) rfl (fun ls hl => ?_)
    exact J5 FU (0 : Int32) v5 o H locs ls hP hD hS (lv_sub hl [2, 3, 1, 0] rfl) hF
  exact main s.heap [] ls hP hD hS hl
theorem kd_X6_quotient : yX6_quotient.cls ≠ "java/lang/invoke/MethodHandle" ∧ yX6_quotient.cls ≠ "java/lang/invoke/VarHandle" ∧ (parseMethodDescriptor yX6_quotient.desc).map (fun d => d.parameters.length) = some 2 := by decide +kernel
set_option maxHeartbeats 4000000 in
set_option maxRecDepth 100000 in
theorem c_X6_quotient {l : Launch} {D : va_G} {cy : Nat → ClassId} (sz : Nat) (p0 : Int64) (p2 : Int64) (res : Int64) (hF : X6_quotient p0 p2 = some res) : Met l yX6_quotient wsX6_quotient ({ frames := 0, cells := 0, slots := 0, locals := 0 } : Room) (kP (EN D cy) D [.long p0, .long p2] [] sz) (kQl D res [] (va_A [] sz)) 0 0 (va_A [] sz) := by
  refine kMet (cc := cX6_quotient) (maxL := 4) (ret := some .long) (own := RX6) (Qc := fun A9 => (kQl D res [] A9)) (by decide) rfl rfl (Nat.le_of_ble_eq_true rfl) ?_
  intro p e s m args below meth c A hx hb hr hts hown hml hlocks hname hE hP hD hA hsz ls hl
  have hK := hE.1
  have hl : lv_has ls 4 [(0, .long p0), (2, .long p2)] := hl
  have hS : va_S A s.heap s.heap [] := va_S.rf
  obtain ⟨QQ, hQQ⟩ : ∃ Q9, Q9 = MQ below (kQl D res [] A) args s 0 0 A := ⟨_, rfl⟩
  rw [← hQQ]
  have main : ∀ (H : Heap) (locs : List Loc) (ls : Array Slot), va_P D vwCl [] H → va_D A [] → va_S A s.heap H locs → lv_has ls 4 [(0, .long p0), (2, .long p2)] → W p l e ({ frames := 0, cells := 0, slots := 0, locals := 0 } : Room) s m args below meth c H locs 0 0 QQ (F0 m 0 ls []) := by
    intro H locs ls hP hD hS hl
    unfold X6_quotient at hF
    refine lv_lload_n hx hb dX6_quotient_0 rfl (lv_at hl 1 rfl) ?_
    refine lv_lconst (v := 0) hx hb dX6_quotient_1 (by decide) ?_
    refine W.lcmp hx hb dX6_quotient_2 ?_
    refine lv_if_ne (tgt := 10) hx hb dX6_quotient_3 (by decide) (fun c1 => ?_) (fun c1 => ?_)
    · have hF := if_n hF c1
      refine lv_lload_n hx hb dX6_quotient_10 rfl (lv_at hl 0 rfl) ?_
      refine lv_lload_n hx hb dX6_quotient_11 rfl (lv_at hl 1 rfl) ?_
      obtain ⟨h2, hF⟩ := ck_o hF
      refine lv_ldiv hx hb dX6_quotient_12 h2 ?_
      obtain rfl := so_o hF
      rw [hQQ]
      exact kr_l hx hb hr hlocks hP hD hS dX6_quotient_13
    · have hF := if_p hF c1
      refine lv_lconst (v := 0) hx hb dX6_quotient_6 (by decide) ?_
      refine lv_goto (tgt := 13) hx hb dX6_quotient_7 (by decide) ?_
      obtain rfl := so_o hF
      rw [hQQ]
      exact kr_l hx hb hr hlocks hP hD hS dX6_quotient_13
  exact main s.heap [] ls hP hD hS hl
theorem kd_X1_set : yX1_set.cls = RX1 ∧ yX1_set.cls ≠ "java/lang/invoke/MethodHandle" ∧ yX1_set.cls ≠ "java/lang/invoke/VarHandle" ∧ (parseMethodDescriptor yX1_set.desc).map (fun d => d.parameters.length) = some 3 := by decide +kernel
set_option maxHeartbeats 4000000 in
set_option maxRecDepth 100000 in
theorem c_X1_set {l : Launch} {D : va_G} {cy : Nat → ClassId} (q_o q_o_facts : Nat) (sz : Nat) (x_o_viewers x_o_lookLength x_o_time x_o_lookers : Value) (o_facts : Nat → Int32) (p1 : Int32) (p2 : Int32) (p3 : Int32) (res : (Nat → Int32)) (hF : X1_set o_facts p1 p2 p3 = some res) : Met l yX1_set wsX1_set ({ frames := 0, cells := 0, slots := 0, locals := 0 } : Room) (kP (EN D cy) D [.ref q_o, .int p1, .int p2, .int p3] [(q_o, .inr (1, [x_o_viewers, x_o_lookLength, x_o_time, x_o_lookers, .ref q_o_facts])), (q_o_facts, .inl (cy 0, 140, .inl o_facts))] sz) (kQv D [(q_o, .inr (1, [x_o_viewers, x_o_lookLength, x_o_time, x_o_lookers, .ref q_o_facts])), (q_o_facts, .inl (cy 0, 140, .inl res))] (va_A [(q_o, .inr (1, [x_o_viewers, x_o_lookLength, x_o_time, x_o_lookers, .ref q_o_facts])), (q_o_facts, .inl (cy 0, 140, .inl o_facts))] sz)) 0 0 (va_A [(q_o, .inr (1, [x_o_viewers, x_o_lookLength, x_o_time, x_o_lookers, .ref q_o_facts])), (q_o_facts, .inl (cy 0, 140, .inl o_facts))] sz) := by
  refine kMet (cc := cX1_set) (maxL := 4) (ret := none) (own := RX1) (Qc := fun A9 => (kQv D [(q_o, .inr (1, [x_o_viewers, x_o_lookLength, x_o_time, x_o_lookers, .ref q_o_facts])), (q_o_facts, .inl (cy 0, 140, .inl res))] A9)) (by decide) rfl rfl (Nat.le_of_ble_eq_true rfl) ?_
  intro p e s m args below meth c A hx hb hr hts hown hml hlocks hname hE hP hD hA hsz ls hl
  have hK := hE.1
  have hl : lv_has ls 4 [(0, .ref q_o), (1, .int p1), (2, .int p2), (3, .int p3)] := hl
  have hS : va_S A s.heap s.heap [] := va_S.rf
  have f_f25 := hts (.fieldLink RX1 25 "PeepBox$Crowd" "facts" "[I") (by decide +kernel)
  have f_inX1 : ∀ w ∈ wsX10, w ∈ wsX1_set := by decide +kernel
  obtain ⟨QQ, hQQ⟩ : ∃ Q9, Q9 = MQ below (kQv D [(q_o, .inr (1, [x_o_viewers, x_o_lookLength, x_o_time, x_o_lookers, .ref q_o_facts])), (q_o_facts, .inl (cy 0, 140, .inl res))] A) args s 0 0 A := ⟨_, rfl⟩
  rw [← hQQ]
  have main : ∀ (H : Heap) (locs : List Loc) (ls : Array Slot), va_P D vwCl [(q_o, .inr (1, [x_o_viewers, x_o_lookLength, x_o_time, x_o_lookers, .ref q_o_facts])), (q_o_facts, .inl (cy 0, 140, .inl o_facts))] H → va_D A [(q_o, .inr (1, [x_o_viewers, x_o_lookLength, x_o_time, x_o_lookers, .ref q_o_facts])), (q_o_facts, .inl (cy 0, 140, .inl o_facts))] → va_S A s.heap H locs → lv_has ls 4 [(0, .ref q_o), (1, .int p1), (2, .int p2), (3, .int p3)] → W p l e ({ frames := 0, cells := 0, slots := 0, locals := 0 } : Room) s m args below meth c H locs 0 0 QQ (F0 m 0 ls []) := by
    intro H locs ls hP hD hS hl
    unfold X1_set at hF
    refine lv_aload_n hx hb dX1_set_0 rfl (lv_at hl 0 rfl) ?_
    refine va_get (D := D) (ci := 1) (v := .ref q_o_facts) (C := RX1) (T := TX1) (N := 5) hx hb hts f_inX1 hown hK hP 0 rfl rfl 4 (by decide) f_f25 (fun _ h9 => h9) rfl dX1_set_1 ?_
    refine lv_iload_n hx hb dX1_set_4 rfl (lv_at hl 1 rfl) ?_
    refine lv_bipush (v := 7) hx hb dX1_set_5 (by decide) ?_
    refine lv_imul hx hb dX1_set_7 ?_
    refine lv_iload_n hx hb dX1_set_8 rfl (lv_at hl 2 rfl) ?_
    refine lv_iadd hx hb dX1_set_9 ?_
    refine lv_iload_n hx hb dX1_set_10 rfl (lv_at hl 3 rfl) ?_
    obtain ⟨h1, hF⟩ := st_o hF
    refine va_iast hx hb hK hP hD hS 1 0 rfl rfl h1 dX1_set_11 (fun H locs hP hD hS => ?_)
    obtain ⟨b2, eb2⟩ : ∃ y : Nat → Int32, y = (upd o_facts ((p1 * (7 : Int32)) + p2).toNatClampNeg p3) := ⟨_, rfl⟩
    have hF := hF b2 eb2
    have hP : va_P D vwCl [(q_o, .inr (1, [x_o_viewers, x_o_lookLength, x_o_time, x_o_lookers, .ref q_o_facts])), (q_o_facts, .inl (cy 0, 140, .inl b2))] H := by rw [eb2]; exact hP
    have hD : va_D A [(q_o, .inr (1, [x_o_viewers, x_o_lookLength, x_o_time, x_o_lookers, .ref q_o_facts])), (q_o_facts, .inl (cy 0, 140, .inl b2))] := by rw [eb2]; exact hD
    obtain rfl := so_o hF
    rw [hQQ]
    exact kr_v hx hb hr hlocks hP hD hS dX1_set_12
  exact main s.heap [] ls hP hD hS hl
theorem kd_X1_fact : yX1_fact.cls = RX1 ∧ yX1_fact.cls ≠ "java/lang/invoke/MethodHandle" ∧ yX1_fact.cls ≠ "java/lang/invoke/VarHandle" ∧ (parseMethodDescriptor yX1_fact.desc).map (fun d => d.parameters.length) = some 2 := by decide +kernel
set_option maxHeartbeats 4000000 in
set_option maxRecDepth 100000 in
theorem c_X1_fact {l : Launch} {D : va_G} {cy : Nat → ClassId} (q_o q_o_facts : Nat) (sz : Nat) (x_o_viewers x_o_lookLength x_o_time x_o_lookers : Value) (o_facts : Nat → Int32) (p1 : Int32) (p2 : Int32) (res : Int32) (hF : X1_fact o_facts p1 p2 = some res) : Met l yX1_fact wsX1_fact ({ frames := 0, cells := 0, slots := 0, locals := 0 } : Room) (kP (EN D cy) D [.ref q_o, .int p1, .int p2] [(q_o, .inr (1, [x_o_viewers, x_o_lookLength, x_o_time, x_o_lookers, .ref q_o_facts])), (q_o_facts, .inl (cy 0, 140, .inl o_facts))] sz) (kQi D res [(q_o, .inr (1, [x_o_viewers, x_o_lookLength, x_o_time, x_o_lookers, .ref q_o_facts])), (q_o_facts, .inl (cy 0, 140, .inl o_facts))] (va_A [(q_o, .inr (1, [x_o_viewers, x_o_lookLength, x_o_time, x_o_lookers, .ref q_o_facts])), (q_o_facts, .inl (cy 0, 140, .inl o_facts))] sz)) 0 0 (va_A [(q_o, .inr (1, [x_o_viewers, x_o_lookLength, x_o_time, x_o_lookers, .ref q_o_facts])), (q_o_facts, .inl (cy 0, 140, .inl o_facts))] sz) := by
  refine kMet (cc := cX1_fact) (maxL := 3) (ret := some .int) (own := RX1) (Qc := fun A9 => (kQi D res [(q_o, .inr (1, [x_o_viewers, x_o_lookLength, x_o_time, x_o_lookers, .ref q_o_facts])), (q_o_facts, .inl (cy 0, 140, .inl o_facts))] A9)) (by decide) rfl rfl (Nat.le_of_ble_eq_true rfl) ?_
  intro p e s m args below meth c A hx hb hr hts hown hml hlocks hname hE hP hD hA hsz ls hl
  have hK := hE.1
  have hl : lv_has ls 3 [(0, .ref q_o), (1, .int p1), (2, .int p2)] := hl
  have hS : va_S A s.heap s.heap [] := va_S.rf
  have f_f25 := hts (.fieldLink RX1 25 "PeepBox$Crowd" "facts" "[I") (by decide +kernel)
  have f_inX1 : ∀ w ∈ wsX10, w ∈ wsX1_fact := by decide +kernel
  obtain ⟨QQ, hQQ⟩ : ∃ Q9, Q9 = MQ below (kQi D res [(q_o, .inr (1, [x_o_viewers, x_o_lookLength, x_o_time, x_o_lookers, .ref q_o_facts])), (q_o_facts, .inl (cy 0, 140, .inl o_facts))] A) args s 0 0 A := ⟨_, rfl⟩
  rw [← hQQ]
  have main : ∀ (H : Heap) (locs : List Loc) (ls : Array Slot), va_P D vwCl [(q_o, .inr (1, [x_o_viewers, x_o_lookLength, x_o_time, x_o_lookers, .ref q_o_facts])), (q_o_facts, .inl (cy 0, 140, .inl o_facts))] H → va_D A [(q_o, .inr (1, [x_o_viewers, x_o_lookLength, x_o_time, x_o_lookers, .ref q_o_facts])), (q_o_facts, .inl (cy 0, 140, .inl o_facts))] → va_S A s.heap H locs → lv_has ls 3 [(0, .ref q_o), (1, .int p1), (2, .int p2)] → W p l e ({ frames := 0, cells := 0, slots := 0, locals := 0 } : Room) s m args below meth c H locs 0 0 QQ (F0 m 0 ls []) := by
    intro H locs ls hP hD hS hl
    unfold X1_fact at hF
    refine lv_aload_n hx hb dX1_fact_0 rfl (lv_at hl 0 rfl) ?_
    refine va_get (D := D) (ci := 1) (v := .ref q_o_facts) (C := RX1) (T := TX1) (N := 5) hx hb hts f_inX1 hown hK hP 0 rfl rfl 4 (by decide) f_f25 (fun _ h9 => h9) rfl dX1_fact_1 ?_
    refine lv_iload_n hx hb dX1_fact_4 rfl (lv_at hl 1 rfl) ?_
    refine lv_bipush (v := 7) hx hb dX1_fact_5 (by decide) ?_
    refine lv_imul hx hb dX1_fact_7 ?_
    refine lv_iload_n hx hb dX1_fact_8 rfl (lv_at hl 2 rfl) ?_
    refine lv_iadd hx hb dX1_fact_9 ?_
    obtain ⟨h1, hF⟩ := ld_o hF
    refine va_iald hx hb hK hP 1 0 rfl rfl h1 dX1_fact_10 ?_
    refine lv_topi (fun v2 ev2 => ?_)
    have hF := hF v2 ev2
    obtain rfl := so_o hF
    rw [hQQ]
    exact kr_i hx hb hr hlocks hP hD hS dX1_fact_11
  exact main s.heap [] ls hP hD hS hl
theorem kd_X1_count : yX1_count.cls = RX1 ∧ yX1_count.cls ≠ "java/lang/invoke/MethodHandle" ∧ yX1_count.cls ≠ "java/lang/invoke/VarHandle" ∧ (parseMethodDescriptor yX1_count.desc).map (fun d => d.parameters.length) = some 1 := by decide +kernel
set_option maxHeartbeats 4000000 in
set_option maxRecDepth 100000 in
theorem c_X1_count {l : Launch} {D : va_G} {cy : Nat → ClassId} (q_o q_o_facts : Nat) (sz : Nat) (x_o_lookLength x_o_time x_o_lookers : Value) (o_viewers : Int32) (o_facts : Nat → Int32) (p1 : Int32) (res : Int32) (hF : X1_count o_viewers o_facts p1 = some res) : Met l yX1_count wsX1_count ({ frames := 1, cells := 0, slots := 0, locals := 22 } : Room) (kP (EN D cy) D [.ref q_o, .int p1] [(q_o, .inr (1, [.int o_viewers, x_o_lookLength, x_o_time, x_o_lookers, .ref q_o_facts])), (q_o_facts, .inl (cy 0, 140, .inl o_facts))] sz) (kQi D res [(q_o, .inr (1, [.int o_viewers, x_o_lookLength, x_o_time, x_o_lookers, .ref q_o_facts])), (q_o_facts, .inl (cy 0, 140, .inl o_facts))] (va_A [(q_o, .inr (1, [.int o_viewers, x_o_lookLength, x_o_time, x_o_lookers, .ref q_o_facts])), (q_o_facts, .inl (cy 0, 140, .inl o_facts))] sz)) 0 0 (va_A [(q_o, .inr (1, [.int o_viewers, x_o_lookLength, x_o_time, x_o_lookers, .ref q_o_facts])), (q_o_facts, .inl (cy 0, 140, .inl o_facts))] sz) := by
  refine kMet (cc := cX1_count) (maxL := 4) (ret := some .int) (own := RX1) (Qc := fun A9 => (kQi D res [(q_o, .inr (1, [.int o_viewers, x_o_lookLength, x_o_time, x_o_lookers, .ref q_o_facts])), (q_o_facts, .inl (cy 0, 140, .inl o_facts))] A9)) (by decide) rfl rfl (Nat.le_of_ble_eq_true rfl) ?_
  intro p e s m args below meth c A hx hb hr hts hown hml hlocks hname hE hP hD hA hsz ls hl
  have hK := hE.1
  have hl : lv_has ls 4 [(0, .ref q_o), (1, .int p1)] := hl
  have hS : va_S A s.heap s.heap [] := va_S.rf
  have f_f9 := hts (.fieldLink RX1 9 "PeepBox$Crowd" "viewers" "I") (by decide +kernel)
  have f_inX1 : ∀ w ∈ wsX10, w ∈ wsX1_count := by decide +kernel
  obtain ⟨QQ, hQQ⟩ : ∃ Q9, Q9 = MQ below (kQi D res [(q_o, .inr (1, [.int o_viewers, x_o_lookLength, x_o_time, x_o_lookers, .ref q_o_facts])), (q_o_facts, .inl (cy 0, 140, .inl o_facts))] A) args s 0 0 A := ⟨_, rfl⟩
  rw [← hQQ]
  have J4 : ∀ (n4 : Nat) (l2 : Int32) (l3 : Int32) (H : Heap) (locs : List Loc) (ls : Array Slot), va_P D vwCl [(q_o, .inr (1, [.int o_viewers, x_o_lookLength, x_o_time, x_o_lookers, .ref q_o_facts])), (q_o_facts, .inl (cy 0, 140, .inl o_facts))] H → va_D A [(q_o, .inr (1, [.int o_viewers, x_o_lookLength, x_o_time, x_o_lookers, .ref q_o_facts])), (q_o_facts, .inl (cy 0, 140, .inl o_facts))] → va_S A s.heap H locs → lv_has ls 4 [(0, .ref q_o), (1, .int p1), (2, .int l2), (3, .int l3)] → X1_count_L4 o_viewers o_facts p1 n4 l2 l3 = some res → W p l e ({ frames := 1, cells := 0, slots := 0, locals := 22 } : Room) s m args below meth c H locs 0 0 QQ (F0 m 4 ls []) := by
    intro n4
    induction n4 with
    | zero =>
      intro l2 l3 H locs ls hP hD hS hl hF
      rw [X1_count_L4] at hF
      cases hF
    | succ n4 ih4 =>
      have J25 : ∀ (l2 : Int32) (l3 : Int32) (H : Heap) (locs : List Loc) (ls : Array Slot), va_P D vwCl [(q_o, .inr (1, [.int o_viewers, x_o_lookLength, x_o_time, x_o_lookers, .ref q_o_facts])), (q_o_facts, .inl (cy 0, 140, .inl o_facts))] H → va_D A [(q_o, .inr (1, [.int o_viewers, x_o_lookLength, x_o_time, x_o_lookers, .ref q_o_facts])), (q_o_facts, .inl (cy 0, 140, .inl o_facts))] → va_S A s.heap H locs → lv_has ls 4 [(0, .ref q_o), (1, .int p1), (2, .int l2), (3, .int l3)] → X1_count_J25 o_viewers o_facts p1 (fun z0 z1 => X1_count_L4 o_viewers o_facts p1 n4 z0 z1) l2 l3 = some res → W p l e ({ frames := 1, cells := 0, slots := 0, locals := 22 } : Room) s m args below meth c H locs 0 0 QQ (F0 m 25 ls []) := by
        intro l2 l3 H locs ls hP hD hS hl hF
        unfold X1_count_J25 at hF
        obtain ⟨v1, ev1⟩ : ∃ y : Int32, y = l3 + (1 : Int32) := ⟨_, rfl⟩
        have hF := nm_o hF v1 ev1
        refine lv_iinc (v := v1) (lv' := [(3, .int v1), (0, .ref q_o), (1, .int p1), (2, .int l2)]) hx hb dX1_count_25 hl (k := 3) rfl (by rw [ev1]; rfl) (by decide) rfl (fun ls hl => ?_)
        refine lv_goto (tgt := 4) hx hb dX1_count_28 (by decide) ?_
        exact ih4 l2 v1 H locs ls hP hD hS (lv_sub hl [1, 2, 3, 0] rfl) hF
      intro l2 l3 H locs ls hP hD hS hl hF
      rw [X1_count_L4] at hF
      refine lv_iload_n hx hb dX1_count_4 rfl (lv_at hl 3 rfl) ?_
      refine lv_aload_n hx hb dX1_count_5 rfl (lv_at hl 0 rfl) ?_
      refine va_get (D := D) (ci := 1) (v := .int o_viewers) (C := RX1) (T := TX1) (N := 5) hx hb hts f_inX1 hown hK hP 0 rfl rfl 0 (by decide) f_f9 (fun _ h9 => h9) rfl dX1_count_6 ?_
      refine lv_icmp_ge (tgt := 31) hx hb dX1_count_9 (by decide) (fun c2 => ?_) (fun c2 => ?_)
      · have hF := if_p hF c2
        refine lv_iload_n hx hb dX1_count_31 rfl (lv_at hl 2 rfl) ?_
        obtain rfl := so_o hF
        rw [hQQ]
        exact kr_i hx hb hr hlocks hP hD hS dX1_count_32
      · have hF := if_n hF c2
        refine lv_aload_n hx hb dX1_count_12 rfl (lv_at hl 0 rfl) ?_
        refine lv_iload_n hx hb dX1_count_13 rfl (lv_at hl 3 rfl) ?_
        refine lv_iconst (v := 3) hx hb dX1_count_14 (by decide) ?_
        obtain ⟨r3, h4, hF⟩ := bn1_o hF
        refine kc_i0 (va_runV (As := [.int l3, .int (3 : Int32)]) (rest := []) ⟨hx, hb, hml, hown, hts⟩ (c_X1_fact q_o q_o_facts H.size (.int o_viewers) x_o_lookLength x_o_time x_o_lookers o_facts l3 (3 : Int32) _ h4) (cwV 2 hts gX1_count_X1_fact rfl rfl rfl kd_X1_fact ⟨Nat.le_of_ble_eq_true rfl, Nat.le_of_ble_eq_true rfl⟩) ⟨kP_blind (EN_ok D cy) D _ _ _, va_recv hK hP (ci := 1) (q0 := 0) rfl rfl, kStart (EN_ok D cy) hE hP hD hS hA [0, 1] rfl rfl _⟩ rfl rfl hl.1 rfl (lv_room (Nat.le_of_ble_eq_true rfl)) dX1_count_15 ⟨Nat.zero_le _, Nat.zero_le _⟩) hP hD hS hA [0, 1] rfl (by decide) (fun H locs hP hD hS => ?_)
        have hP : va_P D vwCl [(q_o, .inr (1, [.int o_viewers, x_o_lookLength, x_o_time, x_o_lookers, .ref q_o_facts])), (q_o_facts, .inl (cy 0, 140, .inl o_facts))] H := hP
        have hD : va_D A [(q_o, .inr (1, [.int o_viewers, x_o_lookLength, x_o_time, x_o_lookers, .ref q_o_facts])), (q_o_facts, .inl (cy 0, 140, .inl o_facts))] := hD
        refine lv_iload_n hx hb dX1_count_18 rfl (lv_at hl 1 rfl) ?_
        refine lv_icmp_ne (tgt := 25) hx hb dX1_count_19 (by decide) (fun c5 => ?_) (fun c5 => ?_)
        · have hF := if_n hF c5
          exact J25 l2 l3 H locs ls hP hD hS (lv_sub hl [0, 1, 2, 3] rfl) hF
        · have hF := if_p hF c5
          obtain ⟨v6, ev6⟩ : ∃ y : Int32, y = l2 + (1 : Int32) := ⟨_, rfl⟩
          have hF := nm_o hF v6 ev6
          refine lv_iinc (v := v6) (lv' := [(2, .int v6), (0, .ref q_o), (1, .int p1), (3, .int l3)]) hx hb dX1_count_22 hl (k := 2) rfl (by rw [ev6]; rfl) (by decide) rfl (fun ls hl => ?_)
          exact J25 v6 l3 H locs ls hP hD hS (lv_sub hl [1, 2, 0, 3] rfl) hF
  have main : ∀ (H : Heap) (locs : List Loc) (ls : Array Slot), va_P D vwCl [(q_o, .inr (1, [.int o_viewers, x_o_lookLength, x_o_time, x_o_lookers, .ref q_o_facts])), (q_o_facts, .inl (cy 0, 140, .inl o_facts))] H → va_D A [(q_o, .inr (1, [.int o_viewers, x_o_lookLength, x_o_time, x_o_lookers, .ref q_o_facts])), (q_o_facts, .inl (cy 0, 140, .inl o_facts))] → va_S A s.heap H locs → lv_has ls 4 [(0, .ref q_o), (1, .int p1)] → W p l e ({ frames := 1, cells := 0, slots := 0, locals := 22 } : Room) s m args below meth c H locs 0 0 QQ (F0 m 0 ls []) := by
    intro H locs ls hP hD hS hl
    unfold X1_count at hF
    refine lv_iconst (v := 0) hx hb dX1_count_0 (by decide) ?_
    refine lv_istore_n (lv' := [(2, .int (0 : Int32)), (0, .ref q_o), (1, .int p1)]) hx hb dX1_count_1 rfl hl (by decide) rfl (fun ls hl => ?_)
    refine lv_iconst (v := 0) hx hb dX1_count_2 (by decide) ?_
    refine lv_istore_n (lv' := [(3, .int (0 : Int32)), (2, .int (0 : Int32)), (0, .ref q_o), (1, .int p1)]) hx hb dX1_count_3 rfl hl (by decide) rfl (fun ls hl => ?_)
    exact J4 FU (0 : Int32) (0 : Int32) H locs ls hP hD hS (lv_sub hl [2, 3, 1, 0] rfl) hF
  exact main s.heap [] ls hP hD hS hl
theorem kd_X1_isBusy : yX1_isBusy.cls = RX1 ∧ yX1_isBusy.cls ≠ "java/lang/invoke/MethodHandle" ∧ yX1_isBusy.cls ≠ "java/lang/invoke/VarHandle" ∧ (parseMethodDescriptor yX1_isBusy.desc).map (fun d => d.parameters.length) = some 0 := by decide +kernel
set_option maxHeartbeats 4000000 in
set_option maxRecDepth 100000 in
theorem c_X1_isBusy {l : Launch} {D : va_G} {cy : Nat → ClassId} (q_o q_o_facts : Nat) (sz : Nat) (x_o_lookLength x_o_time x_o_lookers : Value) (o_viewers : Int32) (o_facts : Nat → Int32) (res : Int32) (hF : X1_isBusy o_viewers o_facts = some res) : Met l yX1_isBusy wsX1_isBusy ({ frames := 2, cells := 0, slots := 0, locals := 45 } : Room) (kP (EN D cy) D [.ref q_o] [(q_o, .inr (1, [.int o_viewers, x_o_lookLength, x_o_time, x_o_lookers, .ref q_o_facts])), (q_o_facts, .inl (cy 0, 140, .inl o_facts))] sz) (kQi D res [(q_o, .inr (1, [.int o_viewers, x_o_lookLength, x_o_time, x_o_lookers, .ref q_o_facts])), (q_o_facts, .inl (cy 0, 140, .inl o_facts))] (va_A [(q_o, .inr (1, [.int o_viewers, x_o_lookLength, x_o_time, x_o_lookers, .ref q_o_facts])), (q_o_facts, .inl (cy 0, 140, .inl o_facts))] sz)) 0 0 (va_A [(q_o, .inr (1, [.int o_viewers, x_o_lookLength, x_o_time, x_o_lookers, .ref q_o_facts])), (q_o_facts, .inl (cy 0, 140, .inl o_facts))] sz) := by
  refine kMet (cc := cX1_isBusy) (maxL := 1) (ret := some .boolean) (own := RX1) (Qc := fun A9 => (kQi D res [(q_o, .inr (1, [.int o_viewers, x_o_lookLength, x_o_time, x_o_lookers, .ref q_o_facts])), (q_o_facts, .inl (cy 0, 140, .inl o_facts))] A9)) (by decide) rfl rfl (Nat.le_of_ble_eq_true rfl) ?_
  intro p e s m args below meth c A hx hb hr hts hown hml hlocks hname hE hP hD hA hsz ls hl
  have hK := hE.1
  have hl : lv_has ls 1 [(0, .ref q_o)] := hl
  have hS : va_S A s.heap s.heap [] := va_S.rf
  obtain ⟨QQ, hQQ⟩ : ∃ Q9, Q9 = MQ below (kQi D res [(q_o, .inr (1, [.int o_viewers, x_o_lookLength, x_o_time, x_o_lookers, .ref q_o_facts])), (q_o_facts, .inl (cy 0, 140, .inl o_facts))] A) args s 0 0 A := ⟨_, rfl⟩
  rw [← hQQ]
  have main : ∀ (H : Heap) (locs : List Loc) (ls : Array Slot), va_P D vwCl [(q_o, .inr (1, [.int o_viewers, x_o_lookLength, x_o_time, x_o_lookers, .ref q_o_facts])), (q_o_facts, .inl (cy 0, 140, .inl o_facts))] H → va_D A [(q_o, .inr (1, [.int o_viewers, x_o_lookLength, x_o_time, x_o_lookers, .ref q_o_facts])), (q_o_facts, .inl (cy 0, 140, .inl o_facts))] → va_S A s.heap H locs → lv_has ls 1 [(0, .ref q_o)] → W p l e ({ frames := 2, cells := 0, slots := 0, locals := 45 } : Room) s m args below meth c H locs 0 0 QQ (F0 m 0 ls []) := by
    intro H locs ls hP hD hS hl
    unfold X1_isBusy at hF
    refine lv_aload_n hx hb dX1_isBusy_0 rfl (lv_at hl 0 rfl) ?_
    refine lv_iconst (v := 0) hx hb dX1_isBusy_1 (by decide) ?_
    obtain ⟨r1, h2, hF⟩ := bn1_o hF
    refine kc_i0 (va_runV (As := [.int (0 : Int32)]) (rest := []) ⟨hx, hb, hml, hown, hts⟩ (c_X1_count q_o q_o_facts H.size x_o_lookLength x_o_time x_o_lookers o_viewers o_facts (0 : Int32) _ h2) (cwV 1 hts gX1_isBusy_X1_count rfl rfl rfl kd_X1_count ⟨Nat.le_of_ble_eq_true rfl, Nat.le_of_ble_eq_true rfl⟩) ⟨kP_blind (EN_ok D cy) D _ _ _, va_recv hK hP (ci := 1) (q0 := 0) rfl rfl, kStart (EN_ok D cy) hE hP hD hS hA [0, 1] rfl rfl _⟩ rfl rfl hl.1 rfl (lv_room (Nat.le_of_ble_eq_true rfl)) dX1_isBusy_2 ⟨Nat.zero_le _, Nat.zero_le _⟩) hP hD hS hA [0, 1] rfl (by decide) (fun H locs hP hD hS => ?_)
    have hP : va_P D vwCl [(q_o, .inr (1, [.int o_viewers, x_o_lookLength, x_o_time, x_o_lookers, .ref q_o_facts])), (q_o_facts, .inl (cy 0, 140, .inl o_facts))] H := hP
    have hD : va_D A [(q_o, .inr (1, [.int o_viewers, x_o_lookLength, x_o_time, x_o_lookers, .ref q_o_facts])), (q_o_facts, .inl (cy 0, 140, .inl o_facts))] := hD
    refine lv_aload_n hx hb dX1_isBusy_5 rfl (lv_at hl 0 rfl) ?_
    refine lv_iconst (v := 1) hx hb dX1_isBusy_6 (by decide) ?_
    obtain ⟨r3, h4, hF⟩ := bn1_o hF
    refine kc_i0 (va_runV (As := [.int (1 : Int32)]) (rest := [.int r1]) ⟨hx, hb, hml, hown, hts⟩ (c_X1_count q_o q_o_facts H.size x_o_lookLength x_o_time x_o_lookers o_viewers o_facts (1 : Int32) _ h4) (cwV 1 hts gX1_isBusy_X1_count rfl rfl rfl kd_X1_count ⟨Nat.le_of_ble_eq_true rfl, Nat.le_of_ble_eq_true rfl⟩) ⟨kP_blind (EN_ok D cy) D _ _ _, va_recv hK hP (ci := 1) (q0 := 0) rfl rfl, kStart (EN_ok D cy) hE hP hD hS hA [0, 1] rfl rfl _⟩ rfl rfl hl.1 rfl (lv_room (Nat.le_of_ble_eq_true rfl)) dX1_isBusy_7 ⟨Nat.zero_le _, Nat.zero_le _⟩) hP hD hS hA [0, 1] rfl (by decide) (fun H locs hP hD hS => ?_)
    have hP : va_P D vwCl [(q_o, .inr (1, [.int o_viewers, x_o_lookLength, x_o_time, x_o_lookers, .ref q_o_facts])), (q_o_facts, .inl (cy 0, 140, .inl o_facts))] H := hP
    have hD : va_D A [(q_o, .inr (1, [.int o_viewers, x_o_lookLength, x_o_time, x_o_lookers, .ref q_o_facts])), (q_o_facts, .inl (cy 0, 140, .inl o_facts))] := hD
    refine lv_iadd hx hb dX1_isBusy_10 ?_
    refine lv_if_le (tgt := 18) hx hb dX1_isBusy_11 (by decide) (fun c5 => ?_) (fun c5 => ?_)
    · have hF := if_p hF c5
      refine lv_iconst (v := 0) hx hb dX1_isBusy_18 (by decide) ?_
      obtain rfl := so_o hF
      rw [hQQ]
      exact kr_z hx hb hr hlocks rfl hP hD hS dX1_isBusy_19
    · have hF := if_n hF c5
      refine lv_iconst (v := 1) hx hb dX1_isBusy_14 (by decide) ?_
      refine lv_goto (tgt := 19) hx hb dX1_isBusy_15 (by decide) ?_
      obtain rfl := so_o hF
      rw [hQQ]
      exact kr_z hx hb hr hlocks rfl hP hD hS dX1_isBusy_19
  exact main s.heap [] ls hP hD hS hl
theorem kd_X6_limited : yX6_limited.cls ≠ "java/lang/invoke/MethodHandle" ∧ yX6_limited.cls ≠ "java/lang/invoke/VarHandle" ∧ (parseMethodDescriptor yX6_limited.desc).map (fun d => d.parameters.length) = some 3 := by decide +kernel
set_option maxHeartbeats 4000000 in
set_option maxRecDepth 100000 in
theorem c_X6_limited {l : Launch} {D : va_G} {cy : Nat → ClassId} (sz : Nat) (p0 : Int64) (p2 : Int32) (p3 : Int32) (res : Int32) (hF : X6_limited p0 p2 p3 = some res) : Met l yX6_limited wsX6_limited ({ frames := 1, cells := 0, slots := 0, locals := 30 } : Room) (kP (EN D cy) D [.long p0, .int p2, .int p3] [] sz) (kQi D res [] (va_A [] sz)) 0 0 (va_A [] sz) := by
  refine kMet (cc := cX6_limited) (maxL := 4) (ret := some .int) (own := RX6) (Qc := fun A9 => (kQi D res [] A9)) (by decide) rfl rfl (Nat.le_of_ble_eq_true rfl) ?_
  intro p e s m args below meth c A hx hb hr hts hown hml hlocks hname hE hP hD hA hsz ls hl
  have hK := hE.1
  have hl : lv_has ls 4 [(0, .long p0), (2, .int p2), (3, .int p3)] := hl
  have hS : va_S A s.heap s.heap [] := va_S.rf
  have f_m281 := hts (.methodLink RX6 281 Lib.MathLoose.min_long.x) (by decide +kernel)
  have f_s_va_mmin_long := hts (.static Lib.MathLoose.min_long.x) (by decide +kernel)
  have f_iMath := hts (.initialized "java/lang/Math") (by decide +kernel)
  have f_k_va_mmin_long := hts (.code Lib.MathLoose.min_long.x Lib.MathLoose.min_long.code 4 (some .long)) (by decide +kernel)
  have f_m284 := hts (.methodLink RX6 284 Lib.MathLoose.max_long.x) (by decide +kernel)
  have f_s_va_mmax_long := hts (.static Lib.MathLoose.max_long.x) (by decide +kernel)
  have f_k_va_mmax_long := hts (.code Lib.MathLoose.max_long.x Lib.MathLoose.max_long.code 4 (some .long)) (by decide +kernel)
  obtain ⟨QQ, hQQ⟩ : ∃ Q9, Q9 = MQ below (kQi D res [] A) args s 0 0 A := ⟨_, rfl⟩
  rw [← hQQ]
  have main : ∀ (H : Heap) (locs : List Loc) (ls : Array Slot), va_P D vwCl [] H → va_D A [] → va_S A s.heap H locs → lv_has ls 4 [(0, .long p0), (2, .int p2), (3, .int p3)] → W p l e ({ frames := 1, cells := 0, slots := 0, locals := 30 } : Room) s m args below meth c H locs 0 0 QQ (F0 m 0 ls []) := by
    intro H locs ls hP hD hS hl
    unfold X6_limited at hF
    refine lv_iload_n hx hb dX6_limited_0 rfl (lv_at hl 1 rfl) ?_
    refine lv_i2l hx hb dX6_limited_1 rfl ?_
    refine lv_iload_n hx hb dX6_limited_2 rfl (lv_at hl 2 rfl) ?_
    refine lv_i2l hx hb dX6_limited_3 rfl ?_
    refine lv_lload_n hx hb dX6_limited_4 rfl (lv_at hl 0 rfl) ?_
    refine va_mmin_long hx hb (by rw [hml]; exact hl.1.symm) hown f_m281 f_s_va_mmin_long f_iMath f_k_va_mmin_long (Nat.le_of_ble_eq_true rfl) (Nat.le_of_ble_eq_true rfl) (Nat.zero_le _) (Nat.zero_le _) dX6_limited_5 ?_
    refine lv_topl (fun v1 ev1 => ?_)
    have hF := nm_o hF v1 ev1
    refine va_mmax_long hx hb (by rw [hml]; exact hl.1.symm) hown f_m284 f_s_va_mmax_long f_iMath f_k_va_mmax_long (Nat.le_of_ble_eq_true rfl) (Nat.le_of_ble_eq_true rfl) (Nat.zero_le _) (Nat.zero_le _) dX6_limited_8 ?_
    refine lv_topl (fun v2 ev2 => ?_)
    have hF := nm_o hF v2 ev2
    refine lv_l2i hx hb dX6_limited_11 rfl ?_
    obtain rfl := so_o hF
    rw [hQQ]
    exact kr_i hx hb hr hlocks hP hD hS dX6_limited_12
  exact main s.heap [] ls hP hD hS hl
theorem kd_X2_combine : yX2_combine.cls ≠ "java/lang/invoke/MethodHandle" ∧ yX2_combine.cls ≠ "java/lang/invoke/VarHandle" ∧ (parseMethodDescriptor yX2_combine.desc).map (fun d => d.parameters.length) = some 3 := by decide +kernel
set_option maxHeartbeats 4000000 in
set_option maxRecDepth 100000 in
theorem c_X2_combine {l : Launch} {D : va_G} {cy : Nat → ClassId} (sz : Nat) (p0 : Int32) (p1 : Int64) (p3 : Int64) (res : Int32) (hF : X2_combine p0 p1 p3 = some res) : Met l yX2_combine wsX2_combine ({ frames := 2, cells := 0, slots := 0, locals := 53 } : Room) (kP (EN D cy) D [.int p0, .long p1, .long p3] [] sz) (kQi D res [] (va_A [] sz)) 0 0 (va_A [] sz) := by
  refine kMet (cc := cX2_combine) (maxL := 5) (ret := some .int) (own := RX2) (Qc := fun A9 => (kQi D res [] A9)) (by decide) rfl rfl (Nat.le_of_ble_eq_true rfl) ?_
  intro p e s m args below meth c A hx hb hr hts hown hml hlocks hname hE hP hD hA hsz ls hl
  have hK := hE.1
  have hl : lv_has ls 5 [(0, .int p0), (1, .long p1), (3, .long p3)] := hl
  have hS : va_S A s.heap s.heap [] := va_S.rf
  have f_c46 := hts (.constant RX2 46 (-1000000)) (by decide +kernel)
  have f_c47 := hts (.constant RX2 47 (1000000)) (by decide +kernel)
  have f_iRX6 := hts (.initialized RX6) (by decide +kernel)
  have f_stX6_limited := hts (.static yX6_limited) (by decide +kernel)
  have f_stX6_quotient := hts (.static yX6_quotient) (by decide +kernel)
  obtain ⟨QQ, hQQ⟩ : ∃ Q9, Q9 = MQ below (kQi D res [] A) args s 0 0 A := ⟨_, rfl⟩
  rw [← hQQ]
  have main : ∀ (H : Heap) (locs : List Loc) (ls : Array Slot), va_P D vwCl [] H → va_D A [] → va_S A s.heap H locs → lv_has ls 5 [(0, .int p0), (1, .long p1), (3, .long p3)] → W p l e ({ frames := 2, cells := 0, slots := 0, locals := 53 } : Room) s m args below meth c H locs 0 0 QQ (F0 m 0 ls []) := by
    intro H locs ls hP hD hS hl
    unfold X2_combine at hF
    refine lv_iload_n hx hb dX2_combine_0 rfl (lv_at hl 0 rfl) ?_
    by_cases c1 : p0 = 42
    · have hF := if_p hF c1
      refine lv_tableIn (off := 53) (tgt := 54) hx hb dX2_combine_1 (by rw [c1]; decide) (by rw [c1]; decide) (by rw [c1]; rfl) (by decide) ?_
      refine lv_lload_n hx hb dX2_combine_54 rfl (lv_at hl 1 rfl) ?_
      refine lv_lload_n hx hb dX2_combine_55 rfl (lv_at hl 2 rfl) ?_
      refine lv_lmul hx hb dX2_combine_56 ?_
      refine lv_ldc (v := -1000000) hx hb hown f_c46 dX2_combine_57 ?_
      refine lv_ldc (v := 1000000) hx hb hown f_c47 dX2_combine_59 ?_
      obtain ⟨r2, h3, hF⟩ := bn1_o hF
      refine kc_i0 (va_runSN (As := [.long (p1 * p3), .int (-1000000 : Int32), .int (1000000 : Int32)]) (rest := []) ⟨hx, hb, hml, hown, hts⟩ (c_X6_limited H.size (p1 * p3) (-1000000 : Int32) (1000000 : Int32) _ h3) ⟨va_cnB 3 hts gX2_combine_X6_limited_n48 rfl rfl rfl (hE.2.1 _ (List.mem_of_getElem? (i := 5) rfl)) f_iRX6 kd_X6_limited ⟨Nat.le_of_ble_eq_true rfl, Nat.le_of_ble_eq_true rfl⟩, f_stX6_limited, trivial⟩ ⟨kP_blind (EN_ok D cy) D _ _ _, kStart (EN_ok D cy) hE hP hD hS hA [] rfl rfl _⟩ rfl rfl hl.1 rfl (lv_room (Nat.le_of_ble_eq_true rfl)) dX2_combine_61 ⟨Nat.zero_le _, Nat.zero_le _⟩) hP hD hS hA [] rfl (by decide) (fun H locs hP hD hS => ?_)
      have hP : va_P D vwCl [] H := hP
      have hD : va_D A [] := hD
      obtain rfl := so_o hF
      rw [hQQ]
      exact kr_i hx hb hr hlocks hP hD hS dX2_combine_64
    have hF := if_n hF c1
    by_cases c4 : p0 = 43
    · have hF := if_p hF c4
      refine lv_tableIn (off := 31) (tgt := 32) hx hb dX2_combine_1 (by rw [c4]; decide) (by rw [c4]; decide) (by rw [c4]; rfl) (by decide) ?_
      refine lv_lload_n hx hb dX2_combine_32 rfl (lv_at hl 1 rfl) ?_
      refine lv_lload_n hx hb dX2_combine_33 rfl (lv_at hl 2 rfl) ?_
      refine lv_ladd hx hb dX2_combine_34 ?_
      refine lv_ldc (v := -1000000) hx hb hown f_c46 dX2_combine_35 ?_
      refine lv_ldc (v := 1000000) hx hb hown f_c47 dX2_combine_37 ?_
      obtain ⟨r5, h6, hF⟩ := bn1_o hF
      refine kc_i0 (va_runSN (As := [.long (p1 + p3), .int (-1000000 : Int32), .int (1000000 : Int32)]) (rest := []) ⟨hx, hb, hml, hown, hts⟩ (c_X6_limited H.size (p1 + p3) (-1000000 : Int32) (1000000 : Int32) _ h6) ⟨va_cnB 3 hts gX2_combine_X6_limited_n48 rfl rfl rfl (hE.2.1 _ (List.mem_of_getElem? (i := 5) rfl)) f_iRX6 kd_X6_limited ⟨Nat.le_of_ble_eq_true rfl, Nat.le_of_ble_eq_true rfl⟩, f_stX6_limited, trivial⟩ ⟨kP_blind (EN_ok D cy) D _ _ _, kStart (EN_ok D cy) hE hP hD hS hA [] rfl rfl _⟩ rfl rfl hl.1 rfl (lv_room (Nat.le_of_ble_eq_true rfl)) dX2_combine_39 ⟨Nat.zero_le _, Nat.zero_le _⟩) hP hD hS hA [] rfl (by decide) (fun H locs hP hD hS => ?_)
      have hP : va_P D vwCl [] H := hP
      have hD : va_D A [] := hD
      obtain rfl := so_o hF
      rw [hQQ]
      exact kr_i hx hb hr hlocks hP hD hS dX2_combine_42
    have hF := if_n hF c4
    by_cases c7 : p0 = 44
    · have hF := if_p hF c7
      refine lv_tableIn (off := 64) (tgt := 65) hx hb dX2_combine_1 (by rw [c7]; decide) (by rw [c7]; decide) (by rw [c7]; rfl) (by decide) ?_
      refine lv_lload_n hx hb dX2_combine_65 rfl (lv_at hl 1 rfl) ?_
      refine lv_lload_n hx hb dX2_combine_66 rfl (lv_at hl 2 rfl) ?_
      obtain ⟨r8, h9, hF⟩ := bn1_o hF
      refine kc_l0 (va_runSN (As := [.long p1, .long p3]) (rest := []) ⟨hx, hb, hml, hown, hts⟩ (c_X6_quotient H.size p1 p3 _ h9) ⟨va_cnB 2 hts gX2_combine_X6_quotient_n52 rfl rfl rfl (hE.2.1 _ (List.mem_of_getElem? (i := 6) rfl)) f_iRX6 kd_X6_quotient ⟨Nat.le_of_ble_eq_true rfl, Nat.le_of_ble_eq_true rfl⟩, f_stX6_quotient, trivial⟩ ⟨kP_blind (EN_ok D cy) D _ _ _, kStart (EN_ok D cy) hE hP hD hS hA [] rfl rfl _⟩ rfl rfl hl.1 rfl (lv_room (Nat.le_of_ble_eq_true rfl)) dX2_combine_67 ⟨Nat.zero_le _, Nat.zero_le _⟩) hP hD hS hA [] rfl (by decide) (fun H locs hP hD hS => ?_)
      have hP : va_P D vwCl [] H := hP
      have hD : va_D A [] := hD
      refine lv_ldc (v := -1000000) hx hb hown f_c46 dX2_combine_70 ?_
      refine lv_ldc (v := 1000000) hx hb hown f_c47 dX2_combine_72 ?_
      obtain ⟨r10, h11, hF⟩ := bn1_o hF
      refine kc_i0 (va_runSN (As := [.long r8, .int (-1000000 : Int32), .int (1000000 : Int32)]) (rest := []) ⟨hx, hb, hml, hown, hts⟩ (c_X6_limited H.size r8 (-1000000 : Int32) (1000000 : Int32) _ h11) ⟨va_cnB 3 hts gX2_combine_X6_limited_n48 rfl rfl rfl (hE.2.1 _ (List.mem_of_getElem? (i := 5) rfl)) f_iRX6 kd_X6_limited ⟨Nat.le_of_ble_eq_true rfl, Nat.le_of_ble_eq_true rfl⟩, f_stX6_limited, trivial⟩ ⟨kP_blind (EN_ok D cy) D _ _ _, kStart (EN_ok D cy) hE hP hD hS hA [] rfl rfl _⟩ rfl rfl hl.1 rfl (lv_room (Nat.le_of_ble_eq_true rfl)) dX2_combine_74 ⟨Nat.zero_le _, Nat.zero_le _⟩) hP hD hS hA [] rfl (by decide) (fun H locs hP hD hS => ?_)
      have hP : va_P D vwCl [] H := hP
      have hD : va_D A [] := hD
      obtain rfl := so_o hF
      rw [hQQ]
      exact kr_i hx hb hr hlocks hP hD hS dX2_combine_77
    have hF := if_n hF c7
    by_cases c12 : p0 = 45
    · have hF := if_p hF c12
      refine lv_tableIn (off := 42) (tgt := 43) hx hb dX2_combine_1 (by rw [c12]; decide) (by rw [c12]; decide) (by rw [c12]; rfl) (by decide) ?_
      refine lv_lload_n hx hb dX2_combine_43 rfl (lv_at hl 1 rfl) ?_
      refine lv_lload_n hx hb dX2_combine_44 rfl (lv_at hl 2 rfl) ?_
      refine lv_lsub hx hb dX2_combine_45 ?_
      refine lv_ldc (v := -1000000) hx hb hown f_c46 dX2_combine_46 ?_
      refine lv_ldc (v := 1000000) hx hb hown f_c47 dX2_combine_48 ?_
      obtain ⟨r13, h14, hF⟩ := bn1_o hF
      refine kc_i0 (va_runSN (As := [.long (p1 - p3), .int (-1000000 : Int32), .int (1000000 : Int32)]) (rest := []) ⟨hx, hb, hml, hown, hts⟩ (c_X6_limited H.size (p1 - p3) (-1000000 : Int32) (1000000 : Int32) _ h14) ⟨va_cnB 3 hts gX2_combine_X6_limited_n48 rfl rfl rfl (hE.2.1 _ (List.mem_of_getElem? (i := 5) rfl)) f_iRX6 kd_X6_limited ⟨Nat.le_of_ble_eq_true rfl, Nat.le_of_ble_eq_true rfl⟩, f_stX6_limited, trivial⟩ ⟨kP_blind (EN_ok D cy) D _ _ _, kStart (EN_ok D cy) hE hP hD hS hA [] rfl rfl _⟩ rfl rfl hl.1 rfl (lv_room (Nat.le_of_ble_eq_true rfl)) dX2_combine_50 ⟨Nat.zero_le _, Nat.zero_le _⟩) hP hD hS hA [] rfl (by decide) (fun H locs hP hD hS => ?_)
      have hP : va_P D vwCl [] H := hP
      have hD : va_D A [] := hD
      obtain rfl := so_o hF
      rw [hQQ]
      exact kr_i hx hb hr hlocks hP hD hS dX2_combine_53
    have hF := if_n hF c12
    have tc1 : p0.toInt ≠ 42 := fun h9 => c1 (Int32.toInt_inj.mp (h9.trans (by decide)))
    have tc4 : p0.toInt ≠ 43 := fun h9 => c4 (Int32.toInt_inj.mp (h9.trans (by decide)))
    have tc7 : p0.toInt ≠ 44 := fun h9 => c7 (Int32.toInt_inj.mp (h9.trans (by decide)))
    have tc12 : p0.toInt ≠ 45 := fun h9 => c12 (Int32.toInt_inj.mp (h9.trans (by decide)))
    refine lv_tableOut (tgt := 65) hx hb dX2_combine_1 (by omega) (by decide) ?_
    refine lv_lload_n hx hb dX2_combine_65 rfl (lv_at hl 1 rfl) ?_
    refine lv_lload_n hx hb dX2_combine_66 rfl (lv_at hl 2 rfl) ?_
    obtain ⟨r15, h16, hF⟩ := bn1_o hF
    refine kc_l0 (va_runSN (As := [.long p1, .long p3]) (rest := []) ⟨hx, hb, hml, hown, hts⟩ (c_X6_quotient H.size p1 p3 _ h16) ⟨va_cnB 2 hts gX2_combine_X6_quotient_n52 rfl rfl rfl (hE.2.1 _ (List.mem_of_getElem? (i := 6) rfl)) f_iRX6 kd_X6_quotient ⟨Nat.le_of_ble_eq_true rfl, Nat.le_of_ble_eq_true rfl⟩, f_stX6_quotient, trivial⟩ ⟨kP_blind (EN_ok D cy) D _ _ _, kStart (EN_ok D cy) hE hP hD hS hA [] rfl rfl _⟩ rfl rfl hl.1 rfl (lv_room (Nat.le_of_ble_eq_true rfl)) dX2_combine_67 ⟨Nat.zero_le _, Nat.zero_le _⟩) hP hD hS hA [] rfl (by decide) (fun H locs hP hD hS => ?_)
    have hP : va_P D vwCl [] H := hP
    have hD : va_D A [] := hD
    refine lv_ldc (v := -1000000) hx hb hown f_c46 dX2_combine_70 ?_
    refine lv_ldc (v := 1000000) hx hb hown f_c47 dX2_combine_72 ?_
    obtain ⟨r17, h18, hF⟩ := bn1_o hF
    refine kc_i0 (va_runSN (As := [.long r15, .int (-1000000 : Int32), .int (1000000 : Int32)]) (rest := []) ⟨hx, hb, hml, hown, hts⟩ (c_X6_limited H.size r15 (-1000000 : Int32) (1000000 : Int32) _ h18) ⟨va_cnB 3 hts gX2_combine_X6_limited_n48 rfl rfl rfl (hE.2.1 _ (List.mem_of_getElem? (i := 5) rfl)) f_iRX6 kd_X6_limited ⟨Nat.le_of_ble_eq_true rfl, Nat.le_of_ble_eq_true rfl⟩, f_stX6_limited, trivial⟩ ⟨kP_blind (EN_ok D cy) D _ _ _, kStart (EN_ok D cy) hE hP hD hS hA [] rfl rfl _⟩ rfl rfl hl.1 rfl (lv_room (Nat.le_of_ble_eq_true rfl)) dX2_combine_74 ⟨Nat.zero_le _, Nat.zero_le _⟩) hP hD hS hA [] rfl (by decide) (fun H locs hP hD hS => ?_)
    have hP : va_P D vwCl [] H := hP
    have hD : va_D A [] := hD
    obtain rfl := so_o hF
    rw [hQQ]
    exact kr_i hx hb hr hlocks hP hD hS dX2_combine_77
  exact main s.heap [] ls hP hD hS hl
theorem kd_X6_requireHole : yX6_requireHole.cls = RX6 ∧ yX6_requireHole.cls ≠ "java/lang/invoke/MethodHandle" ∧ yX6_requireHole.cls ≠ "java/lang/invoke/VarHandle" ∧ (parseMethodDescriptor yX6_requireHole.desc).map (fun d => d.parameters.length) = some 1 := by decide +kernel
set_option maxHeartbeats 4000000 in
set_option maxRecDepth 100000 in
theorem c_X6_requireHole {l : Launch} {D : va_G} {cy : Nat → ClassId} (q_o q_o_now q_o_now_box : Nat) (sz : Nat) (x_o_setup x_o_trial x_o_view x_o_trialView x_o_past x_o_nextPast x_o_undoable x_o_now_crowd x_o_now_box_width x_o_now_box_height x_o_now_box_planes x_o_now_box_reach x_o_now_box_cells x_o_now_box_pulls x_o_now_box_holeX x_o_now_box_holeY x_o_now_box_price : Value) (o_now_box_holes : Int32) (p1 : Int32) (res : Unit) (hF : X6_requireHole o_now_box_holes p1 = some (.inr res)) : Met l yX6_requireHole wsX6_requireHole ({ frames := 0, cells := 0, slots := 0, locals := 0 } : Room) (kP (EN D cy) D [.ref q_o, .int p1] [(q_o, .inr (6, [x_o_setup, .ref q_o_now, x_o_trial, x_o_view, x_o_trialView, x_o_past, x_o_nextPast, x_o_undoable])), (q_o_now, .inr (4, [.ref q_o_now_box, x_o_now_crowd])), (q_o_now_box, .inr (0, [x_o_now_box_width, x_o_now_box_height, x_o_now_box_planes, .int o_now_box_holes, x_o_now_box_reach, x_o_now_box_cells, x_o_now_box_pulls, x_o_now_box_holeX, x_o_now_box_holeY, x_o_now_box_price]))] sz) (kQv D [(q_o, .inr (6, [x_o_setup, .ref q_o_now, x_o_trial, x_o_view, x_o_trialView, x_o_past, x_o_nextPast, x_o_undoable])), (q_o_now, .inr (4, [.ref q_o_now_box, x_o_now_crowd])), (q_o_now_box, .inr (0, [x_o_now_box_width, x_o_now_box_height, x_o_now_box_planes, .int o_now_box_holes, x_o_now_box_reach, x_o_now_box_cells, x_o_now_box_pulls, x_o_now_box_holeX, x_o_now_box_holeY, x_o_now_box_price]))] (va_A [(q_o, .inr (6, [x_o_setup, .ref q_o_now, x_o_trial, x_o_view, x_o_trialView, x_o_past, x_o_nextPast, x_o_undoable])), (q_o_now, .inr (4, [.ref q_o_now_box, x_o_now_crowd])), (q_o_now_box, .inr (0, [x_o_now_box_width, x_o_now_box_height, x_o_now_box_planes, .int o_now_box_holes, x_o_now_box_reach, x_o_now_box_cells, x_o_now_box_pulls, x_o_now_box_holeX, x_o_now_box_holeY, x_o_now_box_price]))] sz)) 0 0 (va_A [(q_o, .inr (6, [x_o_setup, .ref q_o_now, x_o_trial, x_o_view, x_o_trialView, x_o_past, x_o_nextPast, x_o_undoable])), (q_o_now, .inr (4, [.ref q_o_now_box, x_o_now_crowd])), (q_o_now_box, .inr (0, [x_o_now_box_width, x_o_now_box_height, x_o_now_box_planes, .int o_now_box_holes, x_o_now_box_reach, x_o_now_box_cells, x_o_now_box_pulls, x_o_now_box_holeX, x_o_now_box_holeY, x_o_now_box_price]))] sz) := by
  refine kMet (cc := cX6_requireHole) (maxL := 2) (ret := none) (own := RX6) (Qc := fun A9 => (kQv D [(q_o, .inr (6, [x_o_setup, .ref q_o_now, x_o_trial, x_o_view, x_o_trialView, x_o_past, x_o_nextPast, x_o_undoable])), (q_o_now, .inr (4, [.ref q_o_now_box, x_o_now_crowd])), (q_o_now_box, .inr (0, [x_o_now_box_width, x_o_now_box_height, x_o_now_box_planes, .int o_now_box_holes, x_o_now_box_reach, x_o_now_box_cells, x_o_now_box_pulls, x_o_now_box_holeX, x_o_now_box_holeY, x_o_now_box_price]))] A9)) (by decide) rfl rfl (Nat.le_of_ble_eq_true rfl) ?_
  intro p e s m args below meth c A hx hb hr hts hown hml hlocks hname hE hP hD hA hsz ls hl
  have hK := hE.1
  have hl : lv_has ls 2 [(0, .ref q_o), (1, .int p1)] := hl
  have hS : va_S A s.heap s.heap [] := va_S.rf
  have f_f19 := hts (.fieldLink RX6 19 "PeepBox" "now" "LPeepBox$Show;") (by decide +kernel)
  have f_inX6 : ∀ w ∈ wsX60, w ∈ wsX6_requireHole := by decide +kernel
  have f_f51 := hts (.fieldLink RX6 51 "PeepBox$Show" "box" "LPeepBox$Box;") (by decide +kernel)
  have f_inX4 : ∀ w ∈ wsX40, w ∈ wsX6_requireHole := by decide +kernel
  have f_f120 := hts (.fieldLink RX6 120 "PeepBox$Box" "holes" "I") (by decide +kernel)
  have f_inX0 : ∀ w ∈ wsX00, w ∈ wsX6_requireHole := by decide +kernel
  obtain ⟨QQ, hQQ⟩ : ∃ Q9, Q9 = MQ below (kQv D [(q_o, .inr (6, [x_o_setup, .ref q_o_now, x_o_trial, x_o_view, x_o_trialView, x_o_past, x_o_nextPast, x_o_undoable])), (q_o_now, .inr (4, [.ref q_o_now_box, x_o_now_crowd])), (q_o_now_box, .inr (0, [x_o_now_box_width, x_o_now_box_height, x_o_now_box_planes, .int o_now_box_holes, x_o_now_box_reach, x_o_now_box_cells, x_o_now_box_pulls, x_o_now_box_holeX, x_o_now_box_holeY, x_o_now_box_price]))] A) args s 0 0 A := ⟨_, rfl⟩
  rw [← hQQ]
  have J18 : ∀ (H : Heap) (locs : List Loc) (ls : Array Slot), va_P D vwCl [(q_o, .inr (6, [x_o_setup, .ref q_o_now, x_o_trial, x_o_view, x_o_trialView, x_o_past, x_o_nextPast, x_o_undoable])), (q_o_now, .inr (4, [.ref q_o_now_box, x_o_now_crowd])), (q_o_now_box, .inr (0, [x_o_now_box_width, x_o_now_box_height, x_o_now_box_planes, .int o_now_box_holes, x_o_now_box_reach, x_o_now_box_cells, x_o_now_box_pulls, x_o_now_box_holeX, x_o_now_box_holeY, x_o_now_box_price]))] H → va_D A [(q_o, .inr (6, [x_o_setup, .ref q_o_now, x_o_trial, x_o_view, x_o_trialView, x_o_past, x_o_nextPast, x_o_undoable])), (q_o_now, .inr (4, [.ref q_o_now_box, x_o_now_crowd])), (q_o_now_box, .inr (0, [x_o_now_box_width, x_o_now_box_height, x_o_now_box_planes, .int o_now_box_holes, x_o_now_box_reach, x_o_now_box_cells, x_o_now_box_pulls, x_o_now_box_holeX, x_o_now_box_holeY, x_o_now_box_price]))] → va_S A s.heap H locs → lv_has ls 2 [] → X6_requireHole_J18 o_now_box_holes p1 = some (.inr res) → W p l e ({ frames := 0, cells := 0, slots := 0, locals := 0 } : Room) s m args below meth c H locs 0 0 QQ (F0 m 18 ls []) := by
    intro  H locs ls hP hD hS hl hF
    unfold X6_requireHole_J18 at hF
    cases hF
  have main : ∀ (H : Heap) (locs : List Loc) (ls : Array Slot), va_P D vwCl [(q_o, .inr (6, [x_o_setup, .ref q_o_now, x_o_trial, x_o_view, x_o_trialView, x_o_past, x_o_nextPast, x_o_undoable])), (q_o_now, .inr (4, [.ref q_o_now_box, x_o_now_crowd])), (q_o_now_box, .inr (0, [x_o_now_box_width, x_o_now_box_height, x_o_now_box_planes, .int o_now_box_holes, x_o_now_box_reach, x_o_now_box_cells, x_o_now_box_pulls, x_o_now_box_holeX, x_o_now_box_holeY, x_o_now_box_price]))] H → va_D A [(q_o, .inr (6, [x_o_setup, .ref q_o_now, x_o_trial, x_o_view, x_o_trialView, x_o_past, x_o_nextPast, x_o_undoable])), (q_o_now, .inr (4, [.ref q_o_now_box, x_o_now_crowd])), (q_o_now_box, .inr (0, [x_o_now_box_width, x_o_now_box_height, x_o_now_box_planes, .int o_now_box_holes, x_o_now_box_reach, x_o_now_box_cells, x_o_now_box_pulls, x_o_now_box_holeX, x_o_now_box_holeY, x_o_now_box_price]))] → va_S A s.heap H locs → lv_has ls 2 [(0, .ref q_o), (1, .int p1)] → W p l e ({ frames := 0, cells := 0, slots := 0, locals := 0 } : Room) s m args below meth c H locs 0 0 QQ (F0 m 0 ls []) := by
    intro H locs ls hP hD hS hl
    unfold X6_requireHole at hF
    refine lv_iload_n hx hb dX6_requireHole_0 rfl (lv_at hl 1 rfl) ?_
    refine lv_if_lt (tgt := 18) hx hb dX6_requireHole_1 (by decide) (fun c1 => ?_) (fun c1 => ?_)
    · have hF := if_p hF c1
      exact J18  H locs ls hP hD hS (lv_sub hl [] rfl) hF
    · have hF := if_n hF c1
      refine lv_iload_n hx hb dX6_requireHole_4 rfl (lv_at hl 1 rfl) ?_
      refine lv_aload_n hx hb dX6_requireHole_5 rfl (lv_at hl 0 rfl) ?_
      refine va_get (D := D) (ci := 6) (v := .ref q_o_now) (C := RX6) (T := TX6) (N := 8) hx hb hts f_inX6 hown hK hP 0 rfl rfl 1 (by decide) f_f19 (fun _ h9 => h9) rfl dX6_requireHole_6 ?_
      refine va_get (D := D) (ci := 4) (v := .ref q_o_now_box) (C := RX4) (T := TX4) (N := 2) hx hb hts f_inX4 hown hK hP 1 rfl rfl 0 (by decide) f_f51 (fun _ h9 => h9) rfl dX6_requireHole_9 ?_
      refine va_get (D := D) (ci := 0) (v := .int o_now_box_holes) (C := RX0) (T := TX0) (N := 10) hx hb hts f_inX0 hown hK hP 2 rfl rfl 3 (by decide) f_f120 (fun _ h9 => h9) rfl dX6_requireHole_12 ?_
      refine lv_icmp_lt (tgt := 29) hx hb dX6_requireHole_15 (by decide) (fun c2 => ?_) (fun c2 => ?_)
      · have hF := if_p hF c2
        obtain rfl := si_o hF
        rw [hQQ]
        exact kr_v hx hb hr hlocks hP hD hS dX6_requireHole_29
      · have hF := if_n hF c2
        exact J18  H locs ls hP hD hS (lv_sub hl [] rfl) hF
  exact main s.heap [] ls hP hD hS hl
set_option maxHeartbeats 4000000 in
set_option maxRecDepth 100000 in
theorem t_X6_requireHole {l : Launch} {D : va_G} {cy : Nat → ClassId} (hst : l.stackTraces = false) (q_o q_o_now q_o_now_box : Nat) (sz : Nat) (x_o_setup x_o_trial x_o_view x_o_trialView x_o_past x_o_nextPast x_o_undoable x_o_now_crowd x_o_now_box_width x_o_now_box_height x_o_now_box_planes x_o_now_box_reach x_o_now_box_cells x_o_now_box_pulls x_o_now_box_holeX x_o_now_box_holeY x_o_now_box_price : Value) (o_now_box_holes : Int32) (p1 : Int32) (k9 : Nat) (hF : X6_requireHole o_now_box_holes p1 = some (.inl k9)) : vx_Met l yX6_requireHole wsX6_requireHole ({ frames := 6, cells := 1, slots := 6, locals := 90 } : Room) (kP (EN D cy) D [.ref q_o, .int p1] [(q_o, .inr (6, [x_o_setup, .ref q_o_now, x_o_trial, x_o_view, x_o_trialView, x_o_past, x_o_nextPast, x_o_undoable])), (q_o_now, .inr (4, [.ref q_o_now_box, x_o_now_crowd])), (q_o_now_box, .inr (0, [x_o_now_box_width, x_o_now_box_height, x_o_now_box_planes, .int o_now_box_holes, x_o_now_box_reach, x_o_now_box_cells, x_o_now_box_pulls, x_o_now_box_holeX, x_o_now_box_holeY, x_o_now_box_price]))] sz) (kTv (va_A [(q_o, .inr (6, [x_o_setup, .ref q_o_now, x_o_trial, x_o_view, x_o_trialView, x_o_past, x_o_nextPast, x_o_undoable])), (q_o_now, .inr (4, [.ref q_o_now_box, x_o_now_crowd])), (q_o_now_box, .inr (0, [x_o_now_box_width, x_o_now_box_height, x_o_now_box_planes, .int o_now_box_holes, x_o_now_box_reach, x_o_now_box_cells, x_o_now_box_pulls, x_o_now_box_holeX, x_o_now_box_holeY, x_o_now_box_price]))] sz)) (kXC D k9 [(q_o, .inr (6, [x_o_setup, .ref q_o_now, x_o_trial, x_o_view, x_o_trialView, x_o_past, x_o_nextPast, x_o_undoable])), (q_o_now, .inr (4, [.ref q_o_now_box, x_o_now_crowd])), (q_o_now_box, .inr (0, [x_o_now_box_width, x_o_now_box_height, x_o_now_box_planes, .int o_now_box_holes, x_o_now_box_reach, x_o_now_box_cells, x_o_now_box_pulls, x_o_now_box_holeX, x_o_now_box_holeY, x_o_now_box_price]))] (va_A [(q_o, .inr (6, [x_o_setup, .ref q_o_now, x_o_trial, x_o_view, x_o_trialView, x_o_past, x_o_nextPast, x_o_undoable])), (q_o_now, .inr (4, [.ref q_o_now_box, x_o_now_crowd])), (q_o_now_box, .inr (0, [x_o_now_box_width, x_o_now_box_height, x_o_now_box_planes, .int o_now_box_holes, x_o_now_box_reach, x_o_now_box_cells, x_o_now_box_pulls, x_o_now_box_holeX, x_o_now_box_holeY, x_o_now_box_price]))] sz)) 1 6 (va_A [(q_o, .inr (6, [x_o_setup, .ref q_o_now, x_o_trial, x_o_view, x_o_trialView, x_o_past, x_o_nextPast, x_o_undoable])), (q_o_now, .inr (4, [.ref q_o_now_box, x_o_now_crowd])), (q_o_now_box, .inr (0, [x_o_now_box_width, x_o_now_box_height, x_o_now_box_planes, .int o_now_box_holes, x_o_now_box_reach, x_o_now_box_cells, x_o_now_box_pulls, x_o_now_box_holeX, x_o_now_box_holeY, x_o_now_box_price]))] sz) := by
  refine kMetT (cc := cX6_requireHole) (maxL := 2) (ret := none) (own := RX6) (Qc := fun A9 => (kTv A9)) (X := fun A9 => (kXC D k9 [(q_o, .inr (6, [x_o_setup, .ref q_o_now, x_o_trial, x_o_view, x_o_trialView, x_o_past, x_o_nextPast, x_o_undoable])), (q_o_now, .inr (4, [.ref q_o_now_box, x_o_now_crowd])), (q_o_now_box, .inr (0, [x_o_now_box_width, x_o_now_box_height, x_o_now_box_planes, .int o_now_box_holes, x_o_now_box_reach, x_o_now_box_cells, x_o_now_box_pulls, x_o_now_box_holeX, x_o_now_box_holeY, x_o_now_box_price]))] A9)) (by decide) rfl rfl (Nat.le_of_ble_eq_true rfl) ?_
  intro p e s m args below meth c A hx hb hr hts hown hml hlocks hxt hE hP hD hA hsz ls hl
  have hK := hE.1
  have hl : lv_has ls 2 [(0, .ref q_o), (1, .int p1)] := hl
  have hS : va_S A s.heap s.heap [] := va_S.rf
  have f_k268 := hts (.classLink RX6 268 "java/lang/IndexOutOfBoundsException") (by decide +kernel)
  have f_i1 := hts (.initialized "java/lang/IndexOutOfBoundsException") (by decide +kernel)
  have f_f19 := hts (.fieldLink RX6 19 "PeepBox" "now" "LPeepBox$Show;") (by decide +kernel)
  have f_inX6 : ∀ w ∈ wsX60, w ∈ wsX6_requireHole := by decide +kernel
  have f_f51 := hts (.fieldLink RX6 51 "PeepBox$Show" "box" "LPeepBox$Box;") (by decide +kernel)
  have f_inX4 : ∀ w ∈ wsX40, w ∈ wsX6_requireHole := by decide +kernel
  have f_f120 := hts (.fieldLink RX6 120 "PeepBox$Box" "holes" "I") (by decide +kernel)
  have f_inX0 : ∀ w ∈ wsX00, w ∈ wsX6_requireHole := by decide +kernel
  have fat_272 := vx_hat (L := vx_atS RX6 272 "java/lang/IndexOutOfBoundsException" ["java/lang/RuntimeException", "java/lang/Exception"]) (B := [.castable "java/lang/IndexOutOfBoundsException" "java/lang/IndexOutOfBoundsException"]) (fun w hw => hts w (List.mem_cons_of_mem _ (List.mem_append_right _ hw))) (by decide +kernel) (vx_c (va_Nw.use rfl (hE.2.2.2.2.2.2.2.1 _ (List.mem_of_getElem? (i := 0) rfl))) vx_n)
  obtain ⟨QQ, hQQ⟩ : ∃ Q9, Q9 = vx_MQ below (kTv A) (kXC D k9 [(q_o, .inr (6, [x_o_setup, .ref q_o_now, x_o_trial, x_o_view, x_o_trialView, x_o_past, x_o_nextPast, x_o_undoable])), (q_o_now, .inr (4, [.ref q_o_now_box, x_o_now_crowd])), (q_o_now_box, .inr (0, [x_o_now_box_width, x_o_now_box_height, x_o_now_box_planes, .int o_now_box_holes, x_o_now_box_reach, x_o_now_box_cells, x_o_now_box_pulls, x_o_now_box_holeX, x_o_now_box_holeY, x_o_now_box_price]))] A) args s 1 6 A := ⟨_, rfl⟩
  rw [← hQQ]
  have J18 : ∀ (H : Heap) (locs : List Loc) (ls : Array Slot), va_P D vwCl [(q_o, .inr (6, [x_o_setup, .ref q_o_now, x_o_trial, x_o_view, x_o_trialView, x_o_past, x_o_nextPast, x_o_undoable])), (q_o_now, .inr (4, [.ref q_o_now_box, x_o_now_crowd])), (q_o_now_box, .inr (0, [x_o_now_box_width, x_o_now_box_height, x_o_now_box_planes, .int o_now_box_holes, x_o_now_box_reach, x_o_now_box_cells, x_o_now_box_pulls, x_o_now_box_holeX, x_o_now_box_holeY, x_o_now_box_price]))] H → va_D A [(q_o, .inr (6, [x_o_setup, .ref q_o_now, x_o_trial, x_o_view, x_o_trialView, x_o_past, x_o_nextPast, x_o_undoable])), (q_o_now, .inr (4, [.ref q_o_now_box, x_o_now_crowd])), (q_o_now_box, .inr (0, [x_o_now_box_width, x_o_now_box_height, x_o_now_box_planes, .int o_now_box_holes, x_o_now_box_reach, x_o_now_box_cells, x_o_now_box_pulls, x_o_now_box_holeX, x_o_now_box_holeY, x_o_now_box_price]))] → va_S A s.heap H locs → lv_has ls 2 [] → X6_requireHole_J18 o_now_box_holes p1 = some (.inl k9) → W p l e ({ frames := 6, cells := 1, slots := 6, locals := 90 } : Room) s m args below meth c H locs 0 0 QQ (F0 m 18 ls []) := by
    intro  H locs ls hP hD hS hl hF
    unfold X6_requireHole_J18 at hF
    obtain rfl := sl_o hF
    obtain ⟨a1, hRa1, hTa1⟩ := hE.2.2.1 ("PeepBox", 273, "no such hole", [110, 111, 32, 115, 117, 99, 104, 32, 104, 111, 108, 101]) (by decide +kernel)
    rw [hQQ]
    exact vx_throwSW (A := A) hx hb hst hown (by decide +kernel) (by decide +kernel) f_k268 f_i1 hRa1 fat_272 (by decide +kernel) hE.2.2.2.2.1 hE.2.2.2.2.2.1 hS (by rw [hml]; exact hl.1) dX6_requireHole_18 dX6_requireHole_21 dX6_requireHole_22 dX6_requireHole_25 dX6_requireHole_28 (fun z hz => absurd hz (hxt z)) (Nat.le_of_ble_eq_true rfl) (Nat.le_of_ble_eq_true rfl) (Nat.le_of_ble_eq_true rfl) (Nat.le_of_ble_eq_true rfl) hlocks (kx_end hP hD hS rfl) hS.2.2 (Nat.le_of_ble_eq_true rfl) (Nat.le_of_ble_eq_true rfl)
  have main : ∀ (H : Heap) (locs : List Loc) (ls : Array Slot), va_P D vwCl [(q_o, .inr (6, [x_o_setup, .ref q_o_now, x_o_trial, x_o_view, x_o_trialView, x_o_past, x_o_nextPast, x_o_undoable])), (q_o_now, .inr (4, [.ref q_o_now_box, x_o_now_crowd])), (q_o_now_box, .inr (0, [x_o_now_box_width, x_o_now_box_height, x_o_now_box_planes, .int o_now_box_holes, x_o_now_box_reach, x_o_now_box_cells, x_o_now_box_pulls, x_o_now_box_holeX, x_o_now_box_holeY, x_o_now_box_price]))] H → va_D A [(q_o, .inr (6, [x_o_setup, .ref q_o_now, x_o_trial, x_o_view, x_o_trialView, x_o_past, x_o_nextPast, x_o_undoable])), (q_o_now, .inr (4, [.ref q_o_now_box, x_o_now_crowd])), (q_o_now_box, .inr (0, [x_o_now_box_width, x_o_now_box_height, x_o_now_box_planes, .int o_now_box_holes, x_o_now_box_reach, x_o_now_box_cells, x_o_now_box_pulls, x_o_now_box_holeX, x_o_now_box_holeY, x_o_now_box_price]))] → va_S A s.heap H locs → lv_has ls 2 [(0, .ref q_o), (1, .int p1)] → W p l e ({ frames := 6, cells := 1, slots := 6, locals := 90 } : Room) s m args below meth c H locs 0 0 QQ (F0 m 0 ls []) := by
    intro H locs ls hP hD hS hl
    unfold X6_requireHole at hF
    refine lv_iload_n hx hb dX6_requireHole_0 rfl (lv_at hl 1 rfl) ?_
    refine lv_if_lt (tgt := 18) hx hb dX6_requireHole_1 (by decide) (fun c2 => ?_) (fun c2 => ?_)
    · have hF := if_p hF c2
      exact J18  H locs ls hP hD hS (lv_sub hl [] rfl) hF
    · have hF := if_n hF c2
      refine lv_iload_n hx hb dX6_requireHole_4 rfl (lv_at hl 1 rfl) ?_
      refine lv_aload_n hx hb dX6_requireHole_5 rfl (lv_at hl 0 rfl) ?_
      refine va_get (D := D) (ci := 6) (v := .ref q_o_now) (C := RX6) (T := TX6) (N := 8) hx hb hts f_inX6 hown hK hP 0 rfl rfl 1 (by decide) f_f19 (fun _ h9 => h9) rfl dX6_requireHole_6 ?_
      refine va_get (D := D) (ci := 4) (v := .ref q_o_now_box) (C := RX4) (T := TX4) (N := 2) hx hb hts f_inX4 hown hK hP 1 rfl rfl 0 (by decide) f_f51 (fun _ h9 => h9) rfl dX6_requireHole_9 ?_
      refine va_get (D := D) (ci := 0) (v := .int o_now_box_holes) (C := RX0) (T := TX0) (N := 10) hx hb hts f_inX0 hown hK hP 2 rfl rfl 3 (by decide) f_f120 (fun _ h9 => h9) rfl dX6_requireHole_12 ?_
      refine lv_icmp_lt (tgt := 29) hx hb dX6_requireHole_15 (by decide) (fun c3 => ?_) (fun c3 => ?_)
      · have hF := if_p hF c3
        cases hF
      · have hF := if_n hF c3
        exact J18  H locs ls hP hD hS (lv_sub hl [] rfl) hF
  exact main s.heap [] ls hP hD hS hl
theorem kd_X6_requireRange : yX6_requireRange.cls ≠ "java/lang/invoke/MethodHandle" ∧ yX6_requireRange.cls ≠ "java/lang/invoke/VarHandle" ∧ (parseMethodDescriptor yX6_requireRange.desc).map (fun d => d.parameters.length) = some 3 := by decide +kernel
set_option maxHeartbeats 4000000 in
set_option maxRecDepth 100000 in
theorem c_X6_requireRange {l : Launch} {D : va_G} {cy : Nat → ClassId} (sz : Nat) (p0 : Int32) (p1 : Int32) (p2 : Int32) (res : Unit) (hF : X6_requireRange p0 p1 p2 = some (.inr res)) : Met l yX6_requireRange wsX6_requireRange ({ frames := 0, cells := 0, slots := 0, locals := 0 } : Room) (kP (EN D cy) D [.int p0, .int p1, .int p2] [] sz) (kQv D [] (va_A [] sz)) 0 0 (va_A [] sz) := by
  refine kMet (cc := cX6_requireRange) (maxL := 3) (ret := none) (own := RX6) (Qc := fun A9 => (kQv D [] A9)) (by decide) rfl rfl (Nat.le_of_ble_eq_true rfl) ?_
  intro p e s m args below meth c A hx hb hr hts hown hml hlocks hname hE hP hD hA hsz ls hl
  have hK := hE.1
  have hl : lv_has ls 3 [(0, .int p0), (1, .int p1), (2, .int p2)] := hl
  have hS : va_S A s.heap s.heap [] := va_S.rf
  obtain ⟨QQ, hQQ⟩ : ∃ Q9, Q9 = MQ below (kQv D [] A) args s 0 0 A := ⟨_, rfl⟩
  rw [← hQQ]
  have J10 : ∀ (H : Heap) (locs : List Loc) (ls : Array Slot), va_P D vwCl [] H → va_D A [] → va_S A s.heap H locs → lv_has ls 3 [] → X6_requireRange_J10 p0 p1 p2 = some (.inr res) → W p l e ({ frames := 0, cells := 0, slots := 0, locals := 0 } : Room) s m args below meth c H locs 0 0 QQ (F0 m 10 ls []) := by
    intro  H locs ls hP hD hS hl hF
    unfold X6_requireRange_J10 at hF
    cases hF
  have main : ∀ (H : Heap) (locs : List Loc) (ls : Array Slot), va_P D vwCl [] H → va_D A [] → va_S A s.heap H locs → lv_has ls 3 [(0, .int p0), (1, .int p1), (2, .int p2)] → W p l e ({ frames := 0, cells := 0, slots := 0, locals := 0 } : Room) s m args below meth c H locs 0 0 QQ (F0 m 0 ls []) := by
    intro H locs ls hP hD hS hl
    unfold X6_requireRange at hF
    refine lv_iload_n hx hb dX6_requireRange_0 rfl (lv_at hl 0 rfl) ?_
    refine lv_iload_n hx hb dX6_requireRange_1 rfl (lv_at hl 1 rfl) ?_
    refine lv_icmp_lt (tgt := 10) hx hb dX6_requireRange_2 (by decide) (fun c1 => ?_) (fun c1 => ?_)
    · have hF := if_p hF c1
      exact J10  H locs ls hP hD hS (lv_sub hl [] rfl) hF
    · have hF := if_n hF c1
      refine lv_iload_n hx hb dX6_requireRange_5 rfl (lv_at hl 0 rfl) ?_
      refine lv_iload_n hx hb dX6_requireRange_6 rfl (lv_at hl 2 rfl) ?_
      refine lv_icmp_le (tgt := 21) hx hb dX6_requireRange_7 (by decide) (fun c2 => ?_) (fun c2 => ?_)
      · have hF := if_p hF c2
        obtain rfl := si_o hF
        rw [hQQ]
        exact kr_v hx hb hr hlocks hP hD hS dX6_requireRange_21
      · have hF := if_n hF c2
        exact J10  H locs ls hP hD hS (lv_sub hl [] rfl) hF
  exact main s.heap [] ls hP hD hS hl
set_option maxHeartbeats 4000000 in
set_option maxRecDepth 100000 in
theorem t_X6_requireRange {l : Launch} {D : va_G} {cy : Nat → ClassId} (hst : l.stackTraces = false) (sz : Nat) (p0 : Int32) (p1 : Int32) (p2 : Int32) (k9 : Nat) (hF : X6_requireRange p0 p1 p2 = some (.inl k9)) : vx_Met l yX6_requireRange wsX6_requireRange ({ frames := 6, cells := 1, slots := 6, locals := 90 } : Room) (kP (EN D cy) D [.int p0, .int p1, .int p2] [] sz) (kTv (va_A [] sz)) (kXC D k9 [] (va_A [] sz)) 1 6 (va_A [] sz) := by
  refine kMetT (cc := cX6_requireRange) (maxL := 3) (ret := none) (own := RX6) (Qc := fun A9 => (kTv A9)) (X := fun A9 => (kXC D k9 [] A9)) (by decide) rfl rfl (Nat.le_of_ble_eq_true rfl) ?_
  intro p e s m args below meth c A hx hb hr hts hown hml hlocks hxt hE hP hD hA hsz ls hl
  have hK := hE.1
  have hl : lv_has ls 3 [(0, .int p0), (1, .int p1), (2, .int p2)] := hl
  have hS : va_S A s.heap s.heap [] := va_S.rf
  have f_k76 := hts (.classLink RX6 76 "java/lang/IllegalArgumentException") (by decide +kernel)
  have f_i2 := hts (.initialized "java/lang/IllegalArgumentException") (by decide +kernel)
  have fat_80 := vx_hat (L := vx_atS RX6 80 "java/lang/IllegalArgumentException" ["java/lang/RuntimeException", "java/lang/Exception"]) (B := [.castable "java/lang/IllegalArgumentException" "java/lang/IllegalArgumentException"]) (fun w hw => hts w (List.mem_cons_of_mem _ (List.mem_append_right _ hw))) (by decide +kernel) (vx_c (va_Nw.use rfl (hE.2.2.2.2.2.2.2.1 _ (List.mem_of_getElem? (i := 1) rfl))) vx_n)
  obtain ⟨QQ, hQQ⟩ : ∃ Q9, Q9 = vx_MQ below (kTv A) (kXC D k9 [] A) args s 1 6 A := ⟨_, rfl⟩
  rw [← hQQ]
  have J10 : ∀ (H : Heap) (locs : List Loc) (ls : Array Slot), va_P D vwCl [] H → va_D A [] → va_S A s.heap H locs → lv_has ls 3 [] → X6_requireRange_J10 p0 p1 p2 = some (.inl k9) → W p l e ({ frames := 6, cells := 1, slots := 6, locals := 90 } : Room) s m args below meth c H locs 0 0 QQ (F0 m 10 ls []) := by
    intro  H locs ls hP hD hS hl hF
    unfold X6_requireRange_J10 at hF
    obtain rfl := sl_o hF
    obtain ⟨a1, hRa1, hTa1⟩ := hE.2.2.1 ("PeepBox", 279, "out of range", [111, 117, 116, 32, 111, 102, 32, 114, 97, 110, 103, 101]) (by decide +kernel)
    rw [hQQ]
    exact vx_throwSW (A := A) hx hb hst hown (by decide +kernel) (by decide +kernel) f_k76 f_i2 hRa1 fat_80 (by decide +kernel) hE.2.2.2.2.1 hE.2.2.2.2.2.1 hS (by rw [hml]; exact hl.1) dX6_requireRange_10 dX6_requireRange_13 dX6_requireRange_14 dX6_requireRange_17 dX6_requireRange_20 (fun z hz => absurd hz (hxt z)) (Nat.le_of_ble_eq_true rfl) (Nat.le_of_ble_eq_true rfl) (Nat.le_of_ble_eq_true rfl) (Nat.le_of_ble_eq_true rfl) hlocks (kx_end hP hD hS rfl) hS.2.2 (Nat.le_of_ble_eq_true rfl) (Nat.le_of_ble_eq_true rfl)
  have main : ∀ (H : Heap) (locs : List Loc) (ls : Array Slot), va_P D vwCl [] H → va_D A [] → va_S A s.heap H locs → lv_has ls 3 [(0, .int p0), (1, .int p1), (2, .int p2)] → W p l e ({ frames := 6, cells := 1, slots := 6, locals := 90 } : Room) s m args below meth c H locs 0 0 QQ (F0 m 0 ls []) := by
    intro H locs ls hP hD hS hl
    unfold X6_requireRange at hF
    refine lv_iload_n hx hb dX6_requireRange_0 rfl (lv_at hl 0 rfl) ?_
    refine lv_iload_n hx hb dX6_requireRange_1 rfl (lv_at hl 1 rfl) ?_
    refine lv_icmp_lt (tgt := 10) hx hb dX6_requireRange_2 (by decide) (fun c2 => ?_) (fun c2 => ?_)
    · have hF := if_p hF c2
      exact J10  H locs ls hP hD hS (lv_sub hl [] rfl) hF
    · have hF := if_n hF c2
      refine lv_iload_n hx hb dX6_requireRange_5 rfl (lv_at hl 0 rfl) ?_
      refine lv_iload_n hx hb dX6_requireRange_6 rfl (lv_at hl 2 rfl) ?_
      refine lv_icmp_le (tgt := 21) hx hb dX6_requireRange_7 (by decide) (fun c3 => ?_) (fun c3 => ?_)
      · have hF := if_p hF c3
        cases hF
      · have hF := if_n hF c3
        exact J10  H locs ls hP hD hS (lv_sub hl [] rfl) hF
  exact main s.heap [] ls hP hD hS hl
theorem kd_X6_shown : yX6_shown.cls = RX6 ∧ yX6_shown.cls ≠ "java/lang/invoke/MethodHandle" ∧ yX6_shown.cls ≠ "java/lang/invoke/VarHandle" ∧ (parseMethodDescriptor yX6_shown.desc).map (fun d => d.parameters.length) = some 2 := by decide +kernel
set_option maxHeartbeats 4000000 in
set_option maxRecDepth 100000 in
theorem c_X6_shown {l : Launch} {D : va_G} {cy : Nat → ClassId} (q_o q_o_now q_o_now_box q_o_view q_o_view_counts : Nat) (sz : Nat) (x_o_setup x_o_trial x_o_trialView x_o_past x_o_nextPast x_o_undoable x_o_now_crowd x_o_now_box_width x_o_now_box_height x_o_now_box_planes x_o_now_box_reach x_o_now_box_cells x_o_now_box_pulls x_o_now_box_holeX x_o_now_box_holeY x_o_now_box_price x_o_view_seen x_o_view_kinds x_o_view_depths x_o_view_prices : Value) (o_now_box_holes : Int32) (o_view_counts : Nat → Int32) (p1 : Int32) (p2 : Int32) (res : Int32) (hF : X6_shown o_now_box_holes o_view_counts p1 p2 = some (.inr res)) : Met l yX6_shown wsX6_shown ({ frames := 1, cells := 0, slots := 0, locals := 22 } : Room) (kP (EN D cy) D [.ref q_o, .int p1, .int p2] [(q_o, .inr (6, [x_o_setup, .ref q_o_now, x_o_trial, .ref q_o_view, x_o_trialView, x_o_past, x_o_nextPast, x_o_undoable])), (q_o_now, .inr (4, [.ref q_o_now_box, x_o_now_crowd])), (q_o_now_box, .inr (0, [x_o_now_box_width, x_o_now_box_height, x_o_now_box_planes, .int o_now_box_holes, x_o_now_box_reach, x_o_now_box_cells, x_o_now_box_pulls, x_o_now_box_holeX, x_o_now_box_holeY, x_o_now_box_price])), (q_o_view, .inr (5, [x_o_view_seen, .ref q_o_view_counts, x_o_view_kinds, x_o_view_depths, x_o_view_prices])), (q_o_view_counts, .inl (cy 0, 104, .inl o_view_counts))] sz) (kQi D res [(q_o, .inr (6, [x_o_setup, .ref q_o_now, x_o_trial, .ref q_o_view, x_o_trialView, x_o_past, x_o_nextPast, x_o_undoable])), (q_o_now, .inr (4, [.ref q_o_now_box, x_o_now_crowd])), (q_o_now_box, .inr (0, [x_o_now_box_width, x_o_now_box_height, x_o_now_box_planes, .int o_now_box_holes, x_o_now_box_reach, x_o_now_box_cells, x_o_now_box_pulls, x_o_now_box_holeX, x_o_now_box_holeY, x_o_now_box_price])), (q_o_view, .inr (5, [x_o_view_seen, .ref q_o_view_counts, x_o_view_kinds, x_o_view_depths, x_o_view_prices])), (q_o_view_counts, .inl (cy 0, 104, .inl o_view_counts))] (va_A [(q_o, .inr (6, [x_o_setup, .ref q_o_now, x_o_trial, .ref q_o_view, x_o_trialView, x_o_past, x_o_nextPast, x_o_undoable])), (q_o_now, .inr (4, [.ref q_o_now_box, x_o_now_crowd])), (q_o_now_box, .inr (0, [x_o_now_box_width, x_o_now_box_height, x_o_now_box_planes, .int o_now_box_holes, x_o_now_box_reach, x_o_now_box_cells, x_o_now_box_pulls, x_o_now_box_holeX, x_o_now_box_holeY, x_o_now_box_price])), (q_o_view, .inr (5, [x_o_view_seen, .ref q_o_view_counts, x_o_view_kinds, x_o_view_depths, x_o_view_prices])), (q_o_view_counts, .inl (cy 0, 104, .inl o_view_counts))] sz)) 0 0 (va_A [(q_o, .inr (6, [x_o_setup, .ref q_o_now, x_o_trial, .ref q_o_view, x_o_trialView, x_o_past, x_o_nextPast, x_o_undoable])), (q_o_now, .inr (4, [.ref q_o_now_box, x_o_now_crowd])), (q_o_now_box, .inr (0, [x_o_now_box_width, x_o_now_box_height, x_o_now_box_planes, .int o_now_box_holes, x_o_now_box_reach, x_o_now_box_cells, x_o_now_box_pulls, x_o_now_box_holeX, x_o_now_box_holeY, x_o_now_box_price])), (q_o_view, .inr (5, [x_o_view_seen, .ref q_o_view_counts, x_o_view_kinds, x_o_view_depths, x_o_view_prices])), (q_o_view_counts, .inl (cy 0, 104, .inl o_view_counts))] sz) := by
  refine kMet (cc := cX6_shown) (maxL := 3) (ret := some .int) (own := RX6) (Qc := fun A9 => (kQi D res [(q_o, .inr (6, [x_o_setup, .ref q_o_now, x_o_trial, .ref q_o_view, x_o_trialView, x_o_past, x_o_nextPast, x_o_undoable])), (q_o_now, .inr (4, [.ref q_o_now_box, x_o_now_crowd])), (q_o_now_box, .inr (0, [x_o_now_box_width, x_o_now_box_height, x_o_now_box_planes, .int o_now_box_holes, x_o_now_box_reach, x_o_now_box_cells, x_o_now_box_pulls, x_o_now_box_holeX, x_o_now_box_holeY, x_o_now_box_price])), (q_o_view, .inr (5, [x_o_view_seen, .ref q_o_view_counts, x_o_view_kinds, x_o_view_depths, x_o_view_prices])), (q_o_view_counts, .inl (cy 0, 104, .inl o_view_counts))] A9)) (by decide) rfl rfl (Nat.le_of_ble_eq_true rfl) ?_
  intro p e s m args below meth c A hx hb hr hts hown hml hlocks hname hE hP hD hA hsz ls hl
  have hK := hE.1
  have hl : lv_has ls 3 [(0, .ref q_o), (1, .int p1), (2, .int p2)] := hl
  have hS : va_S A s.heap s.heap [] := va_S.rf
  have f_f29 := hts (.fieldLink RX6 29 "PeepBox" "view" "LPeepBox$View;") (by decide +kernel)
  have f_inX6 : ∀ w ∈ wsX60, w ∈ wsX6_shown := by decide +kernel
  have f_f194 := hts (.fieldLink RX6 194 "PeepBox$View" "counts" "[I") (by decide +kernel)
  have f_inX5 : ∀ w ∈ wsX50, w ∈ wsX6_shown := by decide +kernel
  obtain ⟨QQ, hQQ⟩ : ∃ Q9, Q9 = MQ below (kQi D res [(q_o, .inr (6, [x_o_setup, .ref q_o_now, x_o_trial, .ref q_o_view, x_o_trialView, x_o_past, x_o_nextPast, x_o_undoable])), (q_o_now, .inr (4, [.ref q_o_now_box, x_o_now_crowd])), (q_o_now_box, .inr (0, [x_o_now_box_width, x_o_now_box_height, x_o_now_box_planes, .int o_now_box_holes, x_o_now_box_reach, x_o_now_box_cells, x_o_now_box_pulls, x_o_now_box_holeX, x_o_now_box_holeY, x_o_now_box_price])), (q_o_view, .inr (5, [x_o_view_seen, .ref q_o_view_counts, x_o_view_kinds, x_o_view_depths, x_o_view_prices])), (q_o_view_counts, .inl (cy 0, 104, .inl o_view_counts))] A) args s 0 0 A := ⟨_, rfl⟩
  rw [← hQQ]
  have main : ∀ (H : Heap) (locs : List Loc) (ls : Array Slot), va_P D vwCl [(q_o, .inr (6, [x_o_setup, .ref q_o_now, x_o_trial, .ref q_o_view, x_o_trialView, x_o_past, x_o_nextPast, x_o_undoable])), (q_o_now, .inr (4, [.ref q_o_now_box, x_o_now_crowd])), (q_o_now_box, .inr (0, [x_o_now_box_width, x_o_now_box_height, x_o_now_box_planes, .int o_now_box_holes, x_o_now_box_reach, x_o_now_box_cells, x_o_now_box_pulls, x_o_now_box_holeX, x_o_now_box_holeY, x_o_now_box_price])), (q_o_view, .inr (5, [x_o_view_seen, .ref q_o_view_counts, x_o_view_kinds, x_o_view_depths, x_o_view_prices])), (q_o_view_counts, .inl (cy 0, 104, .inl o_view_counts))] H → va_D A [(q_o, .inr (6, [x_o_setup, .ref q_o_now, x_o_trial, .ref q_o_view, x_o_trialView, x_o_past, x_o_nextPast, x_o_undoable])), (q_o_now, .inr (4, [.ref q_o_now_box, x_o_now_crowd])), (q_o_now_box, .inr (0, [x_o_now_box_width, x_o_now_box_height, x_o_now_box_planes, .int o_now_box_holes, x_o_now_box_reach, x_o_now_box_cells, x_o_now_box_pulls, x_o_now_box_holeX, x_o_now_box_holeY, x_o_now_box_price])), (q_o_view, .inr (5, [x_o_view_seen, .ref q_o_view_counts, x_o_view_kinds, x_o_view_depths, x_o_view_prices])), (q_o_view_counts, .inl (cy 0, 104, .inl o_view_counts))] → va_S A s.heap H locs → lv_has ls 3 [(0, .ref q_o), (1, .int p1), (2, .int p2)] → W p l e ({ frames := 1, cells := 0, slots := 0, locals := 22 } : Room) s m args below meth c H locs 0 0 QQ (F0 m 0 ls []) := by
    intro H locs ls hP hD hS hl
    unfold X6_shown at hF
    refine lv_aload_n hx hb dX6_shown_0 rfl (lv_at hl 0 rfl) ?_
    refine lv_iload_n hx hb dX6_shown_1 rfl (lv_at hl 1 rfl) ?_
    obtain ⟨h1, hF⟩ := bx0_n hF
    refine kc_v0 (va_runV (As := [.int p1]) (rest := []) ⟨hx, hb, hml, hown, hts⟩ (c_X6_requireHole q_o q_o_now q_o_now_box H.size x_o_setup x_o_trial (.ref q_o_view) x_o_trialView x_o_past x_o_nextPast x_o_undoable x_o_now_crowd x_o_now_box_width x_o_now_box_height x_o_now_box_planes x_o_now_box_reach x_o_now_box_cells x_o_now_box_pulls x_o_now_box_holeX x_o_now_box_holeY x_o_now_box_price o_now_box_holes p1 _ h1) (cwV 1 hts gX6_shown_X6_requireHole rfl rfl rfl kd_X6_requireHole ⟨Nat.le_of_ble_eq_true rfl, Nat.le_of_ble_eq_true rfl⟩) ⟨kP_blind (EN_ok D cy) D _ _ _, va_recv hK hP (ci := 6) (q0 := 0) rfl rfl, kStart (EN_ok D cy) hE hP hD hS hA [0, 1, 2] rfl rfl _⟩ rfl rfl hl.1 rfl (lv_room (Nat.le_of_ble_eq_true rfl)) dX6_shown_2 ⟨Nat.zero_le _, Nat.zero_le _⟩) hP hD hS hA [0, 1, 2] rfl (by decide) (fun H locs hP hD hS => ?_)
    have hP : va_P D vwCl [(q_o, .inr (6, [x_o_setup, .ref q_o_now, x_o_trial, .ref q_o_view, x_o_trialView, x_o_past, x_o_nextPast, x_o_undoable])), (q_o_now, .inr (4, [.ref q_o_now_box, x_o_now_crowd])), (q_o_now_box, .inr (0, [x_o_now_box_width, x_o_now_box_height, x_o_now_box_planes, .int o_now_box_holes, x_o_now_box_reach, x_o_now_box_cells, x_o_now_box_pulls, x_o_now_box_holeX, x_o_now_box_holeY, x_o_now_box_price])), (q_o_view, .inr (5, [x_o_view_seen, .ref q_o_view_counts, x_o_view_kinds, x_o_view_depths, x_o_view_prices])), (q_o_view_counts, .inl (cy 0, 104, .inl o_view_counts))] H := hP
    have hD : va_D A [(q_o, .inr (6, [x_o_setup, .ref q_o_now, x_o_trial, .ref q_o_view, x_o_trialView, x_o_past, x_o_nextPast, x_o_undoable])), (q_o_now, .inr (4, [.ref q_o_now_box, x_o_now_crowd])), (q_o_now_box, .inr (0, [x_o_now_box_width, x_o_now_box_height, x_o_now_box_planes, .int o_now_box_holes, x_o_now_box_reach, x_o_now_box_cells, x_o_now_box_pulls, x_o_now_box_holeX, x_o_now_box_holeY, x_o_now_box_price])), (q_o_view, .inr (5, [x_o_view_seen, .ref q_o_view_counts, x_o_view_kinds, x_o_view_depths, x_o_view_prices])), (q_o_view_counts, .inl (cy 0, 104, .inl o_view_counts))] := hD
    refine lv_iload_n hx hb dX6_shown_5 rfl (lv_at hl 2 rfl) ?_
    refine lv_iconst (v := 0) hx hb dX6_shown_6 (by decide) ?_
    refine lv_bipush (v := 25) hx hb dX6_shown_7 (by decide) ?_
    obtain ⟨h2, hF⟩ := bx0_n hF
    refine kc_v0 (va_runS (As := [.int p2, .int (0 : Int32), .int (25 : Int32)]) (rest := []) ⟨hx, hb, hml, hown, hts⟩ (c_X6_requireRange H.size p2 (0 : Int32) (25 : Int32) _ h2) (va_cwS 3 hts gX6_shown_X6_requireRange rfl rfl rfl kd_X6_requireRange ⟨Nat.le_of_ble_eq_true rfl, Nat.le_of_ble_eq_true rfl⟩) ⟨kP_blind (EN_ok D cy) D _ _ _, kStart (EN_ok D cy) hE hP hD hS hA [] rfl rfl _⟩ rfl rfl hl.1 rfl (lv_room (Nat.le_of_ble_eq_true rfl)) dX6_shown_9 ⟨Nat.zero_le _, Nat.zero_le _⟩) hP hD hS hA [] rfl (by decide) (fun H locs hP hD hS => ?_)
    have hP : va_P D vwCl [(q_o, .inr (6, [x_o_setup, .ref q_o_now, x_o_trial, .ref q_o_view, x_o_trialView, x_o_past, x_o_nextPast, x_o_undoable])), (q_o_now, .inr (4, [.ref q_o_now_box, x_o_now_crowd])), (q_o_now_box, .inr (0, [x_o_now_box_width, x_o_now_box_height, x_o_now_box_planes, .int o_now_box_holes, x_o_now_box_reach, x_o_now_box_cells, x_o_now_box_pulls, x_o_now_box_holeX, x_o_now_box_holeY, x_o_now_box_price])), (q_o_view, .inr (5, [x_o_view_seen, .ref q_o_view_counts, x_o_view_kinds, x_o_view_depths, x_o_view_prices])), (q_o_view_counts, .inl (cy 0, 104, .inl o_view_counts))] H := hP
    have hD : va_D A [(q_o, .inr (6, [x_o_setup, .ref q_o_now, x_o_trial, .ref q_o_view, x_o_trialView, x_o_past, x_o_nextPast, x_o_undoable])), (q_o_now, .inr (4, [.ref q_o_now_box, x_o_now_crowd])), (q_o_now_box, .inr (0, [x_o_now_box_width, x_o_now_box_height, x_o_now_box_planes, .int o_now_box_holes, x_o_now_box_reach, x_o_now_box_cells, x_o_now_box_pulls, x_o_now_box_holeX, x_o_now_box_holeY, x_o_now_box_price])), (q_o_view, .inr (5, [x_o_view_seen, .ref q_o_view_counts, x_o_view_kinds, x_o_view_depths, x_o_view_prices])), (q_o_view_counts, .inl (cy 0, 104, .inl o_view_counts))] := hD
    refine lv_aload_n hx hb dX6_shown_12 rfl (lv_at hl 0 rfl) ?_
    refine va_get (D := D) (ci := 6) (v := .ref q_o_view) (C := RX6) (T := TX6) (N := 8) hx hb hts f_inX6 hown hK hP 0 rfl rfl 3 (by decide) f_f29 (fun _ h9 => h9) rfl dX6_shown_13 ?_
    refine va_get (D := D) (ci := 5) (v := .ref q_o_view_counts) (C := RX5) (T := TX5) (N := 5) hx hb hts f_inX5 hown hK hP 3 rfl rfl 1 (by decide) f_f194 (fun _ h9 => h9) rfl dX6_shown_16 ?_
    refine lv_iload_n hx hb dX6_shown_19 rfl (lv_at hl 1 rfl) ?_
    refine lv_bipush (v := 26) hx hb dX6_shown_20 (by decide) ?_
    refine lv_imul hx hb dX6_shown_22 ?_
    refine lv_iload_n hx hb dX6_shown_23 rfl (lv_at hl 2 rfl) ?_
    refine lv_iadd hx hb dX6_shown_24 ?_
    obtain ⟨h3, hF⟩ := ld_o hF
    refine va_iald hx hb hK hP 4 0 rfl rfl h3 dX6_shown_25 ?_
    refine lv_topi (fun v4 ev4 => ?_)
    have hF := hF v4 ev4
    obtain rfl := si_o hF
    rw [hQQ]
    exact kr_i hx hb hr hlocks hP hD hS dX6_shown_26
  exact main s.heap [] ls hP hD hS hl
set_option maxHeartbeats 4000000 in
set_option maxRecDepth 100000 in
theorem t_X6_shown {l : Launch} {D : va_G} {cy : Nat → ClassId} (hst : l.stackTraces = false) (q_o q_o_now q_o_now_box q_o_view q_o_view_counts : Nat) (sz : Nat) (x_o_setup x_o_trial x_o_trialView x_o_past x_o_nextPast x_o_undoable x_o_now_crowd x_o_now_box_width x_o_now_box_height x_o_now_box_planes x_o_now_box_reach x_o_now_box_cells x_o_now_box_pulls x_o_now_box_holeX x_o_now_box_holeY x_o_now_box_price x_o_view_seen x_o_view_kinds x_o_view_depths x_o_view_prices : Value) (o_now_box_holes : Int32) (o_view_counts : Nat → Int32) (p1 : Int32) (p2 : Int32) (k9 : Nat) (hF : X6_shown o_now_box_holes o_view_counts p1 p2 = some (.inl k9)) : vx_Met l yX6_shown wsX6_shown ({ frames := 7, cells := 1, slots := 6, locals := 112 } : Room) (kP (EN D cy) D [.ref q_o, .int p1, .int p2] [(q_o, .inr (6, [x_o_setup, .ref q_o_now, x_o_trial, .ref q_o_view, x_o_trialView, x_o_past, x_o_nextPast, x_o_undoable])), (q_o_now, .inr (4, [.ref q_o_now_box, x_o_now_crowd])), (q_o_now_box, .inr (0, [x_o_now_box_width, x_o_now_box_height, x_o_now_box_planes, .int o_now_box_holes, x_o_now_box_reach, x_o_now_box_cells, x_o_now_box_pulls, x_o_now_box_holeX, x_o_now_box_holeY, x_o_now_box_price])), (q_o_view, .inr (5, [x_o_view_seen, .ref q_o_view_counts, x_o_view_kinds, x_o_view_depths, x_o_view_prices])), (q_o_view_counts, .inl (cy 0, 104, .inl o_view_counts))] sz) (kTi (va_A [(q_o, .inr (6, [x_o_setup, .ref q_o_now, x_o_trial, .ref q_o_view, x_o_trialView, x_o_past, x_o_nextPast, x_o_undoable])), (q_o_now, .inr (4, [.ref q_o_now_box, x_o_now_crowd])), (q_o_now_box, .inr (0, [x_o_now_box_width, x_o_now_box_height, x_o_now_box_planes, .int o_now_box_holes, x_o_now_box_reach, x_o_now_box_cells, x_o_now_box_pulls, x_o_now_box_holeX, x_o_now_box_holeY, x_o_now_box_price])), (q_o_view, .inr (5, [x_o_view_seen, .ref q_o_view_counts, x_o_view_kinds, x_o_view_depths, x_o_view_prices])), (q_o_view_counts, .inl (cy 0, 104, .inl o_view_counts))] sz)) (kXC D k9 [(q_o, .inr (6, [x_o_setup, .ref q_o_now, x_o_trial, .ref q_o_view, x_o_trialView, x_o_past, x_o_nextPast, x_o_undoable])), (q_o_now, .inr (4, [.ref q_o_now_box, x_o_now_crowd])), (q_o_now_box, .inr (0, [x_o_now_box_width, x_o_now_box_height, x_o_now_box_planes, .int o_now_box_holes, x_o_now_box_reach, x_o_now_box_cells, x_o_now_box_pulls, x_o_now_box_holeX, x_o_now_box_holeY, x_o_now_box_price])), (q_o_view, .inr (5, [x_o_view_seen, .ref q_o_view_counts, x_o_view_kinds, x_o_view_depths, x_o_view_prices])), (q_o_view_counts, .inl (cy 0, 104, .inl o_view_counts))] (va_A [(q_o, .inr (6, [x_o_setup, .ref q_o_now, x_o_trial, .ref q_o_view, x_o_trialView, x_o_past, x_o_nextPast, x_o_undoable])), (q_o_now, .inr (4, [.ref q_o_now_box, x_o_now_crowd])), (q_o_now_box, .inr (0, [x_o_now_box_width, x_o_now_box_height, x_o_now_box_planes, .int o_now_box_holes, x_o_now_box_reach, x_o_now_box_cells, x_o_now_box_pulls, x_o_now_box_holeX, x_o_now_box_holeY, x_o_now_box_price])), (q_o_view, .inr (5, [x_o_view_seen, .ref q_o_view_counts, x_o_view_kinds, x_o_view_depths, x_o_view_prices])), (q_o_view_counts, .inl (cy 0, 104, .inl o_view_counts))] sz)) 1 6 (va_A [(q_o, .inr (6, [x_o_setup, .ref q_o_now, x_o_trial, .ref q_o_view, x_o_trialView, x_o_past, x_o_nextPast, x_o_undoable])), (q_o_now, .inr (4, [.ref q_o_now_box, x_o_now_crowd])), (q_o_now_box, .inr (0, [x_o_now_box_width, x_o_now_box_height, x_o_now_box_planes, .int o_now_box_holes, x_o_now_box_reach, x_o_now_box_cells, x_o_now_box_pulls, x_o_now_box_holeX, x_o_now_box_holeY, x_o_now_box_price])), (q_o_view, .inr (5, [x_o_view_seen, .ref q_o_view_counts, x_o_view_kinds, x_o_view_depths, x_o_view_prices])), (q_o_view_counts, .inl (cy 0, 104, .inl o_view_counts))] sz) := by
  refine kMetT (cc := cX6_shown) (maxL := 3) (ret := some .int) (own := RX6) (Qc := fun A9 => (kTi A9)) (X := fun A9 => (kXC D k9 [(q_o, .inr (6, [x_o_setup, .ref q_o_now, x_o_trial, .ref q_o_view, x_o_trialView, x_o_past, x_o_nextPast, x_o_undoable])), (q_o_now, .inr (4, [.ref q_o_now_box, x_o_now_crowd])), (q_o_now_box, .inr (0, [x_o_now_box_width, x_o_now_box_height, x_o_now_box_planes, .int o_now_box_holes, x_o_now_box_reach, x_o_now_box_cells, x_o_now_box_pulls, x_o_now_box_holeX, x_o_now_box_holeY, x_o_now_box_price])), (q_o_view, .inr (5, [x_o_view_seen, .ref q_o_view_counts, x_o_view_kinds, x_o_view_depths, x_o_view_prices])), (q_o_view_counts, .inl (cy 0, 104, .inl o_view_counts))] A9)) (by decide) rfl rfl (Nat.le_of_ble_eq_true rfl) ?_
  intro p e s m args below meth c A hx hb hr hts hown hml hlocks hxt hE hP hD hA hsz ls hl
  have hK := hE.1
  have hl : lv_has ls 3 [(0, .ref q_o), (1, .int p1), (2, .int p2)] := hl
  have hS : va_S A s.heap s.heap [] := va_S.rf
  have f_f29 := hts (.fieldLink RX6 29 "PeepBox" "view" "LPeepBox$View;") (by decide +kernel)
  have f_inX6 : ∀ w ∈ wsX60, w ∈ wsX6_shown := by decide +kernel
  have f_f194 := hts (.fieldLink RX6 194 "PeepBox$View" "counts" "[I") (by decide +kernel)
  have f_inX5 : ∀ w ∈ wsX50, w ∈ wsX6_shown := by decide +kernel
  obtain ⟨QQ, hQQ⟩ : ∃ Q9, Q9 = vx_MQ below (kTi A) (kXC D k9 [(q_o, .inr (6, [x_o_setup, .ref q_o_now, x_o_trial, .ref q_o_view, x_o_trialView, x_o_past, x_o_nextPast, x_o_undoable])), (q_o_now, .inr (4, [.ref q_o_now_box, x_o_now_crowd])), (q_o_now_box, .inr (0, [x_o_now_box_width, x_o_now_box_height, x_o_now_box_planes, .int o_now_box_holes, x_o_now_box_reach, x_o_now_box_cells, x_o_now_box_pulls, x_o_now_box_holeX, x_o_now_box_holeY, x_o_now_box_price])), (q_o_view, .inr (5, [x_o_view_seen, .ref q_o_view_counts, x_o_view_kinds, x_o_view_depths, x_o_view_prices])), (q_o_view_counts, .inl (cy 0, 104, .inl o_view_counts))] A) args s 1 6 A := ⟨_, rfl⟩
  rw [← hQQ]
  have main : ∀ (H : Heap) (locs : List Loc) (ls : Array Slot), va_P D vwCl [(q_o, .inr (6, [x_o_setup, .ref q_o_now, x_o_trial, .ref q_o_view, x_o_trialView, x_o_past, x_o_nextPast, x_o_undoable])), (q_o_now, .inr (4, [.ref q_o_now_box, x_o_now_crowd])), (q_o_now_box, .inr (0, [x_o_now_box_width, x_o_now_box_height, x_o_now_box_planes, .int o_now_box_holes, x_o_now_box_reach, x_o_now_box_cells, x_o_now_box_pulls, x_o_now_box_holeX, x_o_now_box_holeY, x_o_now_box_price])), (q_o_view, .inr (5, [x_o_view_seen, .ref q_o_view_counts, x_o_view_kinds, x_o_view_depths, x_o_view_prices])), (q_o_view_counts, .inl (cy 0, 104, .inl o_view_counts))] H → va_D A [(q_o, .inr (6, [x_o_setup, .ref q_o_now, x_o_trial, .ref q_o_view, x_o_trialView, x_o_past, x_o_nextPast, x_o_undoable])), (q_o_now, .inr (4, [.ref q_o_now_box, x_o_now_crowd])), (q_o_now_box, .inr (0, [x_o_now_box_width, x_o_now_box_height, x_o_now_box_planes, .int o_now_box_holes, x_o_now_box_reach, x_o_now_box_cells, x_o_now_box_pulls, x_o_now_box_holeX, x_o_now_box_holeY, x_o_now_box_price])), (q_o_view, .inr (5, [x_o_view_seen, .ref q_o_view_counts, x_o_view_kinds, x_o_view_depths, x_o_view_prices])), (q_o_view_counts, .inl (cy 0, 104, .inl o_view_counts))] → va_S A s.heap H locs → lv_has ls 3 [(0, .ref q_o), (1, .int p1), (2, .int p2)] → W p l e ({ frames := 7, cells := 1, slots := 6, locals := 112 } : Room) s m args below meth c H locs 0 0 QQ (F0 m 0 ls []) := by
    intro H locs ls hP hD hS hl
    unfold X6_shown at hF
    refine lv_aload_n hx hb dX6_shown_0 rfl (lv_at hl 0 rfl) ?_
    refine lv_iload_n hx hb dX6_shown_1 rfl (lv_at hl 1 rfl) ?_
    rcases bx0_t hF with h1 | ⟨h1, hF⟩
    · rw [hQQ]
      exact kt_v (vx_runV (As := [.int p1]) (rest := []) ⟨hx, hb, hml, hown, hts⟩ (t_X6_requireHole hst q_o q_o_now q_o_now_box H.size x_o_setup x_o_trial (.ref q_o_view) x_o_trialView x_o_past x_o_nextPast x_o_undoable x_o_now_crowd x_o_now_box_width x_o_now_box_height x_o_now_box_planes x_o_now_box_reach x_o_now_box_cells x_o_now_box_pulls x_o_now_box_holeX x_o_now_box_holeY x_o_now_box_price o_now_box_holes p1 _ h1) (cwV 1 hts gX6_shown_X6_requireHole rfl rfl rfl kd_X6_requireHole ⟨Nat.le_of_ble_eq_true rfl, Nat.le_of_ble_eq_true rfl⟩) ⟨kP_blind (EN_ok D cy) D _ _ _, va_recv hK hP (ci := 6) (q0 := 0) rfl rfl, kStart (EN_ok D cy) hE hP hD hS hA [0, 1, 2] rfl rfl _⟩ rfl rfl hl.1 rfl (lv_room (Nat.le_of_ble_eq_true rfl)) dX6_shown_2 ⟨Nat.le_of_ble_eq_true rfl, Nat.le_of_ble_eq_true rfl⟩) hP hD hS hA [0, 1, 2] rfl (by decide) hlocks hxt
    refine kc_v0 (va_runV (As := [.int p1]) (rest := []) ⟨hx, hb, hml, hown, hts⟩ (c_X6_requireHole q_o q_o_now q_o_now_box H.size x_o_setup x_o_trial (.ref q_o_view) x_o_trialView x_o_past x_o_nextPast x_o_undoable x_o_now_crowd x_o_now_box_width x_o_now_box_height x_o_now_box_planes x_o_now_box_reach x_o_now_box_cells x_o_now_box_pulls x_o_now_box_holeX x_o_now_box_holeY x_o_now_box_price o_now_box_holes p1 _ h1) (cwV 1 hts gX6_shown_X6_requireHole rfl rfl rfl kd_X6_requireHole ⟨Nat.le_of_ble_eq_true rfl, Nat.le_of_ble_eq_true rfl⟩) ⟨kP_blind (EN_ok D cy) D _ _ _, va_recv hK hP (ci := 6) (q0 := 0) rfl rfl, kStart (EN_ok D cy) hE hP hD hS hA [0, 1, 2] rfl rfl _⟩ rfl rfl hl.1 rfl (lv_room (Nat.le_of_ble_eq_true rfl)) dX6_shown_2 ⟨Nat.zero_le _, Nat.zero_le _⟩) hP hD hS hA [0, 1, 2] rfl (by decide) (fun H locs hP hD hS => ?_)
    have hP : va_P D vwCl [(q_o, .inr (6, [x_o_setup, .ref q_o_now, x_o_trial, .ref q_o_view, x_o_trialView, x_o_past, x_o_nextPast, x_o_undoable])), (q_o_now, .inr (4, [.ref q_o_now_box, x_o_now_crowd])), (q_o_now_box, .inr (0, [x_o_now_box_width, x_o_now_box_height, x_o_now_box_planes, .int o_now_box_holes, x_o_now_box_reach, x_o_now_box_cells, x_o_now_box_pulls, x_o_now_box_holeX, x_o_now_box_holeY, x_o_now_box_price])), (q_o_view, .inr (5, [x_o_view_seen, .ref q_o_view_counts, x_o_view_kinds, x_o_view_depths, x_o_view_prices])), (q_o_view_counts, .inl (cy 0, 104, .inl o_view_counts))] H := hP
    have hD : va_D A [(q_o, .inr (6, [x_o_setup, .ref q_o_now, x_o_trial, .ref q_o_view, x_o_trialView, x_o_past, x_o_nextPast, x_o_undoable])), (q_o_now, .inr (4, [.ref q_o_now_box, x_o_now_crowd])), (q_o_now_box, .inr (0, [x_o_now_box_width, x_o_now_box_height, x_o_now_box_planes, .int o_now_box_holes, x_o_now_box_reach, x_o_now_box_cells, x_o_now_box_pulls, x_o_now_box_holeX, x_o_now_box_holeY, x_o_now_box_price])), (q_o_view, .inr (5, [x_o_view_seen, .ref q_o_view_counts, x_o_view_kinds, x_o_view_depths, x_o_view_prices])), (q_o_view_counts, .inl (cy 0, 104, .inl o_view_counts))] := hD
    refine lv_iload_n hx hb dX6_shown_5 rfl (lv_at hl 2 rfl) ?_
    refine lv_iconst (v := 0) hx hb dX6_shown_6 (by decide) ?_
    refine lv_bipush (v := 25) hx hb dX6_shown_7 (by decide) ?_
    rcases bx0_t hF with h2 | ⟨h2, hF⟩
    · rw [hQQ]
      exact kt_v (vx_runS (As := [.int p2, .int (0 : Int32), .int (25 : Int32)]) (rest := []) ⟨hx, hb, hml, hown, hts⟩ (t_X6_requireRange hst H.size p2 (0 : Int32) (25 : Int32) _ h2) (va_cwS 3 hts gX6_shown_X6_requireRange rfl rfl rfl kd_X6_requireRange ⟨Nat.le_of_ble_eq_true rfl, Nat.le_of_ble_eq_true rfl⟩) ⟨kP_blind (EN_ok D cy) D _ _ _, kStart (EN_ok D cy) hE hP hD hS hA [] rfl rfl _⟩ rfl rfl hl.1 rfl (lv_room (Nat.le_of_ble_eq_true rfl)) dX6_shown_9 ⟨Nat.le_of_ble_eq_true rfl, Nat.le_of_ble_eq_true rfl⟩) hP hD hS hA [] rfl (by decide) hlocks hxt
    refine kc_v0 (va_runS (As := [.int p2, .int (0 : Int32), .int (25 : Int32)]) (rest := []) ⟨hx, hb, hml, hown, hts⟩ (c_X6_requireRange H.size p2 (0 : Int32) (25 : Int32) _ h2) (va_cwS 3 hts gX6_shown_X6_requireRange rfl rfl rfl kd_X6_requireRange ⟨Nat.le_of_ble_eq_true rfl, Nat.le_of_ble_eq_true rfl⟩) ⟨kP_blind (EN_ok D cy) D _ _ _, kStart (EN_ok D cy) hE hP hD hS hA [] rfl rfl _⟩ rfl rfl hl.1 rfl (lv_room (Nat.le_of_ble_eq_true rfl)) dX6_shown_9 ⟨Nat.zero_le _, Nat.zero_le _⟩) hP hD hS hA [] rfl (by decide) (fun H locs hP hD hS => ?_)
    have hP : va_P D vwCl [(q_o, .inr (6, [x_o_setup, .ref q_o_now, x_o_trial, .ref q_o_view, x_o_trialView, x_o_past, x_o_nextPast, x_o_undoable])), (q_o_now, .inr (4, [.ref q_o_now_box, x_o_now_crowd])), (q_o_now_box, .inr (0, [x_o_now_box_width, x_o_now_box_height, x_o_now_box_planes, .int o_now_box_holes, x_o_now_box_reach, x_o_now_box_cells, x_o_now_box_pulls, x_o_now_box_holeX, x_o_now_box_holeY, x_o_now_box_price])), (q_o_view, .inr (5, [x_o_view_seen, .ref q_o_view_counts, x_o_view_kinds, x_o_view_depths, x_o_view_prices])), (q_o_view_counts, .inl (cy 0, 104, .inl o_view_counts))] H := hP
    have hD : va_D A [(q_o, .inr (6, [x_o_setup, .ref q_o_now, x_o_trial, .ref q_o_view, x_o_trialView, x_o_past, x_o_nextPast, x_o_undoable])), (q_o_now, .inr (4, [.ref q_o_now_box, x_o_now_crowd])), (q_o_now_box, .inr (0, [x_o_now_box_width, x_o_now_box_height, x_o_now_box_planes, .int o_now_box_holes, x_o_now_box_reach, x_o_now_box_cells, x_o_now_box_pulls, x_o_now_box_holeX, x_o_now_box_holeY, x_o_now_box_price])), (q_o_view, .inr (5, [x_o_view_seen, .ref q_o_view_counts, x_o_view_kinds, x_o_view_depths, x_o_view_prices])), (q_o_view_counts, .inl (cy 0, 104, .inl o_view_counts))] := hD
    refine lv_aload_n hx hb dX6_shown_12 rfl (lv_at hl 0 rfl) ?_
    refine va_get (D := D) (ci := 6) (v := .ref q_o_view) (C := RX6) (T := TX6) (N := 8) hx hb hts f_inX6 hown hK hP 0 rfl rfl 3 (by decide) f_f29 (fun _ h9 => h9) rfl dX6_shown_13 ?_
    refine va_get (D := D) (ci := 5) (v := .ref q_o_view_counts) (C := RX5) (T := TX5) (N := 5) hx hb hts f_inX5 hown hK hP 3 rfl rfl 1 (by decide) f_f194 (fun _ h9 => h9) rfl dX6_shown_16 ?_
    refine lv_iload_n hx hb dX6_shown_19 rfl (lv_at hl 1 rfl) ?_
    refine lv_bipush (v := 26) hx hb dX6_shown_20 (by decide) ?_
    refine lv_imul hx hb dX6_shown_22 ?_
    refine lv_iload_n hx hb dX6_shown_23 rfl (lv_at hl 2 rfl) ?_
    refine lv_iadd hx hb dX6_shown_24 ?_
    obtain ⟨h3, hF⟩ := ld_o hF
    refine va_iald hx hb hK hP 4 0 rfl rfl h3 dX6_shown_25 ?_
    refine lv_topi (fun v4 ev4 => ?_)
    have hF := hF v4 ev4
    cases hF
  exact main s.heap [] ls hP hD hS hl
