/-! contracts, written by program (gen.py): X1_tick X3_hasRoomFor X3_put X3_begin X3_peek X3_isLetter X3_takesWord X3_fail X3_isDigit X3_readNumber X4_begin X3_readSign X3_readBox X3_isOfLine -/
theorem kd_X1_tick : yX1_tick.cls = RX1 ∧ yX1_tick.cls ≠ "java/lang/invoke/MethodHandle" ∧ yX1_tick.cls ≠ "java/lang/invoke/VarHandle" ∧ (parseMethodDescriptor yX1_tick.desc).map (fun d => d.parameters.length) = some 2 := by decide +kernel
set_option maxHeartbeats 4000000 in
set_option maxRecDepth 100000 in
theorem c_X1_tick {l : Launch} {D : va_G} {cy : Nat → ClassId} (q_o q_o_lookers q_o_facts q_p1 q_p1_holeY q_p1_price q_p1_price_codes q_p1_price_waiting q_p2 q_p2_counts q_p2_kinds q_p2_depths q_p2_prices : Nat) (sz : Nat) (x_p1_width x_p1_planes x_p1_cells x_p1_pulls x_p1_holeX x_p2_seen : Value) (o_viewers : Int32) (o_lookLength : Int32) (o_time : Int32) (o_lookers : Nat → Int32) (o_facts : Nat → Int32) (p1_height : Int32) (p1_holes : Int32) (p1_reach : Int32) (p1_holeY : Nat → Int32) (p1_price_size : Int32) (p1_price_codes : Nat → Int32) (p1_price_waiting : Nat → Int32) (p2_counts : Nat → Int32) (p2_kinds : Nat → Int32) (p2_depths : Nat → Int32) (p2_prices : Nat → Int32) (res : Int32 × (Nat → Int32) × (Nat → Int32) × (Nat → Int32) × (Nat → Int32)) (hF : X1_tick o_viewers o_lookLength o_time o_lookers o_facts p1_height p1_holes p1_reach p1_holeY p1_price_size p1_price_codes p1_price_waiting p2_counts p2_kinds p2_depths p2_prices = some res) : Met l yX1_tick wsX1_tick ({ frames := 6, cells := 0, slots := 0, locals := 158 } : Room) (kP (EN D cy) D [.ref q_o, .ref q_p1, .ref q_p2] [(q_o, .inr (1, [.int o_viewers, .int o_lookLength, .int o_time, .ref q_o_lookers, .ref q_o_facts])), (q_o_lookers, .inl (cy 0, 4, .inl o_lookers)), (q_o_facts, .inl (cy 0, 140, .inl o_facts)), (q_p1, .inr (0, [x_p1_width, .int p1_height, x_p1_planes, .int p1_holes, .int p1_reach, x_p1_cells, x_p1_pulls, x_p1_holeX, .ref q_p1_holeY, .ref q_p1_price])), (q_p1_holeY, .inl (cy 0, 4, .inl p1_holeY)), (q_p1_price, .inr (2, [.ref q_p1_price_codes, .int p1_price_size, .ref q_p1_price_waiting])), (q_p1_price_codes, .inl (cy 0, 800, .inl p1_price_codes)), (q_p1_price_waiting, .inl (cy 0, 16, .inl p1_price_waiting)), (q_p2, .inr (5, [x_p2_seen, .ref q_p2_counts, .ref q_p2_kinds, .ref q_p2_depths, .ref q_p2_prices])), (q_p2_counts, .inl (cy 0, 104, .inl p2_counts)), (q_p2_kinds, .inl (cy 0, 4, .inl p2_kinds)), (q_p2_depths, .inl (cy 0, 4, .inl p2_depths)), (q_p2_prices, .inl (cy 0, 104, .inl p2_prices))] sz) (kQv D [(q_o, .inr (1, [.int o_viewers, .int o_lookLength, .int res.1, .ref q_o_lookers, .ref q_o_facts])), (q_o_lookers, .inl (cy 0, 4, .inl res.2.1)), (q_o_facts, .inl (cy 0, 140, .inl res.2.2.1)), (q_p1, .inr (0, [x_p1_width, .int p1_height, x_p1_planes, .int p1_holes, .int p1_reach, x_p1_cells, x_p1_pulls, x_p1_holeX, .ref q_p1_holeY, .ref q_p1_price])), (q_p1_holeY, .inl (cy 0, 4, .inl p1_holeY)), (q_p1_price, .inr (2, [.ref q_p1_price_codes, .int p1_price_size, .ref q_p1_price_waiting])), (q_p1_price_codes, .inl (cy 0, 800, .inl p1_price_codes)), (q_p1_price_waiting, .inl (cy 0, 16, .inl res.2.2.2.1)), (q_p2, .inr (5, [x_p2_seen, .ref q_p2_counts, .ref q_p2_kinds, .ref q_p2_depths, .ref q_p2_prices])), (q_p2_counts, .inl (cy 0, 104, .inl p2_counts)), (q_p2_kinds, .inl (cy 0, 4, .inl p2_kinds)), (q_p2_depths, .inl (cy 0, 4, .inl p2_depths)), (q_p2_prices, .inl (cy 0, 104, .inl res.2.2.2.2))] (va_A [(q_o, .inr (1, [.int o_viewers, .int o_lookLength, .int o_time, .ref q_o_lookers, .ref q_o_facts])), (q_o_lookers, .inl (cy 0, 4, .inl o_lookers)), (q_o_facts, .inl (cy 0, 140, .inl o_facts)), (q_p1, .inr (0, [x_p1_width, .int p1_height, x_p1_planes, .int p1_holes, .int p1_reach, x_p1_cells, x_p1_pulls, x_p1_holeX, .ref q_p1_holeY, .ref q_p1_price])), (q_p1_holeY, .inl (cy 0, 4, .inl p1_holeY)), (q_p1_price, .inr (2, [.ref q_p1_price_codes, .int p1_price_size, .ref q_p1_price_waiting])), (q_p1_price_codes, .inl (cy 0, 800, .inl p1_price_codes)), (q_p1_price_waiting, .inl (cy 0, 16, .inl p1_price_waiting)), (q_p2, .inr (5, [x_p2_seen, .ref q_p2_counts, .ref q_p2_kinds, .ref q_p2_depths, .ref q_p2_prices])), (q_p2_counts, .inl (cy 0, 104, .inl p2_counts)), (q_p2_kinds, .inl (cy 0, 4, .inl p2_kinds)), (q_p2_depths, .inl (cy 0, 4, .inl p2_depths)), (q_p2_prices, .inl (cy 0, 104, .inl p2_prices))] sz)) 0 0 (va_A [(q_o, .inr (1, [.int o_viewers, .int o_lookLength, .int o_time, .ref q_o_lookers, .ref q_o_facts])), (q_o_lookers, .inl (cy 0, 4, .inl o_lookers)), (q_o_facts, .inl (cy 0, 140, .inl o_facts)), (q_p1, .inr (0, [x_p1_width, .int p1_height, x_p1_planes, .int p1_holes, .int p1_reach, x_p1_cells, x_p1_pulls, x_p1_holeX, .ref q_p1_holeY, .ref q_p1_price])), (q_p1_holeY, .inl (cy 0, 4, .inl p1_holeY)), (q_p1_price, .inr (2, [.ref q_p1_price_codes, .int p1_price_size, .ref q_p1_price_waiting])), (q_p1_price_codes, .inl (cy 0, 800, .inl p1_price_codes)), (q_p1_price_waiting, .inl (cy 0, 16, .inl p1_price_waiting)), (q_p2, .inr (5, [x_p2_seen, .ref q_p2_counts, .ref q_p2_kinds, .ref q_p2_depths, .ref q_p2_prices])), (q_p2_counts, .inl (cy 0, 104, .inl p2_counts)), (q_p2_kinds, .inl (cy 0, 4, .inl p2_kinds)), (q_p2_depths, .inl (cy 0, 4, .inl p2_depths)), (q_p2_prices, .inl (cy 0, 104, .inl p2_prices))] sz) := by
  refine kMet (y := yX1_tick) (av := [.ref q_o, .ref q_p1, .ref q_p2]) (cc := cX1_tick) (maxL := 4) (ret := none) (own := RX1) (Qc := fun A9 => (kQv D [(q_o, .inr (1, [.int o_viewers, .int o_lookLength, .int res.1, .ref q_o_lookers, .ref q_o_facts])), (q_o_lookers, .inl (cy 0, 4, .inl res.2.1)), (q_o_facts, .inl (cy 0, 140, .inl res.2.2.1)), (q_p1, .inr (0, [x_p1_width, .int p1_height, x_p1_planes, .int p1_holes, .int p1_reach, x_p1_cells, x_p1_pulls, x_p1_holeX, .ref q_p1_holeY, .ref q_p1_price])), (q_p1_holeY, .inl (cy 0, 4, .inl p1_holeY)), (q_p1_price, .inr (2, [.ref q_p1_price_codes, .int p1_price_size, .ref q_p1_price_waiting])), (q_p1_price_codes, .inl (cy 0, 800, .inl p1_price_codes)), (q_p1_price_waiting, .inl (cy 0, 16, .inl res.2.2.2.1)), (q_p2, .inr (5, [x_p2_seen, .ref q_p2_counts, .ref q_p2_kinds, .ref q_p2_depths, .ref q_p2_prices])), (q_p2_counts, .inl (cy 0, 104, .inl p2_counts)), (q_p2_kinds, .inl (cy 0, 4, .inl p2_kinds)), (q_p2_depths, .inl (cy 0, 4, .inl p2_depths)), (q_p2_prices, .inl (cy 0, 104, .inl res.2.2.2.2))] A9)) (by decide) rfl rfl (Nat.le_of_ble_eq_true rfl) ?_
  intro p e s m args below meth c A hx hb hr hts hown hml hlocks hname hE hP hD hA hsz ls hl
  have hK := hE.1
  have hl : lv_has ls 4 [(0, .ref q_o), (1, .ref q_p1), (2, .ref q_p2)] := hl
  have hS : va_S A s.heap s.heap [] := va_S.rf
  have f_f9 := hts (.fieldLink RX1 9 "PeepBox$Crowd" "viewers" "I") (by decide +kernel)
  have f_inX1 : ∀ w ∈ wsX10, w ∈ wsX1_tick := by decide +kernel
  have f_f18 := hts (.fieldLink RX1 18 "PeepBox$Crowd" "time" "I") (by decide +kernel)
  obtain ⟨QQ, hQQ⟩ : ∃ Q9, Q9 = MQ below (kQv D [(q_o, .inr (1, [.int o_viewers, .int o_lookLength, .int res.1, .ref q_o_lookers, .ref q_o_facts])), (q_o_lookers, .inl (cy 0, 4, .inl res.2.1)), (q_o_facts, .inl (cy 0, 140, .inl res.2.2.1)), (q_p1, .inr (0, [x_p1_width, .int p1_height, x_p1_planes, .int p1_holes, .int p1_reach, x_p1_cells, x_p1_pulls, x_p1_holeX, .ref q_p1_holeY, .ref q_p1_price])), (q_p1_holeY, .inl (cy 0, 4, .inl p1_holeY)), (q_p1_price, .inr (2, [.ref q_p1_price_codes, .int p1_price_size, .ref q_p1_price_waiting])), (q_p1_price_codes, .inl (cy 0, 800, .inl p1_price_codes)), (q_p1_price_waiting, .inl (cy 0, 16, .inl res.2.2.2.1)), (q_p2, .inr (5, [x_p2_seen, .ref q_p2_counts, .ref q_p2_kinds, .ref q_p2_depths, .ref q_p2_prices])), (q_p2_counts, .inl (cy 0, 104, .inl p2_counts)), (q_p2_kinds, .inl (cy 0, 4, .inl p2_kinds)), (q_p2_depths, .inl (cy 0, 4, .inl p2_depths)), (q_p2_prices, .inl (cy 0, 104, .inl res.2.2.2.2))] A) args s 0 0 A := ⟨_, rfl⟩
  rw [← hQQ]
  have J35 : ∀ (n35 : Nat) (l3 : Int32) (o_lookers : Nat → Int32) (o_facts : Nat → Int32) (p1_price_waiting : Nat → Int32) (p2_prices : Nat → Int32) (H : Heap) (locs : List Loc) (ls : Array Slot), va_P D vwCl [(q_o, .inr (1, [.int o_viewers, .int o_lookLength, .int o_time, .ref q_o_lookers, .ref q_o_facts])), (q_o_lookers, .inl (cy 0, 4, .inl o_lookers)), (q_o_facts, .inl (cy 0, 140, .inl o_facts)), (q_p1, .inr (0, [x_p1_width, .int p1_height, x_p1_planes, .int p1_holes, .int p1_reach, x_p1_cells, x_p1_pulls, x_p1_holeX, .ref q_p1_holeY, .ref q_p1_price])), (q_p1_holeY, .inl (cy 0, 4, .inl p1_holeY)), (q_p1_price, .inr (2, [.ref q_p1_price_codes, .int p1_price_size, .ref q_p1_price_waiting])), (q_p1_price_codes, .inl (cy 0, 800, .inl p1_price_codes)), (q_p1_price_waiting, .inl (cy 0, 16, .inl p1_price_waiting)), (q_p2, .inr (5, [x_p2_seen, .ref q_p2_counts, .ref q_p2_kinds, .ref q_p2_depths, .ref q_p2_prices])), (q_p2_counts, .inl (cy 0, 104, .inl p2_counts)), (q_p2_kinds, .inl (cy 0, 4, .inl p2_kinds)), (q_p2_depths, .inl (cy 0, 4, .inl p2_depths)), (q_p2_prices, .inl (cy 0, 104, .inl p2_prices))] H → va_D A [(q_o, .inr (1, [.int o_viewers, .int o_lookLength, .int o_time, .ref q_o_lookers, .ref q_o_facts])), (q_o_lookers, .inl (cy 0, 4, .inl o_lookers)), (q_o_facts, .inl (cy 0, 140, .inl o_facts)), (q_p1, .inr (0, [x_p1_width, .int p1_height, x_p1_planes, .int p1_holes, .int p1_reach, x_p1_cells, x_p1_pulls, x_p1_holeX, .ref q_p1_holeY, .ref q_p1_price])), (q_p1_holeY, .inl (cy 0, 4, .inl p1_holeY)), (q_p1_price, .inr (2, [.ref q_p1_price_codes, .int p1_price_size, .ref q_p1_price_waiting])), (q_p1_price_codes, .inl (cy 0, 800, .inl p1_price_codes)), (q_p1_price_waiting, .inl (cy 0, 16, .inl p1_price_waiting)), (q_p2, .inr (5, [x_p2_seen, .ref q_p2_counts, .ref q_p2_kinds, .ref q_p2_depths, .ref q_p2_prices])), (q_p2_counts, .inl (cy 0, 104, .inl p2_counts)), (q_p2_kinds, .inl (cy 0, 4, .inl p2_kinds)), (q_p2_depths, .inl (cy 0, 4, .inl p2_depths)), (q_p2_prices, .inl (cy 0, 104, .inl p2_prices))] → va_S A s.heap H locs → lv_has ls 4 [(0, .ref q_o), (1, .ref q_p1), (2, .ref q_p2), (3, .int l3)] → X1_tick_L35 o_viewers o_lookLength o_time p1_height p1_holes p1_reach p1_holeY p1_price_size p1_price_codes p2_counts p2_kinds p2_depths n35 l3 o_lookers o_facts p1_price_waiting p2_prices = some res → W p l e ({ frames := 6, cells := 0, slots := 0, locals := 158 } : Room) s m args below meth c H locs 0 0 QQ (F0 m 35 ls []) := by
    intro n35
    induction n35 with
    | zero =>
      intro l3 o_lookers o_facts p1_price_waiting p2_prices H locs ls hP hD hS hl hF
      rw [X1_tick_L35] at hF
      cases hF
    | succ n35 ih35 =>
      have J59 : ∀ (l3 : Int32) (o_lookers : Nat → Int32) (o_facts : Nat → Int32) (p1_price_waiting : Nat → Int32) (p2_prices : Nat → Int32) (H : Heap) (locs : List Loc) (ls : Array Slot), va_P D vwCl [(q_o, .inr (1, [.int o_viewers, .int o_lookLength, .int o_time, .ref q_o_lookers, .ref q_o_facts])), (q_o_lookers, .inl (cy 0, 4, .inl o_lookers)), (q_o_facts, .inl (cy 0, 140, .inl o_facts)), (q_p1, .inr (0, [x_p1_width, .int p1_height, x_p1_planes, .int p1_holes, .int p1_reach, x_p1_cells, x_p1_pulls, x_p1_holeX, .ref q_p1_holeY, .ref q_p1_price])), (q_p1_holeY, .inl (cy 0, 4, .inl p1_holeY)), (q_p1_price, .inr (2, [.ref q_p1_price_codes, .int p1_price_size, .ref q_p1_price_waiting])), (q_p1_price_codes, .inl (cy 0, 800, .inl p1_price_codes)), (q_p1_price_waiting, .inl (cy 0, 16, .inl p1_price_waiting)), (q_p2, .inr (5, [x_p2_seen, .ref q_p2_counts, .ref q_p2_kinds, .ref q_p2_depths, .ref q_p2_prices])), (q_p2_counts, .inl (cy 0, 104, .inl p2_counts)), (q_p2_kinds, .inl (cy 0, 4, .inl p2_kinds)), (q_p2_depths, .inl (cy 0, 4, .inl p2_depths)), (q_p2_prices, .inl (cy 0, 104, .inl p2_prices))] H → va_D A [(q_o, .inr (1, [.int o_viewers, .int o_lookLength, .int o_time, .ref q_o_lookers, .ref q_o_facts])), (q_o_lookers, .inl (cy 0, 4, .inl o_lookers)), (q_o_facts, .inl (cy 0, 140, .inl o_facts)), (q_p1, .inr (0, [x_p1_width, .int p1_height, x_p1_planes, .int p1_holes, .int p1_reach, x_p1_cells, x_p1_pulls, x_p1_holeX, .ref q_p1_holeY, .ref q_p1_price])), (q_p1_holeY, .inl (cy 0, 4, .inl p1_holeY)), (q_p1_price, .inr (2, [.ref q_p1_price_codes, .int p1_price_size, .ref q_p1_price_waiting])), (q_p1_price_codes, .inl (cy 0, 800, .inl p1_price_codes)), (q_p1_price_waiting, .inl (cy 0, 16, .inl p1_price_waiting)), (q_p2, .inr (5, [x_p2_seen, .ref q_p2_counts, .ref q_p2_kinds, .ref q_p2_depths, .ref q_p2_prices])), (q_p2_counts, .inl (cy 0, 104, .inl p2_counts)), (q_p2_kinds, .inl (cy 0, 4, .inl p2_kinds)), (q_p2_depths, .inl (cy 0, 4, .inl p2_depths)), (q_p2_prices, .inl (cy 0, 104, .inl p2_prices))] → va_S A s.heap H locs → lv_has ls 4 [(0, .ref q_o), (1, .ref q_p1), (2, .ref q_p2), (3, .int l3)] → X1_tick_J59 o_viewers o_lookLength o_time p1_height p1_holes p1_reach p1_holeY p1_price_size p1_price_codes p2_counts p2_kinds p2_depths (fun z0 z1 z2 z3 z4 => X1_tick_L35 o_viewers o_lookLength o_time p1_height p1_holes p1_reach p1_holeY p1_price_size p1_price_codes p2_counts p2_kinds p2_depths n35 z0 z1 z2 z3 z4) l3 o_lookers o_facts p1_price_waiting p2_prices = some res → W p l e ({ frames := 6, cells := 0, slots := 0, locals := 158 } : Room) s m args below meth c H locs 0 0 QQ (F0 m 59 ls []) := by
        intro l3 o_lookers o_facts p1_price_waiting p2_prices H locs ls hP hD hS hl hF
        unfold X1_tick_J59 at hF
        obtain ⟨v1, ev1⟩ : ∃ y : Int32, y = l3 + (1 : Int32) := ⟨_, rfl⟩
        have hF := nm_o hF v1 ev1
        refine lv_iinc (v := v1) (lv' := [(3, .int v1), (0, .ref q_o), (1, .ref q_p1), (2, .ref q_p2)]) hx hb dX1_tick_59 hl (k := 3) rfl (by rw [ev1]; rfl) (by decide) rfl (fun ls hl => ?_)
        refine lv_goto (tgt := 35) hx hb dX1_tick_62 (by decide) ?_
        exact ih35 v1 o_lookers o_facts p1_price_waiting p2_prices H locs ls hP hD hS (lv_sub hl [1, 2, 3, 0] rfl) hF
      intro l3 o_lookers o_facts p1_price_waiting p2_prices H locs ls hP hD hS hl hF
      rw [X1_tick_L35] at hF
      refine lv_iload_n hx hb dX1_tick_35 rfl (lv_at hl 3 rfl) ?_
      refine lv_aload_n hx hb dX1_tick_36 rfl (lv_at hl 0 rfl) ?_
      refine va_get (D := D) (ci := 1) (v := .int o_viewers) (C := RX1) (T := TX1) (N := 5) hx hb hts f_inX1 hown hK hP 0 rfl rfl 0 (by decide) f_f9 (fun _ h9 => h9) rfl dX1_tick_37 ?_
      refine lv_icmp_ge (tgt := 65) hx hb dX1_tick_40 (by decide) (fun c2 => ?_) (fun c2 => ?_)
      · have hF := if_p hF c2
        refine lv_aload_n hx hb dX1_tick_65 rfl (lv_at hl 0 rfl) ?_
        refine lv_dup hx hb dX1_tick_66 rfl ?_
        refine va_get (D := D) (ci := 1) (v := .int o_time) (C := RX1) (T := TX1) (N := 5) hx hb hts f_inX1 hown hK hP 0 rfl rfl 2 (by decide) f_f18 (fun _ h9 => h9) rfl dX1_tick_67 ?_
        refine lv_iconst (v := 1) hx hb dX1_tick_70 (by decide) ?_
        refine lv_iadd hx hb dX1_tick_71 ?_
        refine lv_topi (fun v3 ev3 => ?_)
        have hF := nm_o hF v3 ev3
        refine va_put (D := D) (ci := 1) (v := .int v3) (ty := .int) (C := RX1) (T := TX1) (N := 5) hx hb hts f_inX1 tyX1 tyX1_ok nmX1 hown hK hP hD hS 0 rfl rfl 2 (by decide) f_f18 (fun _ h9 => h9) rfl (by decide +kernel) rfl rfl (Nat.le_of_ble_eq_true rfl) dX1_tick_72 (fun H locs hP hD hS => ?_)
        have hP : va_P D vwCl [(q_o, .inr (1, [.int o_viewers, .int o_lookLength, .int v3, .ref q_o_lookers, .ref q_o_facts])), (q_o_lookers, .inl (cy 0, 4, .inl o_lookers)), (q_o_facts, .inl (cy 0, 140, .inl o_facts)), (q_p1, .inr (0, [x_p1_width, .int p1_height, x_p1_planes, .int p1_holes, .int p1_reach, x_p1_cells, x_p1_pulls, x_p1_holeX, .ref q_p1_holeY, .ref q_p1_price])), (q_p1_holeY, .inl (cy 0, 4, .inl p1_holeY)), (q_p1_price, .inr (2, [.ref q_p1_price_codes, .int p1_price_size, .ref q_p1_price_waiting])), (q_p1_price_codes, .inl (cy 0, 800, .inl p1_price_codes)), (q_p1_price_waiting, .inl (cy 0, 16, .inl p1_price_waiting)), (q_p2, .inr (5, [x_p2_seen, .ref q_p2_counts, .ref q_p2_kinds, .ref q_p2_depths, .ref q_p2_prices])), (q_p2_counts, .inl (cy 0, 104, .inl p2_counts)), (q_p2_kinds, .inl (cy 0, 4, .inl p2_kinds)), (q_p2_depths, .inl (cy 0, 4, .inl p2_depths)), (q_p2_prices, .inl (cy 0, 104, .inl p2_prices))] H := hP
        have hD : va_D A [(q_o, .inr (1, [.int o_viewers, .int o_lookLength, .int v3, .ref q_o_lookers, .ref q_o_facts])), (q_o_lookers, .inl (cy 0, 4, .inl o_lookers)), (q_o_facts, .inl (cy 0, 140, .inl o_facts)), (q_p1, .inr (0, [x_p1_width, .int p1_height, x_p1_planes, .int p1_holes, .int p1_reach, x_p1_cells, x_p1_pulls, x_p1_holeX, .ref q_p1_holeY, .ref q_p1_price])), (q_p1_holeY, .inl (cy 0, 4, .inl p1_holeY)), (q_p1_price, .inr (2, [.ref q_p1_price_codes, .int p1_price_size, .ref q_p1_price_waiting])), (q_p1_price_codes, .inl (cy 0, 800, .inl p1_price_codes)), (q_p1_price_waiting, .inl (cy 0, 16, .inl p1_price_waiting)), (q_p2, .inr (5, [x_p2_seen, .ref q_p2_counts, .ref q_p2_kinds, .ref q_p2_depths, .ref q_p2_prices])), (q_p2_counts, .inl (cy 0, 104, .inl p2_counts)), (q_p2_kinds, .inl (cy 0, 4, .inl p2_kinds)), (q_p2_depths, .inl (cy 0, 4, .inl p2_depths)), (q_p2_prices, .inl (cy 0, 104, .inl p2_prices))] := hD
        obtain rfl := so_o hF
        rw [hQQ]
        exact kr_v hx hb hr hlocks hP hD hS dX1_tick_75
      · have hF := if_n hF c2
        refine lv_aload_n hx hb dX1_tick_43 rfl (lv_at hl 0 rfl) ?_
        refine lv_iload_n hx hb dX1_tick_44 rfl (lv_at hl 3 rfl) ?_
        refine lv_iconst (v := 3) hx hb dX1_tick_45 (by decide) ?_
        obtain ⟨r4, h5, hF⟩ := bn1_o hF
        refine kd_i [(q_o, .inr (1, [.int o_viewers, .int o_lookLength, .int o_time, .ref q_o_lookers, .ref q_o_facts])), (q_o_lookers, .inl (cy 0, 4, .inl o_lookers)), (q_o_facts, .inl (cy 0, 140, .inl o_facts)), (q_p1, .inr (0, [x_p1_width, .int p1_height, x_p1_planes, .int p1_holes, .int p1_reach, x_p1_cells, x_p1_pulls, x_p1_holeX, .ref q_p1_holeY, .ref q_p1_price])), (q_p1_holeY, .inl (cy 0, 4, .inl p1_holeY)), (q_p1_price, .inr (2, [.ref q_p1_price_codes, .int p1_price_size, .ref q_p1_price_waiting])), (q_p1_price_codes, .inl (cy 0, 800, .inl p1_price_codes)), (q_p1_price_waiting, .inl (cy 0, 16, .inl p1_price_waiting)), (q_p2, .inr (5, [x_p2_seen, .ref q_p2_counts, .ref q_p2_kinds, .ref q_p2_depths, .ref q_p2_prices])), (q_p2_counts, .inl (cy 0, 104, .inl p2_counts)), (q_p2_kinds, .inl (cy 0, 4, .inl p2_kinds)), (q_p2_depths, .inl (cy 0, 4, .inl p2_depths)), (q_p2_prices, .inl (cy 0, 104, .inl p2_prices))] (va_runV (As := [.int l3, .int (3 : Int32)]) (rest := []) ⟨hx, hb, hml, hown, hts⟩ (c_X1_fact q_o q_o_facts H.size (.int o_viewers) (.int o_lookLength) (.int o_time) (.ref q_o_lookers) o_facts l3 (3 : Int32) _ h5) (cwV 2 hts gX1_tick_X1_fact rfl rfl rfl kd_X1_fact ⟨Nat.le_of_ble_eq_true rfl, Nat.le_of_ble_eq_true rfl⟩) ⟨kP_blind (EN_ok D cy) D _ _ _, va_recv hK hP (ci := 1) (q0 := 0) rfl rfl, kStart (EN_ok D cy) hE hP hD hS hA [0, 2] rfl rfl _⟩ rfl rfl hl.1 rfl (lv_room (Nat.le_of_ble_eq_true rfl)) dX1_tick_46 ⟨Nat.zero_le _, Nat.zero_le _⟩) hP hD hS hA [0, 2] [1, 3, 4, 5, 6, 7, 8, 9, 10, 11, 12] rfl rfl rfl 13 rfl (by decide +kernel) (fun H locs hP hD hS => ?_)
        refine lv_if_ne (tgt := 59) hx hb dX1_tick_49 (by decide) (fun c6 => ?_) (fun c6 => ?_)
        · have hF := if_n hF c6
          exact J59 l3 o_lookers o_facts p1_price_waiting p2_prices H locs ls hP hD hS (lv_sub hl [0, 1, 2, 3] rfl) hF
        · have hF := if_p hF c6
          refine lv_aload_n hx hb dX1_tick_52 rfl (lv_at hl 0 rfl) ?_
          refine lv_iload_n hx hb dX1_tick_53 rfl (lv_at hl 3 rfl) ?_
          refine lv_aload_n hx hb dX1_tick_54 rfl (lv_at hl 1 rfl) ?_
          refine lv_aload_n hx hb dX1_tick_55 rfl (lv_at hl 2 rfl) ?_
          obtain ⟨o7, o8, o9, o10, h11, hF⟩ := bn4_o hF
          refine kd_v [(q_o, .inr (1, [.int o_viewers, .int o_lookLength, .int o_time, .ref q_o_lookers, .ref q_o_facts])), (q_o_lookers, .inl (cy 0, 4, .inl o7)), (q_o_facts, .inl (cy 0, 140, .inl o8)), (q_p1, .inr (0, [x_p1_width, .int p1_height, x_p1_planes, .int p1_holes, .int p1_reach, x_p1_cells, x_p1_pulls, x_p1_holeX, .ref q_p1_holeY, .ref q_p1_price])), (q_p1_holeY, .inl (cy 0, 4, .inl p1_holeY)), (q_p1_price, .inr (2, [.ref q_p1_price_codes, .int p1_price_size, .ref q_p1_price_waiting])), (q_p1_price_codes, .inl (cy 0, 800, .inl p1_price_codes)), (q_p1_price_waiting, .inl (cy 0, 16, .inl o9)), (q_p2, .inr (5, [x_p2_seen, .ref q_p2_counts, .ref q_p2_kinds, .ref q_p2_depths, .ref q_p2_prices])), (q_p2_counts, .inl (cy 0, 104, .inl p2_counts)), (q_p2_kinds, .inl (cy 0, 4, .inl p2_kinds)), (q_p2_depths, .inl (cy 0, 4, .inl p2_depths)), (q_p2_prices, .inl (cy 0, 104, .inl o10))] (va_runV (As := [.int l3, .ref q_p1, .ref q_p2]) (rest := []) ⟨hx, hb, hml, hown, hts⟩ (c_X1_choose q_o q_o_lookers q_o_facts q_p1 q_p1_holeY q_p1_price q_p1_price_codes q_p1_price_waiting q_p2 q_p2_counts q_p2_kinds q_p2_depths q_p2_prices H.size (.int o_viewers) (.int o_time) x_p1_width x_p1_planes x_p1_cells x_p1_pulls x_p1_holeX x_p2_seen o_lookLength o_lookers o_facts p1_height p1_holes p1_reach p1_holeY p1_price_size p1_price_codes p1_price_waiting p2_counts p2_kinds p2_depths p2_prices l3 _ h11) (cwV 3 hts gX1_tick_X1_choose rfl rfl rfl kd_X1_choose ⟨Nat.le_of_ble_eq_true rfl, Nat.le_of_ble_eq_true rfl⟩) ⟨kP_blind (EN_ok D cy) D _ _ _, va_recv hK hP (ci := 1) (q0 := 0) rfl rfl, kStart (EN_ok D cy) hE hP hD hS hA [0, 1, 2, 3, 4, 5, 6, 7, 8, 9, 10, 11, 12] rfl rfl _⟩ rfl rfl hl.1 rfl (lv_room (Nat.le_of_ble_eq_true rfl)) dX1_tick_56 ⟨Nat.zero_le _, Nat.zero_le _⟩) hP hD hS hA [0, 1, 2, 3, 4, 5, 6, 7, 8, 9, 10, 11, 12] [] rfl rfl rfl 13 rfl (by decide +kernel) (fun H locs hP hD hS => ?_)
          exact J59 l3 o7 o8 o9 o10 H locs ls hP hD hS (lv_sub hl [0, 1, 2, 3] rfl) hF
  have J2 : ∀ (n2 : Nat) (l3 : Int32) (o_lookers : Nat → Int32) (o_facts : Nat → Int32) (p1_price_waiting : Nat → Int32) (p2_prices : Nat → Int32) (H : Heap) (locs : List Loc) (ls : Array Slot), va_P D vwCl [(q_o, .inr (1, [.int o_viewers, .int o_lookLength, .int o_time, .ref q_o_lookers, .ref q_o_facts])), (q_o_lookers, .inl (cy 0, 4, .inl o_lookers)), (q_o_facts, .inl (cy 0, 140, .inl o_facts)), (q_p1, .inr (0, [x_p1_width, .int p1_height, x_p1_planes, .int p1_holes, .int p1_reach, x_p1_cells, x_p1_pulls, x_p1_holeX, .ref q_p1_holeY, .ref q_p1_price])), (q_p1_holeY, .inl (cy 0, 4, .inl p1_holeY)), (q_p1_price, .inr (2, [.ref q_p1_price_codes, .int p1_price_size, .ref q_p1_price_waiting])), (q_p1_price_codes, .inl (cy 0, 800, .inl p1_price_codes)), (q_p1_price_waiting, .inl (cy 0, 16, .inl p1_price_waiting)), (q_p2, .inr (5, [x_p2_seen, .ref q_p2_counts, .ref q_p2_kinds, .ref q_p2_depths, .ref q_p2_prices])), (q_p2_counts, .inl (cy 0, 104, .inl p2_counts)), (q_p2_kinds, .inl (cy 0, 4, .inl p2_kinds)), (q_p2_depths, .inl (cy 0, 4, .inl p2_depths)), (q_p2_prices, .inl (cy 0, 104, .inl p2_prices))] H → va_D A [(q_o, .inr (1, [.int o_viewers, .int o_lookLength, .int o_time, .ref q_o_lookers, .ref q_o_facts])), (q_o_lookers, .inl (cy 0, 4, .inl o_lookers)), (q_o_facts, .inl (cy 0, 140, .inl o_facts)), (q_p1, .inr (0, [x_p1_width, .int p1_height, x_p1_planes, .int p1_holes, .int p1_reach, x_p1_cells, x_p1_pulls, x_p1_holeX, .ref q_p1_holeY, .ref q_p1_price])), (q_p1_holeY, .inl (cy 0, 4, .inl p1_holeY)), (q_p1_price, .inr (2, [.ref q_p1_price_codes, .int p1_price_size, .ref q_p1_price_waiting])), (q_p1_price_codes, .inl (cy 0, 800, .inl p1_price_codes)), (q_p1_price_waiting, .inl (cy 0, 16, .inl p1_price_waiting)), (q_p2, .inr (5, [x_p2_seen, .ref q_p2_counts, .ref q_p2_kinds, .ref q_p2_depths, .ref q_p2_prices])), (q_p2_counts, .inl (cy 0, 104, .inl p2_counts)), (q_p2_kinds, .inl (cy 0, 4, .inl p2_kinds)), (q_p2_depths, .inl (cy 0, 4, .inl p2_depths)), (q_p2_prices, .inl (cy 0, 104, .inl p2_prices))] → va_S A s.heap H locs → lv_has ls 4 [(0, .ref q_o), (1, .ref q_p1), (2, .ref q_p2), (3, .int l3)] → X1_tick_L2 o_viewers o_lookLength o_time p1_height p1_holes p1_reach p1_holeY p1_price_size p1_price_codes p2_counts p2_kinds p2_depths n2 l3 o_lookers o_facts p1_price_waiting p2_prices = some res → W p l e ({ frames := 6, cells := 0, slots := 0, locals := 158 } : Room) s m args below meth c H locs 0 0 QQ (F0 m 2 ls []) := by
    intro n2
    induction n2 with
    | zero =>
      intro l3 o_lookers o_facts p1_price_waiting p2_prices H locs ls hP hD hS hl hF
      rw [X1_tick_L2] at hF
      cases hF
    | succ n2 ih2 =>
      have J27 : ∀ (l3 : Int32) (o_lookers : Nat → Int32) (o_facts : Nat → Int32) (p1_price_waiting : Nat → Int32) (p2_prices : Nat → Int32) (H : Heap) (locs : List Loc) (ls : Array Slot), va_P D vwCl [(q_o, .inr (1, [.int o_viewers, .int o_lookLength, .int o_time, .ref q_o_lookers, .ref q_o_facts])), (q_o_lookers, .inl (cy 0, 4, .inl o_lookers)), (q_o_facts, .inl (cy 0, 140, .inl o_facts)), (q_p1, .inr (0, [x_p1_width, .int p1_height, x_p1_planes, .int p1_holes, .int p1_reach, x_p1_cells, x_p1_pulls, x_p1_holeX, .ref q_p1_holeY, .ref q_p1_price])), (q_p1_holeY, .inl (cy 0, 4, .inl p1_holeY)), (q_p1_price, .inr (2, [.ref q_p1_price_codes, .int p1_price_size, .ref q_p1_price_waiting])), (q_p1_price_codes, .inl (cy 0, 800, .inl p1_price_codes)), (q_p1_price_waiting, .inl (cy 0, 16, .inl p1_price_waiting)), (q_p2, .inr (5, [x_p2_seen, .ref q_p2_counts, .ref q_p2_kinds, .ref q_p2_depths, .ref q_p2_prices])), (q_p2_counts, .inl (cy 0, 104, .inl p2_counts)), (q_p2_kinds, .inl (cy 0, 4, .inl p2_kinds)), (q_p2_depths, .inl (cy 0, 4, .inl p2_depths)), (q_p2_prices, .inl (cy 0, 104, .inl p2_prices))] H → va_D A [(q_o, .inr (1, [.int o_viewers, .int o_lookLength, .int o_time, .ref q_o_lookers, .ref q_o_facts])), (q_o_lookers, .inl (cy 0, 4, .inl o_lookers)), (q_o_facts, .inl (cy 0, 140, .inl o_facts)), (q_p1, .inr (0, [x_p1_width, .int p1_height, x_p1_planes, .int p1_holes, .int p1_reach, x_p1_cells, x_p1_pulls, x_p1_holeX, .ref q_p1_holeY, .ref q_p1_price])), (q_p1_holeY, .inl (cy 0, 4, .inl p1_holeY)), (q_p1_price, .inr (2, [.ref q_p1_price_codes, .int p1_price_size, .ref q_p1_price_waiting])), (q_p1_price_codes, .inl (cy 0, 800, .inl p1_price_codes)), (q_p1_price_waiting, .inl (cy 0, 16, .inl p1_price_waiting)), (q_p2, .inr (5, [x_p2_seen, .ref q_p2_counts, .ref q_p2_kinds, .ref q_p2_depths, .ref q_p2_prices])), (q_p2_counts, .inl (cy 0, 104, .inl p2_counts)), (q_p2_kinds, .inl (cy 0, 4, .inl p2_kinds)), (q_p2_depths, .inl (cy 0, 4, .inl p2_depths)), (q_p2_prices, .inl (cy 0, 104, .inl p2_prices))] → va_S A s.heap H locs → lv_has ls 4 [(0, .ref q_o), (1, .ref q_p1), (2, .ref q_p2), (3, .int l3)] → X1_tick_J27 o_viewers o_lookLength o_time p1_height p1_holes p1_reach p1_holeY p1_price_size p1_price_codes p2_counts p2_kinds p2_depths (fun z0 z1 z2 z3 z4 => X1_tick_L2 o_viewers o_lookLength o_time p1_height p1_holes p1_reach p1_holeY p1_price_size p1_price_codes p2_counts p2_kinds p2_depths n2 z0 z1 z2 z3 z4) l3 o_lookers o_facts p1_price_waiting p2_prices = some res → W p l e ({ frames := 6, cells := 0, slots := 0, locals := 158 } : Room) s m args below meth c H locs 0 0 QQ (F0 m 27 ls []) := by
        intro l3 o_lookers o_facts p1_price_waiting p2_prices H locs ls hP hD hS hl hF
        unfold X1_tick_J27 at hF
        obtain ⟨v12, ev12⟩ : ∃ y : Int32, y = l3 + (1 : Int32) := ⟨_, rfl⟩
        have hF := nm_o hF v12 ev12
        refine lv_iinc (v := v12) (lv' := [(3, .int v12), (0, .ref q_o), (1, .ref q_p1), (2, .ref q_p2)]) hx hb dX1_tick_27 hl (k := 3) rfl (by rw [ev12]; rfl) (by decide) rfl (fun ls hl => ?_)
        refine lv_goto (tgt := 2) hx hb dX1_tick_30 (by decide) ?_
        exact ih2 v12 o_lookers o_facts p1_price_waiting p2_prices H locs ls hP hD hS (lv_sub hl [1, 2, 3, 0] rfl) hF
      intro l3 o_lookers o_facts p1_price_waiting p2_prices H locs ls hP hD hS hl hF
      rw [X1_tick_L2] at hF
      refine lv_iload_n hx hb dX1_tick_2 rfl (lv_at hl 3 rfl) ?_
      refine lv_aload_n hx hb dX1_tick_3 rfl (lv_at hl 0 rfl) ?_
      refine va_get (D := D) (ci := 1) (v := .int o_viewers) (C := RX1) (T := TX1) (N := 5) hx hb hts f_inX1 hown hK hP 0 rfl rfl 0 (by decide) f_f9 (fun _ h9 => h9) rfl dX1_tick_4 ?_
      refine lv_icmp_ge (tgt := 33) hx hb dX1_tick_7 (by decide) (fun c13 => ?_) (fun c13 => ?_)
      · have hF := if_p hF c13
        refine lv_iconst (v := 0) hx hb dX1_tick_33 (by decide) ?_
        refine lv_istore_n (lv' := [(3, .int (0 : Int32)), (0, .ref q_o), (1, .ref q_p1), (2, .ref q_p2)]) hx hb dX1_tick_34 rfl hl (by decide) rfl (fun ls hl => ?_)
        exact J35 FU (0 : Int32) o_lookers o_facts p1_price_waiting p2_prices H locs ls hP hD hS (lv_sub hl [1, 2, 3, 0] rfl) hF
      · have hF := if_n hF c13
        refine lv_aload_n hx hb dX1_tick_10 rfl (lv_at hl 0 rfl) ?_
        refine lv_iload_n hx hb dX1_tick_11 rfl (lv_at hl 3 rfl) ?_
        refine lv_iconst (v := 3) hx hb dX1_tick_12 (by decide) ?_
        obtain ⟨r14, h15, hF⟩ := bn1_o hF
        refine kd_i [(q_o, .inr (1, [.int o_viewers, .int o_lookLength, .int o_time, .ref q_o_lookers, .ref q_o_facts])), (q_o_lookers, .inl (cy 0, 4, .inl o_lookers)), (q_o_facts, .inl (cy 0, 140, .inl o_facts)), (q_p1, .inr (0, [x_p1_width, .int p1_height, x_p1_planes, .int p1_holes, .int p1_reach, x_p1_cells, x_p1_pulls, x_p1_holeX, .ref q_p1_holeY, .ref q_p1_price])), (q_p1_holeY, .inl (cy 0, 4, .inl p1_holeY)), (q_p1_price, .inr (2, [.ref q_p1_price_codes, .int p1_price_size, .ref q_p1_price_waiting])), (q_p1_price_codes, .inl (cy 0, 800, .inl p1_price_codes)), (q_p1_price_waiting, .inl (cy 0, 16, .inl p1_price_waiting)), (q_p2, .inr (5, [x_p2_seen, .ref q_p2_counts, .ref q_p2_kinds, .ref q_p2_depths, .ref q_p2_prices])), (q_p2_counts, .inl (cy 0, 104, .inl p2_counts)), (q_p2_kinds, .inl (cy 0, 4, .inl p2_kinds)), (q_p2_depths, .inl (cy 0, 4, .inl p2_depths)), (q_p2_prices, .inl (cy 0, 104, .inl p2_prices))] (va_runV (As := [.int l3, .int (3 : Int32)]) (rest := []) ⟨hx, hb, hml, hown, hts⟩ (c_X1_fact q_o q_o_facts H.size (.int o_viewers) (.int o_lookLength) (.int o_time) (.ref q_o_lookers) o_facts l3 (3 : Int32) _ h15) (cwV 2 hts gX1_tick_X1_fact rfl rfl rfl kd_X1_fact ⟨Nat.le_of_ble_eq_true rfl, Nat.le_of_ble_eq_true rfl⟩) ⟨kP_blind (EN_ok D cy) D _ _ _, va_recv hK hP (ci := 1) (q0 := 0) rfl rfl, kStart (EN_ok D cy) hE hP hD hS hA [0, 2] rfl rfl _⟩ rfl rfl hl.1 rfl (lv_room (Nat.le_of_ble_eq_true rfl)) dX1_tick_13 ⟨Nat.zero_le _, Nat.zero_le _⟩) hP hD hS hA [0, 2] [1, 3, 4, 5, 6, 7, 8, 9, 10, 11, 12] rfl rfl rfl 13 rfl (by decide +kernel) (fun H locs hP hD hS => ?_)
        refine lv_iconst (v := 1) hx hb dX1_tick_16 (by decide) ?_
        refine lv_icmp_ne (tgt := 27) hx hb dX1_tick_17 (by decide) (fun c16 => ?_) (fun c16 => ?_)
        · have hF := if_n hF c16
          exact J27 l3 o_lookers o_facts p1_price_waiting p2_prices H locs ls hP hD hS (lv_sub hl [0, 1, 2, 3] rfl) hF
        · have hF := if_p hF c16
          refine lv_aload_n hx hb dX1_tick_20 rfl (lv_at hl 0 rfl) ?_
          refine lv_iload_n hx hb dX1_tick_21 rfl (lv_at hl 3 rfl) ?_
          refine lv_aload_n hx hb dX1_tick_22 rfl (lv_at hl 1 rfl) ?_
          refine lv_aload_n hx hb dX1_tick_23 rfl (lv_at hl 2 rfl) ?_
          obtain ⟨o17, o18, o19, o20, h21, hF⟩ := bn4_o hF
          refine kd_v [(q_o, .inr (1, [.int o_viewers, .int o_lookLength, .int o_time, .ref q_o_lookers, .ref q_o_facts])), (q_o_lookers, .inl (cy 0, 4, .inl o17)), (q_o_facts, .inl (cy 0, 140, .inl o18)), (q_p1, .inr (0, [x_p1_width, .int p1_height, x_p1_planes, .int p1_holes, .int p1_reach, x_p1_cells, x_p1_pulls, x_p1_holeX, .ref q_p1_holeY, .ref q_p1_price])), (q_p1_holeY, .inl (cy 0, 4, .inl p1_holeY)), (q_p1_price, .inr (2, [.ref q_p1_price_codes, .int p1_price_size, .ref q_p1_price_waiting])), (q_p1_price_codes, .inl (cy 0, 800, .inl p1_price_codes)), (q_p1_price_waiting, .inl (cy 0, 16, .inl o19)), (q_p2, .inr (5, [x_p2_seen, .ref q_p2_counts, .ref q_p2_kinds, .ref q_p2_depths, .ref q_p2_prices])), (q_p2_counts, .inl (cy 0, 104, .inl p2_counts)), (q_p2_kinds, .inl (cy 0, 4, .inl p2_kinds)), (q_p2_depths, .inl (cy 0, 4, .inl p2_depths)), (q_p2_prices, .inl (cy 0, 104, .inl o20))] (va_runV (As := [.int l3, .ref q_p1, .ref q_p2]) (rest := []) ⟨hx, hb, hml, hown, hts⟩ (c_X1_lookOn q_o q_o_lookers q_o_facts q_p1 q_p1_price q_p1_price_codes q_p1_price_waiting q_p2 q_p2_counts q_p2_kinds q_p2_depths q_p2_prices H.size (.int o_viewers) (.int o_lookLength) (.int o_time) x_p1_width (.int p1_height) x_p1_planes (.int p1_holes) (.int p1_reach) x_p1_cells x_p1_pulls x_p1_holeX (.ref q_p1_holeY) x_p2_seen o_lookers o_facts p1_price_size p1_price_codes p1_price_waiting p2_counts p2_kinds p2_depths p2_prices l3 _ h21) (cwV 3 hts gX1_tick_X1_lookOn rfl rfl rfl kd_X1_lookOn ⟨Nat.le_of_ble_eq_true rfl, Nat.le_of_ble_eq_true rfl⟩) ⟨kP_blind (EN_ok D cy) D _ _ _, va_recv hK hP (ci := 1) (q0 := 0) rfl rfl, kStart (EN_ok D cy) hE hP hD hS hA [0, 1, 2, 3, 5, 6, 7, 8, 9, 10, 11, 12] rfl rfl _⟩ rfl rfl hl.1 rfl (lv_room (Nat.le_of_ble_eq_true rfl)) dX1_tick_24 ⟨Nat.zero_le _, Nat.zero_le _⟩) hP hD hS hA [0, 1, 2, 3, 5, 6, 7, 8, 9, 10, 11, 12] [4] rfl rfl rfl 13 rfl (by decide +kernel) (fun H locs hP hD hS => ?_)
          exact J27 l3 o17 o18 o19 o20 H locs ls hP hD hS (lv_sub hl [0, 1, 2, 3] rfl) hF
  have main : ∀ (H : Heap) (locs : List Loc) (ls : Array Slot), va_P D vwCl [(q_o, .inr (1, [.int o_viewers, .int o_lookLength, .int o_time, .ref q_o_lookers, .ref q_o_facts])), (q_o_lookers, .inl (cy 0, 4, .inl o_lookers)), (q_o_facts, .inl (cy 0, 140, .inl o_facts)), (q_p1, .inr (0, [x_p1_width, .int p1_height, x_p1_planes, .int p1_holes, .int p1_reach, x_p1_cells, x_p1_pulls, x_p1_holeX, .ref q_p1_holeY, .ref q_p1_price])), (q_p1_holeY, .inl (cy 0, 4, .inl p1_holeY)), (q_p1_price, .inr (2, [.ref q_p1_price_codes, .int p1_price_size, .ref q_p1_price_waiting])), (q_p1_price_codes, .inl (cy 0, 800, .inl p1_price_codes)), (q_p1_price_waiting, .inl (cy 0, 16, .inl p1_price_waiting)), (q_p2, .inr (5, [x_p2_seen, .ref q_p2_counts, .ref q_p2_kinds, .ref q_p2_depths, .ref q_p2_prices])), (q_p2_counts, .inl (cy 0, 104, .inl p2_counts)), (q_p2_kinds, .inl (cy 0, 4, .inl p2_kinds)), (q_p2_depths, .inl (cy 0, 4, .inl p2_depths)), (q_p2_prices, .inl (cy 0, 104, .inl p2_prices))] H → va_D A [(q_o, .inr (1, [.int o_viewers, .int o_lookLength, .int o_time, .ref q_o_lookers, .ref q_o_facts])), (q_o_lookers, .inl (cy 0, 4, .inl o_lookers)), (q_o_facts, .inl (cy 0, 140, .inl o_facts)), (q_p1, .inr (0, [x_p1_width, .int p1_height, x_p1_planes, .int p1_holes, .int p1_reach, x_p1_cells, x_p1_pulls, x_p1_holeX, .ref q_p1_holeY, .ref q_p1_price])), (q_p1_holeY, .inl (cy 0, 4, .inl p1_holeY)), (q_p1_price, .inr (2, [.ref q_p1_price_codes, .int p1_price_size, .ref q_p1_price_waiting])), (q_p1_price_codes, .inl (cy 0, 800, .inl p1_price_codes)), (q_p1_price_waiting, .inl (cy 0, 16, .inl p1_price_waiting)), (q_p2, .inr (5, [x_p2_seen, .ref q_p2_counts, .ref q_p2_kinds, .ref q_p2_depths, .ref q_p2_prices])), (q_p2_counts, .inl (cy 0, 104, .inl p2_counts)), (q_p2_kinds, .inl (cy 0, 4, .inl p2_kinds)), (q_p2_depths, .inl (cy 0, 4, .inl p2_depths)), (q_p2_prices, .inl (cy 0, 104, .inl p2_prices))] → va_S A s.heap H locs → lv_has ls 4 [(0, .ref q_o), (1, .ref q_p1), (2, .ref q_p2)] → W p l e ({ frames := 6, cells := 0, slots := 0, locals := 158 } : Room) s m args below meth c H locs 0 0 QQ (F0 m 0 ls []) := by
    intro H locs ls hP hD hS hl
    unfold X1_tick at hF
    refine lv_iconst (v := 0) hx hb dX1_tick_0 (by decide) ?_
    refine lv_istore_n (lv' := [(3, .int (0 : Int32)), (0, .ref q_o), (1, .ref q_p1), (2, .ref q_p2)]) hx hb dX1_tick_1 rfl hl (by decide) rfl (fun ls hl => ?_)
    exact J2 FU (0 : Int32) o_lookers o_facts p1_price_waiting p2_prices H locs ls hP hD hS (lv_sub hl [1, 2, 3, 0] rfl) hF
  exact main s.heap [] ls hP hD hS hl
theorem kd_X3_hasRoomFor : yX3_hasRoomFor.cls = RX3 ∧ yX3_hasRoomFor.cls ≠ "java/lang/invoke/MethodHandle" ∧ yX3_hasRoomFor.cls ≠ "java/lang/invoke/VarHandle" ∧ (parseMethodDescriptor yX3_hasRoomFor.desc).map (fun d => d.parameters.length) = some 1 := by decide +kernel
set_option maxHeartbeats 4000000 in
set_option maxRecDepth 100000 in
theorem c_X3_hasRoomFor {l : Launch} {D : va_G} {cy : Nat → ClassId} (q_o : Nat) (sz : Nat) (x_o_show x_o_error x_o_errorAt x_o_bytes x_o_end x_o_at x_o_number x_o_planesTold x_o_reachTold x_o_lengthTold x_o_priceTold : Value) (o_filled : Int32) (p1 : Int32) (res : Int32) (hF : X3_hasRoomFor o_filled p1 = some res) : Met l yX3_hasRoomFor wsX3_hasRoomFor ({ frames := 0, cells := 0, slots := 0, locals := 0 } : Room) (kP (EN D cy) D [.ref q_o, .int p1] [(q_o, .inr (3, [x_o_show, .int o_filled, x_o_error, x_o_errorAt, x_o_bytes, x_o_end, x_o_at, x_o_number, x_o_planesTold, x_o_reachTold, x_o_lengthTold, x_o_priceTold]))] sz) (kQi D res [(q_o, .inr (3, [x_o_show, .int o_filled, x_o_error, x_o_errorAt, x_o_bytes, x_o_end, x_o_at, x_o_number, x_o_planesTold, x_o_reachTold, x_o_lengthTold, x_o_priceTold]))] (va_A [(q_o, .inr (3, [x_o_show, .int o_filled, x_o_error, x_o_errorAt, x_o_bytes, x_o_end, x_o_at, x_o_number, x_o_planesTold, x_o_reachTold, x_o_lengthTold, x_o_priceTold]))] sz)) 0 0 (va_A [(q_o, .inr (3, [x_o_show, .int o_filled, x_o_error, x_o_errorAt, x_o_bytes, x_o_end, x_o_at, x_o_number, x_o_planesTold, x_o_reachTold, x_o_lengthTold, x_o_priceTold]))] sz) := by
  refine kMet (y := yX3_hasRoomFor) (av := [.ref q_o, .int p1]) (cc := cX3_hasRoomFor) (maxL := 2) (ret := some .boolean) (own := RX3) (Qc := fun A9 => (kQi D res [(q_o, .inr (3, [x_o_show, .int o_filled, x_o_error, x_o_errorAt, x_o_bytes, x_o_end, x_o_at, x_o_number, x_o_planesTold, x_o_reachTold, x_o_lengthTold, x_o_priceTold]))] A9)) (by decide) rfl rfl (Nat.le_of_ble_eq_true rfl) ?_
  intro p e s m args below meth c A hx hb hr hts hown hml hlocks hname hE hP hD hA hsz ls hl
  have hK := hE.1
  have hl : lv_has ls 2 [(0, .ref q_o), (1, .int p1)] := hl
  have hS : va_S A s.heap s.heap [] := va_S.rf
  have f_f18 := hts (.fieldLink RX3 18 "PeepBox$Setup" "filled" "I") (by decide +kernel)
  have f_inX3 : ∀ w ∈ wsX30, w ∈ wsX3_hasRoomFor := by decide +kernel
  obtain ⟨QQ, hQQ⟩ : ∃ Q9, Q9 = MQ below (kQi D res [(q_o, .inr (3, [x_o_show, .int o_filled, x_o_error, x_o_errorAt, x_o_bytes, x_o_end, x_o_at, x_o_number, x_o_planesTold, x_o_reachTold, x_o_lengthTold, x_o_priceTold]))] A) args s 0 0 A := ⟨_, rfl⟩
  rw [← hQQ]
  have main : ∀ (H : Heap) (locs : List Loc) (ls : Array Slot), va_P D vwCl [(q_o, .inr (3, [x_o_show, .int o_filled, x_o_error, x_o_errorAt, x_o_bytes, x_o_end, x_o_at, x_o_number, x_o_planesTold, x_o_reachTold, x_o_lengthTold, x_o_priceTold]))] H → va_D A [(q_o, .inr (3, [x_o_show, .int o_filled, x_o_error, x_o_errorAt, x_o_bytes, x_o_end, x_o_at, x_o_number, x_o_planesTold, x_o_reachTold, x_o_lengthTold, x_o_priceTold]))] → va_S A s.heap H locs → lv_has ls 2 [(0, .ref q_o), (1, .int p1)] → W p l e ({ frames := 0, cells := 0, slots := 0, locals := 0 } : Room) s m args below meth c H locs 0 0 QQ (F0 m 0 ls []) := by
    intro H locs ls hP hD hS hl
    unfold X3_hasRoomFor at hF
    refine lv_aload_n hx hb dX3_hasRoomFor_0 rfl (lv_at hl 0 rfl) ?_
    refine va_get (D := D) (ci := 3) (v := .int o_filled) (C := RX3) (T := TX3) (N := 12) hx hb hts f_inX3 hown hK hP 0 rfl rfl 1 (by decide) f_f18 (fun _ h9 => h9) rfl dX3_hasRoomFor_1 ?_
    refine lv_iload_n hx hb dX3_hasRoomFor_4 rfl (lv_at hl 1 rfl) ?_
    refine lv_iadd hx hb dX3_hasRoomFor_5 ?_
    refine lv_sipush (v := 800) hx hb dX3_hasRoomFor_6 (by decide) ?_
    refine lv_icmp_gt (tgt := 16) hx hb dX3_hasRoomFor_9 (by decide) (fun c1 => ?_) (fun c1 => ?_)
    · have hF := if_p hF c1
      refine lv_iconst (v := 0) hx hb dX3_hasRoomFor_16 (by decide) ?_
      obtain rfl := so_o hF
      rw [hQQ]
      exact kr_z (v := (0 : Int32)) hx hb hr hlocks rfl hP hD hS dX3_hasRoomFor_17
    · have hF := if_n hF c1
      refine lv_iconst (v := 1) hx hb dX3_hasRoomFor_12 (by decide) ?_
      refine lv_goto (tgt := 17) hx hb dX3_hasRoomFor_13 (by decide) ?_
      obtain rfl := so_o hF
      rw [hQQ]
      exact kr_z (v := (1 : Int32)) hx hb hr hlocks rfl hP hD hS dX3_hasRoomFor_17
  exact main s.heap [] ls hP hD hS hl
theorem kd_X3_put : yX3_put.cls = RX3 ∧ yX3_put.cls ≠ "java/lang/invoke/MethodHandle" ∧ yX3_put.cls ≠ "java/lang/invoke/VarHandle" ∧ (parseMethodDescriptor yX3_put.desc).map (fun d => d.parameters.length) = some 1 := by decide +kernel
set_option maxHeartbeats 4000000 in
set_option maxRecDepth 100000 in
theorem c_X3_put {l : Launch} {D : va_G} {cy : Nat → ClassId} (q_o q_o_bytes : Nat) (sz : Nat) (x_o_show x_o_error x_o_errorAt x_o_end x_o_at x_o_number x_o_planesTold x_o_reachTold x_o_lengthTold x_o_priceTold : Value) (o_filled : Int32) (o_bytes : Nat → Int32) (p1 : Int32) (res : Int32 × (Nat → Int32)) (hF : X3_put o_filled o_bytes p1 = some res) : Met l yX3_put wsX3_put ({ frames := 0, cells := 0, slots := 0, locals := 0 } : Room) (kP (EN D cy) D [.ref q_o, .int p1] [(q_o, .inr (3, [x_o_show, .int o_filled, x_o_error, x_o_errorAt, .ref q_o_bytes, x_o_end, x_o_at, x_o_number, x_o_planesTold, x_o_reachTold, x_o_lengthTold, x_o_priceTold])), (q_o_bytes, .inl (cy 1, 800, .inl o_bytes))] sz) (kQv D [(q_o, .inr (3, [x_o_show, .int res.1, x_o_error, x_o_errorAt, .ref q_o_bytes, x_o_end, x_o_at, x_o_number, x_o_planesTold, x_o_reachTold, x_o_lengthTold, x_o_priceTold])), (q_o_bytes, .inl (cy 1, 800, .inl res.2))] (va_A [(q_o, .inr (3, [x_o_show, .int o_filled, x_o_error, x_o_errorAt, .ref q_o_bytes, x_o_end, x_o_at, x_o_number, x_o_planesTold, x_o_reachTold, x_o_lengthTold, x_o_priceTold])), (q_o_bytes, .inl (cy 1, 800, .inl o_bytes))] sz)) 0 0 (va_A [(q_o, .inr (3, [x_o_show, .int o_filled, x_o_error, x_o_errorAt, .ref q_o_bytes, x_o_end, x_o_at, x_o_number, x_o_planesTold, x_o_reachTold, x_o_lengthTold, x_o_priceTold])), (q_o_bytes, .inl (cy 1, 800, .inl o_bytes))] sz) := by
  refine kMet (y := yX3_put) (av := [.ref q_o, .int p1]) (cc := cX3_put) (maxL := 3) (ret := none) (own := RX3) (Qc := fun A9 => (kQv D [(q_o, .inr (3, [x_o_show, .int res.1, x_o_error, x_o_errorAt, .ref q_o_bytes, x_o_end, x_o_at, x_o_number, x_o_planesTold, x_o_reachTold, x_o_lengthTold, x_o_priceTold])), (q_o_bytes, .inl (cy 1, 800, .inl res.2))] A9)) (by decide) rfl rfl (Nat.le_of_ble_eq_true rfl) ?_
  intro p e s m args below meth c A hx hb hr hts hown hml hlocks hname hE hP hD hA hsz ls hl
  have hK := hE.1
  have hl : lv_has ls 3 [(0, .ref q_o), (1, .int p1)] := hl
  have hS : va_S A s.heap s.heap [] := va_S.rf
  have f_f18 := hts (.fieldLink RX3 18 "PeepBox$Setup" "filled" "I") (by decide +kernel)
  have f_inX3 : ∀ w ∈ wsX30, w ∈ wsX3_put := by decide +kernel
  have f_f28 := hts (.fieldLink RX3 28 "PeepBox$Setup" "bytes" "[B") (by decide +kernel)
  obtain ⟨QQ, hQQ⟩ : ∃ Q9, Q9 = MQ below (kQv D [(q_o, .inr (3, [x_o_show, .int res.1, x_o_error, x_o_errorAt, .ref q_o_bytes, x_o_end, x_o_at, x_o_number, x_o_planesTold, x_o_reachTold, x_o_lengthTold, x_o_priceTold])), (q_o_bytes, .inl (cy 1, 800, .inl res.2))] A) args s 0 0 A := ⟨_, rfl⟩
  rw [← hQQ]
  have J3 : ∀ (n3 : Nat) (l2 : Int32) (o_filled : Int32) (o_bytes : Nat → Int32) (H : Heap) (locs : List Loc) (ls : Array Slot), va_P D vwCl [(q_o, .inr (3, [x_o_show, .int o_filled, x_o_error, x_o_errorAt, .ref q_o_bytes, x_o_end, x_o_at, x_o_number, x_o_planesTold, x_o_reachTold, x_o_lengthTold, x_o_priceTold])), (q_o_bytes, .inl (cy 1, 800, .inl o_bytes))] H → va_D A [(q_o, .inr (3, [x_o_show, .int o_filled, x_o_error, x_o_errorAt, .ref q_o_bytes, x_o_end, x_o_at, x_o_number, x_o_planesTold, x_o_reachTold, x_o_lengthTold, x_o_priceTold])), (q_o_bytes, .inl (cy 1, 800, .inl o_bytes))] → va_S A s.heap H locs → lv_has ls 3 [(0, .ref q_o), (1, .int p1), (2, .int l2)] → X3_put_L3 p1 n3 l2 o_filled o_bytes = some res → W p l e ({ frames := 0, cells := 0, slots := 0, locals := 0 } : Room) s m args below meth c H locs 0 0 QQ (F0 m 3 ls []) := by
    intro n3
    induction n3 with
    | zero =>
      intro l2 o_filled o_bytes H locs ls hP hD hS hl hF
      rw [X3_put_L3] at hF
      cases hF
    | succ n3 ih3 =>
      intro l2 o_filled o_bytes H locs ls hP hD hS hl hF
      rw [X3_put_L3] at hF
      refine lv_iload_n hx hb dX3_put_3 rfl (lv_at hl 2 rfl) ?_
      refine lv_if_lt (tgt := 46) hx hb dX3_put_4 (by decide) (fun c1 => ?_) (fun c1 => ?_)
      · have hF := if_p hF c1
        obtain rfl := so_o hF
        rw [hQQ]
        exact kr_v hx hb hr hlocks hP hD hS dX3_put_46
      · have hF := if_n hF c1
        refine lv_aload_n hx hb dX3_put_7 rfl (lv_at hl 0 rfl) ?_
        refine va_get (D := D) (ci := 3) (v := .int o_filled) (C := RX3) (T := TX3) (N := 12) hx hb hts f_inX3 hown hK hP 0 rfl rfl 1 (by decide) f_f18 (fun _ h9 => h9) rfl dX3_put_8 ?_
        refine lv_sipush (v := 800) hx hb dX3_put_11 (by decide) ?_
        refine lv_icmp_ge (tgt := 46) hx hb dX3_put_14 (by decide) (fun c2 => ?_) (fun c2 => ?_)
        · have hF := if_p hF c2
          obtain rfl := so_o hF
          rw [hQQ]
          exact kr_v hx hb hr hlocks hP hD hS dX3_put_46
        · have hF := if_n hF c2
          refine lv_aload_n hx hb dX3_put_17 rfl (lv_at hl 0 rfl) ?_
          refine va_get (D := D) (ci := 3) (v := .ref q_o_bytes) (C := RX3) (T := TX3) (N := 12) hx hb hts f_inX3 hown hK hP 0 rfl rfl 4 (by decide) f_f28 (fun _ h9 => h9) rfl dX3_put_18 ?_
          refine lv_aload_n hx hb dX3_put_21 rfl (lv_at hl 0 rfl) ?_
          refine va_get (D := D) (ci := 3) (v := .int o_filled) (C := RX3) (T := TX3) (N := 12) hx hb hts f_inX3 hown hK hP 0 rfl rfl 1 (by decide) f_f18 (fun _ h9 => h9) rfl dX3_put_22 ?_
          refine lv_iload_n hx hb dX3_put_25 rfl (lv_at hl 1 rfl) ?_
          refine lv_iload_n hx hb dX3_put_26 rfl (lv_at hl 2 rfl) ?_
          refine lv_iushr hx hb dX3_put_27 rfl ?_
          refine lv_i2b hx hb dX3_put_28 rfl ?_
          obtain ⟨h3, hF⟩ := st_o hF
          refine va_bast hx hb hK hP hD hS 1 1 rfl rfl h3 dX3_put_29 (fun H locs hP hD hS => ?_)
          obtain ⟨b4, eb4⟩ : ∃ y : Nat → Int32, y = (upd o_bytes o_filled.toNatClampNeg (vp_nar .byte (((p1).toUInt32 >>> ((l2).toUInt32 &&& Int32.toUInt32 31)).toInt32).toInt8.toInt32)) := ⟨_, rfl⟩
          have hF := hF b4 eb4
          have hP : va_P D vwCl [(q_o, .inr (3, [x_o_show, .int o_filled, x_o_error, x_o_errorAt, .ref q_o_bytes, x_o_end, x_o_at, x_o_number, x_o_planesTold, x_o_reachTold, x_o_lengthTold, x_o_priceTold])), (q_o_bytes, .inl (cy 1, 800, .inl b4))] H := by rw [eb4]; exact hP
          have hD : va_D A [(q_o, .inr (3, [x_o_show, .int o_filled, x_o_error, x_o_errorAt, .ref q_o_bytes, x_o_end, x_o_at, x_o_number, x_o_planesTold, x_o_reachTold, x_o_lengthTold, x_o_priceTold])), (q_o_bytes, .inl (cy 1, 800, .inl b4))] := by rw [eb4]; exact hD
          refine lv_aload_n hx hb dX3_put_30 rfl (lv_at hl 0 rfl) ?_
          refine lv_dup hx hb dX3_put_31 rfl ?_
          refine va_get (D := D) (ci := 3) (v := .int o_filled) (C := RX3) (T := TX3) (N := 12) hx hb hts f_inX3 hown hK hP 0 rfl rfl 1 (by decide) f_f18 (fun _ h9 => h9) rfl dX3_put_32 ?_
          refine lv_iconst (v := 1) hx hb dX3_put_35 (by decide) ?_
          refine lv_iadd hx hb dX3_put_36 ?_
          refine lv_topi (fun v5 ev5 => ?_)
          have hF := nm_o hF v5 ev5
          refine va_put (D := D) (ci := 3) (v := .int v5) (ty := .int) (C := RX3) (T := TX3) (N := 12) hx hb hts f_inX3 tyX3 tyX3_ok nmX3 hown hK hP hD hS 0 rfl rfl 1 (by decide) f_f18 (fun _ h9 => h9) rfl (by decide +kernel) rfl rfl (Nat.le_of_ble_eq_true rfl) dX3_put_37 (fun H locs hP hD hS => ?_)
          have hP : va_P D vwCl [(q_o, .inr (3, [x_o_show, .int v5, x_o_error, x_o_errorAt, .ref q_o_bytes, x_o_end, x_o_at, x_o_number, x_o_planesTold, x_o_reachTold, x_o_lengthTold, x_o_priceTold])), (q_o_bytes, .inl (cy 1, 800, .inl b4))] H := hP
          have hD : va_D A [(q_o, .inr (3, [x_o_show, .int v5, x_o_error, x_o_errorAt, .ref q_o_bytes, x_o_end, x_o_at, x_o_number, x_o_planesTold, x_o_reachTold, x_o_lengthTold, x_o_priceTold])), (q_o_bytes, .inl (cy 1, 800, .inl b4))] := hD
          obtain ⟨v6, ev6⟩ : ∃ y : Int32, y = l2 + (-8 : Int32) := ⟨_, rfl⟩
          have hF := nm_o hF v6 ev6
          refine lv_iinc (v := v6) (lv' := [(2, .int v6), (0, .ref q_o), (1, .int p1)]) hx hb dX3_put_40 hl (k := 2) rfl (by rw [ev6]; rfl) (by decide) rfl (fun ls hl => ?_)
          refine lv_goto (tgt := 3) hx hb dX3_put_43 (by decide) ?_
          exact ih3 v6 v5 b4 H locs ls hP hD hS (lv_sub hl [1, 2, 0] rfl) hF
  have main : ∀ (H : Heap) (locs : List Loc) (ls : Array Slot), va_P D vwCl [(q_o, .inr (3, [x_o_show, .int o_filled, x_o_error, x_o_errorAt, .ref q_o_bytes, x_o_end, x_o_at, x_o_number, x_o_planesTold, x_o_reachTold, x_o_lengthTold, x_o_priceTold])), (q_o_bytes, .inl (cy 1, 800, .inl o_bytes))] H → va_D A [(q_o, .inr (3, [x_o_show, .int o_filled, x_o_error, x_o_errorAt, .ref q_o_bytes, x_o_end, x_o_at, x_o_number, x_o_planesTold, x_o_reachTold, x_o_lengthTold, x_o_priceTold])), (q_o_bytes, .inl (cy 1, 800, .inl o_bytes))] → va_S A s.heap H locs → lv_has ls 3 [(0, .ref q_o), (1, .int p1)] → W p l e ({ frames := 0, cells := 0, slots := 0, locals := 0 } : Room) s m args below meth c H locs 0 0 QQ (F0 m 0 ls []) := by
    intro H locs ls hP hD hS hl
    unfold X3_put at hF
    refine lv_bipush (v := 24) hx hb dX3_put_0 (by decide) ?_
    refine lv_istore_n (lv' := [(2, .int (24 : Int32)), (0, .ref q_o), (1, .int p1)]) hx hb dX3_put_2 rfl hl (by decide) rfl (fun ls hl => ?_)
    exact J3 FU (24 : Int32) o_filled o_bytes H locs ls hP hD hS (lv_sub hl [1, 2, 0] rfl) hF
  exact main s.heap [] ls hP hD hS hl
theorem kd_X3_begin : yX3_begin.cls = RX3 ∧ yX3_begin.cls ≠ "java/lang/invoke/MethodHandle" ∧ yX3_begin.cls ≠ "java/lang/invoke/VarHandle" ∧ (parseMethodDescriptor yX3_begin.desc).map (fun d => d.parameters.length) = some 1 := by decide +kernel
set_option maxHeartbeats 4000000 in
set_option maxRecDepth 100000 in
theorem c_X3_begin {l : Launch} {D : va_G} {cy : Nat → ClassId} (q_o : Nat) (sz : Nat) (x_o_show x_o_bytes x_o_number : Value) (o_filled : Int32) (o_error : Int32) (o_errorAt : Int32) (o_end : Int32) (o_at : Int32) (o_planesTold : Int32) (o_reachTold : Int32) (o_lengthTold : Int32) (o_priceTold : Int32) (p1 : Int32) (res : Int32 × Int32 × Int32 × Int32 × Int32 × Int32 × Int32 × Int32 × Int32) (hF : X3_begin o_filled o_error o_errorAt o_end o_at o_planesTold o_reachTold o_lengthTold o_priceTold p1 = some res) : Met l yX3_begin wsX3_begin ({ frames := 1, cells := 0, slots := 0, locals := 30 } : Room) (kP (EN D cy) D [.ref q_o, .int p1] [(q_o, .inr (3, [x_o_show, .int o_filled, .int o_error, .int o_errorAt, x_o_bytes, .int o_end, .int o_at, x_o_number, .int o_planesTold, .int o_reachTold, .int o_lengthTold, .int o_priceTold]))] sz) (kQv D [(q_o, .inr (3, [x_o_show, .int res.1, .int res.2.1, .int res.2.2.1, x_o_bytes, .int res.2.2.2.1, .int res.2.2.2.2.1, x_o_number, .int res.2.2.2.2.2.1, .int res.2.2.2.2.2.2.1, .int res.2.2.2.2.2.2.2.1, .int res.2.2.2.2.2.2.2.2]))] (va_A [(q_o, .inr (3, [x_o_show, .int o_filled, .int o_error, .int o_errorAt, x_o_bytes, .int o_end, .int o_at, x_o_number, .int o_planesTold, .int o_reachTold, .int o_lengthTold, .int o_priceTold]))] sz)) 0 0 (va_A [(q_o, .inr (3, [x_o_show, .int o_filled, .int o_error, .int o_errorAt, x_o_bytes, .int o_end, .int o_at, x_o_number, .int o_planesTold, .int o_reachTold, .int o_lengthTold, .int o_priceTold]))] sz) := by
  refine kMet (y := yX3_begin) (av := [.ref q_o, .int p1]) (cc := cX3_begin) (maxL := 2) (ret := none) (own := RX3) (Qc := fun A9 => (kQv D [(q_o, .inr (3, [x_o_show, .int res.1, .int res.2.1, .int res.2.2.1, x_o_bytes, .int res.2.2.2.1, .int res.2.2.2.2.1, x_o_number, .int res.2.2.2.2.2.1, .int res.2.2.2.2.2.2.1, .int res.2.2.2.2.2.2.2.1, .int res.2.2.2.2.2.2.2.2]))] A9)) (by decide) rfl rfl (Nat.le_of_ble_eq_true rfl) ?_
  intro p e s m args below meth c A hx hb hr hts hown hml hlocks hname hE hP hD hA hsz ls hl
  have hK := hE.1
  have hl : lv_has ls 2 [(0, .ref q_o), (1, .int p1)] := hl
  have hS : va_S A s.heap s.heap [] := va_S.rf
  have f_f18 := hts (.fieldLink RX3 18 "PeepBox$Setup" "filled" "I") (by decide +kernel)
  have f_inX3 : ∀ w ∈ wsX30, w ∈ wsX3_begin := by decide +kernel
  have f_m86 := hts (.methodLink RX3 86 Lib.Math.min.name) (by decide +kernel)
  have f_s_va_mmin := hts (.static Lib.Math.min.name) (by decide +kernel)
  have f_iMath := hts (.initialized "java/lang/Math") (by decide +kernel)
  have f_k_va_mmin := hts (.code Lib.Math.min.name Lib.Math.min.code 2 (some .int)) (by decide +kernel)
  have f_f32 := hts (.fieldLink RX3 32 "PeepBox$Setup" "end" "I") (by decide +kernel)
  have f_f35 := hts (.fieldLink RX3 35 "PeepBox$Setup" "at" "I") (by decide +kernel)
  have f_f22 := hts (.fieldLink RX3 22 "PeepBox$Setup" "error" "I") (by decide +kernel)
  have f_f25 := hts (.fieldLink RX3 25 "PeepBox$Setup" "errorAt" "I") (by decide +kernel)
  have f_f41 := hts (.fieldLink RX3 41 "PeepBox$Setup" "planesTold" "I") (by decide +kernel)
  have f_f44 := hts (.fieldLink RX3 44 "PeepBox$Setup" "reachTold" "Z") (by decide +kernel)
  have f_f48 := hts (.fieldLink RX3 48 "PeepBox$Setup" "lengthTold" "Z") (by decide +kernel)
  have f_f51 := hts (.fieldLink RX3 51 "PeepBox$Setup" "priceTold" "Z") (by decide +kernel)
  obtain ⟨QQ, hQQ⟩ : ∃ Q9, Q9 = MQ below (kQv D [(q_o, .inr (3, [x_o_show, .int res.1, .int res.2.1, .int res.2.2.1, x_o_bytes, .int res.2.2.2.1, .int res.2.2.2.2.1, x_o_number, .int res.2.2.2.2.2.1, .int res.2.2.2.2.2.2.1, .int res.2.2.2.2.2.2.2.1, .int res.2.2.2.2.2.2.2.2]))] A) args s 0 0 A := ⟨_, rfl⟩
  rw [← hQQ]
  have main : ∀ (H : Heap) (locs : List Loc) (ls : Array Slot), va_P D vwCl [(q_o, .inr (3, [x_o_show, .int o_filled, .int o_error, .int o_errorAt, x_o_bytes, .int o_end, .int o_at, x_o_number, .int o_planesTold, .int o_reachTold, .int o_lengthTold, .int o_priceTold]))] H → va_D A [(q_o, .inr (3, [x_o_show, .int o_filled, .int o_error, .int o_errorAt, x_o_bytes, .int o_end, .int o_at, x_o_number, .int o_planesTold, .int o_reachTold, .int o_lengthTold, .int o_priceTold]))] → va_S A s.heap H locs → lv_has ls 2 [(0, .ref q_o), (1, .int p1)] → W p l e ({ frames := 1, cells := 0, slots := 0, locals := 30 } : Room) s m args below meth c H locs 0 0 QQ (F0 m 0 ls []) := by
    intro H locs ls hP hD hS hl
    unfold X3_begin at hF
    refine lv_aload_n hx hb dX3_begin_0 rfl (lv_at hl 0 rfl) ?_
    refine lv_iload_n hx hb dX3_begin_1 rfl (lv_at hl 1 rfl) ?_
    refine lv_aload_n hx hb dX3_begin_2 rfl (lv_at hl 0 rfl) ?_
    refine va_get (D := D) (ci := 3) (v := .int o_filled) (C := RX3) (T := TX3) (N := 12) hx hb hts f_inX3 hown hK hP 0 rfl rfl 1 (by decide) f_f18 (fun _ h9 => h9) rfl dX3_begin_3 ?_
    refine va_mmin hx hb (by rw [hml]; exact hl.1.symm) hown f_m86 f_s_va_mmin f_iMath f_k_va_mmin (Nat.le_of_ble_eq_true rfl) (Nat.le_of_ble_eq_true rfl) (Nat.zero_le _) (Nat.zero_le _) dX3_begin_6 ?_
    refine lv_topi (fun v1 ev1 => ?_)
    have hF := nm_o hF v1 ev1
    refine va_put (D := D) (ci := 3) (v := .int v1) (ty := .int) (C := RX3) (T := TX3) (N := 12) hx hb hts f_inX3 tyX3 tyX3_ok nmX3 hown hK hP hD hS 0 rfl rfl 5 (by decide) f_f32 (fun _ h9 => h9) rfl (by decide +kernel) rfl rfl (Nat.le_of_ble_eq_true rfl) dX3_begin_9 (fun H locs hP hD hS => ?_)
    have hP : va_P D vwCl [(q_o, .inr (3, [x_o_show, .int o_filled, .int o_error, .int o_errorAt, x_o_bytes, .int v1, .int o_at, x_o_number, .int o_planesTold, .int o_reachTold, .int o_lengthTold, .int o_priceTold]))] H := hP
    have hD : va_D A [(q_o, .inr (3, [x_o_show, .int o_filled, .int o_error, .int o_errorAt, x_o_bytes, .int v1, .int o_at, x_o_number, .int o_planesTold, .int o_reachTold, .int o_lengthTold, .int o_priceTold]))] := hD
    refine lv_aload_n hx hb dX3_begin_12 rfl (lv_at hl 0 rfl) ?_
    refine lv_iconst (v := 0) hx hb dX3_begin_13 (by decide) ?_
    refine va_put (D := D) (ci := 3) (v := .int (0 : Int32)) (ty := .int) (C := RX3) (T := TX3) (N := 12) hx hb hts f_inX3 tyX3 tyX3_ok nmX3 hown hK hP hD hS 0 rfl rfl 1 (by decide) f_f18 (fun _ h9 => h9) rfl (by decide +kernel) rfl rfl (Nat.le_of_ble_eq_true rfl) dX3_begin_14 (fun H locs hP hD hS => ?_)
    have hP : va_P D vwCl [(q_o, .inr (3, [x_o_show, .int (0 : Int32), .int o_error, .int o_errorAt, x_o_bytes, .int v1, .int o_at, x_o_number, .int o_planesTold, .int o_reachTold, .int o_lengthTold, .int o_priceTold]))] H := hP
    have hD : va_D A [(q_o, .inr (3, [x_o_show, .int (0 : Int32), .int o_error, .int o_errorAt, x_o_bytes, .int v1, .int o_at, x_o_number, .int o_planesTold, .int o_reachTold, .int o_lengthTold, .int o_priceTold]))] := hD
    refine lv_aload_n hx hb dX3_begin_17 rfl (lv_at hl 0 rfl) ?_
    refine lv_iconst (v := 0) hx hb dX3_begin_18 (by decide) ?_
    refine va_put (D := D) (ci := 3) (v := .int (0 : Int32)) (ty := .int) (C := RX3) (T := TX3) (N := 12) hx hb hts f_inX3 tyX3 tyX3_ok nmX3 hown hK hP hD hS 0 rfl rfl 6 (by decide) f_f35 (fun _ h9 => h9) rfl (by decide +kernel) rfl rfl (Nat.le_of_ble_eq_true rfl) dX3_begin_19 (fun H locs hP hD hS => ?_)
    have hP : va_P D vwCl [(q_o, .inr (3, [x_o_show, .int (0 : Int32), .int o_error, .int o_errorAt, x_o_bytes, .int v1, .int (0 : Int32), x_o_number, .int o_planesTold, .int o_reachTold, .int o_lengthTold, .int o_priceTold]))] H := hP
    have hD : va_D A [(q_o, .inr (3, [x_o_show, .int (0 : Int32), .int o_error, .int o_errorAt, x_o_bytes, .int v1, .int (0 : Int32), x_o_number, .int o_planesTold, .int o_reachTold, .int o_lengthTold, .int o_priceTold]))] := hD
    refine lv_aload_n hx hb dX3_begin_22 rfl (lv_at hl 0 rfl) ?_
    refine lv_iconst (v := 0) hx hb dX3_begin_23 (by decide) ?_
    refine va_put (D := D) (ci := 3) (v := .int (0 : Int32)) (ty := .int) (C := RX3) (T := TX3) (N := 12) hx hb hts f_inX3 tyX3 tyX3_ok nmX3 hown hK hP hD hS 0 rfl rfl 2 (by decide) f_f22 (fun _ h9 => h9) rfl (by decide +kernel) rfl rfl (Nat.le_of_ble_eq_true rfl) dX3_begin_24 (fun H locs hP hD hS => ?_)
    have hP : va_P D vwCl [(q_o, .inr (3, [x_o_show, .int (0 : Int32), .int (0 : Int32), .int o_errorAt, x_o_bytes, .int v1, .int (0 : Int32), x_o_number, .int o_planesTold, .int o_reachTold, .int o_lengthTold, .int o_priceTold]))] H := hP
    have hD : va_D A [(q_o, .inr (3, [x_o_show, .int (0 : Int32), .int (0 : Int32), .int o_errorAt, x_o_bytes, .int v1, .int (0 : Int32), x_o_number, .int o_planesTold, .int o_reachTold, .int o_lengthTold, .int o_priceTold]))] := hD
    refine lv_aload_n hx hb dX3_begin_27 rfl (lv_at hl 0 rfl) ?_
    refine lv_iconst (v := -1) hx hb dX3_begin_28 (by decide) ?_
    refine va_put (D := D) (ci := 3) (v := .int (-1 : Int32)) (ty := .int) (C := RX3) (T := TX3) (N := 12) hx hb hts f_inX3 tyX3 tyX3_ok nmX3 hown hK hP hD hS 0 rfl rfl 3 (by decide) f_f25 (fun _ h9 => h9) rfl (by decide +kernel) rfl rfl (Nat.le_of_ble_eq_true rfl) dX3_begin_29 (fun H locs hP hD hS => ?_)
    have hP : va_P D vwCl [(q_o, .inr (3, [x_o_show, .int (0 : Int32), .int (0 : Int32), .int (-1 : Int32), x_o_bytes, .int v1, .int (0 : Int32), x_o_number, .int o_planesTold, .int o_reachTold, .int o_lengthTold, .int o_priceTold]))] H := hP
    have hD : va_D A [(q_o, .inr (3, [x_o_show, .int (0 : Int32), .int (0 : Int32), .int (-1 : Int32), x_o_bytes, .int v1, .int (0 : Int32), x_o_number, .int o_planesTold, .int o_reachTold, .int o_lengthTold, .int o_priceTold]))] := hD
    refine lv_aload_n hx hb dX3_begin_32 rfl (lv_at hl 0 rfl) ?_
    refine lv_iconst (v := 0) hx hb dX3_begin_33 (by decide) ?_
    refine va_put (D := D) (ci := 3) (v := .int (0 : Int32)) (ty := .int) (C := RX3) (T := TX3) (N := 12) hx hb hts f_inX3 tyX3 tyX3_ok nmX3 hown hK hP hD hS 0 rfl rfl 8 (by decide) f_f41 (fun _ h9 => h9) rfl (by decide +kernel) rfl rfl (Nat.le_of_ble_eq_true rfl) dX3_begin_34 (fun H locs hP hD hS => ?_)
    have hP : va_P D vwCl [(q_o, .inr (3, [x_o_show, .int (0 : Int32), .int (0 : Int32), .int (-1 : Int32), x_o_bytes, .int v1, .int (0 : Int32), x_o_number, .int (0 : Int32), .int o_reachTold, .int o_lengthTold, .int o_priceTold]))] H := hP
    have hD : va_D A [(q_o, .inr (3, [x_o_show, .int (0 : Int32), .int (0 : Int32), .int (-1 : Int32), x_o_bytes, .int v1, .int (0 : Int32), x_o_number, .int (0 : Int32), .int o_reachTold, .int o_lengthTold, .int o_priceTold]))] := hD
    refine lv_aload_n hx hb dX3_begin_37 rfl (lv_at hl 0 rfl) ?_
    refine lv_iconst (v := 0) hx hb dX3_begin_38 (by decide) ?_
    refine va_put (D := D) (ci := 3) (v := .int (0 : Int32)) (ty := .boolean) (C := RX3) (T := TX3) (N := 12) hx hb hts f_inX3 tyX3 tyX3_ok nmX3 hown hK hP hD hS 0 rfl rfl 9 (by decide) f_f44 (fun _ h9 => h9) rfl (by decide +kernel) rfl rfl (Nat.le_of_ble_eq_true rfl) dX3_begin_39 (fun H locs hP hD hS => ?_)
    have hP : va_P D vwCl [(q_o, .inr (3, [x_o_show, .int (0 : Int32), .int (0 : Int32), .int (-1 : Int32), x_o_bytes, .int v1, .int (0 : Int32), x_o_number, .int (0 : Int32), .int (0 : Int32), .int o_lengthTold, .int o_priceTold]))] H := hP
    have hD : va_D A [(q_o, .inr (3, [x_o_show, .int (0 : Int32), .int (0 : Int32), .int (-1 : Int32), x_o_bytes, .int v1, .int (0 : Int32), x_o_number, .int (0 : Int32), .int (0 : Int32), .int o_lengthTold, .int o_priceTold]))] := hD
    refine lv_aload_n hx hb dX3_begin_42 rfl (lv_at hl 0 rfl) ?_
    refine lv_iconst (v := 0) hx hb dX3_begin_43 (by decide) ?_
    refine va_put (D := D) (ci := 3) (v := .int (0 : Int32)) (ty := .boolean) (C := RX3) (T := TX3) (N := 12) hx hb hts f_inX3 tyX3 tyX3_ok nmX3 hown hK hP hD hS 0 rfl rfl 10 (by decide) f_f48 (fun _ h9 => h9) rfl (by decide +kernel) rfl rfl (Nat.le_of_ble_eq_true rfl) dX3_begin_44 (fun H locs hP hD hS => ?_)
    have hP : va_P D vwCl [(q_o, .inr (3, [x_o_show, .int (0 : Int32), .int (0 : Int32), .int (-1 : Int32), x_o_bytes, .int v1, .int (0 : Int32), x_o_number, .int (0 : Int32), .int (0 : Int32), .int (0 : Int32), .int o_priceTold]))] H := hP
    have hD : va_D A [(q_o, .inr (3, [x_o_show, .int (0 : Int32), .int (0 : Int32), .int (-1 : Int32), x_o_bytes, .int v1, .int (0 : Int32), x_o_number, .int (0 : Int32), .int (0 : Int32), .int (0 : Int32), .int o_priceTold]))] := hD
    refine lv_aload_n hx hb dX3_begin_47 rfl (lv_at hl 0 rfl) ?_
    refine lv_iconst (v := 0) hx hb dX3_begin_48 (by decide) ?_
    refine va_put (D := D) (ci := 3) (v := .int (0 : Int32)) (ty := .boolean) (C := RX3) (T := TX3) (N := 12) hx hb hts f_inX3 tyX3 tyX3_ok nmX3 hown hK hP hD hS 0 rfl rfl 11 (by decide) f_f51 (fun _ h9 => h9) rfl (by decide +kernel) rfl rfl (Nat.le_of_ble_eq_true rfl) dX3_begin_49 (fun H locs hP hD hS => ?_)
    have hP : va_P D vwCl [(q_o, .inr (3, [x_o_show, .int (0 : Int32), .int (0 : Int32), .int (-1 : Int32), x_o_bytes, .int v1, .int (0 : Int32), x_o_number, .int (0 : Int32), .int (0 : Int32), .int (0 : Int32), .int (0 : Int32)]))] H := hP
    have hD : va_D A [(q_o, .inr (3, [x_o_show, .int (0 : Int32), .int (0 : Int32), .int (-1 : Int32), x_o_bytes, .int v1, .int (0 : Int32), x_o_number, .int (0 : Int32), .int (0 : Int32), .int (0 : Int32), .int (0 : Int32)]))] := hD
    obtain rfl := so_o hF
    rw [hQQ]
    exact kr_v hx hb hr hlocks hP hD hS dX3_begin_52
  exact main s.heap [] ls hP hD hS hl
theorem kd_X3_peek : yX3_peek.cls = RX3 ∧ yX3_peek.cls ≠ "java/lang/invoke/MethodHandle" ∧ yX3_peek.cls ≠ "java/lang/invoke/VarHandle" ∧ (parseMethodDescriptor yX3_peek.desc).map (fun d => d.parameters.length) = some 0 := by decide +kernel
set_option maxHeartbeats 4000000 in
set_option maxRecDepth 100000 in
theorem c_X3_peek {l : Launch} {D : va_G} {cy : Nat → ClassId} (q_o q_o_bytes : Nat) (sz : Nat) (x_o_show x_o_filled x_o_error x_o_errorAt x_o_number x_o_planesTold x_o_reachTold x_o_lengthTold x_o_priceTold : Value) (o_end : Int32) (o_at : Int32) (o_bytes : Nat → Int32) (res : Int32 × Int32) (hF : X3_peek o_end o_at o_bytes = some res) : Met l yX3_peek wsX3_peek ({ frames := 0, cells := 0, slots := 0, locals := 0 } : Room) (kP (EN D cy) D [.ref q_o] [(q_o, .inr (3, [x_o_show, x_o_filled, x_o_error, x_o_errorAt, .ref q_o_bytes, .int o_end, .int o_at, x_o_number, x_o_planesTold, x_o_reachTold, x_o_lengthTold, x_o_priceTold])), (q_o_bytes, .inl (cy 1, 800, .inl o_bytes))] sz) (kQi D res.1 [(q_o, .inr (3, [x_o_show, x_o_filled, x_o_error, x_o_errorAt, .ref q_o_bytes, .int o_end, .int res.2, x_o_number, x_o_planesTold, x_o_reachTold, x_o_lengthTold, x_o_priceTold])), (q_o_bytes, .inl (cy 1, 800, .inl o_bytes))] (va_A [(q_o, .inr (3, [x_o_show, x_o_filled, x_o_error, x_o_errorAt, .ref q_o_bytes, .int o_end, .int o_at, x_o_number, x_o_planesTold, x_o_reachTold, x_o_lengthTold, x_o_priceTold])), (q_o_bytes, .inl (cy 1, 800, .inl o_bytes))] sz)) 0 0 (va_A [(q_o, .inr (3, [x_o_show, x_o_filled, x_o_error, x_o_errorAt, .ref q_o_bytes, .int o_end, .int o_at, x_o_number, x_o_planesTold, x_o_reachTold, x_o_lengthTold, x_o_priceTold])), (q_o_bytes, .inl (cy 1, 800, .inl o_bytes))] sz) := by
  refine kMet (y := yX3_peek) (av := [.ref q_o]) (cc := cX3_peek) (maxL := 1) (ret := some .int) (own := RX3) (Qc := fun A9 => (kQi D res.1 [(q_o, .inr (3, [x_o_show, x_o_filled, x_o_error, x_o_errorAt, .ref q_o_bytes, .int o_end, .int res.2, x_o_number, x_o_planesTold, x_o_reachTold, x_o_lengthTold, x_o_priceTold])), (q_o_bytes, .inl (cy 1, 800, .inl o_bytes))] A9)) (by decide) rfl rfl (Nat.le_of_ble_eq_true rfl) ?_
  intro p e s m args below meth c A hx hb hr hts hown hml hlocks hname hE hP hD hA hsz ls hl
  have hK := hE.1
  have hl : lv_has ls 1 [(0, .ref q_o)] := hl
  have hS : va_S A s.heap s.heap [] := va_S.rf
  have f_f35 := hts (.fieldLink RX3 35 "PeepBox$Setup" "at" "I") (by decide +kernel)
  have f_inX3 : ∀ w ∈ wsX30, w ∈ wsX3_peek := by decide +kernel
  have f_f32 := hts (.fieldLink RX3 32 "PeepBox$Setup" "end" "I") (by decide +kernel)
  have f_f28 := hts (.fieldLink RX3 28 "PeepBox$Setup" "bytes" "[B") (by decide +kernel)
  obtain ⟨QQ, hQQ⟩ : ∃ Q9, Q9 = MQ below (kQi D res.1 [(q_o, .inr (3, [x_o_show, x_o_filled, x_o_error, x_o_errorAt, .ref q_o_bytes, .int o_end, .int res.2, x_o_number, x_o_planesTold, x_o_reachTold, x_o_lengthTold, x_o_priceTold])), (q_o_bytes, .inl (cy 1, 800, .inl o_bytes))] A) args s 0 0 A := ⟨_, rfl⟩
  rw [← hQQ]
  have J38 : ∀ (o_at : Int32) (H : Heap) (locs : List Loc) (ls : Array Slot), va_P D vwCl [(q_o, .inr (3, [x_o_show, x_o_filled, x_o_error, x_o_errorAt, .ref q_o_bytes, .int o_end, .int o_at, x_o_number, x_o_planesTold, x_o_reachTold, x_o_lengthTold, x_o_priceTold])), (q_o_bytes, .inl (cy 1, 800, .inl o_bytes))] H → va_D A [(q_o, .inr (3, [x_o_show, x_o_filled, x_o_error, x_o_errorAt, .ref q_o_bytes, .int o_end, .int o_at, x_o_number, x_o_planesTold, x_o_reachTold, x_o_lengthTold, x_o_priceTold])), (q_o_bytes, .inl (cy 1, 800, .inl o_bytes))] → va_S A s.heap H locs → lv_has ls 1 [(0, .ref q_o)] → X3_peek_J38 o_end o_bytes o_at = some res → W p l e ({ frames := 0, cells := 0, slots := 0, locals := 0 } : Room) s m args below meth c H locs 0 0 QQ (F0 m 38 ls []) := by
    intro o_at H locs ls hP hD hS hl hF
    unfold X3_peek_J38 at hF
    refine lv_aload_n hx hb dX3_peek_38 rfl (lv_at hl 0 rfl) ?_
    refine va_get (D := D) (ci := 3) (v := .int o_at) (C := RX3) (T := TX3) (N := 12) hx hb hts f_inX3 hown hK hP 0 rfl rfl 6 (by decide) f_f35 (fun _ h9 => h9) rfl dX3_peek_39 ?_
    refine lv_aload_n hx hb dX3_peek_42 rfl (lv_at hl 0 rfl) ?_
    refine va_get (D := D) (ci := 3) (v := .int o_end) (C := RX3) (T := TX3) (N := 12) hx hb hts f_inX3 hown hK hP 0 rfl rfl 5 (by decide) f_f32 (fun _ h9 => h9) rfl dX3_peek_43 ?_
    refine lv_icmp_ge (tgt := 65) hx hb dX3_peek_46 (by decide) (fun c1 => ?_) (fun c1 => ?_)
    · have hF := if_p hF c1
      refine lv_iconst (v := -1) hx hb dX3_peek_65 (by decide) ?_
      obtain rfl := so_o hF
      rw [hQQ]
      exact kr_i hx hb hr hlocks hP hD hS dX3_peek_66
    · have hF := if_n hF c1
      refine lv_aload_n hx hb dX3_peek_49 rfl (lv_at hl 0 rfl) ?_
      refine va_get (D := D) (ci := 3) (v := .ref q_o_bytes) (C := RX3) (T := TX3) (N := 12) hx hb hts f_inX3 hown hK hP 0 rfl rfl 4 (by decide) f_f28 (fun _ h9 => h9) rfl dX3_peek_50 ?_
      refine lv_aload_n hx hb dX3_peek_53 rfl (lv_at hl 0 rfl) ?_
      refine va_get (D := D) (ci := 3) (v := .int o_at) (C := RX3) (T := TX3) (N := 12) hx hb hts f_inX3 hown hK hP 0 rfl rfl 6 (by decide) f_f35 (fun _ h9 => h9) rfl dX3_peek_54 ?_
      obtain ⟨h2, hF⟩ := ld_o hF
      refine va_bald hx hb hK hP 1 1 rfl rfl h2 dX3_peek_57 ?_
      refine lv_topi (fun v3 ev3 => ?_)
      have hF := hF v3 ev3
      refine lv_sipush (v := 255) hx hb dX3_peek_58 (by decide) ?_
      refine lv_iand hx hb dX3_peek_61 ?_
      refine lv_goto (tgt := 66) hx hb dX3_peek_62 (by decide) ?_
      obtain rfl := so_o hF
      rw [hQQ]
      exact kr_i hx hb hr hlocks hP hD hS dX3_peek_66
  have J0 : ∀ (n0 : Nat) (o_at : Int32) (H : Heap) (locs : List Loc) (ls : Array Slot), va_P D vwCl [(q_o, .inr (3, [x_o_show, x_o_filled, x_o_error, x_o_errorAt, .ref q_o_bytes, .int o_end, .int o_at, x_o_number, x_o_planesTold, x_o_reachTold, x_o_lengthTold, x_o_priceTold])), (q_o_bytes, .inl (cy 1, 800, .inl o_bytes))] H → va_D A [(q_o, .inr (3, [x_o_show, x_o_filled, x_o_error, x_o_errorAt, .ref q_o_bytes, .int o_end, .int o_at, x_o_number, x_o_planesTold, x_o_reachTold, x_o_lengthTold, x_o_priceTold])), (q_o_bytes, .inl (cy 1, 800, .inl o_bytes))] → va_S A s.heap H locs → lv_has ls 1 [(0, .ref q_o)] → X3_peek_L0 o_end o_bytes n0 o_at = some res → W p l e ({ frames := 0, cells := 0, slots := 0, locals := 0 } : Room) s m args below meth c H locs 0 0 QQ (F0 m 0 ls []) := by
    intro n0
    induction n0 with
    | zero =>
      intro o_at H locs ls hP hD hS hl hF
      rw [X3_peek_L0] at hF
      cases hF
    | succ n0 ih0 =>
      intro o_at H locs ls hP hD hS hl hF
      rw [X3_peek_L0] at hF
      refine lv_aload_n hx hb dX3_peek_0 rfl (lv_at hl 0 rfl) ?_
      refine va_get (D := D) (ci := 3) (v := .int o_at) (C := RX3) (T := TX3) (N := 12) hx hb hts f_inX3 hown hK hP 0 rfl rfl 6 (by decide) f_f35 (fun _ h9 => h9) rfl dX3_peek_1 ?_
      refine lv_aload_n hx hb dX3_peek_4 rfl (lv_at hl 0 rfl) ?_
      refine va_get (D := D) (ci := 3) (v := .int o_end) (C := RX3) (T := TX3) (N := 12) hx hb hts f_inX3 hown hK hP 0 rfl rfl 5 (by decide) f_f32 (fun _ h9 => h9) rfl dX3_peek_5 ?_
      refine lv_icmp_ge (tgt := 38) hx hb dX3_peek_8 (by decide) (fun c4 => ?_) (fun c4 => ?_)
      · have hF := if_p hF c4
        exact J38 o_at H locs ls hP hD hS (lv_sub hl [0] rfl) hF
      · have hF := if_n hF c4
        refine lv_aload_n hx hb dX3_peek_11 rfl (lv_at hl 0 rfl) ?_
        refine va_get (D := D) (ci := 3) (v := .ref q_o_bytes) (C := RX3) (T := TX3) (N := 12) hx hb hts f_inX3 hown hK hP 0 rfl rfl 4 (by decide) f_f28 (fun _ h9 => h9) rfl dX3_peek_12 ?_
        refine lv_aload_n hx hb dX3_peek_15 rfl (lv_at hl 0 rfl) ?_
        refine va_get (D := D) (ci := 3) (v := .int o_at) (C := RX3) (T := TX3) (N := 12) hx hb hts f_inX3 hown hK hP 0 rfl rfl 6 (by decide) f_f35 (fun _ h9 => h9) rfl dX3_peek_16 ?_
        obtain ⟨h5, hF⟩ := ld_o hF
        refine va_bald hx hb hK hP 1 1 rfl rfl h5 dX3_peek_19 ?_
        refine lv_topi (fun v6 ev6 => ?_)
        have hF := hF v6 ev6
        refine lv_bipush (v := 32) hx hb dX3_peek_20 (by decide) ?_
        refine lv_icmp_ne (tgt := 38) hx hb dX3_peek_22 (by decide) (fun c7 => ?_) (fun c7 => ?_)
        · have hF := if_n hF c7
          exact J38 o_at H locs ls hP hD hS (lv_sub hl [0] rfl) hF
        · have hF := if_p hF c7
          refine lv_aload_n hx hb dX3_peek_25 rfl (lv_at hl 0 rfl) ?_
          refine lv_dup hx hb dX3_peek_26 rfl ?_
          refine va_get (D := D) (ci := 3) (v := .int o_at) (C := RX3) (T := TX3) (N := 12) hx hb hts f_inX3 hown hK hP 0 rfl rfl 6 (by decide) f_f35 (fun _ h9 => h9) rfl dX3_peek_27 ?_
          refine lv_iconst (v := 1) hx hb dX3_peek_30 (by decide) ?_
          refine lv_iadd hx hb dX3_peek_31 ?_
          refine lv_topi (fun v8 ev8 => ?_)
          have hF := nm_o hF v8 ev8
          refine va_put (D := D) (ci := 3) (v := .int v8) (ty := .int) (C := RX3) (T := TX3) (N := 12) hx hb hts f_inX3 tyX3 tyX3_ok nmX3 hown hK hP hD hS 0 rfl rfl 6 (by decide) f_f35 (fun _ h9 => h9) rfl (by decide +kernel) rfl rfl (Nat.le_of_ble_eq_true rfl) dX3_peek_32 (fun H locs hP hD hS => ?_)
          have hP : va_P D vwCl [(q_o, .inr (3, [x_o_show, x_o_filled, x_o_error, x_o_errorAt, .ref q_o_bytes, .int o_end, .int v8, x_o_number, x_o_planesTold, x_o_reachTold, x_o_lengthTold, x_o_priceTold])), (q_o_bytes, .inl (cy 1, 800, .inl o_bytes))] H := hP
          have hD : va_D A [(q_o, .inr (3, [x_o_show, x_o_filled, x_o_error, x_o_errorAt, .ref q_o_bytes, .int o_end, .int v8, x_o_number, x_o_planesTold, x_o_reachTold, x_o_lengthTold, x_o_priceTold])), (q_o_bytes, .inl (cy 1, 800, .inl o_bytes))] := hD
          refine lv_goto (tgt := 0) hx hb dX3_peek_35 (by decide) ?_
          exact ih0 v8 H locs ls hP hD hS (lv_sub hl [0] rfl) hF
  have main : ∀ (H : Heap) (locs : List Loc) (ls : Array Slot), va_P D vwCl [(q_o, .inr (3, [x_o_show, x_o_filled, x_o_error, x_o_errorAt, .ref q_o_bytes, .int o_end, .int o_at, x_o_number, x_o_planesTold, x_o_reachTold, x_o_lengthTold, x_o_priceTold])), (q_o_bytes, .inl (cy 1, 800, .inl o_bytes))] H → va_D A [(q_o, .inr (3, [x_o_show, x_o_filled, x_o_error, x_o_errorAt, .ref q_o_bytes, .int o_end, .int o_at, x_o_number, x_o_planesTold, x_o_reachTold, x_o_lengthTold, x_o_priceTold])), (q_o_bytes, .inl (cy 1, 800, .inl o_bytes))] → va_S A s.heap H locs → lv_has ls 1 [(0, .ref q_o)] → W p l e ({ frames := 0, cells := 0, slots := 0, locals := 0 } : Room) s m args below meth c H locs 0 0 QQ (F0 m 0 ls []) := by
    intro H locs ls hP hD hS hl
    unfold X3_peek at hF
    exact J0 FU o_at H locs ls hP hD hS (lv_sub hl [0] rfl) hF
  exact main s.heap [] ls hP hD hS hl
theorem kd_X3_isLetter : yX3_isLetter.cls ≠ "java/lang/invoke/MethodHandle" ∧ yX3_isLetter.cls ≠ "java/lang/invoke/VarHandle" ∧ (parseMethodDescriptor yX3_isLetter.desc).map (fun d => d.parameters.length) = some 1 := by decide +kernel
set_option maxHeartbeats 4000000 in
set_option maxRecDepth 100000 in
theorem c_X3_isLetter {l : Launch} {D : va_G} {cy : Nat → ClassId} (sz : Nat) (p0 : Int32) (res : Int32) (hF : X3_isLetter p0 = some res) : Met l yX3_isLetter wsX3_isLetter ({ frames := 0, cells := 0, slots := 0, locals := 0 } : Room) (kP (EN D cy) D [.int p0] [] sz) (kQi D res [] (va_A [] sz)) 0 0 (va_A [] sz) := by
  refine kMet (y := yX3_isLetter) (av := [.int p0]) (cc := cX3_isLetter) (maxL := 1) (ret := some .boolean) (own := RX3) (Qc := fun A9 => (kQi D res [] A9)) (by decide) rfl rfl (Nat.le_of_ble_eq_true rfl) ?_
  intro p e s m args below meth c A hx hb hr hts hown hml hlocks hname hE hP hD hA hsz ls hl
  have hK := hE.1
  have hl : lv_has ls 1 [(0, .int p0)] := hl
  have hS : va_S A s.heap s.heap [] := va_S.rf
  obtain ⟨QQ, hQQ⟩ : ∃ Q9, Q9 = MQ below (kQi D res [] A) args s 0 0 A := ⟨_, rfl⟩
  rw [← hQQ]
  have main : ∀ (H : Heap) (locs : List Loc) (ls : Array Slot), va_P D vwCl [] H → va_D A [] → va_S A s.heap H locs → lv_has ls 1 [(0, .int p0)] → W p l e ({ frames := 0, cells := 0, slots := 0, locals := 0 } : Room) s m args below meth c H locs 0 0 QQ (F0 m 0 ls []) := by
    intro H locs ls hP hD hS hl
    unfold X3_isLetter at hF
    refine lv_iload_n hx hb dX3_isLetter_0 rfl (lv_at hl 0 rfl) ?_
    refine lv_bipush (v := 97) hx hb dX3_isLetter_1 (by decide) ?_
    refine lv_icmp_lt (tgt := 16) hx hb dX3_isLetter_3 (by decide) (fun c1 => ?_) (fun c1 => ?_)
    · have hF := if_p hF c1
      refine lv_iconst (v := 0) hx hb dX3_isLetter_16 (by decide) ?_
      obtain rfl := so_o hF
      rw [hQQ]
      exact kr_z (v := (0 : Int32)) hx hb hr hlocks rfl hP hD hS dX3_isLetter_17
    · have hF := if_n hF c1
      refine lv_iload_n hx hb dX3_isLetter_6 rfl (lv_at hl 0 rfl) ?_
      refine lv_bipush (v := 122) hx hb dX3_isLetter_7 (by decide) ?_
      refine lv_icmp_gt (tgt := 16) hx hb dX3_isLetter_9 (by decide) (fun c2 => ?_) (fun c2 => ?_)
      · have hF := if_p hF c2
        refine lv_iconst (v := 0) hx hb dX3_isLetter_16 (by decide) ?_
        obtain rfl := so_o hF
        rw [hQQ]
        exact kr_z (v := (0 : Int32)) hx hb hr hlocks rfl hP hD hS dX3_isLetter_17
      · have hF := if_n hF c2
        refine lv_iconst (v := 1) hx hb dX3_isLetter_12 (by decide) ?_
        refine lv_goto (tgt := 17) hx hb dX3_isLetter_13 (by decide) ?_
        obtain rfl := so_o hF
        rw [hQQ]
        exact kr_z (v := (1 : Int32)) hx hb hr hlocks rfl hP hD hS dX3_isLetter_17
  exact main s.heap [] ls hP hD hS hl
theorem kd_X3_takesWord : yX3_takesWord.cls = RX3 ∧ yX3_takesWord.cls ≠ "java/lang/invoke/MethodHandle" ∧ yX3_takesWord.cls ≠ "java/lang/invoke/VarHandle" ∧ (parseMethodDescriptor yX3_takesWord.desc).map (fun d => d.parameters.length) = some 1 := by decide +kernel
set_option maxHeartbeats 4000000 in
set_option maxRecDepth 100000 in
theorem c_X3_takesWord {l : Launch} {D : va_G} {cy : Nat → ClassId} (q_o q_o_bytes : Nat) (sz : Nat) (x_o_show x_o_filled x_o_error x_o_errorAt x_o_number x_o_planesTold x_o_reachTold x_o_lengthTold x_o_priceTold : Value) (o_end : Int32) (o_at : Int32) (o_bytes : Nat → Int32) (tx : List Int32) (a_tx : Nat) (res : Int32 × Int32) (hF : X3_takesWord tx o_end o_at o_bytes = some res) : Met l yX3_takesWord wsX3_takesWord ({ frames := 4, cells := 0, slots := 0, locals := 101 } : Room) (kP (ES D cy tx a_tx) D [.ref q_o, .ref a_tx] [(q_o, .inr (3, [x_o_show, x_o_filled, x_o_error, x_o_errorAt, .ref q_o_bytes, .int o_end, .int o_at, x_o_number, x_o_planesTold, x_o_reachTold, x_o_lengthTold, x_o_priceTold])), (q_o_bytes, .inl (cy 1, 800, .inl o_bytes))] sz) (kQi D res.1 [(q_o, .inr (3, [x_o_show, x_o_filled, x_o_error, x_o_errorAt, .ref q_o_bytes, .int o_end, .int res.2, x_o_number, x_o_planesTold, x_o_reachTold, x_o_lengthTold, x_o_priceTold])), (q_o_bytes, .inl (cy 1, 800, .inl o_bytes))] (va_A [(q_o, .inr (3, [x_o_show, x_o_filled, x_o_error, x_o_errorAt, .ref q_o_bytes, .int o_end, .int o_at, x_o_number, x_o_planesTold, x_o_reachTold, x_o_lengthTold, x_o_priceTold])), (q_o_bytes, .inl (cy 1, 800, .inl o_bytes))] sz)) 0 0 (va_A [(q_o, .inr (3, [x_o_show, x_o_filled, x_o_error, x_o_errorAt, .ref q_o_bytes, .int o_end, .int o_at, x_o_number, x_o_planesTold, x_o_reachTold, x_o_lengthTold, x_o_priceTold])), (q_o_bytes, .inl (cy 1, 800, .inl o_bytes))] sz) := by
  refine kMet (y := yX3_takesWord) (av := [.ref q_o, .ref a_tx]) (cc := cX3_takesWord) (maxL := 4) (ret := some .boolean) (own := RX3) (Qc := fun A9 => (kQi D res.1 [(q_o, .inr (3, [x_o_show, x_o_filled, x_o_error, x_o_errorAt, .ref q_o_bytes, .int o_end, .int res.2, x_o_number, x_o_planesTold, x_o_reachTold, x_o_lengthTold, x_o_priceTold])), (q_o_bytes, .inl (cy 1, 800, .inl o_bytes))] A9)) (by decide) rfl rfl (Nat.le_of_ble_eq_true rfl) ?_
  intro p e s m args below meth c A hx hb hr hts hown hml hlocks hname hE hP hD hA hsz ls hl
  obtain ⟨hE, hTa_tx⟩ := hE
  have hK := hE.1
  have hl : lv_has ls 4 [(0, .ref q_o), (1, .ref a_tx)] := hl
  have hS : va_S A s.heap s.heap [] := va_S.rf
  have f_f32 := hts (.fieldLink RX3 32 "PeepBox$Setup" "end" "I") (by decide +kernel)
  have f_inX3 : ∀ w ∈ wsX30, w ∈ wsX3_takesWord := by decide +kernel
  have f_f35 := hts (.fieldLink RX3 35 "PeepBox$Setup" "at" "I") (by decide +kernel)
  have f_f28 := hts (.fieldLink RX3 28 "PeepBox$Setup" "bytes" "[B") (by decide +kernel)
  obtain ⟨QQ, hQQ⟩ : ∃ Q9, Q9 = MQ below (kQi D res.1 [(q_o, .inr (3, [x_o_show, x_o_filled, x_o_error, x_o_errorAt, .ref q_o_bytes, .int o_end, .int res.2, x_o_number, x_o_planesTold, x_o_reachTold, x_o_lengthTold, x_o_priceTold])), (q_o_bytes, .inl (cy 1, 800, .inl o_bytes))] A) args s 0 0 A := ⟨_, rfl⟩
  rw [← hQQ]
  have J22 : ∀ (n22 : Nat) (l2 : Int32) (l3 : Int32) (H : Heap) (locs : List Loc) (ls : Array Slot), va_P D vwCl [(q_o, .inr (3, [x_o_show, x_o_filled, x_o_error, x_o_errorAt, .ref q_o_bytes, .int o_end, .int o_at, x_o_number, x_o_planesTold, x_o_reachTold, x_o_lengthTold, x_o_priceTold])), (q_o_bytes, .inl (cy 1, 800, .inl o_bytes))] H → va_D A [(q_o, .inr (3, [x_o_show, x_o_filled, x_o_error, x_o_errorAt, .ref q_o_bytes, .int o_end, .int o_at, x_o_number, x_o_planesTold, x_o_reachTold, x_o_lengthTold, x_o_priceTold])), (q_o_bytes, .inl (cy 1, 800, .inl o_bytes))] → va_S A s.heap H locs → lv_has ls 4 [(0, .ref q_o), (1, .ref a_tx), (2, .int l2), (3, .int l3)] → X3_takesWord_L22 tx o_end o_at o_bytes n22 l2 l3 = some res → W p l e ({ frames := 4, cells := 0, slots := 0, locals := 101 } : Room) s m args below meth c H locs 0 0 QQ (F0 m 22 ls []) := by
    intro n22
    induction n22 with
    | zero =>
      intro l2 l3 H locs ls hP hD hS hl hF
      rw [X3_takesWord_L22] at hF
      cases hF
    | succ n22 ih22 =>
      intro l2 l3 H locs ls hP hD hS hl hF
      rw [X3_takesWord_L22] at hF
      refine lv_iload_n hx hb dX3_takesWord_22 rfl (lv_at hl 3 rfl) ?_
      refine lv_aload_n hx hb dX3_takesWord_23 rfl (lv_at hl 1 rfl) ?_
      obtain ⟨r1, h2, hF⟩ := bn1_o hF
      refine kd_i [(q_o, .inr (3, [x_o_show, x_o_filled, x_o_error, x_o_errorAt, .ref q_o_bytes, .int o_end, .int o_at, x_o_number, x_o_planesTold, x_o_reachTold, x_o_lengthTold, x_o_priceTold])), (q_o_bytes, .inl (cy 1, 800, .inl o_bytes))] (va_runV (As := []) (rest := [.int l3]) ⟨hx, hb, hml, hown, hts⟩ (c_J0_length_8abf5 H.size tx a_tx _ h2) (cwV 0 hts gX3_takesWord_J0_length_8abf5 rfl rfl rfl kd_J0_length_8abf5 ⟨Nat.le_of_ble_eq_true rfl, Nat.le_of_ble_eq_true rfl⟩) ⟨kP_blind (ES_ok D cy tx a_tx) D _ _ _, kStr_recv hTa_tx hS, kStart (ES_ok D cy tx a_tx) (show ES D cy tx a_tx A s s.heap from ⟨hE, hTa_tx⟩) hP hD hS hA [] rfl rfl _⟩ rfl rfl hl.1 rfl (lv_room (Nat.le_of_ble_eq_true rfl)) dX3_takesWord_24 ⟨Nat.zero_le _, Nat.zero_le _⟩) hP hD hS hA [] [0, 1] rfl rfl rfl 2 rfl (by decide +kernel) (fun H locs hP hD hS => ?_)
      refine lv_icmp_ge (tgt := 57) hx hb dX3_takesWord_27 (by decide) (fun c3 => ?_) (fun c3 => ?_)
      · have hF := if_p hF c3
        refine lv_iload_n hx hb dX3_takesWord_57 rfl (lv_at hl 2 rfl) ?_
        refine lv_aload_n hx hb dX3_takesWord_58 rfl (lv_at hl 0 rfl) ?_
        refine va_get (D := D) (ci := 3) (v := .int o_end) (C := RX3) (T := TX3) (N := 12) hx hb hts f_inX3 hown hK hP 0 rfl rfl 5 (by decide) f_f32 (fun _ h9 => h9) rfl dX3_takesWord_59 ?_
        refine lv_icmp_ge (tgt := 79) hx hb dX3_takesWord_62 (by decide) (fun c4 => ?_) (fun c4 => ?_)
        · have hF := if_p hF c4
          refine lv_aload_n hx hb dX3_takesWord_79 rfl (lv_at hl 0 rfl) ?_
          refine lv_iload_n hx hb dX3_takesWord_80 rfl (lv_at hl 2 rfl) ?_
          refine va_put (D := D) (ci := 3) (v := .int l2) (ty := .int) (C := RX3) (T := TX3) (N := 12) hx hb hts f_inX3 tyX3 tyX3_ok nmX3 hown hK hP hD hS 0 rfl rfl 6 (by decide) f_f35 (fun _ h9 => h9) rfl (by decide +kernel) rfl rfl (Nat.le_of_ble_eq_true rfl) dX3_takesWord_81 (fun H locs hP hD hS => ?_)
          have hP : va_P D vwCl [(q_o, .inr (3, [x_o_show, x_o_filled, x_o_error, x_o_errorAt, .ref q_o_bytes, .int o_end, .int l2, x_o_number, x_o_planesTold, x_o_reachTold, x_o_lengthTold, x_o_priceTold])), (q_o_bytes, .inl (cy 1, 800, .inl o_bytes))] H := hP
          have hD : va_D A [(q_o, .inr (3, [x_o_show, x_o_filled, x_o_error, x_o_errorAt, .ref q_o_bytes, .int o_end, .int l2, x_o_number, x_o_planesTold, x_o_reachTold, x_o_lengthTold, x_o_priceTold])), (q_o_bytes, .inl (cy 1, 800, .inl o_bytes))] := hD
          refine lv_iconst (v := 1) hx hb dX3_takesWord_84 (by decide) ?_
          obtain rfl := so_o hF
          rw [hQQ]
          exact kr_z (v := (1 : Int32)) hx hb hr hlocks rfl hP hD hS dX3_takesWord_85
        · have hF := if_n hF c4
          refine lv_aload_n hx hb dX3_takesWord_65 rfl (lv_at hl 0 rfl) ?_
          refine va_get (D := D) (ci := 3) (v := .ref q_o_bytes) (C := RX3) (T := TX3) (N := 12) hx hb hts f_inX3 hown hK hP 0 rfl rfl 4 (by decide) f_f28 (fun _ h9 => h9) rfl dX3_takesWord_66 ?_
          refine lv_iload_n hx hb dX3_takesWord_69 rfl (lv_at hl 2 rfl) ?_
          obtain ⟨h5, hF⟩ := ld_o hF
          refine va_bald hx hb hK hP 1 1 rfl rfl h5 dX3_takesWord_70 ?_
          refine lv_topi (fun v6 ev6 => ?_)
          have hF := hF v6 ev6
          obtain ⟨r7, h8, hF⟩ := bn1_o hF
          refine kd_i [(q_o, .inr (3, [x_o_show, x_o_filled, x_o_error, x_o_errorAt, .ref q_o_bytes, .int o_end, .int o_at, x_o_number, x_o_planesTold, x_o_reachTold, x_o_lengthTold, x_o_priceTold])), (q_o_bytes, .inl (cy 1, 800, .inl o_bytes))] (va_runS (As := [.int v6]) (rest := []) ⟨hx, hb, hml, hown, hts⟩ (c_X3_isLetter H.size v6 _ h8) (va_cwS 1 hts gX3_takesWord_X3_isLetter rfl rfl rfl kd_X3_isLetter ⟨Nat.le_of_ble_eq_true rfl, Nat.le_of_ble_eq_true rfl⟩) ⟨kP_blind (EN_ok D cy) D _ _ _, kStart (EN_ok D cy) hE hP hD hS hA [] rfl rfl _⟩ rfl rfl hl.1 rfl (lv_room (Nat.le_of_ble_eq_true rfl)) dX3_takesWord_71 ⟨Nat.zero_le _, Nat.zero_le _⟩) hP hD hS hA [] [0, 1] rfl rfl rfl 2 rfl (by decide +kernel) (fun H locs hP hD hS => ?_)
          refine lv_if_eq (tgt := 79) hx hb dX3_takesWord_74 (by decide) (fun c9 => ?_) (fun c9 => ?_)
          · have hF := if_p hF c9
            refine lv_aload_n hx hb dX3_takesWord_79 rfl (lv_at hl 0 rfl) ?_
            refine lv_iload_n hx hb dX3_takesWord_80 rfl (lv_at hl 2 rfl) ?_
            refine va_put (D := D) (ci := 3) (v := .int l2) (ty := .int) (C := RX3) (T := TX3) (N := 12) hx hb hts f_inX3 tyX3 tyX3_ok nmX3 hown hK hP hD hS 0 rfl rfl 6 (by decide) f_f35 (fun _ h9 => h9) rfl (by decide +kernel) rfl rfl (Nat.le_of_ble_eq_true rfl) dX3_takesWord_81 (fun H locs hP hD hS => ?_)
            have hP : va_P D vwCl [(q_o, .inr (3, [x_o_show, x_o_filled, x_o_error, x_o_errorAt, .ref q_o_bytes, .int o_end, .int l2, x_o_number, x_o_planesTold, x_o_reachTold, x_o_lengthTold, x_o_priceTold])), (q_o_bytes, .inl (cy 1, 800, .inl o_bytes))] H := hP
            have hD : va_D A [(q_o, .inr (3, [x_o_show, x_o_filled, x_o_error, x_o_errorAt, .ref q_o_bytes, .int o_end, .int l2, x_o_number, x_o_planesTold, x_o_reachTold, x_o_lengthTold, x_o_priceTold])), (q_o_bytes, .inl (cy 1, 800, .inl o_bytes))] := hD
            refine lv_iconst (v := 1) hx hb dX3_takesWord_84 (by decide) ?_
            obtain rfl := so_o hF
            rw [hQQ]
            exact kr_z (v := (1 : Int32)) hx hb hr hlocks rfl hP hD hS dX3_takesWord_85
          · have hF := if_n hF c9
            refine lv_iconst (v := 0) hx hb dX3_takesWord_77 (by decide) ?_
            obtain rfl := so_o hF
            rw [hQQ]
            exact kr_z (v := (0 : Int32)) hx hb hr hlocks rfl hP hD hS dX3_takesWord_78
      · have hF := if_n hF c3
        refine lv_aload_n hx hb dX3_takesWord_30 rfl (lv_at hl 0 rfl) ?_
        refine va_get (D := D) (ci := 3) (v := .ref q_o_bytes) (C := RX3) (T := TX3) (N := 12) hx hb hts f_inX3 hown hK hP 0 rfl rfl 4 (by decide) f_f28 (fun _ h9 => h9) rfl dX3_takesWord_31 ?_
        refine lv_aload_n hx hb dX3_takesWord_34 rfl (lv_at hl 0 rfl) ?_
        refine va_get (D := D) (ci := 3) (v := .int o_at) (C := RX3) (T := TX3) (N := 12) hx hb hts f_inX3 hown hK hP 0 rfl rfl 6 (by decide) f_f35 (fun _ h9 => h9) rfl dX3_takesWord_35 ?_
        refine lv_iload_n hx hb dX3_takesWord_38 rfl (lv_at hl 3 rfl) ?_
        refine lv_iadd hx hb dX3_takesWord_39 ?_
        obtain ⟨h10, hF⟩ := ld_o hF
        refine va_bald hx hb hK hP 1 1 rfl rfl h10 dX3_takesWord_40 ?_
        refine lv_topi (fun v11 ev11 => ?_)
        have hF := hF v11 ev11
        refine lv_aload_n hx hb dX3_takesWord_41 rfl (lv_at hl 1 rfl) ?_
        refine lv_iload_n hx hb dX3_takesWord_42 rfl (lv_at hl 3 rfl) ?_
        obtain ⟨r12, h13, hF⟩ := bn1_o hF
        refine kd_i [(q_o, .inr (3, [x_o_show, x_o_filled, x_o_error, x_o_errorAt, .ref q_o_bytes, .int o_end, .int o_at, x_o_number, x_o_planesTold, x_o_reachTold, x_o_lengthTold, x_o_priceTold])), (q_o_bytes, .inl (cy 1, 800, .inl o_bytes))] (va_runV (As := [.int l3]) (rest := [.int v11]) ⟨hx, hb, hml, hown, hts⟩ (c_J0_charAt_5068e H.size tx a_tx l3 _ h13) (cwV 1 hts gX3_takesWord_J0_charAt_5068e rfl rfl rfl kd_J0_charAt_5068e ⟨Nat.le_of_ble_eq_true rfl, Nat.le_of_ble_eq_true rfl⟩) ⟨kP_blind (ES_ok D cy tx a_tx) D _ _ _, kStr_recv hTa_tx hS, kStart (ES_ok D cy tx a_tx) (show ES D cy tx a_tx A s s.heap from ⟨hE, hTa_tx⟩) hP hD hS hA [] rfl rfl _⟩ rfl rfl hl.1 rfl (lv_room (Nat.le_of_ble_eq_true rfl)) dX3_takesWord_43 ⟨Nat.zero_le _, Nat.zero_le _⟩) hP hD hS hA [] [0, 1] rfl rfl rfl 2 rfl (by decide +kernel) (fun H locs hP hD hS => ?_)
        refine lv_icmp_eq (tgt := 51) hx hb dX3_takesWord_46 (by decide) (fun c14 => ?_) (fun c14 => ?_)
        · have hF := if_p hF c14
          obtain ⟨v15, ev15⟩ : ∃ y : Int32, y = l3 + (1 : Int32) := ⟨_, rfl⟩
          have hF := nm_o hF v15 ev15
          refine lv_iinc (v := v15) (lv' := [(3, .int v15), (0, .ref q_o), (1, .ref a_tx), (2, .int l2)]) hx hb dX3_takesWord_51 hl (k := 3) rfl (by rw [ev15]; rfl) (by decide) rfl (fun ls hl => ?_)
          refine lv_goto (tgt := 22) hx hb dX3_takesWord_54 (by decide) ?_
          exact ih22 l2 v15 H locs ls hP hD hS (lv_sub hl [1, 2, 3, 0] rfl) hF
        · have hF := if_n hF c14
          refine lv_iconst (v := 0) hx hb dX3_takesWord_49 (by decide) ?_
          obtain rfl := so_o hF
          rw [hQQ]
          exact kr_z (v := (0 : Int32)) hx hb hr hlocks rfl hP hD hS dX3_takesWord_50
  have main : ∀ (H : Heap) (locs : List Loc) (ls : Array Slot), va_P D vwCl [(q_o, .inr (3, [x_o_show, x_o_filled, x_o_error, x_o_errorAt, .ref q_o_bytes, .int o_end, .int o_at, x_o_number, x_o_planesTold, x_o_reachTold, x_o_lengthTold, x_o_priceTold])), (q_o_bytes, .inl (cy 1, 800, .inl o_bytes))] H → va_D A [(q_o, .inr (3, [x_o_show, x_o_filled, x_o_error, x_o_errorAt, .ref q_o_bytes, .int o_end, .int o_at, x_o_number, x_o_planesTold, x_o_reachTold, x_o_lengthTold, x_o_priceTold])), (q_o_bytes, .inl (cy 1, 800, .inl o_bytes))] → va_S A s.heap H locs → lv_has ls 4 [(0, .ref q_o), (1, .ref a_tx)] → W p l e ({ frames := 4, cells := 0, slots := 0, locals := 101 } : Room) s m args below meth c H locs 0 0 QQ (F0 m 0 ls []) := by
    intro H locs ls hP hD hS hl
    unfold X3_takesWord at hF
    refine lv_aload_n hx hb dX3_takesWord_0 rfl (lv_at hl 0 rfl) ?_
    refine va_get (D := D) (ci := 3) (v := .int o_at) (C := RX3) (T := TX3) (N := 12) hx hb hts f_inX3 hown hK hP 0 rfl rfl 6 (by decide) f_f35 (fun _ h9 => h9) rfl dX3_takesWord_1 ?_
    refine lv_aload_n hx hb dX3_takesWord_4 rfl (lv_at hl 1 rfl) ?_
    obtain ⟨r16, h17, hF⟩ := bn1_o hF
    refine kd_i [(q_o, .inr (3, [x_o_show, x_o_filled, x_o_error, x_o_errorAt, .ref q_o_bytes, .int o_end, .int o_at, x_o_number, x_o_planesTold, x_o_reachTold, x_o_lengthTold, x_o_priceTold])), (q_o_bytes, .inl (cy 1, 800, .inl o_bytes))] (va_runV (As := []) (rest := [.int o_at]) ⟨hx, hb, hml, hown, hts⟩ (c_J0_length_8abf5 H.size tx a_tx _ h17) (cwV 0 hts gX3_takesWord_J0_length_8abf5 rfl rfl rfl kd_J0_length_8abf5 ⟨Nat.le_of_ble_eq_true rfl, Nat.le_of_ble_eq_true rfl⟩) ⟨kP_blind (ES_ok D cy tx a_tx) D _ _ _, kStr_recv hTa_tx hS, kStart (ES_ok D cy tx a_tx) (show ES D cy tx a_tx A s s.heap from ⟨hE, hTa_tx⟩) hP hD hS hA [] rfl rfl _⟩ rfl rfl hl.1 rfl (lv_room (Nat.le_of_ble_eq_true rfl)) dX3_takesWord_5 ⟨Nat.zero_le _, Nat.zero_le _⟩) hP hD hS hA [] [0, 1] rfl rfl rfl 2 rfl (by decide +kernel) (fun H locs hP hD hS => ?_)
    refine lv_iadd hx hb dX3_takesWord_8 ?_
    refine lv_topi (fun v18 ev18 => ?_)
    have hF := nm_o hF v18 ev18
    refine lv_istore_n (lv' := [(2, .int v18), (0, .ref q_o), (1, .ref a_tx)]) hx hb dX3_takesWord_9 rfl hl (by decide) rfl (fun ls hl => ?_)
    refine lv_iload_n hx hb dX3_takesWord_10 rfl (lv_at hl 0 rfl) ?_
    refine lv_aload_n hx hb dX3_takesWord_11 rfl (lv_at hl 1 rfl) ?_
    refine va_get (D := D) (ci := 3) (v := .int o_end) (C := RX3) (T := TX3) (N := 12) hx hb hts f_inX3 hown hK hP 0 rfl rfl 5 (by decide) f_f32 (fun _ h9 => h9) rfl dX3_takesWord_12 ?_
    refine lv_icmp_le (tgt := 20) hx hb dX3_takesWord_15 (by decide) (fun c19 => ?_) (fun c19 => ?_)
    · have hF := if_p hF c19
      refine lv_iconst (v := 0) hx hb dX3_takesWord_20 (by decide) ?_
      refine lv_istore_n (lv' := [(3, .int (0 : Int32)), (2, .int v18), (0, .ref q_o), (1, .ref a_tx)]) hx hb dX3_takesWord_21 rfl hl (by decide) rfl (fun ls hl => ?_)
      exact J22 FU v18 (0 : Int32) H locs ls hP hD hS (lv_sub hl [2, 3, 1, 0] rfl) hF
    · have hF := if_n hF c19
      refine lv_iconst (v := 0) hx hb dX3_takesWord_18 (by decide) ?_
      obtain rfl := so_o hF
      rw [hQQ]
      exact kr_z (v := (0 : Int32)) hx hb hr hlocks rfl hP hD hS dX3_takesWord_19
  exact main s.heap [] ls hP hD hS hl
theorem kd_X3_fail : yX3_fail.cls = RX3 ∧ yX3_fail.cls ≠ "java/lang/invoke/MethodHandle" ∧ yX3_fail.cls ≠ "java/lang/invoke/VarHandle" ∧ (parseMethodDescriptor yX3_fail.desc).map (fun d => d.parameters.length) = some 2 := by decide +kernel
set_option maxHeartbeats 4000000 in
set_option maxRecDepth 100000 in
theorem c_X3_fail {l : Launch} {D : va_G} {cy : Nat → ClassId} (q_o : Nat) (sz : Nat) (x_o_show x_o_filled x_o_bytes x_o_end x_o_at x_o_number x_o_planesTold x_o_reachTold x_o_lengthTold x_o_priceTold : Value) (o_error : Int32) (o_errorAt : Int32) (p1 : Int32) (p2 : Int32) (res : Int32 × Int32 × Int32) (hF : X3_fail o_error o_errorAt p1 p2 = some res) : Met l yX3_fail wsX3_fail ({ frames := 0, cells := 0, slots := 0, locals := 0 } : Room) (kP (EN D cy) D [.ref q_o, .int p1, .int p2] [(q_o, .inr (3, [x_o_show, x_o_filled, .int o_error, .int o_errorAt, x_o_bytes, x_o_end, x_o_at, x_o_number, x_o_planesTold, x_o_reachTold, x_o_lengthTold, x_o_priceTold]))] sz) (kQi D res.1 [(q_o, .inr (3, [x_o_show, x_o_filled, .int res.2.1, .int res.2.2, x_o_bytes, x_o_end, x_o_at, x_o_number, x_o_planesTold, x_o_reachTold, x_o_lengthTold, x_o_priceTold]))] (va_A [(q_o, .inr (3, [x_o_show, x_o_filled, .int o_error, .int o_errorAt, x_o_bytes, x_o_end, x_o_at, x_o_number, x_o_planesTold, x_o_reachTold, x_o_lengthTold, x_o_priceTold]))] sz)) 0 0 (va_A [(q_o, .inr (3, [x_o_show, x_o_filled, .int o_error, .int o_errorAt, x_o_bytes, x_o_end, x_o_at, x_o_number, x_o_planesTold, x_o_reachTold, x_o_lengthTold, x_o_priceTold]))] sz) := by
  refine kMet (y := yX3_fail) (av := [.ref q_o, .int p1, .int p2]) (cc := cX3_fail) (maxL := 3) (ret := some .boolean) (own := RX3) (Qc := fun A9 => (kQi D res.1 [(q_o, .inr (3, [x_o_show, x_o_filled, .int res.2.1, .int res.2.2, x_o_bytes, x_o_end, x_o_at, x_o_number, x_o_planesTold, x_o_reachTold, x_o_lengthTold, x_o_priceTold]))] A9)) (by decide) rfl rfl (Nat.le_of_ble_eq_true rfl) ?_
  intro p e s m args below meth c A hx hb hr hts hown hml hlocks hname hE hP hD hA hsz ls hl
  have hK := hE.1
  have hl : lv_has ls 3 [(0, .ref q_o), (1, .int p1), (2, .int p2)] := hl
  have hS : va_S A s.heap s.heap [] := va_S.rf
  have f_f22 := hts (.fieldLink RX3 22 "PeepBox$Setup" "error" "I") (by decide +kernel)
  have f_inX3 : ∀ w ∈ wsX30, w ∈ wsX3_fail := by decide +kernel
  have f_f25 := hts (.fieldLink RX3 25 "PeepBox$Setup" "errorAt" "I") (by decide +kernel)
  obtain ⟨QQ, hQQ⟩ : ∃ Q9, Q9 = MQ below (kQi D res.1 [(q_o, .inr (3, [x_o_show, x_o_filled, .int res.2.1, .int res.2.2, x_o_bytes, x_o_end, x_o_at, x_o_number, x_o_planesTold, x_o_reachTold, x_o_lengthTold, x_o_priceTold]))] A) args s 0 0 A := ⟨_, rfl⟩
  rw [← hQQ]
  have main : ∀ (H : Heap) (locs : List Loc) (ls : Array Slot), va_P D vwCl [(q_o, .inr (3, [x_o_show, x_o_filled, .int o_error, .int o_errorAt, x_o_bytes, x_o_end, x_o_at, x_o_number, x_o_planesTold, x_o_reachTold, x_o_lengthTold, x_o_priceTold]))] H → va_D A [(q_o, .inr (3, [x_o_show, x_o_filled, .int o_error, .int o_errorAt, x_o_bytes, x_o_end, x_o_at, x_o_number, x_o_planesTold, x_o_reachTold, x_o_lengthTold, x_o_priceTold]))] → va_S A s.heap H locs → lv_has ls 3 [(0, .ref q_o), (1, .int p1), (2, .int p2)] → W p l e ({ frames := 0, cells := 0, slots := 0, locals := 0 } : Room) s m args below meth c H locs 0 0 QQ (F0 m 0 ls []) := by
    intro H locs ls hP hD hS hl
    unfold X3_fail at hF
    refine lv_aload_n hx hb dX3_fail_0 rfl (lv_at hl 0 rfl) ?_
    refine lv_iload_n hx hb dX3_fail_1 rfl (lv_at hl 1 rfl) ?_
    refine va_put (D := D) (ci := 3) (v := .int p1) (ty := .int) (C := RX3) (T := TX3) (N := 12) hx hb hts f_inX3 tyX3 tyX3_ok nmX3 hown hK hP hD hS 0 rfl rfl 2 (by decide) f_f22 (fun _ h9 => h9) rfl (by decide +kernel) rfl rfl (Nat.le_of_ble_eq_true rfl) dX3_fail_2 (fun H locs hP hD hS => ?_)
    have hP : va_P D vwCl [(q_o, .inr (3, [x_o_show, x_o_filled, .int p1, .int o_errorAt, x_o_bytes, x_o_end, x_o_at, x_o_number, x_o_planesTold, x_o_reachTold, x_o_lengthTold, x_o_priceTold]))] H := hP
    have hD : va_D A [(q_o, .inr (3, [x_o_show, x_o_filled, .int p1, .int o_errorAt, x_o_bytes, x_o_end, x_o_at, x_o_number, x_o_planesTold, x_o_reachTold, x_o_lengthTold, x_o_priceTold]))] := hD
    refine lv_aload_n hx hb dX3_fail_5 rfl (lv_at hl 0 rfl) ?_
    refine lv_iload_n hx hb dX3_fail_6 rfl (lv_at hl 2 rfl) ?_
    refine va_put (D := D) (ci := 3) (v := .int p2) (ty := .int) (C := RX3) (T := TX3) (N := 12) hx hb hts f_inX3 tyX3 tyX3_ok nmX3 hown hK hP hD hS 0 rfl rfl 3 (by decide) f_f25 (fun _ h9 => h9) rfl (by decide +kernel) rfl rfl (Nat.le_of_ble_eq_true rfl) dX3_fail_7 (fun H locs hP hD hS => ?_)
    have hP : va_P D vwCl [(q_o, .inr (3, [x_o_show, x_o_filled, .int p1, .int p2, x_o_bytes, x_o_end, x_o_at, x_o_number, x_o_planesTold, x_o_reachTold, x_o_lengthTold, x_o_priceTold]))] H := hP
    have hD : va_D A [(q_o, .inr (3, [x_o_show, x_o_filled, .int p1, .int p2, x_o_bytes, x_o_end, x_o_at, x_o_number, x_o_planesTold, x_o_reachTold, x_o_lengthTold, x_o_priceTold]))] := hD
    refine lv_iconst (v := 0) hx hb dX3_fail_10 (by decide) ?_
    obtain rfl := so_o hF
    rw [hQQ]
    exact kr_z (v := (0 : Int32)) hx hb hr hlocks rfl hP hD hS dX3_fail_11
  exact main s.heap [] ls hP hD hS hl
theorem kd_X3_isDigit : yX3_isDigit.cls ≠ "java/lang/invoke/MethodHandle" ∧ yX3_isDigit.cls ≠ "java/lang/invoke/VarHandle" ∧ (parseMethodDescriptor yX3_isDigit.desc).map (fun d => d.parameters.length) = some 1 := by decide +kernel
set_option maxHeartbeats 4000000 in
set_option maxRecDepth 100000 in
theorem c_X3_isDigit {l : Launch} {D : va_G} {cy : Nat → ClassId} (sz : Nat) (p0 : Int32) (res : Int32) (hF : X3_isDigit p0 = some res) : Met l yX3_isDigit wsX3_isDigit ({ frames := 0, cells := 0, slots := 0, locals := 0 } : Room) (kP (EN D cy) D [.int p0] [] sz) (kQi D res [] (va_A [] sz)) 0 0 (va_A [] sz) := by
  refine kMet (y := yX3_isDigit) (av := [.int p0]) (cc := cX3_isDigit) (maxL := 1) (ret := some .boolean) (own := RX3) (Qc := fun A9 => (kQi D res [] A9)) (by decide) rfl rfl (Nat.le_of_ble_eq_true rfl) ?_
  intro p e s m args below meth c A hx hb hr hts hown hml hlocks hname hE hP hD hA hsz ls hl
  have hK := hE.1
  have hl : lv_has ls 1 [(0, .int p0)] := hl
  have hS : va_S A s.heap s.heap [] := va_S.rf
  obtain ⟨QQ, hQQ⟩ : ∃ Q9, Q9 = MQ below (kQi D res [] A) args s 0 0 A := ⟨_, rfl⟩
  rw [← hQQ]
  have main : ∀ (H : Heap) (locs : List Loc) (ls : Array Slot), va_P D vwCl [] H → va_D A [] → va_S A s.heap H locs → lv_has ls 1 [(0, .int p0)] → W p l e ({ frames := 0, cells := 0, slots := 0, locals := 0 } : Room) s m args below meth c H locs 0 0 QQ (F0 m 0 ls []) := by
    intro H locs ls hP hD hS hl
    unfold X3_isDigit at hF
    refine lv_iload_n hx hb dX3_isDigit_0 rfl (lv_at hl 0 rfl) ?_
    refine lv_bipush (v := 48) hx hb dX3_isDigit_1 (by decide) ?_
    refine lv_icmp_lt (tgt := 16) hx hb dX3_isDigit_3 (by decide) (fun c1 => ?_) (fun c1 => ?_)
    · have hF := if_p hF c1
      refine lv_iconst (v := 0) hx hb dX3_isDigit_16 (by decide) ?_
      obtain rfl := so_o hF
      rw [hQQ]
      exact kr_z (v := (0 : Int32)) hx hb hr hlocks rfl hP hD hS dX3_isDigit_17
    · have hF := if_n hF c1
      refine lv_iload_n hx hb dX3_isDigit_6 rfl (lv_at hl 0 rfl) ?_
      refine lv_bipush (v := 57) hx hb dX3_isDigit_7 (by decide) ?_
      refine lv_icmp_gt (tgt := 16) hx hb dX3_isDigit_9 (by decide) (fun c2 => ?_) (fun c2 => ?_)
      · have hF := if_p hF c2
        refine lv_iconst (v := 0) hx hb dX3_isDigit_16 (by decide) ?_
        obtain rfl := so_o hF
        rw [hQQ]
        exact kr_z (v := (0 : Int32)) hx hb hr hlocks rfl hP hD hS dX3_isDigit_17
      · have hF := if_n hF c2
        refine lv_iconst (v := 1) hx hb dX3_isDigit_12 (by decide) ?_
        refine lv_goto (tgt := 17) hx hb dX3_isDigit_13 (by decide) ?_
        obtain rfl := so_o hF
        rw [hQQ]
        exact kr_z (v := (1 : Int32)) hx hb hr hlocks rfl hP hD hS dX3_isDigit_17
  exact main s.heap [] ls hP hD hS hl
theorem kd_X3_readNumber : yX3_readNumber.cls = RX3 ∧ yX3_readNumber.cls ≠ "java/lang/invoke/MethodHandle" ∧ yX3_readNumber.cls ≠ "java/lang/invoke/VarHandle" ∧ (parseMethodDescriptor yX3_readNumber.desc).map (fun d => d.parameters.length) = some 2 := by decide +kernel
set_option maxHeartbeats 4000000 in
set_option maxRecDepth 100000 in
theorem c_X3_readNumber {l : Launch} {D : va_G} {cy : Nat → ClassId} (q_o q_o_bytes : Nat) (sz : Nat) (x_o_show x_o_filled x_o_planesTold x_o_reachTold x_o_lengthTold x_o_priceTold : Value) (o_error : Int32) (o_errorAt : Int32) (o_end : Int32) (o_at : Int32) (o_number : Int32) (o_bytes : Nat → Int32) (p1 : Int32) (p2 : Int32) (res : Int32 × Int32 × Int32 × Int32 × Int32) (hF : X3_readNumber o_error o_errorAt o_end o_at o_number o_bytes p1 p2 = some res) : Met l yX3_readNumber wsX3_readNumber ({ frames := 1, cells := 0, slots := 0, locals := 30 } : Room) (kP (EN D cy) D [.ref q_o, .int p1, .int p2] [(q_o, .inr (3, [x_o_show, x_o_filled, .int o_error, .int o_errorAt, .ref q_o_bytes, .int o_end, .int o_at, .int o_number, x_o_planesTold, x_o_reachTold, x_o_lengthTold, x_o_priceTold])), (q_o_bytes, .inl (cy 1, 800, .inl o_bytes))] sz) (kQi D res.1 [(q_o, .inr (3, [x_o_show, x_o_filled, .int res.2.1, .int res.2.2.1, .ref q_o_bytes, .int o_end, .int res.2.2.2.1, .int res.2.2.2.2, x_o_planesTold, x_o_reachTold, x_o_lengthTold, x_o_priceTold])), (q_o_bytes, .inl (cy 1, 800, .inl o_bytes))] (va_A [(q_o, .inr (3, [x_o_show, x_o_filled, .int o_error, .int o_errorAt, .ref q_o_bytes, .int o_end, .int o_at, .int o_number, x_o_planesTold, x_o_reachTold, x_o_lengthTold, x_o_priceTold])), (q_o_bytes, .inl (cy 1, 800, .inl o_bytes))] sz)) 0 0 (va_A [(q_o, .inr (3, [x_o_show, x_o_filled, .int o_error, .int o_errorAt, .ref q_o_bytes, .int o_end, .int o_at, .int o_number, x_o_planesTold, x_o_reachTold, x_o_lengthTold, x_o_priceTold])), (q_o_bytes, .inl (cy 1, 800, .inl o_bytes))] sz) := by
  refine kMet (y := yX3_readNumber) (av := [.ref q_o, .int p1, .int p2]) (cc := cX3_readNumber) (maxL := 4) (ret := some .boolean) (own := RX3) (Qc := fun A9 => (kQi D res.1 [(q_o, .inr (3, [x_o_show, x_o_filled, .int res.2.1, .int res.2.2.1, .ref q_o_bytes, .int o_end, .int res.2.2.2.1, .int res.2.2.2.2, x_o_planesTold, x_o_reachTold, x_o_lengthTold, x_o_priceTold])), (q_o_bytes, .inl (cy 1, 800, .inl o_bytes))] A9)) (by decide) rfl rfl (Nat.le_of_ble_eq_true rfl) ?_
  intro p e s m args below meth c A hx hb hr hts hown hml hlocks hname hE hP hD hA hsz ls hl
  have hK := hE.1
  have hl : lv_has ls 4 [(0, .ref q_o), (1, .int p1), (2, .int p2)] := hl
  have hS : va_S A s.heap s.heap [] := va_S.rf
  have f_f38 := hts (.fieldLink RX3 38 "PeepBox$Setup" "number" "I") (by decide +kernel)
  have f_inX3 : ∀ w ∈ wsX30, w ∈ wsX3_readNumber := by decide +kernel
  have f_f35 := hts (.fieldLink RX3 35 "PeepBox$Setup" "at" "I") (by decide +kernel)
  have f_f32 := hts (.fieldLink RX3 32 "PeepBox$Setup" "end" "I") (by decide +kernel)
  have f_f28 := hts (.fieldLink RX3 28 "PeepBox$Setup" "bytes" "[B") (by decide +kernel)
  have f_c210 := hts (.constant RX3 210 (99999)) (by decide +kernel)
  have f_m86 := hts (.methodLink RX3 86 Lib.Math.min.name) (by decide +kernel)
  have f_s_va_mmin := hts (.static Lib.Math.min.name) (by decide +kernel)
  have f_iMath := hts (.initialized "java/lang/Math") (by decide +kernel)
  have f_k_va_mmin := hts (.code Lib.Math.min.name Lib.Math.min.code 2 (some .int)) (by decide +kernel)
  obtain ⟨QQ, hQQ⟩ : ∃ Q9, Q9 = MQ below (kQi D res.1 [(q_o, .inr (3, [x_o_show, x_o_filled, .int res.2.1, .int res.2.2.1, .ref q_o_bytes, .int o_end, .int res.2.2.2.1, .int res.2.2.2.2, x_o_planesTold, x_o_reachTold, x_o_lengthTold, x_o_priceTold])), (q_o_bytes, .inl (cy 1, 800, .inl o_bytes))] A) args s 0 0 A := ⟨_, rfl⟩
  rw [← hQQ]
  have J125 : ∀ (o_error : Int32) (o_errorAt : Int32) (o_at : Int32) (o_number : Int32) (H : Heap) (locs : List Loc) (ls : Array Slot), va_P D vwCl [(q_o, .inr (3, [x_o_show, x_o_filled, .int o_error, .int o_errorAt, .ref q_o_bytes, .int o_end, .int o_at, .int o_number, x_o_planesTold, x_o_reachTold, x_o_lengthTold, x_o_priceTold])), (q_o_bytes, .inl (cy 1, 800, .inl o_bytes))] H → va_D A [(q_o, .inr (3, [x_o_show, x_o_filled, .int o_error, .int o_errorAt, .ref q_o_bytes, .int o_end, .int o_at, .int o_number, x_o_planesTold, x_o_reachTold, x_o_lengthTold, x_o_priceTold])), (q_o_bytes, .inl (cy 1, 800, .inl o_bytes))] → va_S A s.heap H locs → lv_has ls 4 [] → X3_readNumber_J125 o_end o_bytes p1 p2 o_error o_errorAt o_at o_number = some res → W p l e ({ frames := 1, cells := 0, slots := 0, locals := 30 } : Room) s m args below meth c H locs 0 0 QQ (F0 m 125 ls []) := by
    intro o_error o_errorAt o_at o_number H locs ls hP hD hS hl hF
    unfold X3_readNumber_J125 at hF
    refine lv_iconst (v := 1) hx hb dX3_readNumber_125 (by decide) ?_
    refine lv_goto (tgt := 130) hx hb dX3_readNumber_126 (by decide) ?_
    obtain rfl := so_o hF
    rw [hQQ]
    exact kr_z (v := (1 : Int32)) hx hb hr hlocks rfl hP hD hS dX3_readNumber_130
  have J115 : ∀ (l3 : Int32) (o_at : Int32) (o_number : Int32) (H : Heap) (locs : List Loc) (ls : Array Slot), va_P D vwCl [(q_o, .inr (3, [x_o_show, x_o_filled, .int o_error, .int o_errorAt, .ref q_o_bytes, .int o_end, .int o_at, .int o_number, x_o_planesTold, x_o_reachTold, x_o_lengthTold, x_o_priceTold])), (q_o_bytes, .inl (cy 1, 800, .inl o_bytes))] H → va_D A [(q_o, .inr (3, [x_o_show, x_o_filled, .int o_error, .int o_errorAt, .ref q_o_bytes, .int o_end, .int o_at, .int o_number, x_o_planesTold, x_o_reachTold, x_o_lengthTold, x_o_priceTold])), (q_o_bytes, .inl (cy 1, 800, .inl o_bytes))] → va_S A s.heap H locs → lv_has ls 4 [(0, .ref q_o), (3, .int l3)] → X3_readNumber_J115 o_error o_errorAt o_end o_bytes p1 p2 l3 o_at o_number = some res → W p l e ({ frames := 1, cells := 0, slots := 0, locals := 30 } : Room) s m args below meth c H locs 0 0 QQ (F0 m 115 ls []) := by
    intro l3 o_at o_number H locs ls hP hD hS hl hF
    unfold X3_readNumber_J115 at hF
    refine lv_aload_n hx hb dX3_readNumber_115 rfl (lv_at hl 0 rfl) ?_
    refine lv_bipush (v := -3) hx hb dX3_readNumber_116 (by decide) ?_
    refine lv_iload_n hx hb dX3_readNumber_118 rfl (lv_at hl 1 rfl) ?_
    obtain ⟨r1, o2, o3, h4, hF⟩ := bn3_o hF
    refine kd_i [(q_o, .inr (3, [x_o_show, x_o_filled, .int o2, .int o3, .ref q_o_bytes, .int o_end, .int o_at, .int o_number, x_o_planesTold, x_o_reachTold, x_o_lengthTold, x_o_priceTold])), (q_o_bytes, .inl (cy 1, 800, .inl o_bytes))] (va_runV (As := [.int (-3 : Int32), .int l3]) (rest := []) ⟨hx, hb, hml, hown, hts⟩ (c_X3_fail q_o H.size x_o_show x_o_filled (.ref q_o_bytes) (.int o_end) (.int o_at) (.int o_number) x_o_planesTold x_o_reachTold x_o_lengthTold x_o_priceTold o_error o_errorAt (-3 : Int32) l3 _ h4) (cwV 2 hts gX3_readNumber_X3_fail rfl rfl rfl kd_X3_fail ⟨Nat.le_of_ble_eq_true rfl, Nat.le_of_ble_eq_true rfl⟩) ⟨kP_blind (EN_ok D cy) D _ _ _, va_recv hK hP (ci := 3) (q0 := 0) rfl rfl, kStart (EN_ok D cy) hE hP hD hS hA [0] rfl rfl _⟩ rfl rfl hl.1 rfl (lv_room (Nat.le_of_ble_eq_true rfl)) dX3_readNumber_119 ⟨Nat.zero_le _, Nat.zero_le _⟩) hP hD hS hA [0] [1] rfl rfl rfl 2 rfl (by decide +kernel) (fun H locs hP hD hS => ?_)
    refine lv_if_eq (tgt := 129) hx hb dX3_readNumber_122 (by decide) (fun c5 => ?_) (fun c5 => ?_)
    · have hF := if_p hF c5
      refine lv_iconst (v := 0) hx hb dX3_readNumber_129 (by decide) ?_
      obtain rfl := so_o hF
      rw [hQQ]
      exact kr_z (v := (0 : Int32)) hx hb hr hlocks rfl hP hD hS dX3_readNumber_130
    · have hF := if_n hF c5
      exact J125 o2 o3 o_at o_number H locs ls hP hD hS (lv_sub hl [] rfl) hF
  have J99 : ∀ (l3 : Int32) (o_at : Int32) (o_number : Int32) (H : Heap) (locs : List Loc) (ls : Array Slot), va_P D vwCl [(q_o, .inr (3, [x_o_show, x_o_filled, .int o_error, .int o_errorAt, .ref q_o_bytes, .int o_end, .int o_at, .int o_number, x_o_planesTold, x_o_reachTold, x_o_lengthTold, x_o_priceTold])), (q_o_bytes, .inl (cy 1, 800, .inl o_bytes))] H → va_D A [(q_o, .inr (3, [x_o_show, x_o_filled, .int o_error, .int o_errorAt, .ref q_o_bytes, .int o_end, .int o_at, .int o_number, x_o_planesTold, x_o_reachTold, x_o_lengthTold, x_o_priceTold])), (q_o_bytes, .inl (cy 1, 800, .inl o_bytes))] → va_S A s.heap H locs → lv_has ls 4 [(0, .ref q_o), (1, .int p1), (2, .int p2), (3, .int l3)] → X3_readNumber_J99 o_error o_errorAt o_end o_bytes p1 p2 l3 o_at o_number = some res → W p l e ({ frames := 1, cells := 0, slots := 0, locals := 30 } : Room) s m args below meth c H locs 0 0 QQ (F0 m 99 ls []) := by
    intro l3 o_at o_number H locs ls hP hD hS hl hF
    unfold X3_readNumber_J99 at hF
    refine lv_aload_n hx hb dX3_readNumber_99 rfl (lv_at hl 0 rfl) ?_
    refine va_get (D := D) (ci := 3) (v := .int o_number) (C := RX3) (T := TX3) (N := 12) hx hb hts f_inX3 hown hK hP 0 rfl rfl 7 (by decide) f_f38 (fun _ h9 => h9) rfl dX3_readNumber_100 ?_
    refine lv_iload_n hx hb dX3_readNumber_103 rfl (lv_at hl 1 rfl) ?_
    refine lv_icmp_lt (tgt := 115) hx hb dX3_readNumber_104 (by decide) (fun c6 => ?_) (fun c6 => ?_)
    · have hF := if_p hF c6
      exact J115 l3 o_at o_number H locs ls hP hD hS (lv_sub hl [0, 3] rfl) hF
    · have hF := if_n hF c6
      refine lv_aload_n hx hb dX3_readNumber_107 rfl (lv_at hl 0 rfl) ?_
      refine va_get (D := D) (ci := 3) (v := .int o_number) (C := RX3) (T := TX3) (N := 12) hx hb hts f_inX3 hown hK hP 0 rfl rfl 7 (by decide) f_f38 (fun _ h9 => h9) rfl dX3_readNumber_108 ?_
      refine lv_iload_n hx hb dX3_readNumber_111 rfl (lv_at hl 2 rfl) ?_
      refine lv_icmp_le (tgt := 125) hx hb dX3_readNumber_112 (by decide) (fun c7 => ?_) (fun c7 => ?_)
      · have hF := if_p hF c7
        exact J125 o_error o_errorAt o_at o_number H locs ls hP hD hS (lv_sub hl [] rfl) hF
      · have hF := if_n hF c7
        exact J115 l3 o_at o_number H locs ls hP hD hS (lv_sub hl [0, 3] rfl) hF
  have J31 : ∀ (n31 : Nat) (l3 : Int32) (o_at : Int32) (o_number : Int32) (H : Heap) (locs : List Loc) (ls : Array Slot), va_P D vwCl [(q_o, .inr (3, [x_o_show, x_o_filled, .int o_error, .int o_errorAt, .ref q_o_bytes, .int o_end, .int o_at, .int o_number, x_o_planesTold, x_o_reachTold, x_o_lengthTold, x_o_priceTold])), (q_o_bytes, .inl (cy 1, 800, .inl o_bytes))] H → va_D A [(q_o, .inr (3, [x_o_show, x_o_filled, .int o_error, .int o_errorAt, .ref q_o_bytes, .int o_end, .int o_at, .int o_number, x_o_planesTold, x_o_reachTold, x_o_lengthTold, x_o_priceTold])), (q_o_bytes, .inl (cy 1, 800, .inl o_bytes))] → va_S A s.heap H locs → lv_has ls 4 [(0, .ref q_o), (1, .int p1), (2, .int p2), (3, .int l3)] → X3_readNumber_L31 o_error o_errorAt o_end o_bytes p1 p2 n31 l3 o_at o_number = some res → W p l e ({ frames := 1, cells := 0, slots := 0, locals := 30 } : Room) s m args below meth c H locs 0 0 QQ (F0 m 31 ls []) := by
    intro n31
    induction n31 with
    | zero =>
      intro l3 o_at o_number H locs ls hP hD hS hl hF
      rw [X3_readNumber_L31] at hF
      cases hF
    | succ n31 ih31 =>
      intro l3 o_at o_number H locs ls hP hD hS hl hF
      rw [X3_readNumber_L31] at hF
      refine lv_aload_n hx hb dX3_readNumber_31 rfl (lv_at hl 0 rfl) ?_
      refine va_get (D := D) (ci := 3) (v := .int o_at) (C := RX3) (T := TX3) (N := 12) hx hb hts f_inX3 hown hK hP 0 rfl rfl 6 (by decide) f_f35 (fun _ h9 => h9) rfl dX3_readNumber_32 ?_
      refine lv_aload_n hx hb dX3_readNumber_35 rfl (lv_at hl 0 rfl) ?_
      refine va_get (D := D) (ci := 3) (v := .int o_end) (C := RX3) (T := TX3) (N := 12) hx hb hts f_inX3 hown hK hP 0 rfl rfl 5 (by decide) f_f32 (fun _ h9 => h9) rfl dX3_readNumber_36 ?_
      refine lv_icmp_ge (tgt := 99) hx hb dX3_readNumber_39 (by decide) (fun c8 => ?_) (fun c8 => ?_)
      · have hF := if_p hF c8
        exact J99 l3 o_at o_number H locs ls hP hD hS (lv_sub hl [0, 1, 2, 3] rfl) hF
      · have hF := if_n hF c8
        refine lv_aload_n hx hb dX3_readNumber_42 rfl (lv_at hl 0 rfl) ?_
        refine va_get (D := D) (ci := 3) (v := .ref q_o_bytes) (C := RX3) (T := TX3) (N := 12) hx hb hts f_inX3 hown hK hP 0 rfl rfl 4 (by decide) f_f28 (fun _ h9 => h9) rfl dX3_readNumber_43 ?_
        refine lv_aload_n hx hb dX3_readNumber_46 rfl (lv_at hl 0 rfl) ?_
        refine va_get (D := D) (ci := 3) (v := .int o_at) (C := RX3) (T := TX3) (N := 12) hx hb hts f_inX3 hown hK hP 0 rfl rfl 6 (by decide) f_f35 (fun _ h9 => h9) rfl dX3_readNumber_47 ?_
        obtain ⟨h9, hF⟩ := ld_o hF
        refine va_bald hx hb hK hP 1 1 rfl rfl h9 dX3_readNumber_50 ?_
        refine lv_topi (fun v10 ev10 => ?_)
        have hF := hF v10 ev10
        obtain ⟨r11, h12, hF⟩ := bn1_o hF
        refine kd_i [(q_o, .inr (3, [x_o_show, x_o_filled, .int o_error, .int o_errorAt, .ref q_o_bytes, .int o_end, .int o_at, .int o_number, x_o_planesTold, x_o_reachTold, x_o_lengthTold, x_o_priceTold])), (q_o_bytes, .inl (cy 1, 800, .inl o_bytes))] (va_runS (As := [.int v10]) (rest := []) ⟨hx, hb, hml, hown, hts⟩ (c_X3_isDigit H.size v10 _ h12) (va_cwS 1 hts gX3_readNumber_X3_isDigit rfl rfl rfl kd_X3_isDigit ⟨Nat.le_of_ble_eq_true rfl, Nat.le_of_ble_eq_true rfl⟩) ⟨kP_blind (EN_ok D cy) D _ _ _, kStart (EN_ok D cy) hE hP hD hS hA [] rfl rfl _⟩ rfl rfl hl.1 rfl (lv_room (Nat.le_of_ble_eq_true rfl)) dX3_readNumber_51 ⟨Nat.zero_le _, Nat.zero_le _⟩) hP hD hS hA [] [0, 1] rfl rfl rfl 2 rfl (by decide +kernel) (fun H locs hP hD hS => ?_)
        refine lv_if_eq (tgt := 99) hx hb dX3_readNumber_54 (by decide) (fun c13 => ?_) (fun c13 => ?_)
        · have hF := if_p hF c13
          exact J99 l3 o_at o_number H locs ls hP hD hS (lv_sub hl [0, 1, 2, 3] rfl) hF
        · have hF := if_n hF c13
          refine lv_aload_n hx hb dX3_readNumber_57 rfl (lv_at hl 0 rfl) ?_
          refine lv_bipush (v := 10) hx hb dX3_readNumber_58 (by decide) ?_
          refine lv_aload_n hx hb dX3_readNumber_60 rfl (lv_at hl 0 rfl) ?_
          refine va_get (D := D) (ci := 3) (v := .int o_number) (C := RX3) (T := TX3) (N := 12) hx hb hts f_inX3 hown hK hP 0 rfl rfl 7 (by decide) f_f38 (fun _ h9 => h9) rfl dX3_readNumber_61 ?_
          refine lv_imul hx hb dX3_readNumber_64 ?_
          refine lv_aload_n hx hb dX3_readNumber_65 rfl (lv_at hl 0 rfl) ?_
          refine va_get (D := D) (ci := 3) (v := .ref q_o_bytes) (C := RX3) (T := TX3) (N := 12) hx hb hts f_inX3 hown hK hP 0 rfl rfl 4 (by decide) f_f28 (fun _ h9 => h9) rfl dX3_readNumber_66 ?_
          refine lv_aload_n hx hb dX3_readNumber_69 rfl (lv_at hl 0 rfl) ?_
          refine va_get (D := D) (ci := 3) (v := .int o_at) (C := RX3) (T := TX3) (N := 12) hx hb hts f_inX3 hown hK hP 0 rfl rfl 6 (by decide) f_f35 (fun _ h9 => h9) rfl dX3_readNumber_70 ?_
          obtain ⟨h14, hF⟩ := ld_o hF
          refine va_bald hx hb hK hP 1 1 rfl rfl h14 dX3_readNumber_73 ?_
          refine lv_topi (fun v15 ev15 => ?_)
          have hF := hF v15 ev15
          refine lv_iadd hx hb dX3_readNumber_74 ?_
          refine lv_bipush (v := 48) hx hb dX3_readNumber_75 (by decide) ?_
          refine lv_isub hx hb dX3_readNumber_77 ?_
          refine lv_ldc (v := 99999) hx hb hown f_c210 dX3_readNumber_78 ?_
          refine va_mmin hx hb (by rw [hml]; exact hl.1.symm) hown f_m86 f_s_va_mmin f_iMath f_k_va_mmin (Nat.le_of_ble_eq_true rfl) (Nat.le_of_ble_eq_true rfl) (Nat.zero_le _) (Nat.zero_le _) dX3_readNumber_80 ?_
          refine lv_topi (fun v16 ev16 => ?_)
          have hF := nm_o hF v16 ev16
          refine va_put (D := D) (ci := 3) (v := .int v16) (ty := .int) (C := RX3) (T := TX3) (N := 12) hx hb hts f_inX3 tyX3 tyX3_ok nmX3 hown hK hP hD hS 0 rfl rfl 7 (by decide) f_f38 (fun _ h9 => h9) rfl (by decide +kernel) rfl rfl (Nat.le_of_ble_eq_true rfl) dX3_readNumber_83 (fun H locs hP hD hS => ?_)
          have hP : va_P D vwCl [(q_o, .inr (3, [x_o_show, x_o_filled, .int o_error, .int o_errorAt, .ref q_o_bytes, .int o_end, .int o_at, .int v16, x_o_planesTold, x_o_reachTold, x_o_lengthTold, x_o_priceTold])), (q_o_bytes, .inl (cy 1, 800, .inl o_bytes))] H := hP
          have hD : va_D A [(q_o, .inr (3, [x_o_show, x_o_filled, .int o_error, .int o_errorAt, .ref q_o_bytes, .int o_end, .int o_at, .int v16, x_o_planesTold, x_o_reachTold, x_o_lengthTold, x_o_priceTold])), (q_o_bytes, .inl (cy 1, 800, .inl o_bytes))] := hD
          refine lv_aload_n hx hb dX3_readNumber_86 rfl (lv_at hl 0 rfl) ?_
          refine lv_dup hx hb dX3_readNumber_87 rfl ?_
          refine va_get (D := D) (ci := 3) (v := .int o_at) (C := RX3) (T := TX3) (N := 12) hx hb hts f_inX3 hown hK hP 0 rfl rfl 6 (by decide) f_f35 (fun _ h9 => h9) rfl dX3_readNumber_88 ?_
          refine lv_iconst (v := 1) hx hb dX3_readNumber_91 (by decide) ?_
          refine lv_iadd hx hb dX3_readNumber_92 ?_
          refine lv_topi (fun v17 ev17 => ?_)
          have hF := nm_o hF v17 ev17
          refine va_put (D := D) (ci := 3) (v := .int v17) (ty := .int) (C := RX3) (T := TX3) (N := 12) hx hb hts f_inX3 tyX3 tyX3_ok nmX3 hown hK hP hD hS 0 rfl rfl 6 (by decide) f_f35 (fun _ h9 => h9) rfl (by decide +kernel) rfl rfl (Nat.le_of_ble_eq_true rfl) dX3_readNumber_93 (fun H locs hP hD hS => ?_)
          have hP : va_P D vwCl [(q_o, .inr (3, [x_o_show, x_o_filled, .int o_error, .int o_errorAt, .ref q_o_bytes, .int o_end, .int v17, .int v16, x_o_planesTold, x_o_reachTold, x_o_lengthTold, x_o_priceTold])), (q_o_bytes, .inl (cy 1, 800, .inl o_bytes))] H := hP
          have hD : va_D A [(q_o, .inr (3, [x_o_show, x_o_filled, .int o_error, .int o_errorAt, .ref q_o_bytes, .int o_end, .int v17, .int v16, x_o_planesTold, x_o_reachTold, x_o_lengthTold, x_o_priceTold])), (q_o_bytes, .inl (cy 1, 800, .inl o_bytes))] := hD
          refine lv_goto (tgt := 31) hx hb dX3_readNumber_96 (by decide) ?_
          exact ih31 l3 v17 v16 H locs ls hP hD hS (lv_sub hl [0, 1, 2, 3] rfl) hF
  have main : ∀ (H : Heap) (locs : List Loc) (ls : Array Slot), va_P D vwCl [(q_o, .inr (3, [x_o_show, x_o_filled, .int o_error, .int o_errorAt, .ref q_o_bytes, .int o_end, .int o_at, .int o_number, x_o_planesTold, x_o_reachTold, x_o_lengthTold, x_o_priceTold])), (q_o_bytes, .inl (cy 1, 800, .inl o_bytes))] H → va_D A [(q_o, .inr (3, [x_o_show, x_o_filled, .int o_error, .int o_errorAt, .ref q_o_bytes, .int o_end, .int o_at, .int o_number, x_o_planesTold, x_o_reachTold, x_o_lengthTold, x_o_priceTold])), (q_o_bytes, .inl (cy 1, 800, .inl o_bytes))] → va_S A s.heap H locs → lv_has ls 4 [(0, .ref q_o), (1, .int p1), (2, .int p2)] → W p l e ({ frames := 1, cells := 0, slots := 0, locals := 30 } : Room) s m args below meth c H locs 0 0 QQ (F0 m 0 ls []) := by
    intro H locs ls hP hD hS hl
    unfold X3_readNumber at hF
    refine lv_aload_n hx hb dX3_readNumber_0 rfl (lv_at hl 0 rfl) ?_
    obtain ⟨r18, o19, h20, hF⟩ := bn2_o hF
    refine kd_i [(q_o, .inr (3, [x_o_show, x_o_filled, .int o_error, .int o_errorAt, .ref q_o_bytes, .int o_end, .int o19, .int o_number, x_o_planesTold, x_o_reachTold, x_o_lengthTold, x_o_priceTold])), (q_o_bytes, .inl (cy 1, 800, .inl o_bytes))] (va_runV (As := []) (rest := []) ⟨hx, hb, hml, hown, hts⟩ (c_X3_peek q_o q_o_bytes H.size x_o_show x_o_filled (.int o_error) (.int o_errorAt) (.int o_number) x_o_planesTold x_o_reachTold x_o_lengthTold x_o_priceTold o_end o_at o_bytes _ h20) (cwV 0 hts gX3_readNumber_X3_peek rfl rfl rfl kd_X3_peek ⟨Nat.le_of_ble_eq_true rfl, Nat.le_of_ble_eq_true rfl⟩) ⟨kP_blind (EN_ok D cy) D _ _ _, va_recv hK hP (ci := 3) (q0 := 0) rfl rfl, kStart (EN_ok D cy) hE hP hD hS hA [0, 1] rfl rfl _⟩ rfl rfl hl.1 rfl (lv_room (Nat.le_of_ble_eq_true rfl)) dX3_readNumber_1 ⟨Nat.zero_le _, Nat.zero_le _⟩) hP hD hS hA [0, 1] [] rfl rfl rfl 2 rfl (by decide +kernel) (fun H locs hP hD hS => ?_)
    obtain ⟨r21, h22, hF⟩ := bn1_o hF
    refine kd_i [(q_o, .inr (3, [x_o_show, x_o_filled, .int o_error, .int o_errorAt, .ref q_o_bytes, .int o_end, .int o19, .int o_number, x_o_planesTold, x_o_reachTold, x_o_lengthTold, x_o_priceTold])), (q_o_bytes, .inl (cy 1, 800, .inl o_bytes))] (va_runS (As := [.int r18]) (rest := []) ⟨hx, hb, hml, hown, hts⟩ (c_X3_isDigit H.size r18 _ h22) (va_cwS 1 hts gX3_readNumber_X3_isDigit rfl rfl rfl kd_X3_isDigit ⟨Nat.le_of_ble_eq_true rfl, Nat.le_of_ble_eq_true rfl⟩) ⟨kP_blind (EN_ok D cy) D _ _ _, kStart (EN_ok D cy) hE hP hD hS hA [] rfl rfl _⟩ rfl rfl hl.1 rfl (lv_room (Nat.le_of_ble_eq_true rfl)) dX3_readNumber_4 ⟨Nat.zero_le _, Nat.zero_le _⟩) hP hD hS hA [] [0, 1] rfl rfl rfl 2 rfl (by decide +kernel) (fun H locs hP hD hS => ?_)
    refine lv_if_ne (tgt := 21) hx hb dX3_readNumber_7 (by decide) (fun c23 => ?_) (fun c23 => ?_)
    · have hF := if_n hF c23
      refine lv_aload_n hx hb dX3_readNumber_21 rfl (lv_at hl 0 rfl) ?_
      refine va_get (D := D) (ci := 3) (v := .int o19) (C := RX3) (T := TX3) (N := 12) hx hb hts f_inX3 hown hK hP 0 rfl rfl 6 (by decide) f_f35 (fun _ h9 => h9) rfl dX3_readNumber_22 ?_
      refine lv_istore_n (lv' := [(3, .int o19), (0, .ref q_o), (1, .int p1), (2, .int p2)]) hx hb dX3_readNumber_25 rfl hl (by decide) rfl (fun ls hl => ?_)
      refine lv_aload_n hx hb dX3_readNumber_26 rfl (lv_at hl 1 rfl) ?_
      refine lv_iconst (v := 0) hx hb dX3_readNumber_27 (by decide) ?_
      refine va_put (D := D) (ci := 3) (v := .int (0 : Int32)) (ty := .int) (C := RX3) (T := TX3) (N := 12) hx hb hts f_inX3 tyX3 tyX3_ok nmX3 hown hK hP hD hS 0 rfl rfl 7 (by decide) f_f38 (fun _ h9 => h9) rfl (by decide +kernel) rfl rfl (Nat.le_of_ble_eq_true rfl) dX3_readNumber_28 (fun H locs hP hD hS => ?_)
      have hP : va_P D vwCl [(q_o, .inr (3, [x_o_show, x_o_filled, .int o_error, .int o_errorAt, .ref q_o_bytes, .int o_end, .int o19, .int (0 : Int32), x_o_planesTold, x_o_reachTold, x_o_lengthTold, x_o_priceTold])), (q_o_bytes, .inl (cy 1, 800, .inl o_bytes))] H := hP
      have hD : va_D A [(q_o, .inr (3, [x_o_show, x_o_filled, .int o_error, .int o_errorAt, .ref q_o_bytes, .int o_end, .int o19, .int (0 : Int32), x_o_planesTold, x_o_reachTold, x_o_lengthTold, x_o_priceTold])), (q_o_bytes, .inl (cy 1, 800, .inl o_bytes))] := hD
      exact J31 FU o19 o19 (0 : Int32) H locs ls hP hD hS (lv_sub hl [1, 2, 3, 0] rfl) hF
    · have hF := if_p hF c23
      refine lv_aload_n hx hb dX3_readNumber_10 rfl (lv_at hl 0 rfl) ?_
      refine lv_bipush (v := -2) hx hb dX3_readNumber_11 (by decide) ?_
      refine lv_aload_n hx hb dX3_readNumber_13 rfl (lv_at hl 0 rfl) ?_
      refine va_get (D := D) (ci := 3) (v := .int o19) (C := RX3) (T := TX3) (N := 12) hx hb hts f_inX3 hown hK hP 0 rfl rfl 6 (by decide) f_f35 (fun _ h9 => h9) rfl dX3_readNumber_14 ?_
      obtain ⟨r24, o25, o26, h27, hF⟩ := bn3_o hF
      refine kd_i [(q_o, .inr (3, [x_o_show, x_o_filled, .int o25, .int o26, .ref q_o_bytes, .int o_end, .int o19, .int o_number, x_o_planesTold, x_o_reachTold, x_o_lengthTold, x_o_priceTold])), (q_o_bytes, .inl (cy 1, 800, .inl o_bytes))] (va_runV (As := [.int (-2 : Int32), .int o19]) (rest := []) ⟨hx, hb, hml, hown, hts⟩ (c_X3_fail q_o H.size x_o_show x_o_filled (.ref q_o_bytes) (.int o_end) (.int o19) (.int o_number) x_o_planesTold x_o_reachTold x_o_lengthTold x_o_priceTold o_error o_errorAt (-2 : Int32) o19 _ h27) (cwV 2 hts gX3_readNumber_X3_fail rfl rfl rfl kd_X3_fail ⟨Nat.le_of_ble_eq_true rfl, Nat.le_of_ble_eq_true rfl⟩) ⟨kP_blind (EN_ok D cy) D _ _ _, va_recv hK hP (ci := 3) (q0 := 0) rfl rfl, kStart (EN_ok D cy) hE hP hD hS hA [0] rfl rfl _⟩ rfl rfl hl.1 rfl (lv_room (Nat.le_of_ble_eq_true rfl)) dX3_readNumber_17 ⟨Nat.zero_le _, Nat.zero_le _⟩) hP hD hS hA [0] [1] rfl rfl rfl 2 rfl (by decide +kernel) (fun H locs hP hD hS => ?_)
      obtain ⟨h28, hF⟩ := ck_o hF
      obtain rfl := so_o hF
      rw [hQQ]
      exact kr_z (v := r24) hx hb hr hlocks (by rcases h28 with h9 | h9 <;> rw [h9] <;> rfl) hP hD hS dX3_readNumber_20
  exact main s.heap [] ls hP hD hS hl
theorem kd_X4_begin : yX4_begin.cls = RX4 ∧ yX4_begin.cls ≠ "java/lang/invoke/MethodHandle" ∧ yX4_begin.cls ≠ "java/lang/invoke/VarHandle" ∧ (parseMethodDescriptor yX4_begin.desc).map (fun d => d.parameters.length) = some 3 := by decide +kernel
set_option maxHeartbeats 4000000 in
set_option maxRecDepth 100000 in
theorem c_X4_begin {l : Launch} {D : va_G} {cy : Nat → ClassId} (q_o q_o_box q_o_box_cells q_o_box_pulls q_o_box_price q_o_box_price_codes q_o_crowd q_o_crowd_lookers : Nat) (sz : Nat) (x_o_box_holeX x_o_box_holeY x_o_box_price_waiting x_o_crowd_facts : Value) (o_box_width : Int32) (o_box_height : Int32) (o_box_planes : Int32) (o_box_holes : Int32) (o_box_reach : Int32) (o_box_cells : Nat → Int32) (o_box_pulls : Nat → Int32) (o_box_price_size : Int32) (o_box_price_codes : Nat → Int32) (o_crowd_viewers : Int32) (o_crowd_lookLength : Int32) (o_crowd_time : Int32) (o_crowd_lookers : Nat → Int32) (p1 : Int32) (p2 : Int32) (p3 : Int32) (res : Int32 × Int32 × Int32 × Int32 × Int32 × (Nat → Int32) × (Nat → Int32) × Int32 × (Nat → Int32) × Int32 × Int32 × Int32 × (Nat → Int32)) (hF : X4_begin o_box_width o_box_height o_box_planes o_box_holes o_box_reach o_box_cells o_box_pulls o_box_price_size o_box_price_codes o_crowd_viewers o_crowd_lookLength o_crowd_time o_crowd_lookers p1 p2 p3 = some res) : Met l yX4_begin wsX4_begin ({ frames := 4, cells := 0, slots := 0, locals := 87 } : Room) (kP (EN D cy) D [.ref q_o, .int p1, .int p2, .int p3] [(q_o, .inr (4, [.ref q_o_box, .ref q_o_crowd])), (q_o_box, .inr (0, [.int o_box_width, .int o_box_height, .int o_box_planes, .int o_box_holes, .int o_box_reach, .ref q_o_box_cells, .ref q_o_box_pulls, x_o_box_holeX, x_o_box_holeY, .ref q_o_box_price])), (q_o_box_cells, .inl (cy 0, 480, .inl o_box_cells)), (q_o_box_pulls, .inl (cy 0, 5, .inl o_box_pulls)), (q_o_box_price, .inr (2, [.ref q_o_box_price_codes, .int o_box_price_size, x_o_box_price_waiting])), (q_o_box_price_codes, .inl (cy 0, 800, .inl o_box_price_codes)), (q_o_crowd, .inr (1, [.int o_crowd_viewers, .int o_crowd_lookLength, .int o_crowd_time, .ref q_o_crowd_lookers, x_o_crowd_facts])), (q_o_crowd_lookers, .inl (cy 0, 4, .inl o_crowd_lookers))] sz) (kQv D [(q_o, .inr (4, [.ref q_o_box, .ref q_o_crowd])), (q_o_box, .inr (0, [.int res.1, .int res.2.1, .int res.2.2.1, .int res.2.2.2.1, .int res.2.2.2.2.1, .ref q_o_box_cells, .ref q_o_box_pulls, x_o_box_holeX, x_o_box_holeY, .ref q_o_box_price])), (q_o_box_cells, .inl (cy 0, 480, .inl res.2.2.2.2.2.1)), (q_o_box_pulls, .inl (cy 0, 5, .inl res.2.2.2.2.2.2.1)), (q_o_box_price, .inr (2, [.ref q_o_box_price_codes, .int res.2.2.2.2.2.2.2.1, x_o_box_price_waiting])), (q_o_box_price_codes, .inl (cy 0, 800, .inl res.2.2.2.2.2.2.2.2.1)), (q_o_crowd, .inr (1, [.int res.2.2.2.2.2.2.2.2.2.1, .int res.2.2.2.2.2.2.2.2.2.2.1, .int res.2.2.2.2.2.2.2.2.2.2.2.1, .ref q_o_crowd_lookers, x_o_crowd_facts])), (q_o_crowd_lookers, .inl (cy 0, 4, .inl res.2.2.2.2.2.2.2.2.2.2.2.2))] (va_A [(q_o, .inr (4, [.ref q_o_box, .ref q_o_crowd])), (q_o_box, .inr (0, [.int o_box_width, .int o_box_height, .int o_box_planes, .int o_box_holes, .int o_box_reach, .ref q_o_box_cells, .ref q_o_box_pulls, x_o_box_holeX, x_o_box_holeY, .ref q_o_box_price])), (q_o_box_cells, .inl (cy 0, 480, .inl o_box_cells)), (q_o_box_pulls, .inl (cy 0, 5, .inl o_box_pulls)), (q_o_box_price, .inr (2, [.ref q_o_box_price_codes, .int o_box_price_size, x_o_box_price_waiting])), (q_o_box_price_codes, .inl (cy 0, 800, .inl o_box_price_codes)), (q_o_crowd, .inr (1, [.int o_crowd_viewers, .int o_crowd_lookLength, .int o_crowd_time, .ref q_o_crowd_lookers, x_o_crowd_facts])), (q_o_crowd_lookers, .inl (cy 0, 4, .inl o_crowd_lookers))] sz)) 0 0 (va_A [(q_o, .inr (4, [.ref q_o_box, .ref q_o_crowd])), (q_o_box, .inr (0, [.int o_box_width, .int o_box_height, .int o_box_planes, .int o_box_holes, .int o_box_reach, .ref q_o_box_cells, .ref q_o_box_pulls, x_o_box_holeX, x_o_box_holeY, .ref q_o_box_price])), (q_o_box_cells, .inl (cy 0, 480, .inl o_box_cells)), (q_o_box_pulls, .inl (cy 0, 5, .inl o_box_pulls)), (q_o_box_price, .inr (2, [.ref q_o_box_price_codes, .int o_box_price_size, x_o_box_price_waiting])), (q_o_box_price_codes, .inl (cy 0, 800, .inl o_box_price_codes)), (q_o_crowd, .inr (1, [.int o_crowd_viewers, .int o_crowd_lookLength, .int o_crowd_time, .ref q_o_crowd_lookers, x_o_crowd_facts])), (q_o_crowd_lookers, .inl (cy 0, 4, .inl o_crowd_lookers))] sz) := by
  refine kMet (y := yX4_begin) (av := [.ref q_o, .int p1, .int p2, .int p3]) (cc := cX4_begin) (maxL := 4) (ret := none) (own := RX4) (Qc := fun A9 => (kQv D [(q_o, .inr (4, [.ref q_o_box, .ref q_o_crowd])), (q_o_box, .inr (0, [.int res.1, .int res.2.1, .int res.2.2.1, .int res.2.2.2.1, .int res.2.2.2.2.1, .ref q_o_box_cells, .ref q_o_box_pulls, x_o_box_holeX, x_o_box_holeY, .ref q_o_box_price])), (q_o_box_cells, .inl (cy 0, 480, .inl res.2.2.2.2.2.1)), (q_o_box_pulls, .inl (cy 0, 5, .inl res.2.2.2.2.2.2.1)), (q_o_box_price, .inr (2, [.ref q_o_box_price_codes, .int res.2.2.2.2.2.2.2.1, x_o_box_price_waiting])), (q_o_box_price_codes, .inl (cy 0, 800, .inl res.2.2.2.2.2.2.2.2.1)), (q_o_crowd, .inr (1, [.int res.2.2.2.2.2.2.2.2.2.1, .int res.2.2.2.2.2.2.2.2.2.2.1, .int res.2.2.2.2.2.2.2.2.2.2.2.1, .ref q_o_crowd_lookers, x_o_crowd_facts])), (q_o_crowd_lookers, .inl (cy 0, 4, .inl res.2.2.2.2.2.2.2.2.2.2.2.2))] A9)) (by decide) rfl rfl (Nat.le_of_ble_eq_true rfl) ?_
  intro p e s m args below meth c A hx hb hr hts hown hml hlocks hname hE hP hD hA hsz ls hl
  have hK := hE.1
  have hl : lv_has ls 4 [(0, .ref q_o), (1, .int p1), (2, .int p2), (3, .int p3)] := hl
  have hS : va_S A s.heap s.heap [] := va_S.rf
  have f_f10 := hts (.fieldLink RX4 10 "PeepBox$Show" "box" "LPeepBox$Box;") (by decide +kernel)
  have f_inX4 : ∀ w ∈ wsX40, w ∈ wsX4_begin := by decide +kernel
  have f_f19 := hts (.fieldLink RX4 19 "PeepBox$Show" "crowd" "LPeepBox$Crowd;") (by decide +kernel)
  obtain ⟨QQ, hQQ⟩ : ∃ Q9, Q9 = MQ below (kQv D [(q_o, .inr (4, [.ref q_o_box, .ref q_o_crowd])), (q_o_box, .inr (0, [.int res.1, .int res.2.1, .int res.2.2.1, .int res.2.2.2.1, .int res.2.2.2.2.1, .ref q_o_box_cells, .ref q_o_box_pulls, x_o_box_holeX, x_o_box_holeY, .ref q_o_box_price])), (q_o_box_cells, .inl (cy 0, 480, .inl res.2.2.2.2.2.1)), (q_o_box_pulls, .inl (cy 0, 5, .inl res.2.2.2.2.2.2.1)), (q_o_box_price, .inr (2, [.ref q_o_box_price_codes, .int res.2.2.2.2.2.2.2.1, x_o_box_price_waiting])), (q_o_box_price_codes, .inl (cy 0, 800, .inl res.2.2.2.2.2.2.2.2.1)), (q_o_crowd, .inr (1, [.int res.2.2.2.2.2.2.2.2.2.1, .int res.2.2.2.2.2.2.2.2.2.2.1, .int res.2.2.2.2.2.2.2.2.2.2.2.1, .ref q_o_crowd_lookers, x_o_crowd_facts])), (q_o_crowd_lookers, .inl (cy 0, 4, .inl res.2.2.2.2.2.2.2.2.2.2.2.2))] A) args s 0 0 A := ⟨_, rfl⟩
  rw [← hQQ]
  have main : ∀ (H : Heap) (locs : List Loc) (ls : Array Slot), va_P D vwCl [(q_o, .inr (4, [.ref q_o_box, .ref q_o_crowd])), (q_o_box, .inr (0, [.int o_box_width, .int o_box_height, .int o_box_planes, .int o_box_holes, .int o_box_reach, .ref q_o_box_cells, .ref q_o_box_pulls, x_o_box_holeX, x_o_box_holeY, .ref q_o_box_price])), (q_o_box_cells, .inl (cy 0, 480, .inl o_box_cells)), (q_o_box_pulls, .inl (cy 0, 5, .inl o_box_pulls)), (q_o_box_price, .inr (2, [.ref q_o_box_price_codes, .int o_box_price_size, x_o_box_price_waiting])), (q_o_box_price_codes, .inl (cy 0, 800, .inl o_box_price_codes)), (q_o_crowd, .inr (1, [.int o_crowd_viewers, .int o_crowd_lookLength, .int o_crowd_time, .ref q_o_crowd_lookers, x_o_crowd_facts])), (q_o_crowd_lookers, .inl (cy 0, 4, .inl o_crowd_lookers))] H → va_D A [(q_o, .inr (4, [.ref q_o_box, .ref q_o_crowd])), (q_o_box, .inr (0, [.int o_box_width, .int o_box_height, .int o_box_planes, .int o_box_holes, .int o_box_reach, .ref q_o_box_cells, .ref q_o_box_pulls, x_o_box_holeX, x_o_box_holeY, .ref q_o_box_price])), (q_o_box_cells, .inl (cy 0, 480, .inl o_box_cells)), (q_o_box_pulls, .inl (cy 0, 5, .inl o_box_pulls)), (q_o_box_price, .inr (2, [.ref q_o_box_price_codes, .int o_box_price_size, x_o_box_price_waiting])), (q_o_box_price_codes, .inl (cy 0, 800, .inl o_box_price_codes)), (q_o_crowd, .inr (1, [.int o_crowd_viewers, .int o_crowd_lookLength, .int o_crowd_time, .ref q_o_crowd_lookers, x_o_crowd_facts])), (q_o_crowd_lookers, .inl (cy 0, 4, .inl o_crowd_lookers))] → va_S A s.heap H locs → lv_has ls 4 [(0, .ref q_o), (1, .int p1), (2, .int p2), (3, .int p3)] → W p l e ({ frames := 4, cells := 0, slots := 0, locals := 87 } : Room) s m args below meth c H locs 0 0 QQ (F0 m 0 ls []) := by
    intro H locs ls hP hD hS hl
    unfold X4_begin at hF
    refine lv_aload_n hx hb dX4_begin_0 rfl (lv_at hl 0 rfl) ?_
    refine va_get (D := D) (ci := 4) (v := .ref q_o_box) (C := RX4) (T := TX4) (N := 2) hx hb hts f_inX4 hown hK hP 0 rfl rfl 0 (by decide) f_f10 (fun _ h9 => h9) rfl dX4_begin_1 ?_
    refine lv_iload_n hx hb dX4_begin_4 rfl (lv_at hl 1 rfl) ?_
    refine lv_iload_n hx hb dX4_begin_5 rfl (lv_at hl 2 rfl) ?_
    refine lv_iload_n hx hb dX4_begin_6 rfl (lv_at hl 3 rfl) ?_
    obtain ⟨o1, o2, o3, o4, o5, o6, o7, o8, o9, h10, hF⟩ := bn9_o hF
    refine kd_v [(q_o, .inr (4, [.ref q_o_box, .ref q_o_crowd])), (q_o_box, .inr (0, [.int o1, .int o2, .int o3, .int o4, .int o5, .ref q_o_box_cells, .ref q_o_box_pulls, x_o_box_holeX, x_o_box_holeY, .ref q_o_box_price])), (q_o_box_cells, .inl (cy 0, 480, .inl o6)), (q_o_box_pulls, .inl (cy 0, 5, .inl o7)), (q_o_box_price, .inr (2, [.ref q_o_box_price_codes, .int o8, x_o_box_price_waiting])), (q_o_box_price_codes, .inl (cy 0, 800, .inl o9)), (q_o_crowd, .inr (1, [.int o_crowd_viewers, .int o_crowd_lookLength, .int o_crowd_time, .ref q_o_crowd_lookers, x_o_crowd_facts])), (q_o_crowd_lookers, .inl (cy 0, 4, .inl o_crowd_lookers))] (va_runV (As := [.int p1, .int p2, .int p3]) (rest := []) ⟨hx, hb, hml, hown, hts⟩ (c_X0_begin q_o_box q_o_box_cells q_o_box_pulls q_o_box_price q_o_box_price_codes H.size x_o_box_holeX x_o_box_holeY x_o_box_price_waiting o_box_width o_box_height o_box_planes o_box_holes o_box_reach o_box_cells o_box_pulls o_box_price_size o_box_price_codes p1 p2 p3 _ h10) (cwV 3 hts gX4_begin_X0_begin rfl rfl rfl kd_X0_begin ⟨Nat.le_of_ble_eq_true rfl, Nat.le_of_ble_eq_true rfl⟩) ⟨kP_blind (EN_ok D cy) D _ _ _, va_recv hK hP (ci := 0) (q0 := 1) rfl rfl, kStart (EN_ok D cy) hE hP hD hS hA [1, 2, 3, 4, 5] rfl rfl _⟩ rfl rfl hl.1 rfl (lv_room (Nat.le_of_ble_eq_true rfl)) dX4_begin_7 ⟨Nat.zero_le _, Nat.zero_le _⟩) hP hD hS hA [1, 2, 3, 4, 5] [0, 6, 7] rfl rfl rfl 8 rfl (by decide +kernel) (fun H locs hP hD hS => ?_)
    refine lv_aload_n hx hb dX4_begin_10 rfl (lv_at hl 0 rfl) ?_
    refine va_get (D := D) (ci := 4) (v := .ref q_o_crowd) (C := RX4) (T := TX4) (N := 2) hx hb hts f_inX4 hown hK hP 0 rfl rfl 1 (by decide) f_f19 (fun _ h9 => h9) rfl dX4_begin_11 ?_
    obtain ⟨o11, o12, o13, o14, h15, hF⟩ := bn4_o hF
    refine kd_v [(q_o, .inr (4, [.ref q_o_box, .ref q_o_crowd])), (q_o_box, .inr (0, [.int o1, .int o2, .int o3, .int o4, .int o5, .ref q_o_box_cells, .ref q_o_box_pulls, x_o_box_holeX, x_o_box_holeY, .ref q_o_box_price])), (q_o_box_cells, .inl (cy 0, 480, .inl o6)), (q_o_box_pulls, .inl (cy 0, 5, .inl o7)), (q_o_box_price, .inr (2, [.ref q_o_box_price_codes, .int o8, x_o_box_price_waiting])), (q_o_box_price_codes, .inl (cy 0, 800, .inl o9)), (q_o_crowd, .inr (1, [.int o11, .int o12, .int o13, .ref q_o_crowd_lookers, x_o_crowd_facts])), (q_o_crowd_lookers, .inl (cy 0, 4, .inl o14))] (va_runV (As := []) (rest := []) ⟨hx, hb, hml, hown, hts⟩ (c_X1_begin q_o_crowd q_o_crowd_lookers H.size x_o_crowd_facts o_crowd_viewers o_crowd_lookLength o_crowd_time o_crowd_lookers _ h15) (cwV 0 hts gX4_begin_X1_begin rfl rfl rfl kd_X1_begin ⟨Nat.le_of_ble_eq_true rfl, Nat.le_of_ble_eq_true rfl⟩) ⟨kP_blind (EN_ok D cy) D _ _ _, va_recv hK hP (ci := 1) (q0 := 6) rfl rfl, kStart (EN_ok D cy) hE hP hD hS hA [6, 7] rfl rfl _⟩ rfl rfl hl.1 rfl (lv_room (Nat.le_of_ble_eq_true rfl)) dX4_begin_14 ⟨Nat.zero_le _, Nat.zero_le _⟩) hP hD hS hA [6, 7] [0, 1, 2, 3, 4, 5] rfl rfl rfl 8 rfl (by decide +kernel) (fun H locs hP hD hS => ?_)
    obtain rfl := so_o hF
    rw [hQQ]
    exact kr_v hx hb hr hlocks hP hD hS dX4_begin_17
  exact main s.heap [] ls hP hD hS hl
theorem kd_X3_readSign : yX3_readSign.cls = RX3 ∧ yX3_readSign.cls ≠ "java/lang/invoke/MethodHandle" ∧ yX3_readSign.cls ≠ "java/lang/invoke/VarHandle" ∧ (parseMethodDescriptor yX3_readSign.desc).map (fun d => d.parameters.length) = some 1 := by decide +kernel
set_option maxHeartbeats 4000000 in
set_option maxRecDepth 100000 in
theorem c_X3_readSign {l : Launch} {D : va_G} {cy : Nat → ClassId} (q_o q_o_bytes : Nat) (sz : Nat) (x_o_show x_o_filled x_o_number x_o_planesTold x_o_reachTold x_o_lengthTold x_o_priceTold : Value) (o_error : Int32) (o_errorAt : Int32) (o_end : Int32) (o_at : Int32) (o_bytes : Nat → Int32) (p1 : Int32) (res : Int32 × Int32 × Int32 × Int32) (hF : X3_readSign o_error o_errorAt o_end o_at o_bytes p1 = some res) : Met l yX3_readSign wsX3_readSign ({ frames := 1, cells := 0, slots := 0, locals := 22 } : Room) (kP (EN D cy) D [.ref q_o, .int p1] [(q_o, .inr (3, [x_o_show, x_o_filled, .int o_error, .int o_errorAt, .ref q_o_bytes, .int o_end, .int o_at, x_o_number, x_o_planesTold, x_o_reachTold, x_o_lengthTold, x_o_priceTold])), (q_o_bytes, .inl (cy 1, 800, .inl o_bytes))] sz) (kQi D res.1 [(q_o, .inr (3, [x_o_show, x_o_filled, .int res.2.1, .int res.2.2.1, .ref q_o_bytes, .int o_end, .int res.2.2.2, x_o_number, x_o_planesTold, x_o_reachTold, x_o_lengthTold, x_o_priceTold])), (q_o_bytes, .inl (cy 1, 800, .inl o_bytes))] (va_A [(q_o, .inr (3, [x_o_show, x_o_filled, .int o_error, .int o_errorAt, .ref q_o_bytes, .int o_end, .int o_at, x_o_number, x_o_planesTold, x_o_reachTold, x_o_lengthTold, x_o_priceTold])), (q_o_bytes, .inl (cy 1, 800, .inl o_bytes))] sz)) 0 0 (va_A [(q_o, .inr (3, [x_o_show, x_o_filled, .int o_error, .int o_errorAt, .ref q_o_bytes, .int o_end, .int o_at, x_o_number, x_o_planesTold, x_o_reachTold, x_o_lengthTold, x_o_priceTold])), (q_o_bytes, .inl (cy 1, 800, .inl o_bytes))] sz) := by
  refine kMet (y := yX3_readSign) (av := [.ref q_o, .int p1]) (cc := cX3_readSign) (maxL := 2) (ret := some .boolean) (own := RX3) (Qc := fun A9 => (kQi D res.1 [(q_o, .inr (3, [x_o_show, x_o_filled, .int res.2.1, .int res.2.2.1, .ref q_o_bytes, .int o_end, .int res.2.2.2, x_o_number, x_o_planesTold, x_o_reachTold, x_o_lengthTold, x_o_priceTold])), (q_o_bytes, .inl (cy 1, 800, .inl o_bytes))] A9)) (by decide) rfl rfl (Nat.le_of_ble_eq_true rfl) ?_
  intro p e s m args below meth c A hx hb hr hts hown hml hlocks hname hE hP hD hA hsz ls hl
  have hK := hE.1
  have hl : lv_has ls 2 [(0, .ref q_o), (1, .int p1)] := hl
  have hS : va_S A s.heap s.heap [] := va_S.rf
  have f_f35 := hts (.fieldLink RX3 35 "PeepBox$Setup" "at" "I") (by decide +kernel)
  have f_inX3 : ∀ w ∈ wsX30, w ∈ wsX3_readSign := by decide +kernel
  obtain ⟨QQ, hQQ⟩ : ∃ Q9, Q9 = MQ below (kQi D res.1 [(q_o, .inr (3, [x_o_show, x_o_filled, .int res.2.1, .int res.2.2.1, .ref q_o_bytes, .int o_end, .int res.2.2.2, x_o_number, x_o_planesTold, x_o_reachTold, x_o_lengthTold, x_o_priceTold])), (q_o_bytes, .inl (cy 1, 800, .inl o_bytes))] A) args s 0 0 A := ⟨_, rfl⟩
  rw [← hQQ]
  have main : ∀ (H : Heap) (locs : List Loc) (ls : Array Slot), va_P D vwCl [(q_o, .inr (3, [x_o_show, x_o_filled, .int o_error, .int o_errorAt, .ref q_o_bytes, .int o_end, .int o_at, x_o_number, x_o_planesTold, x_o_reachTold, x_o_lengthTold, x_o_priceTold])), (q_o_bytes, .inl (cy 1, 800, .inl o_bytes))] H → va_D A [(q_o, .inr (3, [x_o_show, x_o_filled, .int o_error, .int o_errorAt, .ref q_o_bytes, .int o_end, .int o_at, x_o_number, x_o_planesTold, x_o_reachTold, x_o_lengthTold, x_o_priceTold])), (q_o_bytes, .inl (cy 1, 800, .inl o_bytes))] → va_S A s.heap H locs → lv_has ls 2 [(0, .ref q_o), (1, .int p1)] → W p l e ({ frames := 1, cells := 0, slots := 0, locals := 22 } : Room) s m args below meth c H locs 0 0 QQ (F0 m 0 ls []) := by
    intro H locs ls hP hD hS hl
    unfold X3_readSign at hF
    refine lv_aload_n hx hb dX3_readSign_0 rfl (lv_at hl 0 rfl) ?_
    obtain ⟨r1, o2, h3, hF⟩ := bn2_o hF
    refine kd_i [(q_o, .inr (3, [x_o_show, x_o_filled, .int o_error, .int o_errorAt, .ref q_o_bytes, .int o_end, .int o2, x_o_number, x_o_planesTold, x_o_reachTold, x_o_lengthTold, x_o_priceTold])), (q_o_bytes, .inl (cy 1, 800, .inl o_bytes))] (va_runV (As := []) (rest := []) ⟨hx, hb, hml, hown, hts⟩ (c_X3_peek q_o q_o_bytes H.size x_o_show x_o_filled (.int o_error) (.int o_errorAt) x_o_number x_o_planesTold x_o_reachTold x_o_lengthTold x_o_priceTold o_end o_at o_bytes _ h3) (cwV 0 hts gX3_readSign_X3_peek rfl rfl rfl kd_X3_peek ⟨Nat.le_of_ble_eq_true rfl, Nat.le_of_ble_eq_true rfl⟩) ⟨kP_blind (EN_ok D cy) D _ _ _, va_recv hK hP (ci := 3) (q0 := 0) rfl rfl, kStart (EN_ok D cy) hE hP hD hS hA [0, 1] rfl rfl _⟩ rfl rfl hl.1 rfl (lv_room (Nat.le_of_ble_eq_true rfl)) dX3_readSign_1 ⟨Nat.zero_le _, Nat.zero_le _⟩) hP hD hS hA [0, 1] [] rfl rfl rfl 2 rfl (by decide +kernel) (fun H locs hP hD hS => ?_)
    refine lv_iload_n hx hb dX3_readSign_4 rfl (lv_at hl 1 rfl) ?_
    refine lv_icmp_eq (tgt := 19) hx hb dX3_readSign_5 (by decide) (fun c4 => ?_) (fun c4 => ?_)
    · have hF := if_p hF c4
      refine lv_aload_n hx hb dX3_readSign_19 rfl (lv_at hl 0 rfl) ?_
      refine lv_dup hx hb dX3_readSign_20 rfl ?_
      refine va_get (D := D) (ci := 3) (v := .int o2) (C := RX3) (T := TX3) (N := 12) hx hb hts f_inX3 hown hK hP 0 rfl rfl 6 (by decide) f_f35 (fun _ h9 => h9) rfl dX3_readSign_21 ?_
      refine lv_iconst (v := 1) hx hb dX3_readSign_24 (by decide) ?_
      refine lv_iadd hx hb dX3_readSign_25 ?_
      refine lv_topi (fun v5 ev5 => ?_)
      have hF := nm_o hF v5 ev5
      refine va_put (D := D) (ci := 3) (v := .int v5) (ty := .int) (C := RX3) (T := TX3) (N := 12) hx hb hts f_inX3 tyX3 tyX3_ok nmX3 hown hK hP hD hS 0 rfl rfl 6 (by decide) f_f35 (fun _ h9 => h9) rfl (by decide +kernel) rfl rfl (Nat.le_of_ble_eq_true rfl) dX3_readSign_26 (fun H locs hP hD hS => ?_)
      have hP : va_P D vwCl [(q_o, .inr (3, [x_o_show, x_o_filled, .int o_error, .int o_errorAt, .ref q_o_bytes, .int o_end, .int v5, x_o_number, x_o_planesTold, x_o_reachTold, x_o_lengthTold, x_o_priceTold])), (q_o_bytes, .inl (cy 1, 800, .inl o_bytes))] H := hP
      have hD : va_D A [(q_o, .inr (3, [x_o_show, x_o_filled, .int o_error, .int o_errorAt, .ref q_o_bytes, .int o_end, .int v5, x_o_number, x_o_planesTold, x_o_reachTold, x_o_lengthTold, x_o_priceTold])), (q_o_bytes, .inl (cy 1, 800, .inl o_bytes))] := hD
      refine lv_iconst (v := 1) hx hb dX3_readSign_29 (by decide) ?_
      obtain rfl := so_o hF
      rw [hQQ]
      exact kr_z (v := (1 : Int32)) hx hb hr hlocks rfl hP hD hS dX3_readSign_30
    · have hF := if_n hF c4
      refine lv_aload_n hx hb dX3_readSign_8 rfl (lv_at hl 0 rfl) ?_
      refine lv_bipush (v := -2) hx hb dX3_readSign_9 (by decide) ?_
      refine lv_aload_n hx hb dX3_readSign_11 rfl (lv_at hl 0 rfl) ?_
      refine va_get (D := D) (ci := 3) (v := .int o2) (C := RX3) (T := TX3) (N := 12) hx hb hts f_inX3 hown hK hP 0 rfl rfl 6 (by decide) f_f35 (fun _ h9 => h9) rfl dX3_readSign_12 ?_
      obtain ⟨r6, o7, o8, h9, hF⟩ := bn3_o hF
      refine kd_i [(q_o, .inr (3, [x_o_show, x_o_filled, .int o7, .int o8, .ref q_o_bytes, .int o_end, .int o2, x_o_number, x_o_planesTold, x_o_reachTold, x_o_lengthTold, x_o_priceTold])), (q_o_bytes, .inl (cy 1, 800, .inl o_bytes))] (va_runV (As := [.int (-2 : Int32), .int o2]) (rest := []) ⟨hx, hb, hml, hown, hts⟩ (c_X3_fail q_o H.size x_o_show x_o_filled (.ref q_o_bytes) (.int o_end) (.int o2) x_o_number x_o_planesTold x_o_reachTold x_o_lengthTold x_o_priceTold o_error o_errorAt (-2 : Int32) o2 _ h9) (cwV 2 hts gX3_readSign_X3_fail rfl rfl rfl kd_X3_fail ⟨Nat.le_of_ble_eq_true rfl, Nat.le_of_ble_eq_true rfl⟩) ⟨kP_blind (EN_ok D cy) D _ _ _, va_recv hK hP (ci := 3) (q0 := 0) rfl rfl, kStart (EN_ok D cy) hE hP hD hS hA [0] rfl rfl _⟩ rfl rfl hl.1 rfl (lv_room (Nat.le_of_ble_eq_true rfl)) dX3_readSign_15 ⟨Nat.zero_le _, Nat.zero_le _⟩) hP hD hS hA [0] [1] rfl rfl rfl 2 rfl (by decide +kernel) (fun H locs hP hD hS => ?_)
      obtain ⟨h10, hF⟩ := ck_o hF
      obtain rfl := so_o hF
      rw [hQQ]
      exact kr_z (v := r6) hx hb hr hlocks (by rcases h10 with h9 | h9 <;> rw [h9] <;> rfl) hP hD hS dX3_readSign_18
  exact main s.heap [] ls hP hD hS hl
theorem kd_X3_readBox : yX3_readBox.cls = RX3 ∧ yX3_readBox.cls ≠ "java/lang/invoke/MethodHandle" ∧ yX3_readBox.cls ≠ "java/lang/invoke/VarHandle" ∧ (parseMethodDescriptor yX3_readBox.desc).map (fun d => d.parameters.length) = some 0 := by decide +kernel
set_option maxHeartbeats 4000000 in
set_option maxRecDepth 100000 in
theorem c_X3_readBox {l : Launch} {D : va_G} {cy : Nat → ClassId} (q_o q_o_show q_o_show_box q_o_show_box_cells q_o_show_box_pulls q_o_show_box_price q_o_show_box_price_codes q_o_show_crowd q_o_show_crowd_lookers q_o_bytes : Nat) (sz : Nat) (x_o_filled x_o_planesTold x_o_reachTold x_o_lengthTold x_o_priceTold x_o_show_box_holeX x_o_show_box_holeY x_o_show_box_price_waiting x_o_show_crowd_facts : Value) (o_error : Int32) (o_errorAt : Int32) (o_end : Int32) (o_at : Int32) (o_number : Int32) (o_show_box_width : Int32) (o_show_box_height : Int32) (o_show_box_planes : Int32) (o_show_box_holes : Int32) (o_show_box_reach : Int32) (o_show_box_cells : Nat → Int32) (o_show_box_pulls : Nat → Int32) (o_show_box_price_size : Int32) (o_show_box_price_codes : Nat → Int32) (o_show_crowd_viewers : Int32) (o_show_crowd_lookLength : Int32) (o_show_crowd_time : Int32) (o_show_crowd_lookers : Nat → Int32) (o_bytes : Nat → Int32) (res : Int32 × Int32 × Int32 × Int32 × Int32 × Int32 × Int32 × Int32 × Int32 × Int32 × (Nat → Int32) × (Nat → Int32) × Int32 × (Nat → Int32) × Int32 × Int32 × Int32 × (Nat → Int32)) (hF : X3_readBox o_error o_errorAt o_end o_at o_number o_show_box_width o_show_box_height o_show_box_planes o_show_box_holes o_show_box_reach o_show_box_cells o_show_box_pulls o_show_box_price_size o_show_box_price_codes o_show_crowd_viewers o_show_crowd_lookLength o_show_crowd_time o_show_crowd_lookers o_bytes = some res) : Met l yX3_readBox wsX3_readBox ({ frames := 5, cells := 0, slots := 0, locals := 124 } : Room) (kP (EN D cy) D [.ref q_o] [(q_o, .inr (3, [.ref q_o_show, x_o_filled, .int o_error, .int o_errorAt, .ref q_o_bytes, .int o_end, .int o_at, .int o_number, x_o_planesTold, x_o_reachTold, x_o_lengthTold, x_o_priceTold])), (q_o_show, .inr (4, [.ref q_o_show_box, .ref q_o_show_crowd])), (q_o_show_box, .inr (0, [.int o_show_box_width, .int o_show_box_height, .int o_show_box_planes, .int o_show_box_holes, .int o_show_box_reach, .ref q_o_show_box_cells, .ref q_o_show_box_pulls, x_o_show_box_holeX, x_o_show_box_holeY, .ref q_o_show_box_price])), (q_o_show_box_cells, .inl (cy 0, 480, .inl o_show_box_cells)), (q_o_show_box_pulls, .inl (cy 0, 5, .inl o_show_box_pulls)), (q_o_show_box_price, .inr (2, [.ref q_o_show_box_price_codes, .int o_show_box_price_size, x_o_show_box_price_waiting])), (q_o_show_box_price_codes, .inl (cy 0, 800, .inl o_show_box_price_codes)), (q_o_show_crowd, .inr (1, [.int o_show_crowd_viewers, .int o_show_crowd_lookLength, .int o_show_crowd_time, .ref q_o_show_crowd_lookers, x_o_show_crowd_facts])), (q_o_show_crowd_lookers, .inl (cy 0, 4, .inl o_show_crowd_lookers)), (q_o_bytes, .inl (cy 1, 800, .inl o_bytes))] sz) (kQi D res.1 [(q_o, .inr (3, [.ref q_o_show, x_o_filled, .int res.2.1, .int res.2.2.1, .ref q_o_bytes, .int o_end, .int res.2.2.2.1, .int res.2.2.2.2.1, x_o_planesTold, x_o_reachTold, x_o_lengthTold, x_o_priceTold])), (q_o_show, .inr (4, [.ref q_o_show_box, .ref q_o_show_crowd])), (q_o_show_box, .inr (0, [.int res.2.2.2.2.2.1, .int res.2.2.2.2.2.2.1, .int res.2.2.2.2.2.2.2.1, .int res.2.2.2.2.2.2.2.2.1, .int res.2.2.2.2.2.2.2.2.2.1, .ref q_o_show_box_cells, .ref q_o_show_box_pulls, x_o_show_box_holeX, x_o_show_box_holeY, .ref q_o_show_box_price])), (q_o_show_box_cells, .inl (cy 0, 480, .inl res.2.2.2.2.2.2.2.2.2.2.1)), (q_o_show_box_pulls, .inl (cy 0, 5, .inl res.2.2.2.2.2.2.2.2.2.2.2.1)), (q_o_show_box_price, .inr (2, [.ref q_o_show_box_price_codes, .int res.2.2.2.2.2.2.2.2.2.2.2.2.1, x_o_show_box_price_waiting])), (q_o_show_box_price_codes, .inl (cy 0, 800, .inl res.2.2.2.2.2.2.2.2.2.2.2.2.2.1)), (q_o_show_crowd, .inr (1, [.int res.2.2.2.2.2.2.2.2.2.2.2.2.2.2.1, .int res.2.2.2.2.2.2.2.2.2.2.2.2.2.2.2.1, .int res.2.2.2.2.2.2.2.2.2.2.2.2.2.2.2.2.1, .ref q_o_show_crowd_lookers, x_o_show_crowd_facts])), (q_o_show_crowd_lookers, .inl (cy 0, 4, .inl res.2.2.2.2.2.2.2.2.2.2.2.2.2.2.2.2.2)), (q_o_bytes, .inl (cy 1, 800, .inl o_bytes))] (va_A [(q_o, .inr (3, [.ref q_o_show, x_o_filled, .int o_error, .int o_errorAt, .ref q_o_bytes, .int o_end, .int o_at, .int o_number, x_o_planesTold, x_o_reachTold, x_o_lengthTold, x_o_priceTold])), (q_o_show, .inr (4, [.ref q_o_show_box, .ref q_o_show_crowd])), (q_o_show_box, .inr (0, [.int o_show_box_width, .int o_show_box_height, .int o_show_box_planes, .int o_show_box_holes, .int o_show_box_reach, .ref q_o_show_box_cells, .ref q_o_show_box_pulls, x_o_show_box_holeX, x_o_show_box_holeY, .ref q_o_show_box_price])), (q_o_show_box_cells, .inl (cy 0, 480, .inl o_show_box_cells)), (q_o_show_box_pulls, .inl (cy 0, 5, .inl o_show_box_pulls)), (q_o_show_box_price, .inr (2, [.ref q_o_show_box_price_codes, .int o_show_box_price_size, x_o_show_box_price_waiting])), (q_o_show_box_price_codes, .inl (cy 0, 800, .inl o_show_box_price_codes)), (q_o_show_crowd, .inr (1, [.int o_show_crowd_viewers, .int o_show_crowd_lookLength, .int o_show_crowd_time, .ref q_o_show_crowd_lookers, x_o_show_crowd_facts])), (q_o_show_crowd_lookers, .inl (cy 0, 4, .inl o_show_crowd_lookers)), (q_o_bytes, .inl (cy 1, 800, .inl o_bytes))] sz)) 0 0 (va_A [(q_o, .inr (3, [.ref q_o_show, x_o_filled, .int o_error, .int o_errorAt, .ref q_o_bytes, .int o_end, .int o_at, .int o_number, x_o_planesTold, x_o_reachTold, x_o_lengthTold, x_o_priceTold])), (q_o_show, .inr (4, [.ref q_o_show_box, .ref q_o_show_crowd])), (q_o_show_box, .inr (0, [.int o_show_box_width, .int o_show_box_height, .int o_show_box_planes, .int o_show_box_holes, .int o_show_box_reach, .ref q_o_show_box_cells, .ref q_o_show_box_pulls, x_o_show_box_holeX, x_o_show_box_holeY, .ref q_o_show_box_price])), (q_o_show_box_cells, .inl (cy 0, 480, .inl o_show_box_cells)), (q_o_show_box_pulls, .inl (cy 0, 5, .inl o_show_box_pulls)), (q_o_show_box_price, .inr (2, [.ref q_o_show_box_price_codes, .int o_show_box_price_size, x_o_show_box_price_waiting])), (q_o_show_box_price_codes, .inl (cy 0, 800, .inl o_show_box_price_codes)), (q_o_show_crowd, .inr (1, [.int o_show_crowd_viewers, .int o_show_crowd_lookLength, .int o_show_crowd_time, .ref q_o_show_crowd_lookers, x_o_show_crowd_facts])), (q_o_show_crowd_lookers, .inl (cy 0, 4, .inl o_show_crowd_lookers)), (q_o_bytes, .inl (cy 1, 800, .inl o_bytes))] sz) := by
  refine kMet (y := yX3_readBox) (av := [.ref q_o]) (cc := cX3_readBox) (maxL := 3) (ret := some .boolean) (own := RX3) (Qc := fun A9 => (kQi D res.1 [(q_o, .inr (3, [.ref q_o_show, x_o_filled, .int res.2.1, .int res.2.2.1, .ref q_o_bytes, .int o_end, .int res.2.2.2.1, .int res.2.2.2.2.1, x_o_planesTold, x_o_reachTold, x_o_lengthTold, x_o_priceTold])), (q_o_show, .inr (4, [.ref q_o_show_box, .ref q_o_show_crowd])), (q_o_show_box, .inr (0, [.int res.2.2.2.2.2.1, .int res.2.2.2.2.2.2.1, .int res.2.2.2.2.2.2.2.1, .int res.2.2.2.2.2.2.2.2.1, .int res.2.2.2.2.2.2.2.2.2.1, .ref q_o_show_box_cells, .ref q_o_show_box_pulls, x_o_show_box_holeX, x_o_show_box_holeY, .ref q_o_show_box_price])), (q_o_show_box_cells, .inl (cy 0, 480, .inl res.2.2.2.2.2.2.2.2.2.2.1)), (q_o_show_box_pulls, .inl (cy 0, 5, .inl res.2.2.2.2.2.2.2.2.2.2.2.1)), (q_o_show_box_price, .inr (2, [.ref q_o_show_box_price_codes, .int res.2.2.2.2.2.2.2.2.2.2.2.2.1, x_o_show_box_price_waiting])), (q_o_show_box_price_codes, .inl (cy 0, 800, .inl res.2.2.2.2.2.2.2.2.2.2.2.2.2.1)), (q_o_show_crowd, .inr (1, [.int res.2.2.2.2.2.2.2.2.2.2.2.2.2.2.1, .int res.2.2.2.2.2.2.2.2.2.2.2.2.2.2.2.1, .int res.2.2.2.2.2.2.2.2.2.2.2.2.2.2.2.2.1, .ref q_o_show_crowd_lookers, x_o_show_crowd_facts])), (q_o_show_crowd_lookers, .inl (cy 0, 4, .inl res.2.2.2.2.2.2.2.2.2.2.2.2.2.2.2.2.2)), (q_o_bytes, .inl (cy 1, 800, .inl o_bytes))] A9)) (by decide) rfl rfl (Nat.le_of_ble_eq_true rfl) ?_
  intro p e s m args below meth c A hx hb hr hts hown hml hlocks hname hE hP hD hA hsz ls hl
  have hK := hE.1
  have hl : lv_has ls 3 [(0, .ref q_o)] := hl
  have hS : va_S A s.heap s.heap [] := va_S.rf
  have f_f38 := hts (.fieldLink RX3 38 "PeepBox$Setup" "number" "I") (by decide +kernel)
  have f_inX3 : ∀ w ∈ wsX30, w ∈ wsX3_readBox := by decide +kernel
  have f_f12 := hts (.fieldLink RX3 12 "PeepBox$Setup" "show" "LPeepBox$Show;") (by decide +kernel)
  have f_f35 := hts (.fieldLink RX3 35 "PeepBox$Setup" "at" "I") (by decide +kernel)
  obtain ⟨QQ, hQQ⟩ : ∃ Q9, Q9 = MQ below (kQi D res.1 [(q_o, .inr (3, [.ref q_o_show, x_o_filled, .int res.2.1, .int res.2.2.1, .ref q_o_bytes, .int o_end, .int res.2.2.2.1, .int res.2.2.2.2.1, x_o_planesTold, x_o_reachTold, x_o_lengthTold, x_o_priceTold])), (q_o_show, .inr (4, [.ref q_o_show_box, .ref q_o_show_crowd])), (q_o_show_box, .inr (0, [.int res.2.2.2.2.2.1, .int res.2.2.2.2.2.2.1, .int res.2.2.2.2.2.2.2.1, .int res.2.2.2.2.2.2.2.2.1, .int res.2.2.2.2.2.2.2.2.2.1, .ref q_o_show_box_cells, .ref q_o_show_box_pulls, x_o_show_box_holeX, x_o_show_box_holeY, .ref q_o_show_box_price])), (q_o_show_box_cells, .inl (cy 0, 480, .inl res.2.2.2.2.2.2.2.2.2.2.1)), (q_o_show_box_pulls, .inl (cy 0, 5, .inl res.2.2.2.2.2.2.2.2.2.2.2.1)), (q_o_show_box_price, .inr (2, [.ref q_o_show_box_price_codes, .int res.2.2.2.2.2.2.2.2.2.2.2.2.1, x_o_show_box_price_waiting])), (q_o_show_box_price_codes, .inl (cy 0, 800, .inl res.2.2.2.2.2.2.2.2.2.2.2.2.2.1)), (q_o_show_crowd, .inr (1, [.int res.2.2.2.2.2.2.2.2.2.2.2.2.2.2.1, .int res.2.2.2.2.2.2.2.2.2.2.2.2.2.2.2.1, .int res.2.2.2.2.2.2.2.2.2.2.2.2.2.2.2.2.1, .ref q_o_show_crowd_lookers, x_o_show_crowd_facts])), (q_o_show_crowd_lookers, .inl (cy 0, 4, .inl res.2.2.2.2.2.2.2.2.2.2.2.2.2.2.2.2.2)), (q_o_bytes, .inl (cy 1, 800, .inl o_bytes))] A) args s 0 0 A := ⟨_, rfl⟩
  rw [← hQQ]
  have main : ∀ (H : Heap) (locs : List Loc) (ls : Array Slot), va_P D vwCl [(q_o, .inr (3, [.ref q_o_show, x_o_filled, .int o_error, .int o_errorAt, .ref q_o_bytes, .int o_end, .int o_at, .int o_number, x_o_planesTold, x_o_reachTold, x_o_lengthTold, x_o_priceTold])), (q_o_show, .inr (4, [.ref q_o_show_box, .ref q_o_show_crowd])), (q_o_show_box, .inr (0, [.int o_show_box_width, .int o_show_box_height, .int o_show_box_planes, .int o_show_box_holes, .int o_show_box_reach, .ref q_o_show_box_cells, .ref q_o_show_box_pulls, x_o_show_box_holeX, x_o_show_box_holeY, .ref q_o_show_box_price])), (q_o_show_box_cells, .inl (cy 0, 480, .inl o_show_box_cells)), (q_o_show_box_pulls, .inl (cy 0, 5, .inl o_show_box_pulls)), (q_o_show_box_price, .inr (2, [.ref q_o_show_box_price_codes, .int o_show_box_price_size, x_o_show_box_price_waiting])), (q_o_show_box_price_codes, .inl (cy 0, 800, .inl o_show_box_price_codes)), (q_o_show_crowd, .inr (1, [.int o_show_crowd_viewers, .int o_show_crowd_lookLength, .int o_show_crowd_time, .ref q_o_show_crowd_lookers, x_o_show_crowd_facts])), (q_o_show_crowd_lookers, .inl (cy 0, 4, .inl o_show_crowd_lookers)), (q_o_bytes, .inl (cy 1, 800, .inl o_bytes))] H → va_D A [(q_o, .inr (3, [.ref q_o_show, x_o_filled, .int o_error, .int o_errorAt, .ref q_o_bytes, .int o_end, .int o_at, .int o_number, x_o_planesTold, x_o_reachTold, x_o_lengthTold, x_o_priceTold])), (q_o_show, .inr (4, [.ref q_o_show_box, .ref q_o_show_crowd])), (q_o_show_box, .inr (0, [.int o_show_box_width, .int o_show_box_height, .int o_show_box_planes, .int o_show_box_holes, .int o_show_box_reach, .ref q_o_show_box_cells, .ref q_o_show_box_pulls, x_o_show_box_holeX, x_o_show_box_holeY, .ref q_o_show_box_price])), (q_o_show_box_cells, .inl (cy 0, 480, .inl o_show_box_cells)), (q_o_show_box_pulls, .inl (cy 0, 5, .inl o_show_box_pulls)), (q_o_show_box_price, .inr (2, [.ref q_o_show_box_price_codes, .int o_show_box_price_size, x_o_show_box_price_waiting])), (q_o_show_box_price_codes, .inl (cy 0, 800, .inl o_show_box_price_codes)), (q_o_show_crowd, .inr (1, [.int o_show_crowd_viewers, .int o_show_crowd_lookLength, .int o_show_crowd_time, .ref q_o_show_crowd_lookers, x_o_show_crowd_facts])), (q_o_show_crowd_lookers, .inl (cy 0, 4, .inl o_show_crowd_lookers)), (q_o_bytes, .inl (cy 1, 800, .inl o_bytes))] → va_S A s.heap H locs → lv_has ls 3 [(0, .ref q_o)] → W p l e ({ frames := 5, cells := 0, slots := 0, locals := 124 } : Room) s m args below meth c H locs 0 0 QQ (F0 m 0 ls []) := by
    intro H locs ls hP hD hS hl
    unfold X3_readBox at hF
    refine lv_aload_n hx hb dX3_readBox_0 rfl (lv_at hl 0 rfl) ?_
    obtain ⟨r1, o2, h3, hF⟩ := bn2_o hF
    refine kd_i [(q_o, .inr (3, [.ref q_o_show, x_o_filled, .int o_error, .int o_errorAt, .ref q_o_bytes, .int o_end, .int o2, .int o_number, x_o_planesTold, x_o_reachTold, x_o_lengthTold, x_o_priceTold])), (q_o_show, .inr (4, [.ref q_o_show_box, .ref q_o_show_crowd])), (q_o_show_box, .inr (0, [.int o_show_box_width, .int o_show_box_height, .int o_show_box_planes, .int o_show_box_holes, .int o_show_box_reach, .ref q_o_show_box_cells, .ref q_o_show_box_pulls, x_o_show_box_holeX, x_o_show_box_holeY, .ref q_o_show_box_price])), (q_o_show_box_cells, .inl (cy 0, 480, .inl o_show_box_cells)), (q_o_show_box_pulls, .inl (cy 0, 5, .inl o_show_box_pulls)), (q_o_show_box_price, .inr (2, [.ref q_o_show_box_price_codes, .int o_show_box_price_size, x_o_show_box_price_waiting])), (q_o_show_box_price_codes, .inl (cy 0, 800, .inl o_show_box_price_codes)), (q_o_show_crowd, .inr (1, [.int o_show_crowd_viewers, .int o_show_crowd_lookLength, .int o_show_crowd_time, .ref q_o_show_crowd_lookers, x_o_show_crowd_facts])), (q_o_show_crowd_lookers, .inl (cy 0, 4, .inl o_show_crowd_lookers)), (q_o_bytes, .inl (cy 1, 800, .inl o_bytes))] (va_runV (As := []) (rest := []) ⟨hx, hb, hml, hown, hts⟩ (c_X3_peek q_o q_o_bytes H.size (.ref q_o_show) x_o_filled (.int o_error) (.int o_errorAt) (.int o_number) x_o_planesTold x_o_reachTold x_o_lengthTold x_o_priceTold o_end o_at o_bytes _ h3) (cwV 0 hts gX3_readBox_X3_peek rfl rfl rfl kd_X3_peek ⟨Nat.le_of_ble_eq_true rfl, Nat.le_of_ble_eq_true rfl⟩) ⟨kP_blind (EN_ok D cy) D _ _ _, va_recv hK hP (ci := 3) (q0 := 0) rfl rfl, kStart (EN_ok D cy) hE hP hD hS hA [0, 9] rfl rfl _⟩ rfl rfl hl.1 rfl (lv_room (Nat.le_of_ble_eq_true rfl)) dX3_readBox_1 ⟨Nat.zero_le _, Nat.zero_le _⟩) hP hD hS hA [0, 9] [1, 2, 3, 4, 5, 6, 7, 8] rfl rfl rfl 10 rfl (by decide +kernel) (fun H locs hP hD hS => ?_)
    refine lv_pop hx hb dX3_readBox_4 rfl ?_
    refine lv_aload_n hx hb dX3_readBox_5 rfl (lv_at hl 0 rfl) ?_
    obtain ⟨a4, hRa4, hTa4⟩ := hE.2.2.1 ("PeepBox$Setup", 92, "box", [98, 111, 120]) (by decide +kernel)
    refine va_ldcS hx hb hown hRa4 dX3_readBox_6 ?_
    obtain ⟨r5, o6, h7, hF⟩ := bn2_o hF
    refine kd_i [(q_o, .inr (3, [.ref q_o_show, x_o_filled, .int o_error, .int o_errorAt, .ref q_o_bytes, .int o_end, .int o6, .int o_number, x_o_planesTold, x_o_reachTold, x_o_lengthTold, x_o_priceTold])), (q_o_show, .inr (4, [.ref q_o_show_box, .ref q_o_show_crowd])), (q_o_show_box, .inr (0, [.int o_show_box_width, .int o_show_box_height, .int o_show_box_planes, .int o_show_box_holes, .int o_show_box_reach, .ref q_o_show_box_cells, .ref q_o_show_box_pulls, x_o_show_box_holeX, x_o_show_box_holeY, .ref q_o_show_box_price])), (q_o_show_box_cells, .inl (cy 0, 480, .inl o_show_box_cells)), (q_o_show_box_pulls, .inl (cy 0, 5, .inl o_show_box_pulls)), (q_o_show_box_price, .inr (2, [.ref q_o_show_box_price_codes, .int o_show_box_price_size, x_o_show_box_price_waiting])), (q_o_show_box_price_codes, .inl (cy 0, 800, .inl o_show_box_price_codes)), (q_o_show_crowd, .inr (1, [.int o_show_crowd_viewers, .int o_show_crowd_lookLength, .int o_show_crowd_time, .ref q_o_show_crowd_lookers, x_o_show_crowd_facts])), (q_o_show_crowd_lookers, .inl (cy 0, 4, .inl o_show_crowd_lookers)), (q_o_bytes, .inl (cy 1, 800, .inl o_bytes))] (va_runV (As := [.ref a4]) (rest := []) ⟨hx, hb, hml, hown, hts⟩ (c_X3_takesWord q_o q_o_bytes H.size (.ref q_o_show) x_o_filled (.int o_error) (.int o_errorAt) (.int o_number) x_o_planesTold x_o_reachTold x_o_lengthTold x_o_priceTold o_end o2 o_bytes [98, 111, 120] a4 _ h7) (cwV 1 hts gX3_readBox_X3_takesWord rfl rfl rfl kd_X3_takesWord ⟨Nat.le_of_ble_eq_true rfl, Nat.le_of_ble_eq_true rfl⟩) ⟨kP_blind (ES_ok D cy [98, 111, 120] a4) D _ _ _, va_recv hK hP (ci := 3) (q0 := 0) rfl rfl, kStart (ES_ok D cy [98, 111, 120] a4) (show ES D cy [98, 111, 120] a4 A s s.heap from ⟨hE, hTa4⟩) hP hD hS hA [0, 9] rfl rfl _⟩ rfl rfl hl.1 rfl (lv_room (Nat.le_of_ble_eq_true rfl)) dX3_readBox_8 ⟨Nat.zero_le _, Nat.zero_le _⟩) hP hD hS hA [0, 9] [1, 2, 3, 4, 5, 6, 7, 8] rfl rfl rfl 10 rfl (by decide +kernel) (fun H locs hP hD hS => ?_)
    refine lv_if_ne (tgt := 25) hx hb dX3_readBox_11 (by decide) (fun c8 => ?_) (fun c8 => ?_)
    · have hF := if_n hF c8
      refine lv_aload_n hx hb dX3_readBox_25 rfl (lv_at hl 0 rfl) ?_
      refine lv_iconst (v := 1) hx hb dX3_readBox_26 (by decide) ?_
      refine lv_bipush (v := 12) hx hb dX3_readBox_27 (by decide) ?_
      obtain ⟨r9, o10, o11, o12, o13, h14, hF⟩ := bn5_o hF
      refine kd_i [(q_o, .inr (3, [.ref q_o_show, x_o_filled, .int o10, .int o11, .ref q_o_bytes, .int o_end, .int o12, .int o13, x_o_planesTold, x_o_reachTold, x_o_lengthTold, x_o_priceTold])), (q_o_show, .inr (4, [.ref q_o_show_box, .ref q_o_show_crowd])), (q_o_show_box, .inr (0, [.int o_show_box_width, .int o_show_box_height, .int o_show_box_planes, .int o_show_box_holes, .int o_show_box_reach, .ref q_o_show_box_cells, .ref q_o_show_box_pulls, x_o_show_box_holeX, x_o_show_box_holeY, .ref q_o_show_box_price])), (q_o_show_box_cells, .inl (cy 0, 480, .inl o_show_box_cells)), (q_o_show_box_pulls, .inl (cy 0, 5, .inl o_show_box_pulls)), (q_o_show_box_price, .inr (2, [.ref q_o_show_box_price_codes, .int o_show_box_price_size, x_o_show_box_price_waiting])), (q_o_show_box_price_codes, .inl (cy 0, 800, .inl o_show_box_price_codes)), (q_o_show_crowd, .inr (1, [.int o_show_crowd_viewers, .int o_show_crowd_lookLength, .int o_show_crowd_time, .ref q_o_show_crowd_lookers, x_o_show_crowd_facts])), (q_o_show_crowd_lookers, .inl (cy 0, 4, .inl o_show_crowd_lookers)), (q_o_bytes, .inl (cy 1, 800, .inl o_bytes))] (va_runV (As := [.int (1 : Int32), .int (12 : Int32)]) (rest := []) ⟨hx, hb, hml, hown, hts⟩ (c_X3_readNumber q_o q_o_bytes H.size (.ref q_o_show) x_o_filled x_o_planesTold x_o_reachTold x_o_lengthTold x_o_priceTold o_error o_errorAt o_end o6 o_number o_bytes (1 : Int32) (12 : Int32) _ h14) (cwV 2 hts gX3_readBox_X3_readNumber rfl rfl rfl kd_X3_readNumber ⟨Nat.le_of_ble_eq_true rfl, Nat.le_of_ble_eq_true rfl⟩) ⟨kP_blind (EN_ok D cy) D _ _ _, va_recv hK hP (ci := 3) (q0 := 0) rfl rfl, kStart (EN_ok D cy) hE hP hD hS hA [0, 9] rfl rfl _⟩ rfl rfl hl.1 rfl (lv_room (Nat.le_of_ble_eq_true rfl)) dX3_readBox_29 ⟨Nat.zero_le _, Nat.zero_le _⟩) hP hD hS hA [0, 9] [1, 2, 3, 4, 5, 6, 7, 8] rfl rfl rfl 10 rfl (by decide +kernel) (fun H locs hP hD hS => ?_)
      refine lv_if_ne (tgt := 37) hx hb dX3_readBox_32 (by decide) (fun c15 => ?_) (fun c15 => ?_)
      · have hF := if_n hF c15
        refine lv_aload_n hx hb dX3_readBox_37 rfl (lv_at hl 0 rfl) ?_
        refine va_get (D := D) (ci := 3) (v := .int o13) (C := RX3) (T := TX3) (N := 12) hx hb hts f_inX3 hown hK hP 0 rfl rfl 7 (by decide) f_f38 (fun _ h9 => h9) rfl dX3_readBox_38 ?_
        refine lv_istore_n (lv' := [(1, .int o13), (0, .ref q_o)]) hx hb dX3_readBox_41 rfl hl (by decide) rfl (fun ls hl => ?_)
        refine lv_aload_n hx hb dX3_readBox_42 rfl (lv_at hl 1 rfl) ?_
        refine lv_iconst (v := 1) hx hb dX3_readBox_43 (by decide) ?_
        refine lv_bipush (v := 8) hx hb dX3_readBox_44 (by decide) ?_
        obtain ⟨r16, o17, o18, o19, o20, h21, hF⟩ := bn5_o hF
        refine kd_i [(q_o, .inr (3, [.ref q_o_show, x_o_filled, .int o17, .int o18, .ref q_o_bytes, .int o_end, .int o19, .int o20, x_o_planesTold, x_o_reachTold, x_o_lengthTold, x_o_priceTold])), (q_o_show, .inr (4, [.ref q_o_show_box, .ref q_o_show_crowd])), (q_o_show_box, .inr (0, [.int o_show_box_width, .int o_show_box_height, .int o_show_box_planes, .int o_show_box_holes, .int o_show_box_reach, .ref q_o_show_box_cells, .ref q_o_show_box_pulls, x_o_show_box_holeX, x_o_show_box_holeY, .ref q_o_show_box_price])), (q_o_show_box_cells, .inl (cy 0, 480, .inl o_show_box_cells)), (q_o_show_box_pulls, .inl (cy 0, 5, .inl o_show_box_pulls)), (q_o_show_box_price, .inr (2, [.ref q_o_show_box_price_codes, .int o_show_box_price_size, x_o_show_box_price_waiting])), (q_o_show_box_price_codes, .inl (cy 0, 800, .inl o_show_box_price_codes)), (q_o_show_crowd, .inr (1, [.int o_show_crowd_viewers, .int o_show_crowd_lookLength, .int o_show_crowd_time, .ref q_o_show_crowd_lookers, x_o_show_crowd_facts])), (q_o_show_crowd_lookers, .inl (cy 0, 4, .inl o_show_crowd_lookers)), (q_o_bytes, .inl (cy 1, 800, .inl o_bytes))] (va_runV (As := [.int (1 : Int32), .int (8 : Int32)]) (rest := []) ⟨hx, hb, hml, hown, hts⟩ (c_X3_readNumber q_o q_o_bytes H.size (.ref q_o_show) x_o_filled x_o_planesTold x_o_reachTold x_o_lengthTold x_o_priceTold o10 o11 o_end o12 o13 o_bytes (1 : Int32) (8 : Int32) _ h21) (cwV 2 hts gX3_readBox_X3_readNumber rfl rfl rfl kd_X3_readNumber ⟨Nat.le_of_ble_eq_true rfl, Nat.le_of_ble_eq_true rfl⟩) ⟨kP_blind (EN_ok D cy) D _ _ _, va_recv hK hP (ci := 3) (q0 := 0) rfl rfl, kStart (EN_ok D cy) hE hP hD hS hA [0, 9] rfl rfl _⟩ rfl rfl hl.1 rfl (lv_room (Nat.le_of_ble_eq_true rfl)) dX3_readBox_46 ⟨Nat.zero_le _, Nat.zero_le _⟩) hP hD hS hA [0, 9] [1, 2, 3, 4, 5, 6, 7, 8] rfl rfl rfl 10 rfl (by decide +kernel) (fun H locs hP hD hS => ?_)
        refine lv_if_ne (tgt := 54) hx hb dX3_readBox_49 (by decide) (fun c22 => ?_) (fun c22 => ?_)
        · have hF := if_n hF c22
          refine lv_aload_n hx hb dX3_readBox_54 rfl (lv_at hl 1 rfl) ?_
          refine va_get (D := D) (ci := 3) (v := .int o20) (C := RX3) (T := TX3) (N := 12) hx hb hts f_inX3 hown hK hP 0 rfl rfl 7 (by decide) f_f38 (fun _ h9 => h9) rfl dX3_readBox_55 ?_
          refine lv_istore_n (lv' := [(2, .int o20), (1, .int o13), (0, .ref q_o)]) hx hb dX3_readBox_58 rfl hl (by decide) rfl (fun ls hl => ?_)
          refine lv_aload_n hx hb dX3_readBox_59 rfl (lv_at hl 2 rfl) ?_
          refine lv_iconst (v := 1) hx hb dX3_readBox_60 (by decide) ?_
          refine lv_iconst (v := 5) hx hb dX3_readBox_61 (by decide) ?_
          obtain ⟨r23, o24, o25, o26, o27, h28, hF⟩ := bn5_o hF
          refine kd_i [(q_o, .inr (3, [.ref q_o_show, x_o_filled, .int o24, .int o25, .ref q_o_bytes, .int o_end, .int o26, .int o27, x_o_planesTold, x_o_reachTold, x_o_lengthTold, x_o_priceTold])), (q_o_show, .inr (4, [.ref q_o_show_box, .ref q_o_show_crowd])), (q_o_show_box, .inr (0, [.int o_show_box_width, .int o_show_box_height, .int o_show_box_planes, .int o_show_box_holes, .int o_show_box_reach, .ref q_o_show_box_cells, .ref q_o_show_box_pulls, x_o_show_box_holeX, x_o_show_box_holeY, .ref q_o_show_box_price])), (q_o_show_box_cells, .inl (cy 0, 480, .inl o_show_box_cells)), (q_o_show_box_pulls, .inl (cy 0, 5, .inl o_show_box_pulls)), (q_o_show_box_price, .inr (2, [.ref q_o_show_box_price_codes, .int o_show_box_price_size, x_o_show_box_price_waiting])), (q_o_show_box_price_codes, .inl (cy 0, 800, .inl o_show_box_price_codes)), (q_o_show_crowd, .inr (1, [.int o_show_crowd_viewers, .int o_show_crowd_lookLength, .int o_show_crowd_time, .ref q_o_show_crowd_lookers, x_o_show_crowd_facts])), (q_o_show_crowd_lookers, .inl (cy 0, 4, .inl o_show_crowd_lookers)), (q_o_bytes, .inl (cy 1, 800, .inl o_bytes))] (va_runV (As := [.int (1 : Int32), .int (5 : Int32)]) (rest := []) ⟨hx, hb, hml, hown, hts⟩ (c_X3_readNumber q_o q_o_bytes H.size (.ref q_o_show) x_o_filled x_o_planesTold x_o_reachTold x_o_lengthTold x_o_priceTold o17 o18 o_end o19 o20 o_bytes (1 : Int32) (5 : Int32) _ h28) (cwV 2 hts gX3_readBox_X3_readNumber rfl rfl rfl kd_X3_readNumber ⟨Nat.le_of_ble_eq_true rfl, Nat.le_of_ble_eq_true rfl⟩) ⟨kP_blind (EN_ok D cy) D _ _ _, va_recv hK hP (ci := 3) (q0 := 0) rfl rfl, kStart (EN_ok D cy) hE hP hD hS hA [0, 9] rfl rfl _⟩ rfl rfl hl.1 rfl (lv_room (Nat.le_of_ble_eq_true rfl)) dX3_readBox_62 ⟨Nat.zero_le _, Nat.zero_le _⟩) hP hD hS hA [0, 9] [1, 2, 3, 4, 5, 6, 7, 8] rfl rfl rfl 10 rfl (by decide +kernel) (fun H locs hP hD hS => ?_)
          refine lv_if_ne (tgt := 70) hx hb dX3_readBox_65 (by decide) (fun c29 => ?_) (fun c29 => ?_)
          · have hF := if_n hF c29
            refine lv_aload_n hx hb dX3_readBox_70 rfl (lv_at hl 2 rfl) ?_
            refine va_get (D := D) (ci := 3) (v := .ref q_o_show) (C := RX3) (T := TX3) (N := 12) hx hb hts f_inX3 hown hK hP 0 rfl rfl 0 (by decide) f_f12 (fun _ h9 => h9) rfl dX3_readBox_71 ?_
            refine lv_iload_n hx hb dX3_readBox_74 rfl (lv_at hl 1 rfl) ?_
            refine lv_iload_n hx hb dX3_readBox_75 rfl (lv_at hl 0 rfl) ?_
            refine lv_aload_n hx hb dX3_readBox_76 rfl (lv_at hl 2 rfl) ?_
            refine va_get (D := D) (ci := 3) (v := .int o27) (C := RX3) (T := TX3) (N := 12) hx hb hts f_inX3 hown hK hP 0 rfl rfl 7 (by decide) f_f38 (fun _ h9 => h9) rfl dX3_readBox_77 ?_
            obtain ⟨o30, o31, o32, o33, o34, o35, o36, o37, o38, o39, o40, o41, o42, h43, hF⟩ := bn13_o hF
            refine kd_v [(q_o, .inr (3, [.ref q_o_show, x_o_filled, .int o24, .int o25, .ref q_o_bytes, .int o_end, .int o26, .int o27, x_o_planesTold, x_o_reachTold, x_o_lengthTold, x_o_priceTold])), (q_o_show, .inr (4, [.ref q_o_show_box, .ref q_o_show_crowd])), (q_o_show_box, .inr (0, [.int o30, .int o31, .int o32, .int o33, .int o34, .ref q_o_show_box_cells, .ref q_o_show_box_pulls, x_o_show_box_holeX, x_o_show_box_holeY, .ref q_o_show_box_price])), (q_o_show_box_cells, .inl (cy 0, 480, .inl o35)), (q_o_show_box_pulls, .inl (cy 0, 5, .inl o36)), (q_o_show_box_price, .inr (2, [.ref q_o_show_box_price_codes, .int o37, x_o_show_box_price_waiting])), (q_o_show_box_price_codes, .inl (cy 0, 800, .inl o38)), (q_o_show_crowd, .inr (1, [.int o39, .int o40, .int o41, .ref q_o_show_crowd_lookers, x_o_show_crowd_facts])), (q_o_show_crowd_lookers, .inl (cy 0, 4, .inl o42)), (q_o_bytes, .inl (cy 1, 800, .inl o_bytes))] (va_runV (As := [.int o13, .int o20, .int o27]) (rest := []) ⟨hx, hb, hml, hown, hts⟩ (c_X4_begin q_o_show q_o_show_box q_o_show_box_cells q_o_show_box_pulls q_o_show_box_price q_o_show_box_price_codes q_o_show_crowd q_o_show_crowd_lookers H.size x_o_show_box_holeX x_o_show_box_holeY x_o_show_box_price_waiting x_o_show_crowd_facts o_show_box_width o_show_box_height o_show_box_planes o_show_box_holes o_show_box_reach o_show_box_cells o_show_box_pulls o_show_box_price_size o_show_box_price_codes o_show_crowd_viewers o_show_crowd_lookLength o_show_crowd_time o_show_crowd_lookers o13 o20 o27 _ h43) (cwV 3 hts gX3_readBox_X4_begin rfl rfl rfl kd_X4_begin ⟨Nat.le_of_ble_eq_true rfl, Nat.le_of_ble_eq_true rfl⟩) ⟨kP_blind (EN_ok D cy) D _ _ _, va_recv hK hP (ci := 4) (q0 := 1) rfl rfl, kStart (EN_ok D cy) hE hP hD hS hA [1, 2, 3, 4, 5, 6, 7, 8] rfl rfl _⟩ rfl rfl hl.1 rfl (lv_room (Nat.le_of_ble_eq_true rfl)) dX3_readBox_80 ⟨Nat.zero_le _, Nat.zero_le _⟩) hP hD hS hA [1, 2, 3, 4, 5, 6, 7, 8] [0, 9] rfl rfl rfl 10 rfl (by decide +kernel) (fun H locs hP hD hS => ?_)
            refine lv_aload_n hx hb dX3_readBox_83 rfl (lv_at hl 2 rfl) ?_
            refine lv_bipush (v := 59) hx hb dX3_readBox_84 (by decide) ?_
            obtain ⟨r44, o45, o46, o47, h48, hF⟩ := bn4_o hF
            refine kd_i [(q_o, .inr (3, [.ref q_o_show, x_o_filled, .int o45, .int o46, .ref q_o_bytes, .int o_end, .int o47, .int o27, x_o_planesTold, x_o_reachTold, x_o_lengthTold, x_o_priceTold])), (q_o_show, .inr (4, [.ref q_o_show_box, .ref q_o_show_crowd])), (q_o_show_box, .inr (0, [.int o30, .int o31, .int o32, .int o33, .int o34, .ref q_o_show_box_cells, .ref q_o_show_box_pulls, x_o_show_box_holeX, x_o_show_box_holeY, .ref q_o_show_box_price])), (q_o_show_box_cells, .inl (cy 0, 480, .inl o35)), (q_o_show_box_pulls, .inl (cy 0, 5, .inl o36)), (q_o_show_box_price, .inr (2, [.ref q_o_show_box_price_codes, .int o37, x_o_show_box_price_waiting])), (q_o_show_box_price_codes, .inl (cy 0, 800, .inl o38)), (q_o_show_crowd, .inr (1, [.int o39, .int o40, .int o41, .ref q_o_show_crowd_lookers, x_o_show_crowd_facts])), (q_o_show_crowd_lookers, .inl (cy 0, 4, .inl o42)), (q_o_bytes, .inl (cy 1, 800, .inl o_bytes))] (va_runV (As := [.int (59 : Int32)]) (rest := []) ⟨hx, hb, hml, hown, hts⟩ (c_X3_readSign q_o q_o_bytes H.size (.ref q_o_show) x_o_filled (.int o27) x_o_planesTold x_o_reachTold x_o_lengthTold x_o_priceTold o24 o25 o_end o26 o_bytes (59 : Int32) _ h48) (cwV 1 hts gX3_readBox_X3_readSign rfl rfl rfl kd_X3_readSign ⟨Nat.le_of_ble_eq_true rfl, Nat.le_of_ble_eq_true rfl⟩) ⟨kP_blind (EN_ok D cy) D _ _ _, va_recv hK hP (ci := 3) (q0 := 0) rfl rfl, kStart (EN_ok D cy) hE hP hD hS hA [0, 9] rfl rfl _⟩ rfl rfl hl.1 rfl (lv_room (Nat.le_of_ble_eq_true rfl)) dX3_readBox_86 ⟨Nat.zero_le _, Nat.zero_le _⟩) hP hD hS hA [0, 9] [1, 2, 3, 4, 5, 6, 7, 8] rfl rfl rfl 10 rfl (by decide +kernel) (fun H locs hP hD hS => ?_)
            obtain ⟨h49, hF⟩ := ck_o hF
            obtain rfl := so_o hF
            rw [hQQ]
            exact kr_z (v := r44) hx hb hr hlocks (by rcases h49 with h9 | h9 <;> rw [h9] <;> rfl) hP hD hS dX3_readBox_89
          · have hF := if_p hF c29
            refine lv_iconst (v := 0) hx hb dX3_readBox_68 (by decide) ?_
            obtain rfl := so_o hF
            rw [hQQ]
            exact kr_z (v := (0 : Int32)) hx hb hr hlocks rfl hP hD hS dX3_readBox_69
        · have hF := if_p hF c22
          refine lv_iconst (v := 0) hx hb dX3_readBox_52 (by decide) ?_
          obtain rfl := so_o hF
          rw [hQQ]
          exact kr_z (v := (0 : Int32)) hx hb hr hlocks rfl hP hD hS dX3_readBox_53
      · have hF := if_p hF c15
        refine lv_iconst (v := 0) hx hb dX3_readBox_35 (by decide) ?_
        obtain rfl := so_o hF
        rw [hQQ]
        exact kr_z (v := (0 : Int32)) hx hb hr hlocks rfl hP hD hS dX3_readBox_36
    · have hF := if_p hF c8
      refine lv_aload_n hx hb dX3_readBox_14 rfl (lv_at hl 0 rfl) ?_
      refine lv_bipush (v := -2) hx hb dX3_readBox_15 (by decide) ?_
      refine lv_aload_n hx hb dX3_readBox_17 rfl (lv_at hl 0 rfl) ?_
      refine va_get (D := D) (ci := 3) (v := .int o6) (C := RX3) (T := TX3) (N := 12) hx hb hts f_inX3 hown hK hP 0 rfl rfl 6 (by decide) f_f35 (fun _ h9 => h9) rfl dX3_readBox_18 ?_
      obtain ⟨r50, o51, o52, h53, hF⟩ := bn3_o hF
      refine kd_i [(q_o, .inr (3, [.ref q_o_show, x_o_filled, .int o51, .int o52, .ref q_o_bytes, .int o_end, .int o6, .int o_number, x_o_planesTold, x_o_reachTold, x_o_lengthTold, x_o_priceTold])), (q_o_show, .inr (4, [.ref q_o_show_box, .ref q_o_show_crowd])), (q_o_show_box, .inr (0, [.int o_show_box_width, .int o_show_box_height, .int o_show_box_planes, .int o_show_box_holes, .int o_show_box_reach, .ref q_o_show_box_cells, .ref q_o_show_box_pulls, x_o_show_box_holeX, x_o_show_box_holeY, .ref q_o_show_box_price])), (q_o_show_box_cells, .inl (cy 0, 480, .inl o_show_box_cells)), (q_o_show_box_pulls, .inl (cy 0, 5, .inl o_show_box_pulls)), (q_o_show_box_price, .inr (2, [.ref q_o_show_box_price_codes, .int o_show_box_price_size, x_o_show_box_price_waiting])), (q_o_show_box_price_codes, .inl (cy 0, 800, .inl o_show_box_price_codes)), (q_o_show_crowd, .inr (1, [.int o_show_crowd_viewers, .int o_show_crowd_lookLength, .int o_show_crowd_time, .ref q_o_show_crowd_lookers, x_o_show_crowd_facts])), (q_o_show_crowd_lookers, .inl (cy 0, 4, .inl o_show_crowd_lookers)), (q_o_bytes, .inl (cy 1, 800, .inl o_bytes))] (va_runV (As := [.int (-2 : Int32), .int o6]) (rest := []) ⟨hx, hb, hml, hown, hts⟩ (c_X3_fail q_o H.size (.ref q_o_show) x_o_filled (.ref q_o_bytes) (.int o_end) (.int o6) (.int o_number) x_o_planesTold x_o_reachTold x_o_lengthTold x_o_priceTold o_error o_errorAt (-2 : Int32) o6 _ h53) (cwV 2 hts gX3_readBox_X3_fail rfl rfl rfl kd_X3_fail ⟨Nat.le_of_ble_eq_true rfl, Nat.le_of_ble_eq_true rfl⟩) ⟨kP_blind (EN_ok D cy) D _ _ _, va_recv hK hP (ci := 3) (q0 := 0) rfl rfl, kStart (EN_ok D cy) hE hP hD hS hA [0] rfl rfl _⟩ rfl rfl hl.1 rfl (lv_room (Nat.le_of_ble_eq_true rfl)) dX3_readBox_21 ⟨Nat.zero_le _, Nat.zero_le _⟩) hP hD hS hA [0] [1, 2, 3, 4, 5, 6, 7, 8, 9] rfl rfl rfl 10 rfl (by decide +kernel) (fun H locs hP hD hS => ?_)
      obtain ⟨h54, hF⟩ := ck_o hF
      obtain rfl := so_o hF
      rw [hQQ]
      exact kr_z (v := r50) hx hb hr hlocks (by rcases h54 with h9 | h9 <;> rw [h9] <;> rfl) hP hD hS dX3_readBox_24
  exact main s.heap [] ls hP hD hS hl
theorem kd_X3_isOfLine : yX3_isOfLine.cls ≠ "java/lang/invoke/MethodHandle" ∧ yX3_isOfLine.cls ≠ "java/lang/invoke/VarHandle" ∧ (parseMethodDescriptor yX3_isOfLine.desc).map (fun d => d.parameters.length) = some 1 := by decide +kernel
set_option maxHeartbeats 4000000 in
set_option maxRecDepth 100000 in
theorem c_X3_isOfLine {l : Launch} {D : va_G} {cy : Nat → ClassId} (sz : Nat) (p0 : Int32) (res : Int32) (hF : X3_isOfLine p0 = some res) : Met l yX3_isOfLine wsX3_isOfLine ({ frames := 1, cells := 0, slots := 0, locals := 20 } : Room) (kP (EN D cy) D [.int p0] [] sz) (kQi D res [] (va_A [] sz)) 0 0 (va_A [] sz) := by
  refine kMet (y := yX3_isOfLine) (av := [.int p0]) (cc := cX3_isOfLine) (maxL := 1) (ret := some .boolean) (own := RX3) (Qc := fun A9 => (kQi D res [] A9)) (by decide) rfl rfl (Nat.le_of_ble_eq_true rfl) ?_
  intro p e s m args below meth c A hx hb hr hts hown hml hlocks hname hE hP hD hA hsz ls hl
  have hK := hE.1
  have hl : lv_has ls 1 [(0, .int p0)] := hl
  have hS : va_S A s.heap s.heap [] := va_S.rf
  obtain ⟨QQ, hQQ⟩ : ∃ Q9, Q9 = MQ below (kQi D res [] A) args s 0 0 A := ⟨_, rfl⟩
  rw [← hQQ]
  have J13 : ∀ (H : Heap) (locs : List Loc) (ls : Array Slot), va_P D vwCl [] H → va_D A [] → va_S A s.heap H locs → lv_has ls 1 [] → X3_isOfLine_J13 p0 = some res → W p l e ({ frames := 1, cells := 0, slots := 0, locals := 20 } : Room) s m args below meth c H locs 0 0 QQ (F0 m 13 ls []) := by
    intro  H locs ls hP hD hS hl hF
    unfold X3_isOfLine_J13 at hF
    refine lv_iconst (v := 1) hx hb dX3_isOfLine_13 (by decide) ?_
    refine lv_goto (tgt := 18) hx hb dX3_isOfLine_14 (by decide) ?_
    obtain rfl := so_o hF
    rw [hQQ]
    exact kr_z (v := (1 : Int32)) hx hb hr hlocks rfl hP hD hS dX3_isOfLine_18
  have main : ∀ (H : Heap) (locs : List Loc) (ls : Array Slot), va_P D vwCl [] H → va_D A [] → va_S A s.heap H locs → lv_has ls 1 [(0, .int p0)] → W p l e ({ frames := 1, cells := 0, slots := 0, locals := 20 } : Room) s m args below meth c H locs 0 0 QQ (F0 m 0 ls []) := by
    intro H locs ls hP hD hS hl
    unfold X3_isOfLine at hF
    refine lv_iload_n hx hb dX3_isOfLine_0 rfl (lv_at hl 0 rfl) ?_
    refine lv_bipush (v := 46) hx hb dX3_isOfLine_1 (by decide) ?_
    refine lv_icmp_eq (tgt := 13) hx hb dX3_isOfLine_3 (by decide) (fun c1 => ?_) (fun c1 => ?_)
    · have hF := if_p hF c1
      exact J13  H locs ls hP hD hS (lv_sub hl [] rfl) hF
    · have hF := if_n hF c1
      refine lv_iload_n hx hb dX3_isOfLine_6 rfl (lv_at hl 0 rfl) ?_
      obtain ⟨r2, h3, hF⟩ := bn1_o hF
      refine kd_i [] (va_runS (As := [.int p0]) (rest := []) ⟨hx, hb, hml, hown, hts⟩ (c_X3_isLetter H.size p0 _ h3) (va_cwS 1 hts gX3_isOfLine_X3_isLetter rfl rfl rfl kd_X3_isLetter ⟨Nat.le_of_ble_eq_true rfl, Nat.le_of_ble_eq_true rfl⟩) ⟨kP_blind (EN_ok D cy) D _ _ _, kStart (EN_ok D cy) hE hP hD hS hA [] rfl rfl _⟩ rfl rfl hl.1 rfl (lv_room (Nat.le_of_ble_eq_true rfl)) dX3_isOfLine_7 ⟨Nat.zero_le _, Nat.zero_le _⟩) hP hD hS hA [] [] rfl rfl rfl 0 rfl (by decide +kernel) (fun H locs hP hD hS => ?_)
      refine lv_if_eq (tgt := 17) hx hb dX3_isOfLine_10 (by decide) (fun c4 => ?_) (fun c4 => ?_)
      · have hF := if_p hF c4
        refine lv_iconst (v := 0) hx hb dX3_isOfLine_17 (by decide) ?_
        obtain rfl := so_o hF
        rw [hQQ]
        exact kr_z (v := (0 : Int32)) hx hb hr hlocks rfl hP hD hS dX3_isOfLine_18
      · have hF := if_n hF c4
        exact J13  H locs ls hP hD hS (lv_sub hl [] rfl) hF
  exact main s.heap [] ls hP hD hS hl
