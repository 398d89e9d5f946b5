/-! contracts, written by program (gen.py): X6_undo X6_checksum X7_thrown X7_fails X7_in X7_min X7_max X7_copy X7_layBox X7_append X7_byteAt X7_ahead X7_isGood X7_report -/
theorem kd_X6_undo : yX6_undo.cls = RX6 ∧ yX6_undo.cls ≠ "java/lang/invoke/MethodHandle" ∧ yX6_undo.cls ≠ "java/lang/invoke/VarHandle" ∧ (parseMethodDescriptor yX6_undo.desc).map (fun d => d.parameters.length) = some 0 := by decide +kernel
set_option maxHeartbeats 4000000 in
set_option maxRecDepth 100000 in
theorem c_X6_undo {l : Launch} {D : va_G} {cy : Nat → ClassId} (q_o q_o_now q_o_now_box q_o_now_box_cells q_o_now_box_pulls q_o_now_box_holeX q_o_now_box_holeY q_o_now_box_price q_o_now_box_price_codes q_o_now_crowd q_o_now_crowd_lookers q_o_now_crowd_facts q_o_view q_o_view_seen q_o_view_counts q_o_view_kinds q_o_view_depths q_o_view_prices q_o_past q_o_past_e q_o_past_e_box q_o_past_e_box_cells q_o_past_e_box_pulls q_o_past_e_box_holeX q_o_past_e_box_holeY q_o_past_e_box_price q_o_past_e_box_price_codes q_o_past_e_crowd q_o_past_e_crowd_lookers q_o_past_e_crowd_facts : Nat) (sz : Nat) (x_o_setup x_o_trial x_o_trialView x_o_now_box_price_waiting x_o_past_e_box_price_waiting : Value) (o_nextPast : Int32) (o_undoable : Int32) (o_now_box_width : Int32) (o_now_box_height : Int32) (o_now_box_planes : Int32) (o_now_box_holes : Int32) (o_now_box_reach : Int32) (o_now_box_cells : Nat → Int32) (o_now_box_pulls : Nat → Int32) (o_now_box_holeX : Nat → Int32) (o_now_box_holeY : Nat → Int32) (o_now_box_price_size : Int32) (o_now_box_price_codes : Nat → Int32) (o_now_crowd_viewers : Int32) (o_now_crowd_lookLength : Int32) (o_now_crowd_time : Int32) (o_now_crowd_lookers : Nat → Int32) (o_now_crowd_facts : Nat → Int32) (o_view_seen : Nat → Int32) (o_view_counts : Nat → Int32) (o_view_kinds : Nat → Int32) (o_view_depths : Nat → Int32) (o_view_prices : Nat → Int32) (o_past_e_box_width : Int32) (o_past_e_box_height : Int32) (o_past_e_box_planes : Int32) (o_past_e_box_holes : Int32) (o_past_e_box_reach : Int32) (o_past_e_box_cells : Nat → Int32) (o_past_e_box_pulls : Nat → Int32) (o_past_e_box_holeX : Nat → Int32) (o_past_e_box_holeY : Nat → Int32) (o_past_e_box_price_size : Int32) (o_past_e_box_price_codes : Nat → Int32) (o_past_e_crowd_viewers : Int32) (o_past_e_crowd_lookLength : Int32) (o_past_e_crowd_time : Int32) (o_past_e_crowd_lookers : Nat → Int32) (o_past_e_crowd_facts : Nat → Int32) (j : Nat) (pa : Nat → Option Nat) (hpa : pa j = some q_o_past_e) (res : Int32 × Int32 × Int32 × Int32 × Int32 × Int32 × Int32 × Int32 × (Nat → Int32) × (Nat → Int32) × (Nat → Int32) × (Nat → Int32) × Int32 × (Nat → Int32) × Int32 × Int32 × Int32 × (Nat → Int32) × (Nat → Int32) × (Nat → Int32) × (Nat → Int32) × (Nat → Int32) × (Nat → Int32) × (Nat → Int32)) (hF : X6_undo j o_nextPast o_undoable o_now_box_width o_now_box_height o_now_box_planes o_now_box_holes o_now_box_reach o_now_box_cells o_now_box_pulls o_now_box_holeX o_now_box_holeY o_now_box_price_size o_now_box_price_codes o_now_crowd_viewers o_now_crowd_lookLength o_now_crowd_time o_now_crowd_lookers o_now_crowd_facts o_view_seen o_view_counts o_view_kinds o_view_depths o_view_prices o_past_e_box_width o_past_e_box_height o_past_e_box_planes o_past_e_box_holes o_past_e_box_reach o_past_e_box_cells o_past_e_box_pulls o_past_e_box_holeX o_past_e_box_holeY o_past_e_box_price_size o_past_e_box_price_codes o_past_e_crowd_viewers o_past_e_crowd_lookLength o_past_e_crowd_time o_past_e_crowd_lookers o_past_e_crowd_facts = some res) : Met l yX6_undo wsX6_undo ({ frames := 6, cells := 0, slots := 0, locals := 143 } : Room) (kP (EN D cy) D [.ref q_o] ((q_o, .inr (6, [x_o_setup, .ref q_o_now, x_o_trial, .ref q_o_view, x_o_trialView, .ref q_o_past, .int o_nextPast, .int o_undoable])) :: (q_o_now, .inr (4, [.ref q_o_now_box, .ref q_o_now_crowd])) :: (q_o_now_box, .inr (0, [.int o_now_box_width, .int o_now_box_height, .int o_now_box_planes, .int o_now_box_holes, .int o_now_box_reach, .ref q_o_now_box_cells, .ref q_o_now_box_pulls, .ref q_o_now_box_holeX, .ref q_o_now_box_holeY, .ref q_o_now_box_price])) :: (q_o_now_box_cells, .inl (cy 0, 480, .inl o_now_box_cells)) :: (q_o_now_box_pulls, .inl (cy 0, 5, .inl o_now_box_pulls)) :: (q_o_now_box_holeX, .inl (cy 0, 4, .inl o_now_box_holeX)) :: (q_o_now_box_holeY, .inl (cy 0, 4, .inl o_now_box_holeY)) :: (q_o_now_box_price, .inr (2, [.ref q_o_now_box_price_codes, .int o_now_box_price_size, x_o_now_box_price_waiting])) :: (q_o_now_box_price_codes, .inl (cy 0, 800, .inl o_now_box_price_codes)) :: (q_o_now_crowd, .inr (1, [.int o_now_crowd_viewers, .int o_now_crowd_lookLength, .int o_now_crowd_time, .ref q_o_now_crowd_lookers, .ref q_o_now_crowd_facts])) :: (q_o_now_crowd_lookers, .inl (cy 0, 4, .inl o_now_crowd_lookers)) :: (q_o_now_crowd_facts, .inl (cy 0, 140, .inl o_now_crowd_facts)) :: (q_o_view, .inr (5, [.ref q_o_view_seen, .ref q_o_view_counts, .ref q_o_view_kinds, .ref q_o_view_depths, .ref q_o_view_prices])) :: (q_o_view_seen, .inl (cy 0, 384, .inl o_view_seen)) :: (q_o_view_counts, .inl (cy 0, 104, .inl o_view_counts)) :: (q_o_view_kinds, .inl (cy 0, 4, .inl o_view_kinds)) :: (q_o_view_depths, .inl (cy 0, 4, .inl o_view_depths)) :: (q_o_view_prices, .inl (cy 0, 104, .inl o_view_prices)) :: (q_o_past, .inl (cy 3, 8, .inr (.inr (.inr (.inr pa))))) :: (q_o_past_e, .inr (4, [.ref q_o_past_e_box, .ref q_o_past_e_crowd])) :: (q_o_past_e_box, .inr (0, [.int o_past_e_box_width, .int o_past_e_box_height, .int o_past_e_box_planes, .int o_past_e_box_holes, .int o_past_e_box_reach, .ref q_o_past_e_box_cells, .ref q_o_past_e_box_pulls, .ref q_o_past_e_box_holeX, .ref q_o_past_e_box_holeY, .ref q_o_past_e_box_price])) :: (q_o_past_e_box_cells, .inl (cy 0, 480, .inl o_past_e_box_cells)) :: (q_o_past_e_box_pulls, .inl (cy 0, 5, .inl o_past_e_box_pulls)) :: (q_o_past_e_box_holeX, .inl (cy 0, 4, .inl o_past_e_box_holeX)) :: (q_o_past_e_box_holeY, .inl (cy 0, 4, .inl o_past_e_box_holeY)) :: (q_o_past_e_box_price, .inr (2, [.ref q_o_past_e_box_price_codes, .int o_past_e_box_price_size, x_o_past_e_box_price_waiting])) :: (q_o_past_e_box_price_codes, .inl (cy 0, 800, .inl o_past_e_box_price_codes)) :: (q_o_past_e_crowd, .inr (1, [.int o_past_e_crowd_viewers, .int o_past_e_crowd_lookLength, .int o_past_e_crowd_time, .ref q_o_past_e_crowd_lookers, .ref q_o_past_e_crowd_facts])) :: (q_o_past_e_crowd_lookers, .inl (cy 0, 4, .inl o_past_e_crowd_lookers)) :: (q_o_past_e_crowd_facts, .inl (cy 0, 140, .inl o_past_e_crowd_facts)) :: []) sz) (kQi D res.1 ((q_o, .inr (6, [x_o_setup, .ref q_o_now, x_o_trial, .ref q_o_view, x_o_trialView, .ref q_o_past, .int res.2.1, .int res.2.2.1])) :: (q_o_now, .inr (4, [.ref q_o_now_box, .ref q_o_now_crowd])) :: (q_o_now_box, .inr (0, [.int res.2.2.2.1, .int res.2.2.2.2.1, .int res.2.2.2.2.2.1, .int res.2.2.2.2.2.2.1, .int res.2.2.2.2.2.2.2.1, .ref q_o_now_box_cells, .ref q_o_now_box_pulls, .ref q_o_now_box_holeX, .ref q_o_now_box_holeY, .ref q_o_now_box_price])) :: (q_o_now_box_cells, .inl (cy 0, 480, .inl res.2.2.2.2.2.2.2.2.1)) :: (q_o_now_box_pulls, .inl (cy 0, 5, .inl res.2.2.2.2.2.2.2.2.2.1)) :: (q_o_now_box_holeX, .inl (cy 0, 4, .inl res.2.2.2.2.2.2.2.2.2.2.1)) :: (q_o_now_box_holeY, .inl (cy 0, 4, .inl res.2.2.2.2.2.2.2.2.2.2.2.1)) :: (q_o_now_box_price, .inr (2, [.ref q_o_now_box_price_codes, .int res.2.2.2.2.2.2.2.2.2.2.2.2.1, x_o_now_box_price_waiting])) :: (q_o_now_box_price_codes, .inl (cy 0, 800, .inl res.2.2.2.2.2.2.2.2.2.2.2.2.2.1)) :: (q_o_now_crowd, .inr (1, [.int res.2.2.2.2.2.2.2.2.2.2.2.2.2.2.1, .int res.2.2.2.2.2.2.2.2.2.2.2.2.2.2.2.1, .int res.2.2.2.2.2.2.2.2.2.2.2.2.2.2.2.2.1, .ref q_o_now_crowd_lookers, .ref q_o_now_crowd_facts])) :: (q_o_now_crowd_lookers, .inl (cy 0, 4, .inl res.2.2.2.2.2.2.2.2.2.2.2.2.2.2.2.2.2.1)) :: (q_o_now_crowd_facts, .inl (cy 0, 140, .inl res.2.2.2.2.2.2.2.2.2.2.2.2.2.2.2.2.2.2.1)) :: (q_o_view, .inr (5, [.ref q_o_view_seen, .ref q_o_view_counts, .ref q_o_view_kinds, .ref q_o_view_depths, .ref q_o_view_prices])) :: (q_o_view_seen, .inl (cy 0, 384, .inl res.2.2.2.2.2.2.2.2.2.2.2.2.2.2.2.2.2.2.2.1)) :: (q_o_view_counts, .inl (cy 0, 104, .inl res.2.2.2.2.2.2.2.2.2.2.2.2.2.2.2.2.2.2.2.2.1)) :: (q_o_view_kinds, .inl (cy 0, 4, .inl res.2.2.2.2.2.2.2.2.2.2.2.2.2.2.2.2.2.2.2.2.2.1)) :: (q_o_view_depths, .inl (cy 0, 4, .inl res.2.2.2.2.2.2.2.2.2.2.2.2.2.2.2.2.2.2.2.2.2.2.1)) :: (q_o_view_prices, .inl (cy 0, 104, .inl res.2.2.2.2.2.2.2.2.2.2.2.2.2.2.2.2.2.2.2.2.2.2.2)) :: (q_o_past, .inl (cy 3, 8, .inr (.inr (.inr (.inr pa))))) :: (q_o_past_e, .inr (4, [.ref q_o_past_e_box, .ref q_o_past_e_crowd])) :: (q_o_past_e_box, .inr (0, [.int o_past_e_box_width, .int o_past_e_box_height, .int o_past_e_box_planes, .int o_past_e_box_holes, .int o_past_e_box_reach, .ref q_o_past_e_box_cells, .ref q_o_past_e_box_pulls, .ref q_o_past_e_box_holeX, .ref q_o_past_e_box_holeY, .ref q_o_past_e_box_price])) :: (q_o_past_e_box_cells, .inl (cy 0, 480, .inl o_past_e_box_cells)) :: (q_o_past_e_box_pulls, .inl (cy 0, 5, .inl o_past_e_box_pulls)) :: (q_o_past_e_box_holeX, .inl (cy 0, 4, .inl o_past_e_box_holeX)) :: (q_o_past_e_box_holeY, .inl (cy 0, 4, .inl o_past_e_box_holeY)) :: (q_o_past_e_box_price, .inr (2, [.ref q_o_past_e_box_price_codes, .int o_past_e_box_price_size, x_o_past_e_box_price_waiting])) :: (q_o_past_e_box_price_codes, .inl (cy 0, 800, .inl o_past_e_box_price_codes)) :: (q_o_past_e_crowd, .inr (1, [.int o_past_e_crowd_viewers, .int o_past_e_crowd_lookLength, .int o_past_e_crowd_time, .ref q_o_past_e_crowd_lookers, .ref q_o_past_e_crowd_facts])) :: (q_o_past_e_crowd_lookers, .inl (cy 0, 4, .inl o_past_e_crowd_lookers)) :: (q_o_past_e_crowd_facts, .inl (cy 0, 140, .inl o_past_e_crowd_facts)) :: []) (va_A ((q_o, .inr (6, [x_o_setup, .ref q_o_now, x_o_trial, .ref q_o_view, x_o_trialView, .ref q_o_past, .int o_nextPast, .int o_undoable])) :: (q_o_now, .inr (4, [.ref q_o_now_box, .ref q_o_now_crowd])) :: (q_o_now_box, .inr (0, [.int o_now_box_width, .int o_now_box_height, .int o_now_box_planes, .int o_now_box_holes, .int o_now_box_reach, .ref q_o_now_box_cells, .ref q_o_now_box_pulls, .ref q_o_now_box_holeX, .ref q_o_now_box_holeY, .ref q_o_now_box_price])) :: (q_o_now_box_cells, .inl (cy 0, 480, .inl o_now_box_cells)) :: (q_o_now_box_pulls, .inl (cy 0, 5, .inl o_now_box_pulls)) :: (q_o_now_box_holeX, .inl (cy 0, 4, .inl o_now_box_holeX)) :: (q_o_now_box_holeY, .inl (cy 0, 4, .inl o_now_box_holeY)) :: (q_o_now_box_price, .inr (2, [.ref q_o_now_box_price_codes, .int o_now_box_price_size, x_o_now_box_price_waiting])) :: (q_o_now_box_price_codes, .inl (cy 0, 800, .inl o_now_box_price_codes)) :: (q_o_now_crowd, .inr (1, [.int o_now_crowd_viewers, .int o_now_crowd_lookLength, .int o_now_crowd_time, .ref q_o_now_crowd_lookers, .ref q_o_now_crowd_facts])) :: (q_o_now_crowd_lookers, .inl (cy 0, 4, .inl o_now_crowd_lookers)) :: (q_o_now_crowd_facts, .inl (cy 0, 140, .inl o_now_crowd_facts)) :: (q_o_view, .inr (5, [.ref q_o_view_seen, .ref q_o_view_counts, .ref q_o_view_kinds, .ref q_o_view_depths, .ref q_o_view_prices])) :: (q_o_view_seen, .inl (cy 0, 384, .inl o_view_seen)) :: (q_o_view_counts, .inl (cy 0, 104, .inl o_view_counts)) :: (q_o_view_kinds, .inl (cy 0, 4, .inl o_view_kinds)) :: (q_o_view_depths, .inl (cy 0, 4, .inl o_view_depths)) :: (q_o_view_prices, .inl (cy 0, 104, .inl o_view_prices)) :: (q_o_past, .inl (cy 3, 8, .inr (.inr (.inr (.inr pa))))) :: (q_o_past_e, .inr (4, [.ref q_o_past_e_box, .ref q_o_past_e_crowd])) :: (q_o_past_e_box, .inr (0, [.int o_past_e_box_width, .int o_past_e_box_height, .int o_past_e_box_planes, .int o_past_e_box_holes, .int o_past_e_box_reach, .ref q_o_past_e_box_cells, .ref q_o_past_e_box_pulls, .ref q_o_past_e_box_holeX, .ref q_o_past_e_box_holeY, .ref q_o_past_e_box_price])) :: (q_o_past_e_box_cells, .inl (cy 0, 480, .inl o_past_e_box_cells)) :: (q_o_past_e_box_pulls, .inl (cy 0, 5, .inl o_past_e_box_pulls)) :: (q_o_past_e_box_holeX, .inl (cy 0, 4, .inl o_past_e_box_holeX)) :: (q_o_past_e_box_holeY, .inl (cy 0, 4, .inl o_past_e_box_holeY)) :: (q_o_past_e_box_price, .inr (2, [.ref q_o_past_e_box_price_codes, .int o_past_e_box_price_size, x_o_past_e_box_price_waiting])) :: (q_o_past_e_box_price_codes, .inl (cy 0, 800, .inl o_past_e_box_price_codes)) :: (q_o_past_e_crowd, .inr (1, [.int o_past_e_crowd_viewers, .int o_past_e_crowd_lookLength, .int o_past_e_crowd_time, .ref q_o_past_e_crowd_lookers, .ref q_o_past_e_crowd_facts])) :: (q_o_past_e_crowd_lookers, .inl (cy 0, 4, .inl o_past_e_crowd_lookers)) :: (q_o_past_e_crowd_facts, .inl (cy 0, 140, .inl o_past_e_crowd_facts)) :: []) sz)) 0 0 (va_A ((q_o, .inr (6, [x_o_setup, .ref q_o_now, x_o_trial, .ref q_o_view, x_o_trialView, .ref q_o_past, .int o_nextPast, .int o_undoable])) :: (q_o_now, .inr (4, [.ref q_o_now_box, .ref q_o_now_crowd])) :: (q_o_now_box, .inr (0, [.int o_now_box_width, .int o_now_box_height, .int o_now_box_planes, .int o_now_box_holes, .int o_now_box_reach, .ref q_o_now_box_cells, .ref q_o_now_box_pulls, .ref q_o_now_box_holeX, .ref q_o_now_box_holeY, .ref q_o_now_box_price])) :: (q_o_now_box_cells, .inl (cy 0, 480, .inl o_now_box_cells)) :: (q_o_now_box_pulls, .inl (cy 0, 5, .inl o_now_box_pulls)) :: (q_o_now_box_holeX, .inl (cy 0, 4, .inl o_now_box_holeX)) :: (q_o_now_box_holeY, .inl (cy 0, 4, .inl o_now_box_holeY)) :: (q_o_now_box_price, .inr (2, [.ref q_o_now_box_price_codes, .int o_now_box_price_size, x_o_now_box_price_waiting])) :: (q_o_now_box_price_codes, .inl (cy 0, 800, .inl o_now_box_price_codes)) :: (q_o_now_crowd, .inr (1, [.int o_now_crowd_viewers, .int o_now_crowd_lookLength, .int o_now_crowd_time, .ref q_o_now_crowd_lookers, .ref q_o_now_crowd_facts])) :: (q_o_now_crowd_lookers, .inl (cy 0, 4, .inl o_now_crowd_lookers)) :: (q_o_now_crowd_facts, .inl (cy 0, 140, .inl o_now_crowd_facts)) :: (q_o_view, .inr (5, [.ref q_o_view_seen, .ref q_o_view_counts, .ref q_o_view_kinds, .ref q_o_view_depths, .ref q_o_view_prices])) :: (q_o_view_seen, .inl (cy 0, 384, .inl o_view_seen)) :: (q_o_view_counts, .inl (cy 0, 104, .inl o_view_counts)) :: (q_o_view_kinds, .inl (cy 0, 4, .inl o_view_kinds)) :: (q_o_view_depths, .inl (cy 0, 4, .inl o_view_depths)) :: (q_o_view_prices, .inl (cy 0, 104, .inl o_view_prices)) :: (q_o_past, .inl (cy 3, 8, .inr (.inr (.inr (.inr pa))))) :: (q_o_past_e, .inr (4, [.ref q_o_past_e_box, .ref q_o_past_e_crowd])) :: (q_o_past_e_box, .inr (0, [.int o_past_e_box_width, .int o_past_e_box_height, .int o_past_e_box_planes, .int o_past_e_box_holes, .int o_past_e_box_reach, .ref q_o_past_e_box_cells, .ref q_o_past_e_box_pulls, .ref q_o_past_e_box_holeX, .ref q_o_past_e_box_holeY, .ref q_o_past_e_box_price])) :: (q_o_past_e_box_cells, .inl (cy 0, 480, .inl o_past_e_box_cells)) :: (q_o_past_e_box_pulls, .inl (cy 0, 5, .inl o_past_e_box_pulls)) :: (q_o_past_e_box_holeX, .inl (cy 0, 4, .inl o_past_e_box_holeX)) :: (q_o_past_e_box_holeY, .inl (cy 0, 4, .inl o_past_e_box_holeY)) :: (q_o_past_e_box_price, .inr (2, [.ref q_o_past_e_box_price_codes, .int o_past_e_box_price_size, x_o_past_e_box_price_waiting])) :: (q_o_past_e_box_price_codes, .inl (cy 0, 800, .inl o_past_e_box_price_codes)) :: (q_o_past_e_crowd, .inr (1, [.int o_past_e_crowd_viewers, .int o_past_e_crowd_lookLength, .int o_past_e_crowd_time, .ref q_o_past_e_crowd_lookers, .ref q_o_past_e_crowd_facts])) :: (q_o_past_e_crowd_lookers, .inl (cy 0, 4, .inl o_past_e_crowd_lookers)) :: (q_o_past_e_crowd_facts, .inl (cy 0, 140, .inl o_past_e_crowd_facts)) :: []) sz) := by
  refine kMet (y := yX6_undo) (av := [.ref q_o]) (cc := cX6_undo) (maxL := 1) (ret := some .int) (own := RX6) (Qc := fun A9 => (kQi D res.1 ((q_o, .inr (6, [x_o_setup, .ref q_o_now, x_o_trial, .ref q_o_view, x_o_trialView, .ref q_o_past, .int res.2.1, .int res.2.2.1])) :: (q_o_now, .inr (4, [.ref q_o_now_box, .ref q_o_now_crowd])) :: (q_o_now_box, .inr (0, [.int res.2.2.2.1, .int res.2.2.2.2.1, .int res.2.2.2.2.2.1, .int res.2.2.2.2.2.2.1, .int res.2.2.2.2.2.2.2.1, .ref q_o_now_box_cells, .ref q_o_now_box_pulls, .ref q_o_now_box_holeX, .ref q_o_now_box_holeY, .ref q_o_now_box_price])) :: (q_o_now_box_cells, .inl (cy 0, 480, .inl res.2.2.2.2.2.2.2.2.1)) :: (q_o_now_box_pulls, .inl (cy 0, 5, .inl res.2.2.2.2.2.2.2.2.2.1)) :: (q_o_now_box_holeX, .inl (cy 0, 4, .inl res.2.2.2.2.2.2.2.2.2.2.1)) :: (q_o_now_box_holeY, .inl (cy 0, 4, .inl res.2.2.2.2.2.2.2.2.2.2.2.1)) :: (q_o_now_box_price, .inr (2, [.ref q_o_now_box_price_codes, .int res.2.2.2.2.2.2.2.2.2.2.2.2.1, x_o_now_box_price_waiting])) :: (q_o_now_box_price_codes, .inl (cy 0, 800, .inl res.2.2.2.2.2.2.2.2.2.2.2.2.2.1)) :: (q_o_now_crowd, .inr (1, [.int res.2.2.2.2.2.2.2.2.2.2.2.2.2.2.1, .int res.2.2.2.2.2.2.2.2.2.2.2.2.2.2.2.1, .int res.2.2.2.2.2.2.2.2.2.2.2.2.2.2.2.2.1, .ref q_o_now_crowd_lookers, .ref q_o_now_crowd_facts])) :: (q_o_now_crowd_lookers, .inl (cy 0, 4, .inl res.2.2.2.2.2.2.2.2.2.2.2.2.2.2.2.2.2.1)) :: (q_o_now_crowd_facts, .inl (cy 0, 140, .inl res.2.2.2.2.2.2.2.2.2.2.2.2.2.2.2.2.2.2.1)) :: (q_o_view, .inr (5, [.ref q_o_view_seen, .ref q_o_view_counts, .ref q_o_view_kinds, .ref q_o_view_depths, .ref q_o_view_prices])) :: (q_o_view_seen, .inl (cy 0, 384, .inl res.2.2.2.2.2.2.2.2.2.2.2.2.2.2.2.2.2.2.2.1)) :: (q_o_view_counts, .inl (cy 0, 104, .inl res.2.2.2.2.2.2.2.2.2.2.2.2.2.2.2.2.2.2.2.2.1)) :: (q_o_view_kinds, .inl (cy 0, 4, .inl res.2.2.2.2.2.2.2.2.2.2.2.2.2.2.2.2.2.2.2.2.2.1)) :: (q_o_view_depths, .inl (cy 0, 4, .inl res.2.2.2.2.2.2.2.2.2.2.2.2.2.2.2.2.2.2.2.2.2.2.1)) :: (q_o_view_prices, .inl (cy 0, 104, .inl res.2.2.2.2.2.2.2.2.2.2.2.2.2.2.2.2.2.2.2.2.2.2.2)) :: (q_o_past, .inl (cy 3, 8, .inr (.inr (.inr (.inr pa))))) :: (q_o_past_e, .inr (4, [.ref q_o_past_e_box, .ref q_o_past_e_crowd])) :: (q_o_past_e_box, .inr (0, [.int o_past_e_box_width, .int o_past_e_box_height, .int o_past_e_box_planes, .int o_past_e_box_holes, .int o_past_e_box_reach, .ref q_o_past_e_box_cells, .ref q_o_past_e_box_pulls, .ref q_o_past_e_box_holeX, .ref q_o_past_e_box_holeY, .ref q_o_past_e_box_price])) :: (q_o_past_e_box_cells, .inl (cy 0, 480, .inl o_past_e_box_cells)) :: (q_o_past_e_box_pulls, .inl (cy 0, 5, .inl o_past_e_box_pulls)) :: (q_o_past_e_box_holeX, .inl (cy 0, 4, .inl o_past_e_box_holeX)) :: (q_o_past_e_box_holeY, .inl (cy 0, 4, .inl o_past_e_box_holeY)) :: (q_o_past_e_box_price, .inr (2, [.ref q_o_past_e_box_price_codes, .int o_past_e_box_price_size, x_o_past_e_box_price_waiting])) :: (q_o_past_e_box_price_codes, .inl (cy 0, 800, .inl o_past_e_box_price_codes)) :: (q_o_past_e_crowd, .inr (1, [.int o_past_e_crowd_viewers, .int o_past_e_crowd_lookLength, .int o_past_e_crowd_time, .ref q_o_past_e_crowd_lookers, .ref q_o_past_e_crowd_facts])) :: (q_o_past_e_crowd_lookers, .inl (cy 0, 4, .inl o_past_e_crowd_lookers)) :: (q_o_past_e_crowd_facts, .inl (cy 0, 140, .inl o_past_e_crowd_facts)) :: []) A9)) (by decide) rfl rfl (Nat.le_of_ble_eq_true rfl) ?_
  intro p e s m args below meth c A hx hb hr hts hown hml hlocks hname hE hP hD hA hsz ls hl
  have hK := hE.1
  have hl : lv_has ls 1 [(0, .ref q_o)] := hl
  have hS : va_S A s.heap s.heap [] := va_S.rf
  have f_f44 := hts (.fieldLink RX6 44 "PeepBox" "undoable" "I") (by decide +kernel)
  have f_inX6 : ∀ w ∈ wsX60, w ∈ wsX6_undo := by decide +kernel
  have f_f40 := hts (.fieldLink RX6 40 "PeepBox" "nextPast" "I") (by decide +kernel)
  have f_f19 := hts (.fieldLink RX6 19 "PeepBox" "now" "LPeepBox$Show;") (by decide +kernel)
  have f_f36 := hts (.fieldLink RX6 36 "PeepBox" "past" "[LPeepBox$Show;") (by decide +kernel)
  have f_f29 := hts (.fieldLink RX6 29 "PeepBox" "view" "LPeepBox$View;") (by decide +kernel)
  have f_f51 := hts (.fieldLink RX6 51 "PeepBox$Show" "box" "LPeepBox$Box;") (by decide +kernel)
  have f_inX4 : ∀ w ∈ wsX40, w ∈ wsX6_undo := by decide +kernel
  obtain ⟨QQ, hQQ⟩ : ∃ Q9, Q9 = MQ below (kQi D res.1 ((q_o, .inr (6, [x_o_setup, .ref q_o_now, x_o_trial, .ref q_o_view, x_o_trialView, .ref q_o_past, .int res.2.1, .int res.2.2.1])) :: (q_o_now, .inr (4, [.ref q_o_now_box, .ref q_o_now_crowd])) :: (q_o_now_box, .inr (0, [.int res.2.2.2.1, .int res.2.2.2.2.1, .int res.2.2.2.2.2.1, .int res.2.2.2.2.2.2.1, .int res.2.2.2.2.2.2.2.1, .ref q_o_now_box_cells, .ref q_o_now_box_pulls, .ref q_o_now_box_holeX, .ref q_o_now_box_holeY, .ref q_o_now_box_price])) :: (q_o_now_box_cells, .inl (cy 0, 480, .inl res.2.2.2.2.2.2.2.2.1)) :: (q_o_now_box_pulls, .inl (cy 0, 5, .inl res.2.2.2.2.2.2.2.2.2.1)) :: (q_o_now_box_holeX, .inl (cy 0, 4, .inl res.2.2.2.2.2.2.2.2.2.2.1)) :: (q_o_now_box_holeY, .inl (cy 0, 4, .inl res.2.2.2.2.2.2.2.2.2.2.2.1)) :: (q_o_now_box_price, .inr (2, [.ref q_o_now_box_price_codes, .int res.2.2.2.2.2.2.2.2.2.2.2.2.1, x_o_now_box_price_waiting])) :: (q_o_now_box_price_codes, .inl (cy 0, 800, .inl res.2.2.2.2.2.2.2.2.2.2.2.2.2.1)) :: (q_o_now_crowd, .inr (1, [.int res.2.2.2.2.2.2.2.2.2.2.2.2.2.2.1, .int res.2.2.2.2.2.2.2.2.2.2.2.2.2.2.2.1, .int res.2.2.2.2.2.2.2.2.2.2.2.2.2.2.2.2.1, .ref q_o_now_crowd_lookers, .ref q_o_now_crowd_facts])) :: (q_o_now_crowd_lookers, .inl (cy 0, 4, .inl res.2.2.2.2.2.2.2.2.2.2.2.2.2.2.2.2.2.1)) :: (q_o_now_crowd_facts, .inl (cy 0, 140, .inl res.2.2.2.2.2.2.2.2.2.2.2.2.2.2.2.2.2.2.1)) :: (q_o_view, .inr (5, [.ref q_o_view_seen, .ref q_o_view_counts, .ref q_o_view_kinds, .ref q_o_view_depths, .ref q_o_view_prices])) :: (q_o_view_seen, .inl (cy 0, 384, .inl res.2.2.2.2.2.2.2.2.2.2.2.2.2.2.2.2.2.2.2.1)) :: (q_o_view_counts, .inl (cy 0, 104, .inl res.2.2.2.2.2.2.2.2.2.2.2.2.2.2.2.2.2.2.2.2.1)) :: (q_o_view_kinds, .inl (cy 0, 4, .inl res.2.2.2.2.2.2.2.2.2.2.2.2.2.2.2.2.2.2.2.2.2.1)) :: (q_o_view_depths, .inl (cy 0, 4, .inl res.2.2.2.2.2.2.2.2.2.2.2.2.2.2.2.2.2.2.2.2.2.2.1)) :: (q_o_view_prices, .inl (cy 0, 104, .inl res.2.2.2.2.2.2.2.2.2.2.2.2.2.2.2.2.2.2.2.2.2.2.2)) :: (q_o_past, .inl (cy 3, 8, .inr (.inr (.inr (.inr pa))))) :: (q_o_past_e, .inr (4, [.ref q_o_past_e_box, .ref q_o_past_e_crowd])) :: (q_o_past_e_box, .inr (0, [.int o_past_e_box_width, .int o_past_e_box_height, .int o_past_e_box_planes, .int o_past_e_box_holes, .int o_past_e_box_reach, .ref q_o_past_e_box_cells, .ref q_o_past_e_box_pulls, .ref q_o_past_e_box_holeX, .ref q_o_past_e_box_holeY, .ref q_o_past_e_box_price])) :: (q_o_past_e_box_cells, .inl (cy 0, 480, .inl o_past_e_box_cells)) :: (q_o_past_e_box_pulls, .inl (cy 0, 5, .inl o_past_e_box_pulls)) :: (q_o_past_e_box_holeX, .inl (cy 0, 4, .inl o_past_e_box_holeX)) :: (q_o_past_e_box_holeY, .inl (cy 0, 4, .inl o_past_e_box_holeY)) :: (q_o_past_e_box_price, .inr (2, [.ref q_o_past_e_box_price_codes, .int o_past_e_box_price_size, x_o_past_e_box_price_waiting])) :: (q_o_past_e_box_price_codes, .inl (cy 0, 800, .inl o_past_e_box_price_codes)) :: (q_o_past_e_crowd, .inr (1, [.int o_past_e_crowd_viewers, .int o_past_e_crowd_lookLength, .int o_past_e_crowd_time, .ref q_o_past_e_crowd_lookers, .ref q_o_past_e_crowd_facts])) :: (q_o_past_e_crowd_lookers, .inl (cy 0, 4, .inl o_past_e_crowd_lookers)) :: (q_o_past_e_crowd_facts, .inl (cy 0, 140, .inl o_past_e_crowd_facts)) :: []) A) args s 0 0 A := ⟨_, rfl⟩
  rw [← hQQ]
  have main : ∀ (H : Heap) (locs : List Loc) (ls : Array Slot), va_P D vwCl ((q_o, .inr (6, [x_o_setup, .ref q_o_now, x_o_trial, .ref q_o_view, x_o_trialView, .ref q_o_past, .int o_nextPast, .int o_undoable])) :: (q_o_now, .inr (4, [.ref q_o_now_box, .ref q_o_now_crowd])) :: (q_o_now_box, .inr (0, [.int o_now_box_width, .int o_now_box_height, .int o_now_box_planes, .int o_now_box_holes, .int o_now_box_reach, .ref q_o_now_box_cells, .ref q_o_now_box_pulls, .ref q_o_now_box_holeX, .ref q_o_now_box_holeY, .ref q_o_now_box_price])) :: (q_o_now_box_cells, .inl (cy 0, 480, .inl o_now_box_cells)) :: (q_o_now_box_pulls, .inl (cy 0, 5, .inl o_now_box_pulls)) :: (q_o_now_box_holeX, .inl (cy 0, 4, .inl o_now_box_holeX)) :: (q_o_now_box_holeY, .inl (cy 0, 4, .inl o_now_box_holeY)) :: (q_o_now_box_price, .inr (2, [.ref q_o_now_box_price_codes, .int o_now_box_price_size, x_o_now_box_price_waiting])) :: (q_o_now_box_price_codes, .inl (cy 0, 800, .inl o_now_box_price_codes)) :: (q_o_now_crowd, .inr (1, [.int o_now_crowd_viewers, .int o_now_crowd_lookLength, .int o_now_crowd_time, .ref q_o_now_crowd_lookers, .ref q_o_now_crowd_facts])) :: (q_o_now_crowd_lookers, .inl (cy 0, 4, .inl o_now_crowd_lookers)) :: (q_o_now_crowd_facts, .inl (cy 0, 140, .inl o_now_crowd_facts)) :: (q_o_view, .inr (5, [.ref q_o_view_seen, .ref q_o_view_counts, .ref q_o_view_kinds, .ref q_o_view_depths, .ref q_o_view_prices])) :: (q_o_view_seen, .inl (cy 0, 384, .inl o_view_seen)) :: (q_o_view_counts, .inl (cy 0, 104, .inl o_view_counts)) :: (q_o_view_kinds, .inl (cy 0, 4, .inl o_view_kinds)) :: (q_o_view_depths, .inl (cy 0, 4, .inl o_view_depths)) :: (q_o_view_prices, .inl (cy 0, 104, .inl o_view_prices)) :: (q_o_past, .inl (cy 3, 8, .inr (.inr (.inr (.inr pa))))) :: (q_o_past_e, .inr (4, [.ref q_o_past_e_box, .ref q_o_past_e_crowd])) :: (q_o_past_e_box, .inr (0, [.int o_past_e_box_width, .int o_past_e_box_height, .int o_past_e_box_planes, .int o_past_e_box_holes, .int o_past_e_box_reach, .ref q_o_past_e_box_cells, .ref q_o_past_e_box_pulls, .ref q_o_past_e_box_holeX, .ref q_o_past_e_box_holeY, .ref q_o_past_e_box_price])) :: (q_o_past_e_box_cells, .inl (cy 0, 480, .inl o_past_e_box_cells)) :: (q_o_past_e_box_pulls, .inl (cy 0, 5, .inl o_past_e_box_pulls)) :: (q_o_past_e_box_holeX, .inl (cy 0, 4, .inl o_past_e_box_holeX)) :: (q_o_past_e_box_holeY, .inl (cy 0, 4, .inl o_past_e_box_holeY)) :: (q_o_past_e_box_price, .inr (2, [.ref q_o_past_e_box_price_codes, .int o_past_e_box_price_size, x_o_past_e_box_price_waiting])) :: (q_o_past_e_box_price_codes, .inl (cy 0, 800, .inl o_past_e_box_price_codes)) :: (q_o_past_e_crowd, .inr (1, [.int o_past_e_crowd_viewers, .int o_past_e_crowd_lookLength, .int o_past_e_crowd_time, .ref q_o_past_e_crowd_lookers, .ref q_o_past_e_crowd_facts])) :: (q_o_past_e_crowd_lookers, .inl (cy 0, 4, .inl o_past_e_crowd_lookers)) :: (q_o_past_e_crowd_facts, .inl (cy 0, 140, .inl o_past_e_crowd_facts)) :: []) H → va_D A ((q_o, .inr (6, [x_o_setup, .ref q_o_now, x_o_trial, .ref q_o_view, x_o_trialView, .ref q_o_past, .int o_nextPast, .int o_undoable])) :: (q_o_now, .inr (4, [.ref q_o_now_box, .ref q_o_now_crowd])) :: (q_o_now_box, .inr (0, [.int o_now_box_width, .int o_now_box_height, .int o_now_box_planes, .int o_now_box_holes, .int o_now_box_reach, .ref q_o_now_box_cells, .ref q_o_now_box_pulls, .ref q_o_now_box_holeX, .ref q_o_now_box_holeY, .ref q_o_now_box_price])) :: (q_o_now_box_cells, .inl (cy 0, 480, .inl o_now_box_cells)) :: (q_o_now_box_pulls, .inl (cy 0, 5, .inl o_now_box_pulls)) :: (q_o_now_box_holeX, .inl (cy 0, 4, .inl o_now_box_holeX)) :: (q_o_now_box_holeY, .inl (cy 0, 4, .inl o_now_box_holeY)) :: (q_o_now_box_price, .inr (2, [.ref q_o_now_box_price_codes, .int o_now_box_price_size, x_o_now_box_price_waiting])) :: (q_o_now_box_price_codes, .inl (cy 0, 800, .inl o_now_box_price_codes)) :: (q_o_now_crowd, .inr (1, [.int o_now_crowd_viewers, .int o_now_crowd_lookLength, .int o_now_crowd_time, .ref q_o_now_crowd_lookers, .ref q_o_now_crowd_facts])) :: (q_o_now_crowd_lookers, .inl (cy 0, 4, .inl o_now_crowd_lookers)) :: (q_o_now_crowd_facts, .inl (cy 0, 140, .inl o_now_crowd_facts)) :: (q_o_view, .inr (5, [.ref q_o_view_seen, .ref q_o_view_counts, .ref q_o_view_kinds, .ref q_o_view_depths, .ref q_o_view_prices])) :: (q_o_view_seen, .inl (cy 0, 384, .inl o_view_seen)) :: (q_o_view_counts, .inl (cy 0, 104, .inl o_view_counts)) :: (q_o_view_kinds, .inl (cy 0, 4, .inl o_view_kinds)) :: (q_o_view_depths, .inl (cy 0, 4, .inl o_view_depths)) :: (q_o_view_prices, .inl (cy 0, 104, .inl o_view_prices)) :: (q_o_past, .inl (cy 3, 8, .inr (.inr (.inr (.inr pa))))) :: (q_o_past_e, .inr (4, [.ref q_o_past_e_box, .ref q_o_past_e_crowd])) :: (q_o_past_e_box, .inr (0, [.int o_past_e_box_width, .int o_past_e_box_height, .int o_past_e_box_planes, .int o_past_e_box_holes, .int o_past_e_box_reach, .ref q_o_past_e_box_cells, .ref q_o_past_e_box_pulls, .ref q_o_past_e_box_holeX, .ref q_o_past_e_box_holeY, .ref q_o_past_e_box_price])) :: (q_o_past_e_box_cells, .inl (cy 0, 480, .inl o_past_e_box_cells)) :: (q_o_past_e_box_pulls, .inl (cy 0, 5, .inl o_past_e_box_pulls)) :: (q_o_past_e_box_holeX, .inl (cy 0, 4, .inl o_past_e_box_holeX)) :: (q_o_past_e_box_holeY, .inl (cy 0, 4, .inl o_past_e_box_holeY)) :: (q_o_past_e_box_price, .inr (2, [.ref q_o_past_e_box_price_codes, .int o_past_e_box_price_size, x_o_past_e_box_price_waiting])) :: (q_o_past_e_box_price_codes, .inl (cy 0, 800, .inl o_past_e_box_price_codes)) :: (q_o_past_e_crowd, .inr (1, [.int o_past_e_crowd_viewers, .int o_past_e_crowd_lookLength, .int o_past_e_crowd_time, .ref q_o_past_e_crowd_lookers, .ref q_o_past_e_crowd_facts])) :: (q_o_past_e_crowd_lookers, .inl (cy 0, 4, .inl o_past_e_crowd_lookers)) :: (q_o_past_e_crowd_facts, .inl (cy 0, 140, .inl o_past_e_crowd_facts)) :: []) → va_S A s.heap H locs → lv_has ls 1 [(0, .ref q_o)] → W p l e ({ frames := 6, cells := 0, slots := 0, locals := 143 } : Room) s m args below meth c H locs 0 0 QQ (F0 m 0 ls []) := by
    intro H locs ls hP hD hS hl
    unfold X6_undo at hF
    refine lv_aload_n hx hb dX6_undo_0 rfl (lv_at hl 0 rfl) ?_
    refine va_get (D := D) (ci := 6) (v := .int o_undoable) (C := RX6) (T := TX6) (N := 8) hx hb hts f_inX6 hown hK hP 0 rfl rfl 7 (by decide) f_f44 (fun _ h9 => h9) rfl dX6_undo_1 ?_
    refine lv_if_ne (tgt := 9) hx hb dX6_undo_4 (by decide) (fun c1 => ?_) (fun c1 => ?_)
    · have hF := if_n hF c1
      refine lv_aload_n hx hb dX6_undo_9 rfl (lv_at hl 0 rfl) ?_
      refine lv_aload_n hx hb dX6_undo_10 rfl (lv_at hl 0 rfl) ?_
      refine va_get (D := D) (ci := 6) (v := .int o_nextPast) (C := RX6) (T := TX6) (N := 8) hx hb hts f_inX6 hown hK hP 0 rfl rfl 6 (by decide) f_f40 (fun _ h9 => h9) rfl dX6_undo_11 ?_
      refine lv_bipush (v := 8) hx hb dX6_undo_14 (by decide) ?_
      refine lv_iadd hx hb dX6_undo_16 ?_
      refine lv_iconst (v := 1) hx hb dX6_undo_17 (by decide) ?_
      refine lv_isub hx hb dX6_undo_18 ?_
      refine lv_bipush (v := 8) hx hb dX6_undo_19 (by decide) ?_
      refine lv_irem hx hb dX6_undo_21 (by decide) ?_
      refine lv_topi (fun v2 ev2 => ?_)
      have hF := nm_o hF v2 ev2
      refine va_put (D := D) (ci := 6) (v := .int v2) (ty := .int) (C := RX6) (T := TX6) (N := 8) hx hb hts f_inX6 tyX6 tyX6_ok nmX6 hown hK hP hD hS 0 rfl rfl 6 (by decide) f_f40 (fun _ h9 => h9) rfl (by decide +kernel) rfl rfl (Nat.le_of_ble_eq_true rfl) dX6_undo_22 (fun H locs hP hD hS => ?_)
      have hP : va_P D vwCl ((q_o, .inr (6, [x_o_setup, .ref q_o_now, x_o_trial, .ref q_o_view, x_o_trialView, .ref q_o_past, .int v2, .int o_undoable])) :: (q_o_now, .inr (4, [.ref q_o_now_box, .ref q_o_now_crowd])) :: (q_o_now_box, .inr (0, [.int o_now_box_width, .int o_now_box_height, .int o_now_box_planes, .int o_now_box_holes, .int o_now_box_reach, .ref q_o_now_box_cells, .ref q_o_now_box_pulls, .ref q_o_now_box_holeX, .ref q_o_now_box_holeY, .ref q_o_now_box_price])) :: (q_o_now_box_cells, .inl (cy 0, 480, .inl o_now_box_cells)) :: (q_o_now_box_pulls, .inl (cy 0, 5, .inl o_now_box_pulls)) :: (q_o_now_box_holeX, .inl (cy 0, 4, .inl o_now_box_holeX)) :: (q_o_now_box_holeY, .inl (cy 0, 4, .inl o_now_box_holeY)) :: (q_o_now_box_price, .inr (2, [.ref q_o_now_box_price_codes, .int o_now_box_price_size, x_o_now_box_price_waiting])) :: (q_o_now_box_price_codes, .inl (cy 0, 800, .inl o_now_box_price_codes)) :: (q_o_now_crowd, .inr (1, [.int o_now_crowd_viewers, .int o_now_crowd_lookLength, .int o_now_crowd_time, .ref q_o_now_crowd_lookers, .ref q_o_now_crowd_facts])) :: (q_o_now_crowd_lookers, .inl (cy 0, 4, .inl o_now_crowd_lookers)) :: (q_o_now_crowd_facts, .inl (cy 0, 140, .inl o_now_crowd_facts)) :: (q_o_view, .inr (5, [.ref q_o_view_seen, .ref q_o_view_counts, .ref q_o_view_kinds, .ref q_o_view_depths, .ref q_o_view_prices])) :: (q_o_view_seen, .inl (cy 0, 384, .inl o_view_seen)) :: (q_o_view_counts, .inl (cy 0, 104, .inl o_view_counts)) :: (q_o_view_kinds, .inl (cy 0, 4, .inl o_view_kinds)) :: (q_o_view_depths, .inl (cy 0, 4, .inl o_view_depths)) :: (q_o_view_prices, .inl (cy 0, 104, .inl o_view_prices)) :: (q_o_past, .inl (cy 3, 8, .inr (.inr (.inr (.inr pa))))) :: (q_o_past_e, .inr (4, [.ref q_o_past_e_box, .ref q_o_past_e_crowd])) :: (q_o_past_e_box, .inr (0, [.int o_past_e_box_width, .int o_past_e_box_height, .int o_past_e_box_planes, .int o_past_e_box_holes, .int o_past_e_box_reach, .ref q_o_past_e_box_cells, .ref q_o_past_e_box_pulls, .ref q_o_past_e_box_holeX, .ref q_o_past_e_box_holeY, .ref q_o_past_e_box_price])) :: (q_o_past_e_box_cells, .inl (cy 0, 480, .inl o_past_e_box_cells)) :: (q_o_past_e_box_pulls, .inl (cy 0, 5, .inl o_past_e_box_pulls)) :: (q_o_past_e_box_holeX, .inl (cy 0, 4, .inl o_past_e_box_holeX)) :: (q_o_past_e_box_holeY, .inl (cy 0, 4, .inl o_past_e_box_holeY)) :: (q_o_past_e_box_price, .inr (2, [.ref q_o_past_e_box_price_codes, .int o_past_e_box_price_size, x_o_past_e_box_price_waiting])) :: (q_o_past_e_box_price_codes, .inl (cy 0, 800, .inl o_past_e_box_price_codes)) :: (q_o_past_e_crowd, .inr (1, [.int o_past_e_crowd_viewers, .int o_past_e_crowd_lookLength, .int o_past_e_crowd_time, .ref q_o_past_e_crowd_lookers, .ref q_o_past_e_crowd_facts])) :: (q_o_past_e_crowd_lookers, .inl (cy 0, 4, .inl o_past_e_crowd_lookers)) :: (q_o_past_e_crowd_facts, .inl (cy 0, 140, .inl o_past_e_crowd_facts)) :: []) H := hP
      have hD : va_D A ((q_o, .inr (6, [x_o_setup, .ref q_o_now, x_o_trial, .ref q_o_view, x_o_trialView, .ref q_o_past, .int v2, .int o_undoable])) :: (q_o_now, .inr (4, [.ref q_o_now_box, .ref q_o_now_crowd])) :: (q_o_now_box, .inr (0, [.int o_now_box_width, .int o_now_box_height, .int o_now_box_planes, .int o_now_box_holes, .int o_now_box_reach, .ref q_o_now_box_cells, .ref q_o_now_box_pulls, .ref q_o_now_box_holeX, .ref q_o_now_box_holeY, .ref q_o_now_box_price])) :: (q_o_now_box_cells, .inl (cy 0, 480, .inl o_now_box_cells)) :: (q_o_now_box_pulls, .inl (cy 0, 5, .inl o_now_box_pulls)) :: (q_o_now_box_holeX, .inl (cy 0, 4, .inl o_now_box_holeX)) :: (q_o_now_box_holeY, .inl (cy 0, 4, .inl o_now_box_holeY)) :: (q_o_now_box_price, .inr (2, [.ref q_o_now_box_price_codes, .int o_now_box_price_size, x_o_now_box_price_waiting])) :: (q_o_now_box_price_codes, .inl (cy 0, 800, .inl o_now_box_price_codes)) :: (q_o_now_crowd, .inr (1, [.int o_now_crowd_viewers, .int o_now_crowd_lookLength, .int o_now_crowd_time, .ref q_o_now_crowd_lookers, .ref q_o_now_crowd_facts])) :: (q_o_now_crowd_lookers, .inl (cy 0, 4, .inl o_now_crowd_lookers)) :: (q_o_now_crowd_facts, .inl (cy 0, 140, .inl o_now_crowd_facts)) :: (q_o_view, .inr (5, [.ref q_o_view_seen, .ref q_o_view_counts, .ref q_o_view_kinds, .ref q_o_view_depths, .ref q_o_view_prices])) :: (q_o_view_seen, .inl (cy 0, 384, .inl o_view_seen)) :: (q_o_view_counts, .inl (cy 0, 104, .inl o_view_counts)) :: (q_o_view_kinds, .inl (cy 0, 4, .inl o_view_kinds)) :: (q_o_view_depths, .inl (cy 0, 4, .inl o_view_depths)) :: (q_o_view_prices, .inl (cy 0, 104, .inl o_view_prices)) :: (q_o_past, .inl (cy 3, 8, .inr (.inr (.inr (.inr pa))))) :: (q_o_past_e, .inr (4, [.ref q_o_past_e_box, .ref q_o_past_e_crowd])) :: (q_o_past_e_box, .inr (0, [.int o_past_e_box_width, .int o_past_e_box_height, .int o_past_e_box_planes, .int o_past_e_box_holes, .int o_past_e_box_reach, .ref q_o_past_e_box_cells, .ref q_o_past_e_box_pulls, .ref q_o_past_e_box_holeX, .ref q_o_past_e_box_holeY, .ref q_o_past_e_box_price])) :: (q_o_past_e_box_cells, .inl (cy 0, 480, .inl o_past_e_box_cells)) :: (q_o_past_e_box_pulls, .inl (cy 0, 5, .inl o_past_e_box_pulls)) :: (q_o_past_e_box_holeX, .inl (cy 0, 4, .inl o_past_e_box_holeX)) :: (q_o_past_e_box_holeY, .inl (cy 0, 4, .inl o_past_e_box_holeY)) :: (q_o_past_e_box_price, .inr (2, [.ref q_o_past_e_box_price_codes, .int o_past_e_box_price_size, x_o_past_e_box_price_waiting])) :: (q_o_past_e_box_price_codes, .inl (cy 0, 800, .inl o_past_e_box_price_codes)) :: (q_o_past_e_crowd, .inr (1, [.int o_past_e_crowd_viewers, .int o_past_e_crowd_lookLength, .int o_past_e_crowd_time, .ref q_o_past_e_crowd_lookers, .ref q_o_past_e_crowd_facts])) :: (q_o_past_e_crowd_lookers, .inl (cy 0, 4, .inl o_past_e_crowd_lookers)) :: (q_o_past_e_crowd_facts, .inl (cy 0, 140, .inl o_past_e_crowd_facts)) :: []) := hD
      refine lv_aload_n hx hb dX6_undo_25 rfl (lv_at hl 0 rfl) ?_
      refine lv_dup hx hb dX6_undo_26 rfl ?_
      refine va_get (D := D) (ci := 6) (v := .int o_undoable) (C := RX6) (T := TX6) (N := 8) hx hb hts f_inX6 hown hK hP 0 rfl rfl 7 (by decide) f_f44 (fun _ h9 => h9) rfl dX6_undo_27 ?_
      refine lv_iconst (v := 1) hx hb dX6_undo_30 (by decide) ?_
      refine lv_isub hx hb dX6_undo_31 ?_
      refine lv_topi (fun v3 ev3 => ?_)
      have hF := nm_o hF v3 ev3
      refine va_put (D := D) (ci := 6) (v := .int v3) (ty := .int) (C := RX6) (T := TX6) (N := 8) hx hb hts f_inX6 tyX6 tyX6_ok nmX6 hown hK hP hD hS 0 rfl rfl 7 (by decide) f_f44 (fun _ h9 => h9) rfl (by decide +kernel) rfl rfl (Nat.le_of_ble_eq_true rfl) dX6_undo_32 (fun H locs hP hD hS => ?_)
      have hP : va_P D vwCl ((q_o, .inr (6, [x_o_setup, .ref q_o_now, x_o_trial, .ref q_o_view, x_o_trialView, .ref q_o_past, .int v2, .int v3])) :: (q_o_now, .inr (4, [.ref q_o_now_box, .ref q_o_now_crowd])) :: (q_o_now_box, .inr (0, [.int o_now_box_width, .int o_now_box_height, .int o_now_box_planes, .int o_now_box_holes, .int o_now_box_reach, .ref q_o_now_box_cells, .ref q_o_now_box_pulls, .ref q_o_now_box_holeX, .ref q_o_now_box_holeY, .ref q_o_now_box_price])) :: (q_o_now_box_cells, .inl (cy 0, 480, .inl o_now_box_cells)) :: (q_o_now_box_pulls, .inl (cy 0, 5, .inl o_now_box_pulls)) :: (q_o_now_box_holeX, .inl (cy 0, 4, .inl o_now_box_holeX)) :: (q_o_now_box_holeY, .inl (cy 0, 4, .inl o_now_box_holeY)) :: (q_o_now_box_price, .inr (2, [.ref q_o_now_box_price_codes, .int o_now_box_price_size, x_o_now_box_price_waiting])) :: (q_o_now_box_price_codes, .inl (cy 0, 800, .inl o_now_box_price_codes)) :: (q_o_now_crowd, .inr (1, [.int o_now_crowd_viewers, .int o_now_crowd_lookLength, .int o_now_crowd_time, .ref q_o_now_crowd_lookers, .ref q_o_now_crowd_facts])) :: (q_o_now_crowd_lookers, .inl (cy 0, 4, .inl o_now_crowd_lookers)) :: (q_o_now_crowd_facts, .inl (cy 0, 140, .inl o_now_crowd_facts)) :: (q_o_view, .inr (5, [.ref q_o_view_seen, .ref q_o_view_counts, .ref q_o_view_kinds, .ref q_o_view_depths, .ref q_o_view_prices])) :: (q_o_view_seen, .inl (cy 0, 384, .inl o_view_seen)) :: (q_o_view_counts, .inl (cy 0, 104, .inl o_view_counts)) :: (q_o_view_kinds, .inl (cy 0, 4, .inl o_view_kinds)) :: (q_o_view_depths, .inl (cy 0, 4, .inl o_view_depths)) :: (q_o_view_prices, .inl (cy 0, 104, .inl o_view_prices)) :: (q_o_past, .inl (cy 3, 8, .inr (.inr (.inr (.inr pa))))) :: (q_o_past_e, .inr (4, [.ref q_o_past_e_box, .ref q_o_past_e_crowd])) :: (q_o_past_e_box, .inr (0, [.int o_past_e_box_width, .int o_past_e_box_height, .int o_past_e_box_planes, .int o_past_e_box_holes, .int o_past_e_box_reach, .ref q_o_past_e_box_cells, .ref q_o_past_e_box_pulls, .ref q_o_past_e_box_holeX, .ref q_o_past_e_box_holeY, .ref q_o_past_e_box_price])) :: (q_o_past_e_box_cells, .inl (cy 0, 480, .inl o_past_e_box_cells)) :: (q_o_past_e_box_pulls, .inl (cy 0, 5, .inl o_past_e_box_pulls)) :: (q_o_past_e_box_holeX, .inl (cy 0, 4, .inl o_past_e_box_holeX)) :: (q_o_past_e_box_holeY, .inl (cy 0, 4, .inl o_past_e_box_holeY)) :: (q_o_past_e_box_price, .inr (2, [.ref q_o_past_e_box_price_codes, .int o_past_e_box_price_size, x_o_past_e_box_price_waiting])) :: (q_o_past_e_box_price_codes, .inl (cy 0, 800, .inl o_past_e_box_price_codes)) :: (q_o_past_e_crowd, .inr (1, [.int o_past_e_crowd_viewers, .int o_past_e_crowd_lookLength, .int o_past_e_crowd_time, .ref q_o_past_e_crowd_lookers, .ref q_o_past_e_crowd_facts])) :: (q_o_past_e_crowd_lookers, .inl (cy 0, 4, .inl o_past_e_crowd_lookers)) :: (q_o_past_e_crowd_facts, .inl (cy 0, 140, .inl o_past_e_crowd_facts)) :: []) H := hP
      have hD : va_D A ((q_o, .inr (6, [x_o_setup, .ref q_o_now, x_o_trial, .ref q_o_view, x_o_trialView, .ref q_o_past, .int v2, .int v3])) :: (q_o_now, .inr (4, [.ref q_o_now_box, .ref q_o_now_crowd])) :: (q_o_now_box, .inr (0, [.int o_now_box_width, .int o_now_box_height, .int o_now_box_planes, .int o_now_box_holes, .int o_now_box_reach, .ref q_o_now_box_cells, .ref q_o_now_box_pulls, .ref q_o_now_box_holeX, .ref q_o_now_box_holeY, .ref q_o_now_box_price])) :: (q_o_now_box_cells, .inl (cy 0, 480, .inl o_now_box_cells)) :: (q_o_now_box_pulls, .inl (cy 0, 5, .inl o_now_box_pulls)) :: (q_o_now_box_holeX, .inl (cy 0, 4, .inl o_now_box_holeX)) :: (q_o_now_box_holeY, .inl (cy 0, 4, .inl o_now_box_holeY)) :: (q_o_now_box_price, .inr (2, [.ref q_o_now_box_price_codes, .int o_now_box_price_size, x_o_now_box_price_waiting])) :: (q_o_now_box_price_codes, .inl (cy 0, 800, .inl o_now_box_price_codes)) :: (q_o_now_crowd, .inr (1, [.int o_now_crowd_viewers, .int o_now_crowd_lookLength, .int o_now_crowd_time, .ref q_o_now_crowd_lookers, .ref q_o_now_crowd_facts])) :: (q_o_now_crowd_lookers, .inl (cy 0, 4, .inl o_now_crowd_lookers)) :: (q_o_now_crowd_facts, .inl (cy 0, 140, .inl o_now_crowd_facts)) :: (q_o_view, .inr (5, [.ref q_o_view_seen, .ref q_o_view_counts, .ref q_o_view_kinds, .ref q_o_view_depths, .ref q_o_view_prices])) :: (q_o_view_seen, .inl (cy 0, 384, .inl o_view_seen)) :: (q_o_view_counts, .inl (cy 0, 104, .inl o_view_counts)) :: (q_o_view_kinds, .inl (cy 0, 4, .inl o_view_kinds)) :: (q_o_view_depths, .inl (cy 0, 4, .inl o_view_depths)) :: (q_o_view_prices, .inl (cy 0, 104, .inl o_view_prices)) :: (q_o_past, .inl (cy 3, 8, .inr (.inr (.inr (.inr pa))))) :: (q_o_past_e, .inr (4, [.ref q_o_past_e_box, .ref q_o_past_e_crowd])) :: (q_o_past_e_box, .inr (0, [.int o_past_e_box_width, .int o_past_e_box_height, .int o_past_e_box_planes, .int o_past_e_box_holes, .int o_past_e_box_reach, .ref q_o_past_e_box_cells, .ref q_o_past_e_box_pulls, .ref q_o_past_e_box_holeX, .ref q_o_past_e_box_holeY, .ref q_o_past_e_box_price])) :: (q_o_past_e_box_cells, .inl (cy 0, 480, .inl o_past_e_box_cells)) :: (q_o_past_e_box_pulls, .inl (cy 0, 5, .inl o_past_e_box_pulls)) :: (q_o_past_e_box_holeX, .inl (cy 0, 4, .inl o_past_e_box_holeX)) :: (q_o_past_e_box_holeY, .inl (cy 0, 4, .inl o_past_e_box_holeY)) :: (q_o_past_e_box_price, .inr (2, [.ref q_o_past_e_box_price_codes, .int o_past_e_box_price_size, x_o_past_e_box_price_waiting])) :: (q_o_past_e_box_price_codes, .inl (cy 0, 800, .inl o_past_e_box_price_codes)) :: (q_o_past_e_crowd, .inr (1, [.int o_past_e_crowd_viewers, .int o_past_e_crowd_lookLength, .int o_past_e_crowd_time, .ref q_o_past_e_crowd_lookers, .ref q_o_past_e_crowd_facts])) :: (q_o_past_e_crowd_lookers, .inl (cy 0, 4, .inl o_past_e_crowd_lookers)) :: (q_o_past_e_crowd_facts, .inl (cy 0, 140, .inl o_past_e_crowd_facts)) :: []) := hD
      refine lv_aload_n hx hb dX6_undo_35 rfl (lv_at hl 0 rfl) ?_
      refine va_get (D := D) (ci := 6) (v := .ref q_o_now) (C := RX6) (T := TX6) (N := 8) hx hb hts f_inX6 hown hK hP 0 rfl rfl 1 (by decide) f_f19 (fun _ h9 => h9) rfl dX6_undo_36 ?_
      refine lv_aload_n hx hb dX6_undo_39 rfl (lv_at hl 0 rfl) ?_
      refine va_get (D := D) (ci := 6) (v := .ref q_o_past) (C := RX6) (T := TX6) (N := 8) hx hb hts f_inX6 hown hK hP 0 rfl rfl 5 (by decide) f_f36 (fun _ h9 => h9) rfl dX6_undo_40 ?_
      refine lv_aload_n hx hb dX6_undo_43 rfl (lv_at hl 0 rfl) ?_
      refine va_get (D := D) (ci := 6) (v := .int v2) (C := RX6) (T := TX6) (N := 8) hx hb hts f_inX6 hown hK hP 0 rfl rfl 6 (by decide) f_f40 (fun _ h9 => h9) rfl dX6_undo_44 ?_
      obtain ⟨⟨h4, h5⟩, hF⟩ := ck_o hF
      refine va_aldq hx hb hK hP 18 3 rfl rfl h4 dX6_undo_47 ?_
      rw [h5, hpa]
      show W p l e ({ frames := 6, cells := 0, slots := 0, locals := 143 } : Room) s m args below meth c H locs _ _ QQ (F0 m 48 ls (.ref q_o_past_e :: [.ref q_o_now]))
      obtain ⟨o6, o7, o8, o9, o10, o11, o12, o13, o14, o15, o16, o17, o18, o19, o20, o21, h22, hF⟩ := bn16_o hF
      refine kd_v ((q_o, .inr (6, [x_o_setup, .ref q_o_now, x_o_trial, .ref q_o_view, x_o_trialView, .ref q_o_past, .int v2, .int v3])) :: (q_o_now, .inr (4, [.ref q_o_now_box, .ref q_o_now_crowd])) :: (q_o_now_box, .inr (0, [.int o6, .int o7, .int o8, .int o9, .int o10, .ref q_o_now_box_cells, .ref q_o_now_box_pulls, .ref q_o_now_box_holeX, .ref q_o_now_box_holeY, .ref q_o_now_box_price])) :: (q_o_now_box_cells, .inl (cy 0, 480, .inl o11)) :: (q_o_now_box_pulls, .inl (cy 0, 5, .inl o12)) :: (q_o_now_box_holeX, .inl (cy 0, 4, .inl o13)) :: (q_o_now_box_holeY, .inl (cy 0, 4, .inl o14)) :: (q_o_now_box_price, .inr (2, [.ref q_o_now_box_price_codes, .int o15, x_o_now_box_price_waiting])) :: (q_o_now_box_price_codes, .inl (cy 0, 800, .inl o16)) :: (q_o_now_crowd, .inr (1, [.int o17, .int o18, .int o19, .ref q_o_now_crowd_lookers, .ref q_o_now_crowd_facts])) :: (q_o_now_crowd_lookers, .inl (cy 0, 4, .inl o20)) :: (q_o_now_crowd_facts, .inl (cy 0, 140, .inl o21)) :: (q_o_view, .inr (5, [.ref q_o_view_seen, .ref q_o_view_counts, .ref q_o_view_kinds, .ref q_o_view_depths, .ref q_o_view_prices])) :: (q_o_view_seen, .inl (cy 0, 384, .inl o_view_seen)) :: (q_o_view_counts, .inl (cy 0, 104, .inl o_view_counts)) :: (q_o_view_kinds, .inl (cy 0, 4, .inl o_view_kinds)) :: (q_o_view_depths, .inl (cy 0, 4, .inl o_view_depths)) :: (q_o_view_prices, .inl (cy 0, 104, .inl o_view_prices)) :: (q_o_past, .inl (cy 3, 8, .inr (.inr (.inr (.inr pa))))) :: (q_o_past_e, .inr (4, [.ref q_o_past_e_box, .ref q_o_past_e_crowd])) :: (q_o_past_e_box, .inr (0, [.int o_past_e_box_width, .int o_past_e_box_height, .int o_past_e_box_planes, .int o_past_e_box_holes, .int o_past_e_box_reach, .ref q_o_past_e_box_cells, .ref q_o_past_e_box_pulls, .ref q_o_past_e_box_holeX, .ref q_o_past_e_box_holeY, .ref q_o_past_e_box_price])) :: (q_o_past_e_box_cells, .inl (cy 0, 480, .inl o_past_e_box_cells)) :: (q_o_past_e_box_pulls, .inl (cy 0, 5, .inl o_past_e_box_pulls)) :: (q_o_past_e_box_holeX, .inl (cy 0, 4, .inl o_past_e_box_holeX)) :: (q_o_past_e_box_holeY, .inl (cy 0, 4, .inl o_past_e_box_holeY)) :: (q_o_past_e_box_price, .inr (2, [.ref q_o_past_e_box_price_codes, .int o_past_e_box_price_size, x_o_past_e_box_price_waiting])) :: (q_o_past_e_box_price_codes, .inl (cy 0, 800, .inl o_past_e_box_price_codes)) :: (q_o_past_e_crowd, .inr (1, [.int o_past_e_crowd_viewers, .int o_past_e_crowd_lookLength, .int o_past_e_crowd_time, .ref q_o_past_e_crowd_lookers, .ref q_o_past_e_crowd_facts])) :: (q_o_past_e_crowd_lookers, .inl (cy 0, 4, .inl o_past_e_crowd_lookers)) :: (q_o_past_e_crowd_facts, .inl (cy 0, 140, .inl o_past_e_crowd_facts)) :: []) (va_runV (As := [.ref q_o_past_e]) (rest := []) ⟨hx, hb, hml, hown, hts⟩ (c_X4_copyFrom q_o_now q_o_now_box q_o_now_box_cells q_o_now_box_pulls q_o_now_box_holeX q_o_now_box_holeY q_o_now_box_price q_o_now_box_price_codes q_o_now_crowd q_o_now_crowd_lookers q_o_now_crowd_facts q_o_past_e q_o_past_e_box q_o_past_e_box_cells q_o_past_e_box_pulls q_o_past_e_box_holeX q_o_past_e_box_holeY q_o_past_e_box_price q_o_past_e_box_price_codes q_o_past_e_crowd q_o_past_e_crowd_lookers q_o_past_e_crowd_facts H.size x_o_now_box_price_waiting x_o_past_e_box_price_waiting o_now_box_width o_now_box_height o_now_box_planes o_now_box_holes o_now_box_reach o_now_box_cells o_now_box_pulls o_now_box_holeX o_now_box_holeY o_now_box_price_size o_now_box_price_codes o_now_crowd_viewers o_now_crowd_lookLength o_now_crowd_time o_now_crowd_lookers o_now_crowd_facts o_past_e_box_width o_past_e_box_height o_past_e_box_planes o_past_e_box_holes o_past_e_box_reach o_past_e_box_cells o_past_e_box_pulls o_past_e_box_holeX o_past_e_box_holeY o_past_e_box_price_size o_past_e_box_price_codes o_past_e_crowd_viewers o_past_e_crowd_lookLength o_past_e_crowd_time o_past_e_crowd_lookers o_past_e_crowd_facts _ h22) (cwV 1 hts gX6_undo_X4_copyFrom rfl rfl rfl kd_X4_copyFrom ⟨Nat.le_of_ble_eq_true rfl, Nat.le_of_ble_eq_true rfl⟩) ⟨kP_blind (EN_ok D cy) D _ _ _, va_recv hK hP (ci := 4) (q0 := 1) rfl rfl, kStart (EN_ok D cy) hE hP hD hS hA [1, 2, 3, 4, 5, 6, 7, 8, 9, 10, 11, 19, 20, 21, 22, 23, 24, 25, 26, 27, 28, 29] rfl rfl _⟩ rfl rfl hl.1 rfl (lv_room (Nat.le_of_ble_eq_true rfl)) dX6_undo_48 ⟨Nat.zero_le _, Nat.zero_le _⟩) hP hD hS hA [1, 2, 3, 4, 5, 6, 7, 8, 9, 10, 11, 19, 20, 21, 22, 23, 24, 25, 26, 27, 28, 29] [0, 12, 13, 14, 15, 16, 17, 18] rfl rfl rfl 30 rfl (by decide +kernel) (fun H locs hP hD hS => ?_)
      refine lv_aload_n hx hb dX6_undo_51 rfl (lv_at hl 0 rfl) ?_
      refine va_get (D := D) (ci := 6) (v := .ref q_o_view) (C := RX6) (T := TX6) (N := 8) hx hb hts f_inX6 hown hK hP 0 rfl rfl 3 (by decide) f_f29 (fun _ h9 => h9) rfl dX6_undo_52 ?_
      refine lv_aload_n hx hb dX6_undo_55 rfl (lv_at hl 0 rfl) ?_
      refine va_get (D := D) (ci := 6) (v := .ref q_o_now) (C := RX6) (T := TX6) (N := 8) hx hb hts f_inX6 hown hK hP 0 rfl rfl 1 (by decide) f_f19 (fun _ h9 => h9) rfl dX6_undo_56 ?_
      refine va_get (D := D) (ci := 4) (v := .ref q_o_now_box) (C := RX4) (T := TX4) (N := 2) hx hb hts f_inX4 hown hK hP 1 rfl rfl 0 (by decide) f_f51 (fun _ h9 => h9) rfl dX6_undo_59 ?_
      obtain ⟨o23, o24, o25, o26, o27, h28, hF⟩ := bn5_o hF
      refine kd_v ((q_o, .inr (6, [x_o_setup, .ref q_o_now, x_o_trial, .ref q_o_view, x_o_trialView, .ref q_o_past, .int v2, .int v3])) :: (q_o_now, .inr (4, [.ref q_o_now_box, .ref q_o_now_crowd])) :: (q_o_now_box, .inr (0, [.int o6, .int o7, .int o8, .int o9, .int o10, .ref q_o_now_box_cells, .ref q_o_now_box_pulls, .ref q_o_now_box_holeX, .ref q_o_now_box_holeY, .ref q_o_now_box_price])) :: (q_o_now_box_cells, .inl (cy 0, 480, .inl o11)) :: (q_o_now_box_pulls, .inl (cy 0, 5, .inl o12)) :: (q_o_now_box_holeX, .inl (cy 0, 4, .inl o13)) :: (q_o_now_box_holeY, .inl (cy 0, 4, .inl o14)) :: (q_o_now_box_price, .inr (2, [.ref q_o_now_box_price_codes, .int o15, x_o_now_box_price_waiting])) :: (q_o_now_box_price_codes, .inl (cy 0, 800, .inl o16)) :: (q_o_now_crowd, .inr (1, [.int o17, .int o18, .int o19, .ref q_o_now_crowd_lookers, .ref q_o_now_crowd_facts])) :: (q_o_now_crowd_lookers, .inl (cy 0, 4, .inl o20)) :: (q_o_now_crowd_facts, .inl (cy 0, 140, .inl o21)) :: (q_o_view, .inr (5, [.ref q_o_view_seen, .ref q_o_view_counts, .ref q_o_view_kinds, .ref q_o_view_depths, .ref q_o_view_prices])) :: (q_o_view_seen, .inl (cy 0, 384, .inl o23)) :: (q_o_view_counts, .inl (cy 0, 104, .inl o24)) :: (q_o_view_kinds, .inl (cy 0, 4, .inl o25)) :: (q_o_view_depths, .inl (cy 0, 4, .inl o26)) :: (q_o_view_prices, .inl (cy 0, 104, .inl o27)) :: (q_o_past, .inl (cy 3, 8, .inr (.inr (.inr (.inr pa))))) :: (q_o_past_e, .inr (4, [.ref q_o_past_e_box, .ref q_o_past_e_crowd])) :: (q_o_past_e_box, .inr (0, [.int o_past_e_box_width, .int o_past_e_box_height, .int o_past_e_box_planes, .int o_past_e_box_holes, .int o_past_e_box_reach, .ref q_o_past_e_box_cells, .ref q_o_past_e_box_pulls, .ref q_o_past_e_box_holeX, .ref q_o_past_e_box_holeY, .ref q_o_past_e_box_price])) :: (q_o_past_e_box_cells, .inl (cy 0, 480, .inl o_past_e_box_cells)) :: (q_o_past_e_box_pulls, .inl (cy 0, 5, .inl o_past_e_box_pulls)) :: (q_o_past_e_box_holeX, .inl (cy 0, 4, .inl o_past_e_box_holeX)) :: (q_o_past_e_box_holeY, .inl (cy 0, 4, .inl o_past_e_box_holeY)) :: (q_o_past_e_box_price, .inr (2, [.ref q_o_past_e_box_price_codes, .int o_past_e_box_price_size, x_o_past_e_box_price_waiting])) :: (q_o_past_e_box_price_codes, .inl (cy 0, 800, .inl o_past_e_box_price_codes)) :: (q_o_past_e_crowd, .inr (1, [.int o_past_e_crowd_viewers, .int o_past_e_crowd_lookLength, .int o_past_e_crowd_time, .ref q_o_past_e_crowd_lookers, .ref q_o_past_e_crowd_facts])) :: (q_o_past_e_crowd_lookers, .inl (cy 0, 4, .inl o_past_e_crowd_lookers)) :: (q_o_past_e_crowd_facts, .inl (cy 0, 140, .inl o_past_e_crowd_facts)) :: []) (va_runV (As := [.ref q_o_now_box]) (rest := []) ⟨hx, hb, hml, hown, hts⟩ (c_X5_update q_o_view q_o_view_seen q_o_view_counts q_o_view_kinds q_o_view_depths q_o_view_prices q_o_now_box q_o_now_box_cells q_o_now_box_pulls q_o_now_box_holeX q_o_now_box_holeY H.size (.int o10) (.ref q_o_now_box_price) o_view_seen o_view_counts o_view_kinds o_view_depths o_view_prices o6 o7 o8 o9 o11 o12 o13 o14 _ h28) (cwV 1 hts gX6_undo_X5_update rfl rfl rfl kd_X5_update ⟨Nat.le_of_ble_eq_true rfl, Nat.le_of_ble_eq_true rfl⟩) ⟨kP_blind (EN_ok D cy) D _ _ _, va_recv hK hP (ci := 5) (q0 := 12) rfl rfl, kStart (EN_ok D cy) hE hP hD hS hA [12, 13, 14, 15, 16, 17, 2, 3, 4, 5, 6] rfl rfl _⟩ rfl rfl hl.1 rfl (lv_room (Nat.le_of_ble_eq_true rfl)) dX6_undo_62 ⟨Nat.zero_le _, Nat.zero_le _⟩) hP hD hS hA [12, 13, 14, 15, 16, 17, 2, 3, 4, 5, 6] [0, 1, 7, 8, 9, 10, 11, 18, 19, 20, 21, 22, 23, 24, 25, 26, 27, 28, 29] rfl rfl rfl 30 rfl (by decide +kernel) (fun H locs hP hD hS => ?_)
      refine lv_aload_n hx hb dX6_undo_65 rfl (lv_at hl 0 rfl) ?_
      refine va_get (D := D) (ci := 6) (v := .int v3) (C := RX6) (T := TX6) (N := 8) hx hb hts f_inX6 hown hK hP 0 rfl rfl 7 (by decide) f_f44 (fun _ h9 => h9) rfl dX6_undo_66 ?_
      obtain rfl := so_o hF
      rw [hQQ]
      exact kr_i hx hb hr hlocks hP hD hS dX6_undo_69
    · have hF := if_p hF c1
      refine lv_iconst (v := -1) hx hb dX6_undo_7 (by decide) ?_
      obtain rfl := so_o hF
      rw [hQQ]
      exact kr_i hx hb hr hlocks hP hD hS dX6_undo_8
  exact main s.heap [] ls hP hD hS hl
theorem kd_X6_checksum : yX6_checksum.cls = RX6 ∧ yX6_checksum.cls ≠ "java/lang/invoke/MethodHandle" ∧ yX6_checksum.cls ≠ "java/lang/invoke/VarHandle" ∧ (parseMethodDescriptor yX6_checksum.desc).map (fun d => d.parameters.length) = some 0 := by decide +kernel
set_option maxHeartbeats 4000000 in
set_option maxRecDepth 100000 in
theorem c_X6_checksum {l : Launch} {D : va_G} {cy : Nat → ClassId} (q_o q_o_now q_o_now_box q_o_now_box_cells q_o_now_box_pulls q_o_now_box_holeX q_o_now_box_holeY q_o_now_crowd q_o_now_crowd_lookers q_o_now_crowd_facts q_o_view q_o_view_seen q_o_view_kinds q_o_view_depths : Nat) (sz : Nat) (x_o_setup x_o_trial x_o_trialView x_o_past x_o_nextPast x_o_undoable x_o_now_box_price x_o_view_counts x_o_view_prices : Value) (o_now_box_width : Int32) (o_now_box_height : Int32) (o_now_box_planes : Int32) (o_now_box_holes : Int32) (o_now_box_reach : Int32) (o_now_box_cells : Nat → Int32) (o_now_box_pulls : Nat → Int32) (o_now_box_holeX : Nat → Int32) (o_now_box_holeY : Nat → Int32) (o_now_crowd_viewers : Int32) (o_now_crowd_lookLength : Int32) (o_now_crowd_time : Int32) (o_now_crowd_lookers : Nat → Int32) (o_now_crowd_facts : Nat → Int32) (o_view_seen : Nat → Int32) (o_view_kinds : Nat → Int32) (o_view_depths : Nat → Int32) (res : Int64) (hF : X6_checksum o_now_box_width o_now_box_height o_now_box_planes o_now_box_holes o_now_box_reach o_now_box_cells o_now_box_pulls o_now_box_holeX o_now_box_holeY o_now_crowd_viewers o_now_crowd_lookLength o_now_crowd_time o_now_crowd_lookers o_now_crowd_facts o_view_seen o_view_kinds o_view_depths = some res) : Met l yX6_checksum wsX6_checksum ({ frames := 3, cells := 0, slots := 0, locals := 70 } : Room) (kP (EN D cy) D [.ref q_o] [(q_o, .inr (6, [x_o_setup, .ref q_o_now, x_o_trial, .ref q_o_view, x_o_trialView, x_o_past, x_o_nextPast, x_o_undoable])), (q_o_now, .inr (4, [.ref q_o_now_box, .ref q_o_now_crowd])), (q_o_now_box, .inr (0, [.int o_now_box_width, .int o_now_box_height, .int o_now_box_planes, .int o_now_box_holes, .int o_now_box_reach, .ref q_o_now_box_cells, .ref q_o_now_box_pulls, .ref q_o_now_box_holeX, .ref q_o_now_box_holeY, x_o_now_box_price])), (q_o_now_box_cells, .inl (cy 0, 480, .inl o_now_box_cells)), (q_o_now_box_pulls, .inl (cy 0, 5, .inl o_now_box_pulls)), (q_o_now_box_holeX, .inl (cy 0, 4, .inl o_now_box_holeX)), (q_o_now_box_holeY, .inl (cy 0, 4, .inl o_now_box_holeY)), (q_o_now_crowd, .inr (1, [.int o_now_crowd_viewers, .int o_now_crowd_lookLength, .int o_now_crowd_time, .ref q_o_now_crowd_lookers, .ref q_o_now_crowd_facts])), (q_o_now_crowd_lookers, .inl (cy 0, 4, .inl o_now_crowd_lookers)), (q_o_now_crowd_facts, .inl (cy 0, 140, .inl o_now_crowd_facts)), (q_o_view, .inr (5, [.ref q_o_view_seen, x_o_view_counts, .ref q_o_view_kinds, .ref q_o_view_depths, x_o_view_prices])), (q_o_view_seen, .inl (cy 0, 384, .inl o_view_seen)), (q_o_view_kinds, .inl (cy 0, 4, .inl o_view_kinds)), (q_o_view_depths, .inl (cy 0, 4, .inl o_view_depths))] sz) (kQl D res [(q_o, .inr (6, [x_o_setup, .ref q_o_now, x_o_trial, .ref q_o_view, x_o_trialView, x_o_past, x_o_nextPast, x_o_undoable])), (q_o_now, .inr (4, [.ref q_o_now_box, .ref q_o_now_crowd])), (q_o_now_box, .inr (0, [.int o_now_box_width, .int o_now_box_height, .int o_now_box_planes, .int o_now_box_holes, .int o_now_box_reach, .ref q_o_now_box_cells, .ref q_o_now_box_pulls, .ref q_o_now_box_holeX, .ref q_o_now_box_holeY, x_o_now_box_price])), (q_o_now_box_cells, .inl (cy 0, 480, .inl o_now_box_cells)), (q_o_now_box_pulls, .inl (cy 0, 5, .inl o_now_box_pulls)), (q_o_now_box_holeX, .inl (cy 0, 4, .inl o_now_box_holeX)), (q_o_now_box_holeY, .inl (cy 0, 4, .inl o_now_box_holeY)), (q_o_now_crowd, .inr (1, [.int o_now_crowd_viewers, .int o_now_crowd_lookLength, .int o_now_crowd_time, .ref q_o_now_crowd_lookers, .ref q_o_now_crowd_facts])), (q_o_now_crowd_lookers, .inl (cy 0, 4, .inl o_now_crowd_lookers)), (q_o_now_crowd_facts, .inl (cy 0, 140, .inl o_now_crowd_facts)), (q_o_view, .inr (5, [.ref q_o_view_seen, x_o_view_counts, .ref q_o_view_kinds, .ref q_o_view_depths, x_o_view_prices])), (q_o_view_seen, .inl (cy 0, 384, .inl o_view_seen)), (q_o_view_kinds, .inl (cy 0, 4, .inl o_view_kinds)), (q_o_view_depths, .inl (cy 0, 4, .inl o_view_depths))] (va_A [(q_o, .inr (6, [x_o_setup, .ref q_o_now, x_o_trial, .ref q_o_view, x_o_trialView, x_o_past, x_o_nextPast, x_o_undoable])), (q_o_now, .inr (4, [.ref q_o_now_box, .ref q_o_now_crowd])), (q_o_now_box, .inr (0, [.int o_now_box_width, .int o_now_box_height, .int o_now_box_planes, .int o_now_box_holes, .int o_now_box_reach, .ref q_o_now_box_cells, .ref q_o_now_box_pulls, .ref q_o_now_box_holeX, .ref q_o_now_box_holeY, x_o_now_box_price])), (q_o_now_box_cells, .inl (cy 0, 480, .inl o_now_box_cells)), (q_o_now_box_pulls, .inl (cy 0, 5, .inl o_now_box_pulls)), (q_o_now_box_holeX, .inl (cy 0, 4, .inl o_now_box_holeX)), (q_o_now_box_holeY, .inl (cy 0, 4, .inl o_now_box_holeY)), (q_o_now_crowd, .inr (1, [.int o_now_crowd_viewers, .int o_now_crowd_lookLength, .int o_now_crowd_time, .ref q_o_now_crowd_lookers, .ref q_o_now_crowd_facts])), (q_o_now_crowd_lookers, .inl (cy 0, 4, .inl o_now_crowd_lookers)), (q_o_now_crowd_facts, .inl (cy 0, 140, .inl o_now_crowd_facts)), (q_o_view, .inr (5, [.ref q_o_view_seen, x_o_view_counts, .ref q_o_view_kinds, .ref q_o_view_depths, x_o_view_prices])), (q_o_view_seen, .inl (cy 0, 384, .inl o_view_seen)), (q_o_view_kinds, .inl (cy 0, 4, .inl o_view_kinds)), (q_o_view_depths, .inl (cy 0, 4, .inl o_view_depths))] sz)) 0 0 (va_A [(q_o, .inr (6, [x_o_setup, .ref q_o_now, x_o_trial, .ref q_o_view, x_o_trialView, x_o_past, x_o_nextPast, x_o_undoable])), (q_o_now, .inr (4, [.ref q_o_now_box, .ref q_o_now_crowd])), (q_o_now_box, .inr (0, [.int o_now_box_width, .int o_now_box_height, .int o_now_box_planes, .int o_now_box_holes, .int o_now_box_reach, .ref q_o_now_box_cells, .ref q_o_now_box_pulls, .ref q_o_now_box_holeX, .ref q_o_now_box_holeY, x_o_now_box_price])), (q_o_now_box_cells, .inl (cy 0, 480, .inl o_now_box_cells)), (q_o_now_box_pulls, .inl (cy 0, 5, .inl o_now_box_pulls)), (q_o_now_box_holeX, .inl (cy 0, 4, .inl o_now_box_holeX)), (q_o_now_box_holeY, .inl (cy 0, 4, .inl o_now_box_holeY)), (q_o_now_crowd, .inr (1, [.int o_now_crowd_viewers, .int o_now_crowd_lookLength, .int o_now_crowd_time, .ref q_o_now_crowd_lookers, .ref q_o_now_crowd_facts])), (q_o_now_crowd_lookers, .inl (cy 0, 4, .inl o_now_crowd_lookers)), (q_o_now_crowd_facts, .inl (cy 0, 140, .inl o_now_crowd_facts)), (q_o_view, .inr (5, [.ref q_o_view_seen, x_o_view_counts, .ref q_o_view_kinds, .ref q_o_view_depths, x_o_view_prices])), (q_o_view_seen, .inl (cy 0, 384, .inl o_view_seen)), (q_o_view_kinds, .inl (cy 0, 4, .inl o_view_kinds)), (q_o_view_depths, .inl (cy 0, 4, .inl o_view_depths))] sz) := by
  refine kMet (y := yX6_checksum) (av := [.ref q_o]) (cc := cX6_checksum) (maxL := 5) (ret := some .long) (own := RX6) (Qc := fun A9 => (kQl D res [(q_o, .inr (6, [x_o_setup, .ref q_o_now, x_o_trial, .ref q_o_view, x_o_trialView, x_o_past, x_o_nextPast, x_o_undoable])), (q_o_now, .inr (4, [.ref q_o_now_box, .ref q_o_now_crowd])), (q_o_now_box, .inr (0, [.int o_now_box_width, .int o_now_box_height, .int o_now_box_planes, .int o_now_box_holes, .int o_now_box_reach, .ref q_o_now_box_cells, .ref q_o_now_box_pulls, .ref q_o_now_box_holeX, .ref q_o_now_box_holeY, x_o_now_box_price])), (q_o_now_box_cells, .inl (cy 0, 480, .inl o_now_box_cells)), (q_o_now_box_pulls, .inl (cy 0, 5, .inl o_now_box_pulls)), (q_o_now_box_holeX, .inl (cy 0, 4, .inl o_now_box_holeX)), (q_o_now_box_holeY, .inl (cy 0, 4, .inl o_now_box_holeY)), (q_o_now_crowd, .inr (1, [.int o_now_crowd_viewers, .int o_now_crowd_lookLength, .int o_now_crowd_time, .ref q_o_now_crowd_lookers, .ref q_o_now_crowd_facts])), (q_o_now_crowd_lookers, .inl (cy 0, 4, .inl o_now_crowd_lookers)), (q_o_now_crowd_facts, .inl (cy 0, 140, .inl o_now_crowd_facts)), (q_o_view, .inr (5, [.ref q_o_view_seen, x_o_view_counts, .ref q_o_view_kinds, .ref q_o_view_depths, x_o_view_prices])), (q_o_view_seen, .inl (cy 0, 384, .inl o_view_seen)), (q_o_view_kinds, .inl (cy 0, 4, .inl o_view_kinds)), (q_o_view_depths, .inl (cy 0, 4, .inl o_view_depths))] A9)) (by decide) rfl rfl (Nat.le_of_ble_eq_true rfl) ?_
  intro p e s m args below meth c A hx hb hr hts hown hml hlocks hname hE hP hD hA hsz ls hl
  have hK := hE.1
  have hl : lv_has ls 5 [(0, .ref q_o)] := hl
  have hS : va_S A s.heap s.heap [] := va_S.rf
  have f_c249 := hts (.constantLong RX6 249 (31)) (by decide +kernel)
  have f_f19 := hts (.fieldLink RX6 19 "PeepBox" "now" "LPeepBox$Show;") (by decide +kernel)
  have f_inX6 : ∀ w ∈ wsX60, w ∈ wsX6_checksum := by decide +kernel
  have f_f99 := hts (.fieldLink RX6 99 "PeepBox$Show" "crowd" "LPeepBox$Crowd;") (by decide +kernel)
  have f_inX4 : ∀ w ∈ wsX40, w ∈ wsX6_checksum := by decide +kernel
  have f_f103 := hts (.fieldLink RX6 103 "PeepBox$Crowd" "viewers" "I") (by decide +kernel)
  have f_inX1 : ∀ w ∈ wsX10, w ∈ wsX6_checksum := by decide +kernel
  have f_f51 := hts (.fieldLink RX6 51 "PeepBox$Show" "box" "LPeepBox$Box;") (by decide +kernel)
  have f_f120 := hts (.fieldLink RX6 120 "PeepBox$Box" "holes" "I") (by decide +kernel)
  have f_inX0 : ∀ w ∈ wsX00, w ∈ wsX6_checksum := by decide +kernel
  have f_f117 := hts (.fieldLink RX6 117 "PeepBox$Box" "planes" "I") (by decide +kernel)
  obtain ⟨QQ, hQQ⟩ : ∃ Q9, Q9 = MQ below (kQl D res [(q_o, .inr (6, [x_o_setup, .ref q_o_now, x_o_trial, .ref q_o_view, x_o_trialView, x_o_past, x_o_nextPast, x_o_undoable])), (q_o_now, .inr (4, [.ref q_o_now_box, .ref q_o_now_crowd])), (q_o_now_box, .inr (0, [.int o_now_box_width, .int o_now_box_height, .int o_now_box_planes, .int o_now_box_holes, .int o_now_box_reach, .ref q_o_now_box_cells, .ref q_o_now_box_pulls, .ref q_o_now_box_holeX, .ref q_o_now_box_holeY, x_o_now_box_price])), (q_o_now_box_cells, .inl (cy 0, 480, .inl o_now_box_cells)), (q_o_now_box_pulls, .inl (cy 0, 5, .inl o_now_box_pulls)), (q_o_now_box_holeX, .inl (cy 0, 4, .inl o_now_box_holeX)), (q_o_now_box_holeY, .inl (cy 0, 4, .inl o_now_box_holeY)), (q_o_now_crowd, .inr (1, [.int o_now_crowd_viewers, .int o_now_crowd_lookLength, .int o_now_crowd_time, .ref q_o_now_crowd_lookers, .ref q_o_now_crowd_facts])), (q_o_now_crowd_lookers, .inl (cy 0, 4, .inl o_now_crowd_lookers)), (q_o_now_crowd_facts, .inl (cy 0, 140, .inl o_now_crowd_facts)), (q_o_view, .inr (5, [.ref q_o_view_seen, x_o_view_counts, .ref q_o_view_kinds, .ref q_o_view_depths, x_o_view_prices])), (q_o_view_seen, .inl (cy 0, 384, .inl o_view_seen)), (q_o_view_kinds, .inl (cy 0, 4, .inl o_view_kinds)), (q_o_view_depths, .inl (cy 0, 4, .inl o_view_depths))] A) args s 0 0 A := ⟨_, rfl⟩
  rw [← hQQ]
  have J135 : ∀ (n135 : Nat) (l1 : Int64) (l3 : Int32) (H : Heap) (locs : List Loc) (ls : Array Slot), va_P D vwCl [(q_o, .inr (6, [x_o_setup, .ref q_o_now, x_o_trial, .ref q_o_view, x_o_trialView, x_o_past, x_o_nextPast, x_o_undoable])), (q_o_now, .inr (4, [.ref q_o_now_box, .ref q_o_now_crowd])), (q_o_now_box, .inr (0, [.int o_now_box_width, .int o_now_box_height, .int o_now_box_planes, .int o_now_box_holes, .int o_now_box_reach, .ref q_o_now_box_cells, .ref q_o_now_box_pulls, .ref q_o_now_box_holeX, .ref q_o_now_box_holeY, x_o_now_box_price])), (q_o_now_box_cells, .inl (cy 0, 480, .inl o_now_box_cells)), (q_o_now_box_pulls, .inl (cy 0, 5, .inl o_now_box_pulls)), (q_o_now_box_holeX, .inl (cy 0, 4, .inl o_now_box_holeX)), (q_o_now_box_holeY, .inl (cy 0, 4, .inl o_now_box_holeY)), (q_o_now_crowd, .inr (1, [.int o_now_crowd_viewers, .int o_now_crowd_lookLength, .int o_now_crowd_time, .ref q_o_now_crowd_lookers, .ref q_o_now_crowd_facts])), (q_o_now_crowd_lookers, .inl (cy 0, 4, .inl o_now_crowd_lookers)), (q_o_now_crowd_facts, .inl (cy 0, 140, .inl o_now_crowd_facts)), (q_o_view, .inr (5, [.ref q_o_view_seen, x_o_view_counts, .ref q_o_view_kinds, .ref q_o_view_depths, x_o_view_prices])), (q_o_view_seen, .inl (cy 0, 384, .inl o_view_seen)), (q_o_view_kinds, .inl (cy 0, 4, .inl o_view_kinds)), (q_o_view_depths, .inl (cy 0, 4, .inl o_view_depths))] H → va_D A [(q_o, .inr (6, [x_o_setup, .ref q_o_now, x_o_trial, .ref q_o_view, x_o_trialView, x_o_past, x_o_nextPast, x_o_undoable])), (q_o_now, .inr (4, [.ref q_o_now_box, .ref q_o_now_crowd])), (q_o_now_box, .inr (0, [.int o_now_box_width, .int o_now_box_height, .int o_now_box_planes, .int o_now_box_holes, .int o_now_box_reach, .ref q_o_now_box_cells, .ref q_o_now_box_pulls, .ref q_o_now_box_holeX, .ref q_o_now_box_holeY, x_o_now_box_price])), (q_o_now_box_cells, .inl (cy 0, 480, .inl o_now_box_cells)), (q_o_now_box_pulls, .inl (cy 0, 5, .inl o_now_box_pulls)), (q_o_now_box_holeX, .inl (cy 0, 4, .inl o_now_box_holeX)), (q_o_now_box_holeY, .inl (cy 0, 4, .inl o_now_box_holeY)), (q_o_now_crowd, .inr (1, [.int o_now_crowd_viewers, .int o_now_crowd_lookLength, .int o_now_crowd_time, .ref q_o_now_crowd_lookers, .ref q_o_now_crowd_facts])), (q_o_now_crowd_lookers, .inl (cy 0, 4, .inl o_now_crowd_lookers)), (q_o_now_crowd_facts, .inl (cy 0, 140, .inl o_now_crowd_facts)), (q_o_view, .inr (5, [.ref q_o_view_seen, x_o_view_counts, .ref q_o_view_kinds, .ref q_o_view_depths, x_o_view_prices])), (q_o_view_seen, .inl (cy 0, 384, .inl o_view_seen)), (q_o_view_kinds, .inl (cy 0, 4, .inl o_view_kinds)), (q_o_view_depths, .inl (cy 0, 4, .inl o_view_depths))] → va_S A s.heap H locs → lv_has ls 5 [(0, .ref q_o), (1, .long l1), (3, .int l3)] → X6_checksum_L135 o_now_box_width o_now_box_height o_now_box_planes o_now_box_holes o_now_box_reach o_now_box_cells o_now_box_pulls o_now_box_holeX o_now_box_holeY o_now_crowd_viewers o_now_crowd_lookLength o_now_crowd_time o_now_crowd_lookers o_now_crowd_facts o_view_seen o_view_kinds o_view_depths n135 l1 l3 = some res → W p l e ({ frames := 3, cells := 0, slots := 0, locals := 70 } : Room) s m args below meth c H locs 0 0 QQ (F0 m 135 ls []) := by
    intro n135
    induction n135 with
    | zero =>
      intro l1 l3 H locs ls hP hD hS hl hF
      rw [X6_checksum_L135] at hF
      cases hF
    | succ n135 ih135 =>
      have J152 : ∀ (n152 : Nat) (l1 : Int64) (l3 : Int32) (l4 : Int32) (H : Heap) (locs : List Loc) (ls : Array Slot), va_P D vwCl [(q_o, .inr (6, [x_o_setup, .ref q_o_now, x_o_trial, .ref q_o_view, x_o_trialView, x_o_past, x_o_nextPast, x_o_undoable])), (q_o_now, .inr (4, [.ref q_o_now_box, .ref q_o_now_crowd])), (q_o_now_box, .inr (0, [.int o_now_box_width, .int o_now_box_height, .int o_now_box_planes, .int o_now_box_holes, .int o_now_box_reach, .ref q_o_now_box_cells, .ref q_o_now_box_pulls, .ref q_o_now_box_holeX, .ref q_o_now_box_holeY, x_o_now_box_price])), (q_o_now_box_cells, .inl (cy 0, 480, .inl o_now_box_cells)), (q_o_now_box_pulls, .inl (cy 0, 5, .inl o_now_box_pulls)), (q_o_now_box_holeX, .inl (cy 0, 4, .inl o_now_box_holeX)), (q_o_now_box_holeY, .inl (cy 0, 4, .inl o_now_box_holeY)), (q_o_now_crowd, .inr (1, [.int o_now_crowd_viewers, .int o_now_crowd_lookLength, .int o_now_crowd_time, .ref q_o_now_crowd_lookers, .ref q_o_now_crowd_facts])), (q_o_now_crowd_lookers, .inl (cy 0, 4, .inl o_now_crowd_lookers)), (q_o_now_crowd_facts, .inl (cy 0, 140, .inl o_now_crowd_facts)), (q_o_view, .inr (5, [.ref q_o_view_seen, x_o_view_counts, .ref q_o_view_kinds, .ref q_o_view_depths, x_o_view_prices])), (q_o_view_seen, .inl (cy 0, 384, .inl o_view_seen)), (q_o_view_kinds, .inl (cy 0, 4, .inl o_view_kinds)), (q_o_view_depths, .inl (cy 0, 4, .inl o_view_depths))] H → va_D A [(q_o, .inr (6, [x_o_setup, .ref q_o_now, x_o_trial, .ref q_o_view, x_o_trialView, x_o_past, x_o_nextPast, x_o_undoable])), (q_o_now, .inr (4, [.ref q_o_now_box, .ref q_o_now_crowd])), (q_o_now_box, .inr (0, [.int o_now_box_width, .int o_now_box_height, .int o_now_box_planes, .int o_now_box_holes, .int o_now_box_reach, .ref q_o_now_box_cells, .ref q_o_now_box_pulls, .ref q_o_now_box_holeX, .ref q_o_now_box_holeY, x_o_now_box_price])), (q_o_now_box_cells, .inl (cy 0, 480, .inl o_now_box_cells)), (q_o_now_box_pulls, .inl (cy 0, 5, .inl o_now_box_pulls)), (q_o_now_box_holeX, .inl (cy 0, 4, .inl o_now_box_holeX)), (q_o_now_box_holeY, .inl (cy 0, 4, .inl o_now_box_holeY)), (q_o_now_crowd, .inr (1, [.int o_now_crowd_viewers, .int o_now_crowd_lookLength, .int o_now_crowd_time, .ref q_o_now_crowd_lookers, .ref q_o_now_crowd_facts])), (q_o_now_crowd_lookers, .inl (cy 0, 4, .inl o_now_crowd_lookers)), (q_o_now_crowd_facts, .inl (cy 0, 140, .inl o_now_crowd_facts)), (q_o_view, .inr (5, [.ref q_o_view_seen, x_o_view_counts, .ref q_o_view_kinds, .ref q_o_view_depths, x_o_view_prices])), (q_o_view_seen, .inl (cy 0, 384, .inl o_view_seen)), (q_o_view_kinds, .inl (cy 0, 4, .inl o_view_kinds)), (q_o_view_depths, .inl (cy 0, 4, .inl o_view_depths))] → va_S A s.heap H locs → lv_has ls 5 [(0, .ref q_o), (1, .long l1), (3, .int l3), (4, .int l4)] → X6_checksum_L152 o_now_box_width o_now_box_height o_now_box_planes o_now_box_holes o_now_box_reach o_now_box_cells o_now_box_pulls o_now_box_holeX o_now_box_holeY o_now_crowd_viewers o_now_crowd_lookLength o_now_crowd_time o_now_crowd_lookers o_now_crowd_facts o_view_seen o_view_kinds o_view_depths (fun z0 z1 => X6_checksum_L135 o_now_box_width o_now_box_height o_now_box_planes o_now_box_holes o_now_box_reach o_now_box_cells o_now_box_pulls o_now_box_holeX o_now_box_holeY o_now_crowd_viewers o_now_crowd_lookLength o_now_crowd_time o_now_crowd_lookers o_now_crowd_facts o_view_seen o_view_kinds o_view_depths n135 z0 z1) n152 l1 l3 l4 = some res → W p l e ({ frames := 3, cells := 0, slots := 0, locals := 70 } : Room) s m args below meth c H locs 0 0 QQ (F0 m 152 ls []) := by
        intro n152
        induction n152 with
        | zero =>
          intro l1 l3 l4 H locs ls hP hD hS hl hF
          rw [X6_checksum_L152] at hF
          cases hF
        | succ n152 ih152 =>
          intro l1 l3 l4 H locs ls hP hD hS hl hF
          rw [X6_checksum_L152] at hF
          refine lv_iload hx hb dX6_checksum_152 (lv_at hl 3 rfl) ?_
          refine lv_bipush (v := 7) hx hb dX6_checksum_154 (by decide) ?_
          refine lv_icmp_ge (tgt := 180) hx hb dX6_checksum_156 (by decide) (fun c1 => ?_) (fun c1 => ?_)
          · have hF := if_p hF c1
            obtain ⟨v2, ev2⟩ : ∃ y : Int32, y = l3 + (1 : Int32) := ⟨_, rfl⟩
            have hF := nm_o hF v2 ev2
            refine lv_iinc (v := v2) (lv' := [(3, .int v2), (0, .ref q_o), (1, .long l1), (4, .int l4)]) hx hb dX6_checksum_180 hl (k := 2) rfl (by rw [ev2]; rfl) (by decide) rfl (fun ls hl => ?_)
            refine lv_goto (tgt := 135) hx hb dX6_checksum_183 (by decide) ?_
            exact ih135 l1 v2 H locs ls hP hD hS (lv_sub hl [1, 2, 0] rfl) hF
          · have hF := if_n hF c1
            refine lv_ldc2 (v := 31) hx hb hown f_c249 dX6_checksum_159 ?_
            refine lv_lload_n hx hb dX6_checksum_162 rfl (lv_at hl 1 rfl) ?_
            refine lv_lmul hx hb dX6_checksum_163 ?_
            refine lv_aload_n hx hb dX6_checksum_164 rfl (lv_at hl 0 rfl) ?_
            refine lv_iload_n hx hb dX6_checksum_165 rfl (lv_at hl 2 rfl) ?_
            refine lv_iload hx hb dX6_checksum_166 (lv_at hl 3 rfl) ?_
            obtain ⟨r3, h4, hF⟩ := bt1_o hF
            refine kd_i [(q_o, .inr (6, [x_o_setup, .ref q_o_now, x_o_trial, .ref q_o_view, x_o_trialView, x_o_past, x_o_nextPast, x_o_undoable])), (q_o_now, .inr (4, [.ref q_o_now_box, .ref q_o_now_crowd])), (q_o_now_box, .inr (0, [.int o_now_box_width, .int o_now_box_height, .int o_now_box_planes, .int o_now_box_holes, .int o_now_box_reach, .ref q_o_now_box_cells, .ref q_o_now_box_pulls, .ref q_o_now_box_holeX, .ref q_o_now_box_holeY, x_o_now_box_price])), (q_o_now_box_cells, .inl (cy 0, 480, .inl o_now_box_cells)), (q_o_now_box_pulls, .inl (cy 0, 5, .inl o_now_box_pulls)), (q_o_now_box_holeX, .inl (cy 0, 4, .inl o_now_box_holeX)), (q_o_now_box_holeY, .inl (cy 0, 4, .inl o_now_box_holeY)), (q_o_now_crowd, .inr (1, [.int o_now_crowd_viewers, .int o_now_crowd_lookLength, .int o_now_crowd_time, .ref q_o_now_crowd_lookers, .ref q_o_now_crowd_facts])), (q_o_now_crowd_lookers, .inl (cy 0, 4, .inl o_now_crowd_lookers)), (q_o_now_crowd_facts, .inl (cy 0, 140, .inl o_now_crowd_facts)), (q_o_view, .inr (5, [.ref q_o_view_seen, x_o_view_counts, .ref q_o_view_kinds, .ref q_o_view_depths, x_o_view_prices])), (q_o_view_seen, .inl (cy 0, 384, .inl o_view_seen)), (q_o_view_kinds, .inl (cy 0, 4, .inl o_view_kinds)), (q_o_view_depths, .inl (cy 0, 4, .inl o_view_depths))] (va_runV (As := [.int l3, .int l4]) (rest := [.long ((31 : Int64) * l1)]) ⟨hx, hb, hml, hown, hts⟩ (c_X6_viewer q_o q_o_now q_o_now_crowd q_o_now_crowd_facts H.size x_o_setup x_o_trial (.ref q_o_view) x_o_trialView x_o_past x_o_nextPast x_o_undoable (.ref q_o_now_box) (.int o_now_crowd_lookLength) (.int o_now_crowd_time) (.ref q_o_now_crowd_lookers) o_now_crowd_viewers o_now_crowd_facts l3 l4 _ h4) (cwV 2 hts gX6_checksum_X6_viewer rfl rfl rfl kd_X6_viewer ⟨Nat.le_of_ble_eq_true rfl, Nat.le_of_ble_eq_true rfl⟩) ⟨kP_blind (EN_ok D cy) D _ _ _, va_recv hK hP (ci := 6) (q0 := 0) rfl rfl, kStart (EN_ok D cy) hE hP hD hS hA [0, 1, 7, 9] rfl rfl _⟩ rfl rfl hl.1 rfl (lv_room (Nat.le_of_ble_eq_true rfl)) dX6_checksum_168 ⟨Nat.zero_le _, Nat.zero_le _⟩) hP hD hS hA [0, 1, 7, 9] [2, 3, 4, 5, 6, 8, 10, 11, 12, 13] rfl rfl rfl 14 rfl (by decide +kernel) (fun H locs hP hD hS => ?_)
            refine lv_i2l hx hb dX6_checksum_171 rfl ?_
            refine lv_ladd hx hb dX6_checksum_172 ?_
            refine lv_topl (fun v5 ev5 => ?_)
            have hF := nm_o hF v5 ev5
            refine lv_lstore_n (lv' := [(1, .long v5), (0, .ref q_o), (3, .int l3), (4, .int l4)]) hx hb dX6_checksum_173 rfl hl (by decide) rfl (fun ls hl => ?_)
            obtain ⟨v6, ev6⟩ : ∃ y : Int32, y = l4 + (1 : Int32) := ⟨_, rfl⟩
            have hF := nm_o hF v6 ev6
            refine lv_iinc (v := v6) (lv' := [(4, .int v6), (1, .long v5), (0, .ref q_o), (3, .int l3)]) hx hb dX6_checksum_174 hl (k := 3) rfl (by rw [ev6]; rfl) (by decide) rfl (fun ls hl => ?_)
            refine lv_goto (tgt := 152) hx hb dX6_checksum_177 (by decide) ?_
            exact ih152 v5 l3 v6 H locs ls hP hD hS (lv_sub hl [2, 1, 3, 0] rfl) hF
      intro l1 l3 H locs ls hP hD hS hl hF
      rw [X6_checksum_L135] at hF
      refine lv_iload_n hx hb dX6_checksum_135 rfl (lv_at hl 2 rfl) ?_
      refine lv_aload_n hx hb dX6_checksum_136 rfl (lv_at hl 0 rfl) ?_
      refine va_get (D := D) (ci := 6) (v := .ref q_o_now) (C := RX6) (T := TX6) (N := 8) hx hb hts f_inX6 hown hK hP 0 rfl rfl 1 (by decide) f_f19 (fun _ h9 => h9) rfl dX6_checksum_137 ?_
      refine va_get (D := D) (ci := 4) (v := .ref q_o_now_crowd) (C := RX4) (T := TX4) (N := 2) hx hb hts f_inX4 hown hK hP 1 rfl rfl 1 (by decide) f_f99 (fun _ h9 => h9) rfl dX6_checksum_140 ?_
      refine va_get (D := D) (ci := 1) (v := .int o_now_crowd_viewers) (C := RX1) (T := TX1) (N := 5) hx hb hts f_inX1 hown hK hP 7 rfl rfl 0 (by decide) f_f103 (fun _ h9 => h9) rfl dX6_checksum_143 ?_
      refine lv_icmp_ge (tgt := 186) hx hb dX6_checksum_146 (by decide) (fun c7 => ?_) (fun c7 => ?_)
      · have hF := if_p hF c7
        refine lv_lload_n hx hb dX6_checksum_186 rfl (lv_at hl 1 rfl) ?_
        obtain rfl := so_o hF
        rw [hQQ]
        exact kr_l hx hb hr hlocks hP hD hS dX6_checksum_187
      · have hF := if_n hF c7
        refine lv_iconst (v := 0) hx hb dX6_checksum_149 (by decide) ?_
        refine lv_istore (lv' := [(4, .int (0 : Int32)), (0, .ref q_o), (1, .long l1), (3, .int l3)]) hx hb dX6_checksum_150 hl (by decide) rfl (fun ls hl => ?_)
        exact J152 FU l1 l3 (0 : Int32) H locs ls hP hD hS (lv_sub hl [1, 2, 3, 0] rfl) hF
  have J83 : ∀ (n83 : Nat) (l1 : Int64) (l3 : Int32) (H : Heap) (locs : List Loc) (ls : Array Slot), va_P D vwCl [(q_o, .inr (6, [x_o_setup, .ref q_o_now, x_o_trial, .ref q_o_view, x_o_trialView, x_o_past, x_o_nextPast, x_o_undoable])), (q_o_now, .inr (4, [.ref q_o_now_box, .ref q_o_now_crowd])), (q_o_now_box, .inr (0, [.int o_now_box_width, .int o_now_box_height, .int o_now_box_planes, .int o_now_box_holes, .int o_now_box_reach, .ref q_o_now_box_cells, .ref q_o_now_box_pulls, .ref q_o_now_box_holeX, .ref q_o_now_box_holeY, x_o_now_box_price])), (q_o_now_box_cells, .inl (cy 0, 480, .inl o_now_box_cells)), (q_o_now_box_pulls, .inl (cy 0, 5, .inl o_now_box_pulls)), (q_o_now_box_holeX, .inl (cy 0, 4, .inl o_now_box_holeX)), (q_o_now_box_holeY, .inl (cy 0, 4, .inl o_now_box_holeY)), (q_o_now_crowd, .inr (1, [.int o_now_crowd_viewers, .int o_now_crowd_lookLength, .int o_now_crowd_time, .ref q_o_now_crowd_lookers, .ref q_o_now_crowd_facts])), (q_o_now_crowd_lookers, .inl (cy 0, 4, .inl o_now_crowd_lookers)), (q_o_now_crowd_facts, .inl (cy 0, 140, .inl o_now_crowd_facts)), (q_o_view, .inr (5, [.ref q_o_view_seen, x_o_view_counts, .ref q_o_view_kinds, .ref q_o_view_depths, x_o_view_prices])), (q_o_view_seen, .inl (cy 0, 384, .inl o_view_seen)), (q_o_view_kinds, .inl (cy 0, 4, .inl o_view_kinds)), (q_o_view_depths, .inl (cy 0, 4, .inl o_view_depths))] H → va_D A [(q_o, .inr (6, [x_o_setup, .ref q_o_now, x_o_trial, .ref q_o_view, x_o_trialView, x_o_past, x_o_nextPast, x_o_undoable])), (q_o_now, .inr (4, [.ref q_o_now_box, .ref q_o_now_crowd])), (q_o_now_box, .inr (0, [.int o_now_box_width, .int o_now_box_height, .int o_now_box_planes, .int o_now_box_holes, .int o_now_box_reach, .ref q_o_now_box_cells, .ref q_o_now_box_pulls, .ref q_o_now_box_holeX, .ref q_o_now_box_holeY, x_o_now_box_price])), (q_o_now_box_cells, .inl (cy 0, 480, .inl o_now_box_cells)), (q_o_now_box_pulls, .inl (cy 0, 5, .inl o_now_box_pulls)), (q_o_now_box_holeX, .inl (cy 0, 4, .inl o_now_box_holeX)), (q_o_now_box_holeY, .inl (cy 0, 4, .inl o_now_box_holeY)), (q_o_now_crowd, .inr (1, [.int o_now_crowd_viewers, .int o_now_crowd_lookLength, .int o_now_crowd_time, .ref q_o_now_crowd_lookers, .ref q_o_now_crowd_facts])), (q_o_now_crowd_lookers, .inl (cy 0, 4, .inl o_now_crowd_lookers)), (q_o_now_crowd_facts, .inl (cy 0, 140, .inl o_now_crowd_facts)), (q_o_view, .inr (5, [.ref q_o_view_seen, x_o_view_counts, .ref q_o_view_kinds, .ref q_o_view_depths, x_o_view_prices])), (q_o_view_seen, .inl (cy 0, 384, .inl o_view_seen)), (q_o_view_kinds, .inl (cy 0, 4, .inl o_view_kinds)), (q_o_view_depths, .inl (cy 0, 4, .inl o_view_depths))] → va_S A s.heap H locs → lv_has ls 5 [(0, .ref q_o), (1, .long l1), (3, .int l3)] → X6_checksum_L83 o_now_box_width o_now_box_height o_now_box_planes o_now_box_holes o_now_box_reach o_now_box_cells o_now_box_pulls o_now_box_holeX o_now_box_holeY o_now_crowd_viewers o_now_crowd_lookLength o_now_crowd_time o_now_crowd_lookers o_now_crowd_facts o_view_seen o_view_kinds o_view_depths n83 l1 l3 = some res → W p l e ({ frames := 3, cells := 0, slots := 0, locals := 70 } : Room) s m args below meth c H locs 0 0 QQ (F0 m 83 ls []) := by
    intro n83
    induction n83 with
    | zero =>
      intro l1 l3 H locs ls hP hD hS hl hF
      rw [X6_checksum_L83] at hF
      cases hF
    | succ n83 ih83 =>
      have J100 : ∀ (n100 : Nat) (l1 : Int64) (l3 : Int32) (l4 : Int32) (H : Heap) (locs : List Loc) (ls : Array Slot), va_P D vwCl [(q_o, .inr (6, [x_o_setup, .ref q_o_now, x_o_trial, .ref q_o_view, x_o_trialView, x_o_past, x_o_nextPast, x_o_undoable])), (q_o_now, .inr (4, [.ref q_o_now_box, .ref q_o_now_crowd])), (q_o_now_box, .inr (0, [.int o_now_box_width, .int o_now_box_height, .int o_now_box_planes, .int o_now_box_holes, .int o_now_box_reach, .ref q_o_now_box_cells, .ref q_o_now_box_pulls, .ref q_o_now_box_holeX, .ref q_o_now_box_holeY, x_o_now_box_price])), (q_o_now_box_cells, .inl (cy 0, 480, .inl o_now_box_cells)), (q_o_now_box_pulls, .inl (cy 0, 5, .inl o_now_box_pulls)), (q_o_now_box_holeX, .inl (cy 0, 4, .inl o_now_box_holeX)), (q_o_now_box_holeY, .inl (cy 0, 4, .inl o_now_box_holeY)), (q_o_now_crowd, .inr (1, [.int o_now_crowd_viewers, .int o_now_crowd_lookLength, .int o_now_crowd_time, .ref q_o_now_crowd_lookers, .ref q_o_now_crowd_facts])), (q_o_now_crowd_lookers, .inl (cy 0, 4, .inl o_now_crowd_lookers)), (q_o_now_crowd_facts, .inl (cy 0, 140, .inl o_now_crowd_facts)), (q_o_view, .inr (5, [.ref q_o_view_seen, x_o_view_counts, .ref q_o_view_kinds, .ref q_o_view_depths, x_o_view_prices])), (q_o_view_seen, .inl (cy 0, 384, .inl o_view_seen)), (q_o_view_kinds, .inl (cy 0, 4, .inl o_view_kinds)), (q_o_view_depths, .inl (cy 0, 4, .inl o_view_depths))] H → va_D A [(q_o, .inr (6, [x_o_setup, .ref q_o_now, x_o_trial, .ref q_o_view, x_o_trialView, x_o_past, x_o_nextPast, x_o_undoable])), (q_o_now, .inr (4, [.ref q_o_now_box, .ref q_o_now_crowd])), (q_o_now_box, .inr (0, [.int o_now_box_width, .int o_now_box_height, .int o_now_box_planes, .int o_now_box_holes, .int o_now_box_reach, .ref q_o_now_box_cells, .ref q_o_now_box_pulls, .ref q_o_now_box_holeX, .ref q_o_now_box_holeY, x_o_now_box_price])), (q_o_now_box_cells, .inl (cy 0, 480, .inl o_now_box_cells)), (q_o_now_box_pulls, .inl (cy 0, 5, .inl o_now_box_pulls)), (q_o_now_box_holeX, .inl (cy 0, 4, .inl o_now_box_holeX)), (q_o_now_box_holeY, .inl (cy 0, 4, .inl o_now_box_holeY)), (q_o_now_crowd, .inr (1, [.int o_now_crowd_viewers, .int o_now_crowd_lookLength, .int o_now_crowd_time, .ref q_o_now_crowd_lookers, .ref q_o_now_crowd_facts])), (q_o_now_crowd_lookers, .inl (cy 0, 4, .inl o_now_crowd_lookers)), (q_o_now_crowd_facts, .inl (cy 0, 140, .inl o_now_crowd_facts)), (q_o_view, .inr (5, [.ref q_o_view_seen, x_o_view_counts, .ref q_o_view_kinds, .ref q_o_view_depths, x_o_view_prices])), (q_o_view_seen, .inl (cy 0, 384, .inl o_view_seen)), (q_o_view_kinds, .inl (cy 0, 4, .inl o_view_kinds)), (q_o_view_depths, .inl (cy 0, 4, .inl o_view_depths))] → va_S A s.heap H locs → lv_has ls 5 [(0, .ref q_o), (1, .long l1), (3, .int l3), (4, .int l4)] → X6_checksum_L100 o_now_box_width o_now_box_height o_now_box_planes o_now_box_holes o_now_box_reach o_now_box_cells o_now_box_pulls o_now_box_holeX o_now_box_holeY o_now_crowd_viewers o_now_crowd_lookLength o_now_crowd_time o_now_crowd_lookers o_now_crowd_facts o_view_seen o_view_kinds o_view_depths (fun z0 z1 => X6_checksum_L83 o_now_box_width o_now_box_height o_now_box_planes o_now_box_holes o_now_box_reach o_now_box_cells o_now_box_pulls o_now_box_holeX o_now_box_holeY o_now_crowd_viewers o_now_crowd_lookLength o_now_crowd_time o_now_crowd_lookers o_now_crowd_facts o_view_seen o_view_kinds o_view_depths n83 z0 z1) n100 l1 l3 l4 = some res → W p l e ({ frames := 3, cells := 0, slots := 0, locals := 70 } : Room) s m args below meth c H locs 0 0 QQ (F0 m 100 ls []) := by
        intro n100
        induction n100 with
        | zero =>
          intro l1 l3 l4 H locs ls hP hD hS hl hF
          rw [X6_checksum_L100] at hF
          cases hF
        | succ n100 ih100 =>
          intro l1 l3 l4 H locs ls hP hD hS hl hF
          rw [X6_checksum_L100] at hF
          refine lv_iload hx hb dX6_checksum_100 (lv_at hl 3 rfl) ?_
          refine lv_iconst (v := 5) hx hb dX6_checksum_102 (by decide) ?_
          refine lv_icmp_ge (tgt := 127) hx hb dX6_checksum_103 (by decide) (fun c8 => ?_) (fun c8 => ?_)
          · have hF := if_p hF c8
            obtain ⟨v9, ev9⟩ : ∃ y : Int32, y = l3 + (1 : Int32) := ⟨_, rfl⟩
            have hF := nm_o hF v9 ev9
            refine lv_iinc (v := v9) (lv' := [(3, .int v9), (0, .ref q_o), (1, .long l1), (4, .int l4)]) hx hb dX6_checksum_127 hl (k := 2) rfl (by rw [ev9]; rfl) (by decide) rfl (fun ls hl => ?_)
            refine lv_goto (tgt := 83) hx hb dX6_checksum_130 (by decide) ?_
            exact ih83 l1 v9 H locs ls hP hD hS (lv_sub hl [1, 2, 0] rfl) hF
          · have hF := if_n hF c8
            refine lv_ldc2 (v := 31) hx hb hown f_c249 dX6_checksum_106 ?_
            refine lv_lload_n hx hb dX6_checksum_109 rfl (lv_at hl 1 rfl) ?_
            refine lv_lmul hx hb dX6_checksum_110 ?_
            refine lv_aload_n hx hb dX6_checksum_111 rfl (lv_at hl 0 rfl) ?_
            refine lv_iload_n hx hb dX6_checksum_112 rfl (lv_at hl 2 rfl) ?_
            refine lv_iload hx hb dX6_checksum_113 (lv_at hl 3 rfl) ?_
            obtain ⟨r10, h11, hF⟩ := bt1_o hF
            refine kd_i [(q_o, .inr (6, [x_o_setup, .ref q_o_now, x_o_trial, .ref q_o_view, x_o_trialView, x_o_past, x_o_nextPast, x_o_undoable])), (q_o_now, .inr (4, [.ref q_o_now_box, .ref q_o_now_crowd])), (q_o_now_box, .inr (0, [.int o_now_box_width, .int o_now_box_height, .int o_now_box_planes, .int o_now_box_holes, .int o_now_box_reach, .ref q_o_now_box_cells, .ref q_o_now_box_pulls, .ref q_o_now_box_holeX, .ref q_o_now_box_holeY, x_o_now_box_price])), (q_o_now_box_cells, .inl (cy 0, 480, .inl o_now_box_cells)), (q_o_now_box_pulls, .inl (cy 0, 5, .inl o_now_box_pulls)), (q_o_now_box_holeX, .inl (cy 0, 4, .inl o_now_box_holeX)), (q_o_now_box_holeY, .inl (cy 0, 4, .inl o_now_box_holeY)), (q_o_now_crowd, .inr (1, [.int o_now_crowd_viewers, .int o_now_crowd_lookLength, .int o_now_crowd_time, .ref q_o_now_crowd_lookers, .ref q_o_now_crowd_facts])), (q_o_now_crowd_lookers, .inl (cy 0, 4, .inl o_now_crowd_lookers)), (q_o_now_crowd_facts, .inl (cy 0, 140, .inl o_now_crowd_facts)), (q_o_view, .inr (5, [.ref q_o_view_seen, x_o_view_counts, .ref q_o_view_kinds, .ref q_o_view_depths, x_o_view_prices])), (q_o_view_seen, .inl (cy 0, 384, .inl o_view_seen)), (q_o_view_kinds, .inl (cy 0, 4, .inl o_view_kinds)), (q_o_view_depths, .inl (cy 0, 4, .inl o_view_depths))] (va_runV (As := [.int l3, .int l4]) (rest := [.long ((31 : Int64) * l1)]) ⟨hx, hb, hml, hown, hts⟩ (c_X6_hole q_o q_o_now q_o_now_box q_o_now_box_holeX q_o_now_box_holeY q_o_now_crowd q_o_now_crowd_lookers q_o_view q_o_view_kinds q_o_view_depths H.size x_o_setup x_o_trial x_o_trialView x_o_past x_o_nextPast x_o_undoable (.int o_now_box_width) (.int o_now_box_height) (.int o_now_box_planes) (.int o_now_box_reach) (.ref q_o_now_box_cells) (.ref q_o_now_box_pulls) x_o_now_box_price (.int o_now_crowd_viewers) (.int o_now_crowd_lookLength) (.int o_now_crowd_time) (.ref q_o_now_crowd_facts) (.ref q_o_view_seen) x_o_view_counts x_o_view_prices o_now_box_holes o_now_box_holeX o_now_box_holeY o_now_crowd_lookers o_view_kinds o_view_depths l3 l4 _ h11) (cwV 2 hts gX6_checksum_X6_hole rfl rfl rfl kd_X6_hole ⟨Nat.le_of_ble_eq_true rfl, Nat.le_of_ble_eq_true rfl⟩) ⟨kP_blind (EN_ok D cy) D _ _ _, va_recv hK hP (ci := 6) (q0 := 0) rfl rfl, kStart (EN_ok D cy) hE hP hD hS hA [0, 1, 2, 5, 6, 7, 8, 10, 12, 13] rfl rfl _⟩ rfl rfl hl.1 rfl (lv_room (Nat.le_of_ble_eq_true rfl)) dX6_checksum_115 ⟨Nat.zero_le _, Nat.zero_le _⟩) hP hD hS hA [0, 1, 2, 5, 6, 7, 8, 10, 12, 13] [3, 4, 9, 11] rfl rfl rfl 14 rfl (by decide +kernel) (fun H locs hP hD hS => ?_)
            refine lv_i2l hx hb dX6_checksum_118 rfl ?_
            refine lv_ladd hx hb dX6_checksum_119 ?_
            refine lv_topl (fun v12 ev12 => ?_)
            have hF := nm_o hF v12 ev12
            refine lv_lstore_n (lv' := [(1, .long v12), (0, .ref q_o), (3, .int l3), (4, .int l4)]) hx hb dX6_checksum_120 rfl hl (by decide) rfl (fun ls hl => ?_)
            obtain ⟨v13, ev13⟩ : ∃ y : Int32, y = l4 + (1 : Int32) := ⟨_, rfl⟩
            have hF := nm_o hF v13 ev13
            refine lv_iinc (v := v13) (lv' := [(4, .int v13), (1, .long v12), (0, .ref q_o), (3, .int l3)]) hx hb dX6_checksum_121 hl (k := 3) rfl (by rw [ev13]; rfl) (by decide) rfl (fun ls hl => ?_)
            refine lv_goto (tgt := 100) hx hb dX6_checksum_124 (by decide) ?_
            exact ih100 v12 l3 v13 H locs ls hP hD hS (lv_sub hl [2, 1, 3, 0] rfl) hF
      intro l1 l3 H locs ls hP hD hS hl hF
      rw [X6_checksum_L83] at hF
      refine lv_iload_n hx hb dX6_checksum_83 rfl (lv_at hl 2 rfl) ?_
      refine lv_aload_n hx hb dX6_checksum_84 rfl (lv_at hl 0 rfl) ?_
      refine va_get (D := D) (ci := 6) (v := .ref q_o_now) (C := RX6) (T := TX6) (N := 8) hx hb hts f_inX6 hown hK hP 0 rfl rfl 1 (by decide) f_f19 (fun _ h9 => h9) rfl dX6_checksum_85 ?_
      refine va_get (D := D) (ci := 4) (v := .ref q_o_now_box) (C := RX4) (T := TX4) (N := 2) hx hb hts f_inX4 hown hK hP 1 rfl rfl 0 (by decide) f_f51 (fun _ h9 => h9) rfl dX6_checksum_88 ?_
      refine va_get (D := D) (ci := 0) (v := .int o_now_box_holes) (C := RX0) (T := TX0) (N := 10) hx hb hts f_inX0 hown hK hP 2 rfl rfl 3 (by decide) f_f120 (fun _ h9 => h9) rfl dX6_checksum_91 ?_
      refine lv_icmp_ge (tgt := 133) hx hb dX6_checksum_94 (by decide) (fun c14 => ?_) (fun c14 => ?_)
      · have hF := if_p hF c14
        refine lv_iconst (v := 0) hx hb dX6_checksum_133 (by decide) ?_
        refine lv_istore_n (lv' := [(3, .int (0 : Int32)), (0, .ref q_o), (1, .long l1)]) hx hb dX6_checksum_134 rfl hl (by decide) rfl (fun ls hl => ?_)
        exact J135 FU l1 (0 : Int32) H locs ls hP hD hS (lv_sub hl [1, 2, 0] rfl) hF
      · have hF := if_n hF c14
        refine lv_iconst (v := 0) hx hb dX6_checksum_97 (by decide) ?_
        refine lv_istore (lv' := [(4, .int (0 : Int32)), (0, .ref q_o), (1, .long l1), (3, .int l3)]) hx hb dX6_checksum_98 hl (by decide) rfl (fun ls hl => ?_)
        exact J100 FU l1 l3 (0 : Int32) H locs ls hP hD hS (lv_sub hl [1, 2, 3, 0] rfl) hF
  have J31 : ∀ (n31 : Nat) (l1 : Int64) (l3 : Int32) (H : Heap) (locs : List Loc) (ls : Array Slot), va_P D vwCl [(q_o, .inr (6, [x_o_setup, .ref q_o_now, x_o_trial, .ref q_o_view, x_o_trialView, x_o_past, x_o_nextPast, x_o_undoable])), (q_o_now, .inr (4, [.ref q_o_now_box, .ref q_o_now_crowd])), (q_o_now_box, .inr (0, [.int o_now_box_width, .int o_now_box_height, .int o_now_box_planes, .int o_now_box_holes, .int o_now_box_reach, .ref q_o_now_box_cells, .ref q_o_now_box_pulls, .ref q_o_now_box_holeX, .ref q_o_now_box_holeY, x_o_now_box_price])), (q_o_now_box_cells, .inl (cy 0, 480, .inl o_now_box_cells)), (q_o_now_box_pulls, .inl (cy 0, 5, .inl o_now_box_pulls)), (q_o_now_box_holeX, .inl (cy 0, 4, .inl o_now_box_holeX)), (q_o_now_box_holeY, .inl (cy 0, 4, .inl o_now_box_holeY)), (q_o_now_crowd, .inr (1, [.int o_now_crowd_viewers, .int o_now_crowd_lookLength, .int o_now_crowd_time, .ref q_o_now_crowd_lookers, .ref q_o_now_crowd_facts])), (q_o_now_crowd_lookers, .inl (cy 0, 4, .inl o_now_crowd_lookers)), (q_o_now_crowd_facts, .inl (cy 0, 140, .inl o_now_crowd_facts)), (q_o_view, .inr (5, [.ref q_o_view_seen, x_o_view_counts, .ref q_o_view_kinds, .ref q_o_view_depths, x_o_view_prices])), (q_o_view_seen, .inl (cy 0, 384, .inl o_view_seen)), (q_o_view_kinds, .inl (cy 0, 4, .inl o_view_kinds)), (q_o_view_depths, .inl (cy 0, 4, .inl o_view_depths))] H → va_D A [(q_o, .inr (6, [x_o_setup, .ref q_o_now, x_o_trial, .ref q_o_view, x_o_trialView, x_o_past, x_o_nextPast, x_o_undoable])), (q_o_now, .inr (4, [.ref q_o_now_box, .ref q_o_now_crowd])), (q_o_now_box, .inr (0, [.int o_now_box_width, .int o_now_box_height, .int o_now_box_planes, .int o_now_box_holes, .int o_now_box_reach, .ref q_o_now_box_cells, .ref q_o_now_box_pulls, .ref q_o_now_box_holeX, .ref q_o_now_box_holeY, x_o_now_box_price])), (q_o_now_box_cells, .inl (cy 0, 480, .inl o_now_box_cells)), (q_o_now_box_pulls, .inl (cy 0, 5, .inl o_now_box_pulls)), (q_o_now_box_holeX, .inl (cy 0, 4, .inl o_now_box_holeX)), (q_o_now_box_holeY, .inl (cy 0, 4, .inl o_now_box_holeY)), (q_o_now_crowd, .inr (1, [.int o_now_crowd_viewers, .int o_now_crowd_lookLength, .int o_now_crowd_time, .ref q_o_now_crowd_lookers, .ref q_o_now_crowd_facts])), (q_o_now_crowd_lookers, .inl (cy 0, 4, .inl o_now_crowd_lookers)), (q_o_now_crowd_facts, .inl (cy 0, 140, .inl o_now_crowd_facts)), (q_o_view, .inr (5, [.ref q_o_view_seen, x_o_view_counts, .ref q_o_view_kinds, .ref q_o_view_depths, x_o_view_prices])), (q_o_view_seen, .inl (cy 0, 384, .inl o_view_seen)), (q_o_view_kinds, .inl (cy 0, 4, .inl o_view_kinds)), (q_o_view_depths, .inl (cy 0, 4, .inl o_view_depths))] → va_S A s.heap H locs → lv_has ls 5 [(0, .ref q_o), (1, .long l1), (3, .int l3)] → X6_checksum_L31 o_now_box_width o_now_box_height o_now_box_planes o_now_box_holes o_now_box_reach o_now_box_cells o_now_box_pulls o_now_box_holeX o_now_box_holeY o_now_crowd_viewers o_now_crowd_lookLength o_now_crowd_time o_now_crowd_lookers o_now_crowd_facts o_view_seen o_view_kinds o_view_depths n31 l1 l3 = some res → W p l e ({ frames := 3, cells := 0, slots := 0, locals := 70 } : Room) s m args below meth c H locs 0 0 QQ (F0 m 31 ls []) := by
    intro n31
    induction n31 with
    | zero =>
      intro l1 l3 H locs ls hP hD hS hl hF
      rw [X6_checksum_L31] at hF
      cases hF
    | succ n31 ih31 =>
      have J48 : ∀ (n48 : Nat) (l1 : Int64) (l3 : Int32) (l4 : Int32) (H : Heap) (locs : List Loc) (ls : Array Slot), va_P D vwCl [(q_o, .inr (6, [x_o_setup, .ref q_o_now, x_o_trial, .ref q_o_view, x_o_trialView, x_o_past, x_o_nextPast, x_o_undoable])), (q_o_now, .inr (4, [.ref q_o_now_box, .ref q_o_now_crowd])), (q_o_now_box, .inr (0, [.int o_now_box_width, .int o_now_box_height, .int o_now_box_planes, .int o_now_box_holes, .int o_now_box_reach, .ref q_o_now_box_cells, .ref q_o_now_box_pulls, .ref q_o_now_box_holeX, .ref q_o_now_box_holeY, x_o_now_box_price])), (q_o_now_box_cells, .inl (cy 0, 480, .inl o_now_box_cells)), (q_o_now_box_pulls, .inl (cy 0, 5, .inl o_now_box_pulls)), (q_o_now_box_holeX, .inl (cy 0, 4, .inl o_now_box_holeX)), (q_o_now_box_holeY, .inl (cy 0, 4, .inl o_now_box_holeY)), (q_o_now_crowd, .inr (1, [.int o_now_crowd_viewers, .int o_now_crowd_lookLength, .int o_now_crowd_time, .ref q_o_now_crowd_lookers, .ref q_o_now_crowd_facts])), (q_o_now_crowd_lookers, .inl (cy 0, 4, .inl o_now_crowd_lookers)), (q_o_now_crowd_facts, .inl (cy 0, 140, .inl o_now_crowd_facts)), (q_o_view, .inr (5, [.ref q_o_view_seen, x_o_view_counts, .ref q_o_view_kinds, .ref q_o_view_depths, x_o_view_prices])), (q_o_view_seen, .inl (cy 0, 384, .inl o_view_seen)), (q_o_view_kinds, .inl (cy 0, 4, .inl o_view_kinds)), (q_o_view_depths, .inl (cy 0, 4, .inl o_view_depths))] H → va_D A [(q_o, .inr (6, [x_o_setup, .ref q_o_now, x_o_trial, .ref q_o_view, x_o_trialView, x_o_past, x_o_nextPast, x_o_undoable])), (q_o_now, .inr (4, [.ref q_o_now_box, .ref q_o_now_crowd])), (q_o_now_box, .inr (0, [.int o_now_box_width, .int o_now_box_height, .int o_now_box_planes, .int o_now_box_holes, .int o_now_box_reach, .ref q_o_now_box_cells, .ref q_o_now_box_pulls, .ref q_o_now_box_holeX, .ref q_o_now_box_holeY, x_o_now_box_price])), (q_o_now_box_cells, .inl (cy 0, 480, .inl o_now_box_cells)), (q_o_now_box_pulls, .inl (cy 0, 5, .inl o_now_box_pulls)), (q_o_now_box_holeX, .inl (cy 0, 4, .inl o_now_box_holeX)), (q_o_now_box_holeY, .inl (cy 0, 4, .inl o_now_box_holeY)), (q_o_now_crowd, .inr (1, [.int o_now_crowd_viewers, .int o_now_crowd_lookLength, .int o_now_crowd_time, .ref q_o_now_crowd_lookers, .ref q_o_now_crowd_facts])), (q_o_now_crowd_lookers, .inl (cy 0, 4, .inl o_now_crowd_lookers)), (q_o_now_crowd_facts, .inl (cy 0, 140, .inl o_now_crowd_facts)), (q_o_view, .inr (5, [.ref q_o_view_seen, x_o_view_counts, .ref q_o_view_kinds, .ref q_o_view_depths, x_o_view_prices])), (q_o_view_seen, .inl (cy 0, 384, .inl o_view_seen)), (q_o_view_kinds, .inl (cy 0, 4, .inl o_view_kinds)), (q_o_view_depths, .inl (cy 0, 4, .inl o_view_depths))] → va_S A s.heap H locs → lv_has ls 5 [(0, .ref q_o), (1, .long l1), (3, .int l3), (4, .int l4)] → X6_checksum_L48 o_now_box_width o_now_box_height o_now_box_planes o_now_box_holes o_now_box_reach o_now_box_cells o_now_box_pulls o_now_box_holeX o_now_box_holeY o_now_crowd_viewers o_now_crowd_lookLength o_now_crowd_time o_now_crowd_lookers o_now_crowd_facts o_view_seen o_view_kinds o_view_depths (fun z0 z1 => X6_checksum_L31 o_now_box_width o_now_box_height o_now_box_planes o_now_box_holes o_now_box_reach o_now_box_cells o_now_box_pulls o_now_box_holeX o_now_box_holeY o_now_crowd_viewers o_now_crowd_lookLength o_now_crowd_time o_now_crowd_lookers o_now_crowd_facts o_view_seen o_view_kinds o_view_depths n31 z0 z1) n48 l1 l3 l4 = some res → W p l e ({ frames := 3, cells := 0, slots := 0, locals := 70 } : Room) s m args below meth c H locs 0 0 QQ (F0 m 48 ls []) := by
        intro n48
        induction n48 with
        | zero =>
          intro l1 l3 l4 H locs ls hP hD hS hl hF
          rw [X6_checksum_L48] at hF
          cases hF
        | succ n48 ih48 =>
          intro l1 l3 l4 H locs ls hP hD hS hl hF
          rw [X6_checksum_L48] at hF
          refine lv_iload hx hb dX6_checksum_48 (lv_at hl 3 rfl) ?_
          refine lv_iconst (v := 3) hx hb dX6_checksum_50 (by decide) ?_
          refine lv_icmp_ge (tgt := 75) hx hb dX6_checksum_51 (by decide) (fun c15 => ?_) (fun c15 => ?_)
          · have hF := if_p hF c15
            obtain ⟨v16, ev16⟩ : ∃ y : Int32, y = l3 + (1 : Int32) := ⟨_, rfl⟩
            have hF := nm_o hF v16 ev16
            refine lv_iinc (v := v16) (lv' := [(3, .int v16), (0, .ref q_o), (1, .long l1), (4, .int l4)]) hx hb dX6_checksum_75 hl (k := 2) rfl (by rw [ev16]; rfl) (by decide) rfl (fun ls hl => ?_)
            refine lv_goto (tgt := 31) hx hb dX6_checksum_78 (by decide) ?_
            exact ih31 l1 v16 H locs ls hP hD hS (lv_sub hl [1, 2, 0] rfl) hF
          · have hF := if_n hF c15
            refine lv_ldc2 (v := 31) hx hb hown f_c249 dX6_checksum_54 ?_
            refine lv_lload_n hx hb dX6_checksum_57 rfl (lv_at hl 1 rfl) ?_
            refine lv_lmul hx hb dX6_checksum_58 ?_
            refine lv_aload_n hx hb dX6_checksum_59 rfl (lv_at hl 0 rfl) ?_
            refine lv_iload_n hx hb dX6_checksum_60 rfl (lv_at hl 2 rfl) ?_
            refine lv_iload hx hb dX6_checksum_61 (lv_at hl 3 rfl) ?_
            obtain ⟨r17, h18, hF⟩ := bt1_o hF
            refine kd_i [(q_o, .inr (6, [x_o_setup, .ref q_o_now, x_o_trial, .ref q_o_view, x_o_trialView, x_o_past, x_o_nextPast, x_o_undoable])), (q_o_now, .inr (4, [.ref q_o_now_box, .ref q_o_now_crowd])), (q_o_now_box, .inr (0, [.int o_now_box_width, .int o_now_box_height, .int o_now_box_planes, .int o_now_box_holes, .int o_now_box_reach, .ref q_o_now_box_cells, .ref q_o_now_box_pulls, .ref q_o_now_box_holeX, .ref q_o_now_box_holeY, x_o_now_box_price])), (q_o_now_box_cells, .inl (cy 0, 480, .inl o_now_box_cells)), (q_o_now_box_pulls, .inl (cy 0, 5, .inl o_now_box_pulls)), (q_o_now_box_holeX, .inl (cy 0, 4, .inl o_now_box_holeX)), (q_o_now_box_holeY, .inl (cy 0, 4, .inl o_now_box_holeY)), (q_o_now_crowd, .inr (1, [.int o_now_crowd_viewers, .int o_now_crowd_lookLength, .int o_now_crowd_time, .ref q_o_now_crowd_lookers, .ref q_o_now_crowd_facts])), (q_o_now_crowd_lookers, .inl (cy 0, 4, .inl o_now_crowd_lookers)), (q_o_now_crowd_facts, .inl (cy 0, 140, .inl o_now_crowd_facts)), (q_o_view, .inr (5, [.ref q_o_view_seen, x_o_view_counts, .ref q_o_view_kinds, .ref q_o_view_depths, x_o_view_prices])), (q_o_view_seen, .inl (cy 0, 384, .inl o_view_seen)), (q_o_view_kinds, .inl (cy 0, 4, .inl o_view_kinds)), (q_o_view_depths, .inl (cy 0, 4, .inl o_view_depths))] (va_runV (As := [.int l3, .int l4]) (rest := [.long ((31 : Int64) * l1)]) ⟨hx, hb, hml, hown, hts⟩ (c_X6_plane q_o q_o_now q_o_now_box q_o_now_box_cells q_o_now_box_pulls q_o_view q_o_view_seen H.size x_o_setup x_o_trial x_o_trialView x_o_past x_o_nextPast x_o_undoable (.ref q_o_now_crowd) (.int o_now_box_reach) (.ref q_o_now_box_holeX) (.ref q_o_now_box_holeY) x_o_now_box_price x_o_view_counts (.ref q_o_view_kinds) (.ref q_o_view_depths) x_o_view_prices o_now_box_width o_now_box_height o_now_box_planes o_now_box_holes o_now_box_cells o_now_box_pulls o_view_seen l3 l4 _ h18) (cwV 2 hts gX6_checksum_X6_plane rfl rfl rfl kd_X6_plane ⟨Nat.le_of_ble_eq_true rfl, Nat.le_of_ble_eq_true rfl⟩) ⟨kP_blind (EN_ok D cy) D _ _ _, va_recv hK hP (ci := 6) (q0 := 0) rfl rfl, kStart (EN_ok D cy) hE hP hD hS hA [0, 1, 2, 3, 4, 10, 11] rfl rfl _⟩ rfl rfl hl.1 rfl (lv_room (Nat.le_of_ble_eq_true rfl)) dX6_checksum_63 ⟨Nat.zero_le _, Nat.zero_le _⟩) hP hD hS hA [0, 1, 2, 3, 4, 10, 11] [5, 6, 7, 8, 9, 12, 13] rfl rfl rfl 14 rfl (by decide +kernel) (fun H locs hP hD hS => ?_)
            refine lv_i2l hx hb dX6_checksum_66 rfl ?_
            refine lv_ladd hx hb dX6_checksum_67 ?_
            refine lv_topl (fun v19 ev19 => ?_)
            have hF := nm_o hF v19 ev19
            refine lv_lstore_n (lv' := [(1, .long v19), (0, .ref q_o), (3, .int l3), (4, .int l4)]) hx hb dX6_checksum_68 rfl hl (by decide) rfl (fun ls hl => ?_)
            obtain ⟨v20, ev20⟩ : ∃ y : Int32, y = l4 + (1 : Int32) := ⟨_, rfl⟩
            have hF := nm_o hF v20 ev20
            refine lv_iinc (v := v20) (lv' := [(4, .int v20), (1, .long v19), (0, .ref q_o), (3, .int l3)]) hx hb dX6_checksum_69 hl (k := 3) rfl (by rw [ev20]; rfl) (by decide) rfl (fun ls hl => ?_)
            refine lv_goto (tgt := 48) hx hb dX6_checksum_72 (by decide) ?_
            exact ih48 v19 l3 v20 H locs ls hP hD hS (lv_sub hl [2, 1, 3, 0] rfl) hF
      intro l1 l3 H locs ls hP hD hS hl hF
      rw [X6_checksum_L31] at hF
      refine lv_iload_n hx hb dX6_checksum_31 rfl (lv_at hl 2 rfl) ?_
      refine lv_aload_n hx hb dX6_checksum_32 rfl (lv_at hl 0 rfl) ?_
      refine va_get (D := D) (ci := 6) (v := .ref q_o_now) (C := RX6) (T := TX6) (N := 8) hx hb hts f_inX6 hown hK hP 0 rfl rfl 1 (by decide) f_f19 (fun _ h9 => h9) rfl dX6_checksum_33 ?_
      refine va_get (D := D) (ci := 4) (v := .ref q_o_now_box) (C := RX4) (T := TX4) (N := 2) hx hb hts f_inX4 hown hK hP 1 rfl rfl 0 (by decide) f_f51 (fun _ h9 => h9) rfl dX6_checksum_36 ?_
      refine va_get (D := D) (ci := 0) (v := .int o_now_box_planes) (C := RX0) (T := TX0) (N := 10) hx hb hts f_inX0 hown hK hP 2 rfl rfl 2 (by decide) f_f117 (fun _ h9 => h9) rfl dX6_checksum_39 ?_
      refine lv_icmp_ge (tgt := 81) hx hb dX6_checksum_42 (by decide) (fun c21 => ?_) (fun c21 => ?_)
      · have hF := if_p hF c21
        refine lv_iconst (v := 0) hx hb dX6_checksum_81 (by decide) ?_
        refine lv_istore_n (lv' := [(3, .int (0 : Int32)), (0, .ref q_o), (1, .long l1)]) hx hb dX6_checksum_82 rfl hl (by decide) rfl (fun ls hl => ?_)
        exact J83 FU l1 (0 : Int32) H locs ls hP hD hS (lv_sub hl [1, 2, 0] rfl) hF
      · have hF := if_n hF c21
        refine lv_iconst (v := 0) hx hb dX6_checksum_45 (by decide) ?_
        refine lv_istore (lv' := [(4, .int (0 : Int32)), (0, .ref q_o), (1, .long l1), (3, .int l3)]) hx hb dX6_checksum_46 hl (by decide) rfl (fun ls hl => ?_)
        exact J48 FU l1 l3 (0 : Int32) H locs ls hP hD hS (lv_sub hl [1, 2, 3, 0] rfl) hF
  have J4 : ∀ (n4 : Nat) (l1 : Int64) (l3 : Int32) (H : Heap) (locs : List Loc) (ls : Array Slot), va_P D vwCl [(q_o, .inr (6, [x_o_setup, .ref q_o_now, x_o_trial, .ref q_o_view, x_o_trialView, x_o_past, x_o_nextPast, x_o_undoable])), (q_o_now, .inr (4, [.ref q_o_now_box, .ref q_o_now_crowd])), (q_o_now_box, .inr (0, [.int o_now_box_width, .int o_now_box_height, .int o_now_box_planes, .int o_now_box_holes, .int o_now_box_reach, .ref q_o_now_box_cells, .ref q_o_now_box_pulls, .ref q_o_now_box_holeX, .ref q_o_now_box_holeY, x_o_now_box_price])), (q_o_now_box_cells, .inl (cy 0, 480, .inl o_now_box_cells)), (q_o_now_box_pulls, .inl (cy 0, 5, .inl o_now_box_pulls)), (q_o_now_box_holeX, .inl (cy 0, 4, .inl o_now_box_holeX)), (q_o_now_box_holeY, .inl (cy 0, 4, .inl o_now_box_holeY)), (q_o_now_crowd, .inr (1, [.int o_now_crowd_viewers, .int o_now_crowd_lookLength, .int o_now_crowd_time, .ref q_o_now_crowd_lookers, .ref q_o_now_crowd_facts])), (q_o_now_crowd_lookers, .inl (cy 0, 4, .inl o_now_crowd_lookers)), (q_o_now_crowd_facts, .inl (cy 0, 140, .inl o_now_crowd_facts)), (q_o_view, .inr (5, [.ref q_o_view_seen, x_o_view_counts, .ref q_o_view_kinds, .ref q_o_view_depths, x_o_view_prices])), (q_o_view_seen, .inl (cy 0, 384, .inl o_view_seen)), (q_o_view_kinds, .inl (cy 0, 4, .inl o_view_kinds)), (q_o_view_depths, .inl (cy 0, 4, .inl o_view_depths))] H → va_D A [(q_o, .inr (6, [x_o_setup, .ref q_o_now, x_o_trial, .ref q_o_view, x_o_trialView, x_o_past, x_o_nextPast, x_o_undoable])), (q_o_now, .inr (4, [.ref q_o_now_box, .ref q_o_now_crowd])), (q_o_now_box, .inr (0, [.int o_now_box_width, .int o_now_box_height, .int o_now_box_planes, .int o_now_box_holes, .int o_now_box_reach, .ref q_o_now_box_cells, .ref q_o_now_box_pulls, .ref q_o_now_box_holeX, .ref q_o_now_box_holeY, x_o_now_box_price])), (q_o_now_box_cells, .inl (cy 0, 480, .inl o_now_box_cells)), (q_o_now_box_pulls, .inl (cy 0, 5, .inl o_now_box_pulls)), (q_o_now_box_holeX, .inl (cy 0, 4, .inl o_now_box_holeX)), (q_o_now_box_holeY, .inl (cy 0, 4, .inl o_now_box_holeY)), (q_o_now_crowd, .inr (1, [.int o_now_crowd_viewers, .int o_now_crowd_lookLength, .int o_now_crowd_time, .ref q_o_now_crowd_lookers, .ref q_o_now_crowd_facts])), (q_o_now_crowd_lookers, .inl (cy 0, 4, .inl o_now_crowd_lookers)), (q_o_now_crowd_facts, .inl (cy 0, 140, .inl o_now_crowd_facts)), (q_o_view, .inr (5, [.ref q_o_view_seen, x_o_view_counts, .ref q_o_view_kinds, .ref q_o_view_depths, x_o_view_prices])), (q_o_view_seen, .inl (cy 0, 384, .inl o_view_seen)), (q_o_view_kinds, .inl (cy 0, 4, .inl o_view_kinds)), (q_o_view_depths, .inl (cy 0, 4, .inl o_view_depths))] → va_S A s.heap H locs → lv_has ls 5 [(0, .ref q_o), (1, .long l1), (3, .int l3)] → X6_checksum_L4 o_now_box_width o_now_box_height o_now_box_planes o_now_box_holes o_now_box_reach o_now_box_cells o_now_box_pulls o_now_box_holeX o_now_box_holeY o_now_crowd_viewers o_now_crowd_lookLength o_now_crowd_time o_now_crowd_lookers o_now_crowd_facts o_view_seen o_view_kinds o_view_depths n4 l1 l3 = some res → W p l e ({ frames := 3, cells := 0, slots := 0, locals := 70 } : Room) s m args below meth c H locs 0 0 QQ (F0 m 4 ls []) := by
    intro n4
    induction n4 with
    | zero =>
      intro l1 l3 H locs ls hP hD hS hl hF
      rw [X6_checksum_L4] at hF
      cases hF
    | succ n4 ih4 =>
      intro l1 l3 H locs ls hP hD hS hl hF
      rw [X6_checksum_L4] at hF
      refine lv_iload_n hx hb dX6_checksum_4 rfl (lv_at hl 2 rfl) ?_
      refine lv_bipush (v := 14) hx hb dX6_checksum_5 (by decide) ?_
      refine lv_icmp_ge (tgt := 29) hx hb dX6_checksum_7 (by decide) (fun c22 => ?_) (fun c22 => ?_)
      · have hF := if_p hF c22
        refine lv_iconst (v := 0) hx hb dX6_checksum_29 (by decide) ?_
        refine lv_istore_n (lv' := [(3, .int (0 : Int32)), (0, .ref q_o), (1, .long l1)]) hx hb dX6_checksum_30 rfl hl (by decide) rfl (fun ls hl => ?_)
        exact J31 FU l1 (0 : Int32) H locs ls hP hD hS (lv_sub hl [1, 2, 0] rfl) hF
      · have hF := if_n hF c22
        refine lv_ldc2 (v := 31) hx hb hown f_c249 dX6_checksum_10 ?_
        refine lv_lload_n hx hb dX6_checksum_13 rfl (lv_at hl 1 rfl) ?_
        refine lv_lmul hx hb dX6_checksum_14 ?_
        refine lv_aload_n hx hb dX6_checksum_15 rfl (lv_at hl 0 rfl) ?_
        refine lv_iload_n hx hb dX6_checksum_16 rfl (lv_at hl 2 rfl) ?_
        obtain ⟨r23, h24, hF⟩ := bt1_o hF
        refine kd_i [(q_o, .inr (6, [x_o_setup, .ref q_o_now, x_o_trial, .ref q_o_view, x_o_trialView, x_o_past, x_o_nextPast, x_o_undoable])), (q_o_now, .inr (4, [.ref q_o_now_box, .ref q_o_now_crowd])), (q_o_now_box, .inr (0, [.int o_now_box_width, .int o_now_box_height, .int o_now_box_planes, .int o_now_box_holes, .int o_now_box_reach, .ref q_o_now_box_cells, .ref q_o_now_box_pulls, .ref q_o_now_box_holeX, .ref q_o_now_box_holeY, x_o_now_box_price])), (q_o_now_box_cells, .inl (cy 0, 480, .inl o_now_box_cells)), (q_o_now_box_pulls, .inl (cy 0, 5, .inl o_now_box_pulls)), (q_o_now_box_holeX, .inl (cy 0, 4, .inl o_now_box_holeX)), (q_o_now_box_holeY, .inl (cy 0, 4, .inl o_now_box_holeY)), (q_o_now_crowd, .inr (1, [.int o_now_crowd_viewers, .int o_now_crowd_lookLength, .int o_now_crowd_time, .ref q_o_now_crowd_lookers, .ref q_o_now_crowd_facts])), (q_o_now_crowd_lookers, .inl (cy 0, 4, .inl o_now_crowd_lookers)), (q_o_now_crowd_facts, .inl (cy 0, 140, .inl o_now_crowd_facts)), (q_o_view, .inr (5, [.ref q_o_view_seen, x_o_view_counts, .ref q_o_view_kinds, .ref q_o_view_depths, x_o_view_prices])), (q_o_view_seen, .inl (cy 0, 384, .inl o_view_seen)), (q_o_view_kinds, .inl (cy 0, 4, .inl o_view_kinds)), (q_o_view_depths, .inl (cy 0, 4, .inl o_view_depths))] (va_runV (As := [.int l3]) (rest := [.long ((31 : Int64) * l1)]) ⟨hx, hb, hml, hown, hts⟩ (c_X6_state q_o q_o_now q_o_now_box q_o_now_crowd q_o_now_crowd_facts H.size x_o_setup x_o_trial (.ref q_o_view) x_o_trialView x_o_past x_o_nextPast x_o_undoable (.ref q_o_now_box_cells) (.ref q_o_now_box_pulls) (.ref q_o_now_box_holeX) (.ref q_o_now_box_holeY) x_o_now_box_price (.ref q_o_now_crowd_lookers) o_now_box_width o_now_box_height o_now_box_planes o_now_box_holes o_now_box_reach o_now_crowd_viewers o_now_crowd_lookLength o_now_crowd_time o_now_crowd_facts l3 _ h24) (cwV 1 hts gX6_checksum_X6_state rfl rfl rfl kd_X6_state ⟨Nat.le_of_ble_eq_true rfl, Nat.le_of_ble_eq_true rfl⟩) ⟨kP_blind (EN_ok D cy) D _ _ _, va_recv hK hP (ci := 6) (q0 := 0) rfl rfl, kStart (EN_ok D cy) hE hP hD hS hA [0, 1, 2, 7, 9] rfl rfl _⟩ rfl rfl hl.1 rfl (lv_room (Nat.le_of_ble_eq_true rfl)) dX6_checksum_17 ⟨Nat.zero_le _, Nat.zero_le _⟩) hP hD hS hA [0, 1, 2, 7, 9] [3, 4, 5, 6, 8, 10, 11, 12, 13] rfl rfl rfl 14 rfl (by decide +kernel) (fun H locs hP hD hS => ?_)
        refine lv_i2l hx hb dX6_checksum_20 rfl ?_
        refine lv_ladd hx hb dX6_checksum_21 ?_
        refine lv_topl (fun v25 ev25 => ?_)
        have hF := nm_o hF v25 ev25
        refine lv_lstore_n (lv' := [(1, .long v25), (0, .ref q_o), (3, .int l3)]) hx hb dX6_checksum_22 rfl hl (by decide) rfl (fun ls hl => ?_)
        obtain ⟨v26, ev26⟩ : ∃ y : Int32, y = l3 + (1 : Int32) := ⟨_, rfl⟩
        have hF := nm_o hF v26 ev26
        refine lv_iinc (v := v26) (lv' := [(3, .int v26), (1, .long v25), (0, .ref q_o)]) hx hb dX6_checksum_23 hl (k := 2) rfl (by rw [ev26]; rfl) (by decide) rfl (fun ls hl => ?_)
        refine lv_goto (tgt := 4) hx hb dX6_checksum_26 (by decide) ?_
        exact ih4 v25 v26 H locs ls hP hD hS (lv_sub hl [2, 1, 0] rfl) hF
  have main : ∀ (H : Heap) (locs : List Loc) (ls : Array Slot), va_P D vwCl [(q_o, .inr (6, [x_o_setup, .ref q_o_now, x_o_trial, .ref q_o_view, x_o_trialView, x_o_past, x_o_nextPast, x_o_undoable])), (q_o_now, .inr (4, [.ref q_o_now_box, .ref q_o_now_crowd])), (q_o_now_box, .inr (0, [.int o_now_box_width, .int o_now_box_height, .int o_now_box_planes, .int o_now_box_holes, .int o_now_box_reach, .ref q_o_now_box_cells, .ref q_o_now_box_pulls, .ref q_o_now_box_holeX, .ref q_o_now_box_holeY, x_o_now_box_price])), (q_o_now_box_cells, .inl (cy 0, 480, .inl o_now_box_cells)), (q_o_now_box_pulls, .inl (cy 0, 5, .inl o_now_box_pulls)), (q_o_now_box_holeX, .inl (cy 0, 4, .inl o_now_box_holeX)), (q_o_now_box_holeY, .inl (cy 0, 4, .inl o_now_box_holeY)), (q_o_now_crowd, .inr (1, [.int o_now_crowd_viewers, .int o_now_crowd_lookLength, .int o_now_crowd_time, .ref q_o_now_crowd_lookers, .ref q_o_now_crowd_facts])), (q_o_now_crowd_lookers, .inl (cy 0, 4, .inl o_now_crowd_lookers)), (q_o_now_crowd_facts, .inl (cy 0, 140, .inl o_now_crowd_facts)), (q_o_view, .inr (5, [.ref q_o_view_seen, x_o_view_counts, .ref q_o_view_kinds, .ref q_o_view_depths, x_o_view_prices])), (q_o_view_seen, .inl (cy 0, 384, .inl o_view_seen)), (q_o_view_kinds, .inl (cy 0, 4, .inl o_view_kinds)), (q_o_view_depths, .inl (cy 0, 4, .inl o_view_depths))] H → va_D A [(q_o, .inr (6, [x_o_setup, .ref q_o_now, x_o_trial, .ref q_o_view, x_o_trialView, x_o_past, x_o_nextPast, x_o_undoable])), (q_o_now, .inr (4, [.ref q_o_now_box, .ref q_o_now_crowd])), (q_o_now_box, .inr (0, [.int o_now_box_width, .int o_now_box_height, .int o_now_box_planes, .int o_now_box_holes, .int o_now_box_reach, .ref q_o_now_box_cells, .ref q_o_now_box_pulls, .ref q_o_now_box_holeX, .ref q_o_now_box_holeY, x_o_now_box_price])), (q_o_now_box_cells, .inl (cy 0, 480, .inl o_now_box_cells)), (q_o_now_box_pulls, .inl (cy 0, 5, .inl o_now_box_pulls)), (q_o_now_box_holeX, .inl (cy 0, 4, .inl o_now_box_holeX)), (q_o_now_box_holeY, .inl (cy 0, 4, .inl o_now_box_holeY)), (q_o_now_crowd, .inr (1, [.int o_now_crowd_viewers, .int o_now_crowd_lookLength, .int o_now_crowd_time, .ref q_o_now_crowd_lookers, .ref q_o_now_crowd_facts])), (q_o_now_crowd_lookers, .inl (cy 0, 4, .inl o_now_crowd_lookers)), (q_o_now_crowd_facts, .inl (cy 0, 140, .inl o_now_crowd_facts)), (q_o_view, .inr (5, [.ref q_o_view_seen, x_o_view_counts, .ref q_o_view_kinds, .ref q_o_view_depths, x_o_view_prices])), (q_o_view_seen, .inl (cy 0, 384, .inl o_view_seen)), (q_o_view_kinds, .inl (cy 0, 4, .inl o_view_kinds)), (q_o_view_depths, .inl (cy 0, 4, .inl o_view_depths))] → va_S A s.heap H locs → lv_has ls 5 [(0, .ref q_o)] → W p l e ({ frames := 3, cells := 0, slots := 0, locals := 70 } : Room) s m args below meth c H locs 0 0 QQ (F0 m 0 ls []) := by
    intro H locs ls hP hD hS hl
    unfold X6_checksum at hF
    refine lv_lconst (v := 0) hx hb dX6_checksum_0 (by decide) ?_
    refine lv_lstore_n (lv' := [(1, .long (0 : Int64)), (0, .ref q_o)]) hx hb dX6_checksum_1 rfl hl (by decide) rfl (fun ls hl => ?_)
    refine lv_iconst (v := 0) hx hb dX6_checksum_2 (by decide) ?_
    refine lv_istore_n (lv' := [(3, .int (0 : Int32)), (1, .long (0 : Int64)), (0, .ref q_o)]) hx hb dX6_checksum_3 rfl hl (by decide) rfl (fun ls hl => ?_)
    exact J4 FU (0 : Int64) (0 : Int32) H locs ls hP hD hS (lv_sub hl [2, 1, 0] rfl) hF
  exact main s.heap [] ls hP hD hS hl
theorem kd_X7_thrown : yX7_thrown.cls = RX7 ∧ yX7_thrown.cls ≠ "java/lang/invoke/MethodHandle" ∧ yX7_thrown.cls ≠ "java/lang/invoke/VarHandle" ∧ (parseMethodDescriptor yX7_thrown.desc).map (fun d => d.parameters.length) = some 0 := by decide +kernel
set_option maxHeartbeats 4000000 in
set_option maxRecDepth 100000 in
theorem c_X7_thrown {l : Launch} {D : va_G} {cy : Nat → ClassId} (q_o : Nat) (sz : Nat) (x_o_buffer x_o_bufferLength x_o_textLength x_o_position x_o_error x_o_errorAt x_o_errorOffset x_o_data x_o_draft x_o_aside x_o_history x_o_undoDepth x_o_numberStart x_o_nesting x_o_seen x_o_toldPlanes x_o_stack x_o_facts : Value) (o_thrown : Int32) (res : Int32) (hF : X7_thrown o_thrown = some res) : Met l yX7_thrown wsX7_thrown ({ frames := 0, cells := 0, slots := 0, locals := 0 } : Room) (kP (EN D cy) D [.ref q_o] [(q_o, .inr (7, [.int o_thrown, x_o_buffer, x_o_bufferLength, x_o_textLength, x_o_position, x_o_error, x_o_errorAt, x_o_errorOffset, x_o_data, x_o_draft, x_o_aside, x_o_history, x_o_undoDepth, x_o_numberStart, x_o_nesting, x_o_seen, x_o_toldPlanes, x_o_stack, x_o_facts]))] sz) (kQi D res [(q_o, .inr (7, [.int o_thrown, x_o_buffer, x_o_bufferLength, x_o_textLength, x_o_position, x_o_error, x_o_errorAt, x_o_errorOffset, x_o_data, x_o_draft, x_o_aside, x_o_history, x_o_undoDepth, x_o_numberStart, x_o_nesting, x_o_seen, x_o_toldPlanes, x_o_stack, x_o_facts]))] (va_A [(q_o, .inr (7, [.int o_thrown, x_o_buffer, x_o_bufferLength, x_o_textLength, x_o_position, x_o_error, x_o_errorAt, x_o_errorOffset, x_o_data, x_o_draft, x_o_aside, x_o_history, x_o_undoDepth, x_o_numberStart, x_o_nesting, x_o_seen, x_o_toldPlanes, x_o_stack, x_o_facts]))] sz)) 0 0 (va_A [(q_o, .inr (7, [.int o_thrown, x_o_buffer, x_o_bufferLength, x_o_textLength, x_o_position, x_o_error, x_o_errorAt, x_o_errorOffset, x_o_data, x_o_draft, x_o_aside, x_o_history, x_o_undoDepth, x_o_numberStart, x_o_nesting, x_o_seen, x_o_toldPlanes, x_o_stack, x_o_facts]))] sz) := by
  refine kMet (y := yX7_thrown) (av := [.ref q_o]) (cc := cX7_thrown) (maxL := 1) (ret := some .int) (own := RX7) (Qc := fun A9 => (kQi D res [(q_o, .inr (7, [.int o_thrown, x_o_buffer, x_o_bufferLength, x_o_textLength, x_o_position, x_o_error, x_o_errorAt, x_o_errorOffset, x_o_data, x_o_draft, x_o_aside, x_o_history, x_o_undoDepth, x_o_numberStart, x_o_nesting, x_o_seen, x_o_toldPlanes, x_o_stack, x_o_facts]))] A9)) (by decide) rfl rfl (Nat.le_of_ble_eq_true rfl) ?_
  intro p e s m args below meth c A hx hb hr hts hown hml hlocks hname hE hP hD hA hsz ls hl
  have hK := hE.1
  have hl : lv_has ls 1 [(0, .ref q_o)] := hl
  have hS : va_S A s.heap s.heap [] := va_S.rf
  have f_f42 := hts (.fieldLink RX7 42 "PeepBoxModel" "thrown" "I") (by decide +kernel)
  have f_inX7 : ∀ w ∈ wsX70, w ∈ wsX7_thrown := by decide +kernel
  obtain ⟨QQ, hQQ⟩ : ∃ Q9, Q9 = MQ below (kQi D res [(q_o, .inr (7, [.int o_thrown, x_o_buffer, x_o_bufferLength, x_o_textLength, x_o_position, x_o_error, x_o_errorAt, x_o_errorOffset, x_o_data, x_o_draft, x_o_aside, x_o_history, x_o_undoDepth, x_o_numberStart, x_o_nesting, x_o_seen, x_o_toldPlanes, x_o_stack, x_o_facts]))] A) args s 0 0 A := ⟨_, rfl⟩
  rw [← hQQ]
  have main : ∀ (H : Heap) (locs : List Loc) (ls : Array Slot), va_P D vwCl [(q_o, .inr (7, [.int o_thrown, x_o_buffer, x_o_bufferLength, x_o_textLength, x_o_position, x_o_error, x_o_errorAt, x_o_errorOffset, x_o_data, x_o_draft, x_o_aside, x_o_history, x_o_undoDepth, x_o_numberStart, x_o_nesting, x_o_seen, x_o_toldPlanes, x_o_stack, x_o_facts]))] H → va_D A [(q_o, .inr (7, [.int o_thrown, x_o_buffer, x_o_bufferLength, x_o_textLength, x_o_position, x_o_error, x_o_errorAt, x_o_errorOffset, x_o_data, x_o_draft, x_o_aside, x_o_history, x_o_undoDepth, x_o_numberStart, x_o_nesting, x_o_seen, x_o_toldPlanes, x_o_stack, x_o_facts]))] → va_S A s.heap H locs → lv_has ls 1 [(0, .ref q_o)] → W p l e ({ frames := 0, cells := 0, slots := 0, locals := 0 } : Room) s m args below meth c H locs 0 0 QQ (F0 m 0 ls []) := by
    intro H locs ls hP hD hS hl
    unfold X7_thrown at hF
    refine lv_aload_n hx hb dX7_thrown_0 rfl (lv_at hl 0 rfl) ?_
    refine va_get (D := D) (ci := 7) (v := .int o_thrown) (C := RX7) (T := TX7) (N := 19) hx hb hts f_inX7 hown hK hP 0 rfl rfl 0 (by decide) f_f42 (fun _ h9 => h9) rfl dX7_thrown_1 ?_
    obtain rfl := so_o hF
    rw [hQQ]
    exact kr_i hx hb hr hlocks hP hD hS dX7_thrown_4
  exact main s.heap [] ls hP hD hS hl
theorem kd_X7_fails : yX7_fails.cls = RX7 ∧ yX7_fails.cls ≠ "java/lang/invoke/MethodHandle" ∧ yX7_fails.cls ≠ "java/lang/invoke/VarHandle" ∧ (parseMethodDescriptor yX7_fails.desc).map (fun d => d.parameters.length) = some 2 := by decide +kernel
set_option maxHeartbeats 4000000 in
set_option maxRecDepth 100000 in
theorem c_X7_fails {l : Launch} {D : va_G} {cy : Nat → ClassId} (q_o : Nat) (sz : Nat) (x_o_buffer x_o_bufferLength x_o_textLength x_o_position x_o_error x_o_errorAt x_o_errorOffset x_o_data x_o_draft x_o_aside x_o_history x_o_undoDepth x_o_numberStart x_o_nesting x_o_seen x_o_toldPlanes x_o_stack x_o_facts : Value) (o_thrown : Int32) (p1 : Int32) (p2 : Int32) (res : Int32 × Int32) (hF : X7_fails o_thrown p1 p2 = some res) : Met l yX7_fails wsX7_fails ({ frames := 0, cells := 0, slots := 0, locals := 0 } : Room) (kP (EN D cy) D [.ref q_o, .int p1, .int p2] [(q_o, .inr (7, [.int o_thrown, x_o_buffer, x_o_bufferLength, x_o_textLength, x_o_position, x_o_error, x_o_errorAt, x_o_errorOffset, x_o_data, x_o_draft, x_o_aside, x_o_history, x_o_undoDepth, x_o_numberStart, x_o_nesting, x_o_seen, x_o_toldPlanes, x_o_stack, x_o_facts]))] sz) (kQi D res.1 [(q_o, .inr (7, [.int res.2, x_o_buffer, x_o_bufferLength, x_o_textLength, x_o_position, x_o_error, x_o_errorAt, x_o_errorOffset, x_o_data, x_o_draft, x_o_aside, x_o_history, x_o_undoDepth, x_o_numberStart, x_o_nesting, x_o_seen, x_o_toldPlanes, x_o_stack, x_o_facts]))] (va_A [(q_o, .inr (7, [.int o_thrown, x_o_buffer, x_o_bufferLength, x_o_textLength, x_o_position, x_o_error, x_o_errorAt, x_o_errorOffset, x_o_data, x_o_draft, x_o_aside, x_o_history, x_o_undoDepth, x_o_numberStart, x_o_nesting, x_o_seen, x_o_toldPlanes, x_o_stack, x_o_facts]))] sz)) 0 0 (va_A [(q_o, .inr (7, [.int o_thrown, x_o_buffer, x_o_bufferLength, x_o_textLength, x_o_position, x_o_error, x_o_errorAt, x_o_errorOffset, x_o_data, x_o_draft, x_o_aside, x_o_history, x_o_undoDepth, x_o_numberStart, x_o_nesting, x_o_seen, x_o_toldPlanes, x_o_stack, x_o_facts]))] sz) := by
  refine kMet (y := yX7_fails) (av := [.ref q_o, .int p1, .int p2]) (cc := cX7_fails) (maxL := 3) (ret := some .boolean) (own := RX7) (Qc := fun A9 => (kQi D res.1 [(q_o, .inr (7, [.int res.2, x_o_buffer, x_o_bufferLength, x_o_textLength, x_o_position, x_o_error, x_o_errorAt, x_o_errorOffset, x_o_data, x_o_draft, x_o_aside, x_o_history, x_o_undoDepth, x_o_numberStart, x_o_nesting, x_o_seen, x_o_toldPlanes, x_o_stack, x_o_facts]))] A9)) (by decide) rfl rfl (Nat.le_of_ble_eq_true rfl) ?_
  intro p e s m args below meth c A hx hb hr hts hown hml hlocks hname hE hP hD hA hsz ls hl
  have hK := hE.1
  have hl : lv_has ls 3 [(0, .ref q_o), (1, .int p1), (2, .int p2)] := hl
  have hS : va_S A s.heap s.heap [] := va_S.rf
  have f_f42 := hts (.fieldLink RX7 42 "PeepBoxModel" "thrown" "I") (by decide +kernel)
  have f_inX7 : ∀ w ∈ wsX70, w ∈ wsX7_fails := by decide +kernel
  obtain ⟨QQ, hQQ⟩ : ∃ Q9, Q9 = MQ below (kQi D res.1 [(q_o, .inr (7, [.int res.2, x_o_buffer, x_o_bufferLength, x_o_textLength, x_o_position, x_o_error, x_o_errorAt, x_o_errorOffset, x_o_data, x_o_draft, x_o_aside, x_o_history, x_o_undoDepth, x_o_numberStart, x_o_nesting, x_o_seen, x_o_toldPlanes, x_o_stack, x_o_facts]))] A) args s 0 0 A := ⟨_, rfl⟩
  rw [← hQQ]
  have J16 : ∀ (o_thrown : Int32) (H : Heap) (locs : List Loc) (ls : Array Slot), va_P D vwCl [(q_o, .inr (7, [.int o_thrown, x_o_buffer, x_o_bufferLength, x_o_textLength, x_o_position, x_o_error, x_o_errorAt, x_o_errorOffset, x_o_data, x_o_draft, x_o_aside, x_o_history, x_o_undoDepth, x_o_numberStart, x_o_nesting, x_o_seen, x_o_toldPlanes, x_o_stack, x_o_facts]))] H → va_D A [(q_o, .inr (7, [.int o_thrown, x_o_buffer, x_o_bufferLength, x_o_textLength, x_o_position, x_o_error, x_o_errorAt, x_o_errorOffset, x_o_data, x_o_draft, x_o_aside, x_o_history, x_o_undoDepth, x_o_numberStart, x_o_nesting, x_o_seen, x_o_toldPlanes, x_o_stack, x_o_facts]))] → va_S A s.heap H locs → lv_has ls 3 [(0, .ref q_o)] → X7_fails_J16 p1 p2 o_thrown = some res → W p l e ({ frames := 0, cells := 0, slots := 0, locals := 0 } : Room) s m args below meth c H locs 0 0 QQ (F0 m 16 ls []) := by
    intro o_thrown H locs ls hP hD hS hl hF
    unfold X7_fails_J16 at hF
    refine lv_aload_n hx hb dX7_fails_16 rfl (lv_at hl 0 rfl) ?_
    refine va_get (D := D) (ci := 7) (v := .int o_thrown) (C := RX7) (T := TX7) (N := 19) hx hb hts f_inX7 hown hK hP 0 rfl rfl 0 (by decide) f_f42 (fun _ h9 => h9) rfl dX7_fails_17 ?_
    refine lv_if_eq (tgt := 27) hx hb dX7_fails_20 (by decide) (fun c1 => ?_) (fun c1 => ?_)
    · have hF := if_p hF c1
      refine lv_iconst (v := 0) hx hb dX7_fails_27 (by decide) ?_
      obtain rfl := so_o hF
      rw [hQQ]
      exact kr_z (v := (0 : Int32)) hx hb hr hlocks rfl hP hD hS dX7_fails_28
    · have hF := if_n hF c1
      refine lv_iconst (v := 1) hx hb dX7_fails_23 (by decide) ?_
      refine lv_goto (tgt := 28) hx hb dX7_fails_24 (by decide) ?_
      obtain rfl := so_o hF
      rw [hQQ]
      exact kr_z (v := (1 : Int32)) hx hb hr hlocks rfl hP hD hS dX7_fails_28
  have main : ∀ (H : Heap) (locs : List Loc) (ls : Array Slot), va_P D vwCl [(q_o, .inr (7, [.int o_thrown, x_o_buffer, x_o_bufferLength, x_o_textLength, x_o_position, x_o_error, x_o_errorAt, x_o_errorOffset, x_o_data, x_o_draft, x_o_aside, x_o_history, x_o_undoDepth, x_o_numberStart, x_o_nesting, x_o_seen, x_o_toldPlanes, x_o_stack, x_o_facts]))] H → va_D A [(q_o, .inr (7, [.int o_thrown, x_o_buffer, x_o_bufferLength, x_o_textLength, x_o_position, x_o_error, x_o_errorAt, x_o_errorOffset, x_o_data, x_o_draft, x_o_aside, x_o_history, x_o_undoDepth, x_o_numberStart, x_o_nesting, x_o_seen, x_o_toldPlanes, x_o_stack, x_o_facts]))] → va_S A s.heap H locs → lv_has ls 3 [(0, .ref q_o), (1, .int p1), (2, .int p2)] → W p l e ({ frames := 0, cells := 0, slots := 0, locals := 0 } : Room) s m args below meth c H locs 0 0 QQ (F0 m 0 ls []) := by
    intro H locs ls hP hD hS hl
    unfold X7_fails at hF
    refine lv_iload_n hx hb dX7_fails_0 rfl (lv_at hl 1 rfl) ?_
    refine lv_if_eq (tgt := 16) hx hb dX7_fails_1 (by decide) (fun c2 => ?_) (fun c2 => ?_)
    · have hF := if_p hF c2
      exact J16 o_thrown H locs ls hP hD hS (lv_sub hl [0] rfl) hF
    · have hF := if_n hF c2
      refine lv_aload_n hx hb dX7_fails_4 rfl (lv_at hl 0 rfl) ?_
      refine va_get (D := D) (ci := 7) (v := .int o_thrown) (C := RX7) (T := TX7) (N := 19) hx hb hts f_inX7 hown hK hP 0 rfl rfl 0 (by decide) f_f42 (fun _ h9 => h9) rfl dX7_fails_5 ?_
      refine lv_if_ne (tgt := 16) hx hb dX7_fails_8 (by decide) (fun c3 => ?_) (fun c3 => ?_)
      · have hF := if_n hF c3
        exact J16 o_thrown H locs ls hP hD hS (lv_sub hl [0] rfl) hF
      · have hF := if_p hF c3
        refine lv_aload_n hx hb dX7_fails_11 rfl (lv_at hl 0 rfl) ?_
        refine lv_iload_n hx hb dX7_fails_12 rfl (lv_at hl 2 rfl) ?_
        refine va_put (D := D) (ci := 7) (v := .int p2) (ty := .int) (C := RX7) (T := TX7) (N := 19) hx hb hts f_inX7 tyX7 tyX7_ok nmX7 hown hK hP hD hS 0 rfl rfl 0 (by decide) f_f42 (fun _ h9 => h9) rfl (by decide +kernel) rfl rfl (Nat.le_of_ble_eq_true rfl) dX7_fails_13 (fun H locs hP hD hS => ?_)
        have hP : va_P D vwCl [(q_o, .inr (7, [.int p2, x_o_buffer, x_o_bufferLength, x_o_textLength, x_o_position, x_o_error, x_o_errorAt, x_o_errorOffset, x_o_data, x_o_draft, x_o_aside, x_o_history, x_o_undoDepth, x_o_numberStart, x_o_nesting, x_o_seen, x_o_toldPlanes, x_o_stack, x_o_facts]))] H := hP
        have hD : va_D A [(q_o, .inr (7, [.int p2, x_o_buffer, x_o_bufferLength, x_o_textLength, x_o_position, x_o_error, x_o_errorAt, x_o_errorOffset, x_o_data, x_o_draft, x_o_aside, x_o_history, x_o_undoDepth, x_o_numberStart, x_o_nesting, x_o_seen, x_o_toldPlanes, x_o_stack, x_o_facts]))] := hD
        exact J16 p2 H locs ls hP hD hS (lv_sub hl [0] rfl) hF
  exact main s.heap [] ls hP hD hS hl
theorem kd_X7_in : yX7_in.cls ≠ "java/lang/invoke/MethodHandle" ∧ yX7_in.cls ≠ "java/lang/invoke/VarHandle" ∧ (parseMethodDescriptor yX7_in.desc).map (fun d => d.parameters.length) = some 3 := by decide +kernel
set_option maxHeartbeats 4000000 in
set_option maxRecDepth 100000 in
theorem c_X7_in {l : Launch} {D : va_G} {cy : Nat → ClassId} (sz : Nat) (p0 : Int32) (p1 : Int32) (p2 : Int32) (res : Int32) (hF : X7_in p0 p1 p2 = some res) : Met l yX7_in wsX7_in ({ frames := 0, cells := 0, slots := 0, locals := 0 } : Room) (kP (EN D cy) D [.int p0, .int p1, .int p2] [] sz) (kQi D res [] (va_A [] sz)) 0 0 (va_A [] sz) := by
  refine kMet (y := yX7_in) (av := [.int p0, .int p1, .int p2]) (cc := cX7_in) (maxL := 3) (ret := some .boolean) (own := RX7) (Qc := fun A9 => (kQi D res [] A9)) (by decide) rfl rfl (Nat.le_of_ble_eq_true rfl) ?_
  intro p e s m args below meth c A hx hb hr hts hown hml hlocks hname hE hP hD hA hsz ls hl
  have hK := hE.1
  have hl : lv_has ls 3 [(0, .int p0), (1, .int p1), (2, .int p2)] := hl
  have hS : va_S A s.heap s.heap [] := va_S.rf
  obtain ⟨QQ, hQQ⟩ : ∃ Q9, Q9 = MQ below (kQi D res [] A) args s 0 0 A := ⟨_, rfl⟩
  rw [← hQQ]
  have main : ∀ (H : Heap) (locs : List Loc) (ls : Array Slot), va_P D vwCl [] H → va_D A [] → va_S A s.heap H locs → lv_has ls 3 [(0, .int p0), (1, .int p1), (2, .int p2)] → W p l e ({ frames := 0, cells := 0, slots := 0, locals := 0 } : Room) s m args below meth c H locs 0 0 QQ (F0 m 0 ls []) := by
    intro H locs ls hP hD hS hl
    unfold X7_in at hF
    refine lv_iload_n hx hb dX7_in_0 rfl (lv_at hl 0 rfl) ?_
    refine lv_iload_n hx hb dX7_in_1 rfl (lv_at hl 1 rfl) ?_
    refine lv_icmp_lt (tgt := 14) hx hb dX7_in_2 (by decide) (fun c1 => ?_) (fun c1 => ?_)
    · have hF := if_p hF c1
      refine lv_iconst (v := 0) hx hb dX7_in_14 (by decide) ?_
      obtain rfl := so_o hF
      rw [hQQ]
      exact kr_z (v := (0 : Int32)) hx hb hr hlocks rfl hP hD hS dX7_in_15
    · have hF := if_n hF c1
      refine lv_iload_n hx hb dX7_in_5 rfl (lv_at hl 0 rfl) ?_
      refine lv_iload_n hx hb dX7_in_6 rfl (lv_at hl 2 rfl) ?_
      refine lv_icmp_gt (tgt := 14) hx hb dX7_in_7 (by decide) (fun c2 => ?_) (fun c2 => ?_)
      · have hF := if_p hF c2
        refine lv_iconst (v := 0) hx hb dX7_in_14 (by decide) ?_
        obtain rfl := so_o hF
        rw [hQQ]
        exact kr_z (v := (0 : Int32)) hx hb hr hlocks rfl hP hD hS dX7_in_15
      · have hF := if_n hF c2
        refine lv_iconst (v := 1) hx hb dX7_in_10 (by decide) ?_
        refine lv_goto (tgt := 15) hx hb dX7_in_11 (by decide) ?_
        obtain rfl := so_o hF
        rw [hQQ]
        exact kr_z (v := (1 : Int32)) hx hb hr hlocks rfl hP hD hS dX7_in_15
  exact main s.heap [] ls hP hD hS hl
theorem kd_X7_min : yX7_min.cls ≠ "java/lang/invoke/MethodHandle" ∧ yX7_min.cls ≠ "java/lang/invoke/VarHandle" ∧ (parseMethodDescriptor yX7_min.desc).map (fun d => d.parameters.length) = some 2 := by decide +kernel
set_option maxHeartbeats 4000000 in
set_option maxRecDepth 100000 in
theorem c_X7_min {l : Launch} {D : va_G} {cy : Nat → ClassId} (sz : Nat) (p0 : Int32) (p1 : Int32) (res : Int32) (hF : X7_min p0 p1 = some res) : Met l yX7_min wsX7_min ({ frames := 0, cells := 0, slots := 0, locals := 0 } : Room) (kP (EN D cy) D [.int p0, .int p1] [] sz) (kQi D res [] (va_A [] sz)) 0 0 (va_A [] sz) := by
  refine kMet (y := yX7_min) (av := [.int p0, .int p1]) (cc := cX7_min) (maxL := 2) (ret := some .int) (own := RX7) (Qc := fun A9 => (kQi D res [] A9)) (by decide) rfl rfl (Nat.le_of_ble_eq_true rfl) ?_
  intro p e s m args below meth c A hx hb hr hts hown hml hlocks hname hE hP hD hA hsz ls hl
  have hK := hE.1
  have hl : lv_has ls 2 [(0, .int p0), (1, .int p1)] := hl
  have hS : va_S A s.heap s.heap [] := va_S.rf
  obtain ⟨QQ, hQQ⟩ : ∃ Q9, Q9 = MQ below (kQi D res [] A) args s 0 0 A := ⟨_, rfl⟩
  rw [← hQQ]
  have main : ∀ (H : Heap) (locs : List Loc) (ls : Array Slot), va_P D vwCl [] H → va_D A [] → va_S A s.heap H locs → lv_has ls 2 [(0, .int p0), (1, .int p1)] → W p l e ({ frames := 0, cells := 0, slots := 0, locals := 0 } : Room) s m args below meth c H locs 0 0 QQ (F0 m 0 ls []) := by
    intro H locs ls hP hD hS hl
    unfold X7_min at hF
    refine lv_iload_n hx hb dX7_min_0 rfl (lv_at hl 0 rfl) ?_
    refine lv_iload_n hx hb dX7_min_1 rfl (lv_at hl 1 rfl) ?_
    refine lv_icmp_ge (tgt := 9) hx hb dX7_min_2 (by decide) (fun c1 => ?_) (fun c1 => ?_)
    · have hF := if_p hF c1
      refine lv_iload_n hx hb dX7_min_9 rfl (lv_at hl 1 rfl) ?_
      obtain rfl := so_o hF
      rw [hQQ]
      exact kr_i hx hb hr hlocks hP hD hS dX7_min_10
    · have hF := if_n hF c1
      refine lv_iload_n hx hb dX7_min_5 rfl (lv_at hl 0 rfl) ?_
      refine lv_goto (tgt := 10) hx hb dX7_min_6 (by decide) ?_
      obtain rfl := so_o hF
      rw [hQQ]
      exact kr_i hx hb hr hlocks hP hD hS dX7_min_10
  exact main s.heap [] ls hP hD hS hl
theorem kd_X7_max : yX7_max.cls ≠ "java/lang/invoke/MethodHandle" ∧ yX7_max.cls ≠ "java/lang/invoke/VarHandle" ∧ (parseMethodDescriptor yX7_max.desc).map (fun d => d.parameters.length) = some 2 := by decide +kernel
set_option maxHeartbeats 4000000 in
set_option maxRecDepth 100000 in
theorem c_X7_max {l : Launch} {D : va_G} {cy : Nat → ClassId} (sz : Nat) (p0 : Int32) (p1 : Int32) (res : Int32) (hF : X7_max p0 p1 = some res) : Met l yX7_max wsX7_max ({ frames := 0, cells := 0, slots := 0, locals := 0 } : Room) (kP (EN D cy) D [.int p0, .int p1] [] sz) (kQi D res [] (va_A [] sz)) 0 0 (va_A [] sz) := by
  refine kMet (y := yX7_max) (av := [.int p0, .int p1]) (cc := cX7_max) (maxL := 2) (ret := some .int) (own := RX7) (Qc := fun A9 => (kQi D res [] A9)) (by decide) rfl rfl (Nat.le_of_ble_eq_true rfl) ?_
  intro p e s m args below meth c A hx hb hr hts hown hml hlocks hname hE hP hD hA hsz ls hl
  have hK := hE.1
  have hl : lv_has ls 2 [(0, .int p0), (1, .int p1)] := hl
  have hS : va_S A s.heap s.heap [] := va_S.rf
  obtain ⟨QQ, hQQ⟩ : ∃ Q9, Q9 = MQ below (kQi D res [] A) args s 0 0 A := ⟨_, rfl⟩
  rw [← hQQ]
  have main : ∀ (H : Heap) (locs : List Loc) (ls : Array Slot), va_P D vwCl [] H → va_D A [] → va_S A s.heap H locs → lv_has ls 2 [(0, .int p0), (1, .int p1)] → W p l e ({ frames := 0, cells := 0, slots := 0, locals := 0 } : Room) s m args below meth c H locs 0 0 QQ (F0 m 0 ls []) := by
    intro H locs ls hP hD hS hl
    unfold X7_max at hF
    refine lv_iload_n hx hb dX7_max_0 rfl (lv_at hl 0 rfl) ?_
    refine lv_iload_n hx hb dX7_max_1 rfl (lv_at hl 1 rfl) ?_
    refine lv_icmp_le (tgt := 9) hx hb dX7_max_2 (by decide) (fun c1 => ?_) (fun c1 => ?_)
    · have hF := if_p hF c1
      refine lv_iload_n hx hb dX7_max_9 rfl (lv_at hl 1 rfl) ?_
      obtain rfl := so_o hF
      rw [hQQ]
      exact kr_i hx hb hr hlocks hP hD hS dX7_max_10
    · have hF := if_n hF c1
      refine lv_iload_n hx hb dX7_max_5 rfl (lv_at hl 0 rfl) ?_
      refine lv_goto (tgt := 10) hx hb dX7_max_6 (by decide) ?_
      obtain rfl := so_o hF
      rw [hQQ]
      exact kr_i hx hb hr hlocks hP hD hS dX7_max_10
  exact main s.heap [] ls hP hD hS hl
theorem kd_X7_copy : yX7_copy.cls ≠ "java/lang/invoke/MethodHandle" ∧ yX7_copy.cls ≠ "java/lang/invoke/VarHandle" ∧ (parseMethodDescriptor yX7_copy.desc).map (fun d => d.parameters.length) = some 3 := by decide +kernel
set_option maxHeartbeats 4000000 in
set_option maxRecDepth 100000 in
theorem c_X7_copy {l : Launch} {D : va_G} {cy : Nat → ClassId} (n_o : Nat) (n_p1 : Nat) (q_o q_p1 : Nat) (sz : Nat) (o : Nat → Int32) (p1 : Nat → Int32) (p2 : Int32) (res : (Nat → Int32)) (hF : X7_copy n_o n_p1 o p1 p2 = some res) : Met l yX7_copy wsX7_copy ({ frames := 0, cells := 0, slots := 0, locals := 0 } : Room) (kP (EN D cy) D [.ref q_o, .ref q_p1, .int p2] [(q_o, .inl (cy 0, n_o, .inl o)), (q_p1, .inl (cy 0, n_p1, .inl p1))] sz) (kQv D [(q_o, .inl (cy 0, n_o, .inl o)), (q_p1, .inl (cy 0, n_p1, .inl res))] (va_A [(q_o, .inl (cy 0, n_o, .inl o)), (q_p1, .inl (cy 0, n_p1, .inl p1))] sz)) 0 0 (va_A [(q_o, .inl (cy 0, n_o, .inl o)), (q_p1, .inl (cy 0, n_p1, .inl p1))] sz) := by
  refine kMet (y := yX7_copy) (av := [.ref q_o, .ref q_p1, .int p2]) (cc := cX7_copy) (maxL := 4) (ret := none) (own := RX7) (Qc := fun A9 => (kQv D [(q_o, .inl (cy 0, n_o, .inl o)), (q_p1, .inl (cy 0, n_p1, .inl res))] A9)) (by decide) rfl rfl (Nat.le_of_ble_eq_true rfl) ?_
  intro p e s m args below meth c A hx hb hr hts hown hml hlocks hname hE hP hD hA hsz ls hl
  have hK := hE.1
  have hl : lv_has ls 4 [(0, .ref q_o), (1, .ref q_p1), (2, .int p2)] := hl
  have hS : va_S A s.heap s.heap [] := va_S.rf
  obtain ⟨QQ, hQQ⟩ : ∃ Q9, Q9 = MQ below (kQv D [(q_o, .inl (cy 0, n_o, .inl o)), (q_p1, .inl (cy 0, n_p1, .inl res))] A) args s 0 0 A := ⟨_, rfl⟩
  rw [← hQQ]
  have J2 : ∀ (n2 : Nat) (l3 : Int32) (p1 : Nat → Int32) (H : Heap) (locs : List Loc) (ls : Array Slot), va_P D vwCl [(q_o, .inl (cy 0, n_o, .inl o)), (q_p1, .inl (cy 0, n_p1, .inl p1))] H → va_D A [(q_o, .inl (cy 0, n_o, .inl o)), (q_p1, .inl (cy 0, n_p1, .inl p1))] → va_S A s.heap H locs → lv_has ls 4 [(0, .ref q_o), (1, .ref q_p1), (2, .int p2), (3, .int l3)] → X7_copy_L2 n_o n_p1 o p2 n2 l3 p1 = some res → W p l e ({ frames := 0, cells := 0, slots := 0, locals := 0 } : Room) s m args below meth c H locs 0 0 QQ (F0 m 2 ls []) := by
    intro n2
    induction n2 with
    | zero =>
      intro l3 p1 H locs ls hP hD hS hl hF
      rw [X7_copy_L2] at hF
      cases hF
    | succ n2 ih2 =>
      intro l3 p1 H locs ls hP hD hS hl hF
      rw [X7_copy_L2] at hF
      refine lv_iload_n hx hb dX7_copy_2 rfl (lv_at hl 3 rfl) ?_
      refine lv_iload_n hx hb dX7_copy_3 rfl (lv_at hl 2 rfl) ?_
      refine lv_icmp_ge (tgt := 19) hx hb dX7_copy_4 (by decide) (fun c1 => ?_) (fun c1 => ?_)
      · have hF := if_p hF c1
        obtain rfl := so_o hF
        rw [hQQ]
        exact kr_v hx hb hr hlocks hP hD hS dX7_copy_19
      · have hF := if_n hF c1
        refine lv_aload_n hx hb dX7_copy_7 rfl (lv_at hl 1 rfl) ?_
        refine lv_iload_n hx hb dX7_copy_8 rfl (lv_at hl 3 rfl) ?_
        refine lv_aload_n hx hb dX7_copy_9 rfl (lv_at hl 0 rfl) ?_
        refine lv_iload_n hx hb dX7_copy_10 rfl (lv_at hl 3 rfl) ?_
        obtain ⟨h2, hF⟩ := ld_o hF
        refine va_iald hx hb hK hP 0 0 rfl rfl h2 dX7_copy_11 ?_
        refine lv_topi (fun v3 ev3 => ?_)
        have hF := hF v3 ev3
        obtain ⟨h4, hF⟩ := st_o hF
        refine va_iast hx hb hK hP hD hS 1 0 rfl rfl h4 dX7_copy_12 (fun H locs hP hD hS => ?_)
        obtain ⟨b5, eb5⟩ : ∃ y : Nat → Int32, y = (upd p1 l3.toNatClampNeg v3) := ⟨_, rfl⟩
        have hF := hF b5 eb5
        have hP : va_P D vwCl [(q_o, .inl (cy 0, n_o, .inl o)), (q_p1, .inl (cy 0, n_p1, .inl b5))] H := by rw [eb5]; exact hP
        have hD : va_D A [(q_o, .inl (cy 0, n_o, .inl o)), (q_p1, .inl (cy 0, n_p1, .inl b5))] := by rw [eb5]; exact hD
        obtain ⟨v6, ev6⟩ : ∃ y : Int32, y = l3 + (1 : Int32) := ⟨_, rfl⟩
        have hF := nm_o hF v6 ev6
        refine lv_iinc (v := v6) (lv' := [(3, .int v6), (0, .ref q_o), (1, .ref q_p1), (2, .int p2)]) hx hb dX7_copy_13 hl (k := 3) rfl (by rw [ev6]; rfl) (by decide) rfl (fun ls hl => ?_)
        refine lv_goto (tgt := 2) hx hb dX7_copy_16 (by decide) ?_
        exact ih2 v6 b5 H locs ls hP hD hS (lv_sub hl [1, 2, 3, 0] rfl) hF
  have main : ∀ (H : Heap) (locs : List Loc) (ls : Array Slot), va_P D vwCl [(q_o, .inl (cy 0, n_o, .inl o)), (q_p1, .inl (cy 0, n_p1, .inl p1))] H → va_D A [(q_o, .inl (cy 0, n_o, .inl o)), (q_p1, .inl (cy 0, n_p1, .inl p1))] → va_S A s.heap H locs → lv_has ls 4 [(0, .ref q_o), (1, .ref q_p1), (2, .int p2)] → W p l e ({ frames := 0, cells := 0, slots := 0, locals := 0 } : Room) s m args below meth c H locs 0 0 QQ (F0 m 0 ls []) := by
    intro H locs ls hP hD hS hl
    unfold X7_copy at hF
    refine lv_iconst (v := 0) hx hb dX7_copy_0 (by decide) ?_
    refine lv_istore_n (lv' := [(3, .int (0 : Int32)), (0, .ref q_o), (1, .ref q_p1), (2, .int p2)]) hx hb dX7_copy_1 rfl hl (by decide) rfl (fun ls hl => ?_)
    exact J2 FU (0 : Int32) p1 H locs ls hP hD hS (lv_sub hl [1, 2, 3, 0] rfl) hF
  exact main s.heap [] ls hP hD hS hl
theorem kd_X7_layBox : yX7_layBox.cls ≠ "java/lang/invoke/MethodHandle" ∧ yX7_layBox.cls ≠ "java/lang/invoke/VarHandle" ∧ (parseMethodDescriptor yX7_layBox.desc).map (fun d => d.parameters.length) = some 4 := by decide +kernel
set_option maxHeartbeats 4000000 in
set_option maxRecDepth 100000 in
theorem c_X7_layBox {l : Launch} {D : va_G} {cy : Nat → ClassId} (n_o : Nat) (q_o : Nat) (sz : Nat) (o : Nat → Int32) (p1 : Int32) (p2 : Int32) (p3 : Int32) (res : (Nat → Int32)) (hF : X7_layBox n_o o p1 p2 p3 = some res) : Met l yX7_layBox wsX7_layBox ({ frames := 0, cells := 0, slots := 0, locals := 0 } : Room) (kP (EN D cy) D [.ref q_o, .int p1, .int p2, .int p3] [(q_o, .inl (cy 0, n_o, .inl o))] sz) (kQv D [(q_o, .inl (cy 0, n_o, .inl res))] (va_A [(q_o, .inl (cy 0, n_o, .inl o))] sz)) 0 0 (va_A [(q_o, .inl (cy 0, n_o, .inl o))] sz) := by
  refine kMet (y := yX7_layBox) (av := [.ref q_o, .int p1, .int p2, .int p3]) (cc := cX7_layBox) (maxL := 6) (ret := none) (own := RX7) (Qc := fun A9 => (kQv D [(q_o, .inl (cy 0, n_o, .inl res))] A9)) (by decide) rfl rfl (Nat.le_of_ble_eq_true rfl) ?_
  intro p e s m args below meth c A hx hb hr hts hown hml hlocks hname hE hP hD hA hsz ls hl
  have hK := hE.1
  have hl : lv_has ls 6 [(0, .ref q_o), (1, .int p1), (2, .int p2), (3, .int p3)] := hl
  have hS : va_S A s.heap s.heap [] := va_S.rf
  obtain ⟨QQ, hQQ⟩ : ∃ Q9, Q9 = MQ below (kQv D [(q_o, .inl (cy 0, n_o, .inl res))] A) args s 0 0 A := ⟨_, rfl⟩
  rw [← hQQ]
  have J46 : ∀ (n46 : Nat) (l4 : Int32) (o : Nat → Int32) (H : Heap) (locs : List Loc) (ls : Array Slot), va_P D vwCl [(q_o, .inl (cy 0, n_o, .inl o))] H → va_D A [(q_o, .inl (cy 0, n_o, .inl o))] → va_S A s.heap H locs → lv_has ls 6 [(0, .ref q_o), (1, .int p1), (2, .int p2), (3, .int p3), (4, .int l4)] → X7_layBox_L46 n_o p1 p2 p3 n46 l4 o = some res → W p l e ({ frames := 0, cells := 0, slots := 0, locals := 0 } : Room) s m args below meth c H locs 0 0 QQ (F0 m 46 ls []) := by
    intro n46
    induction n46 with
    | zero =>
      intro l4 o H locs ls hP hD hS hl hF
      rw [X7_layBox_L46] at hF
      cases hF
    | succ n46 ih46 =>
      have J55 : ∀ (n55 : Nat) (l4 : Int32) (l5 : Int32) (o : Nat → Int32) (H : Heap) (locs : List Loc) (ls : Array Slot), va_P D vwCl [(q_o, .inl (cy 0, n_o, .inl o))] H → va_D A [(q_o, .inl (cy 0, n_o, .inl o))] → va_S A s.heap H locs → lv_has ls 6 [(0, .ref q_o), (1, .int p1), (2, .int p2), (3, .int p3), (4, .int l4), (5, .int l5)] → X7_layBox_L55 n_o p1 p2 p3 (fun z0 z1 => X7_layBox_L46 n_o p1 p2 p3 n46 z0 z1) n55 l4 l5 o = some res → W p l e ({ frames := 0, cells := 0, slots := 0, locals := 0 } : Room) s m args below meth c H locs 0 0 QQ (F0 m 55 ls []) := by
        intro n55
        induction n55 with
        | zero =>
          intro l4 l5 o H locs ls hP hD hS hl hF
          rw [X7_layBox_L55] at hF
          cases hF
        | succ n55 ih55 =>
          have J88 : ∀ (l4 : Int32) (l5 : Int32) (k1 : Int32) (k2 : Int32) (o : Nat → Int32) (H : Heap) (locs : List Loc) (ls : Array Slot), va_P D vwCl [(q_o, .inl (cy 0, n_o, .inl o))] H → va_D A [(q_o, .inl (cy 0, n_o, .inl o))] → va_S A s.heap H locs → lv_has ls 6 [(0, .ref q_o), (1, .int p1), (2, .int p2), (3, .int p3), (4, .int l4), (5, .int l5)] → X7_layBox_J88 n_o p1 p2 p3 (fun z0 z1 => X7_layBox_L46 n_o p1 p2 p3 n46 z0 z1) (fun z0 z1 z2 => X7_layBox_L55 n_o p1 p2 p3 (fun z0 z1 => X7_layBox_L46 n_o p1 p2 p3 n46 z0 z1) n55 z0 z1 z2) l4 l5 k1 k2 o = some res → W p l e ({ frames := 0, cells := 0, slots := 0, locals := 0 } : Room) s m args below meth c H locs 0 0 QQ (F0 m 88 ls [.int k2, .int k1, .ref q_o]) := by
            intro l4 l5 k1 k2 o H locs ls hP hD hS hl hF
            unfold X7_layBox_J88 at hF
            obtain ⟨h1, hF⟩ := st_o hF
            refine va_iast hx hb hK hP hD hS 0 0 rfl rfl h1 dX7_layBox_88 (fun H locs hP hD hS => ?_)
            obtain ⟨b2, eb2⟩ : ∃ y : Nat → Int32, y = (upd o k1.toNatClampNeg k2) := ⟨_, rfl⟩
            have hF := hF b2 eb2
            have hP : va_P D vwCl [(q_o, .inl (cy 0, n_o, .inl b2))] H := by rw [eb2]; exact hP
            have hD : va_D A [(q_o, .inl (cy 0, n_o, .inl b2))] := by rw [eb2]; exact hD
            obtain ⟨v3, ev3⟩ : ∃ y : Int32, y = l5 + (1 : Int32) := ⟨_, rfl⟩
            have hF := nm_o hF v3 ev3
            refine lv_iinc (v := v3) (lv' := [(5, .int v3), (0, .ref q_o), (1, .int p1), (2, .int p2), (3, .int p3), (4, .int l4)]) hx hb dX7_layBox_89 hl (k := 5) rfl (by rw [ev3]; rfl) (by decide) rfl (fun ls hl => ?_)
            refine lv_goto (tgt := 55) hx hb dX7_layBox_92 (by decide) ?_
            exact ih55 l4 v3 b2 H locs ls hP hD hS (lv_sub hl [1, 2, 3, 4, 5, 0] rfl) hF
          intro l4 l5 o H locs ls hP hD hS hl hF
          rw [X7_layBox_L55] at hF
          refine lv_iload hx hb dX7_layBox_55 (lv_at hl 5 rfl) ?_
          refine lv_iload_n hx hb dX7_layBox_57 rfl (lv_at hl 1 rfl) ?_
          refine lv_iload_n hx hb dX7_layBox_58 rfl (lv_at hl 2 rfl) ?_
          refine lv_imul hx hb dX7_layBox_59 ?_
          refine lv_icmp_ge (tgt := 95) hx hb dX7_layBox_60 (by decide) (fun c4 => ?_) (fun c4 => ?_)
          · have hF := if_p hF c4
            obtain ⟨v5, ev5⟩ : ∃ y : Int32, y = l4 + (1 : Int32) := ⟨_, rfl⟩
            have hF := nm_o hF v5 ev5
            refine lv_iinc (v := v5) (lv' := [(4, .int v5), (0, .ref q_o), (1, .int p1), (2, .int p2), (3, .int p3), (5, .int l5)]) hx hb dX7_layBox_95 hl (k := 4) rfl (by rw [ev5]; rfl) (by decide) rfl (fun ls hl => ?_)
            refine lv_goto (tgt := 46) hx hb dX7_layBox_98 (by decide) ?_
            exact ih46 v5 o H locs ls hP hD hS (lv_sub hl [1, 2, 3, 4, 0] rfl) hF
          · have hF := if_n hF c4
            refine lv_aload_n hx hb dX7_layBox_63 rfl (lv_at hl 0 rfl) ?_
            refine lv_bipush (v := 15) hx hb dX7_layBox_64 (by decide) ?_
            refine lv_bipush (v := 96) hx hb dX7_layBox_66 (by decide) ?_
            refine lv_iload hx hb dX7_layBox_68 (lv_at hl 4 rfl) ?_
            refine lv_imul hx hb dX7_layBox_70 ?_
            refine lv_iadd hx hb dX7_layBox_71 ?_
            refine lv_iload hx hb dX7_layBox_72 (lv_at hl 5 rfl) ?_
            refine lv_iadd hx hb dX7_layBox_74 ?_
            refine lv_iload hx hb dX7_layBox_75 (lv_at hl 4 rfl) ?_
            refine lv_iload_n hx hb dX7_layBox_77 rfl (lv_at hl 3 rfl) ?_
            refine lv_iconst (v := 1) hx hb dX7_layBox_78 (by decide) ?_
            refine lv_isub hx hb dX7_layBox_79 ?_
            refine lv_icmp_ne (tgt := 87) hx hb dX7_layBox_80 (by decide) (fun c6 => ?_) (fun c6 => ?_)
            · have hF := if_n hF c6
              refine lv_iconst (v := -1) hx hb dX7_layBox_87 (by decide) ?_
              exact J88 l4 l5 (((15 : Int32) + ((96 : Int32) * l4)) + l5) (-1 : Int32) o H locs ls hP hD hS (lv_sub hl [0, 1, 2, 3, 4, 5] rfl) hF
            · have hF := if_p hF c6
              refine lv_iconst (v := 0) hx hb dX7_layBox_83 (by decide) ?_
              refine lv_goto (tgt := 88) hx hb dX7_layBox_84 (by decide) ?_
              exact J88 l4 l5 (((15 : Int32) + ((96 : Int32) * l4)) + l5) (0 : Int32) o H locs ls hP hD hS (lv_sub hl [0, 1, 2, 3, 4, 5] rfl) hF
      intro l4 o H locs ls hP hD hS hl hF
      rw [X7_layBox_L46] at hF
      refine lv_iload hx hb dX7_layBox_46 (lv_at hl 4 rfl) ?_
      refine lv_iload_n hx hb dX7_layBox_48 rfl (lv_at hl 3 rfl) ?_
      refine lv_icmp_ge (tgt := 101) hx hb dX7_layBox_49 (by decide) (fun c7 => ?_) (fun c7 => ?_)
      · have hF := if_p hF c7
        obtain rfl := so_o hF
        rw [hQQ]
        exact kr_v hx hb hr hlocks hP hD hS dX7_layBox_101
      · have hF := if_n hF c7
        refine lv_iconst (v := 0) hx hb dX7_layBox_52 (by decide) ?_
        refine lv_istore (lv' := [(5, .int (0 : Int32)), (0, .ref q_o), (1, .int p1), (2, .int p2), (3, .int p3), (4, .int l4)]) hx hb dX7_layBox_53 hl (by decide) rfl (fun ls hl => ?_)
        exact J55 FU l4 (0 : Int32) o H locs ls hP hD hS (lv_sub hl [1, 2, 3, 4, 5, 0] rfl) hF
  have J3 : ∀ (n3 : Nat) (l4 : Int32) (o : Nat → Int32) (H : Heap) (locs : List Loc) (ls : Array Slot), va_P D vwCl [(q_o, .inl (cy 0, n_o, .inl o))] H → va_D A [(q_o, .inl (cy 0, n_o, .inl o))] → va_S A s.heap H locs → lv_has ls 6 [(0, .ref q_o), (1, .int p1), (2, .int p2), (3, .int p3), (4, .int l4)] → X7_layBox_L3 n_o p1 p2 p3 n3 l4 o = some res → W p l e ({ frames := 0, cells := 0, slots := 0, locals := 0 } : Room) s m args below meth c H locs 0 0 QQ (F0 m 3 ls []) := by
    intro n3
    induction n3 with
    | zero =>
      intro l4 o H locs ls hP hD hS hl hF
      rw [X7_layBox_L3] at hF
      cases hF
    | succ n3 ih3 =>
      intro l4 o H locs ls hP hD hS hl hF
      rw [X7_layBox_L3] at hF
      refine lv_iload hx hb dX7_layBox_3 (lv_at hl 4 rfl) ?_
      refine lv_sipush (v := 2243) hx hb dX7_layBox_5 (by decide) ?_
      refine lv_icmp_ge (tgt := 22) hx hb dX7_layBox_8 (by decide) (fun c8 => ?_) (fun c8 => ?_)
      · have hF := if_p hF c8
        refine lv_aload_n hx hb dX7_layBox_22 rfl (lv_at hl 0 rfl) ?_
        refine lv_iconst (v := 0) hx hb dX7_layBox_23 (by decide) ?_
        refine lv_iload_n hx hb dX7_layBox_24 rfl (lv_at hl 1 rfl) ?_
        obtain ⟨h9, hF⟩ := st_o hF
        refine va_iast hx hb hK hP hD hS 0 0 rfl rfl h9 dX7_layBox_25 (fun H locs hP hD hS => ?_)
        obtain ⟨b10, eb10⟩ : ∃ y : Nat → Int32, y = (upd o (0 : Int32).toNatClampNeg p1) := ⟨_, rfl⟩
        have hF := hF b10 eb10
        have hP : va_P D vwCl [(q_o, .inl (cy 0, n_o, .inl b10))] H := by rw [eb10]; exact hP
        have hD : va_D A [(q_o, .inl (cy 0, n_o, .inl b10))] := by rw [eb10]; exact hD
        refine lv_aload_n hx hb dX7_layBox_26 rfl (lv_at hl 0 rfl) ?_
        refine lv_iconst (v := 1) hx hb dX7_layBox_27 (by decide) ?_
        refine lv_iload_n hx hb dX7_layBox_28 rfl (lv_at hl 2 rfl) ?_
        obtain ⟨h11, hF⟩ := st_o hF
        refine va_iast hx hb hK hP hD hS 0 0 rfl rfl h11 dX7_layBox_29 (fun H locs hP hD hS => ?_)
        obtain ⟨b12, eb12⟩ : ∃ y : Nat → Int32, y = (upd b10 (1 : Int32).toNatClampNeg p2) := ⟨_, rfl⟩
        have hF := hF b12 eb12
        have hP : va_P D vwCl [(q_o, .inl (cy 0, n_o, .inl b12))] H := by rw [eb12]; exact hP
        have hD : va_D A [(q_o, .inl (cy 0, n_o, .inl b12))] := by rw [eb12]; exact hD
        refine lv_aload_n hx hb dX7_layBox_30 rfl (lv_at hl 0 rfl) ?_
        refine lv_iconst (v := 2) hx hb dX7_layBox_31 (by decide) ?_
        refine lv_iload_n hx hb dX7_layBox_32 rfl (lv_at hl 3 rfl) ?_
        obtain ⟨h13, hF⟩ := st_o hF
        refine va_iast hx hb hK hP hD hS 0 0 rfl rfl h13 dX7_layBox_33 (fun H locs hP hD hS => ?_)
        obtain ⟨b14, eb14⟩ : ∃ y : Nat → Int32, y = (upd b12 (2 : Int32).toNatClampNeg p3) := ⟨_, rfl⟩
        have hF := hF b14 eb14
        have hP : va_P D vwCl [(q_o, .inl (cy 0, n_o, .inl b14))] H := by rw [eb14]; exact hP
        have hD : va_D A [(q_o, .inl (cy 0, n_o, .inl b14))] := by rw [eb14]; exact hD
        refine lv_aload_n hx hb dX7_layBox_34 rfl (lv_at hl 0 rfl) ?_
        refine lv_iconst (v := 4) hx hb dX7_layBox_35 (by decide) ?_
        refine lv_bipush (v := 9) hx hb dX7_layBox_36 (by decide) ?_
        obtain ⟨h15, hF⟩ := st_o hF
        refine va_iast hx hb hK hP hD hS 0 0 rfl rfl h15 dX7_layBox_38 (fun H locs hP hD hS => ?_)
        obtain ⟨b16, eb16⟩ : ∃ y : Nat → Int32, y = (upd b14 (4 : Int32).toNatClampNeg (9 : Int32)) := ⟨_, rfl⟩
        have hF := hF b16 eb16
        have hP : va_P D vwCl [(q_o, .inl (cy 0, n_o, .inl b16))] H := by rw [eb16]; exact hP
        have hD : va_D A [(q_o, .inl (cy 0, n_o, .inl b16))] := by rw [eb16]; exact hD
        refine lv_aload_n hx hb dX7_layBox_39 rfl (lv_at hl 0 rfl) ?_
        refine lv_iconst (v := 5) hx hb dX7_layBox_40 (by decide) ?_
        refine lv_iconst (v := 3) hx hb dX7_layBox_41 (by decide) ?_
        obtain ⟨h17, hF⟩ := st_o hF
        refine va_iast hx hb hK hP hD hS 0 0 rfl rfl h17 dX7_layBox_42 (fun H locs hP hD hS => ?_)
        obtain ⟨b18, eb18⟩ : ∃ y : Nat → Int32, y = (upd b16 (5 : Int32).toNatClampNeg (3 : Int32)) := ⟨_, rfl⟩
        have hF := hF b18 eb18
        have hP : va_P D vwCl [(q_o, .inl (cy 0, n_o, .inl b18))] H := by rw [eb18]; exact hP
        have hD : va_D A [(q_o, .inl (cy 0, n_o, .inl b18))] := by rw [eb18]; exact hD
        refine lv_iconst (v := 0) hx hb dX7_layBox_43 (by decide) ?_
        refine lv_istore (lv' := [(4, .int (0 : Int32)), (0, .ref q_o), (1, .int p1), (2, .int p2), (3, .int p3)]) hx hb dX7_layBox_44 hl (by decide) rfl (fun ls hl => ?_)
        exact J46 FU (0 : Int32) b18 H locs ls hP hD hS (lv_sub hl [1, 2, 3, 4, 0] rfl) hF
      · have hF := if_n hF c8
        refine lv_aload_n hx hb dX7_layBox_11 rfl (lv_at hl 0 rfl) ?_
        refine lv_iload hx hb dX7_layBox_12 (lv_at hl 4 rfl) ?_
        refine lv_iconst (v := 0) hx hb dX7_layBox_14 (by decide) ?_
        obtain ⟨h19, hF⟩ := st_o hF
        refine va_iast hx hb hK hP hD hS 0 0 rfl rfl h19 dX7_layBox_15 (fun H locs hP hD hS => ?_)
        obtain ⟨b20, eb20⟩ : ∃ y : Nat → Int32, y = (upd o l4.toNatClampNeg (0 : Int32)) := ⟨_, rfl⟩
        have hF := hF b20 eb20
        have hP : va_P D vwCl [(q_o, .inl (cy 0, n_o, .inl b20))] H := by rw [eb20]; exact hP
        have hD : va_D A [(q_o, .inl (cy 0, n_o, .inl b20))] := by rw [eb20]; exact hD
        obtain ⟨v21, ev21⟩ : ∃ y : Int32, y = l4 + (1 : Int32) := ⟨_, rfl⟩
        have hF := nm_o hF v21 ev21
        refine lv_iinc (v := v21) (lv' := [(4, .int v21), (0, .ref q_o), (1, .int p1), (2, .int p2), (3, .int p3)]) hx hb dX7_layBox_16 hl (k := 4) rfl (by rw [ev21]; rfl) (by decide) rfl (fun ls hl => ?_)
        refine lv_goto (tgt := 3) hx hb dX7_layBox_19 (by decide) ?_
        exact ih3 v21 b20 H locs ls hP hD hS (lv_sub hl [1, 2, 3, 4, 0] rfl) hF
  have main : ∀ (H : Heap) (locs : List Loc) (ls : Array Slot), va_P D vwCl [(q_o, .inl (cy 0, n_o, .inl o))] H → va_D A [(q_o, .inl (cy 0, n_o, .inl o))] → va_S A s.heap H locs → lv_has ls 6 [(0, .ref q_o), (1, .int p1), (2, .int p2), (3, .int p3)] → W p l e ({ frames := 0, cells := 0, slots := 0, locals := 0 } : Room) s m args below meth c H locs 0 0 QQ (F0 m 0 ls []) := by
    intro H locs ls hP hD hS hl
    unfold X7_layBox at hF
    refine lv_iconst (v := 0) hx hb dX7_layBox_0 (by decide) ?_
    refine lv_istore (lv' := [(4, .int (0 : Int32)), (0, .ref q_o), (1, .int p1), (2, .int p2), (3, .int p3)]) hx hb dX7_layBox_1 hl (by decide) rfl (fun ls hl => ?_)
    exact J3 FU (0 : Int32) o H locs ls hP hD hS (lv_sub hl [1, 2, 3, 4, 0] rfl) hF
  exact main s.heap [] ls hP hD hS hl
theorem kd_X7_append : yX7_append.cls = RX7 ∧ yX7_append.cls ≠ "java/lang/invoke/MethodHandle" ∧ yX7_append.cls ≠ "java/lang/invoke/VarHandle" ∧ (parseMethodDescriptor yX7_append.desc).map (fun d => d.parameters.length) = some 5 := by decide +kernel
set_option maxHeartbeats 4000000 in
set_option maxRecDepth 100000 in
theorem c_X7_append {l : Launch} {D : va_G} {cy : Nat → ClassId} (q_o q_o_buffer : Nat) (sz : Nat) (x_o_textLength x_o_position x_o_error x_o_errorAt x_o_errorOffset x_o_data x_o_draft x_o_aside x_o_history x_o_undoDepth x_o_numberStart x_o_nesting x_o_seen x_o_toldPlanes x_o_stack x_o_facts : Value) (o_thrown : Int32) (o_bufferLength : Int32) (o_buffer : Nat → Int32) (p1 : Int32) (p2 : Int32) (p3 : Int32) (p4 : Int32) (p5 : Int32) (res : Int32 × Int32 × Int32 × (Nat → Int32)) (hF : X7_append o_thrown o_bufferLength o_buffer p1 p2 p3 p4 p5 = some res) : Met l yX7_append wsX7_append ({ frames := 0, cells := 0, slots := 0, locals := 0 } : Room) (kP (EN D cy) D [.ref q_o, .int p1, .int p2, .int p3, .int p4, .int p5] [(q_o, .inr (7, [.int o_thrown, .ref q_o_buffer, .int o_bufferLength, x_o_textLength, x_o_position, x_o_error, x_o_errorAt, x_o_errorOffset, x_o_data, x_o_draft, x_o_aside, x_o_history, x_o_undoDepth, x_o_numberStart, x_o_nesting, x_o_seen, x_o_toldPlanes, x_o_stack, x_o_facts])), (q_o_buffer, .inl (cy 0, 800, .inl o_buffer))] sz) (kQi D res.1 [(q_o, .inr (7, [.int res.2.1, .ref q_o_buffer, .int res.2.2.1, x_o_textLength, x_o_position, x_o_error, x_o_errorAt, x_o_errorOffset, x_o_data, x_o_draft, x_o_aside, x_o_history, x_o_undoDepth, x_o_numberStart, x_o_nesting, x_o_seen, x_o_toldPlanes, x_o_stack, x_o_facts])), (q_o_buffer, .inl (cy 0, 800, .inl res.2.2.2))] (va_A [(q_o, .inr (7, [.int o_thrown, .ref q_o_buffer, .int o_bufferLength, x_o_textLength, x_o_position, x_o_error, x_o_errorAt, x_o_errorOffset, x_o_data, x_o_draft, x_o_aside, x_o_history, x_o_undoDepth, x_o_numberStart, x_o_nesting, x_o_seen, x_o_toldPlanes, x_o_stack, x_o_facts])), (q_o_buffer, .inl (cy 0, 800, .inl o_buffer))] sz)) 0 0 (va_A [(q_o, .inr (7, [.int o_thrown, .ref q_o_buffer, .int o_bufferLength, x_o_textLength, x_o_position, x_o_error, x_o_errorAt, x_o_errorOffset, x_o_data, x_o_draft, x_o_aside, x_o_history, x_o_undoDepth, x_o_numberStart, x_o_nesting, x_o_seen, x_o_toldPlanes, x_o_stack, x_o_facts])), (q_o_buffer, .inl (cy 0, 800, .inl o_buffer))] sz) := by
  refine kMet (y := yX7_append) (av := [.ref q_o, .int p1, .int p2, .int p3, .int p4, .int p5]) (cc := cX7_append) (maxL := 8) (ret := some .int) (own := RX7) (Qc := fun A9 => (kQi D res.1 [(q_o, .inr (7, [.int res.2.1, .ref q_o_buffer, .int res.2.2.1, x_o_textLength, x_o_position, x_o_error, x_o_errorAt, x_o_errorOffset, x_o_data, x_o_draft, x_o_aside, x_o_history, x_o_undoDepth, x_o_numberStart, x_o_nesting, x_o_seen, x_o_toldPlanes, x_o_stack, x_o_facts])), (q_o_buffer, .inl (cy 0, 800, .inl res.2.2.2))] A9)) (by decide) rfl rfl (Nat.le_of_ble_eq_true rfl) ?_
  intro p e s m args below meth c A hx hb hr hts hown hml hlocks hname hE hP hD hA hsz ls hl
  have hK := hE.1
  have hl : lv_has ls 8 [(0, .ref q_o), (1, .int p1), (2, .int p2), (3, .int p3), (4, .int p4), (5, .int p5)] := hl
  have hS : va_S A s.heap s.heap [] := va_S.rf
  have f_f9 := hts (.fieldLink RX7 9 "PeepBoxModel" "buffer" "[I") (by decide +kernel)
  have f_inX7 : ∀ w ∈ wsX70, w ∈ wsX7_append := by decide +kernel
  have f_f45 := hts (.fieldLink RX7 45 "PeepBoxModel" "bufferLength" "I") (by decide +kernel)
  have f_f42 := hts (.fieldLink RX7 42 "PeepBoxModel" "thrown" "I") (by decide +kernel)
  obtain ⟨QQ, hQQ⟩ : ∃ Q9, Q9 = MQ below (kQi D res.1 [(q_o, .inr (7, [.int res.2.1, .ref q_o_buffer, .int res.2.2.1, x_o_textLength, x_o_position, x_o_error, x_o_errorAt, x_o_errorOffset, x_o_data, x_o_draft, x_o_aside, x_o_history, x_o_undoDepth, x_o_numberStart, x_o_nesting, x_o_seen, x_o_toldPlanes, x_o_stack, x_o_facts])), (q_o_buffer, .inl (cy 0, 800, .inl res.2.2.2))] A) args s 0 0 A := ⟨_, rfl⟩
  rw [← hQQ]
  have J23 : ∀ (n23 : Nat) (l6 : Int32) (o_thrown : Int32) (o_bufferLength : Int32) (o_buffer : Nat → Int32) (H : Heap) (locs : List Loc) (ls : Array Slot), va_P D vwCl [(q_o, .inr (7, [.int o_thrown, .ref q_o_buffer, .int o_bufferLength, x_o_textLength, x_o_position, x_o_error, x_o_errorAt, x_o_errorOffset, x_o_data, x_o_draft, x_o_aside, x_o_history, x_o_undoDepth, x_o_numberStart, x_o_nesting, x_o_seen, x_o_toldPlanes, x_o_stack, x_o_facts])), (q_o_buffer, .inl (cy 0, 800, .inl o_buffer))] H → va_D A [(q_o, .inr (7, [.int o_thrown, .ref q_o_buffer, .int o_bufferLength, x_o_textLength, x_o_position, x_o_error, x_o_errorAt, x_o_errorOffset, x_o_data, x_o_draft, x_o_aside, x_o_history, x_o_undoDepth, x_o_numberStart, x_o_nesting, x_o_seen, x_o_toldPlanes, x_o_stack, x_o_facts])), (q_o_buffer, .inl (cy 0, 800, .inl o_buffer))] → va_S A s.heap H locs → lv_has ls 8 [(0, .ref q_o), (1, .int p1), (2, .int p2), (3, .int p3), (4, .int p4), (5, .int p5), (6, .int l6)] → X7_append_L23 p1 p2 p3 p4 p5 n23 l6 o_thrown o_bufferLength o_buffer = some res → W p l e ({ frames := 0, cells := 0, slots := 0, locals := 0 } : Room) s m args below meth c H locs 0 0 QQ (F0 m 23 ls []) := by
    intro n23
    induction n23 with
    | zero =>
      intro l6 o_thrown o_bufferLength o_buffer H locs ls hP hD hS hl hF
      rw [X7_append_L23] at hF
      cases hF
    | succ n23 ih23 =>
      have J76 : ∀ (l6 : Int32) (k0 : Int32) (o_thrown : Int32) (o_bufferLength : Int32) (o_buffer : Nat → Int32) (H : Heap) (locs : List Loc) (ls : Array Slot), va_P D vwCl [(q_o, .inr (7, [.int o_thrown, .ref q_o_buffer, .int o_bufferLength, x_o_textLength, x_o_position, x_o_error, x_o_errorAt, x_o_errorOffset, x_o_data, x_o_draft, x_o_aside, x_o_history, x_o_undoDepth, x_o_numberStart, x_o_nesting, x_o_seen, x_o_toldPlanes, x_o_stack, x_o_facts])), (q_o_buffer, .inl (cy 0, 800, .inl o_buffer))] H → va_D A [(q_o, .inr (7, [.int o_thrown, .ref q_o_buffer, .int o_bufferLength, x_o_textLength, x_o_position, x_o_error, x_o_errorAt, x_o_errorOffset, x_o_data, x_o_draft, x_o_aside, x_o_history, x_o_undoDepth, x_o_numberStart, x_o_nesting, x_o_seen, x_o_toldPlanes, x_o_stack, x_o_facts])), (q_o_buffer, .inl (cy 0, 800, .inl o_buffer))] → va_S A s.heap H locs → lv_has ls 8 [(0, .ref q_o), (1, .int p1), (2, .int p2), (3, .int p3), (4, .int p4), (5, .int p5), (6, .int l6)] → X7_append_J76 p1 p2 p3 p4 p5 (fun z0 z1 z2 z3 => X7_append_L23 p1 p2 p3 p4 p5 n23 z0 z1 z2 z3) l6 k0 o_thrown o_bufferLength o_buffer = some res → W p l e ({ frames := 0, cells := 0, slots := 0, locals := 0 } : Room) s m args below meth c H locs 0 0 QQ (F0 m 76 ls [.int k0]) := by
        intro l6 k0 o_thrown o_bufferLength o_buffer H locs ls hP hD hS hl hF
        unfold X7_append_J76 at hF
        refine lv_istore (lv' := [(7, .int k0), (0, .ref q_o), (1, .int p1), (2, .int p2), (3, .int p3), (4, .int p4), (5, .int p5), (6, .int l6)]) hx hb dX7_append_76 hl (by decide) rfl (fun ls hl => ?_)
        refine lv_aload_n hx hb dX7_append_78 rfl (lv_at hl 1 rfl) ?_
        refine va_get (D := D) (ci := 7) (v := .ref q_o_buffer) (C := RX7) (T := TX7) (N := 19) hx hb hts f_inX7 hown hK hP 0 rfl rfl 1 (by decide) f_f9 (fun _ h9 => h9) rfl dX7_append_79 ?_
        refine lv_aload_n hx hb dX7_append_82 rfl (lv_at hl 1 rfl) ?_
        refine va_get (D := D) (ci := 7) (v := .int o_bufferLength) (C := RX7) (T := TX7) (N := 19) hx hb hts f_inX7 hown hK hP 0 rfl rfl 2 (by decide) f_f45 (fun _ h9 => h9) rfl dX7_append_83 ?_
        refine lv_iload hx hb dX7_append_86 (lv_at hl 0 rfl) ?_
        refine lv_bipush (v := 24) hx hb dX7_append_88 (by decide) ?_
        refine lv_bipush (v := 8) hx hb dX7_append_90 (by decide) ?_
        refine lv_iload hx hb dX7_append_92 (lv_at hl 7 rfl) ?_
        refine lv_iconst (v := 4) hx hb dX7_append_94 (by decide) ?_
        refine lv_irem hx hb dX7_append_95 (by decide) ?_
        refine lv_topi (fun v1 ev1 => ?_)
        have hF := nm_o hF v1 ev1
        refine lv_imul hx hb dX7_append_96 ?_
        refine lv_isub hx hb dX7_append_97 ?_
        refine lv_ishr hx hb dX7_append_98 ?_
        refine lv_sipush (v := 255) hx hb dX7_append_99 (by decide) ?_
        refine lv_iand hx hb dX7_append_102 ?_
        obtain ⟨h2, hF⟩ := st_o hF
        refine va_iast hx hb hK hP hD hS 1 0 rfl rfl h2 dX7_append_103 (fun H locs hP hD hS => ?_)
        obtain ⟨b3, eb3⟩ : ∃ y : Nat → Int32, y = (upd o_buffer o_bufferLength.toNatClampNeg ((k0 >>> (((24 : Int32) - ((8 : Int32) * v1)) &&& 31)) &&& (255 : Int32))) := ⟨_, rfl⟩
        have hF := hF b3 eb3
        have hP : va_P D vwCl [(q_o, .inr (7, [.int o_thrown, .ref q_o_buffer, .int o_bufferLength, x_o_textLength, x_o_position, x_o_error, x_o_errorAt, x_o_errorOffset, x_o_data, x_o_draft, x_o_aside, x_o_history, x_o_undoDepth, x_o_numberStart, x_o_nesting, x_o_seen, x_o_toldPlanes, x_o_stack, x_o_facts])), (q_o_buffer, .inl (cy 0, 800, .inl b3))] H := by rw [eb3]; exact hP
        have hD : va_D A [(q_o, .inr (7, [.int o_thrown, .ref q_o_buffer, .int o_bufferLength, x_o_textLength, x_o_position, x_o_error, x_o_errorAt, x_o_errorOffset, x_o_data, x_o_draft, x_o_aside, x_o_history, x_o_undoDepth, x_o_numberStart, x_o_nesting, x_o_seen, x_o_toldPlanes, x_o_stack, x_o_facts])), (q_o_buffer, .inl (cy 0, 800, .inl b3))] := by rw [eb3]; exact hD
        refine lv_aload_n hx hb dX7_append_104 rfl (lv_at hl 1 rfl) ?_
        refine lv_dup hx hb dX7_append_105 rfl ?_
        refine va_get (D := D) (ci := 7) (v := .int o_bufferLength) (C := RX7) (T := TX7) (N := 19) hx hb hts f_inX7 hown hK hP 0 rfl rfl 2 (by decide) f_f45 (fun _ h9 => h9) rfl dX7_append_106 ?_
        refine lv_iconst (v := 1) hx hb dX7_append_109 (by decide) ?_
        refine lv_iadd hx hb dX7_append_110 ?_
        refine lv_topi (fun v4 ev4 => ?_)
        have hF := nm_o hF v4 ev4
        refine va_put (D := D) (ci := 7) (v := .int v4) (ty := .int) (C := RX7) (T := TX7) (N := 19) hx hb hts f_inX7 tyX7 tyX7_ok nmX7 hown hK hP hD hS 0 rfl rfl 2 (by decide) f_f45 (fun _ h9 => h9) rfl (by decide +kernel) rfl rfl (Nat.le_of_ble_eq_true rfl) dX7_append_111 (fun H locs hP hD hS => ?_)
        have hP : va_P D vwCl [(q_o, .inr (7, [.int o_thrown, .ref q_o_buffer, .int v4, x_o_textLength, x_o_position, x_o_error, x_o_errorAt, x_o_errorOffset, x_o_data, x_o_draft, x_o_aside, x_o_history, x_o_undoDepth, x_o_numberStart, x_o_nesting, x_o_seen, x_o_toldPlanes, x_o_stack, x_o_facts])), (q_o_buffer, .inl (cy 0, 800, .inl b3))] H := hP
        have hD : va_D A [(q_o, .inr (7, [.int o_thrown, .ref q_o_buffer, .int v4, x_o_textLength, x_o_position, x_o_error, x_o_errorAt, x_o_errorOffset, x_o_data, x_o_draft, x_o_aside, x_o_history, x_o_undoDepth, x_o_numberStart, x_o_nesting, x_o_seen, x_o_toldPlanes, x_o_stack, x_o_facts])), (q_o_buffer, .inl (cy 0, 800, .inl b3))] := hD
        obtain ⟨v5, ev5⟩ : ∃ y : Int32, y = l6 + (1 : Int32) := ⟨_, rfl⟩
        have hF := nm_o hF v5 ev5
        refine lv_iinc (v := v5) (lv' := [(6, .int v5), (7, .int k0), (0, .ref q_o), (1, .int p1), (2, .int p2), (3, .int p3), (4, .int p4), (5, .int p5)]) hx hb dX7_append_114 hl (k := 7) rfl (by rw [ev5]; rfl) (by decide) rfl (fun ls hl => ?_)
        refine lv_goto (tgt := 23) hx hb dX7_append_117 (by decide) ?_
        exact ih23 v5 o_thrown v4 b3 H locs ls hP hD hS (lv_sub hl [2, 3, 4, 5, 6, 7, 0] rfl) hF
      intro l6 o_thrown o_bufferLength o_buffer H locs ls hP hD hS hl hF
      rw [X7_append_L23] at hF
      refine lv_iload hx hb dX7_append_23 (lv_at hl 6 rfl) ?_
      refine lv_bipush (v := 20) hx hb dX7_append_25 (by decide) ?_
      refine lv_icmp_ge (tgt := 120) hx hb dX7_append_27 (by decide) (fun c6 => ?_) (fun c6 => ?_)
      · have hF := if_p hF c6
        refine lv_aload_n hx hb dX7_append_120 rfl (lv_at hl 0 rfl) ?_
        refine va_get (D := D) (ci := 7) (v := .int o_bufferLength) (C := RX7) (T := TX7) (N := 19) hx hb hts f_inX7 hown hK hP 0 rfl rfl 2 (by decide) f_f45 (fun _ h9 => h9) rfl dX7_append_121 ?_
        obtain rfl := so_o hF
        rw [hQQ]
        exact kr_i hx hb hr hlocks hP hD hS dX7_append_124
      · have hF := if_n hF c6
        refine lv_iload hx hb dX7_append_30 (lv_at hl 6 rfl) ?_
        refine lv_iconst (v := 4) hx hb dX7_append_32 (by decide) ?_
        refine lv_icmp_ge (tgt := 40) hx hb dX7_append_33 (by decide) (fun c7 => ?_) (fun c7 => ?_)
        · have hF := if_p hF c7
          refine lv_iload hx hb dX7_append_40 (lv_at hl 6 rfl) ?_
          refine lv_bipush (v := 8) hx hb dX7_append_42 (by decide) ?_
          refine lv_icmp_ge (tgt := 51) hx hb dX7_append_44 (by decide) (fun c8 => ?_) (fun c8 => ?_)
          · have hF := if_p hF c8
            refine lv_iload hx hb dX7_append_51 (lv_at hl 6 rfl) ?_
            refine lv_bipush (v := 12) hx hb dX7_append_53 (by decide) ?_
            refine lv_icmp_ge (tgt := 62) hx hb dX7_append_55 (by decide) (fun c9 => ?_) (fun c9 => ?_)
            · have hF := if_p hF c9
              refine lv_iload hx hb dX7_append_62 (lv_at hl 6 rfl) ?_
              refine lv_bipush (v := 16) hx hb dX7_append_64 (by decide) ?_
              refine lv_icmp_ge (tgt := 74) hx hb dX7_append_66 (by decide) (fun c10 => ?_) (fun c10 => ?_)
              · have hF := if_p hF c10
                refine lv_iload hx hb dX7_append_74 (lv_at hl 5 rfl) ?_
                exact J76 l6 p5 o_thrown o_bufferLength o_buffer H locs ls hP hD hS (lv_sub hl [0, 1, 2, 3, 4, 5, 6] rfl) hF
              · have hF := if_n hF c10
                refine lv_iload hx hb dX7_append_69 (lv_at hl 4 rfl) ?_
                refine lv_goto (tgt := 76) hx hb dX7_append_71 (by decide) ?_
                exact J76 l6 p4 o_thrown o_bufferLength o_buffer H locs ls hP hD hS (lv_sub hl [0, 1, 2, 3, 4, 5, 6] rfl) hF
            · have hF := if_n hF c9
              refine lv_iload_n hx hb dX7_append_58 rfl (lv_at hl 3 rfl) ?_
              refine lv_goto (tgt := 76) hx hb dX7_append_59 (by decide) ?_
              exact J76 l6 p3 o_thrown o_bufferLength o_buffer H locs ls hP hD hS (lv_sub hl [0, 1, 2, 3, 4, 5, 6] rfl) hF
          · have hF := if_n hF c8
            refine lv_iload_n hx hb dX7_append_47 rfl (lv_at hl 2 rfl) ?_
            refine lv_goto (tgt := 76) hx hb dX7_append_48 (by decide) ?_
            exact J76 l6 p2 o_thrown o_bufferLength o_buffer H locs ls hP hD hS (lv_sub hl [0, 1, 2, 3, 4, 5, 6] rfl) hF
        · have hF := if_n hF c7
          refine lv_iload_n hx hb dX7_append_36 rfl (lv_at hl 1 rfl) ?_
          refine lv_goto (tgt := 76) hx hb dX7_append_37 (by decide) ?_
          exact J76 l6 p1 o_thrown o_bufferLength o_buffer H locs ls hP hD hS (lv_sub hl [0, 1, 2, 3, 4, 5, 6] rfl) hF
  have main : ∀ (H : Heap) (locs : List Loc) (ls : Array Slot), va_P D vwCl [(q_o, .inr (7, [.int o_thrown, .ref q_o_buffer, .int o_bufferLength, x_o_textLength, x_o_position, x_o_error, x_o_errorAt, x_o_errorOffset, x_o_data, x_o_draft, x_o_aside, x_o_history, x_o_undoDepth, x_o_numberStart, x_o_nesting, x_o_seen, x_o_toldPlanes, x_o_stack, x_o_facts])), (q_o_buffer, .inl (cy 0, 800, .inl o_buffer))] H → va_D A [(q_o, .inr (7, [.int o_thrown, .ref q_o_buffer, .int o_bufferLength, x_o_textLength, x_o_position, x_o_error, x_o_errorAt, x_o_errorOffset, x_o_data, x_o_draft, x_o_aside, x_o_history, x_o_undoDepth, x_o_numberStart, x_o_nesting, x_o_seen, x_o_toldPlanes, x_o_stack, x_o_facts])), (q_o_buffer, .inl (cy 0, 800, .inl o_buffer))] → va_S A s.heap H locs → lv_has ls 8 [(0, .ref q_o), (1, .int p1), (2, .int p2), (3, .int p3), (4, .int p4), (5, .int p5)] → W p l e ({ frames := 0, cells := 0, slots := 0, locals := 0 } : Room) s m args below meth c H locs 0 0 QQ (F0 m 0 ls []) := by
    intro H locs ls hP hD hS hl
    unfold X7_append at hF
    refine lv_aload_n hx hb dX7_append_0 rfl (lv_at hl 0 rfl) ?_
    refine lv_iconst (v := 0) hx hb dX7_append_1 (by decide) ?_
    refine va_put (D := D) (ci := 7) (v := .int (0 : Int32)) (ty := .int) (C := RX7) (T := TX7) (N := 19) hx hb hts f_inX7 tyX7 tyX7_ok nmX7 hown hK hP hD hS 0 rfl rfl 0 (by decide) f_f42 (fun _ h9 => h9) rfl (by decide +kernel) rfl rfl (Nat.le_of_ble_eq_true rfl) dX7_append_2 (fun H locs hP hD hS => ?_)
    have hP : va_P D vwCl [(q_o, .inr (7, [.int (0 : Int32), .ref q_o_buffer, .int o_bufferLength, x_o_textLength, x_o_position, x_o_error, x_o_errorAt, x_o_errorOffset, x_o_data, x_o_draft, x_o_aside, x_o_history, x_o_undoDepth, x_o_numberStart, x_o_nesting, x_o_seen, x_o_toldPlanes, x_o_stack, x_o_facts])), (q_o_buffer, .inl (cy 0, 800, .inl o_buffer))] H := hP
    have hD : va_D A [(q_o, .inr (7, [.int (0 : Int32), .ref q_o_buffer, .int o_bufferLength, x_o_textLength, x_o_position, x_o_error, x_o_errorAt, x_o_errorOffset, x_o_data, x_o_draft, x_o_aside, x_o_history, x_o_undoDepth, x_o_numberStart, x_o_nesting, x_o_seen, x_o_toldPlanes, x_o_stack, x_o_facts])), (q_o_buffer, .inl (cy 0, 800, .inl o_buffer))] := hD
    refine lv_aload_n hx hb dX7_append_5 rfl (lv_at hl 0 rfl) ?_
    refine va_get (D := D) (ci := 7) (v := .int o_bufferLength) (C := RX7) (T := TX7) (N := 19) hx hb hts f_inX7 hown hK hP 0 rfl rfl 2 (by decide) f_f45 (fun _ h9 => h9) rfl dX7_append_6 ?_
    refine lv_bipush (v := 20) hx hb dX7_append_9 (by decide) ?_
    refine lv_iadd hx hb dX7_append_11 ?_
    refine lv_sipush (v := 800) hx hb dX7_append_12 (by decide) ?_
    refine lv_icmp_le (tgt := 20) hx hb dX7_append_15 (by decide) (fun c11 => ?_) (fun c11 => ?_)
    · have hF := if_p hF c11
      refine lv_iconst (v := 0) hx hb dX7_append_20 (by decide) ?_
      refine lv_istore (lv' := [(6, .int (0 : Int32)), (0, .ref q_o), (1, .int p1), (2, .int p2), (3, .int p3), (4, .int p4), (5, .int p5)]) hx hb dX7_append_21 hl (by decide) rfl (fun ls hl => ?_)
      exact J23 FU (0 : Int32) (0 : Int32) o_bufferLength o_buffer H locs ls hP hD hS (lv_sub hl [1, 2, 3, 4, 5, 6, 0] rfl) hF
    · have hF := if_n hF c11
      refine lv_iconst (v := -1) hx hb dX7_append_18 (by decide) ?_
      obtain rfl := so_o hF
      rw [hQQ]
      exact kr_i hx hb hr hlocks hP hD hS dX7_append_19
  exact main s.heap [] ls hP hD hS hl
theorem kd_X7_byteAt : yX7_byteAt.cls = RX7 ∧ yX7_byteAt.cls ≠ "java/lang/invoke/MethodHandle" ∧ yX7_byteAt.cls ≠ "java/lang/invoke/VarHandle" ∧ (parseMethodDescriptor yX7_byteAt.desc).map (fun d => d.parameters.length) = some 1 := by decide +kernel
set_option maxHeartbeats 4000000 in
set_option maxRecDepth 100000 in
theorem c_X7_byteAt {l : Launch} {D : va_G} {cy : Nat → ClassId} (q_o q_o_buffer : Nat) (sz : Nat) (x_o_thrown x_o_bufferLength x_o_position x_o_error x_o_errorAt x_o_errorOffset x_o_data x_o_draft x_o_aside x_o_history x_o_undoDepth x_o_numberStart x_o_nesting x_o_seen x_o_toldPlanes x_o_stack x_o_facts : Value) (o_textLength : Int32) (o_buffer : Nat → Int32) (p1 : Int32) (res : Int32) (hF : X7_byteAt o_textLength o_buffer p1 = some res) : Met l yX7_byteAt wsX7_byteAt ({ frames := 0, cells := 0, slots := 0, locals := 0 } : Room) (kP (EN D cy) D [.ref q_o, .int p1] [(q_o, .inr (7, [x_o_thrown, .ref q_o_buffer, x_o_bufferLength, .int o_textLength, x_o_position, x_o_error, x_o_errorAt, x_o_errorOffset, x_o_data, x_o_draft, x_o_aside, x_o_history, x_o_undoDepth, x_o_numberStart, x_o_nesting, x_o_seen, x_o_toldPlanes, x_o_stack, x_o_facts])), (q_o_buffer, .inl (cy 0, 800, .inl o_buffer))] sz) (kQi D res [(q_o, .inr (7, [x_o_thrown, .ref q_o_buffer, x_o_bufferLength, .int o_textLength, x_o_position, x_o_error, x_o_errorAt, x_o_errorOffset, x_o_data, x_o_draft, x_o_aside, x_o_history, x_o_undoDepth, x_o_numberStart, x_o_nesting, x_o_seen, x_o_toldPlanes, x_o_stack, x_o_facts])), (q_o_buffer, .inl (cy 0, 800, .inl o_buffer))] (va_A [(q_o, .inr (7, [x_o_thrown, .ref q_o_buffer, x_o_bufferLength, .int o_textLength, x_o_position, x_o_error, x_o_errorAt, x_o_errorOffset, x_o_data, x_o_draft, x_o_aside, x_o_history, x_o_undoDepth, x_o_numberStart, x_o_nesting, x_o_seen, x_o_toldPlanes, x_o_stack, x_o_facts])), (q_o_buffer, .inl (cy 0, 800, .inl o_buffer))] sz)) 0 0 (va_A [(q_o, .inr (7, [x_o_thrown, .ref q_o_buffer, x_o_bufferLength, .int o_textLength, x_o_position, x_o_error, x_o_errorAt, x_o_errorOffset, x_o_data, x_o_draft, x_o_aside, x_o_history, x_o_undoDepth, x_o_numberStart, x_o_nesting, x_o_seen, x_o_toldPlanes, x_o_stack, x_o_facts])), (q_o_buffer, .inl (cy 0, 800, .inl o_buffer))] sz) := by
  refine kMet (y := yX7_byteAt) (av := [.ref q_o, .int p1]) (cc := cX7_byteAt) (maxL := 2) (ret := some .int) (own := RX7) (Qc := fun A9 => (kQi D res [(q_o, .inr (7, [x_o_thrown, .ref q_o_buffer, x_o_bufferLength, .int o_textLength, x_o_position, x_o_error, x_o_errorAt, x_o_errorOffset, x_o_data, x_o_draft, x_o_aside, x_o_history, x_o_undoDepth, x_o_numberStart, x_o_nesting, x_o_seen, x_o_toldPlanes, x_o_stack, x_o_facts])), (q_o_buffer, .inl (cy 0, 800, .inl o_buffer))] A9)) (by decide) rfl rfl (Nat.le_of_ble_eq_true rfl) ?_
  intro p e s m args below meth c A hx hb hr hts hown hml hlocks hname hE hP hD hA hsz ls hl
  have hK := hE.1
  have hl : lv_has ls 2 [(0, .ref q_o), (1, .int p1)] := hl
  have hS : va_S A s.heap s.heap [] := va_S.rf
  have f_f48 := hts (.fieldLink RX7 48 "PeepBoxModel" "textLength" "I") (by decide +kernel)
  have f_inX7 : ∀ w ∈ wsX70, w ∈ wsX7_byteAt := by decide +kernel
  have f_f9 := hts (.fieldLink RX7 9 "PeepBoxModel" "buffer" "[I") (by decide +kernel)
  obtain ⟨QQ, hQQ⟩ : ∃ Q9, Q9 = MQ below (kQi D res [(q_o, .inr (7, [x_o_thrown, .ref q_o_buffer, x_o_bufferLength, .int o_textLength, x_o_position, x_o_error, x_o_errorAt, x_o_errorOffset, x_o_data, x_o_draft, x_o_aside, x_o_history, x_o_undoDepth, x_o_numberStart, x_o_nesting, x_o_seen, x_o_toldPlanes, x_o_stack, x_o_facts])), (q_o_buffer, .inl (cy 0, 800, .inl o_buffer))] A) args s 0 0 A := ⟨_, rfl⟩
  rw [← hQQ]
  have main : ∀ (H : Heap) (locs : List Loc) (ls : Array Slot), va_P D vwCl [(q_o, .inr (7, [x_o_thrown, .ref q_o_buffer, x_o_bufferLength, .int o_textLength, x_o_position, x_o_error, x_o_errorAt, x_o_errorOffset, x_o_data, x_o_draft, x_o_aside, x_o_history, x_o_undoDepth, x_o_numberStart, x_o_nesting, x_o_seen, x_o_toldPlanes, x_o_stack, x_o_facts])), (q_o_buffer, .inl (cy 0, 800, .inl o_buffer))] H → va_D A [(q_o, .inr (7, [x_o_thrown, .ref q_o_buffer, x_o_bufferLength, .int o_textLength, x_o_position, x_o_error, x_o_errorAt, x_o_errorOffset, x_o_data, x_o_draft, x_o_aside, x_o_history, x_o_undoDepth, x_o_numberStart, x_o_nesting, x_o_seen, x_o_toldPlanes, x_o_stack, x_o_facts])), (q_o_buffer, .inl (cy 0, 800, .inl o_buffer))] → va_S A s.heap H locs → lv_has ls 2 [(0, .ref q_o), (1, .int p1)] → W p l e ({ frames := 0, cells := 0, slots := 0, locals := 0 } : Room) s m args below meth c H locs 0 0 QQ (F0 m 0 ls []) := by
    intro H locs ls hP hD hS hl
    unfold X7_byteAt at hF
    refine lv_iload_n hx hb dX7_byteAt_0 rfl (lv_at hl 1 rfl) ?_
    refine lv_aload_n hx hb dX7_byteAt_1 rfl (lv_at hl 0 rfl) ?_
    refine va_get (D := D) (ci := 7) (v := .int o_textLength) (C := RX7) (T := TX7) (N := 19) hx hb hts f_inX7 hown hK hP 0 rfl rfl 3 (by decide) f_f48 (fun _ h9 => h9) rfl dX7_byteAt_2 ?_
    refine lv_icmp_ge (tgt := 17) hx hb dX7_byteAt_5 (by decide) (fun c1 => ?_) (fun c1 => ?_)
    · have hF := if_p hF c1
      refine lv_iconst (v := -1) hx hb dX7_byteAt_17 (by decide) ?_
      obtain rfl := so_o hF
      rw [hQQ]
      exact kr_i hx hb hr hlocks hP hD hS dX7_byteAt_18
    · have hF := if_n hF c1
      refine lv_aload_n hx hb dX7_byteAt_8 rfl (lv_at hl 0 rfl) ?_
      refine va_get (D := D) (ci := 7) (v := .ref q_o_buffer) (C := RX7) (T := TX7) (N := 19) hx hb hts f_inX7 hown hK hP 0 rfl rfl 1 (by decide) f_f9 (fun _ h9 => h9) rfl dX7_byteAt_9 ?_
      refine lv_iload_n hx hb dX7_byteAt_12 rfl (lv_at hl 1 rfl) ?_
      obtain ⟨h2, hF⟩ := ld_o hF
      refine va_iald hx hb hK hP 1 0 rfl rfl h2 dX7_byteAt_13 ?_
      refine lv_topi (fun v3 ev3 => ?_)
      have hF := hF v3 ev3
      refine lv_goto (tgt := 18) hx hb dX7_byteAt_14 (by decide) ?_
      obtain rfl := so_o hF
      rw [hQQ]
      exact kr_i hx hb hr hlocks hP hD hS dX7_byteAt_18
  exact main s.heap [] ls hP hD hS hl
theorem kd_X7_ahead : yX7_ahead.cls = RX7 ∧ yX7_ahead.cls ≠ "java/lang/invoke/MethodHandle" ∧ yX7_ahead.cls ≠ "java/lang/invoke/VarHandle" ∧ (parseMethodDescriptor yX7_ahead.desc).map (fun d => d.parameters.length) = some 0 := by decide +kernel
set_option maxHeartbeats 4000000 in
set_option maxRecDepth 100000 in
theorem c_X7_ahead {l : Launch} {D : va_G} {cy : Nat → ClassId} (q_o q_o_buffer : Nat) (sz : Nat) (x_o_thrown x_o_bufferLength x_o_error x_o_errorAt x_o_errorOffset x_o_data x_o_draft x_o_aside x_o_history x_o_undoDepth x_o_numberStart x_o_nesting x_o_seen x_o_toldPlanes x_o_stack x_o_facts : Value) (o_textLength : Int32) (o_position : Int32) (o_buffer : Nat → Int32) (res : Int32 × Int32) (hF : X7_ahead o_textLength o_position o_buffer = some res) : Met l yX7_ahead wsX7_ahead ({ frames := 1, cells := 0, slots := 0, locals := 21 } : Room) (kP (EN D cy) D [.ref q_o] [(q_o, .inr (7, [x_o_thrown, .ref q_o_buffer, x_o_bufferLength, .int o_textLength, .int o_position, x_o_error, x_o_errorAt, x_o_errorOffset, x_o_data, x_o_draft, x_o_aside, x_o_history, x_o_undoDepth, x_o_numberStart, x_o_nesting, x_o_seen, x_o_toldPlanes, x_o_stack, x_o_facts])), (q_o_buffer, .inl (cy 0, 800, .inl o_buffer))] sz) (kQi D res.1 [(q_o, .inr (7, [x_o_thrown, .ref q_o_buffer, x_o_bufferLength, .int o_textLength, .int res.2, x_o_error, x_o_errorAt, x_o_errorOffset, x_o_data, x_o_draft, x_o_aside, x_o_history, x_o_undoDepth, x_o_numberStart, x_o_nesting, x_o_seen, x_o_toldPlanes, x_o_stack, x_o_facts])), (q_o_buffer, .inl (cy 0, 800, .inl o_buffer))] (va_A [(q_o, .inr (7, [x_o_thrown, .ref q_o_buffer, x_o_bufferLength, .int o_textLength, .int o_position, x_o_error, x_o_errorAt, x_o_errorOffset, x_o_data, x_o_draft, x_o_aside, x_o_history, x_o_undoDepth, x_o_numberStart, x_o_nesting, x_o_seen, x_o_toldPlanes, x_o_stack, x_o_facts])), (q_o_buffer, .inl (cy 0, 800, .inl o_buffer))] sz)) 0 0 (va_A [(q_o, .inr (7, [x_o_thrown, .ref q_o_buffer, x_o_bufferLength, .int o_textLength, .int o_position, x_o_error, x_o_errorAt, x_o_errorOffset, x_o_data, x_o_draft, x_o_aside, x_o_history, x_o_undoDepth, x_o_numberStart, x_o_nesting, x_o_seen, x_o_toldPlanes, x_o_stack, x_o_facts])), (q_o_buffer, .inl (cy 0, 800, .inl o_buffer))] sz) := by
  refine kMet (y := yX7_ahead) (av := [.ref q_o]) (cc := cX7_ahead) (maxL := 1) (ret := some .int) (own := RX7) (Qc := fun A9 => (kQi D res.1 [(q_o, .inr (7, [x_o_thrown, .ref q_o_buffer, x_o_bufferLength, .int o_textLength, .int res.2, x_o_error, x_o_errorAt, x_o_errorOffset, x_o_data, x_o_draft, x_o_aside, x_o_history, x_o_undoDepth, x_o_numberStart, x_o_nesting, x_o_seen, x_o_toldPlanes, x_o_stack, x_o_facts])), (q_o_buffer, .inl (cy 0, 800, .inl o_buffer))] A9)) (by decide) rfl rfl (Nat.le_of_ble_eq_true rfl) ?_
  intro p e s m args below meth c A hx hb hr hts hown hml hlocks hname hE hP hD hA hsz ls hl
  have hK := hE.1
  have hl : lv_has ls 1 [(0, .ref q_o)] := hl
  have hS : va_S A s.heap s.heap [] := va_S.rf
  have f_f51 := hts (.fieldLink RX7 51 "PeepBoxModel" "position" "I") (by decide +kernel)
  have f_inX7 : ∀ w ∈ wsX70, w ∈ wsX7_ahead := by decide +kernel
  obtain ⟨QQ, hQQ⟩ : ∃ Q9, Q9 = MQ below (kQi D res.1 [(q_o, .inr (7, [x_o_thrown, .ref q_o_buffer, x_o_bufferLength, .int o_textLength, .int res.2, x_o_error, x_o_errorAt, x_o_errorOffset, x_o_data, x_o_draft, x_o_aside, x_o_history, x_o_undoDepth, x_o_numberStart, x_o_nesting, x_o_seen, x_o_toldPlanes, x_o_stack, x_o_facts])), (q_o_buffer, .inl (cy 0, 800, .inl o_buffer))] A) args s 0 0 A := ⟨_, rfl⟩
  rw [← hQQ]
  have J0 : ∀ (n0 : Nat) (o_position : Int32) (H : Heap) (locs : List Loc) (ls : Array Slot), va_P D vwCl [(q_o, .inr (7, [x_o_thrown, .ref q_o_buffer, x_o_bufferLength, .int o_textLength, .int o_position, x_o_error, x_o_errorAt, x_o_errorOffset, x_o_data, x_o_draft, x_o_aside, x_o_history, x_o_undoDepth, x_o_numberStart, x_o_nesting, x_o_seen, x_o_toldPlanes, x_o_stack, x_o_facts])), (q_o_buffer, .inl (cy 0, 800, .inl o_buffer))] H → va_D A [(q_o, .inr (7, [x_o_thrown, .ref q_o_buffer, x_o_bufferLength, .int o_textLength, .int o_position, x_o_error, x_o_errorAt, x_o_errorOffset, x_o_data, x_o_draft, x_o_aside, x_o_history, x_o_undoDepth, x_o_numberStart, x_o_nesting, x_o_seen, x_o_toldPlanes, x_o_stack, x_o_facts])), (q_o_buffer, .inl (cy 0, 800, .inl o_buffer))] → va_S A s.heap H locs → lv_has ls 1 [(0, .ref q_o)] → X7_ahead_L0 o_textLength o_buffer n0 o_position = some res → W p l e ({ frames := 1, cells := 0, slots := 0, locals := 21 } : Room) s m args below meth c H locs 0 0 QQ (F0 m 0 ls []) := by
    intro n0
    induction n0 with
    | zero =>
      intro o_position H locs ls hP hD hS hl hF
      rw [X7_ahead_L0] at hF
      cases hF
    | succ n0 ih0 =>
      intro o_position H locs ls hP hD hS hl hF
      rw [X7_ahead_L0] at hF
      refine lv_aload_n hx hb dX7_ahead_0 rfl (lv_at hl 0 rfl) ?_
      refine lv_aload_n hx hb dX7_ahead_1 rfl (lv_at hl 0 rfl) ?_
      refine va_get (D := D) (ci := 7) (v := .int o_position) (C := RX7) (T := TX7) (N := 19) hx hb hts f_inX7 hown hK hP 0 rfl rfl 4 (by decide) f_f51 (fun _ h9 => h9) rfl dX7_ahead_2 ?_
      obtain ⟨r1, h2, hF⟩ := bn1_o hF
      refine kd_i [(q_o, .inr (7, [x_o_thrown, .ref q_o_buffer, x_o_bufferLength, .int o_textLength, .int o_position, x_o_error, x_o_errorAt, x_o_errorOffset, x_o_data, x_o_draft, x_o_aside, x_o_history, x_o_undoDepth, x_o_numberStart, x_o_nesting, x_o_seen, x_o_toldPlanes, x_o_stack, x_o_facts])), (q_o_buffer, .inl (cy 0, 800, .inl o_buffer))] (va_runV (As := [.int o_position]) (rest := []) ⟨hx, hb, hml, hown, hts⟩ (c_X7_byteAt q_o q_o_buffer H.size x_o_thrown x_o_bufferLength (.int o_position) x_o_error x_o_errorAt x_o_errorOffset x_o_data x_o_draft x_o_aside x_o_history x_o_undoDepth x_o_numberStart x_o_nesting x_o_seen x_o_toldPlanes x_o_stack x_o_facts o_textLength o_buffer o_position _ h2) (cwV 1 hts gX7_ahead_X7_byteAt rfl rfl rfl kd_X7_byteAt ⟨Nat.le_of_ble_eq_true rfl, Nat.le_of_ble_eq_true rfl⟩) ⟨kP_blind (EN_ok D cy) D _ _ _, va_recv hK hP (ci := 7) (q0 := 0) rfl rfl, kStart (EN_ok D cy) hE hP hD hS hA [0, 1] rfl rfl _⟩ rfl rfl hl.1 rfl (lv_room (Nat.le_of_ble_eq_true rfl)) dX7_ahead_5 ⟨Nat.zero_le _, Nat.zero_le _⟩) hP hD hS hA [0, 1] [] rfl rfl rfl 2 rfl (by decide +kernel) (fun H locs hP hD hS => ?_)
      refine lv_bipush (v := 32) hx hb dX7_ahead_8 (by decide) ?_
      refine lv_icmp_ne (tgt := 26) hx hb dX7_ahead_10 (by decide) (fun c3 => ?_) (fun c3 => ?_)
      · have hF := if_n hF c3
        refine lv_aload_n hx hb dX7_ahead_26 rfl (lv_at hl 0 rfl) ?_
        refine lv_aload_n hx hb dX7_ahead_27 rfl (lv_at hl 0 rfl) ?_
        refine va_get (D := D) (ci := 7) (v := .int o_position) (C := RX7) (T := TX7) (N := 19) hx hb hts f_inX7 hown hK hP 0 rfl rfl 4 (by decide) f_f51 (fun _ h9 => h9) rfl dX7_ahead_28 ?_
        obtain ⟨r4, h5, hF⟩ := bn1_o hF
        refine kd_i [(q_o, .inr (7, [x_o_thrown, .ref q_o_buffer, x_o_bufferLength, .int o_textLength, .int o_position, x_o_error, x_o_errorAt, x_o_errorOffset, x_o_data, x_o_draft, x_o_aside, x_o_history, x_o_undoDepth, x_o_numberStart, x_o_nesting, x_o_seen, x_o_toldPlanes, x_o_stack, x_o_facts])), (q_o_buffer, .inl (cy 0, 800, .inl o_buffer))] (va_runV (As := [.int o_position]) (rest := []) ⟨hx, hb, hml, hown, hts⟩ (c_X7_byteAt q_o q_o_buffer H.size x_o_thrown x_o_bufferLength (.int o_position) x_o_error x_o_errorAt x_o_errorOffset x_o_data x_o_draft x_o_aside x_o_history x_o_undoDepth x_o_numberStart x_o_nesting x_o_seen x_o_toldPlanes x_o_stack x_o_facts o_textLength o_buffer o_position _ h5) (cwV 1 hts gX7_ahead_X7_byteAt rfl rfl rfl kd_X7_byteAt ⟨Nat.le_of_ble_eq_true rfl, Nat.le_of_ble_eq_true rfl⟩) ⟨kP_blind (EN_ok D cy) D _ _ _, va_recv hK hP (ci := 7) (q0 := 0) rfl rfl, kStart (EN_ok D cy) hE hP hD hS hA [0, 1] rfl rfl _⟩ rfl rfl hl.1 rfl (lv_room (Nat.le_of_ble_eq_true rfl)) dX7_ahead_31 ⟨Nat.zero_le _, Nat.zero_le _⟩) hP hD hS hA [0, 1] [] rfl rfl rfl 2 rfl (by decide +kernel) (fun H locs hP hD hS => ?_)
        obtain rfl := so_o hF
        rw [hQQ]
        exact kr_i hx hb hr hlocks hP hD hS dX7_ahead_34
      · have hF := if_p hF c3
        refine lv_aload_n hx hb dX7_ahead_13 rfl (lv_at hl 0 rfl) ?_
        refine lv_dup hx hb dX7_ahead_14 rfl ?_
        refine va_get (D := D) (ci := 7) (v := .int o_position) (C := RX7) (T := TX7) (N := 19) hx hb hts f_inX7 hown hK hP 0 rfl rfl 4 (by decide) f_f51 (fun _ h9 => h9) rfl dX7_ahead_15 ?_
        refine lv_iconst (v := 1) hx hb dX7_ahead_18 (by decide) ?_
        refine lv_iadd hx hb dX7_ahead_19 ?_
        refine lv_topi (fun v6 ev6 => ?_)
        have hF := nm_o hF v6 ev6
        refine va_put (D := D) (ci := 7) (v := .int v6) (ty := .int) (C := RX7) (T := TX7) (N := 19) hx hb hts f_inX7 tyX7 tyX7_ok nmX7 hown hK hP hD hS 0 rfl rfl 4 (by decide) f_f51 (fun _ h9 => h9) rfl (by decide +kernel) rfl rfl (Nat.le_of_ble_eq_true rfl) dX7_ahead_20 (fun H locs hP hD hS => ?_)
        have hP : va_P D vwCl [(q_o, .inr (7, [x_o_thrown, .ref q_o_buffer, x_o_bufferLength, .int o_textLength, .int v6, x_o_error, x_o_errorAt, x_o_errorOffset, x_o_data, x_o_draft, x_o_aside, x_o_history, x_o_undoDepth, x_o_numberStart, x_o_nesting, x_o_seen, x_o_toldPlanes, x_o_stack, x_o_facts])), (q_o_buffer, .inl (cy 0, 800, .inl o_buffer))] H := hP
        have hD : va_D A [(q_o, .inr (7, [x_o_thrown, .ref q_o_buffer, x_o_bufferLength, .int o_textLength, .int v6, x_o_error, x_o_errorAt, x_o_errorOffset, x_o_data, x_o_draft, x_o_aside, x_o_history, x_o_undoDepth, x_o_numberStart, x_o_nesting, x_o_seen, x_o_toldPlanes, x_o_stack, x_o_facts])), (q_o_buffer, .inl (cy 0, 800, .inl o_buffer))] := hD
        refine lv_goto (tgt := 0) hx hb dX7_ahead_23 (by decide) ?_
        exact ih0 v6 H locs ls hP hD hS (lv_sub hl [0] rfl) hF
  have main : ∀ (H : Heap) (locs : List Loc) (ls : Array Slot), va_P D vwCl [(q_o, .inr (7, [x_o_thrown, .ref q_o_buffer, x_o_bufferLength, .int o_textLength, .int o_position, x_o_error, x_o_errorAt, x_o_errorOffset, x_o_data, x_o_draft, x_o_aside, x_o_history, x_o_undoDepth, x_o_numberStart, x_o_nesting, x_o_seen, x_o_toldPlanes, x_o_stack, x_o_facts])), (q_o_buffer, .inl (cy 0, 800, .inl o_buffer))] H → va_D A [(q_o, .inr (7, [x_o_thrown, .ref q_o_buffer, x_o_bufferLength, .int o_textLength, .int o_position, x_o_error, x_o_errorAt, x_o_errorOffset, x_o_data, x_o_draft, x_o_aside, x_o_history, x_o_undoDepth, x_o_numberStart, x_o_nesting, x_o_seen, x_o_toldPlanes, x_o_stack, x_o_facts])), (q_o_buffer, .inl (cy 0, 800, .inl o_buffer))] → va_S A s.heap H locs → lv_has ls 1 [(0, .ref q_o)] → W p l e ({ frames := 1, cells := 0, slots := 0, locals := 21 } : Room) s m args below meth c H locs 0 0 QQ (F0 m 0 ls []) := by
    intro H locs ls hP hD hS hl
    unfold X7_ahead at hF
    exact J0 FU o_position H locs ls hP hD hS (lv_sub hl [0] rfl) hF
  exact main s.heap [] ls hP hD hS hl
theorem kd_X7_isGood : yX7_isGood.cls = RX7 ∧ yX7_isGood.cls ≠ "java/lang/invoke/MethodHandle" ∧ yX7_isGood.cls ≠ "java/lang/invoke/VarHandle" ∧ (parseMethodDescriptor yX7_isGood.desc).map (fun d => d.parameters.length) = some 0 := by decide +kernel
set_option maxHeartbeats 4000000 in
set_option maxRecDepth 100000 in
theorem c_X7_isGood {l : Launch} {D : va_G} {cy : Nat → ClassId} (q_o : Nat) (sz : Nat) (x_o_thrown x_o_buffer x_o_bufferLength x_o_textLength x_o_position x_o_errorAt x_o_errorOffset x_o_data x_o_draft x_o_aside x_o_history x_o_undoDepth x_o_numberStart x_o_nesting x_o_seen x_o_toldPlanes x_o_stack x_o_facts : Value) (o_error : Int32) (res : Int32) (hF : X7_isGood o_error = some res) : Met l yX7_isGood wsX7_isGood ({ frames := 0, cells := 0, slots := 0, locals := 0 } : Room) (kP (EN D cy) D [.ref q_o] [(q_o, .inr (7, [x_o_thrown, x_o_buffer, x_o_bufferLength, x_o_textLength, x_o_position, .int o_error, x_o_errorAt, x_o_errorOffset, x_o_data, x_o_draft, x_o_aside, x_o_history, x_o_undoDepth, x_o_numberStart, x_o_nesting, x_o_seen, x_o_toldPlanes, x_o_stack, x_o_facts]))] sz) (kQi D res [(q_o, .inr (7, [x_o_thrown, x_o_buffer, x_o_bufferLength, x_o_textLength, x_o_position, .int o_error, x_o_errorAt, x_o_errorOffset, x_o_data, x_o_draft, x_o_aside, x_o_history, x_o_undoDepth, x_o_numberStart, x_o_nesting, x_o_seen, x_o_toldPlanes, x_o_stack, x_o_facts]))] (va_A [(q_o, .inr (7, [x_o_thrown, x_o_buffer, x_o_bufferLength, x_o_textLength, x_o_position, .int o_error, x_o_errorAt, x_o_errorOffset, x_o_data, x_o_draft, x_o_aside, x_o_history, x_o_undoDepth, x_o_numberStart, x_o_nesting, x_o_seen, x_o_toldPlanes, x_o_stack, x_o_facts]))] sz)) 0 0 (va_A [(q_o, .inr (7, [x_o_thrown, x_o_buffer, x_o_bufferLength, x_o_textLength, x_o_position, .int o_error, x_o_errorAt, x_o_errorOffset, x_o_data, x_o_draft, x_o_aside, x_o_history, x_o_undoDepth, x_o_numberStart, x_o_nesting, x_o_seen, x_o_toldPlanes, x_o_stack, x_o_facts]))] sz) := by
  refine kMet (y := yX7_isGood) (av := [.ref q_o]) (cc := cX7_isGood) (maxL := 1) (ret := some .boolean) (own := RX7) (Qc := fun A9 => (kQi D res [(q_o, .inr (7, [x_o_thrown, x_o_buffer, x_o_bufferLength, x_o_textLength, x_o_position, .int o_error, x_o_errorAt, x_o_errorOffset, x_o_data, x_o_draft, x_o_aside, x_o_history, x_o_undoDepth, x_o_numberStart, x_o_nesting, x_o_seen, x_o_toldPlanes, x_o_stack, x_o_facts]))] A9)) (by decide) rfl rfl (Nat.le_of_ble_eq_true rfl) ?_
  intro p e s m args below meth c A hx hb hr hts hown hml hlocks hname hE hP hD hA hsz ls hl
  have hK := hE.1
  have hl : lv_has ls 1 [(0, .ref q_o)] := hl
  have hS : va_S A s.heap s.heap [] := va_S.rf
  have f_f58 := hts (.fieldLink RX7 58 "PeepBoxModel" "error" "I") (by decide +kernel)
  have f_inX7 : ∀ w ∈ wsX70, w ∈ wsX7_isGood := by decide +kernel
  obtain ⟨QQ, hQQ⟩ : ∃ Q9, Q9 = MQ below (kQi D res [(q_o, .inr (7, [x_o_thrown, x_o_buffer, x_o_bufferLength, x_o_textLength, x_o_position, .int o_error, x_o_errorAt, x_o_errorOffset, x_o_data, x_o_draft, x_o_aside, x_o_history, x_o_undoDepth, x_o_numberStart, x_o_nesting, x_o_seen, x_o_toldPlanes, x_o_stack, x_o_facts]))] A) args s 0 0 A := ⟨_, rfl⟩
  rw [← hQQ]
  have main : ∀ (H : Heap) (locs : List Loc) (ls : Array Slot), va_P D vwCl [(q_o, .inr (7, [x_o_thrown, x_o_buffer, x_o_bufferLength, x_o_textLength, x_o_position, .int o_error, x_o_errorAt, x_o_errorOffset, x_o_data, x_o_draft, x_o_aside, x_o_history, x_o_undoDepth, x_o_numberStart, x_o_nesting, x_o_seen, x_o_toldPlanes, x_o_stack, x_o_facts]))] H → va_D A [(q_o, .inr (7, [x_o_thrown, x_o_buffer, x_o_bufferLength, x_o_textLength, x_o_position, .int o_error, x_o_errorAt, x_o_errorOffset, x_o_data, x_o_draft, x_o_aside, x_o_history, x_o_undoDepth, x_o_numberStart, x_o_nesting, x_o_seen, x_o_toldPlanes, x_o_stack, x_o_facts]))] → va_S A s.heap H locs → lv_has ls 1 [(0, .ref q_o)] → W p l e ({ frames := 0, cells := 0, slots := 0, locals := 0 } : Room) s m args below meth c H locs 0 0 QQ (F0 m 0 ls []) := by
    intro H locs ls hP hD hS hl
    unfold X7_isGood at hF
    refine lv_aload_n hx hb dX7_isGood_0 rfl (lv_at hl 0 rfl) ?_
    refine va_get (D := D) (ci := 7) (v := .int o_error) (C := RX7) (T := TX7) (N := 19) hx hb hts f_inX7 hown hK hP 0 rfl rfl 5 (by decide) f_f58 (fun _ h9 => h9) rfl dX7_isGood_1 ?_
    refine lv_if_ne (tgt := 11) hx hb dX7_isGood_4 (by decide) (fun c1 => ?_) (fun c1 => ?_)
    · have hF := if_n hF c1
      refine lv_iconst (v := 0) hx hb dX7_isGood_11 (by decide) ?_
      obtain rfl := so_o hF
      rw [hQQ]
      exact kr_z (v := (0 : Int32)) hx hb hr hlocks rfl hP hD hS dX7_isGood_12
    · have hF := if_p hF c1
      refine lv_iconst (v := 1) hx hb dX7_isGood_7 (by decide) ?_
      refine lv_goto (tgt := 12) hx hb dX7_isGood_8 (by decide) ?_
      obtain rfl := so_o hF
      rw [hQQ]
      exact kr_z (v := (1 : Int32)) hx hb hr hlocks rfl hP hD hS dX7_isGood_12
  exact main s.heap [] ls hP hD hS hl
theorem kd_X7_report : yX7_report.cls = RX7 ∧ yX7_report.cls ≠ "java/lang/invoke/MethodHandle" ∧ yX7_report.cls ≠ "java/lang/invoke/VarHandle" ∧ (parseMethodDescriptor yX7_report.desc).map (fun d => d.parameters.length) = some 2 := by decide +kernel
set_option maxHeartbeats 4000000 in
set_option maxRecDepth 100000 in
theorem c_X7_report {l : Launch} {D : va_G} {cy : Nat → ClassId} (q_o : Nat) (sz : Nat) (x_o_thrown x_o_buffer x_o_bufferLength x_o_textLength x_o_position x_o_errorOffset x_o_data x_o_draft x_o_aside x_o_history x_o_undoDepth x_o_numberStart x_o_nesting x_o_seen x_o_toldPlanes x_o_stack x_o_facts : Value) (o_error : Int32) (o_errorAt : Int32) (p1 : Int32) (p2 : Int32) (res : Int32 × Int32) (hF : X7_report o_error o_errorAt p1 p2 = some res) : Met l yX7_report wsX7_report ({ frames := 0, cells := 0, slots := 0, locals := 0 } : Room) (kP (EN D cy) D [.ref q_o, .int p1, .int p2] [(q_o, .inr (7, [x_o_thrown, x_o_buffer, x_o_bufferLength, x_o_textLength, x_o_position, .int o_error, .int o_errorAt, x_o_errorOffset, x_o_data, x_o_draft, x_o_aside, x_o_history, x_o_undoDepth, x_o_numberStart, x_o_nesting, x_o_seen, x_o_toldPlanes, x_o_stack, x_o_facts]))] sz) (kQv D [(q_o, .inr (7, [x_o_thrown, x_o_buffer, x_o_bufferLength, x_o_textLength, x_o_position, .int res.1, .int res.2, x_o_errorOffset, x_o_data, x_o_draft, x_o_aside, x_o_history, x_o_undoDepth, x_o_numberStart, x_o_nesting, x_o_seen, x_o_toldPlanes, x_o_stack, x_o_facts]))] (va_A [(q_o, .inr (7, [x_o_thrown, x_o_buffer, x_o_bufferLength, x_o_textLength, x_o_position, .int o_error, .int o_errorAt, x_o_errorOffset, x_o_data, x_o_draft, x_o_aside, x_o_history, x_o_undoDepth, x_o_numberStart, x_o_nesting, x_o_seen, x_o_toldPlanes, x_o_stack, x_o_facts]))] sz)) 0 0 (va_A [(q_o, .inr (7, [x_o_thrown, x_o_buffer, x_o_bufferLength, x_o_textLength, x_o_position, .int o_error, .int o_errorAt, x_o_errorOffset, x_o_data, x_o_draft, x_o_aside, x_o_history, x_o_undoDepth, x_o_numberStart, x_o_nesting, x_o_seen, x_o_toldPlanes, x_o_stack, x_o_facts]))] sz) := by
  refine kMet (y := yX7_report) (av := [.ref q_o, .int p1, .int p2]) (cc := cX7_report) (maxL := 3) (ret := none) (own := RX7) (Qc := fun A9 => (kQv D [(q_o, .inr (7, [x_o_thrown, x_o_buffer, x_o_bufferLength, x_o_textLength, x_o_position, .int res.1, .int res.2, x_o_errorOffset, x_o_data, x_o_draft, x_o_aside, x_o_history, x_o_undoDepth, x_o_numberStart, x_o_nesting, x_o_seen, x_o_toldPlanes, x_o_stack, x_o_facts]))] A9)) (by decide) rfl rfl (Nat.le_of_ble_eq_true rfl) ?_
  intro p e s m args below meth c A hx hb hr hts hown hml hlocks hname hE hP hD hA hsz ls hl
  have hK := hE.1
  have hl : lv_has ls 3 [(0, .ref q_o), (1, .int p1), (2, .int p2)] := hl
  have hS : va_S A s.heap s.heap [] := va_S.rf
  have f_f58 := hts (.fieldLink RX7 58 "PeepBoxModel" "error" "I") (by decide +kernel)
  have f_inX7 : ∀ w ∈ wsX70, w ∈ wsX7_report := by decide +kernel
  have f_f61 := hts (.fieldLink RX7 61 "PeepBoxModel" "errorAt" "I") (by decide +kernel)
  obtain ⟨QQ, hQQ⟩ : ∃ Q9, Q9 = MQ below (kQv D [(q_o, .inr (7, [x_o_thrown, x_o_buffer, x_o_bufferLength, x_o_textLength, x_o_position, .int res.1, .int res.2, x_o_errorOffset, x_o_data, x_o_draft, x_o_aside, x_o_history, x_o_undoDepth, x_o_numberStart, x_o_nesting, x_o_seen, x_o_toldPlanes, x_o_stack, x_o_facts]))] A) args s 0 0 A := ⟨_, rfl⟩
  rw [← hQQ]
  have main : ∀ (H : Heap) (locs : List Loc) (ls : Array Slot), va_P D vwCl [(q_o, .inr (7, [x_o_thrown, x_o_buffer, x_o_bufferLength, x_o_textLength, x_o_position, .int o_error, .int o_errorAt, x_o_errorOffset, x_o_data, x_o_draft, x_o_aside, x_o_history, x_o_undoDepth, x_o_numberStart, x_o_nesting, x_o_seen, x_o_toldPlanes, x_o_stack, x_o_facts]))] H → va_D A [(q_o, .inr (7, [x_o_thrown, x_o_buffer, x_o_bufferLength, x_o_textLength, x_o_position, .int o_error, .int o_errorAt, x_o_errorOffset, x_o_data, x_o_draft, x_o_aside, x_o_history, x_o_undoDepth, x_o_numberStart, x_o_nesting, x_o_seen, x_o_toldPlanes, x_o_stack, x_o_facts]))] → va_S A s.heap H locs → lv_has ls 3 [(0, .ref q_o), (1, .int p1), (2, .int p2)] → W p l e ({ frames := 0, cells := 0, slots := 0, locals := 0 } : Room) s m args below meth c H locs 0 0 QQ (F0 m 0 ls []) := by
    intro H locs ls hP hD hS hl
    unfold X7_report at hF
    refine lv_aload_n hx hb dX7_report_0 rfl (lv_at hl 0 rfl) ?_
    refine va_get (D := D) (ci := 7) (v := .int o_error) (C := RX7) (T := TX7) (N := 19) hx hb hts f_inX7 hown hK hP 0 rfl rfl 5 (by decide) f_f58 (fun _ h9 => h9) rfl dX7_report_1 ?_
    refine lv_if_eq (tgt := 8) hx hb dX7_report_4 (by decide) (fun c1 => ?_) (fun c1 => ?_)
    · have hF := if_p hF c1
      refine lv_aload_n hx hb dX7_report_8 rfl (lv_at hl 0 rfl) ?_
      refine lv_iload_n hx hb dX7_report_9 rfl (lv_at hl 1 rfl) ?_
      refine va_put (D := D) (ci := 7) (v := .int p1) (ty := .int) (C := RX7) (T := TX7) (N := 19) hx hb hts f_inX7 tyX7 tyX7_ok nmX7 hown hK hP hD hS 0 rfl rfl 5 (by decide) f_f58 (fun _ h9 => h9) rfl (by decide +kernel) rfl rfl (Nat.le_of_ble_eq_true rfl) dX7_report_10 (fun H locs hP hD hS => ?_)
      have hP : va_P D vwCl [(q_o, .inr (7, [x_o_thrown, x_o_buffer, x_o_bufferLength, x_o_textLength, x_o_position, .int p1, .int o_errorAt, x_o_errorOffset, x_o_data, x_o_draft, x_o_aside, x_o_history, x_o_undoDepth, x_o_numberStart, x_o_nesting, x_o_seen, x_o_toldPlanes, x_o_stack, x_o_facts]))] H := hP
      have hD : va_D A [(q_o, .inr (7, [x_o_thrown, x_o_buffer, x_o_bufferLength, x_o_textLength, x_o_position, .int p1, .int o_errorAt, x_o_errorOffset, x_o_data, x_o_draft, x_o_aside, x_o_history, x_o_undoDepth, x_o_numberStart, x_o_nesting, x_o_seen, x_o_toldPlanes, x_o_stack, x_o_facts]))] := hD
      refine lv_aload_n hx hb dX7_report_13 rfl (lv_at hl 0 rfl) ?_
      refine lv_iload_n hx hb dX7_report_14 rfl (lv_at hl 2 rfl) ?_
      refine va_put (D := D) (ci := 7) (v := .int p2) (ty := .int) (C := RX7) (T := TX7) (N := 19) hx hb hts f_inX7 tyX7 tyX7_ok nmX7 hown hK hP hD hS 0 rfl rfl 6 (by decide) f_f61 (fun _ h9 => h9) rfl (by decide +kernel) rfl rfl (Nat.le_of_ble_eq_true rfl) dX7_report_15 (fun H locs hP hD hS => ?_)
      have hP : va_P D vwCl [(q_o, .inr (7, [x_o_thrown, x_o_buffer, x_o_bufferLength, x_o_textLength, x_o_position, .int p1, .int p2, x_o_errorOffset, x_o_data, x_o_draft, x_o_aside, x_o_history, x_o_undoDepth, x_o_numberStart, x_o_nesting, x_o_seen, x_o_toldPlanes, x_o_stack, x_o_facts]))] H := hP
      have hD : va_D A [(q_o, .inr (7, [x_o_thrown, x_o_buffer, x_o_bufferLength, x_o_textLength, x_o_position, .int p1, .int p2, x_o_errorOffset, x_o_data, x_o_draft, x_o_aside, x_o_history, x_o_undoDepth, x_o_numberStart, x_o_nesting, x_o_seen, x_o_toldPlanes, x_o_stack, x_o_facts]))] := hD
      obtain rfl := so_o hF
      rw [hQQ]
      exact kr_v hx hb hr hlocks hP hD hS dX7_report_18
    · have hF := if_n hF c1
      obtain rfl := so_o hF
      rw [hQQ]
      exact kr_v hx hb hr hlocks hP hD hS dX7_report_7
  exact main s.heap [] ls hP hD hS hl
