/-! pure programs: what the bytecode computes, written by program (gen.py) -/
def X6_requireCell_J36 (o_now_box_width : Int32) (o_now_box_height : Int32) (p1 : Int32) (p2 : Int32)   : Option (Sum Nat (Unit)) :=
  some (.inl 1)
def X6_requireCell (o_now_box_width : Int32) (o_now_box_height : Int32) (p1 : Int32) (p2 : Int32) : Option (Sum Nat (Unit)) :=
  if p1 < 0 then
    X6_requireCell_J36 o_now_box_width o_now_box_height p1 p2
  else
    if o_now_box_width ≤ p1 then
      X6_requireCell_J36 o_now_box_width o_now_box_height p1 p2
    else
      if p2 < 0 then
        X6_requireCell_J36 o_now_box_width o_now_box_height p1 p2
      else
        if p2 < o_now_box_height then
          some (.inr ())
        else
          X6_requireCell_J36 o_now_box_width o_now_box_height p1 p2
def X6_stands (o_now_box_width : Int32) (o_now_box_height : Int32) (o_now_box_planes : Int32) (o_now_box_cells : Nat → Int32) (o_now_box_pulls : Nat → Int32) (p1 : Int32) (p2 : Int32) (p3 : Int32) : Option (Sum Nat (Int32)) :=
  bx0 (X6_requirePlane o_now_box_planes p1) fun _ =>
  bx0 (X6_requireCell o_now_box_width o_now_box_height p2 p3) fun _ =>
  bn1 (X0_kindAt o_now_box_height o_now_box_cells o_now_box_pulls p1 p2 p3) fun (r3 : Int32) =>
  some (.inr r3)
def X6_plane (o_now_box_width : Int32) (o_now_box_height : Int32) (o_now_box_planes : Int32) (o_now_box_holes : Int32) (o_now_box_cells : Nat → Int32) (o_now_box_pulls : Nat → Int32) (o_view_seen : Nat → Int32) (p1 : Int32) (p2 : Int32) : Option (Sum Nat (Int32)) :=
  bx0 (X6_requirePlane o_now_box_planes p1) fun _ =>
  if p2 = (0 : Int32) then
    ld o_now_box_pulls 5 p1 fun (v4 : Int32) =>
    some (.inr v4)
  else
  if p2 = (1 : Int32) then
    bn1 (X0_standing o_now_box_width o_now_box_height o_now_box_cells o_now_box_pulls p1) fun (r6 : Int32) =>
    some (.inr r6)
  else
  if p2 = (2 : Int32) then
    bn1 (X5_targetsOf o_view_seen o_now_box_width o_now_box_height o_now_box_holes p1) fun (r9 : Int32) =>
    some (.inr r9)
  else
  some (.inl 2)
def X6_requireHole_J18 (o_now_box_holes : Int32) (p1 : Int32)   : Option (Sum Nat (Unit)) :=
  some (.inl 1)
def X6_requireHole (o_now_box_holes : Int32) (p1 : Int32) : Option (Sum Nat (Unit)) :=
  if p1 < 0 then
    X6_requireHole_J18 o_now_box_holes p1
  else
    if p1 < o_now_box_holes then
      some (.inr ())
    else
      X6_requireHole_J18 o_now_box_holes p1
def X6_hole (o_now_box_holes : Int32) (o_now_box_holeX : Nat → Int32) (o_now_box_holeY : Nat → Int32) (o_now_crowd_lookers : Nat → Int32) (o_view_kinds : Nat → Int32) (o_view_depths : Nat → Int32) (p1 : Int32) (p2 : Int32) : Option (Sum Nat (Int32)) :=
  bx0 (X6_requireHole o_now_box_holes p1) fun _ =>
  if p2 = (0 : Int32) then
    ld o_now_box_holeX 4 p1 fun (v4 : Int32) =>
    some (.inr v4)
  else
  if p2 = (1 : Int32) then
    ld o_now_box_holeY 4 p1 fun (v7 : Int32) =>
    some (.inr v7)
  else
  if p2 = (2 : Int32) then
    ld o_now_crowd_lookers 4 p1 fun (v10 : Int32) =>
    some (.inr v10)
  else
  if p2 = (3 : Int32) then
    ld o_view_kinds 4 p1 fun (v13 : Int32) =>
    some (.inr v13)
  else
  if p2 = (4 : Int32) then
    ld o_view_depths 4 p1 fun (v16 : Int32) =>
    some (.inr v16)
  else
  some (.inl 2)
def X6_sees (o_now_box_width : Int32) (o_now_box_height : Int32) (o_now_box_holes : Int32) (o_view_seen : Nat → Int32) (p1 : Int32) (p2 : Int32) (p3 : Int32) : Option (Sum Nat (Int32)) :=
  bx0 (X6_requireHole o_now_box_holes p1) fun _ =>
  bx0 (X6_requireCell o_now_box_width o_now_box_height p2 p3) fun _ =>
  bn1 (X5_target p1 p2 p3) fun (r3 : Int32) =>
  ld o_view_seen 384 r3 fun (v6 : Int32) =>
  some (.inr v6)
def X6_requireRange_J10 (p0 : Int32) (p1 : Int32) (p2 : Int32)   : Option (Sum Nat (Unit)) :=
  some (.inl 2)
def X6_requireRange (p0 : Int32) (p1 : Int32) (p2 : Int32) : Option (Sum Nat (Unit)) :=
  if p0 < p1 then
    X6_requireRange_J10 p0 p1 p2
  else
    if p0 ≤ p2 then
      some (.inr ())
    else
      X6_requireRange_J10 p0 p1 p2
def X6_shown (o_now_box_holes : Int32) (o_view_counts : Nat → Int32) (p1 : Int32) (p2 : Int32) : Option (Sum Nat (Int32)) :=
  bx0 (X6_requireHole o_now_box_holes p1) fun _ =>
  bx0 (X6_requireRange p2 (0 : Int32) (25 : Int32)) fun _ =>
  ld o_view_counts 104 ((p1 * (26 : Int32)) + p2) fun (v4 : Int32) =>
  some (.inr v4)
def X6_why (o_now_box_width : Int32) (o_now_box_height : Int32) (o_now_box_planes : Int32) (o_now_box_holes : Int32) (o_now_box_cells : Nat → Int32) (o_now_box_pulls : Nat → Int32) (o_now_box_holeX : Nat → Int32) (o_now_box_holeY : Nat → Int32) (o_view_seen : Nat → Int32) (p1 : Int32) (p2 : Int32) (p3 : Int32) (p4 : Int32) : Option (Sum Nat (Int32)) :=
  bx0 (X6_requireHole o_now_box_holes p1) fun _ =>
  bx0 (X6_requirePlane o_now_box_planes p2) fun _ =>
  bx0 (X6_requireCell o_now_box_width o_now_box_height p3 p4) fun _ =>
  bn1 (X5_reason o_view_seen o_now_box_width o_now_box_height o_now_box_planes o_now_box_cells o_now_box_pulls o_now_box_holeX o_now_box_holeY p1 p2 p3 p4) fun (r4 : Int32) =>
  some (.inr r4)
def X6_requireViewer_J18 (o_now_crowd_viewers : Int32) (p1 : Int32)   : Option (Sum Nat (Unit)) :=
  some (.inl 1)
def X6_requireViewer (o_now_crowd_viewers : Int32) (p1 : Int32) : Option (Sum Nat (Unit)) :=
  if p1 < 0 then
    X6_requireViewer_J18 o_now_crowd_viewers p1
  else
    if p1 < o_now_crowd_viewers then
      some (.inr ())
    else
      X6_requireViewer_J18 o_now_crowd_viewers p1
def X6_viewer (o_now_crowd_viewers : Int32) (o_now_crowd_facts : Nat → Int32) (p1 : Int32) (p2 : Int32) : Option (Sum Nat (Int32)) :=
  bx0 (X6_requireViewer o_now_crowd_viewers p1) fun _ =>
  bx0 (X6_requireRange p2 (0 : Int32) (6 : Int32)) fun _ =>
  bn1 (X1_fact o_now_crowd_facts p1 p2) fun (r3 : Int32) =>
  some (.inr r3)
def X6_price (o_now_box_height : Int32) (o_now_box_holes : Int32) (o_now_box_reach : Int32) (o_now_box_holeY : Nat → Int32) (o_now_box_price_size : Int32) (o_now_box_price_codes : Nat → Int32) (o_now_box_price_waiting : Nat → Int32) (o_now_crowd_viewers : Int32) (o_now_crowd_facts : Nat → Int32) (o_view_counts : Nat → Int32) (o_view_kinds : Nat → Int32) (o_view_depths : Nat → Int32) (o_view_prices : Nat → Int32) (p1 : Int32) (p2 : Int32) : Option (Sum Nat (Int32 × (Nat → Int32) × (Nat → Int32))) :=
  bx0 (X6_requireViewer o_now_crowd_viewers p1) fun _ =>
  bx0 (X6_requireHole o_now_box_holes p2) fun _ =>
  bn1 (X1_fact o_now_crowd_facts p1 (0 : Int32)) fun (r3 : Int32) =>
  bn1 (X0_canUse o_now_box_height o_now_box_reach o_now_box_holeY r3 p2) fun (r5 : Int32) =>
  if r5 = 0 then
    some (.inr ((-1 : Int32), o_now_box_price_waiting, o_view_prices))
  else
    bn1 (X1_fact o_now_crowd_facts p1 (1 : Int32)) fun (r8 : Int32) =>
    bn3 (X5_priceFor o_view_counts o_view_kinds o_view_depths o_view_prices o_now_box_price_size o_now_box_price_codes o_now_box_price_waiting r8 p2) fun (r10 : Int32) (o11 : Nat → Int32) (o12 : Nat → Int32) =>
    some (.inr (r10, o12, o11))
def X6_bestPull_J127 (o_now_box_width : Int32) (o_now_box_height : Int32) (o_now_box_planes : Int32) (o_now_box_holes : Int32) (o_now_box_reach : Int32) (o_now_box_cells : Nat → Int32) (o_now_box_pulls : Nat → Int32) (o_now_box_holeX : Nat → Int32) (o_now_box_holeY : Nat → Int32) (o_now_box_price_size : Int32) (o_now_box_price_codes : Nat → Int32) (p1 : Int32) (p2 : Int32) (kL53 : Int32 → Int32 → Int32 → Int32 → Int32 → Int32 → Int32 → Int32 → (Nat → Int32) → (Nat → Int32) → (Nat → Int32) → (Nat → Int32) → Int32 → (Nat → Int32) → (Nat → Int32) → (Nat → Int32) → (Nat → Int32) → (Nat → Int32) → (Nat → Int32) → Option (Sum Nat (Int32 × Int32 × Int32 × Int32 × Int32 × Int32 × (Nat → Int32) × (Nat → Int32) × (Nat → Int32) × (Nat → Int32) × Int32 × (Nat → Int32) × (Nat → Int32) × (Nat → Int32) × (Nat → Int32) × (Nat → Int32) × (Nat → Int32)))) (l3 : Int32) (l4 : Int32) (l5 : Int32) (o_trial_box_width : Int32) (o_trial_box_height : Int32) (o_trial_box_planes : Int32) (o_trial_box_holes : Int32) (o_trial_box_reach : Int32) (o_trial_box_cells : Nat → Int32) (o_trial_box_pulls : Nat → Int32) (o_trial_box_holeX : Nat → Int32) (o_trial_box_holeY : Nat → Int32) (o_trial_box_price_size : Int32) (o_trial_box_price_codes : Nat → Int32) (o_trialView_seen : Nat → Int32) (o_trialView_counts : Nat → Int32) (o_trialView_kinds : Nat → Int32) (o_trialView_depths : Nat → Int32) (o_trialView_prices : Nat → Int32) : Option (Sum Nat (Int32 × Int32 × Int32 × Int32 × Int32 × Int32 × (Nat → Int32) × (Nat → Int32) × (Nat → Int32) × (Nat → Int32) × Int32 × (Nat → Int32) × (Nat → Int32) × (Nat → Int32) × (Nat → Int32) × (Nat → Int32) × (Nat → Int32))) :=
  nm (l5 + (1 : Int32)) fun (v1 : Int32) =>
  kL53 l3 l4 v1 o_trial_box_width o_trial_box_height o_trial_box_planes o_trial_box_holes o_trial_box_reach o_trial_box_cells o_trial_box_pulls o_trial_box_holeX o_trial_box_holeY o_trial_box_price_size o_trial_box_price_codes o_trialView_seen o_trialView_counts o_trialView_kinds o_trialView_depths o_trialView_prices
def X6_bestPull_L53 (o_now_box_width : Int32) (o_now_box_height : Int32) (o_now_box_planes : Int32) (o_now_box_holes : Int32) (o_now_box_reach : Int32) (o_now_box_cells : Nat → Int32) (o_now_box_pulls : Nat → Int32) (o_now_box_holeX : Nat → Int32) (o_now_box_holeY : Nat → Int32) (o_now_box_price_size : Int32) (o_now_box_price_codes : Nat → Int32) (p1 : Int32) (p2 : Int32)  : Nat → Int32 → Int32 → Int32 → Int32 → Int32 → Int32 → Int32 → Int32 → (Nat → Int32) → (Nat → Int32) → (Nat → Int32) → (Nat → Int32) → Int32 → (Nat → Int32) → (Nat → Int32) → (Nat → Int32) → (Nat → Int32) → (Nat → Int32) → (Nat → Int32) → Option (Sum Nat (Int32 × Int32 × Int32 × Int32 × Int32 × Int32 × (Nat → Int32) × (Nat → Int32) × (Nat → Int32) × (Nat → Int32) × Int32 × (Nat → Int32) × (Nat → Int32) × (Nat → Int32) × (Nat → Int32) × (Nat → Int32) × (Nat → Int32)))
  | 0, _, _, _, _, _, _, _, _, _, _, _, _, _, _, _, _, _, _, _ => none
  | n + 1, l3, l4, l5, o_trial_box_width, o_trial_box_height, o_trial_box_planes, o_trial_box_holes, o_trial_box_reach, o_trial_box_cells, o_trial_box_pulls, o_trial_box_holeX, o_trial_box_holeY, o_trial_box_price_size, o_trial_box_price_codes, o_trialView_seen, o_trialView_counts, o_trialView_kinds, o_trialView_depths, o_trialView_prices =>
    if o_now_box_height < l5 then
      some (.inr (l3, o_trial_box_width, o_trial_box_height, o_trial_box_planes, o_trial_box_holes, o_trial_box_reach, o_trial_box_cells, o_trial_box_pulls, o_trial_box_holeX, o_trial_box_holeY, o_trial_box_price_size, o_trial_box_price_codes, o_trialView_seen, o_trialView_counts, o_trialView_kinds, o_trialView_depths, o_trialView_prices))
    else
      st 5 p1 (upd o_trial_box_pulls p1.toNatClampNeg l5) fun (b4 : Nat → Int32) =>
      bn5 (X5_update o_trialView_seen o_trialView_counts o_trialView_kinds o_trialView_depths o_trialView_prices o_trial_box_width o_trial_box_height o_trial_box_planes o_trial_box_holes o_trial_box_cells b4 o_trial_box_holeX o_trial_box_holeY) fun (o5 : Nat → Int32) (o6 : Nat → Int32) (o7 : Nat → Int32) (o8 : Nat → Int32) (o9 : Nat → Int32) =>
      bn1 (X5_countInAll o6 o_trial_box_holes p2) fun (r11 : Int32) =>
      if r11 ≤ l4 then
        X6_bestPull_J127 o_now_box_width o_now_box_height o_now_box_planes o_now_box_holes o_now_box_reach o_now_box_cells o_now_box_pulls o_now_box_holeX o_now_box_holeY o_now_box_price_size o_now_box_price_codes p1 p2 (fun z0 z1 z2 z3 z4 z5 z6 z7 z8 z9 z10 z11 z12 z13 z14 z15 z16 z17 z18 => X6_bestPull_L53 o_now_box_width o_now_box_height o_now_box_planes o_now_box_holes o_now_box_reach o_now_box_cells o_now_box_pulls o_now_box_holeX o_now_box_holeY o_now_box_price_size o_now_box_price_codes p1 p2 n z0 z1 z2 z3 z4 z5 z6 z7 z8 z9 z10 z11 z12 z13 z14 z15 z16 z17 z18) l3 l4 l5 o_trial_box_width o_trial_box_height o_trial_box_planes o_trial_box_holes o_trial_box_reach o_trial_box_cells b4 o_trial_box_holeX o_trial_box_holeY o_trial_box_price_size o_trial_box_price_codes o5 o6 o7 o8 o9
      else
        X6_bestPull_J127 o_now_box_width o_now_box_height o_now_box_planes o_now_box_holes o_now_box_reach o_now_box_cells o_now_box_pulls o_now_box_holeX o_now_box_holeY o_now_box_price_size o_now_box_price_codes p1 p2 (fun z0 z1 z2 z3 z4 z5 z6 z7 z8 z9 z10 z11 z12 z13 z14 z15 z16 z17 z18 => X6_bestPull_L53 o_now_box_width o_now_box_height o_now_box_planes o_now_box_holes o_now_box_reach o_now_box_cells o_now_box_pulls o_now_box_holeX o_now_box_holeY o_now_box_price_size o_now_box_price_codes p1 p2 n z0 z1 z2 z3 z4 z5 z6 z7 z8 z9 z10 z11 z12 z13 z14 z15 z16 z17 z18) l5 r11 l5 o_trial_box_width o_trial_box_height o_trial_box_planes o_trial_box_holes o_trial_box_reach o_trial_box_cells b4 o_trial_box_holeX o_trial_box_holeY o_trial_box_price_size o_trial_box_price_codes o5 o6 o7 o8 o9
def X6_bestPull (o_now_box_width : Int32) (o_now_box_height : Int32) (o_now_box_planes : Int32) (o_now_box_holes : Int32) (o_now_box_reach : Int32) (o_now_box_cells : Nat → Int32) (o_now_box_pulls : Nat → Int32) (o_now_box_holeX : Nat → Int32) (o_now_box_holeY : Nat → Int32) (o_now_box_price_size : Int32) (o_now_box_price_codes : Nat → Int32) (o_trial_box_width : Int32) (o_trial_box_height : Int32) (o_trial_box_planes : Int32) (o_trial_box_holes : Int32) (o_trial_box_reach : Int32) (o_trial_box_cells : Nat → Int32) (o_trial_box_pulls : Nat → Int32) (o_trial_box_holeX : Nat → Int32) (o_trial_box_holeY : Nat → Int32) (o_trial_box_price_size : Int32) (o_trial_box_price_codes : Nat → Int32) (o_trialView_seen : Nat → Int32) (o_trialView_counts : Nat → Int32) (o_trialView_kinds : Nat → Int32) (o_trialView_depths : Nat → Int32) (o_trialView_prices : Nat → Int32) (p1 : Int32) (p2 : Int32) : Option (Sum Nat (Int32 × Int32 × Int32 × Int32 × Int32 × Int32 × (Nat → Int32) × (Nat → Int32) × (Nat → Int32) × (Nat → Int32) × Int32 × (Nat → Int32) × (Nat → Int32) × (Nat → Int32) × (Nat → Int32) × (Nat → Int32) × (Nat → Int32))) :=
  bx0 (X6_requirePlane o_now_box_planes p1) fun _ =>
  bx0 (X6_requireRange p2 (0 : Int32) (25 : Int32)) fun _ =>
  bn1 (X0_isBack o_now_box_planes p1) fun (r16 : Int32) =>
  if r16 = 0 then
    bn11 (X0_copyFrom o_trial_box_width o_trial_box_height o_trial_box_planes o_trial_box_holes o_trial_box_reach o_trial_box_cells o_trial_box_pulls o_trial_box_holeX o_trial_box_holeY o_trial_box_price_size o_trial_box_price_codes o_now_box_width o_now_box_height o_now_box_planes o_now_box_holes o_now_box_reach o_now_box_cells o_now_box_pulls o_now_box_holeX o_now_box_holeY o_now_box_price_size o_now_box_price_codes) fun (o19 : Int32) (o20 : Int32) (o21 : Int32) (o22 : Int32) (o23 : Int32) (o24 : Nat → Int32) (o25 : Nat → Int32) (o26 : Nat → Int32) (o27 : Nat → Int32) (o28 : Int32) (o29 : Nat → Int32) =>
    X6_bestPull_L53 o_now_box_width o_now_box_height o_now_box_planes o_now_box_holes o_now_box_reach o_now_box_cells o_now_box_pulls o_now_box_holeX o_now_box_holeY o_now_box_price_size o_now_box_price_codes p1 p2 FU (0 : Int32) (-1 : Int32) (0 : Int32) o19 o20 o21 o22 o23 o24 o25 o26 o27 o28 o29 o_trialView_seen o_trialView_counts o_trialView_kinds o_trialView_depths o_trialView_prices
  else
    some (.inr ((0 : Int32), o_trial_box_width, o_trial_box_height, o_trial_box_planes, o_trial_box_holes, o_trial_box_reach, o_trial_box_cells, o_trial_box_pulls, o_trial_box_holeX, o_trial_box_holeY, o_trial_box_price_size, o_trial_box_price_codes, o_trialView_seen, o_trialView_counts, o_trialView_kinds, o_trialView_depths, o_trialView_prices))
def X6_foretold_L35 (o_now_box_height : Int32) (o_now_box_holes : Int32) (o_now_box_reach : Int32) (o_now_box_holeY : Nat → Int32) (o_now_box_price_size : Int32) (o_now_box_price_codes : Nat → Int32) (o_now_crowd_viewers : Int32) (o_now_crowd_lookLength : Int32) (o_now_crowd_time : Int32) (o_now_crowd_lookers : Nat → Int32) (o_now_crowd_facts : Nat → Int32) (o_view_counts : Nat → Int32) (o_view_kinds : Nat → Int32) (o_view_depths : Nat → Int32) (p1 : Int32) (p2 : Int32)  : Nat → Int32 → (Nat → Int32) → Int32 → Int32 → Int32 → (Nat → Int32) → (Nat → Int32) → (Nat → Int32) → Option (Sum Nat (Int32 × (Nat → Int32) × Int32 × Int32 × Int32 × (Nat → Int32) × (Nat → Int32) × (Nat → Int32)))
  | 0, _, _, _, _, _, _, _, _ => none
  | n + 1, l4, o_now_box_price_waiting, o_trial_crowd_viewers, o_trial_crowd_lookLength, o_trial_crowd_time, o_trial_crowd_lookers, o_trial_crowd_facts, o_view_prices =>
    if p1 ≤ l4 then
      if p2 = (0 : Int32) then
        bn1 (X1_allPaid o_trial_crowd_viewers o_trial_crowd_facts) fun (r3 : Int32) =>
        some (.inr (r3, o_now_box_price_waiting, o_trial_crowd_viewers, o_trial_crowd_lookLength, o_trial_crowd_time, o_trial_crowd_lookers, o_trial_crowd_facts, o_view_prices))
      else
      if p2 = (1 : Int32) then
        bn1 (X1_count o_trial_crowd_viewers o_trial_crowd_facts (0 : Int32)) fun (r6 : Int32) =>
        some (.inr (r6, o_now_box_price_waiting, o_trial_crowd_viewers, o_trial_crowd_lookLength, o_trial_crowd_time, o_trial_crowd_lookers, o_trial_crowd_facts, o_view_prices))
      else
      if p2 = (2 : Int32) then
        bn1 (X1_count o_trial_crowd_viewers o_trial_crowd_facts (1 : Int32)) fun (r9 : Int32) =>
        some (.inr (r9, o_now_box_price_waiting, o_trial_crowd_viewers, o_trial_crowd_lookLength, o_trial_crowd_time, o_trial_crowd_lookers, o_trial_crowd_facts, o_view_prices))
      else
      bn1 (X1_count o_trial_crowd_viewers o_trial_crowd_facts (3 : Int32)) fun (r11 : Int32) =>
      some (.inr (r11, o_now_box_price_waiting, o_trial_crowd_viewers, o_trial_crowd_lookLength, o_trial_crowd_time, o_trial_crowd_lookers, o_trial_crowd_facts, o_view_prices))
    else
      bn5 (X1_tick o_trial_crowd_viewers o_trial_crowd_lookLength o_trial_crowd_time o_trial_crowd_lookers o_trial_crowd_facts o_now_box_height o_now_box_holes o_now_box_reach o_now_box_holeY o_now_box_price_size o_now_box_price_codes o_now_box_price_waiting o_view_counts o_view_kinds o_view_depths o_view_prices) fun (o13 : Int32) (o14 : Nat → Int32) (o15 : Nat → Int32) (o16 : Nat → Int32) (o17 : Nat → Int32) =>
      nm (l4 + (1 : Int32)) fun (v19 : Int32) =>
      X6_foretold_L35 o_now_box_height o_now_box_holes o_now_box_reach o_now_box_holeY o_now_box_price_size o_now_box_price_codes o_now_crowd_viewers o_now_crowd_lookLength o_now_crowd_time o_now_crowd_lookers o_now_crowd_facts o_view_counts o_view_kinds o_view_depths p1 p2 n v19 o16 o_trial_crowd_viewers o_trial_crowd_lookLength o13 o14 o15 o17
def X6_foretold (o_now_box_height : Int32) (o_now_box_holes : Int32) (o_now_box_reach : Int32) (o_now_box_holeY : Nat → Int32) (o_now_box_price_size : Int32) (o_now_box_price_codes : Nat → Int32) (o_now_box_price_waiting : Nat → Int32) (o_now_crowd_viewers : Int32) (o_now_crowd_lookLength : Int32) (o_now_crowd_time : Int32) (o_now_crowd_lookers : Nat → Int32) (o_now_crowd_facts : Nat → Int32) (o_trial_crowd_viewers : Int32) (o_trial_crowd_lookLength : Int32) (o_trial_crowd_time : Int32) (o_trial_crowd_lookers : Nat → Int32) (o_trial_crowd_facts : Nat → Int32) (o_view_counts : Nat → Int32) (o_view_kinds : Nat → Int32) (o_view_depths : Nat → Int32) (o_view_prices : Nat → Int32) (p1 : Int32) (p2 : Int32) : Option (Sum Nat (Int32 × (Nat → Int32) × Int32 × Int32 × Int32 × (Nat → Int32) × (Nat → Int32) × (Nat → Int32))) :=
  bx0 (X6_requireRange p1 (1 : Int32) (100 : Int32)) fun _ =>
  bx0 (X6_requireRange p2 (0 : Int32) (3 : Int32)) fun _ =>
  bn5 (X1_copyFrom o_trial_crowd_viewers o_trial_crowd_lookLength o_trial_crowd_time o_trial_crowd_lookers o_trial_crowd_facts o_now_crowd_viewers o_now_crowd_lookLength o_now_crowd_time o_now_crowd_lookers o_now_crowd_facts) fun (o22 : Int32) (o23 : Int32) (o24 : Int32) (o25 : Nat → Int32) (o26 : Nat → Int32) =>
  X6_foretold_L35 o_now_box_height o_now_box_holes o_now_box_reach o_now_box_holeY o_now_box_price_size o_now_box_price_codes o_now_crowd_viewers o_now_crowd_lookLength o_now_crowd_time o_now_crowd_lookers o_now_crowd_facts o_view_counts o_view_kinds o_view_depths p1 p2 FU (0 : Int32) o_now_box_price_waiting o22 o23 o24 o25 o26 o_view_prices
def X6_pass_L24 (j : Nat) (o_now_box_width : Int32) (o_now_box_height : Int32) (o_now_box_planes : Int32) (o_now_box_holes : Int32) (o_now_box_reach : Int32) (o_now_box_cells : Nat → Int32) (o_now_box_pulls : Nat → Int32) (o_now_box_holeX : Nat → Int32) (o_now_box_holeY : Nat → Int32) (o_now_box_price_size : Int32) (o_now_box_price_codes : Nat → Int32) (o_now_crowd_viewers : Int32) (o_now_crowd_lookLength : Int32) (o_view_counts : Nat → Int32) (o_view_kinds : Nat → Int32) (o_view_depths : Nat → Int32) (p1 : Int32)  : Nat → Int32 → Int32 → Int32 → Int32 → (Nat → Int32) → Int32 → (Nat → Int32) → (Nat → Int32) → (Nat → Int32) → Int32 → Int32 → Int32 → Int32 → Int32 → (Nat → Int32) → (Nat → Int32) → (Nat → Int32) → (Nat → Int32) → Int32 → (Nat → Int32) → Int32 → Int32 → Int32 → (Nat → Int32) → (Nat → Int32) → Option (Sum Nat (Int32 × Int32 × Int32 × (Nat → Int32) × Int32 × (Nat → Int32) × (Nat → Int32) × (Nat → Int32) × Int32 × Int32 × Int32 × Int32 × Int32 × (Nat → Int32) × (Nat → Int32) × (Nat → Int32) × (Nat → Int32) × Int32 × (Nat → Int32) × Int32 × Int32 × Int32 × (Nat → Int32) × (Nat → Int32)))
  | 0, _, _, _, _, _, _, _, _, _, _, _, _, _, _, _, _, _, _, _, _, _, _, _, _, _ => none
  | n + 1, l2, l3, o_nextPast, o_undoable, o_now_box_price_waiting, o_now_crowd_time, o_now_crowd_lookers, o_now_crowd_facts, o_view_prices, o_past_e_box_width, o_past_e_box_height, o_past_e_box_planes, o_past_e_box_holes, o_past_e_box_reach, o_past_e_box_cells, o_past_e_box_pulls, o_past_e_box_holeX, o_past_e_box_holeY, o_past_e_box_price_size, o_past_e_box_price_codes, o_past_e_crowd_viewers, o_past_e_crowd_lookLength, o_past_e_crowd_time, o_past_e_crowd_lookers, o_past_e_crowd_facts =>
    if p1 ≤ l3 then
      bn1 (X1_allPaid o_now_crowd_viewers o_now_crowd_facts) fun (r2 : Int32) =>
      some (.inr ((r2 - l2), o_nextPast, o_undoable, o_now_box_price_waiting, o_now_crowd_time, o_now_crowd_lookers, o_now_crowd_facts, o_view_prices, o_past_e_box_width, o_past_e_box_height, o_past_e_box_planes, o_past_e_box_holes, o_past_e_box_reach, o_past_e_box_cells, o_past_e_box_pulls, o_past_e_box_holeX, o_past_e_box_holeY, o_past_e_box_price_size, o_past_e_box_price_codes, o_past_e_crowd_viewers, o_past_e_crowd_lookLength, o_past_e_crowd_time, o_past_e_crowd_lookers, o_past_e_crowd_facts))
    else
      bn5 (X1_tick o_now_crowd_viewers o_now_crowd_lookLength o_now_crowd_time o_now_crowd_lookers o_now_crowd_facts o_now_box_height o_now_box_holes o_now_box_reach o_now_box_holeY o_now_box_price_size o_now_box_price_codes o_now_box_price_waiting o_view_counts o_view_kinds o_view_depths o_view_prices) fun (o4 : Int32) (o5 : Nat → Int32) (o6 : Nat → Int32) (o7 : Nat → Int32) (o8 : Nat → Int32) =>
      nm (l3 + (1 : Int32)) fun (v10 : Int32) =>
      X6_pass_L24 j o_now_box_width o_now_box_height o_now_box_planes o_now_box_holes o_now_box_reach o_now_box_cells o_now_box_pulls o_now_box_holeX o_now_box_holeY o_now_box_price_size o_now_box_price_codes o_now_crowd_viewers o_now_crowd_lookLength o_view_counts o_view_kinds o_view_depths p1 n l2 v10 o_nextPast o_undoable o7 o4 o5 o6 o8 o_past_e_box_width o_past_e_box_height o_past_e_box_planes o_past_e_box_holes o_past_e_box_reach o_past_e_box_cells o_past_e_box_pulls o_past_e_box_holeX o_past_e_box_holeY o_past_e_box_price_size o_past_e_box_price_codes o_past_e_crowd_viewers o_past_e_crowd_lookLength o_past_e_crowd_time o_past_e_crowd_lookers o_past_e_crowd_facts
def X6_pass (j : Nat) (o_nextPast : Int32) (o_undoable : Int32) (o_now_box_width : Int32) (o_now_box_height : Int32) (o_now_box_planes : Int32) (o_now_box_holes : Int32) (o_now_box_reach : Int32) (o_now_box_cells : Nat → Int32) (o_now_box_pulls : Nat → Int32) (o_now_box_holeX : Nat → Int32) (o_now_box_holeY : Nat → Int32) (o_now_box_price_size : Int32) (o_now_box_price_codes : Nat → Int32) (o_now_box_price_waiting : Nat → Int32) (o_now_crowd_viewers : Int32) (o_now_crowd_lookLength : Int32) (o_now_crowd_time : Int32) (o_now_crowd_lookers : Nat → Int32) (o_now_crowd_facts : Nat → Int32) (o_view_counts : Nat → Int32) (o_view_kinds : Nat → Int32) (o_view_depths : Nat → Int32) (o_view_prices : Nat → Int32) (o_past_e_box_width : Int32) (o_past_e_box_height : Int32) (o_past_e_box_planes : Int32) (o_past_e_box_holes : Int32) (o_past_e_box_reach : Int32) (o_past_e_box_cells : Nat → Int32) (o_past_e_box_pulls : Nat → Int32) (o_past_e_box_holeX : Nat → Int32) (o_past_e_box_holeY : Nat → Int32) (o_past_e_box_price_size : Int32) (o_past_e_box_price_codes : Nat → Int32) (o_past_e_crowd_viewers : Int32) (o_past_e_crowd_lookLength : Int32) (o_past_e_crowd_time : Int32) (o_past_e_crowd_lookers : Nat → Int32) (o_past_e_crowd_facts : Nat → Int32) (p1 : Int32) : Option (Sum Nat (Int32 × Int32 × Int32 × (Nat → Int32) × Int32 × (Nat → Int32) × (Nat → Int32) × (Nat → Int32) × Int32 × Int32 × Int32 × Int32 × Int32 × (Nat → Int32) × (Nat → Int32) × (Nat → Int32) × (Nat → Int32) × Int32 × (Nat → Int32) × Int32 × Int32 × Int32 × (Nat → Int32) × (Nat → Int32))) :=
  bx0 (X6_requireRange p1 (1 : Int32) (50 : Int32)) fun _ =>
  bn18 (X6_remember j o_nextPast o_undoable o_now_box_width o_now_box_height o_now_box_planes o_now_box_holes o_now_box_reach o_now_box_cells o_now_box_pulls o_now_box_holeX o_now_box_holeY o_now_box_price_size o_now_box_price_codes o_now_crowd_viewers o_now_crowd_lookLength o_now_crowd_time o_now_crowd_lookers o_now_crowd_facts o_past_e_box_width o_past_e_box_height o_past_e_box_planes o_past_e_box_holes o_past_e_box_reach o_past_e_box_cells o_past_e_box_pulls o_past_e_box_holeX o_past_e_box_holeY o_past_e_box_price_size o_past_e_box_price_codes o_past_e_crowd_viewers o_past_e_crowd_lookLength o_past_e_crowd_time o_past_e_crowd_lookers o_past_e_crowd_facts) fun (o12 : Int32) (o13 : Int32) (o14 : Int32) (o15 : Int32) (o16 : Int32) (o17 : Int32) (o18 : Int32) (o19 : Nat → Int32) (o20 : Nat → Int32) (o21 : Nat → Int32) (o22 : Nat → Int32) (o23 : Int32) (o24 : Nat → Int32) (o25 : Int32) (o26 : Int32) (o27 : Int32) (o28 : Nat → Int32) (o29 : Nat → Int32) =>
  bn1 (X1_allPaid o_now_crowd_viewers o_now_crowd_facts) fun (r31 : Int32) =>
  X6_pass_L24 j o_now_box_width o_now_box_height o_now_box_planes o_now_box_holes o_now_box_reach o_now_box_cells o_now_box_pulls o_now_box_holeX o_now_box_holeY o_now_box_price_size o_now_box_price_codes o_now_crowd_viewers o_now_crowd_lookLength o_view_counts o_view_kinds o_view_depths p1 FU r31 (0 : Int32) o12 o13 o_now_box_price_waiting o_now_crowd_time o_now_crowd_lookers o_now_crowd_facts o_view_prices o14 o15 o16 o17 o18 o19 o20 o21 o22 o23 o24 o25 o26 o27 o28 o29
def X6_pull (j : Nat) (o_nextPast : Int32) (o_undoable : Int32) (o_now_box_width : Int32) (o_now_box_height : Int32) (o_now_box_planes : Int32) (o_now_box_holes : Int32) (o_now_box_reach : Int32) (o_now_box_cells : Nat → Int32) (o_now_box_pulls : Nat → Int32) (o_now_box_holeX : Nat → Int32) (o_now_box_holeY : Nat → Int32) (o_now_box_price_size : Int32) (o_now_box_price_codes : Nat → Int32) (o_now_crowd_viewers : Int32) (o_now_crowd_lookLength : Int32) (o_now_crowd_time : Int32) (o_now_crowd_lookers : Nat → Int32) (o_now_crowd_facts : Nat → Int32) (o_view_seen : Nat → Int32) (o_view_counts : Nat → Int32) (o_view_kinds : Nat → Int32) (o_view_depths : Nat → Int32) (o_view_prices : Nat → Int32) (o_past_e_box_width : Int32) (o_past_e_box_height : Int32) (o_past_e_box_planes : Int32) (o_past_e_box_holes : Int32) (o_past_e_box_reach : Int32) (o_past_e_box_cells : Nat → Int32) (o_past_e_box_pulls : Nat → Int32) (o_past_e_box_holeX : Nat → Int32) (o_past_e_box_holeY : Nat → Int32) (o_past_e_box_price_size : Int32) (o_past_e_box_price_codes : Nat → Int32) (o_past_e_crowd_viewers : Int32) (o_past_e_crowd_lookLength : Int32) (o_past_e_crowd_time : Int32) (o_past_e_crowd_lookers : Nat → Int32) (o_past_e_crowd_facts : Nat → Int32) (p1 : Int32) (p2 : Int32) : Option (Sum Nat (Int32 × Int32 × Int32 × (Nat → Int32) × (Nat → Int32) × (Nat → Int32) × (Nat → Int32) × (Nat → Int32) × (Nat → Int32) × Int32 × Int32 × Int32 × Int32 × Int32 × (Nat → Int32) × (Nat → Int32) × (Nat → Int32) × (Nat → Int32) × Int32 × (Nat → Int32) × Int32 × Int32 × Int32 × (Nat → Int32) × (Nat → Int32))) :=
  bx0 (X6_requirePlane o_now_box_planes p1) fun _ =>
  bx0 (X6_requireRange p2 (0 : Int32) o_now_box_height) fun _ =>
  bn1 (X0_isBack o_now_box_planes p1) fun (r3 : Int32) =>
  if r3 = 0 then
    bn18 (X6_remember j o_nextPast o_undoable o_now_box_width o_now_box_height o_now_box_planes o_now_box_holes o_now_box_reach o_now_box_cells o_now_box_pulls o_now_box_holeX o_now_box_holeY o_now_box_price_size o_now_box_price_codes o_now_crowd_viewers o_now_crowd_lookLength o_now_crowd_time o_now_crowd_lookers o_now_crowd_facts o_past_e_box_width o_past_e_box_height o_past_e_box_planes o_past_e_box_holes o_past_e_box_reach o_past_e_box_cells o_past_e_box_pulls o_past_e_box_holeX o_past_e_box_holeY o_past_e_box_price_size o_past_e_box_price_codes o_past_e_crowd_viewers o_past_e_crowd_lookLength o_past_e_crowd_time o_past_e_crowd_lookers o_past_e_crowd_facts) fun (o6 : Int32) (o7 : Int32) (o8 : Int32) (o9 : Int32) (o10 : Int32) (o11 : Int32) (o12 : Int32) (o13 : Nat → Int32) (o14 : Nat → Int32) (o15 : Nat → Int32) (o16 : Nat → Int32) (o17 : Int32) (o18 : Nat → Int32) (o19 : Int32) (o20 : Int32) (o21 : Int32) (o22 : Nat → Int32) (o23 : Nat → Int32) =>
    ld o_now_box_pulls 5 p1 fun (v26 : Int32) =>
    st 5 p1 (upd o_now_box_pulls p1.toNatClampNeg p2) fun (b28 : Nat → Int32) =>
    bn5 (X5_update o_view_seen o_view_counts o_view_kinds o_view_depths o_view_prices o_now_box_width o_now_box_height o_now_box_planes o_now_box_holes o_now_box_cells b28 o_now_box_holeX o_now_box_holeY) fun (o29 : Nat → Int32) (o30 : Nat → Int32) (o31 : Nat → Int32) (o32 : Nat → Int32) (o33 : Nat → Int32) =>
    some (.inr (v26, o6, o7, b28, o29, o30, o31, o32, o33, o8, o9, o10, o11, o12, o13, o14, o15, o16, o17, o18, o19, o20, o21, o22, o23))
  else
    some (.inl 3)
def X6_come (j : Nat) (o_nextPast : Int32) (o_undoable : Int32) (o_now_box_width : Int32) (o_now_box_height : Int32) (o_now_box_planes : Int32) (o_now_box_holes : Int32) (o_now_box_reach : Int32) (o_now_box_cells : Nat → Int32) (o_now_box_pulls : Nat → Int32) (o_now_box_holeX : Nat → Int32) (o_now_box_holeY : Nat → Int32) (o_now_box_price_size : Int32) (o_now_box_price_codes : Nat → Int32) (o_now_crowd_viewers : Int32) (o_now_crowd_lookLength : Int32) (o_now_crowd_time : Int32) (o_now_crowd_lookers : Nat → Int32) (o_now_crowd_facts : Nat → Int32) (o_past_e_box_width : Int32) (o_past_e_box_height : Int32) (o_past_e_box_planes : Int32) (o_past_e_box_holes : Int32) (o_past_e_box_reach : Int32) (o_past_e_box_cells : Nat → Int32) (o_past_e_box_pulls : Nat → Int32) (o_past_e_box_holeX : Nat → Int32) (o_past_e_box_holeY : Nat → Int32) (o_past_e_box_price_size : Int32) (o_past_e_box_price_codes : Nat → Int32) (o_past_e_crowd_viewers : Int32) (o_past_e_crowd_lookLength : Int32) (o_past_e_crowd_time : Int32) (o_past_e_crowd_lookers : Nat → Int32) (o_past_e_crowd_facts : Nat → Int32) (p1 : Int32) (p2 : Int32) (p3 : Int32) : Option (Sum Nat (Int32 × Int32 × Int32 × Int32 × (Nat → Int32) × Int32 × Int32 × Int32 × Int32 × Int32 × (Nat → Int32) × (Nat → Int32) × (Nat → Int32) × (Nat → Int32) × Int32 × (Nat → Int32) × Int32 × Int32 × Int32 × (Nat → Int32) × (Nat → Int32))) :=
  bx0 (X6_requireRange p1 (0 : Int32) (9 : Int32)) fun _ =>
  bx0 (X6_requireRange p2 (0 : Int32) (25 : Int32)) fun _ =>
  bx0 (X6_requireRange p3 (0 : Int32) (999 : Int32)) fun _ =>
  bn1 (X1_isFull o_now_crowd_viewers) fun (r4 : Int32) =>
  if r4 = 0 then
    bn18 (X6_remember j o_nextPast o_undoable o_now_box_width o_now_box_height o_now_box_planes o_now_box_holes o_now_box_reach o_now_box_cells o_now_box_pulls o_now_box_holeX o_now_box_holeY o_now_box_price_size o_now_box_price_codes o_now_crowd_viewers o_now_crowd_lookLength o_now_crowd_time o_now_crowd_lookers o_now_crowd_facts o_past_e_box_width o_past_e_box_height o_past_e_box_planes o_past_e_box_holes o_past_e_box_reach o_past_e_box_cells o_past_e_box_pulls o_past_e_box_holeX o_past_e_box_holeY o_past_e_box_price_size o_past_e_box_price_codes o_past_e_crowd_viewers o_past_e_crowd_lookLength o_past_e_crowd_time o_past_e_crowd_lookers o_past_e_crowd_facts) fun (o7 : Int32) (o8 : Int32) (o9 : Int32) (o10 : Int32) (o11 : Int32) (o12 : Int32) (o13 : Int32) (o14 : Nat → Int32) (o15 : Nat → Int32) (o16 : Nat → Int32) (o17 : Nat → Int32) (o18 : Int32) (o19 : Nat → Int32) (o20 : Int32) (o21 : Int32) (o22 : Int32) (o23 : Nat → Int32) (o24 : Nat → Int32) =>
    bn2 (X1_add o_now_crowd_viewers o_now_crowd_facts p1 p2 p3) fun (o26 : Int32) (o27 : Nat → Int32) =>
    some (.inr ((o26 - (1 : Int32)), o7, o8, o26, o27, o9, o10, o11, o12, o13, o14, o15, o16, o17, o18, o19, o20, o21, o22, o23, o24))
  else
    some (.inl 3)
def X6_length (j : Nat) (o_nextPast : Int32) (o_undoable : Int32) (o_now_box_width : Int32) (o_now_box_height : Int32) (o_now_box_planes : Int32) (o_now_box_holes : Int32) (o_now_box_reach : Int32) (o_now_box_cells : Nat → Int32) (o_now_box_pulls : Nat → Int32) (o_now_box_holeX : Nat → Int32) (o_now_box_holeY : Nat → Int32) (o_now_box_price_size : Int32) (o_now_box_price_codes : Nat → Int32) (o_now_crowd_viewers : Int32) (o_now_crowd_lookLength : Int32) (o_now_crowd_time : Int32) (o_now_crowd_lookers : Nat → Int32) (o_now_crowd_facts : Nat → Int32) (o_past_e_box_width : Int32) (o_past_e_box_height : Int32) (o_past_e_box_planes : Int32) (o_past_e_box_holes : Int32) (o_past_e_box_reach : Int32) (o_past_e_box_cells : Nat → Int32) (o_past_e_box_pulls : Nat → Int32) (o_past_e_box_holeX : Nat → Int32) (o_past_e_box_holeY : Nat → Int32) (o_past_e_box_price_size : Int32) (o_past_e_box_price_codes : Nat → Int32) (o_past_e_crowd_viewers : Int32) (o_past_e_crowd_lookLength : Int32) (o_past_e_crowd_time : Int32) (o_past_e_crowd_lookers : Nat → Int32) (o_past_e_crowd_facts : Nat → Int32) (p1 : Int32) : Option (Sum Nat (Int32 × Int32 × Int32 × Int32 × Int32 × Int32 × Int32 × Int32 × Int32 × (Nat → Int32) × (Nat → Int32) × (Nat → Int32) × (Nat → Int32) × Int32 × (Nat → Int32) × Int32 × Int32 × Int32 × (Nat → Int32) × (Nat → Int32))) :=
  bx0 (X6_requireRange p1 (1 : Int32) (20 : Int32)) fun _ =>
  bn18 (X6_remember j o_nextPast o_undoable o_now_box_width o_now_box_height o_now_box_planes o_now_box_holes o_now_box_reach o_now_box_cells o_now_box_pulls o_now_box_holeX o_now_box_holeY o_now_box_price_size o_now_box_price_codes o_now_crowd_viewers o_now_crowd_lookLength o_now_crowd_time o_now_crowd_lookers o_now_crowd_facts o_past_e_box_width o_past_e_box_height o_past_e_box_planes o_past_e_box_holes o_past_e_box_reach o_past_e_box_cells o_past_e_box_pulls o_past_e_box_holeX o_past_e_box_holeY o_past_e_box_price_size o_past_e_box_price_codes o_past_e_crowd_viewers o_past_e_crowd_lookLength o_past_e_crowd_time o_past_e_crowd_lookers o_past_e_crowd_facts) fun (o2 : Int32) (o3 : Int32) (o4 : Int32) (o5 : Int32) (o6 : Int32) (o7 : Int32) (o8 : Int32) (o9 : Nat → Int32) (o10 : Nat → Int32) (o11 : Nat → Int32) (o12 : Nat → Int32) (o13 : Int32) (o14 : Nat → Int32) (o15 : Int32) (o16 : Int32) (o17 : Int32) (o18 : Nat → Int32) (o19 : Nat → Int32) =>
  some (.inr (o_now_crowd_lookLength, o2, o3, p1, o4, o5, o6, o7, o8, o9, o10, o11, o12, o13, o14, o15, o16, o17, o18, o19))
def X6_undo (j : Nat) (o_nextPast : Int32) (o_undoable : Int32) (o_now_box_width : Int32) (o_now_box_height : Int32) (o_now_box_planes : Int32) (o_now_box_holes : Int32) (o_now_box_reach : Int32) (o_now_box_cells : Nat → Int32) (o_now_box_pulls : Nat → Int32) (o_now_box_holeX : Nat → Int32) (o_now_box_holeY : Nat → Int32) (o_now_box_price_size : Int32) (o_now_box_price_codes : Nat → Int32) (o_now_crowd_viewers : Int32) (o_now_crowd_lookLength : Int32) (o_now_crowd_time : Int32) (o_now_crowd_lookers : Nat → Int32) (o_now_crowd_facts : Nat → Int32) (o_view_seen : Nat → Int32) (o_view_counts : Nat → Int32) (o_view_kinds : Nat → Int32) (o_view_depths : Nat → Int32) (o_view_prices : Nat → Int32) (o_past_e_box_width : Int32) (o_past_e_box_height : Int32) (o_past_e_box_planes : Int32) (o_past_e_box_holes : Int32) (o_past_e_box_reach : Int32) (o_past_e_box_cells : Nat → Int32) (o_past_e_box_pulls : Nat → Int32) (o_past_e_box_holeX : Nat → Int32) (o_past_e_box_holeY : Nat → Int32) (o_past_e_box_price_size : Int32) (o_past_e_box_price_codes : Nat → Int32) (o_past_e_crowd_viewers : Int32) (o_past_e_crowd_lookLength : Int32) (o_past_e_crowd_time : Int32) (o_past_e_crowd_lookers : Nat → Int32) (o_past_e_crowd_facts : Nat → Int32) : Option (Int32 × Int32 × Int32 × Int32 × Int32 × Int32 × Int32 × Int32 × (Nat → Int32) × (Nat → Int32) × (Nat → Int32) × (Nat → Int32) × Int32 × (Nat → Int32) × Int32 × Int32 × Int32 × (Nat → Int32) × (Nat → Int32) × (Nat → Int32) × (Nat → Int32) × (Nat → Int32) × (Nat → Int32) × (Nat → Int32)) :=
  if o_undoable = 0 then
    some ((-1 : Int32), o_nextPast, o_undoable, o_now_box_width, o_now_box_height, o_now_box_planes, o_now_box_holes, o_now_box_reach, o_now_box_cells, o_now_box_pulls, o_now_box_holeX, o_now_box_holeY, o_now_box_price_size, o_now_box_price_codes, o_now_crowd_viewers, o_now_crowd_lookLength, o_now_crowd_time, o_now_crowd_lookers, o_now_crowd_facts, o_view_seen, o_view_counts, o_view_kinds, o_view_depths, o_view_prices)
  else
    nm (((o_nextPast + (8 : Int32)) - (1 : Int32)) - ((o_nextPast + (8 : Int32)) - (1 : Int32)) / (8 : Int32) * (8 : Int32)) fun (v2 : Int32) =>
    nm (o_undoable - (1 : Int32)) fun (v3 : Int32) =>
    ck (¬ (v2 < 0 ∨ 8 ≤ v2.toNatClampNeg) ∧ v2.toNatClampNeg = j) <|
    bn16 (X4_copyFrom o_now_box_width o_now_box_height o_now_box_planes o_now_box_holes o_now_box_reach o_now_box_cells o_now_box_pulls o_now_box_holeX o_now_box_holeY o_now_box_price_size o_now_box_price_codes o_now_crowd_viewers o_now_crowd_lookLength o_now_crowd_time o_now_crowd_lookers o_now_crowd_facts o_past_e_box_width o_past_e_box_height o_past_e_box_planes o_past_e_box_holes o_past_e_box_reach o_past_e_box_cells o_past_e_box_pulls o_past_e_box_holeX o_past_e_box_holeY o_past_e_box_price_size o_past_e_box_price_codes o_past_e_crowd_viewers o_past_e_crowd_lookLength o_past_e_crowd_time o_past_e_crowd_lookers o_past_e_crowd_facts) fun (o6 : Int32) (o7 : Int32) (o8 : Int32) (o9 : Int32) (o10 : Int32) (o11 : Nat → Int32) (o12 : Nat → Int32) (o13 : Nat → Int32) (o14 : Nat → Int32) (o15 : Int32) (o16 : Nat → Int32) (o17 : Int32) (o18 : Int32) (o19 : Int32) (o20 : Nat → Int32) (o21 : Nat → Int32) =>
    bn5 (X5_update o_view_seen o_view_counts o_view_kinds o_view_depths o_view_prices o6 o7 o8 o9 o11 o12 o13 o14) fun (o23 : Nat → Int32) (o24 : Nat → Int32) (o25 : Nat → Int32) (o26 : Nat → Int32) (o27 : Nat → Int32) =>
    some (v3, v2, v3, o6, o7, o8, o9, o10, o11, o12, o13, o14, o15, o16, o17, o18, o19, o20, o21, o23, o24, o25, o26, o27)
def X6_checksum_L152 (o_now_box_width : Int32) (o_now_box_height : Int32) (o_now_box_planes : Int32) (o_now_box_holes : Int32) (o_now_box_reach : Int32) (o_now_box_cells : Nat → Int32) (o_now_box_pulls : Nat → Int32) (o_now_box_holeX : Nat → Int32) (o_now_box_holeY : Nat → Int32) (o_now_crowd_viewers : Int32) (o_now_crowd_lookLength : Int32) (o_now_crowd_time : Int32) (o_now_crowd_lookers : Nat → Int32) (o_now_crowd_facts : Nat → Int32) (o_view_seen : Nat → Int32) (o_view_kinds : Nat → Int32) (o_view_depths : Nat → Int32) (kL135 : Int64 → Int32 → Option (Int64)) : Nat → Int64 → Int32 → Int32 → Option (Int64)
  | 0, _, _, _ => none
  | n + 1, l1, l3, l4 =>
    if (7 : Int32) ≤ l4 then
      nm (l3 + (1 : Int32)) fun (v2 : Int32) =>
      kL135 l1 v2
    else
      bt1 (X6_viewer o_now_crowd_viewers o_now_crowd_facts l3 l4) fun (r3 : Int32) =>
      nm (((31 : Int64) * l1) + r3.toInt64) fun (v5 : Int64) =>
      nm (l4 + (1 : Int32)) fun (v6 : Int32) =>
      X6_checksum_L152 o_now_box_width o_now_box_height o_now_box_planes o_now_box_holes o_now_box_reach o_now_box_cells o_now_box_pulls o_now_box_holeX o_now_box_holeY o_now_crowd_viewers o_now_crowd_lookLength o_now_crowd_time o_now_crowd_lookers o_now_crowd_facts o_view_seen o_view_kinds o_view_depths kL135 n v5 l3 v6
def X6_checksum_L135 (o_now_box_width : Int32) (o_now_box_height : Int32) (o_now_box_planes : Int32) (o_now_box_holes : Int32) (o_now_box_reach : Int32) (o_now_box_cells : Nat → Int32) (o_now_box_pulls : Nat → Int32) (o_now_box_holeX : Nat → Int32) (o_now_box_holeY : Nat → Int32) (o_now_crowd_viewers : Int32) (o_now_crowd_lookLength : Int32) (o_now_crowd_time : Int32) (o_now_crowd_lookers : Nat → Int32) (o_now_crowd_facts : Nat → Int32) (o_view_seen : Nat → Int32) (o_view_kinds : Nat → Int32) (o_view_depths : Nat → Int32)  : Nat → Int64 → Int32 → Option (Int64)
  | 0, _, _ => none
  | n + 1, l1, l3 =>
    if o_now_crowd_viewers ≤ l3 then
      some l1
    else
      X6_checksum_L152 o_now_box_width o_now_box_height o_now_box_planes o_now_box_holes o_now_box_reach o_now_box_cells o_now_box_pulls o_now_box_holeX o_now_box_holeY o_now_crowd_viewers o_now_crowd_lookLength o_now_crowd_time o_now_crowd_lookers o_now_crowd_facts o_view_seen o_view_kinds o_view_depths (fun z0 z1 => X6_checksum_L135 o_now_box_width o_now_box_height o_now_box_planes o_now_box_holes o_now_box_reach o_now_box_cells o_now_box_pulls o_now_box_holeX o_now_box_holeY o_now_crowd_viewers o_now_crowd_lookLength o_now_crowd_time o_now_crowd_lookers o_now_crowd_facts o_view_seen o_view_kinds o_view_depths n z0 z1) FU l1 l3 (0 : Int32)
def X6_checksum_L100 (o_now_box_width : Int32) (o_now_box_height : Int32) (o_now_box_planes : Int32) (o_now_box_holes : Int32) (o_now_box_reach : Int32) (o_now_box_cells : Nat → Int32) (o_now_box_pulls : Nat → Int32) (o_now_box_holeX : Nat → Int32) (o_now_box_holeY : Nat → Int32) (o_now_crowd_viewers : Int32) (o_now_crowd_lookLength : Int32) (o_now_crowd_time : Int32) (o_now_crowd_lookers : Nat → Int32) (o_now_crowd_facts : Nat → Int32) (o_view_seen : Nat → Int32) (o_view_kinds : Nat → Int32) (o_view_depths : Nat → Int32) (kL83 : Int64 → Int32 → Option (Int64)) : Nat → Int64 → Int32 → Int32 → Option (Int64)
  | 0, _, _, _ => none
  | n + 1, l1, l3, l4 =>
    if (5 : Int32) ≤ l4 then
      nm (l3 + (1 : Int32)) fun (v9 : Int32) =>
      kL83 l1 v9
    else
      bt1 (X6_hole o_now_box_holes o_now_box_holeX o_now_box_holeY o_now_crowd_lookers o_view_kinds o_view_depths l3 l4) fun (r10 : Int32) =>
      nm (((31 : Int64) * l1) + r10.toInt64) fun (v12 : Int64) =>
      nm (l4 + (1 : Int32)) fun (v13 : Int32) =>
      X6_checksum_L100 o_now_box_width o_now_box_height o_now_box_planes o_now_box_holes o_now_box_reach o_now_box_cells o_now_box_pulls o_now_box_holeX o_now_box_holeY o_now_crowd_viewers o_now_crowd_lookLength o_now_crowd_time o_now_crowd_lookers o_now_crowd_facts o_view_seen o_view_kinds o_view_depths kL83 n v12 l3 v13
def X6_checksum_L83 (o_now_box_width : Int32) (o_now_box_height : Int32) (o_now_box_planes : Int32) (o_now_box_holes : Int32) (o_now_box_reach : Int32) (o_now_box_cells : Nat → Int32) (o_now_box_pulls : Nat → Int32) (o_now_box_holeX : Nat → Int32) (o_now_box_holeY : Nat → Int32) (o_now_crowd_viewers : Int32) (o_now_crowd_lookLength : Int32) (o_now_crowd_time : Int32) (o_now_crowd_lookers : Nat → Int32) (o_now_crowd_facts : Nat → Int32) (o_view_seen : Nat → Int32) (o_view_kinds : Nat → Int32) (o_view_depths : Nat → Int32)  : Nat → Int64 → Int32 → Option (Int64)
  | 0, _, _ => none
  | n + 1, l1, l3 =>
    if o_now_box_holes ≤ l3 then
      X6_checksum_L135 o_now_box_width o_now_box_height o_now_box_planes o_now_box_holes o_now_box_reach o_now_box_cells o_now_box_pulls o_now_box_holeX o_now_box_holeY o_now_crowd_viewers o_now_crowd_lookLength o_now_crowd_time o_now_crowd_lookers o_now_crowd_facts o_view_seen o_view_kinds o_view_depths FU l1 (0 : Int32)
    else
      X6_checksum_L100 o_now_box_width o_now_box_height o_now_box_planes o_now_box_holes o_now_box_reach o_now_box_cells o_now_box_pulls o_now_box_holeX o_now_box_holeY o_now_crowd_viewers o_now_crowd_lookLength o_now_crowd_time o_now_crowd_lookers o_now_crowd_facts o_view_seen o_view_kinds o_view_depths (fun z0 z1 => X6_checksum_L83 o_now_box_width o_now_box_height o_now_box_planes o_now_box_holes o_now_box_reach o_now_box_cells o_now_box_pulls o_now_box_holeX o_now_box_holeY o_now_crowd_viewers o_now_crowd_lookLength o_now_crowd_time o_now_crowd_lookers o_now_crowd_facts o_view_seen o_view_kinds o_view_depths n z0 z1) FU l1 l3 (0 : Int32)
def X6_checksum_L48 (o_now_box_width : Int32) (o_now_box_height : Int32) (o_now_box_planes : Int32) (o_now_box_holes : Int32) (o_now_box_reach : Int32) (o_now_box_cells : Nat → Int32) (o_now_box_pulls : Nat → Int32) (o_now_box_holeX : Nat → Int32) (o_now_box_holeY : Nat → Int32) (o_now_crowd_viewers : Int32) (o_now_crowd_lookLength : Int32) (o_now_crowd_time : Int32) (o_now_crowd_lookers : Nat → Int32) (o_now_crowd_facts : Nat → Int32) (o_view_seen : Nat → Int32) (o_view_kinds : Nat → Int32) (o_view_depths : Nat → Int32) (kL31 : Int64 → Int32 → Option (Int64)) : Nat → Int64 → Int32 → Int32 → Option (Int64)
  | 0, _, _, _ => none
  | n + 1, l1, l3, l4 =>
    if (3 : Int32) ≤ l4 then
      nm (l3 + (1 : Int32)) fun (v16 : Int32) =>
      kL31 l1 v16
    else
      bt1 (X6_plane o_now_box_width o_now_box_height o_now_box_planes o_now_box_holes o_now_box_cells o_now_box_pulls o_view_seen l3 l4) fun (r17 : Int32) =>
      nm (((31 : Int64) * l1) + r17.toInt64) fun (v19 : Int64) =>
      nm (l4 + (1 : Int32)) fun (v20 : Int32) =>
      X6_checksum_L48 o_now_box_width o_now_box_height o_now_box_planes o_now_box_holes o_now_box_reach o_now_box_cells o_now_box_pulls o_now_box_holeX o_now_box_holeY o_now_crowd_viewers o_now_crowd_lookLength o_now_crowd_time o_now_crowd_lookers o_now_crowd_facts o_view_seen o_view_kinds o_view_depths kL31 n v19 l3 v20
def X6_checksum_L31 (o_now_box_width : Int32) (o_now_box_height : Int32) (o_now_box_planes : Int32) (o_now_box_holes : Int32) (o_now_box_reach : Int32) (o_now_box_cells : Nat → Int32) (o_now_box_pulls : Nat → Int32) (o_now_box_holeX : Nat → Int32) (o_now_box_holeY : Nat → Int32) (o_now_crowd_viewers : Int32) (o_now_crowd_lookLength : Int32) (o_now_crowd_time : Int32) (o_now_crowd_lookers : Nat → Int32) (o_now_crowd_facts : Nat → Int32) (o_view_seen : Nat → Int32) (o_view_kinds : Nat → Int32) (o_view_depths : Nat → Int32)  : Nat → Int64 → Int32 → Option (Int64)
  | 0, _, _ => none
  | n + 1, l1, l3 =>
    if o_now_box_planes ≤ l3 then
      X6_checksum_L83 o_now_box_width o_now_box_height o_now_box_planes o_now_box_holes o_now_box_reach o_now_box_cells o_now_box_pulls o_now_box_holeX o_now_box_holeY o_now_crowd_viewers o_now_crowd_lookLength o_now_crowd_time o_now_crowd_lookers o_now_crowd_facts o_view_seen o_view_kinds o_view_depths FU l1 (0 : Int32)
    else
      X6_checksum_L48 o_now_box_width o_now_box_height o_now_box_planes o_now_box_holes o_now_box_reach o_now_box_cells o_now_box_pulls o_now_box_holeX o_now_box_holeY o_now_crowd_viewers o_now_crowd_lookLength o_now_crowd_time o_now_crowd_lookers o_now_crowd_facts o_view_seen o_view_kinds o_view_depths (fun z0 z1 => X6_checksum_L31 o_now_box_width o_now_box_height o_now_box_planes o_now_box_holes o_now_box_reach o_now_box_cells o_now_box_pulls o_now_box_holeX o_now_box_holeY o_now_crowd_viewers o_now_crowd_lookLength o_now_crowd_time o_now_crowd_lookers o_now_crowd_facts o_view_seen o_view_kinds o_view_depths n z0 z1) FU l1 l3 (0 : Int32)
def X6_checksum_L4 (o_now_box_width : Int32) (o_now_box_height : Int32) (o_now_box_planes : Int32) (o_now_box_holes : Int32) (o_now_box_reach : Int32) (o_now_box_cells : Nat → Int32) (o_now_box_pulls : Nat → Int32) (o_now_box_holeX : Nat → Int32) (o_now_box_holeY : Nat → Int32) (o_now_crowd_viewers : Int32) (o_now_crowd_lookLength : Int32) (o_now_crowd_time : Int32) (o_now_crowd_lookers : Nat → Int32) (o_now_crowd_facts : Nat → Int32) (o_view_seen : Nat → Int32) (o_view_kinds : Nat → Int32) (o_view_depths : Nat → Int32)  : Nat → Int64 → Int32 → Option (Int64)
  | 0, _, _ => none
  | n + 1, l1, l3 =>
    if (14 : Int32) ≤ l3 then
      X6_checksum_L31 o_now_box_width o_now_box_height o_now_box_planes o_now_box_holes o_now_box_reach o_now_box_cells o_now_box_pulls o_now_box_holeX o_now_box_holeY o_now_crowd_viewers o_now_crowd_lookLength o_now_crowd_time o_now_crowd_lookers o_now_crowd_facts o_view_seen o_view_kinds o_view_depths FU l1 (0 : Int32)
    else
      bt1 (X6_state o_now_box_width o_now_box_height o_now_box_planes o_now_box_holes o_now_box_reach o_now_crowd_viewers o_now_crowd_lookLength o_now_crowd_time o_now_crowd_facts l3) fun (r23 : Int32) =>
      nm (((31 : Int64) * l1) + r23.toInt64) fun (v25 : Int64) =>
      nm (l3 + (1 : Int32)) fun (v26 : Int32) =>
      X6_checksum_L4 o_now_box_width o_now_box_height o_now_box_planes o_now_box_holes o_now_box_reach o_now_box_cells o_now_box_pulls o_now_box_holeX o_now_box_holeY o_now_crowd_viewers o_now_crowd_lookLength o_now_crowd_time o_now_crowd_lookers o_now_crowd_facts o_view_seen o_view_kinds o_view_depths n v25 v26
def X6_checksum (o_now_box_width : Int32) (o_now_box_height : Int32) (o_now_box_planes : Int32) (o_now_box_holes : Int32) (o_now_box_reach : Int32) (o_now_box_cells : Nat → Int32) (o_now_box_pulls : Nat → Int32) (o_now_box_holeX : Nat → Int32) (o_now_box_holeY : Nat → Int32) (o_now_crowd_viewers : Int32) (o_now_crowd_lookLength : Int32) (o_now_crowd_time : Int32) (o_now_crowd_lookers : Nat → Int32) (o_now_crowd_facts : Nat → Int32) (o_view_seen : Nat → Int32) (o_view_kinds : Nat → Int32) (o_view_depths : Nat → Int32) : Option (Int64) :=
  X6_checksum_L4 o_now_box_width o_now_box_height o_now_box_planes o_now_box_holes o_now_box_reach o_now_box_cells o_now_box_pulls o_now_box_holeX o_now_box_holeY o_now_crowd_viewers o_now_crowd_lookLength o_now_crowd_time o_now_crowd_lookers o_now_crowd_facts o_view_seen o_view_kinds o_view_depths FU (0 : Int64) (0 : Int32)
