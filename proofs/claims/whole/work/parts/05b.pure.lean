/-! pure programs: what the bytecode computes, written by program (gen.py) -/
def X6_requireCell_J36 (o_now_box_width : Int32) (o_now_box_height : Int32) (p1 : Int32) (p2 : Int32)   : Option (Sum Nat (Unit)) :=
  some (.inl 1)
def X6_requireCell (o_now_box_width : Int32) (o_now_box_height : Int32) (p1 : Int32) (p2 : Int32) : Option (Sum Nat (Unit)) :=
  if p1 < 0 then
    X6_requireCell_J36 o_now_box_width o_now_box_height p1 p2
  else
    if o_now_box_width ≤ p1 then
      X6_requireCell_J36 o_now_box_width o_now_box_height p1 p2
    else
      if p2 < 0 then
        X6_requireCell_J36 o_now_box_width o_now_box_height p1 p2
      else
        if p2 < o_now_box_height then
          some (.inr ())
        else
          X6_requireCell_J36 o_now_box_width o_now_box_height p1 p2
def X6_stands (o_now_box_width : Int32) (o_now_box_height : Int32) (o_now_box_planes : Int32) (o_now_box_cells : Nat → Int32) (o_now_box_pulls : Nat → Int32) (p1 : Int32) (p2 : Int32) (p3 : Int32) : Option (Sum Nat (Int32)) :=
  bx0 (X6_requirePlane o_now_box_planes p1) fun _ =>
  bx0 (X6_requireCell o_now_box_width o_now_box_height p2 p3) fun _ =>
  bn1 (X0_kindAt o_now_box_height o_now_box_cells o_now_box_pulls p1 p2 p3) fun (r3 : Int32) =>
  some (.inr r3)
def X6_plane (o_now_box_width : Int32) (o_now_box_height : Int32) (o_now_box_planes : Int32) (o_now_box_holes : Int32) (o_now_box_cells : Nat → Int32) (o_now_box_pulls : Nat → Int32) (o_view_seen : Nat → Int32) (p1 : Int32) (p2 : Int32) : Option (Sum Nat (Int32)) :=
  bx0 (X6_requirePlane o_now_box_planes p1) fun _ =>
  if p2 = (0 : Int32) then
    ld o_now_box_pulls 5 p1 fun (v4 : Int32) =>
    some (.inr v4)
  else
  if p2 = (1 : Int32) then
    bn1 (X0_standing o_now_box_width o_now_box_height o_now_box_cells o_now_box_pulls p1) fun (r6 : Int32) =>
    some (.inr r6)
  else
  if p2 = (2 : Int32) then
    bn1 (X5_targetsOf o_view_seen o_now_box_width o_now_box_height o_now_box_holes p1) fun (r9 : Int32) =>
    some (.inr r9)
  else
  some (.inl 2)
def X6_requireHole_J18 (o_now_box_holes : Int32) (p1 : Int32)   : Option (Sum Nat (Unit)) :=
  some (.inl 1)
def X6_requireHole (o_now_box_holes : Int32) (p1 : Int32) : Option (Sum Nat (Unit)) :=
  if p1 < 0 then
    X6_requireHole_J18 o_now_box_holes p1
  else
    if p1 < o_now_box_holes then
      some (.inr ())
    else
      X6_requireHole_J18 o_now_box_holes p1
def X6_hole (o_now_box_holes : Int32) (o_now_box_holeX : Nat → Int32) (o_now_box_holeY : Nat → Int32) (o_now_crowd_lookers : Nat → Int32) (o_view_kinds : Nat → Int32) (o_view_depths : Nat → Int32) (p1 : Int32) (p2 : Int32) : Option (Sum Nat (Int32)) :=
  bx0 (X6_requireHole o_now_box_holes p1) fun _ =>
  if p2 = (0 : Int32) then
    ld o_now_box_holeX 4 p1 fun (v4 : Int32) =>
    some (.inr v4)
  else
  if p2 = (1 : Int32) then
    ld o_now_box_holeY 4 p1 fun (v7 : Int32) =>
    some (.inr v7)
  else
  if p2 = (2 : Int32) then
    ld o_now_crowd_lookers 4 p1 fun (v10 : Int32) =>
    some (.inr v10)
  else
  if p2 = (3 : Int32) then
    ld o_view_kinds 4 p1 fun (v13 : Int32) =>
    some (.inr v13)
  else
  if p2 = (4 : Int32) then
    ld o_view_depths 4 p1 fun (v16 : Int32) =>
    some (.inr v16)
  else
  some (.inl 2)
def X6_sees (o_now_box_width : Int32) (o_now_box_height : Int32) (o_now_box_holes : Int32) (o_view_seen : Nat → Int32) (p1 : Int32) (p2 : Int32) (p3 : Int32) : Option (Sum Nat (Int32)) :=
  bx0 (X6_requireHole o_now_box_holes p1) fun _ =>
  bx0 (X6_requireCell o_now_box_width o_now_box_height p2 p3) fun _ =>
  bn1 (X5_target p1 p2 p3) fun (r3 : Int32) =>
  ld o_view_seen 384 r3 fun (v6 : Int32) =>
  some (.inr v6)
def X6_requireRange_J10 (p0 : Int32) (p1 : Int32) (p2 : Int32)   : Option (Sum Nat (Unit)) :=
  some (.inl 2)
def X6_requireRange (p0 : Int32) (p1 : Int32) (p2 : Int32) : Option (Sum Nat (Unit)) :=
  if p0 < p1 then
    X6_requireRange_J10 p0 p1 p2
  else
    if p0 ≤ p2 then
      some (.inr ())
    else
      X6_requireRange_J10 p0 p1 p2
def X6_shown (o_now_box_holes : Int32) (o_view_counts : Nat → Int32) (p1 : Int32) (p2 : Int32) : Option (Sum Nat (Int32)) :=
  bx0 (X6_requireHole o_now_box_holes p1) fun _ =>
  bx0 (X6_requireRange p2 (0 : Int32) (25 : Int32)) fun _ =>
  ld o_view_counts 104 ((p1 * (26 : Int32)) + p2) fun (v4 : Int32) =>
  some (.inr v4)
def X6_why (o_now_box_width : Int32) (o_now_box_height : Int32) (o_now_box_planes : Int32) (o_now_box_holes : Int32) (o_now_box_cells : Nat → Int32) (o_now_box_pulls : Nat → Int32) (o_now_box_holeX : Nat → Int32) (o_now_box_holeY : Nat → Int32) (o_view_seen : Nat → Int32) (p1 : Int32) (p2 : Int32) (p3 : Int32) (p4 : Int32) : Option (Sum Nat (Int32)) :=
  bx0 (X6_requireHole o_now_box_holes p1) fun _ =>
  bx0 (X6_requirePlane o_now_box_planes p2) fun _ =>
  bx0 (X6_requireCell o_now_box_width o_now_box_height p3 p4) fun _ =>
  bn1 (X5_reason o_view_seen o_now_box_width o_now_box_height o_now_box_planes o_now_box_cells o_now_box_pulls o_now_box_holeX o_now_box_holeY p1 p2 p3 p4) fun (r4 : Int32) =>
  some (.inr r4)
def X6_requireViewer_J18 (o_now_crowd_viewers : Int32) (p1 : Int32)   : Option (Sum Nat (Unit)) :=
  some (.inl 1)
def X6_requireViewer (o_now_crowd_viewers : Int32) (p1 : Int32) : Option (Sum Nat (Unit)) :=
  if p1 < 0 then
    X6_requireViewer_J18 o_now_crowd_viewers p1
  else
    if p1 < o_now_crowd_viewers then
      some (.inr ())
    else
      X6_requireViewer_J18 o_now_crowd_viewers p1
def X6_viewer (o_now_crowd_viewers : Int32) (o_now_crowd_facts : Nat → Int32) (p1 : Int32) (p2 : Int32) : Option (Sum Nat (Int32)) :=
  bx0 (X6_requireViewer o_now_crowd_viewers p1) fun _ =>
  bx0 (X6_requireRange p2 (0 : Int32) (6 : Int32)) fun _ =>
  bn1 (X1_fact o_now_crowd_facts p1 p2) fun (r3 : Int32) =>
  some (.inr r3)
def X6_price (o_now_box_height : Int32) (o_now_box_holes : Int32) (o_now_box_reach : Int32) (o_now_box_holeY : Nat → Int32) (o_now_box_price_size : Int32) (o_now_box_price_codes : Nat → Int32) (o_now_box_price_waiting : Nat → Int32) (o_now_crowd_viewers : Int32) (o_now_crowd_facts : Nat → Int32) (o_view_counts : Nat → Int32) (o_view_kinds : Nat → Int32) (o_view_depths : Nat → Int32) (o_view_prices : Nat → Int32) (p1 : Int32) (p2 : Int32) : Option (Sum Nat (Int32 × (Nat → Int32) × (Nat → Int32))) :=
  bx0 (X6_requireViewer o_now_crowd_viewers p1) fun _ =>
  bx0 (X6_requireHole o_now_box_holes p2) fun _ =>
  bn1 (X1_fact o_now_crowd_facts p1 (0 : Int32)) fun (r3 : Int32) =>
  bn1 (X0_canUse o_now_box_height o_now_box_reach o_now_box_holeY r3 p2) fun (r5 : Int32) =>
  if r5 = 0 then
    some (.inr ((-1 : Int32), o_now_box_price_waiting, o_view_prices))
  else
    bn1 (X1_fact o_now_crowd_facts p1 (1 : Int32)) fun (r8 : Int32) =>
    bn3 (X5_priceFor o_view_counts o_view_kinds o_view_depths o_view_prices o_now_box_price_size o_now_box_price_codes o_now_box_price_waiting r8 p2) fun (r10 : Int32) (o11 : Nat → Int32) (o12 : Nat → Int32) =>
    some (.inr (r10, o12, o11))
def X6_bestPull_J127 (o_now_box_width : Int32) (o_now_box_height : Int32) (o_now_box_planes : Int32) (o_now_box_holes : Int32) (o_now_box_reach : Int32) (o_now_box_cells : Nat → Int32) (o_now_box_pulls : Nat → Int32) (o_now_box_holeX : Nat → Int32) (o_now_box_holeY : Nat → Int32) (o_now_box_price_size : Int32) (o_now_box_price_codes : Nat → Int32) (p1 : Int32) (p2 : Int32) (kL53 : Int32 → Int32 → Int32 → Int32 → Int32 → Int32 → Int32 → Int32 → (Nat → Int32) → (Nat → Int32) → (Nat → Int32) → (Nat → Int32) → Int32 → (Nat → Int32) → (Nat → Int32) → (Nat → Int32) → (Nat → Int32) → (Nat → Int32) → (Nat → Int32) → Option (Sum Nat (Int32 × Int32 × Int32 × Int32 × Int32 × Int32 × (Nat → Int32) × (Nat → Int32) × (Nat → Int32) × (Nat → Int32) × Int32 × (Nat → Int32) × (Nat → Int32) × (Nat → Int32) × (Nat → Int32) × (Nat → Int32) × (Nat → Int32)))) (l3 : Int32) (l4 : Int32) (l5 : Int32) (o_trial_box_width : Int32) (o_trial_box_height : Int32) (o_trial_box_planes : Int32) (o_trial_box_holes : Int32) (o_trial_box_reach : Int32) (o_trial_box_cells : Nat → Int32) (o_trial_box_pulls : Nat → Int32) (o_trial_box_holeX : Nat → Int32) (o_trial_box_holeY : Nat → Int32) (o_trial_box_price_size : Int32) (o_trial_box_price_codes : Nat → Int32) (o_trialView_seen : Nat → Int32) (o_trialView_counts : Nat → Int32) (o_trialView_kinds : Nat → Int32) (o_trialView_depths : Nat → Int32) (o_trialView_prices : Nat → Int32) : Option (Sum Nat (Int32 × Int32 × Int32 × Int32 × Int32 × Int32 × (Nat → Int32) × (Nat → Int32) × (Nat → Int32) × (Nat → Int32) × Int32 × (Nat → Int32) × (Nat → Int32) × (Nat → Int32) × (Nat → Int32) × (Nat → Int32) × (Nat → Int32))) :=
  nm (l5 + (1 : Int32)) fun (v1 : Int32) =>
  kL53 l3 l4 v1 o_trial_box_width o_trial_box_height o_trial_box_planes o_trial_box_holes o_trial_box_reach o_trial_box_cells o_trial_box_pulls o_trial_box_holeX o_trial_box_holeY o_trial_box_price_size o_trial_box_price_codes o_trialView_seen o_trialView_counts o_trialView_kinds o_trialView_depths o_trialView_prices
def X6_bestPull_L53 (o_now_box_width : Int32) (o_now_box_height : Int32) (o_now_box_planes : Int32) (o_now_box_holes : Int32) (o_now_box_reach : Int32) (o_now_box_cells : Nat → Int32) (o_now_box_pulls : Nat → Int32) (o_now_box_holeX : Nat → Int32) (o_now_box_holeY : Nat → Int32) (o_now_box_price_size : Int32) (o_now_box_price_codes : Nat → Int32) (p1 : Int32) (p2 : Int32)  : Nat → Int32 → Int32 → Int32 → Int32 → Int32 → Int32 → Int32 → Int32 → (Nat → Int32) → (Nat → Int32) → (Nat → Int32) → (Nat → Int32) → Int32 → (Nat → Int32) → (Nat → Int32) → (Nat → Int32) → (Nat → Int32) → (Nat → Int32) → (Nat → Int32) → Option (Sum Nat (Int32 × Int32 × Int32 × Int32 × Int32 × Int32 × (Nat → Int32) × (Nat → Int32) × (Nat → Int32) × (Nat → Int32) × Int32 × (Nat → Int32) × (Nat → Int32) × (Nat → Int32) × (Nat → Int32) × (Nat → Int32) × (Nat → Int32)))
  | 0, _, _, _, _, _, _, _, _, _, _, _, _, _, _, _, _, _, _, _ => none
  | n + 1, l3, l4, l5, o_trial_box_width, o_trial_box_height, o_trial_box_planes, o_trial_box_holes, o_trial_box_reach, o_trial_box_cells, o_trial_box_pulls, o_trial_box_holeX, o_trial_box_holeY, o_trial_box_price_size, o_trial_box_price_codes, o_trialView_seen, o_trialView_counts, o_trialView_kinds, o_trialView_depths, o_trialView_prices =>
    if o_now_box_height < l5 then
      some (.inr (l3, o_trial_box_width, o_trial_box_height, o_trial_box_planes, o_trial_box_holes, o_trial_box_reach, o_trial_box_cells, o_trial_box_pulls, o_trial_box_holeX, o_trial_box_holeY, o_trial_box_price_size, o_trial_box_price_codes, o_trialView_seen, o_trialView_counts, o_trialView_kinds, o_trialView_depths, o_trialView_prices))
    else
      st 5 p1 (upd o_trial_box_pulls p1.toNatClampNeg l5) fun (b4 : Nat → Int32) =>
      bn5 (X5_update o_trialView_seen o_trialView_counts o_trialView_kinds o_trialView_depths o_trialView_prices o_trial_box_width o_trial_box_height o_trial_box_planes o_trial_box_holes o_trial_box_cells b4 o_trial_box_holeX o_trial_box_holeY) fun (o5 : Nat → Int32) (o6 : Nat → Int32) (o7 : Nat → Int32) (o8 : Nat → Int32) (o9 : Nat → Int32) =>
      bn1 (X5_countInAll o6 o_trial_box_holes p2) fun (r11 : Int32) =>
      if r11 ≤ l4 then
        X6_bestPull_J127 o_now_box_width o_now_box_height o_now_box_planes o_now_box_holes o_now_box_reach o_now_box_cells o_now_box_pulls o_now_box_holeX o_now_box_holeY o_now_box_price_size o_now_box_price_codes p1 p2 (fun z0 z1 z2 z3 z4 z5 z6 z7 z8 z9 z10 z11 z12 z13 z14 z15 z16 z17 z18 => X6_bestPull_L53 o_now_box_width o_now_box_height o_now_box_planes o_now_box_holes o_now_box_reach o_now_box_cells o_now_box_pulls o_now_box_holeX o_now_box_holeY o_now_box_price_size o_now_box_price_codes p1 p2 n z0 z1 z2 z3 z4 z5 z6 z7 z8 z9 z10 z11 z12 z13 z14 z15 z16 z17 z18) l3 l4 l5 o_trial_box_width o_trial_box_height o_trial_box_planes o_trial_box_holes o_trial_box_reach o_trial_box_cells b4 o_trial_box_holeX o_trial_box_holeY o_trial_box_price_size o_trial_box_price_codes o5 o6 o7 o8 o9
      else
        X6_bestPull_J127 o_now_box_width o_now_box_height o_now_box_planes o_now_box_holes o_now_box_reach o_now_box_cells o_now_box_pulls o_now_box_holeX o_now_box_holeY o_now_box_price_size o_now_box_price_codes p1 p2 (fun z0 z1 z2 z3 z4 z5 z6 z7 z8 z9 z10 z11 z12 z13 z14 z15 z16 z17 z18 => X6_bestPull_L53 o_now_box_width o_now_box_height o_now_box_planes o_now_box_holes o_now_box_reach o_now_box_cells o_now_box_pulls o_now_box_holeX o_now_box_holeY o_now_box_price_size o_now_box_price_codes p1 p2 n z0 z1 z2 z3 z4 z5 z6 z7 z8 z9 z10 z11 z12 z13 z14 z15 z16 z17 z18) l5 r11 l5 o_trial_box_width o_trial_box_height o_trial_box_planes o_trial_box_holes o_trial_box_reach o_trial_box_cells b4 o_trial_box_holeX o_trial_box_holeY o_trial_box_price_size o_trial_box_price_codes o5 o6 o7 o8 o9
def X6_bestPull (o_now_box_width : Int32) (o_now_box_height : Int32) (o_now_box_planes : Int32) (o_now_box_holes : Int32) (o_now_box_reach : Int32) (o_now_box_cells : Nat → Int32) (o_now_box_pulls : Nat → Int32) (o_now_box_holeX : Nat → Int32) (o_now_box_holeY : Nat → Int32) (o_now_box_price_size : Int32) (o_now_box_price_codes : Nat → Int32) (o_trial_box_width : Int32) (o_trial_box_height : Int32) (o_trial_box_planes : Int32) (o_trial_box_holes : Int32) (o_trial_box_reach : Int32) (o_trial_box_cells : Nat → Int32) (o_trial_box_pulls : Nat → Int32) (o_trial_box_holeX : Nat → Int32) (o_trial_box_holeY : Nat → Int32) (o_trial_box_price_size : Int32) (o_trial_box_price_codes : Nat → Int32) (o_trialView_seen : Nat → Int32) (o_trialView_counts : Nat → Int32) (o_trialView_kinds : Nat → Int32) (o_trialView_depths : Nat → Int32) (o_trialView_prices : Nat → Int32) (p1 : Int32) (p2 : Int32) : Option (Sum Nat (Int32 × Int32 × Int32 × Int32 × Int32 × Int32 × (Nat → Int32) × (Nat → Int32) × (Nat → Int32) × (Nat → Int32) × Int32 × (Nat → Int32) × (Nat → Int32) × (Nat → Int32) × (Nat → Int32) × (Nat → Int32) × (Nat → Int32))) :=
  bx0 (X6_requirePlane o_now_box_planes p1) fun _ =>
  bx0 (X6_requireRange p2 (0 : Int32) (25 : Int32)) fun _ =>
  bn1 (X0_isBack o_now_box_planes p1) fun (r16 : Int32) =>
  if r16 = 0 then
    bn11 (X0_copyFrom o_trial_box_width o_trial_box_height o_trial_box_planes o_trial_box_holes o_trial_box_reach o_trial_box_cells o_trial_box_pulls o_trial_box_holeX o_trial_box_holeY o_trial_box_price_size o_trial_box_price_codes o_now_box_width o_now_box_height o_now_box_planes o_now_box_holes o_now_box_reach o_now_box_cells o_now_box_pulls o_now_box_holeX o_now_box_holeY o_now_box_price_size o_now_box_price_codes) fun (o19 : Int32) (o20 : Int32) (o21 : Int32) (o22 : Int32) (o23 : Int32) (o24 : Nat → Int32) (o25 : Nat → Int32) (o26 : Nat → Int32) (o27 : Nat → Int32) (o28 : Int32) (o29 : Nat → Int32) =>
    X6_bestPull_L53 o_now_box_width o_now_box_height o_now_box_planes o_now_box_holes o_now_box_reach o_now_box_cells o_now_box_pulls o_now_box_holeX o_now_box_holeY o_now_box_price_size o_now_box_price_codes p1 p2 FU (0 : Int32) (-1 : Int32) (0 : Int32) o19 o20 o21 o22 o23 o24 o25 o26 o27 o28 o29 o_trialView_seen o_trialView_counts o_trialView_kinds o_trialView_depths o_trialView_prices
  else
    some (.inr ((0 : Int32), o_trial_box_width, o_trial_box_height, o_trial_box_planes, o_trial_box_holes, o_trial_box_reach, o_trial_box_cells, o_trial_box_pulls, o_trial_box_holeX, o_trial_box_holeY, o_trial_box_price_size, o_trial_box_price_codes, o_trialView_seen, o_trialView_counts, o_trialView_kinds, o_trialView_depths, o_trialView_prices))
def X6_foretold_L35 (o_now_box_height : Int32) (o_now_box_holes : Int32) (o_now_box_reach : Int32) (o_now_box_holeY : Nat → Int32) (o_now_box_price_size : Int32) (o_now_box_price_codes : Nat → Int32) (o_now_crowd_viewers : Int32) (o_now_crowd_lookLength : Int32) (o_now_crowd_time : Int32) (o_now_crowd_lookers : Nat → Int32) (o_now_crowd_facts : Nat → Int32) (o_view_counts : Nat → Int32) (o_view_kinds : Nat → Int32) (o_view_depths : Nat → Int32) (p1 : Int32) (p2 : Int32)  : Nat → Int32 → (Nat → Int32) → Int32 → Int32 → Int32 → (Nat → Int32) → (Nat → Int32) → (Nat → Int32) → Option (Sum Nat (Int32 × (Nat → Int32) × Int32 × Int32 × Int32 × (Nat → Int32) × (Nat → Int32) × (Nat → Int32)))
  | 0, _, _, _, _, _, _, _, _ => none
  | n + 1, l4, o_now_box_price_waiting, o_trial_crowd_viewers, o_trial_crowd_lookLength, o_trial_crowd_time, o_trial_crowd_lookers, o_trial_crowd_facts, o_view_prices =>
    if p1 ≤ l4 then
      if p2 = (0 : Int32) then
        bn1 (X1_allPaid o_trial_crowd_viewers o_trial_crowd_facts) fun (r3 : Int32) =>
        some (.inr (r3, o_now_box_price_waiting, o_trial_crowd_viewers, o_trial_crowd_lookLength, o_trial_crowd_time, o_trial_crowd_lookers, o_trial_crowd_facts, o_view_prices))
      else
      if p2 = (1 : Int32) then
        bn1 (X1_count o_trial_crowd_viewers o_trial_crowd_facts (0 : Int32)) fun (r6 : Int32) =>
        some (.inr (r6, o_now_box_price_waiting, o_trial_crowd_viewers, o_trial_crowd_lookLength, o_trial_crowd_time, o_trial_crowd_lookers, o_trial_crowd_facts, o_view_prices))
      else
      if p2 = (2 : Int32) then
        bn1 (X1_count o_trial_crowd_viewers o_trial_crowd_facts (1 : Int32)) fun (r9 : Int32) =>
        some (.inr (r9, o_now_box_price_waiting, o_trial_crowd_viewers, o_trial_crowd_lookLength, o_trial_crowd_time, o_trial_crowd_lookers, o_trial_crowd_facts, o_view_prices))
      else
      bn1 (X1_count o_trial_crowd_viewers o_trial_crowd_facts (3 : Int32)) fun (r11 : Int32) =>
      some (.inr (r11, o_now_box_price_waiting, o_trial_crowd_viewers, o_trial_crowd_lookLength, o_trial_crowd_time, o_trial_crowd_lookers, o_trial_crowd_facts, o_view_prices))
    else
      bn5 (X1_tick o_trial_crowd_viewers o_trial_crowd_lookLength o_trial_crowd_time o_trial_crowd_lookers o_trial_crowd_facts o_now_box_height o_now_box_holes o_now_box_reach o_now_box_holeY o_now_box_price_size o_now_box_price_codes o_now_box_price_waiting o_view_counts o_view_kinds o_view_depths o_view_prices) fun (o13 : Int32) (o14 : Nat → Int32) (o15 : Nat → Int32) (o16 : Nat → Int32) (o17 : Nat → Int32) =>
      nm (l4 + (1 : Int32)) fun (v19 : Int32) =>
      X6_foretold_L35 o_now_box_height o_now_box_holes o_now_box_reach o_now_box_holeY o_now_box_price_size o_now_box_price_codes o_now_crowd_viewers o_now_crowd_lookLength o_now_crowd_time o_now_crowd_lookers o_now_crowd_facts o_view_counts o_view_kinds o_view_depths p1 p2 n v19 o16 o_trial_crowd_viewers o_trial_crowd_lookLength o13 o14 o15 o17
def X6_foretold (o_now_box_height : Int32) (o_now_box_holes : Int32) (o_now_box_reach : Int32) (o_now_box_holeY : Nat → Int32) (o_now_box_price_size : Int32) (o_now_box_price_codes : Nat → Int32) (o_now_box_price_waiting : Nat → Int32) (o_now_crowd_viewers : Int32) (o_now_crowd_lookLength : Int32) (o_now_crowd_time : Int32) (o_now_crowd_lookers : Nat → Int32) (o_now_crowd_facts : Nat → Int32) (o_trial_crowd_viewers : Int32) (o_trial_crowd_lookLength : Int32) (o_trial_crowd_time : Int32) (o_trial_crowd_lookers : Nat → Int32) (o_trial_crowd_facts : Nat → Int32) (o_view_counts : Nat → Int32) (o_view_kinds : Nat → Int32) (o_view_depths : Nat → Int32) (o_view_prices : Nat → Int32) (p1 : Int32) (p2 : Int32) : Option (Sum Nat (Int32 × (Nat → Int32) × Int32 × Int32 × Int32 × (Nat → Int32) × (Nat → Int32) × (Nat → Int32))) :=
  bx0 (X6_requireRange p1 (1 : Int32) (100 : Int32)) fun _ =>
  bx0 (X6_requireRange p2 (0 : Int32) (3 : Int32)) fun _ =>
  bn5 (X1_copyFrom o_trial_crowd_viewers o_trial_crowd_lookLength o_trial_crowd_time o_trial_crowd_lookers o_trial_crowd_facts o_now_crowd_viewers o_now_crowd_lookLength o_now_crowd_time o_now_crowd_lookers o_now_crowd_facts) fun (o22 : Int32) (o23 : Int32) (o24 : Int32) (o25 : Nat → Int32) (o26 : Nat → Int32) =>
  X6_foretold_L35 o_now_box_height o_now_box_holes o_now_box_reach o_now_box_holeY o_now_box_price_size o_now_box_price_codes o_now_crowd_viewers o_now_crowd_lookLength o_now_crowd_time o_now_crowd_lookers o_now_crowd_facts o_view_counts o_view_kinds o_view_depths p1 p2 FU (0 : Int32) o_now_box_price_waiting o22 o23 o24 o25 o26 o_view_prices
def X6_emptyIn_L21 (o_now_box_height : Int32) (o_now_box_holes : Int32) (o_now_box_reach : Int32) (o_now_box_holeY : Nat → Int32) (o_now_box_price_size : Int32) (o_now_box_price_codes : Nat → Int32) (o_now_crowd_viewers : Int32) (o_now_crowd_lookLength : Int32) (o_now_crowd_time : Int32) (o_now_crowd_lookers : Nat → Int32) (o_now_crowd_facts : Nat → Int32) (o_view_counts : Nat → Int32) (o_view_kinds : Nat → Int32) (o_view_depths : Nat → Int32)  : Nat → Int32 → (Nat → Int32) → Int32 → Int32 → Int32 → (Nat → Int32) → (Nat → Int32) → (Nat → Int32) → Option (Int32 × (Nat → Int32) × Int32 × Int32 × Int32 × (Nat → Int32) × (Nat → Int32) × (Nat → Int32))
  | 0, _, _, _, _, _, _, _, _ => none
  | n + 1, l2, o_now_box_price_waiting, o_trial_crowd_viewers, o_trial_crowd_lookLength, o_trial_crowd_time, o_trial_crowd_lookers, o_trial_crowd_facts, o_view_prices =>
    if (100000 : Int32) ≤ l2 then
      some (l2, o_now_box_price_waiting, o_trial_crowd_viewers, o_trial_crowd_lookLength, o_trial_crowd_time, o_trial_crowd_lookers, o_trial_crowd_facts, o_view_prices)
    else
      bn1 (X1_isBusy o_trial_crowd_viewers o_trial_crowd_facts) fun (r2 : Int32) =>
      if r2 = 0 then
        some (l2, o_now_box_price_waiting, o_trial_crowd_viewers, o_trial_crowd_lookLength, o_trial_crowd_time, o_trial_crowd_lookers, o_trial_crowd_facts, o_view_prices)
      else
        bn5 (X1_tick o_trial_crowd_viewers o_trial_crowd_lookLength o_trial_crowd_time o_trial_crowd_lookers o_trial_crowd_facts o_now_box_height o_now_box_holes o_now_box_reach o_now_box_holeY o_now_box_price_size o_now_box_price_codes o_now_box_price_waiting o_view_counts o_view_kinds o_view_depths o_view_prices) fun (o5 : Int32) (o6 : Nat → Int32) (o7 : Nat → Int32) (o8 : Nat → Int32) (o9 : Nat → Int32) =>
        nm (l2 + (1 : Int32)) fun (v11 : Int32) =>
        X6_emptyIn_L21 o_now_box_height o_now_box_holes o_now_box_reach o_now_box_holeY o_now_box_price_size o_now_box_price_codes o_now_crowd_viewers o_now_crowd_lookLength o_now_crowd_time o_now_crowd_lookers o_now_crowd_facts o_view_counts o_view_kinds o_view_depths n v11 o8 o_trial_crowd_viewers o_trial_crowd_lookLength o5 o6 o7 o9
def X6_emptyIn (o_now_box_height : Int32) (o_now_box_holes : Int32) (o_now_box_reach : Int32) (o_now_box_holeY : Nat → Int32) (o_now_box_price_size : Int32) (o_now_box_price_codes : Nat → Int32) (o_now_box_price_waiting : Nat → Int32) (o_now_crowd_viewers : Int32) (o_now_crowd_lookLength : Int32) (o_now_crowd_time : Int32) (o_now_crowd_lookers : Nat → Int32) (o_now_crowd_facts : Nat → Int32) (o_trial_crowd_viewers : Int32) (o_trial_crowd_lookLength : Int32) (o_trial_crowd_time : Int32) (o_trial_crowd_lookers : Nat → Int32) (o_trial_crowd_facts : Nat → Int32) (o_view_counts : Nat → Int32) (o_view_kinds : Nat → Int32) (o_view_depths : Nat → Int32) (o_view_prices : Nat → Int32) : Option (Int32 × (Nat → Int32) × Int32 × Int32 × Int32 × (Nat → Int32) × (Nat → Int32) × (Nat → Int32)) :=
  bn5 (X1_copyFrom o_trial_crowd_viewers o_trial_crowd_lookLength o_trial_crowd_time o_trial_crowd_lookers o_trial_crowd_facts o_now_crowd_viewers o_now_crowd_lookLength o_now_crowd_time o_now_crowd_lookers o_now_crowd_facts) fun (o12 : Int32) (o13 : Int32) (o14 : Int32) (o15 : Nat → Int32) (o16 : Nat → Int32) =>
  X6_emptyIn_L21 o_now_box_height o_now_box_holes o_now_box_reach o_now_box_holeY o_now_box_price_size o_now_box_price_codes o_now_crowd_viewers o_now_crowd_lookLength o_now_crowd_time o_now_crowd_lookers o_now_crowd_facts o_view_counts o_view_kinds o_view_depths FU (0 : Int32) o_now_box_price_waiting o12 o13 o14 o15 o16 o_view_prices
def X6_meanPaid (o_now_crowd_viewers : Int32) (o_now_crowd_facts : Nat → Int32) : Option (UInt32) :=
  bn1 (X1_count o_now_crowd_viewers o_now_crowd_facts (2 : Int32)) fun (r1 : Int32) =>
  if r1 = 0 then
    some FP.fconst0
  else
    bn1 (X1_allPaid o_now_crowd_viewers o_now_crowd_facts) fun (r4 : Int32) =>
    ck ((FP.fdiv (FP.i2f r4) (FP.i2f r1)) &&& 0x7fffffff ≤ 0x7f800000) <|
    some (FP.fdiv (FP.i2f r4) (FP.i2f r1))
def X6_pass_L24 (j : Nat) (o_now_box_width : Int32) (o_now_box_height : Int32) (o_now_box_planes : Int32) (o_now_box_holes : Int32) (o_now_box_reach : Int32) (o_now_box_cells : Nat → Int32) (o_now_box_pulls : Nat → Int32) (o_now_box_holeX : Nat → Int32) (o_now_box_holeY : Nat → Int32) (o_now_box_price_size : Int32) (o_now_box_price_codes : Nat → Int32) (o_now_crowd_viewers : Int32) (o_now_crowd_lookLength : Int32) (o_view_counts : Nat → Int32) (o_view_kinds : Nat → Int32) (o_view_depths : Nat → Int32) (p1 : Int32)  : Nat → Int32 → Int32 → Int32 → Int32 → (Nat → Int32) → Int32 → (Nat → Int32) → (Nat → Int32) → (Nat → Int32) → Int32 → Int32 → Int32 → Int32 → Int32 → (Nat → Int32) → (Nat → Int32) → (Nat → Int32) → (Nat → Int32) → Int32 → (Nat → Int32) → Int32 → Int32 → Int32 → (Nat → Int32) → (Nat → Int32) → Option (Sum Nat (Int32 × Int32 × Int32 × (Nat → Int32) × Int32 × (Nat → Int32) × (Nat → Int32) × (Nat → Int32) × Int32 × Int32 × Int32 × Int32 × Int32 × (Nat → Int32) × (Nat → Int32) × (Nat → Int32) × (Nat → Int32) × Int32 × (Nat → Int32) × Int32 × Int32 × Int32 × (Nat → Int32) × (Nat → Int32)))
  | 0, _, _, _, _, _, _, _, _, _, _, _, _, _, _, _, _, _, _, _, _, _, _, _, _, _ => none
  | n + 1, l2, l3, o_nextPast, o_undoable, o_now_box_price_waiting, o_now_crowd_time, o_now_crowd_lookers, o_now_crowd_facts, o_view_prices, o_past_e_box_width, o_past_e_box_height, o_past_e_box_planes, o_past_e_box_holes, o_past_e_box_reach, o_past_e_box_cells, o_past_e_box_pulls, o_past_e_box_holeX, o_past_e_box_holeY, o_past_e_box_price_size, o_past_e_box_price_codes, o_past_e_crowd_viewers, o_past_e_crowd_lookLength, o_past_e_crowd_time, o_past_e_crowd_lookers, o_past_e_crowd_facts =>
    if p1 ≤ l3 then
      bn1 (X1_allPaid o_now_crowd_viewers o_now_crowd_facts) fun (r2 : Int32) =>
      some (.inr ((r2 - l2), o_nextPast, o_undoable, o_now_box_price_waiting, o_now_crowd_time, o_now_crowd_lookers, o_now_crowd_facts, o_view_prices, o_past_e_box_width, o_past_e_box_height, o_past_e_box_planes, o_past_e_box_holes, o_past_e_box_reach, o_past_e_box_cells, o_past_e_box_pulls, o_past_e_box_holeX, o_past_e_box_holeY, o_past_e_box_price_size, o_past_e_box_price_codes, o_past_e_crowd_viewers, o_past_e_crowd_lookLength, o_past_e_crowd_time, o_past_e_crowd_lookers, o_past_e_crowd_facts))
    else
      bn5 (X1_tick o_now_crowd_viewers o_now_crowd_lookLength o_now_crowd_time o_now_crowd_lookers o_now_crowd_facts o_now_box_height o_now_box_holes o_now_box_reach o_now_box_holeY o_now_box_price_size o_now_box_price_codes o_now_box_price_waiting o_view_counts o_view_kinds o_view_depths o_view_prices) fun (o4 : Int32) (o5 : Nat → Int32) (o6 : Nat → Int32) (o7 : Nat → Int32) (o8 : Nat → Int32) =>
      nm (l3 + (1 : Int32)) fun (v10 : Int32) =>
      X6_pass_L24 j o_now_box_width o_now_box_height o_now_box_planes o_now_box_holes o_now_box_reach o_now_box_cells o_now_box_pulls o_now_box_holeX o_now_box_holeY o_now_box_price_size o_now_box_price_codes o_now_crowd_viewers o_now_crowd_lookLength o_view_counts o_view_kinds o_view_depths p1 n l2 v10 o_nextPast o_undoable o7 o4 o5 o6 o8 o_past_e_box_width o_past_e_box_height o_past_e_box_planes o_past_e_box_holes o_past_e_box_reach o_past_e_box_cells o_past_e_box_pulls o_past_e_box_holeX o_past_e_box_holeY o_past_e_box_price_size o_past_e_box_price_codes o_past_e_crowd_viewers o_past_e_crowd_lookLength o_past_e_crowd_time o_past_e_crowd_lookers o_past_e_crowd_facts
def X6_pass (j : Nat) (o_nextPast : Int32) (o_undoable : Int32) (o_now_box_width : Int32) (o_now_box_height : Int32) (o_now_box_planes : Int32) (o_now_box_holes : Int32) (o_now_box_reach : Int32) (o_now_box_cells : Nat → Int32) (o_now_box_pulls : Nat → Int32) (o_now_box_holeX : Nat → Int32) (o_now_box_holeY : Nat → Int32) (o_now_box_price_size : Int32) (o_now_box_price_codes : Nat → Int32) (o_now_box_price_waiting : Nat → Int32) (o_now_crowd_viewers : Int32) (o_now_crowd_lookLength : Int32) (o_now_crowd_time : Int32) (o_now_crowd_lookers : Nat → Int32) (o_now_crowd_facts : Nat → Int32) (o_view_counts : Nat → Int32) (o_view_kinds : Nat → Int32) (o_view_depths : Nat → Int32) (o_view_prices : Nat → Int32) (o_past_e_box_width : Int32) (o_past_e_box_height : Int32) (o_past_e_box_planes : Int32) (o_past_e_box_holes : Int32) (o_past_e_box_reach : Int32) (o_past_e_box_cells : Nat → Int32) (o_past_e_box_pulls : Nat → Int32) (o_past_e_box_holeX : Nat → Int32) (o_past_e_box_holeY : Nat → Int32) (o_past_e_box_price_size : Int32) (o_past_e_box_price_codes : Nat → Int32) (o_past_e_crowd_viewers : Int32) (o_past_e_crowd_lookLength : Int32) (o_past_e_crowd_time : Int32) (o_past_e_crowd_lookers : Nat → Int32) (o_past_e_crowd_facts : Nat → Int32) (p1 : Int32) : Option (Sum Nat (Int32 × Int32 × Int32 × (Nat → Int32) × Int32 × (Nat → Int32) × (Nat → Int32) × (Nat → Int32) × Int32 × Int32 × Int32 × Int32 × Int32 × (Nat → Int32) × (Nat → Int32) × (Nat → Int32) × (Nat → Int32) × Int32 × (Nat → Int32) × Int32 × Int32 × Int32 × (Nat → Int32) × (Nat → Int32))) :=
  bx0 (X6_requireRange p1 (1 : Int32) (50 : Int32)) fun _ =>
  bn18 (X6_remember j o_nextPast o_undoable o_now_box_width o_now_box_height o_now_box_planes o_now_box_holes o_now_box_reach o_now_box_cells o_now_box_pulls o_now_box_holeX o_now_box_holeY o_now_box_price_size o_now_box_price_codes o_now_crowd_viewers o_now_crowd_lookLength o_now_crowd_time o_now_crowd_lookers o_now_crowd_facts o_past_e_box_width o_past_e_box_height o_past_e_box_planes o_past_e_box_holes o_past_e_box_reach o_past_e_box_cells o_past_e_box_pulls o_past_e_box_holeX o_past_e_box_holeY o_past_e_box_price_size o_past_e_box_price_codes o_past_e_crowd_viewers o_past_e_crowd_lookLength o_past_e_crowd_time o_past_e_crowd_lookers o_past_e_crowd_facts) fun (o12 : Int32) (o13 : Int32) (o14 : Int32) (o15 : Int32) (o16 : Int32) (o17 : Int32) (o18 : Int32) (o19 : Nat → Int32) (o20 : Nat → Int32) (o21 : Nat → Int32) (o22 : Nat → Int32) (o23 : Int32) (o24 : Nat → Int32) (o25 : Int32) (o26 : Int32) (o27 : Int32) (o28 : Nat → Int32) (o29 : Nat → Int32) =>
  bn1 (X1_allPaid o_now_crowd_viewers o_now_crowd_facts) fun (r31 : Int32) =>
  X6_pass_L24 j o_now_box_width o_now_box_height o_now_box_planes o_now_box_holes o_now_box_reach o_now_box_cells o_now_box_pulls o_now_box_holeX o_now_box_holeY o_now_box_price_size o_now_box_price_codes o_now_crowd_viewers o_now_crowd_lookLength o_view_counts o_view_kinds o_view_depths p1 FU r31 (0 : Int32) o12 o13 o_now_box_price_waiting o_now_crowd_time o_now_crowd_lookers o_now_crowd_facts o_view_prices o14 o15 o16 o17 o18 o19 o20 o21 o22 o23 o24 o25 o26 o27 o28 o29
def X6_pull (j : Nat) (o_nextPast : Int32) (o_undoable : Int32) (o_now_box_width : Int32) (o_now_box_height : Int32) (o_now_box_planes : Int32) (o_now_box_holes : Int32) (o_now_box_reach : Int32) (o_now_box_cells : Nat → Int32) (o_now_box_pulls : Nat → Int32) (o_now_box_holeX : Nat → Int32) (o_now_box_holeY : Nat → Int32) (o_now_box_price_size : Int32) (o_now_box_price_codes : Nat → Int32) (o_now_crowd_viewers : Int32) (o_now_crowd_lookLength : Int32) (o_now_crowd_time : Int32) (o_now_crowd_lookers : Nat → Int32) (o_now_crowd_facts : Nat → Int32) (o_view_seen : Nat → Int32) (o_view_counts : Nat → Int32) (o_view_kinds : Nat → Int32) (o_view_depths : Nat → Int32) (o_view_prices : Nat → Int32) (o_past_e_box_width : Int32) (o_past_e_box_height : Int32) (o_past_e_box_planes : Int32) (o_past_e_box_holes : Int32) (o_past_e_box_reach : Int32) (o_past_e_box_cells : Nat → Int32) (o_past_e_box_pulls : Nat → Int32) (o_past_e_box_holeX : Nat → Int32) (o_past_e_box_holeY : Nat → Int32) (o_past_e_box_price_size : Int32) (o_past_e_box_price_codes : Nat → Int32) (o_past_e_crowd_viewers : Int32) (o_past_e_crowd_lookLength : Int32) (o_past_e_crowd_time : Int32) (o_past_e_crowd_lookers : Nat → Int32) (o_past_e_crowd_facts : Nat → Int32) (p1 : Int32) (p2 : Int32) : Option (Sum Nat (Int32 × Int32 × Int32 × (Nat → Int32) × (Nat → Int32) × (Nat → Int32) × (Nat → Int32) × (Nat → Int32) × (Nat → Int32) × Int32 × Int32 × Int32 × Int32 × Int32 × (Nat → Int32) × (Nat → Int32) × (Nat → Int32) × (Nat → Int32) × Int32 × (Nat → Int32) × Int32 × Int32 × Int32 × (Nat → Int32) × (Nat → Int32))) :=
  bx0 (X6_requirePlane o_now_box_planes p1) fun _ =>
  bx0 (X6_requireRange p2 (0 : Int32) o_now_box_height) fun _ =>
  bn1 (X0_isBack o_now_box_planes p1) fun (r3 : Int32) =>
  if r3 = 0 then
    bn18 (X6_remember j o_nextPast o_undoable o_now_box_width o_now_box_height o_now_box_planes o_now_box_holes o_now_box_reach o_now_box_cells o_now_box_pulls o_now_box_holeX o_now_box_holeY o_now_box_price_size o_now_box_price_codes o_now_crowd_viewers o_now_crowd_lookLength o_now_crowd_time o_now_crowd_lookers o_now_crowd_facts o_past_e_box_width o_past_e_box_height o_past_e_box_planes o_past_e_box_holes o_past_e_box_reach o_past_e_box_cells o_past_e_box_pulls o_past_e_box_holeX o_past_e_box_holeY o_past_e_box_price_size o_past_e_box_price_codes o_past_e_crowd_viewers o_past_e_crowd_lookLength o_past_e_crowd_time o_past_e_crowd_lookers o_past_e_crowd_facts) fun (o6 : Int32) (o7 : Int32) (o8 : Int32) (o9 : Int32) (o10 : Int32) (o11 : Int32) (o12 : Int32) (o13 : Nat → Int32) (o14 : Nat → Int32) (o15 : Nat → Int32) (o16 : Nat → Int32) (o17 : Int32) (o18 : Nat → Int32) (o19 : Int32) (o20 : Int32) (o21 : Int32) (o22 : Nat → Int32) (o23 : Nat → Int32) =>
    ld o_now_box_pulls 5 p1 fun (v26 : Int32) =>
    st 5 p1 (upd o_now_box_pulls p1.toNatClampNeg p2) fun (b28 : Nat → Int32) =>
    bn5 (X5_update o_view_seen o_view_counts o_view_kinds o_view_depths o_view_prices o_now_box_width o_now_box_height o_now_box_planes o_now_box_holes o_now_box_cells b28 o_now_box_holeX o_now_box_holeY) fun (o29 : Nat → Int32) (o30 : Nat → Int32) (o31 : Nat → Int32) (o32 : Nat → Int32) (o33 : Nat → Int32) =>
    some (.inr (v26, o6, o7, b28, o29, o30, o31, o32, o33, o8, o9, o10, o11, o12, o13, o14, o15, o16, o17, o18, o19, o20, o21, o22, o23))
  else
    some (.inl 3)
def X6_come (j : Nat) (o_nextPast : Int32) (o_undoable : Int32) (o_now_box_width : Int32) (o_now_box_height : Int32) (o_now_box_planes : Int32) (o_now_box_holes : Int32) (o_now_box_reach : Int32) (o_now_box_cells : Nat → Int32) (o_now_box_pulls : Nat → Int32) (o_now_box_holeX : Nat → Int32) (o_now_box_holeY : Nat → Int32) (o_now_box_price_size : Int32) (o_now_box_price_codes : Nat → Int32) (o_now_crowd_viewers : Int32) (o_now_crowd_lookLength : Int32) (o_now_crowd_time : Int32) (o_now_crowd_lookers : Nat → Int32) (o_now_crowd_facts : Nat → Int32) (o_past_e_box_width : Int32) (o_past_e_box_height : Int32) (o_past_e_box_planes : Int32) (o_past_e_box_holes : Int32) (o_past_e_box_reach : Int32) (o_past_e_box_cells : Nat → Int32) (o_past_e_box_pulls : Nat → Int32) (o_past_e_box_holeX : Nat → Int32) (o_past_e_box_holeY : Nat → Int32) (o_past_e_box_price_size : Int32) (o_past_e_box_price_codes : Nat → Int32) (o_past_e_crowd_viewers : Int32) (o_past_e_crowd_lookLength : Int32) (o_past_e_crowd_time : Int32) (o_past_e_crowd_lookers : Nat → Int32) (o_past_e_crowd_facts : Nat → Int32) (p1 : Int32) (p2 : Int32) (p3 : Int32) : Option (Sum Nat (Int32 × Int32 × Int32 × Int32 × (Nat → Int32) × Int32 × Int32 × Int32 × Int32 × Int32 × (Nat → Int32) × (Nat → Int32) × (Nat → Int32) × (Nat → Int32) × Int32 × (Nat → Int32) × Int32 × Int32 × Int32 × (Nat → Int32) × (Nat → Int32))) :=
  bx0 (X6_requireRange p1 (0 : Int32) (9 : Int32)) fun _ =>
  bx0 (X6_requireRange p2 (0 : Int32) (25 : Int32)) fun _ =>
  bx0 (X6_requireRange p3 (0 : Int32) (999 : Int32)) fun _ =>
  bn1 (X1_isFull o_now_crowd_viewers) fun (r4 : Int32) =>
  if r4 = 0 then
    bn18 (X6_remember j o_nextPast o_undoable o_now_box_width o_now_box_height o_now_box_planes o_now_box_holes o_now_box_reach o_now_box_cells o_now_box_pulls o_now_box_holeX o_now_box_holeY o_now_box_price_size o_now_box_price_codes o_now_crowd_viewers o_now_crowd_lookLength o_now_crowd_time o_now_crowd_lookers o_now_crowd_facts o_past_e_box_width o_past_e_box_height o_past_e_box_planes o_past_e_box_holes o_past_e_box_reach o_past_e_box_cells o_past_e_box_pulls o_past_e_box_holeX o_past_e_box_holeY o_past_e_box_price_size o_past_e_box_price_codes o_past_e_crowd_viewers o_past_e_crowd_lookLength o_past_e_crowd_time o_past_e_crowd_lookers o_past_e_crowd_facts) fun (o7 : Int32) (o8 : Int32) (o9 : Int32) (o10 : Int32) (o11 : Int32) (o12 : Int32) (o13 : Int32) (o14 : Nat → Int32) (o15 : Nat → Int32) (o16 : Nat → Int32) (o17 : Nat → Int32) (o18 : Int32) (o19 : Nat → Int32) (o20 : Int32) (o21 : Int32) (o22 : Int32) (o23 : Nat → Int32) (o24 : Nat → Int32) =>
    bn2 (X1_add o_now_crowd_viewers o_now_crowd_facts p1 p2 p3) fun (o26 : Int32) (o27 : Nat → Int32) =>
    some (.inr ((o26 - (1 : Int32)), o7, o8, o26, o27, o9, o10, o11, o12, o13, o14, o15, o16, o17, o18, o19, o20, o21, o22, o23, o24))
  else
    some (.inl 3)
def X6_length (j : Nat) (o_nextPast : Int32) (o_undoable : Int32) (o_now_box_width : Int32) (o_now_box_height : Int32) (o_now_box_planes : Int32) (o_now_box_holes : Int32) (o_now_box_reach : Int32) (o_now_box_cells : Nat → Int32) (o_now_box_pulls : Nat → Int32) (o_now_box_holeX : Nat → Int32) (o_now_box_holeY : Nat → Int32) (o_now_box_price_size : Int32) (o_now_box_price_codes : Nat → Int32) (o_now_crowd_viewers : Int32) (o_now_crowd_lookLength : Int32) (o_now_crowd_time : Int32) (o_now_crowd_lookers : Nat → Int32) (o_now_crowd_facts : Nat → Int32) (o_past_e_box_width : Int32) (o_past_e_box_height : Int32) (o_past_e_box_planes : Int32) (o_past_e_box_holes : Int32) (o_past_e_box_reach : Int32) (o_past_e_box_cells : Nat → Int32) (o_past_e_box_pulls : Nat → Int32) (o_past_e_box_holeX : Nat → Int32) (o_past_e_box_holeY : Nat → Int32) (o_past_e_box_price_size : Int32) (o_past_e_box_price_codes : Nat → Int32) (o_past_e_crowd_viewers : Int32) (o_past_e_crowd_lookLength : Int32) (o_past_e_crowd_time : Int32) (o_past_e_crowd_lookers : Nat → Int32) (o_past_e_crowd_facts : Nat → Int32) (p1 : Int32) : Option (Sum Nat (Int32 × Int32 × Int32 × Int32 × Int32 × Int32 × Int32 × Int32 × Int32 × (Nat → Int32) × (Nat → Int32) × (Nat → Int32) × (Nat → Int32) × Int32 × (Nat → Int32) × Int32 × Int32 × Int32 × (Nat → Int32) × (Nat → Int32))) :=
  bx0 (X6_requireRange p1 (1 : Int32) (20 : Int32)) fun _ =>
  bn18 (X6_remember j o_nextPast o_undoable o_now_box_width o_now_box_height o_now_box_planes o_now_box_holes o_now_box_reach o_now_box_cells o_now_box_pulls o_now_box_holeX o_now_box_holeY o_now_box_price_size o_now_box_price_codes o_now_crowd_viewers o_now_crowd_lookLength o_now_crowd_time o_now_crowd_lookers o_now_crowd_facts o_past_e_box_width o_past_e_box_height o_past_e_box_planes o_past_e_box_holes o_past_e_box_reach o_past_e_box_cells o_past_e_box_pulls o_past_e_box_holeX o_past_e_box_holeY o_past_e_box_price_size o_past_e_box_price_codes o_past_e_crowd_viewers o_past_e_crowd_lookLength o_past_e_crowd_time o_past_e_crowd_lookers o_past_e_crowd_facts) fun (o2 : Int32) (o3 : Int32) (o4 : Int32) (o5 : Int32) (o6 : Int32) (o7 : Int32) (o8 : Int32) (o9 : Nat → Int32) (o10 : Nat → Int32) (o11 : Nat → Int32) (o12 : Nat → Int32) (o13 : Int32) (o14 : Nat → Int32) (o15 : Int32) (o16 : Int32) (o17 : Int32) (o18 : Nat → Int32) (o19 : Nat → Int32) =>
  some (.inr (o_now_crowd_lookLength, o2, o3, p1, o4, o5, o6, o7, o8, o9, o10, o11, o12, o13, o14, o15, o16, o17, o18, o19))
def X6_undo (j : Nat) (o_nextPast : Int32) (o_undoable : Int32) (o_now_box_width : Int32) (o_now_box_height : Int32) (o_now_box_planes : Int32) (o_now_box_holes : Int32) (o_now_box_reach : Int32) (o_now_box_cells : Nat → Int32) (o_now_box_pulls : Nat → Int32) (o_now_box_holeX : Nat → Int32) (o_now_box_holeY : Nat → Int32) (o_now_box_price_size : Int32) (o_now_box_price_codes : Nat → Int32) (o_now_crowd_viewers : Int32) (o_now_crowd_lookLength : Int32) (o_now_crowd_time : Int32) (o_now_crowd_lookers : Nat → Int32) (o_now_crowd_facts : Nat → Int32) (o_view_seen : Nat → Int32) (o_view_counts : Nat → Int32) (o_view_kinds : Nat → Int32) (o_view_depths : Nat → Int32) (o_view_prices : Nat → Int32) (o_past_e_box_width : Int32) (o_past_e_box_height : Int32) (o_past_e_box_planes : Int32) (o_past_e_box_holes : Int32) (o_past_e_box_reach : Int32) (o_past_e_box_cells : Nat → Int32) (o_past_e_box_pulls : Nat → Int32) (o_past_e_box_holeX : Nat → Int32) (o_past_e_box_holeY : Nat → Int32) (o_past_e_box_price_size : Int32) (o_past_e_box_price_codes : Nat → Int32) (o_past_e_crowd_viewers : Int32) (o_past_e_crowd_lookLength : Int32) (o_past_e_crowd_time : Int32) (o_past_e_crowd_lookers : Nat → Int32) (o_past_e_crowd_facts : Nat → Int32) : Option (Int32 × Int32 × Int32 × Int32 × Int32 × Int32 × Int32 × Int32 × (Nat → Int32) × (Nat → Int32) × (Nat → Int32) × (Nat → Int32) × Int32 × (Nat → Int32) × Int32 × Int32 × Int32 × (Nat → Int32) × (Nat → Int32) × (Nat → Int32) × (Nat → Int32) × (Nat → Int32) × (Nat → Int32) × (Nat → Int32)) :=
  if o_undoable = 0 then
    some ((-1 : Int32), o_nextPast, o_undoable, o_now_box_width, o_now_box_height, o_now_box_planes, o_now_box_holes, o_now_box_reach, o_now_box_cells, o_now_box_pulls, o_now_box_holeX, o_now_box_holeY, o_now_box_price_size, o_now_box_price_codes, o_now_crowd_viewers, o_now_crowd_lookLength, o_now_crowd_time, o_now_crowd_lookers, o_now_crowd_facts, o_view_seen, o_view_counts, o_view_kinds, o_view_depths, o_view_prices)
  else
    nm (((o_nextPast + (8 : Int32)) - (1 : Int32)) - ((o_nextPast + (8 : Int32)) - (1 : Int32)) / (8 : Int32) * (8 : Int32)) fun (v2 : Int32) =>
    nm (o_undoable - (1 : Int32)) fun (v3 : Int32) =>
    ck (¬ (v2 < 0 ∨ 8 ≤ v2.toNatClampNeg) ∧ v2.toNatClampNeg = j) <|
    bn16 (X4_copyFrom o_now_box_width o_now_box_height o_now_box_planes o_now_box_holes o_now_box_reach o_now_box_cells o_now_box_pulls o_now_box_holeX o_now_box_holeY o_now_box_price_size o_now_box_price_codes o_now_crowd_viewers o_now_crowd_lookLength o_now_crowd_time o_now_crowd_lookers o_now_crowd_facts o_past_e_box_width o_past_e_box_height o_past_e_box_planes o_past_e_box_holes o_past_e_box_reach o_past_e_box_cells o_past_e_box_pulls o_past_e_box_holeX o_past_e_box_holeY o_past_e_box_price_size o_past_e_box_price_codes o_past_e_crowd_viewers o_past_e_crowd_lookLength o_past_e_crowd_time o_past_e_crowd_lookers o_past_e_crowd_facts) fun (o6 : Int32) (o7 : Int32) (o8 : Int32) (o9 : Int32) (o10 : Int32) (o11 : Nat → Int32) (o12 : Nat → Int32) (o13 : Nat → Int32) (o14 : Nat → Int32) (o15 : Int32) (o16 : Nat → Int32) (o17 : Int32) (o18 : Int32) (o19 : Int32) (o20 : Nat → Int32) (o21 : Nat → Int32) =>
    bn5 (X5_update o_view_seen o_view_counts o_view_kinds o_view_depths o_view_prices o6 o7 o8 o9 o11 o12 o13 o14) fun (o23 : Nat → Int32) (o24 : Nat → Int32) (o25 : Nat → Int32) (o26 : Nat → Int32) (o27 : Nat → Int32) =>
    some (v3, v2, v3, o6, o7, o8, o9, o10, o11, o12, o13, o14, o15, o16, o17, o18, o19, o20, o21, o23, o24, o25, o26, o27)
def X6_checksum_L152 (o_now_box_width : Int32) (o_now_box_height : Int32) (o_now_box_planes : Int32) (o_now_box_holes : Int32) (o_now_box_reach : Int32) (o_now_box_cells : Nat → Int32) (o_now_box_pulls : Nat → Int32) (o_now_box_holeX : Nat → Int32) (o_now_box_holeY : Nat → Int32) (o_now_crowd_viewers : Int32) (o_now_crowd_lookLength : Int32) (o_now_crowd_time : Int32) (o_now_crowd_lookers : Nat → Int32) (o_now_crowd_facts : Nat → Int32) (o_view_seen : Nat → Int32) (o_view_kinds : Nat → Int32) (o_view_depths : Nat → Int32) (kL135 : Int64 → Int32 → Option (Int64)) : Nat → Int64 → Int32 → Int32 → Option (Int64)
  | 0, _, _, _ => none
  | n + 1, l1, l3, l4 =>
    if (7 : Int32) ≤ l4 then
      nm (l3 + (1 : Int32)) fun (v2 : Int32) =>
      kL135 l1 v2
    else
      bt1 (X6_viewer o_now_crowd_viewers o_now_crowd_facts l3 l4) fun (r3 : Int32) =>
      nm (((31 : Int64) * l1) + r3.toInt64) fun (v5 : Int64) =>
      nm (l4 + (1 : Int32)) fun (v6 : Int32) =>
      X6_checksum_L152 o_now_box_width o_now_box_height o_now_box_planes o_now_box_holes o_now_box_reach o_now_box_cells o_now_box_pulls o_now_box_holeX o_now_box_holeY o_now_crowd_viewers o_now_crowd_lookLength o_now_crowd_time o_now_crowd_lookers o_now_crowd_facts o_view_seen o_view_kinds o_view_depths kL135 n v5 l3 v6
def X6_checksum_L135 (o_now_box_width : Int32) (o_now_box_height : Int32) (o_now_box_planes : Int32) (o_now_box_holes : Int32) (o_now_box_reach : Int32) (o_now_box_cells : Nat → Int32) (o_now_box_pulls : Nat → Int32) (o_now_box_holeX : Nat → Int32) (o_now_box_holeY : Nat → Int32) (o_now_crowd_viewers : Int32) (o_now_crowd_lookLength : Int32) (o_now_crowd_time : Int32) (o_now_crowd_lookers : Nat → Int32) (o_now_crowd_facts : Nat → Int32) (o_view_seen : Nat → Int32) (o_view_kinds : Nat → Int32) (o_view_depths : Nat → Int32)  : Nat → Int64 → Int32 → Option (Int64)
  | 0, _, _ => none
  | n + 1, l1, l3 =>
    if o_now_crowd_viewers ≤ l3 then
      some l1
    else
      X6_checksum_L152 o_now_box_width o_now_box_height o_now_box_planes o_now_box_holes o_now_box_reach o_now_box_cells o_now_box_pulls o_now_box_holeX o_now_box_holeY o_now_crowd_viewers o_now_crowd_lookLength o_now_crowd_time o_now_crowd_lookers o_now_crowd_facts o_view_seen o_view_kinds o_view_depths (fun z0 z1 => X6_checksum_L135 o_now_box_width o_now_box_height o_now_box_planes o_now_box_holes o_now_box_reach o_now_box_cells o_now_box_pulls o_now_box_holeX o_now_box_holeY o_now_crowd_viewers o_now_crowd_lookLength o_now_crowd_time o_now_crowd_lookers o_now_crowd_facts o_view_seen o_view_kinds o_view_depths n z0 z1) FU l1 l3 (0 : Int32)
def X6_checksum_L100 (o_now_box_width : Int32) (o_now_box_height : Int32) (o_now_box_planes : Int32) (o_now_box_holes : Int32) (o_now_box_reach : Int32) (o_now_box_cells : Nat → Int32) (o_now_box_pulls : Nat → Int32) (o_now_box_holeX : Nat → Int32) (o_now_box_holeY : Nat → Int32) (o_now_crowd_viewers : Int32) (o_now_crowd_lookLength : Int32) (o_now_crowd_time : Int32) (o_now_crowd_lookers : Nat → Int32) (o_now_crowd_facts : Nat → Int32) (o_view_seen : Nat → Int32) (o_view_kinds : Nat → Int32) (o_view_depths : Nat → Int32) (kL83 : Int64 → Int32 → Option (Int64)) : Nat → Int64 → Int32 → Int32 → Option (Int64)
  | 0, _, _, _ => none
  | n + 1, l1, l3, l4 =>
    if (5 : Int32) ≤ l4 then
      nm (l3 + (1 : Int32)) fun (v9 : Int32) =>
      kL83 l1 v9
    else
      bt1 (X6_hole o_now_box_holes o_now_box_holeX o_now_box_holeY o_now_crowd_lookers o_view_kinds o_view_depths l3 l4) fun (r10 : Int32) =>
      nm (((31 : Int64) * l1) + r10.toInt64) fun (v12 : Int64) =>
      nm (l4 + (1 : Int32)) fun (v13 : Int32) =>
      X6_checksum_L100 o_now_box_width o_now_box_height o_now_box_planes o_now_box_holes o_now_box_reach o_now_box_cells o_now_box_pulls o_now_box_holeX o_now_box_holeY o_now_crowd_viewers o_now_crowd_lookLength o_now_crowd_time o_now_crowd_lookers o_now_crowd_facts o_view_seen o_view_kinds o_view_depths kL83 n v12 l3 v13
def X6_checksum_L83 (o_now_box_width : Int32) (o_now_box_height : Int32) (o_now_box_planes : Int32) (o_now_box_holes : Int32) (o_now_box_reach : Int32) (o_now_box_cells : Nat → Int32) (o_now_box_pulls : Nat → Int32) (o_now_box_holeX : Nat → Int32) (o_now_box_holeY : Nat → Int32) (o_now_crowd_viewers : Int32) (o_now_crowd_lookLength : Int32) (o_now_crowd_time : Int32) (o_now_crowd_lookers : Nat → Int32) (o_now_crowd_facts : Nat → Int32) (o_view_seen : Nat → Int32) (o_view_kinds : Nat → Int32) (o_view_depths : Nat → Int32)  : Nat → Int64 → Int32 → Option (Int64)
  | 0, _, _ => none
  | n + 1, l1, l3 =>
    if o_now_box_holes ≤ l3 then
      X6_checksum_L135 o_now_box_width o_now_box_height o_now_box_planes o_now_box_holes o_now_box_reach o_now_box_cells o_now_box_pulls o_now_box_holeX o_now_box_holeY o_now_crowd_viewers o_now_crowd_lookLength o_now_crowd_time o_now_crowd_lookers o_now_crowd_facts o_view_seen o_view_kinds o_view_depths FU l1 (0 : Int32)
    else
      X6_checksum_L100 o_now_box_width o_now_box_height o_now_box_planes o_now_box_holes o_now_box_reach o_now_box_cells o_now_box_pulls o_now_box_holeX o_now_box_holeY o_now_crowd_viewers o_now_crowd_lookLength o_now_crowd_time o_now_crowd_lookers o_now_crowd_facts o_view_seen o_view_kinds o_view_depths (fun z0 z1 => X6_checksum_L83 o_now_box_width o_now_box_height o_now_box_planes o_now_box_holes o_now_box_reach o_now_box_cells o_now_box_pulls o_now_box_holeX o_now_box_holeY o_now_crowd_viewers o_now_crowd_lookLength o_now_crowd_time o_now_crowd_lookers o_now_crowd_facts o_view_seen o_view_kinds o_view_depths n z0 z1) FU l1 l3 (0 : Int32)
def X6_checksum_L48 (o_now_box_width : Int32) (o_now_box_height : Int32) (o_now_box_planes : Int32) (o_now_box_holes : Int32) (o_now_box_reach : Int32) (o_now_box_cells : Nat → Int32) (o_now_box_pulls : Nat → Int32) (o_now_box_holeX : Nat → Int32) (o_now_box_holeY : Nat → Int32) (o_now_crowd_viewers : Int32) (o_now_crowd_lookLength : Int32) (o_now_crowd_time : Int32) (o_now_crowd_lookers : Nat → Int32) (o_now_crowd_facts : Nat → Int32) (o_view_seen : Nat → Int32) (o_view_kinds : Nat → Int32) (o_view_depths : Nat → Int32) (kL31 : Int64 → Int32 → Option (Int64)) : Nat → Int64 → Int32 → Int32 → Option (Int64)
  | 0, _, _, _ => none
  | n + 1, l1, l3, l4 =>
    if (3 : Int32) ≤ l4 then
      nm (l3 + (1 : Int32)) fun (v16 : Int32) =>
      kL31 l1 v16
    else
      bt1 (X6_plane o_now_box_width o_now_box_height o_now_box_planes o_now_box_holes o_now_box_cells o_now_box_pulls o_view_seen l3 l4) fun (r17 : Int32) =>
      nm (((31 : Int64) * l1) + r17.toInt64) fun (v19 : Int64) =>
      nm (l4 + (1 : Int32)) fun (v20 : Int32) =>
      X6_checksum_L48 o_now_box_width o_now_box_height o_now_box_planes o_now_box_holes o_now_box_reach o_now_box_cells o_now_box_pulls o_now_box_holeX o_now_box_holeY o_now_crowd_viewers o_now_crowd_lookLength o_now_crowd_time o_now_crowd_lookers o_now_crowd_facts o_view_seen o_view_kinds o_view_depths kL31 n v19 l3 v20
def X6_checksum_L31 (o_now_box_width : Int32) (o_now_box_height : Int32) (o_now_box_planes : Int32) (o_now_box_holes : Int32) (o_now_box_reach : Int32) (o_now_box_cells : Nat → Int32) (o_now_box_pulls : Nat → Int32) (o_now_box_holeX : Nat → Int32) (o_now_box_holeY : Nat → Int32) (o_now_crowd_viewers : Int32) (o_now_crowd_lookLength : Int32) (o_now_crowd_time : Int32) (o_now_crowd_lookers : Nat → Int32) (o_now_crowd_facts : Nat → Int32) (o_view_seen : Nat → Int32) (o_view_kinds : Nat → Int32) (o_view_depths : Nat → Int32)  : Nat → Int64 → Int32 → Option (Int64)
  | 0, _, _ => none
  | n + 1, l1, l3 =>
    if o_now_box_planes ≤ l3 then
      X6_checksum_L83 o_now_box_width o_now_box_height o_now_box_planes o_now_box_holes o_now_box_reach o_now_box_cells o_now_box_pulls o_now_box_holeX o_now_box_holeY o_now_crowd_viewers o_now_crowd_lookLength o_now_crowd_time o_now_crowd_lookers o_now_crowd_facts o_view_seen o_view_kinds o_view_depths FU l1 (0 : Int32)
    else
      X6_checksum_L48 o_now_box_width o_now_box_height o_now_box_planes o_now_box_holes o_now_box_reach o_now_box_cells o_now_box_pulls o_now_box_holeX o_now_box_holeY o_now_crowd_viewers o_now_crowd_lookLength o_now_crowd_time o_now_crowd_lookers o_now_crowd_facts o_view_seen o_view_kinds o_view_depths (fun z0 z1 => X6_checksum_L31 o_now_box_width o_now_box_height o_now_box_planes o_now_box_holes o_now_box_reach o_now_box_cells o_now_box_pulls o_now_box_holeX o_now_box_holeY o_now_crowd_viewers o_now_crowd_lookLength o_now_crowd_time o_now_crowd_lookers o_now_crowd_facts o_view_seen o_view_kinds o_view_depths n z0 z1) FU l1 l3 (0 : Int32)
def X6_checksum_L4 (o_now_box_width : Int32) (o_now_box_height : Int32) (o_now_box_planes : Int32) (o_now_box_holes : Int32) (o_now_box_reach : Int32) (o_now_box_cells : Nat → Int32) (o_now_box_pulls : Nat → Int32) (o_now_box_holeX : Nat → Int32) (o_now_box_holeY : Nat → Int32) (o_now_crowd_viewers : Int32) (o_now_crowd_lookLength : Int32) (o_now_crowd_time : Int32) (o_now_crowd_lookers : Nat → Int32) (o_now_crowd_facts : Nat → Int32) (o_view_seen : Nat → Int32) (o_view_kinds : Nat → Int32) (o_view_depths : Nat → Int32)  : Nat → Int64 → Int32 → Option (Int64)
  | 0, _, _ => none
  | n + 1, l1, l3 =>
    if (14 : Int32) ≤ l3 then
      X6_checksum_L31 o_now_box_width o_now_box_height o_now_box_planes o_now_box_holes o_now_box_reach o_now_box_cells o_now_box_pulls o_now_box_holeX o_now_box_holeY o_now_crowd_viewers o_now_crowd_lookLength o_now_crowd_time o_now_crowd_lookers o_now_crowd_facts o_view_seen o_view_kinds o_view_depths FU l1 (0 : Int32)
    else
      bt1 (X6_state o_now_box_width o_now_box_height o_now_box_planes o_now_box_holes o_now_box_reach o_now_crowd_viewers o_now_crowd_lookLength o_now_crowd_time o_now_crowd_facts l3) fun (r23 : Int32) =>
      nm (((31 : Int64) * l1) + r23.toInt64) fun (v25 : Int64) =>
      nm (l3 + (1 : Int32)) fun (v26 : Int32) =>
      X6_checksum_L4 o_now_box_width o_now_box_height o_now_box_planes o_now_box_holes o_now_box_reach o_now_box_cells o_now_box_pulls o_now_box_holeX o_now_box_holeY o_now_crowd_viewers o_now_crowd_lookLength o_now_crowd_time o_now_crowd_lookers o_now_crowd_facts o_view_seen o_view_kinds o_view_depths n v25 v26
def X6_checksum (o_now_box_width : Int32) (o_now_box_height : Int32) (o_now_box_planes : Int32) (o_now_box_holes : Int32) (o_now_box_reach : Int32) (o_now_box_cells : Nat → Int32) (o_now_box_pulls : Nat → Int32) (o_now_box_holeX : Nat → Int32) (o_now_box_holeY : Nat → Int32) (o_now_crowd_viewers : Int32) (o_now_crowd_lookLength : Int32) (o_now_crowd_time : Int32) (o_now_crowd_lookers : Nat → Int32) (o_now_crowd_facts : Nat → Int32) (o_view_seen : Nat → Int32) (o_view_kinds : Nat → Int32) (o_view_depths : Nat → Int32) : Option (Int64) :=
  X6_checksum_L4 o_now_box_width o_now_box_height o_now_box_planes o_now_box_holes o_now_box_reach o_now_box_cells o_now_box_pulls o_now_box_holeX o_now_box_holeY o_now_crowd_viewers o_now_crowd_lookLength o_now_crowd_time o_now_crowd_lookers o_now_crowd_facts o_view_seen o_view_kinds o_view_depths FU (0 : Int64) (0 : Int32)
def X7_thrown (o_thrown : Int32) : Option (Int32) :=
  some o_thrown
def X7_fails_J16 (p1 : Int32) (p2 : Int32)  (o_thrown : Int32) : Option (Int32 × Int32) :=
  if o_thrown = 0 then
    some ((0 : Int32), o_thrown)
  else
    some ((1 : Int32), o_thrown)
def X7_fails (o_thrown : Int32) (p1 : Int32) (p2 : Int32) : Option (Int32 × Int32) :=
  if p1 = 0 then
    X7_fails_J16 p1 p2 o_thrown
  else
    if o_thrown = 0 then
      X7_fails_J16 p1 p2 p2
    else
      X7_fails_J16 p1 p2 o_thrown
def X7_in (p0 : Int32) (p1 : Int32) (p2 : Int32) : Option (Int32) :=
  if p0 < p1 then
    some (0 : Int32)
  else
    if p2 < p0 then
      some (0 : Int32)
    else
      some (1 : Int32)
def X7_min (p0 : Int32) (p1 : Int32) : Option (Int32) :=
  if p1 ≤ p0 then
    some p1
  else
    some p0
def X7_max (p0 : Int32) (p1 : Int32) : Option (Int32) :=
  if p0 ≤ p1 then
    some p1
  else
    some p0
def X7_copy_L2 (n_o : Nat) (n_p1 : Nat) (o : Nat → Int32) (p2 : Int32)  : Nat → Int32 → (Nat → Int32) → Option ((Nat → Int32))
  | 0, _, _ => none
  | n + 1, l3, p1 =>
    if p2 ≤ l3 then
      some p1
    else
      ld o n_o l3 fun (v3 : Int32) =>
      st n_p1 l3 (upd p1 l3.toNatClampNeg v3) fun (b5 : Nat → Int32) =>
      nm (l3 + (1 : Int32)) fun (v6 : Int32) =>
      X7_copy_L2 n_o n_p1 o p2 n v6 b5
def X7_copy (n_o : Nat) (n_p1 : Nat) (o : Nat → Int32) (p1 : Nat → Int32) (p2 : Int32) : Option ((Nat → Int32)) :=
  X7_copy_L2 n_o n_p1 o p2 FU (0 : Int32) p1
def X7_layBox_J88 (n_o : Nat) (p1 : Int32) (p2 : Int32) (p3 : Int32) (kL46 : Int32 → (Nat → Int32) → Option ((Nat → Int32))) (kL55 : Int32 → Int32 → (Nat → Int32) → Option ((Nat → Int32))) (l4 : Int32) (l5 : Int32) (k1 : Int32) (k2 : Int32) (o : Nat → Int32) : Option ((Nat → Int32)) :=
  st n_o k1 (upd o k1.toNatClampNeg k2) fun (b2 : Nat → Int32) =>
  nm (l5 + (1 : Int32)) fun (v3 : Int32) =>
  kL55 l4 v3 b2
def X7_layBox_L55 (n_o : Nat) (p1 : Int32) (p2 : Int32) (p3 : Int32) (kL46 : Int32 → (Nat → Int32) → Option ((Nat → Int32))) : Nat → Int32 → Int32 → (Nat → Int32) → Option ((Nat → Int32))
  | 0, _, _, _ => none
  | n + 1, l4, l5, o =>
    if (p1 * p2) ≤ l5 then
      nm (l4 + (1 : Int32)) fun (v5 : Int32) =>
      kL46 v5 o
    else
      if l4 = (p3 - (1 : Int32)) then
        X7_layBox_J88 n_o p1 p2 p3 kL46 (fun z0 z1 z2 => X7_layBox_L55 n_o p1 p2 p3 kL46 n z0 z1 z2) l4 l5 (((15 : Int32) + ((96 : Int32) * l4)) + l5) (0 : Int32) o
      else
        X7_layBox_J88 n_o p1 p2 p3 kL46 (fun z0 z1 z2 => X7_layBox_L55 n_o p1 p2 p3 kL46 n z0 z1 z2) l4 l5 (((15 : Int32) + ((96 : Int32) * l4)) + l5) (-1 : Int32) o
def X7_layBox_L46 (n_o : Nat) (p1 : Int32) (p2 : Int32) (p3 : Int32)  : Nat → Int32 → (Nat → Int32) → Option ((Nat → Int32))
  | 0, _, _ => none
  | n + 1, l4, o =>
    if p3 ≤ l4 then
      some o
    else
      X7_layBox_L55 n_o p1 p2 p3 (fun z0 z1 => X7_layBox_L46 n_o p1 p2 p3 n z0 z1) FU l4 (0 : Int32) o
def X7_layBox_L3 (n_o : Nat) (p1 : Int32) (p2 : Int32) (p3 : Int32)  : Nat → Int32 → (Nat → Int32) → Option ((Nat → Int32))
  | 0, _, _ => none
  | n + 1, l4, o =>
    if (2243 : Int32) ≤ l4 then
      st n_o (0 : Int32) (upd o (0 : Int32).toNatClampNeg p1) fun (b10 : Nat → Int32) =>
      st n_o (1 : Int32) (upd b10 (1 : Int32).toNatClampNeg p2) fun (b12 : Nat → Int32) =>
      st n_o (2 : Int32) (upd b12 (2 : Int32).toNatClampNeg p3) fun (b14 : Nat → Int32) =>
      st n_o (4 : Int32) (upd b14 (4 : Int32).toNatClampNeg (9 : Int32)) fun (b16 : Nat → Int32) =>
      st n_o (5 : Int32) (upd b16 (5 : Int32).toNatClampNeg (3 : Int32)) fun (b18 : Nat → Int32) =>
      X7_layBox_L46 n_o p1 p2 p3 FU (0 : Int32) b18
    else
      st n_o l4 (upd o l4.toNatClampNeg (0 : Int32)) fun (b20 : Nat → Int32) =>
      nm (l4 + (1 : Int32)) fun (v21 : Int32) =>
      X7_layBox_L3 n_o p1 p2 p3 n v21 b20
def X7_layBox (n_o : Nat) (o : Nat → Int32) (p1 : Int32) (p2 : Int32) (p3 : Int32) : Option ((Nat → Int32)) :=
  X7_layBox_L3 n_o p1 p2 p3 FU (0 : Int32) o
def X7_append_J76 (p1 : Int32) (p2 : Int32) (p3 : Int32) (p4 : Int32) (p5 : Int32) (kL23 : Int32 → Int32 → Int32 → (Nat → Int32) → Option (Int32 × Int32 × Int32 × (Nat → Int32))) (l6 : Int32) (k0 : Int32) (o_thrown : Int32) (o_bufferLength : Int32) (o_buffer : Nat → Int32) : Option (Int32 × Int32 × Int32 × (Nat → Int32)) :=
  nm (l6 - l6 / (4 : Int32) * (4 : Int32)) fun (v1 : Int32) =>
  st 800 o_bufferLength (upd o_buffer o_bufferLength.toNatClampNeg ((k0 >>> (((24 : Int32) - ((8 : Int32) * v1)) &&& 31)) &&& (255 : Int32))) fun (b3 : Nat → Int32) =>
  nm (o_bufferLength + (1 : Int32)) fun (v4 : Int32) =>
  nm (l6 + (1 : Int32)) fun (v5 : Int32) =>
  kL23 v5 o_thrown v4 b3
def X7_append_L23 (p1 : Int32) (p2 : Int32) (p3 : Int32) (p4 : Int32) (p5 : Int32)  : Nat → Int32 → Int32 → Int32 → (Nat → Int32) → Option (Int32 × Int32 × Int32 × (Nat → Int32))
  | 0, _, _, _, _ => none
  | n + 1, l6, o_thrown, o_bufferLength, o_buffer =>
    if (20 : Int32) ≤ l6 then
      some (o_bufferLength, o_thrown, o_bufferLength, o_buffer)
    else
      if (4 : Int32) ≤ l6 then
        if (8 : Int32) ≤ l6 then
          if (12 : Int32) ≤ l6 then
            if (16 : Int32) ≤ l6 then
              X7_append_J76 p1 p2 p3 p4 p5 (fun z0 z1 z2 z3 => X7_append_L23 p1 p2 p3 p4 p5 n z0 z1 z2 z3) l6 p5 o_thrown o_bufferLength o_buffer
            else
              X7_append_J76 p1 p2 p3 p4 p5 (fun z0 z1 z2 z3 => X7_append_L23 p1 p2 p3 p4 p5 n z0 z1 z2 z3) l6 p4 o_thrown o_bufferLength o_buffer
          else
            X7_append_J76 p1 p2 p3 p4 p5 (fun z0 z1 z2 z3 => X7_append_L23 p1 p2 p3 p4 p5 n z0 z1 z2 z3) l6 p3 o_thrown o_bufferLength o_buffer
        else
          X7_append_J76 p1 p2 p3 p4 p5 (fun z0 z1 z2 z3 => X7_append_L23 p1 p2 p3 p4 p5 n z0 z1 z2 z3) l6 p2 o_thrown o_bufferLength o_buffer
      else
        X7_append_J76 p1 p2 p3 p4 p5 (fun z0 z1 z2 z3 => X7_append_L23 p1 p2 p3 p4 p5 n z0 z1 z2 z3) l6 p1 o_thrown o_bufferLength o_buffer
def X7_append (o_thrown : Int32) (o_bufferLength : Int32) (o_buffer : Nat → Int32) (p1 : Int32) (p2 : Int32) (p3 : Int32) (p4 : Int32) (p5 : Int32) : Option (Int32 × Int32 × Int32 × (Nat → Int32)) :=
  if (o_bufferLength + (20 : Int32)) ≤ (800 : Int32) then
    X7_append_L23 p1 p2 p3 p4 p5 FU (0 : Int32) (0 : Int32) o_bufferLength o_buffer
  else
    some ((-1 : Int32), (0 : Int32), o_bufferLength, o_buffer)
def X7_byteAt (o_textLength : Int32) (o_buffer : Nat → Int32) (p1 : Int32) : Option (Int32) :=
  if o_textLength ≤ p1 then
    some (-1 : Int32)
  else
    ld o_buffer 800 p1 fun (v3 : Int32) =>
    some v3
def X7_ahead_L0 (o_textLength : Int32) (o_buffer : Nat → Int32)  : Nat → Int32 → Option (Int32 × Int32)
  | 0, _ => none
  | n + 1, o_position =>
    bn1 (X7_byteAt o_textLength o_buffer o_position) fun (r1 : Int32) =>
    if r1 = (32 : Int32) then
      nm (o_position + (1 : Int32)) fun (v6 : Int32) =>
      X7_ahead_L0 o_textLength o_buffer n v6
    else
      bn1 (X7_byteAt o_textLength o_buffer o_position) fun (r4 : Int32) =>
      some (r4, o_position)
def X7_ahead (o_textLength : Int32) (o_position : Int32) (o_buffer : Nat → Int32) : Option (Int32 × Int32) :=
  X7_ahead_L0 o_textLength o_buffer FU o_position
def X7_isGood (o_error : Int32) : Option (Int32) :=
  if o_error = 0 then
    some (1 : Int32)
  else
    some (0 : Int32)
def X7_report (o_error : Int32) (o_errorAt : Int32) (p1 : Int32) (p2 : Int32) : Option (Int32 × Int32) :=
  if o_error = 0 then
    some (p1, p2)
  else
    some (o_error, o_errorAt)
def X7_isDigit (p0 : Int32) : Option (Int32) :=
  bn1 (X7_in p0 (48 : Int32) (57 : Int32)) fun (r1 : Int32) =>
  ck (r1 = 0 ∨ r1 = 1) <|
  some r1
def X7_takeWord_J48 (tx : List Int32) (o_textLength : Int32) (o_error : Int32) (o_buffer : Nat → Int32)  (l2 : Int32) (o_position : Int32) : Option (Int32 × Int32) :=
  bn1 (J0_length_8abf5 tx) fun (r1 : Int32) =>
  if l2 < r1 then
    some ((0 : Int32), o_position)
  else
    bn1 (X7_byteAt o_textLength o_buffer (o_position + l2)) fun (r4 : Int32) =>
    bn1 (X7_in r4 (97 : Int32) (122 : Int32)) fun (r6 : Int32) =>
    if r6 = 0 then
      nm (o_position + l2) fun (v9 : Int32) =>
      some ((1 : Int32), v9)
    else
      some ((0 : Int32), o_position)
def X7_takeWord_L16 (tx : List Int32) (o_textLength : Int32) (o_error : Int32) (o_buffer : Nat → Int32)  : Nat → Int32 → Int32 → Option (Int32 × Int32)
  | 0, _, _ => none
  | n + 1, l2, o_position =>
    bn1 (J0_length_8abf5 tx) fun (r10 : Int32) =>
    if r10 ≤ l2 then
      X7_takeWord_J48 tx o_textLength o_error o_buffer l2 o_position
    else
      bn1 (X7_byteAt o_textLength o_buffer (o_position + l2)) fun (r13 : Int32) =>
      bn1 (J0_charAt_5068e tx l2) fun (r15 : Int32) =>
      if r13 = r15 then
        nm (l2 + (1 : Int32)) fun (v18 : Int32) =>
        X7_takeWord_L16 tx o_textLength o_error o_buffer n v18 o_position
      else
        X7_takeWord_J48 tx o_textLength o_error o_buffer l2 o_position
def X7_takeWord (tx : List Int32) (o_textLength : Int32) (o_position : Int32) (o_error : Int32) (o_buffer : Nat → Int32) : Option (Int32 × Int32) :=
  bn1 (X7_isGood o_error) fun (r19 : Int32) =>
  if r19 = 0 then
    some ((0 : Int32), o_position)
  else
    bn2 (X7_ahead o_textLength o_position o_buffer) fun (r22 : Int32) (o23 : Int32) =>
    X7_takeWord_L16 tx o_textLength o_error o_buffer FU (0 : Int32) o23
def X7_expect (o_textLength : Int32) (o_position : Int32) (o_error : Int32) (o_errorAt : Int32) (o_buffer : Nat → Int32) (p1 : Int32) : Option (Int32 × Int32 × Int32) :=
  bn1 (X7_isGood o_error) fun (r1 : Int32) =>
  if r1 = 0 then
    some (o_position, o_error, o_errorAt)
  else
    bn2 (X7_ahead o_textLength o_position o_buffer) fun (r4 : Int32) (o5 : Int32) =>
    if r4 = p1 then
      nm (o5 + (1 : Int32)) fun (v11 : Int32) =>
      some (v11, o_error, o_errorAt)
    else
      bn2 (X7_report o_error o_errorAt (-2 : Int32) o5) fun (o8 : Int32) (o9 : Int32) =>
      some (o5, o8, o9)
def X7_number_J109 (o_textLength : Int32) (o_buffer : Nat → Int32) (p1 : Int32) (p2 : Int32)  (l3 : Int32) (o_position : Int32) (o_error : Int32) (o_errorAt : Int32) (o_numberStart : Int32) : Option (Int32 × Int32 × Int32 × Int32 × Int32) :=
  bn1 (X7_isGood o_error) fun (r1 : Int32) =>
  if r1 = 0 then
    some ((0 : Int32), o_position, o_error, o_errorAt, o_numberStart)
  else
    some (l3, o_position, o_error, o_errorAt, o_numberStart)
def X7_number_L41 (o_textLength : Int32) (o_error : Int32) (o_errorAt : Int32) (o_buffer : Nat → Int32) (p1 : Int32) (p2 : Int32)  : Nat → Int32 → Int32 → Int32 → Option (Int32 × Int32 × Int32 × Int32 × Int32)
  | 0, _, _, _ => none
  | n + 1, l3, o_position, o_numberStart =>
    bn1 (X7_byteAt o_textLength o_buffer o_position) fun (r4 : Int32) =>
    bn1 (X7_isDigit r4) fun (r6 : Int32) =>
    if r6 = 0 then
      bn1 (X7_in l3 p1 p2) fun (r9 : Int32) =>
      if r9 = 0 then
        bn2 (X7_report o_error o_errorAt (-3 : Int32) o_numberStart) fun (o12 : Int32) (o13 : Int32) =>
        X7_number_J109 o_textLength o_buffer p1 p2 l3 o_position o12 o13 o_numberStart
      else
        X7_number_J109 o_textLength o_buffer p1 p2 l3 o_position o_error o_errorAt o_numberStart
    else
      bn1 (X7_byteAt o_textLength o_buffer o_position) fun (r15 : Int32) =>
      bn1 (X7_min (100000000 : Int32) ((((10 : Int32) * l3) + r15) - (48 : Int32))) fun (r17 : Int32) =>
      nm (o_position + (1 : Int32)) fun (v19 : Int32) =>
      X7_number_L41 o_textLength o_error o_errorAt o_buffer p1 p2 n r17 v19 o_numberStart
def X7_number (o_textLength : Int32) (o_position : Int32) (o_error : Int32) (o_errorAt : Int32) (o_numberStart : Int32) (o_buffer : Nat → Int32) (p1 : Int32) (p2 : Int32) : Option (Int32 × Int32 × Int32 × Int32 × Int32) :=
  bn1 (X7_isGood o_error) fun (r20 : Int32) =>
  if r20 = 0 then
    some ((0 : Int32), o_position, o_error, o_errorAt, o_numberStart)
  else
    bn2 (X7_ahead o_textLength o_position o_buffer) fun (r23 : Int32) (o24 : Int32) =>
    bn1 (X7_isDigit r23) fun (r26 : Int32) =>
    if r26 = 0 then
      bn2 (X7_report o_error o_errorAt (-2 : Int32) o24) fun (o29 : Int32) (o30 : Int32) =>
      some ((0 : Int32), o24, o29, o30, o_numberStart)
    else
      X7_number_L41 o_textLength o_error o_errorAt o_buffer p1 p2 FU (0 : Int32) o24 o24
def X7_emit (o_error : Int32) (o_draft : Nat → Int32) (p1 : Int32) : Option ((Nat → Int32)) :=
  bn1 (X7_isGood o_error) fun (r1 : Int32) =>
  if r1 = 0 then
    some o_draft
  else
    ld o_draft 2243 (9 : Int32) fun (v5 : Int32) =>
    st 2243 ((643 : Int32) + v5) (upd o_draft ((643 : Int32) + v5).toNatClampNeg p1) fun (b7 : Nat → Int32) =>
    ld b7 2243 (9 : Int32) fun (v9 : Int32) =>
    st 2243 (9 : Int32) (upd b7 (9 : Int32).toNatClampNeg (v9 + (1 : Int32))) fun (b11 : Nat → Int32) =>
    some b11
def X7_factor_J170 (rs : Int32 → Int32 → Int32 → Int32 → Int32 → Int32 → (Nat → Int32) → (Nat → Int32) → Option (Int32 × Int32 × Int32 × Int32 × Int32 × (Nat → Int32))) (o_textLength : Int32) (o_nesting : Int32) (o_buffer : Nat → Int32) (o_draft : Nat → Int32)  (l3 : Int32) (k1 : Int32) (o_position : Int32) (o_error : Int32) (o_errorAt : Int32) (o_numberStart : Int32) : Option (Int32 × Int32 × Int32 × Int32 × Int32 × (Nat → Int32)) :=
  bn1 (X7_emit o_error o_draft k1) fun (o1 : Nat → Int32) =>
  bn1 (X7_emit o_error o1 l3) fun (o3 : Nat → Int32) =>
  some (o_position, o_error, o_errorAt, o_numberStart, o_nesting, o3)
def X7_factor_J159 (rs : Int32 → Int32 → Int32 → Int32 → Int32 → Int32 → (Nat → Int32) → (Nat → Int32) → Option (Int32 × Int32 × Int32 × Int32 × Int32 × (Nat → Int32))) (o_textLength : Int32) (o_nesting : Int32) (o_buffer : Nat → Int32) (o_draft : Nat → Int32)  (l2 : Int32) (k0 : Int32) (o_position : Int32) (o_error : Int32) (o_errorAt : Int32) (o_numberStart : Int32) : Option (Int32 × Int32 × Int32 × Int32 × Int32 × (Nat → Int32)) :=
  if 0 ≤ l2 then
    X7_factor_J170 rs o_textLength o_nesting o_buffer o_draft k0 (1 : Int32) o_position o_error o_errorAt o_numberStart
  else
    X7_factor_J170 rs o_textLength o_nesting o_buffer o_draft k0 (0 : Int32) o_position o_error o_errorAt o_numberStart
def X7_factor_J142 (rs : Int32 → Int32 → Int32 → Int32 → Int32 → Int32 → (Nat → Int32) → (Nat → Int32) → Option (Int32 × Int32 × Int32 × Int32 × Int32 × (Nat → Int32))) (o_textLength : Int32) (o_error : Int32) (o_errorAt : Int32) (o_numberStart : Int32) (o_nesting : Int32) (o_buffer : Nat → Int32) (o_draft : Nat → Int32)  (k0 : Int32) (o_position : Int32) : Option (Int32 × Int32 × Int32 × Int32 × Int32 × (Nat → Int32)) :=
  if 0 ≤ k0 then
    X7_factor_J159 rs o_textLength o_nesting o_buffer o_draft k0 k0 o_position o_error o_errorAt o_numberStart
  else
    bn5 (X7_number o_textLength o_position o_error o_errorAt o_numberStart o_buffer (0 : Int32) (9999 : Int32)) fun (r7 : Int32) (o8 : Int32) (o9 : Int32) (o10 : Int32) (o11 : Int32) =>
    X7_factor_J159 rs o_textLength o_nesting o_buffer o_draft k0 r7 o8 o9 o10 o11
def X7_factor_J37 (rs : Int32 → Int32 → Int32 → Int32 → Int32 → Int32 → (Nat → Int32) → (Nat → Int32) → Option (Int32 × Int32 × Int32 × Int32 × Int32 × (Nat → Int32))) (o_textLength : Int32) (o_numberStart : Int32) (o_nesting : Int32) (o_buffer : Nat → Int32) (o_draft : Nat → Int32)  (o_position : Int32) (o_error : Int32) (o_errorAt : Int32) : Option (Int32 × Int32 × Int32 × Int32 × Int32 × (Nat → Int32)) :=
  nm (o_position + (1 : Int32)) fun (v13 : Int32) =>
  nm (o_nesting + (1 : Int32)) fun (v14 : Int32) =>
  bn6 (rs o_textLength v13 o_error o_errorAt o_numberStart v14 o_buffer o_draft) fun (o15 : Int32) (o16 : Int32) (o17 : Int32) (o18 : Int32) (o19 : Int32) (o20 : Nat → Int32) =>
  bn3 (X7_expect o_textLength o15 o16 o17 o_buffer (41 : Int32)) fun (o22 : Int32) (o23 : Int32) (o24 : Int32) =>
  nm (o19 - (1 : Int32)) fun (v26 : Int32) =>
  some (o22, o23, o24, o18, v26, o20)
def X7_factor (rs : Int32 → Int32 → Int32 → Int32 → Int32 → Int32 → (Nat → Int32) → (Nat → Int32) → Option (Int32 × Int32 × Int32 × Int32 × Int32 × (Nat → Int32))) (o_textLength : Int32) (o_position : Int32) (o_error : Int32) (o_errorAt : Int32) (o_numberStart : Int32) (o_nesting : Int32) (o_buffer : Nat → Int32) (o_draft : Nat → Int32) : Option (Int32 × Int32 × Int32 × Int32 × Int32 × (Nat → Int32)) :=
  bn1 (X7_isGood o_error) fun (r27 : Int32) =>
  if r27 = 0 then
    some (o_position, o_error, o_errorAt, o_numberStart, o_nesting, o_draft)
  else
    bn2 (X7_ahead o_textLength o_position o_buffer) fun (r30 : Int32) (o31 : Int32) =>
    if r30 = (40 : Int32) then
      if o_nesting = (4 : Int32) then
        bn2 (X7_report o_error o_errorAt (-6 : Int32) o31) fun (o58 : Int32) (o59 : Int32) =>
        X7_factor_J37 rs o_textLength o_numberStart o_nesting o_buffer o_draft o31 o58 o59
      else
        X7_factor_J37 rs o_textLength o_numberStart o_nesting o_buffer o_draft o31 o_error o_errorAt
    else
      bn1 (X7_isDigit r30) fun (r34 : Int32) =>
      if r34 = 0 then
        bn2 (X7_takeWord [115, 104, 111, 119, 110] o_textLength o31 o_error o_buffer) fun (r38 : Int32) (o39 : Int32) =>
        if r38 = 0 then
          bn2 (X7_takeWord [107, 105, 110, 100, 115] o_textLength o39 o_error o_buffer) fun (r43 : Int32) (o44 : Int32) =>
          if r43 = 0 then
            bn2 (X7_takeWord [100, 101, 112, 116, 104] o_textLength o44 o_error o_buffer) fun (r48 : Int32) (o49 : Int32) =>
            if r48 = 0 then
              bn2 (X7_takeWord [104, 111, 108, 101] o_textLength o49 o_error o_buffer) fun (r53 : Int32) (o54 : Int32) =>
              if r53 = 0 then
                X7_factor_J142 rs o_textLength o_error o_errorAt o_numberStart o_nesting o_buffer o_draft (-1 : Int32) o54
              else
                X7_factor_J142 rs o_textLength o_error o_errorAt o_numberStart o_nesting o_buffer o_draft (3 : Int32) o54
            else
              X7_factor_J142 rs o_textLength o_error o_errorAt o_numberStart o_nesting o_buffer o_draft (2 : Int32) o49
          else
            X7_factor_J142 rs o_textLength o_error o_errorAt o_numberStart o_nesting o_buffer o_draft (1 : Int32) o44
        else
          X7_factor_J142 rs o_textLength o_error o_errorAt o_numberStart o_nesting o_buffer o_draft (0 : Int32) o39
      else
        X7_factor_J142 rs o_textLength o_error o_errorAt o_numberStart o_nesting o_buffer o_draft (-1 : Int32) o31
def X7_term_J68 (f0 : Int32 → Int32 → Int32 → Int32 → Int32 → Int32 → (Nat → Int32) → (Nat → Int32) → Option (Int32 × Int32 × Int32 × Int32 × Int32 × (Nat → Int32))) (o_textLength : Int32) (o_buffer : Nat → Int32) (kL4 : Int32 → Int32 → Int32 → Int32 → Int32 → (Nat → Int32) → Option (Int32 × Int32 × Int32 × Int32 × Int32 × (Nat → Int32))) (k1 : Int32) (o_position : Int32) (o_error : Int32) (o_errorAt : Int32) (o_numberStart : Int32) (o_nesting : Int32) (o_draft : Nat → Int32) : Option (Int32 × Int32 × Int32 × Int32 × Int32 × (Nat → Int32)) :=
  bn1 (X7_emit o_error o_draft k1) fun (o1 : Nat → Int32) =>
  kL4 o_position o_error o_errorAt o_numberStart o_nesting o1
def X7_term_J43 (f0 : Int32 → Int32 → Int32 → Int32 → Int32 → Int32 → (Nat → Int32) → (Nat → Int32) → Option (Int32 × Int32 × Int32 × Int32 × Int32 × (Nat → Int32))) (o_textLength : Int32) (o_buffer : Nat → Int32) (kL4 : Int32 → Int32 → Int32 → Int32 → Int32 → (Nat → Int32) → Option (Int32 × Int32 × Int32 × Int32 × Int32 × (Nat → Int32))) (k0 : Int32) (o_position : Int32) (o_error : Int32) (o_errorAt : Int32) (o_numberStart : Int32) (o_nesting : Int32) (o_draft : Nat → Int32) : Option (Int32 × Int32 × Int32 × Int32 × Int32 × (Nat → Int32)) :=
  nm (o_position + (1 : Int32)) fun (v3 : Int32) =>
  bn6 (f0 o_textLength v3 o_error o_errorAt o_numberStart o_nesting o_buffer o_draft) fun (o4 : Int32) (o5 : Int32) (o6 : Int32) (o7 : Int32) (o8 : Int32) (o9 : Nat → Int32) =>
  if k0 = 0 then
    X7_term_J68 f0 o_textLength o_buffer kL4 (5 : Int32) o4 o5 o6 o7 o8 o9
  else
    X7_term_J68 f0 o_textLength o_buffer kL4 (4 : Int32) o4 o5 o6 o7 o8 o9
def X7_term_J29 (f0 : Int32 → Int32 → Int32 → Int32 → Int32 → Int32 → (Nat → Int32) → (Nat → Int32) → Option (Int32 × Int32 × Int32 × Int32 × Int32 × (Nat → Int32))) (o_textLength : Int32) (o_buffer : Nat → Int32) (kL4 : Int32 → Int32 → Int32 → Int32 → Int32 → (Nat → Int32) → Option (Int32 × Int32 × Int32 × Int32 × Int32 × (Nat → Int32))) (o_position : Int32) (o_error : Int32) (o_errorAt : Int32) (o_numberStart : Int32) (o_nesting : Int32) (o_draft : Nat → Int32) : Option (Int32 × Int32 × Int32 × Int32 × Int32 × (Nat → Int32)) :=
  bn2 (X7_ahead o_textLength o_position o_buffer) fun (r12 : Int32) (o13 : Int32) =>
  if r12 = (42 : Int32) then
    X7_term_J43 f0 o_textLength o_buffer kL4 (1 : Int32) o13 o_error o_errorAt o_numberStart o_nesting o_draft
  else
    X7_term_J43 f0 o_textLength o_buffer kL4 (0 : Int32) o13 o_error o_errorAt o_numberStart o_nesting o_draft
def X7_term_L4 (f0 : Int32 → Int32 → Int32 → Int32 → Int32 → Int32 → (Nat → Int32) → (Nat → Int32) → Option (Int32 × Int32 × Int32 × Int32 × Int32 × (Nat → Int32))) (o_textLength : Int32) (o_buffer : Nat → Int32)  : Nat → Int32 → Int32 → Int32 → Int32 → Int32 → (Nat → Int32) → Option (Int32 × Int32 × Int32 × Int32 × Int32 × (Nat → Int32))
  | 0, _, _, _, _, _, _ => none
  | n + 1, o_position, o_error, o_errorAt, o_numberStart, o_nesting, o_draft =>
    bn1 (X7_isGood o_error) fun (r16 : Int32) =>
    if r16 = 0 then
      some (o_position, o_error, o_errorAt, o_numberStart, o_nesting, o_draft)
    else
      bn2 (X7_ahead o_textLength o_position o_buffer) fun (r19 : Int32) (o20 : Int32) =>
      if r19 = (42 : Int32) then
        X7_term_J29 f0 o_textLength o_buffer (fun z0 z1 z2 z3 z4 z5 => X7_term_L4 f0 o_textLength o_buffer n z0 z1 z2 z3 z4 z5) o20 o_error o_errorAt o_numberStart o_nesting o_draft
      else
        bn2 (X7_ahead o_textLength o20 o_buffer) fun (r23 : Int32) (o24 : Int32) =>
        if r23 = (47 : Int32) then
          X7_term_J29 f0 o_textLength o_buffer (fun z0 z1 z2 z3 z4 z5 => X7_term_L4 f0 o_textLength o_buffer n z0 z1 z2 z3 z4 z5) o24 o_error o_errorAt o_numberStart o_nesting o_draft
        else
          some (o24, o_error, o_errorAt, o_numberStart, o_nesting, o_draft)
def X7_term (f0 : Int32 → Int32 → Int32 → Int32 → Int32 → Int32 → (Nat → Int32) → (Nat → Int32) → Option (Int32 × Int32 × Int32 × Int32 × Int32 × (Nat → Int32))) (o_textLength : Int32) (o_position : Int32) (o_error : Int32) (o_errorAt : Int32) (o_numberStart : Int32) (o_nesting : Int32) (o_buffer : Nat → Int32) (o_draft : Nat → Int32) : Option (Int32 × Int32 × Int32 × Int32 × Int32 × (Nat → Int32)) :=
  bn6 (f0 o_textLength o_position o_error o_errorAt o_numberStart o_nesting o_buffer o_draft) fun (o27 : Int32) (o28 : Int32) (o29 : Int32) (o30 : Int32) (o31 : Int32) (o32 : Nat → Int32) =>
  X7_term_L4 f0 o_textLength o_buffer FU o27 o28 o29 o30 o31 o32
def X7_readSum_J68 (f1 : Int32 → Int32 → Int32 → Int32 → Int32 → Int32 → (Nat → Int32) → (Nat → Int32) → Option (Int32 × Int32 × Int32 × Int32 × Int32 × (Nat → Int32))) (o_textLength : Int32) (o_buffer : Nat → Int32) (kL4 : Int32 → Int32 → Int32 → Int32 → Int32 → (Nat → Int32) → Option (Int32 × Int32 × Int32 × Int32 × Int32 × (Nat → Int32))) (k1 : Int32) (o_position : Int32) (o_error : Int32) (o_errorAt : Int32) (o_numberStart : Int32) (o_nesting : Int32) (o_draft : Nat → Int32) : Option (Int32 × Int32 × Int32 × Int32 × Int32 × (Nat → Int32)) :=
  bn1 (X7_emit o_error o_draft k1) fun (o1 : Nat → Int32) =>
  kL4 o_position o_error o_errorAt o_numberStart o_nesting o1
def X7_readSum_J43 (f1 : Int32 → Int32 → Int32 → Int32 → Int32 → Int32 → (Nat → Int32) → (Nat → Int32) → Option (Int32 × Int32 × Int32 × Int32 × Int32 × (Nat → Int32))) (o_textLength : Int32) (o_buffer : Nat → Int32) (kL4 : Int32 → Int32 → Int32 → Int32 → Int32 → (Nat → Int32) → Option (Int32 × Int32 × Int32 × Int32 × Int32 × (Nat → Int32))) (k0 : Int32) (o_position : Int32) (o_error : Int32) (o_errorAt : Int32) (o_numberStart : Int32) (o_nesting : Int32) (o_draft : Nat → Int32) : Option (Int32 × Int32 × Int32 × Int32 × Int32 × (Nat → Int32)) :=
  nm (o_position + (1 : Int32)) fun (v3 : Int32) =>
  bn6 (f1 o_textLength v3 o_error o_errorAt o_numberStart o_nesting o_buffer o_draft) fun (o4 : Int32) (o5 : Int32) (o6 : Int32) (o7 : Int32) (o8 : Int32) (o9 : Nat → Int32) =>
  if k0 = 0 then
    X7_readSum_J68 f1 o_textLength o_buffer kL4 (3 : Int32) o4 o5 o6 o7 o8 o9
  else
    X7_readSum_J68 f1 o_textLength o_buffer kL4 (2 : Int32) o4 o5 o6 o7 o8 o9
def X7_readSum_J29 (f1 : Int32 → Int32 → Int32 → Int32 → Int32 → Int32 → (Nat → Int32) → (Nat → Int32) → Option (Int32 × Int32 × Int32 × Int32 × Int32 × (Nat → Int32))) (o_textLength : Int32) (o_buffer : Nat → Int32) (kL4 : Int32 → Int32 → Int32 → Int32 → Int32 → (Nat → Int32) → Option (Int32 × Int32 × Int32 × Int32 × Int32 × (Nat → Int32))) (o_position : Int32) (o_error : Int32) (o_errorAt : Int32) (o_numberStart : Int32) (o_nesting : Int32) (o_draft : Nat → Int32) : Option (Int32 × Int32 × Int32 × Int32 × Int32 × (Nat → Int32)) :=
  bn2 (X7_ahead o_textLength o_position o_buffer) fun (r12 : Int32) (o13 : Int32) =>
  if r12 = (43 : Int32) then
    X7_readSum_J43 f1 o_textLength o_buffer kL4 (1 : Int32) o13 o_error o_errorAt o_numberStart o_nesting o_draft
  else
    X7_readSum_J43 f1 o_textLength o_buffer kL4 (0 : Int32) o13 o_error o_errorAt o_numberStart o_nesting o_draft
def X7_readSum_L4 (f1 : Int32 → Int32 → Int32 → Int32 → Int32 → Int32 → (Nat → Int32) → (Nat → Int32) → Option (Int32 × Int32 × Int32 × Int32 × Int32 × (Nat → Int32))) (o_textLength : Int32) (o_buffer : Nat → Int32)  : Nat → Int32 → Int32 → Int32 → Int32 → Int32 → (Nat → Int32) → Option (Int32 × Int32 × Int32 × Int32 × Int32 × (Nat → Int32))
  | 0, _, _, _, _, _, _ => none
  | n + 1, o_position, o_error, o_errorAt, o_numberStart, o_nesting, o_draft =>
    bn1 (X7_isGood o_error) fun (r16 : Int32) =>
    if r16 = 0 then
      some (o_position, o_error, o_errorAt, o_numberStart, o_nesting, o_draft)
    else
      bn2 (X7_ahead o_textLength o_position o_buffer) fun (r19 : Int32) (o20 : Int32) =>
      if r19 = (43 : Int32) then
        X7_readSum_J29 f1 o_textLength o_buffer (fun z0 z1 z2 z3 z4 z5 => X7_readSum_L4 f1 o_textLength o_buffer n z0 z1 z2 z3 z4 z5) o20 o_error o_errorAt o_numberStart o_nesting o_draft
      else
        bn2 (X7_ahead o_textLength o20 o_buffer) fun (r23 : Int32) (o24 : Int32) =>
        if r23 = (45 : Int32) then
          X7_readSum_J29 f1 o_textLength o_buffer (fun z0 z1 z2 z3 z4 z5 => X7_readSum_L4 f1 o_textLength o_buffer n z0 z1 z2 z3 z4 z5) o24 o_error o_errorAt o_numberStart o_nesting o_draft
        else
          some (o24, o_error, o_errorAt, o_numberStart, o_nesting, o_draft)
def X7_readSum_b (f1 : Int32 → Int32 → Int32 → Int32 → Int32 → Int32 → (Nat → Int32) → (Nat → Int32) → Option (Int32 × Int32 × Int32 × Int32 × Int32 × (Nat → Int32))) (o_textLength : Int32) (o_position : Int32) (o_error : Int32) (o_errorAt : Int32) (o_numberStart : Int32) (o_nesting : Int32) (o_buffer : Nat → Int32) (o_draft : Nat → Int32) : Option (Int32 × Int32 × Int32 × Int32 × Int32 × (Nat → Int32)) :=
  bn6 (f1 o_textLength o_position o_error o_errorAt o_numberStart o_nesting o_buffer o_draft) fun (o27 : Int32) (o28 : Int32) (o29 : Int32) (o30 : Int32) (o31 : Int32) (o32 : Nat → Int32) =>
  X7_readSum_L4 f1 o_textLength o_buffer FU o27 o28 o29 o30 o31 o32
def X7_readSum : Nat → Int32 → Int32 → Int32 → Int32 → Int32 → Int32 → (Nat → Int32) → (Nat → Int32) → Option (Int32 × Int32 × Int32 × Int32 × Int32 × (Nat → Int32))
  | 0 => fun _ _ _ _ _ _ _ _ => none
  | d + 1 => X7_readSum_b (X7_term (X7_factor (X7_readSum d)))
def X7_once_J19 (o_seen : Int32) (p1 : Int32) (p2 : Int32)  (o_error : Int32) (o_errorAt : Int32) : Option (Int32 × Int32 × Int32) :=
  nm (o_seen ||| ((1 : Int32) <<< (p1 &&& 31))) fun (v1 : Int32) =>
  some (o_error, o_errorAt, v1)
def X7_once (o_error : Int32) (o_errorAt : Int32) (o_seen : Int32) (p1 : Int32) (p2 : Int32) : Option (Int32 × Int32 × Int32) :=
  if ((o_seen >>> (p1 &&& 31)) &&& (1 : Int32)) = (1 : Int32) then
    bn2 (X7_report o_error o_errorAt (-2 : Int32) p2) fun (o3 : Int32) (o4 : Int32) =>
    X7_once_J19 o_seen p1 p2 o3 o4
  else
    X7_once_J19 o_seen p1 p2 o_error o_errorAt
def X7_isLine_J17 (p0 : Int32)   : Option (Int32) :=
  some (1 : Int32)
def X7_isLine (p0 : Int32) : Option (Int32) :=
  if p0 = (46 : Int32) then
    X7_isLine_J17 p0
  else
    bn1 (X7_in p0 (97 : Int32) (122 : Int32)) fun (r2 : Int32) =>
    if r2 = 0 then
      some (0 : Int32)
    else
      X7_isLine_J17 p0
def X7_readLine_J177 (o_textLength : Int32) (o_buffer : Nat → Int32) (p1 : Int32) (p2 : Int32)  (l3 : Int32) (l4 : Int32) (o_position : Int32) (o_error : Int32) (o_errorAt : Int32) (o_draft : Nat → Int32) : Option (Int32 × Int32 × Int32 × (Nat → Int32)) :=
  nm (l3 + l4) fun (v1 : Int32) =>
  some (v1, o_error, o_errorAt, o_draft)
def X7_readLine_J170 (o_textLength : Int32) (o_buffer : Nat → Int32) (p1 : Int32) (p2 : Int32) (kL82 : Int32 → Int32 → Int32 → Int32 → Int32 → Int32 → Int32 → (Nat → Int32) → Option (Int32 × Int32 × Int32 × (Nat → Int32))) (l3 : Int32) (l4 : Int32) (l5 : Int32) (l6 : Int32) (k1 : Int32) (k2 : Int32) (o_position : Int32) (o_error : Int32) (o_errorAt : Int32) (o_draft : Nat → Int32) : Option (Int32 × Int32 × Int32 × (Nat → Int32)) :=
  st 2243 k1 (upd o_draft k1.toNatClampNeg k2) fun (b3 : Nat → Int32) =>
  nm (l6 + (1 : Int32)) fun (v4 : Int32) =>
  kL82 l3 l4 l5 v4 o_position o_error o_errorAt b3
def X7_readLine_J135 (o_textLength : Int32) (o_buffer : Nat → Int32) (p1 : Int32) (p2 : Int32) (kL82 : Int32 → Int32 → Int32 → Int32 → Int32 → Int32 → Int32 → (Nat → Int32) → Option (Int32 × Int32 × Int32 × (Nat → Int32))) (l3 : Int32) (l4 : Int32) (l5 : Int32) (l6 : Int32) (l7 : Int32) (o_position : Int32) (o_error : Int32) (o_errorAt : Int32) (o_draft : Nat → Int32) : Option (Int32 × Int32 × Int32 × (Nat → Int32)) :=
  if l7 = (46 : Int32) then
    X7_readLine_J170 o_textLength o_buffer p1 p2 kL82 l3 l4 l5 l6 ((((15 : Int32) + ((96 : Int32) * p1)) + (l5 * p2)) + l6) (-1 : Int32) o_position o_error o_errorAt o_draft
  else
    X7_readLine_J170 o_textLength o_buffer p1 p2 kL82 l3 l4 l5 l6 ((((15 : Int32) + ((96 : Int32) * p1)) + (l5 * p2)) + l6) (l7 - (97 : Int32)) o_position o_error o_errorAt o_draft
def X7_readLine_L82 (o_textLength : Int32) (o_buffer : Nat → Int32) (p1 : Int32) (p2 : Int32)  : Nat → Int32 → Int32 → Int32 → Int32 → Int32 → Int32 → Int32 → (Nat → Int32) → Option (Int32 × Int32 × Int32 × (Nat → Int32))
  | 0, _, _, _, _, _, _, _, _ => none
  | n + 1, l3, l4, l5, l6, o_position, o_error, o_errorAt, o_draft =>
    if l5 ≤ l6 then
      X7_readLine_J177 o_textLength o_buffer p1 p2 l3 l4 o_position o_error o_errorAt o_draft
    else
      bn1 (X7_isGood o_error) fun (r7 : Int32) =>
      if r7 = 0 then
        X7_readLine_J177 o_textLength o_buffer p1 p2 l3 l4 o_position o_error o_errorAt o_draft
      else
        bn1 (X7_byteAt o_textLength o_buffer (l3 + l6)) fun (r10 : Int32) =>
        if r10 = (46 : Int32) then
          ld o_draft 2243 (2 : Int32) fun (v14 : Int32) =>
          if p1 = (v14 - (1 : Int32)) then
            bn2 (X7_report o_error o_errorAt (-4 : Int32) (l3 + l6)) fun (o16 : Int32) (o17 : Int32) =>
            X7_readLine_J135 o_textLength o_buffer p1 p2 (fun z0 z1 z2 z3 z4 z5 z6 z7 => X7_readLine_L82 o_textLength o_buffer p1 p2 n z0 z1 z2 z3 z4 z5 z6 z7) l3 l4 l5 l6 r10 o_position o16 o17 o_draft
          else
            X7_readLine_J135 o_textLength o_buffer p1 p2 (fun z0 z1 z2 z3 z4 z5 z6 z7 => X7_readLine_L82 o_textLength o_buffer p1 p2 n z0 z1 z2 z3 z4 z5 z6 z7) l3 l4 l5 l6 r10 o_position o_error o_errorAt o_draft
        else
          X7_readLine_J135 o_textLength o_buffer p1 p2 (fun z0 z1 z2 z3 z4 z5 z6 z7 => X7_readLine_L82 o_textLength o_buffer p1 p2 n z0 z1 z2 z3 z4 z5 z6 z7) l3 l4 l5 l6 r10 o_position o_error o_errorAt o_draft
def X7_readLine_J79 (o_textLength : Int32) (o_buffer : Nat → Int32) (o_draft : Nat → Int32) (p1 : Int32) (p2 : Int32)  (l3 : Int32) (l4 : Int32) (l5 : Int32) (o_position : Int32) (o_error : Int32) (o_errorAt : Int32) : Option (Int32 × Int32 × Int32 × (Nat → Int32)) :=
  X7_readLine_L82 o_textLength o_buffer p1 p2 FU l3 l4 l5 (0 : Int32) o_position o_error o_errorAt o_draft
def X7_readLine_L45 (o_textLength : Int32) (o_error : Int32) (o_errorAt : Int32) (o_buffer : Nat → Int32) (o_draft : Nat → Int32) (p1 : Int32) (p2 : Int32)  : Nat → Int32 → Int32 → Int32 → Int32 → Option (Int32 × Int32 × Int32 × (Nat → Int32))
  | 0, _, _, _, _ => none
  | n + 1, l3, l4, l5, o_position =>
    bn1 (X7_byteAt o_textLength o_buffer (l3 + l4)) fun (r19 : Int32) =>
    bn1 (X7_isLine r19) fun (r21 : Int32) =>
    if r21 = 0 then
      if l4 = l5 then
        X7_readLine_J79 o_textLength o_buffer o_draft p1 p2 l3 l4 l5 o_position o_error o_errorAt
      else
        bn2 (X7_report o_error o_errorAt (-4 : Int32) l3) fun (o25 : Int32) (o26 : Int32) =>
        X7_readLine_J79 o_textLength o_buffer o_draft p1 p2 l3 l4 l5 o_position o25 o26
    else
      nm (l4 + (1 : Int32)) fun (v28 : Int32) =>
      X7_readLine_L45 o_textLength o_error o_errorAt o_buffer o_draft p1 p2 n l3 v28 l5 o_position
def X7_readLine (o_textLength : Int32) (o_position : Int32) (o_error : Int32) (o_errorAt : Int32) (o_buffer : Nat → Int32) (o_draft : Nat → Int32) (p1 : Int32) (p2 : Int32) : Option (Int32 × Int32 × Int32 × (Nat → Int32)) :=
  bn1 (X7_isGood o_error) fun (r29 : Int32) =>
  if r29 = 0 then
    some (o_position, o_error, o_errorAt, o_draft)
  else
    bn2 (X7_ahead o_textLength o_position o_buffer) fun (r32 : Int32) (o33 : Int32) =>
    bn1 (X7_isLine r32) fun (r35 : Int32) =>
    if r35 = 0 then
      bn2 (X7_report o_error o_errorAt (-2 : Int32) o33) fun (o40 : Int32) (o41 : Int32) =>
      some (o33, o40, o41, o_draft)
    else
      ld o_draft 2243 (0 : Int32) fun (v39 : Int32) =>
      X7_readLine_L45 o_textLength o_error o_errorAt o_buffer o_draft p1 p2 FU o33 (0 : Int32) v39 o33
def X7_readPlane_L22 (o_textLength : Int32) (o_toldPlanes : Int32) (o_buffer : Nat → Int32) (p1 : Int32)  : Nat → Int32 → Int32 → Int32 → Int32 → (Nat → Int32) → Option (Int32 × Int32 × Int32 × Int32 × (Nat → Int32))
  | 0, _, _, _, _, _ => none
  | n + 1, l2, o_position, o_error, o_errorAt, o_draft =>
    ld o_draft 2243 (1 : Int32) fun (v2 : Int32) =>
    if v2 ≤ l2 then
      nm (o_toldPlanes + (1 : Int32)) fun (v4 : Int32) =>
      some (o_position, o_error, o_errorAt, v4, o_draft)
    else
      bn4 (X7_readLine o_textLength o_position o_error o_errorAt o_buffer o_draft o_toldPlanes l2) fun (o5 : Int32) (o6 : Int32) (o7 : Int32) (o8 : Nat → Int32) =>
      nm (l2 + (1 : Int32)) fun (v10 : Int32) =>
      X7_readPlane_L22 o_textLength o_toldPlanes o_buffer p1 n v10 o5 o6 o7 o8
def X7_readPlane_J20 (o_textLength : Int32) (o_position : Int32) (o_toldPlanes : Int32) (o_buffer : Nat → Int32) (o_draft : Nat → Int32) (p1 : Int32)  (o_error : Int32) (o_errorAt : Int32) : Option (Int32 × Int32 × Int32 × Int32 × (Nat → Int32)) :=
  X7_readPlane_L22 o_textLength o_toldPlanes o_buffer p1 FU (0 : Int32) o_position o_error o_errorAt o_draft
def X7_readPlane (o_textLength : Int32) (o_position : Int32) (o_error : Int32) (o_errorAt : Int32) (o_toldPlanes : Int32) (o_buffer : Nat → Int32) (o_draft : Nat → Int32) (p1 : Int32) : Option (Int32 × Int32 × Int32 × Int32 × (Nat → Int32)) :=
  ld o_draft 2243 (2 : Int32) fun (v12 : Int32) =>
  if o_toldPlanes = v12 then
    bn2 (X7_report o_error o_errorAt (-5 : Int32) p1) fun (o14 : Int32) (o15 : Int32) =>
    X7_readPlane_J20 o_textLength o_position o_toldPlanes o_buffer o_draft p1 o14 o15
  else
    X7_readPlane_J20 o_textLength o_position o_toldPlanes o_buffer o_draft p1 o_error o_errorAt
def X7_readHole_J17 (o_textLength : Int32) (o_position : Int32) (o_numberStart : Int32) (o_buffer : Nat → Int32) (o_draft : Nat → Int32) (p1 : Int32)  (o_error : Int32) (o_errorAt : Int32) : Option (Int32 × Int32 × Int32 × Int32 × (Nat → Int32)) :=
  ld o_draft 2243 (0 : Int32) fun (v2 : Int32) =>
  bn5 (X7_number o_textLength o_position o_error o_errorAt o_numberStart o_buffer (0 : Int32) (v2 - (1 : Int32))) fun (r3 : Int32) (o4 : Int32) (o5 : Int32) (o6 : Int32) (o7 : Int32) =>
  ld o_draft 2243 (1 : Int32) fun (v10 : Int32) =>
  bn5 (X7_number o_textLength o4 o5 o6 o7 o_buffer (0 : Int32) (v10 - (1 : Int32))) fun (r11 : Int32) (o12 : Int32) (o13 : Int32) (o14 : Int32) (o15 : Int32) =>
  bn1 (X7_isGood o13) fun (r17 : Int32) =>
  if r17 = 0 then
    some (o12, o13, o14, o15, o_draft)
  else
    ld o_draft 2243 (3 : Int32) fun (v21 : Int32) =>
    st 2243 ((495 : Int32) + ((2 : Int32) * v21)) (upd o_draft ((495 : Int32) + ((2 : Int32) * v21)).toNatClampNeg r3) fun (b23 : Nat → Int32) =>
    ld b23 2243 (3 : Int32) fun (v25 : Int32) =>
    st 2243 (((495 : Int32) + ((2 : Int32) * v25)) + (1 : Int32)) (upd b23 (((495 : Int32) + ((2 : Int32) * v25)) + (1 : Int32)).toNatClampNeg r11) fun (b27 : Nat → Int32) =>
    ld b27 2243 (3 : Int32) fun (v29 : Int32) =>
    st 2243 (3 : Int32) (upd b27 (3 : Int32).toNatClampNeg (v29 + (1 : Int32))) fun (b31 : Nat → Int32) =>
    some (o12, o13, o14, o15, b31)
def X7_readHole (o_textLength : Int32) (o_position : Int32) (o_error : Int32) (o_errorAt : Int32) (o_numberStart : Int32) (o_buffer : Nat → Int32) (o_draft : Nat → Int32) (p1 : Int32) : Option (Int32 × Int32 × Int32 × Int32 × (Nat → Int32)) :=
  ld o_draft 2243 (3 : Int32) fun (v33 : Int32) =>
  if v33 = (4 : Int32) then
    bn2 (X7_report o_error o_errorAt (-5 : Int32) p1) fun (o35 : Int32) (o36 : Int32) =>
    X7_readHole_J17 o_textLength o_position o_numberStart o_buffer o_draft p1 o35 o36
  else
    X7_readHole_J17 o_textLength o_position o_numberStart o_buffer o_draft p1 o_error o_errorAt
def X7_kind_J67 (o_textLength : Int32) (o_buffer : Nat → Int32)  (l1 : Int32) (l2 : Int32) (o_position : Int32) (o_error : Int32) (o_errorAt : Int32) : Option (Int32 × Int32 × Int32 × Int32) :=
  nm (o_position + l2) fun (v1 : Int32) =>
  bn1 (X7_isGood o_error) fun (r2 : Int32) =>
  if r2 = 0 then
    some ((0 : Int32), v1, o_error, o_errorAt)
  else
    some ((l1 - (97 : Int32)), v1, o_error, o_errorAt)
def X7_kind_J55 (o_textLength : Int32) (o_buffer : Nat → Int32)  (l1 : Int32) (l2 : Int32) (l3 : Int32) (o_position : Int32) (o_error : Int32) (o_errorAt : Int32) : Option (Int32 × Int32 × Int32 × Int32) :=
  if l2 ≤ (1 : Int32) then
    X7_kind_J67 o_textLength o_buffer l1 l2 o_position o_error o_errorAt
  else
    bn2 (X7_report o_error o_errorAt (-3 : Int32) l3) fun (o6 : Int32) (o7 : Int32) =>
    X7_kind_J67 o_textLength o_buffer l1 l2 o_position o6 o7
def X7_kind_L21 (o_textLength : Int32) (o_error : Int32) (o_errorAt : Int32) (o_buffer : Nat → Int32)  : Nat → Int32 → Int32 → Int32 → Int32 → Option (Int32 × Int32 × Int32 × Int32)
  | 0, _, _, _, _ => none
  | n + 1, l1, l2, l3, o_position =>
    bn1 (X7_byteAt o_textLength o_buffer (l3 + l2)) fun (r9 : Int32) =>
    bn1 (X7_in r9 (97 : Int32) (122 : Int32)) fun (r11 : Int32) =>
    if r11 = 0 then
      if l2 = 0 then
        bn2 (X7_report o_error o_errorAt (-2 : Int32) l3) fun (o15 : Int32) (o16 : Int32) =>
        X7_kind_J55 o_textLength o_buffer l1 l2 l3 o_position o15 o16
      else
        X7_kind_J55 o_textLength o_buffer l1 l2 l3 o_position o_error o_errorAt
    else
      nm (l2 + (1 : Int32)) fun (v18 : Int32) =>
      X7_kind_L21 o_textLength o_error o_errorAt o_buffer n l1 v18 l3 o_position
def X7_kind (o_textLength : Int32) (o_position : Int32) (o_error : Int32) (o_errorAt : Int32) (o_buffer : Nat → Int32) : Option (Int32 × Int32 × Int32 × Int32) :=
  bn1 (X7_isGood o_error) fun (r19 : Int32) =>
  if r19 = 0 then
    some ((0 : Int32), o_position, o_error, o_errorAt)
  else
    bn2 (X7_ahead o_textLength o_position o_buffer) fun (r22 : Int32) (o23 : Int32) =>
    X7_kind_L21 o_textLength o_error o_errorAt o_buffer FU r22 (0 : Int32) o23 o23
def X7_addViewer (n_o : Nat) (o : Nat → Int32) (p1 : Int32) (p2 : Int32) (p3 : Int32) : Option ((Nat → Int32)) :=
  ld o n_o (7 : Int32) fun (v2 : Int32) =>
  nm ((503 : Int32) + ((7 : Int32) * v2)) fun (v3 : Int32) =>
  st n_o (v3 + (0 : Int32)) (upd o (v3 + (0 : Int32)).toNatClampNeg p1) fun (b5 : Nat → Int32) =>
  st n_o (v3 + (1 : Int32)) (upd b5 (v3 + (1 : Int32)).toNatClampNeg p2) fun (b7 : Nat → Int32) =>
  st n_o (v3 + (2 : Int32)) (upd b7 (v3 + (2 : Int32)).toNatClampNeg p3) fun (b9 : Nat → Int32) =>
  st n_o (v3 + (3 : Int32)) (upd b9 (v3 + (3 : Int32)).toNatClampNeg (0 : Int32)) fun (b11 : Nat → Int32) =>
  st n_o (v3 + (4 : Int32)) (upd b11 (v3 + (4 : Int32)).toNatClampNeg (-1 : Int32)) fun (b13 : Nat → Int32) =>
  st n_o (v3 + (5 : Int32)) (upd b13 (v3 + (5 : Int32)).toNatClampNeg (0 : Int32)) fun (b15 : Nat → Int32) =>
  st n_o (v3 + (6 : Int32)) (upd b15 (v3 + (6 : Int32)).toNatClampNeg (0 : Int32)) fun (b17 : Nat → Int32) =>
  ld b17 n_o (7 : Int32) fun (v19 : Int32) =>
  st n_o (7 : Int32) (upd b17 (7 : Int32).toNatClampNeg (v19 + (1 : Int32))) fun (b21 : Nat → Int32) =>
  some b21
def X7_readViewer_J19 (o_textLength : Int32) (o_position : Int32) (o_numberStart : Int32) (o_buffer : Nat → Int32) (o_draft : Nat → Int32) (p1 : Int32)  (o_error : Int32) (o_errorAt : Int32) : Option (Int32 × Int32 × Int32 × Int32 × (Nat → Int32)) :=
  bn5 (X7_number o_textLength o_position o_error o_errorAt o_numberStart o_buffer (0 : Int32) (9 : Int32)) fun (r1 : Int32) (o2 : Int32) (o3 : Int32) (o4 : Int32) (o5 : Int32) =>
  bn4 (X7_kind o_textLength o2 o3 o4 o_buffer) fun (r7 : Int32) (o8 : Int32) (o9 : Int32) (o10 : Int32) =>
  bn5 (X7_number o_textLength o8 o9 o10 o5 o_buffer (0 : Int32) (999 : Int32)) fun (r12 : Int32) (o13 : Int32) (o14 : Int32) (o15 : Int32) (o16 : Int32) =>
  bn1 (X7_isGood o14) fun (r18 : Int32) =>
  if r18 = 0 then
    some (o13, o14, o15, o16, o_draft)
  else
    bn1 (X7_addViewer 2243 o_draft r1 r7 r12) fun (o21 : Nat → Int32) =>
    some (o13, o14, o15, o16, o21)
def X7_readViewer (o_textLength : Int32) (o_position : Int32) (o_error : Int32) (o_errorAt : Int32) (o_numberStart : Int32) (o_buffer : Nat → Int32) (o_draft : Nat → Int32) (p1 : Int32) : Option (Int32 × Int32 × Int32 × Int32 × (Nat → Int32)) :=
  ld o_draft 2243 (7 : Int32) fun (v24 : Int32) =>
  if v24 = (20 : Int32) then
    bn2 (X7_report o_error o_errorAt (-5 : Int32) p1) fun (o26 : Int32) (o27 : Int32) =>
    X7_readViewer_J19 o_textLength o_position o_numberStart o_buffer o_draft p1 o26 o27
  else
    X7_readViewer_J19 o_textLength o_position o_numberStart o_buffer o_draft p1 o_error o_errorAt
def X7_statement_J160 (o_textLength : Int32) (o_buffer : Nat → Int32)  (o_position : Int32) (o_error : Int32) (o_errorAt : Int32) (o_numberStart : Int32) (o_nesting : Int32) (o_seen : Int32) (o_toldPlanes : Int32) (o_draft : Nat → Int32) : Option (Int32 × Int32 × Int32 × Int32 × Int32 × Int32 × Int32 × (Nat → Int32)) :=
  bn3 (X7_expect o_textLength o_position o_error o_errorAt o_buffer (59 : Int32)) fun (o1 : Int32) (o2 : Int32) (o3 : Int32) =>
  some (o1, o2, o3, o_numberStart, o_nesting, o_seen, o_toldPlanes, o_draft)
def X7_statement (o_textLength : Int32) (o_position : Int32) (o_error : Int32) (o_errorAt : Int32) (o_numberStart : Int32) (o_nesting : Int32) (o_seen : Int32) (o_toldPlanes : Int32) (o_buffer : Nat → Int32) (o_draft : Nat → Int32) : Option (Int32 × Int32 × Int32 × Int32 × Int32 × Int32 × Int32 × (Nat → Int32)) :=
  bn2 (X7_ahead o_textLength o_position o_buffer) fun (r5 : Int32) (o6 : Int32) =>
  bn2 (X7_takeWord [112, 108, 97, 110, 101] o_textLength o6 o_error o_buffer) fun (r9 : Int32) (o10 : Int32) =>
  if r9 = 0 then
    bn2 (X7_takeWord [104, 111, 108, 101] o_textLength o10 o_error o_buffer) fun (r14 : Int32) (o15 : Int32) =>
    if r14 = 0 then
      bn2 (X7_takeWord [114, 101, 97, 99, 104] o_textLength o15 o_error o_buffer) fun (r19 : Int32) (o20 : Int32) =>
      if r19 = 0 then
        bn2 (X7_takeWord [108, 101, 110, 103, 116, 104] o_textLength o20 o_error o_buffer) fun (r24 : Int32) (o25 : Int32) =>
        if r24 = 0 then
          bn2 (X7_takeWord [118, 105, 101, 119, 101, 114] o_textLength o25 o_error o_buffer) fun (r29 : Int32) (o30 : Int32) =>
          if r29 = 0 then
            bn2 (X7_takeWord [112, 114, 105, 99, 101] o_textLength o30 o_error o_buffer) fun (r34 : Int32) (o35 : Int32) =>
            if r34 = 0 then
              bn2 (X7_report o_error o_errorAt (-2 : Int32) o6) fun (o38 : Int32) (o39 : Int32) =>
              X7_statement_J160 o_textLength o_buffer o35 o38 o39 o_numberStart o_nesting o_seen o_toldPlanes o_draft
            else
              bn3 (X7_once o_error o_errorAt o_seen (2 : Int32) o6) fun (o41 : Int32) (o42 : Int32) (o43 : Int32) =>
              st 2243 (8 : Int32) (upd o_draft (8 : Int32).toNatClampNeg (1 : Int32)) fun (b46 : Nat → Int32) =>
              bn6 (X7_readSum 6 o_textLength o35 o41 o42 o_numberStart o_nesting o_buffer b46) fun (o47 : Int32) (o48 : Int32) (o49 : Int32) (o50 : Int32) (o51 : Int32) (o52 : Nat → Int32) =>
              X7_statement_J160 o_textLength o_buffer o47 o48 o49 o50 o51 o43 o_toldPlanes o52
          else
            bn5 (X7_readViewer o_textLength o30 o_error o_errorAt o_numberStart o_buffer o_draft o6) fun (o54 : Int32) (o55 : Int32) (o56 : Int32) (o57 : Int32) (o58 : Nat → Int32) =>
            X7_statement_J160 o_textLength o_buffer o54 o55 o56 o57 o_nesting o_seen o_toldPlanes o58
        else
          bn3 (X7_once o_error o_errorAt o_seen (1 : Int32) o6) fun (o60 : Int32) (o61 : Int32) (o62 : Int32) =>
          bn5 (X7_number o_textLength o25 o60 o61 o_numberStart o_buffer (1 : Int32) (20 : Int32)) fun (r64 : Int32) (o65 : Int32) (o66 : Int32) (o67 : Int32) (o68 : Int32) =>
          st 2243 (5 : Int32) (upd o_draft (5 : Int32).toNatClampNeg r64) fun (b71 : Nat → Int32) =>
          X7_statement_J160 o_textLength o_buffer o65 o66 o67 o68 o_nesting o62 o_toldPlanes b71
      else
        bn3 (X7_once o_error o_errorAt o_seen (0 : Int32) o6) fun (o72 : Int32) (o73 : Int32) (o74 : Int32) =>
        bn5 (X7_number o_textLength o20 o72 o73 o_numberStart o_buffer (0 : Int32) (9 : Int32)) fun (r76 : Int32) (o77 : Int32) (o78 : Int32) (o79 : Int32) (o80 : Int32) =>
        st 2243 (4 : Int32) (upd o_draft (4 : Int32).toNatClampNeg r76) fun (b83 : Nat → Int32) =>
        X7_statement_J160 o_textLength o_buffer o77 o78 o79 o80 o_nesting o74 o_toldPlanes b83
    else
      bn5 (X7_readHole o_textLength o15 o_error o_errorAt o_numberStart o_buffer o_draft o6) fun (o84 : Int32) (o85 : Int32) (o86 : Int32) (o87 : Int32) (o88 : Nat → Int32) =>
      X7_statement_J160 o_textLength o_buffer o84 o85 o86 o87 o_nesting o_seen o_toldPlanes o88
  else
    bn5 (X7_readPlane o_textLength o10 o_error o_errorAt o_toldPlanes o_buffer o_draft o6) fun (o90 : Int32) (o91 : Int32) (o92 : Int32) (o93 : Int32) (o94 : Nat → Int32) =>
    X7_statement_J160 o_textLength o_buffer o90 o91 o92 o_numberStart o_nesting o_seen o93 o94
