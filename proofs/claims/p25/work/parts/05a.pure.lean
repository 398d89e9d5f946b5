/-! pure programs: what the bytecode computes, written by program (gen.py) -/
def J7_fill_53178_L5 (n_o : Nat) (p1 : Int32)  : Nat → Int32 → Int32 → (Nat → Int32) → Option ((Nat → Int32))
  | 0, _, _, _ => none
  | n + 1, l2, l3, o =>
    if l3 ≤ l2 then
      some o
    else
      st n_o l2 (upd o l2.toNatClampNeg p1) fun (b3 : Nat → Int32) =>
      nm (l2 + (1 : Int32)) fun (v4 : Int32) =>
      J7_fill_53178_L5 n_o p1 n v4 l3 b3
def J7_fill_53178 (n_o : Nat) (o : Nat → Int32) (p1 : Int32) : Option ((Nat → Int32)) :=
  nm (nI n_o) fun (v5 : Int32) =>
  J7_fill_53178_L5 n_o p1 FU (0 : Int32) v5 o
def X0_setKind (o_cells : Nat → Int32) (p1 : Int32) (p2 : Int32) (p3 : Int32) (p4 : Int32) : Option ((Nat → Int32)) :=
  st 480 (((p1 * (96 : Int32)) + (p3 * (12 : Int32))) + p2) (upd o_cells (((p1 * (96 : Int32)) + (p3 * (12 : Int32))) + p2).toNatClampNeg p4) fun (b2 : Nat → Int32) =>
  some b2
def X2_clear (o_size : Int32) : Option (Int32) :=
  some (0 : Int32)
def X2_add (o_size : Int32) (o_codes : Nat → Int32) (p1 : Int32) : Option (Int32 × (Nat → Int32)) :=
  if (800 : Int32) ≤ o_size then
    some (o_size, o_codes)
  else
    st 800 o_size (upd o_codes o_size.toNatClampNeg p1) fun (b3 : Nat → Int32) =>
    nm (o_size + (1 : Int32)) fun (v4 : Int32) =>
    some (v4, b3)
def X2_addOperation (o_size : Int32) (o_codes : Nat → Int32) (p1 : Int32) : Option (Int32 × (Nat → Int32)) :=
  if p1 = 0 then
    some (o_size, o_codes)
  else
    bn2 (X2_add o_size o_codes (-p1)) fun (o2 : Int32) (o3 : Nat → Int32) =>
    some (o2, o3)
def X2_begin (o_size : Int32) (o_codes : Nat → Int32) : Option (Int32 × (Nat → Int32)) :=
  bn1 (X2_clear o_size) fun (o1 : Int32) =>
  bn2 (X2_add o1 o_codes (1 : Int32)) fun (o3 : Int32) (o4 : Nat → Int32) =>
  bn2 (X2_add o3 o4 (-1 : Int32)) fun (o6 : Int32) (o7 : Nat → Int32) =>
  bn2 (X2_addOperation o6 o7 (43 : Int32)) fun (o9 : Int32) (o10 : Nat → Int32) =>
  some (o9, o10)
def X0_begin_L57 (o_price_size : Int32) (o_price_codes : Nat → Int32) (p1 : Int32) (p2 : Int32) (p3 : Int32) (kL45 : Int32 → Int32 → Int32 → Int32 → Int32 → Int32 → (Nat → Int32) → (Nat → Int32) → Option (Int32 × Int32 × Int32 × Int32 × Int32 × (Nat → Int32) × (Nat → Int32) × Int32 × (Nat → Int32))) : Nat → Int32 → Int32 → Int32 → Int32 → Int32 → Int32 → Int32 → (Nat → Int32) → (Nat → Int32) → Option (Int32 × Int32 × Int32 × Int32 × Int32 × (Nat → Int32) × (Nat → Int32) × Int32 × (Nat → Int32))
  | 0, _, _, _, _, _, _, _, _, _ => none
  | n + 1, l4, l5, o_width, o_height, o_planes, o_holes, o_reach, o_cells, o_pulls =>
    if o_width ≤ l5 then
      nm (l4 + (1 : Int32)) fun (v2 : Int32) =>
      kL45 v2 o_width o_height o_planes o_holes o_reach o_cells o_pulls
    else
      bn1 (X0_setKind o_cells (o_planes - (1 : Int32)) l5 l4 (0 : Int32)) fun (o3 : Nat → Int32) =>
      nm (l5 + (1 : Int32)) fun (v5 : Int32) =>
      X0_begin_L57 o_price_size o_price_codes p1 p2 p3 kL45 n l4 v5 o_width o_height o_planes o_holes o_reach o3 o_pulls
def X0_begin_L45 (o_price_size : Int32) (o_price_codes : Nat → Int32) (p1 : Int32) (p2 : Int32) (p3 : Int32)  : Nat → Int32 → Int32 → Int32 → Int32 → Int32 → Int32 → (Nat → Int32) → (Nat → Int32) → Option (Int32 × Int32 × Int32 × Int32 × Int32 × (Nat → Int32) × (Nat → Int32) × Int32 × (Nat → Int32))
  | 0, _, _, _, _, _, _, _, _ => none
  | n + 1, l4, o_width, o_height, o_planes, o_holes, o_reach, o_cells, o_pulls =>
    if o_height ≤ l4 then
      bn2 (X2_begin o_price_size o_price_codes) fun (o7 : Int32) (o8 : Nat → Int32) =>
      some (o_width, o_height, o_planes, o_holes, o_reach, o_cells, o_pulls, o7, o8)
    else
      X0_begin_L57 o_price_size o_price_codes p1 p2 p3 (fun z0 z1 z2 z3 z4 z5 z6 z7 => X0_begin_L45 o_price_size o_price_codes p1 p2 p3 n z0 z1 z2 z3 z4 z5 z6 z7) FU l4 (0 : Int32) o_width o_height o_planes o_holes o_reach o_cells o_pulls
def X0_begin (o_width : Int32) (o_height : Int32) (o_planes : Int32) (o_holes : Int32) (o_reach : Int32) (o_cells : Nat → Int32) (o_pulls : Nat → Int32) (o_price_size : Int32) (o_price_codes : Nat → Int32) (p1 : Int32) (p2 : Int32) (p3 : Int32) : Option (Int32 × Int32 × Int32 × Int32 × Int32 × (Nat → Int32) × (Nat → Int32) × Int32 × (Nat → Int32)) :=
  bn1 (J7_fill_53178 480 o_cells (-1 : Int32)) fun (o10 : Nat → Int32) =>
  bn1 (J7_fill_53178 5 o_pulls (0 : Int32)) fun (o12 : Nat → Int32) =>
  X0_begin_L45 o_price_size o_price_codes p1 p2 p3 FU (0 : Int32) p1 p2 p3 (0 : Int32) (9 : Int32) o10 o12
def X2_copyFrom (o_size : Int32) (o_codes : Nat → Int32) (p1_size : Int32) (p1_codes : Nat → Int32) : Option (Int32 × (Nat → Int32)) :=
  ck (¬ p1_size < 0 ∧ (0 : Int32).toNatClampNeg + p1_size.toNatClampNeg ≤ 800 ∧ (0 : Int32).toNatClampNeg + p1_size.toNatClampNeg ≤ 800) <|
  nm (va_cpy p1_codes o_codes (0 : Int32).toNatClampNeg (0 : Int32).toNatClampNeg p1_size.toNatClampNeg) fun (b2 : Nat → Int32) =>
  some (p1_size, b2)
def X0_copyFrom (o_width : Int32) (o_height : Int32) (o_planes : Int32) (o_holes : Int32) (o_reach : Int32) (o_cells : Nat → Int32) (o_pulls : Nat → Int32) (o_holeX : Nat → Int32) (o_holeY : Nat → Int32) (o_price_size : Int32) (o_price_codes : Nat → Int32) (p1_width : Int32) (p1_height : Int32) (p1_planes : Int32) (p1_holes : Int32) (p1_reach : Int32) (p1_cells : Nat → Int32) (p1_pulls : Nat → Int32) (p1_holeX : Nat → Int32) (p1_holeY : Nat → Int32) (p1_price_size : Int32) (p1_price_codes : Nat → Int32) : Option (Int32 × Int32 × Int32 × Int32 × Int32 × (Nat → Int32) × (Nat → Int32) × (Nat → Int32) × (Nat → Int32) × Int32 × (Nat → Int32)) :=
  ck (¬ (480 : Int32) < 0 ∧ (0 : Int32).toNatClampNeg + (480 : Int32).toNatClampNeg ≤ 480 ∧ (0 : Int32).toNatClampNeg + (480 : Int32).toNatClampNeg ≤ 480) <|
  nm (va_cpy p1_cells o_cells (0 : Int32).toNatClampNeg (0 : Int32).toNatClampNeg (480 : Int32).toNatClampNeg) fun (b2 : Nat → Int32) =>
  ck (¬ (5 : Int32) < 0 ∧ (0 : Int32).toNatClampNeg + (5 : Int32).toNatClampNeg ≤ 5 ∧ (0 : Int32).toNatClampNeg + (5 : Int32).toNatClampNeg ≤ 5) <|
  nm (va_cpy p1_pulls o_pulls (0 : Int32).toNatClampNeg (0 : Int32).toNatClampNeg (5 : Int32).toNatClampNeg) fun (b4 : Nat → Int32) =>
  ck (¬ (4 : Int32) < 0 ∧ (0 : Int32).toNatClampNeg + (4 : Int32).toNatClampNeg ≤ 4 ∧ (0 : Int32).toNatClampNeg + (4 : Int32).toNatClampNeg ≤ 4) <|
  nm (va_cpy p1_holeX o_holeX (0 : Int32).toNatClampNeg (0 : Int32).toNatClampNeg (4 : Int32).toNatClampNeg) fun (b6 : Nat → Int32) =>
  ck (¬ (4 : Int32) < 0 ∧ (0 : Int32).toNatClampNeg + (4 : Int32).toNatClampNeg ≤ 4 ∧ (0 : Int32).toNatClampNeg + (4 : Int32).toNatClampNeg ≤ 4) <|
  nm (va_cpy p1_holeY o_holeY (0 : Int32).toNatClampNeg (0 : Int32).toNatClampNeg (4 : Int32).toNatClampNeg) fun (b8 : Nat → Int32) =>
  bn2 (X2_copyFrom o_price_size o_price_codes p1_price_size p1_price_codes) fun (o9 : Int32) (o10 : Nat → Int32) =>
  some (p1_width, p1_height, p1_planes, p1_holes, p1_reach, b2, b4, b6, b8, o9, o10)
def X0_addHole (o_holes : Int32) (o_holeX : Nat → Int32) (o_holeY : Nat → Int32) (p1 : Int32) (p2 : Int32) : Option (Int32 × (Nat → Int32) × (Nat → Int32)) :=
  if (4 : Int32) ≤ o_holes then
    some (o_holes, o_holeX, o_holeY)
  else
    st 4 o_holes (upd o_holeX o_holes.toNatClampNeg p1) fun (b3 : Nat → Int32) =>
    st 4 o_holes (upd o_holeY o_holes.toNatClampNeg p2) fun (b5 : Nat → Int32) =>
    nm (o_holes + (1 : Int32)) fun (v6 : Int32) =>
    some (v6, b3, b5)
def X0_isBack (o_planes : Int32) (p1 : Int32) : Option (Int32) :=
  if p1 = (o_planes - (1 : Int32)) then
    some (1 : Int32)
  else
    some (0 : Int32)
def X0_canUse (o_height : Int32) (o_reach : Int32) (o_holeY : Nat → Int32) (p1 : Int32) (p2 : Int32) : Option (Int32) :=
  ld o_holeY 4 p2 fun (v2 : Int32) =>
  nm (if 0 ≤ (p1 - ((o_height - (1 : Int32)) - v2)) then (p1 - ((o_height - (1 : Int32)) - v2)) else 0 - (p1 - ((o_height - (1 : Int32)) - v2))) fun (v3 : Int32) =>
  if o_reach < v3 then
    some (0 : Int32)
  else
    some (1 : Int32)
def X0_kindAt (o_height : Int32) (o_cells : Nat → Int32) (o_pulls : Nat → Int32) (p1 : Int32) (p2 : Int32) (p3 : Int32) : Option (Int32) :=
  ld o_pulls 5 p1 fun (v2 : Int32) =>
  nm (p3 + v2) fun (v3 : Int32) =>
  if o_height ≤ v3 then
    some (-1 : Int32)
  else
    ld o_cells 480 (((p1 * (96 : Int32)) + (v3 * (12 : Int32))) + p2) fun (v6 : Int32) =>
    some v6
def X0_standing_J39 (o_width : Int32) (o_height : Int32) (o_cells : Nat → Int32) (o_pulls : Nat → Int32) (p1 : Int32) (kL4 : Int32 → Int32 → Option (Int32)) (kL15 : Int32 → Int32 → Int32 → Option (Int32)) (l2 : Int32) (l3 : Int32) (l4 : Int32) : Option (Int32) :=
  nm (l4 + (1 : Int32)) fun (v1 : Int32) =>
  kL15 l2 l3 v1
def X0_standing_L15 (o_width : Int32) (o_height : Int32) (o_cells : Nat → Int32) (o_pulls : Nat → Int32) (p1 : Int32) (kL4 : Int32 → Int32 → Option (Int32)) : Nat → Int32 → Int32 → Int32 → Option (Int32)
  | 0, _, _, _ => none
  | n + 1, l2, l3, l4 =>
    if o_width ≤ l4 then
      nm (l3 + (1 : Int32)) fun (v3 : Int32) =>
      kL4 l2 v3
    else
      bn1 (X0_kindAt o_height o_cells o_pulls p1 l4 l3) fun (r4 : Int32) =>
      if r4 = (-1 : Int32) then
        X0_standing_J39 o_width o_height o_cells o_pulls p1 kL4 (fun z0 z1 z2 => X0_standing_L15 o_width o_height o_cells o_pulls p1 kL4 n z0 z1 z2) l2 l3 l4
      else
        nm (l2 + (1 : Int32)) fun (v7 : Int32) =>
        X0_standing_J39 o_width o_height o_cells o_pulls p1 kL4 (fun z0 z1 z2 => X0_standing_L15 o_width o_height o_cells o_pulls p1 kL4 n z0 z1 z2) v7 l3 l4
def X0_standing_L4 (o_width : Int32) (o_height : Int32) (o_cells : Nat → Int32) (o_pulls : Nat → Int32) (p1 : Int32)  : Nat → Int32 → Int32 → Option (Int32)
  | 0, _, _ => none
  | n + 1, l2, l3 =>
    if o_height ≤ l3 then
      some l2
    else
      X0_standing_L15 o_width o_height o_cells o_pulls p1 (fun z0 z1 => X0_standing_L4 o_width o_height o_cells o_pulls p1 n z0 z1) FU l2 l3 (0 : Int32)
def X0_standing (o_width : Int32) (o_height : Int32) (o_cells : Nat → Int32) (o_pulls : Nat → Int32) (p1 : Int32) : Option (Int32) :=
  X0_standing_L4 o_width o_height o_cells o_pulls p1 FU (0 : Int32) (0 : Int32)
def X6_quotient (p0 : Int64) (p2 : Int64) : Option (Int64) :=
  if (lg_cmp p2 (0 : Int64)) = 0 then
    some (0 : Int64)
  else
    ck (¬ p2 = 0) <|
    some (p0 / p2)
def X0_crossing (o_planes : Int32) (p1 : Int32) (p2 : Int32) (p3 : Int32) : Option (Int32) :=
  bn1 (X6_quotient ((p2 - p1) * (p3 + (1 : Int32))).toInt64 o_planes.toInt64) fun (r1 : Int64) =>
  some (p1 + r1.toInt32)
def X0_crossedKind (o_height : Int32) (o_planes : Int32) (o_cells : Nat → Int32) (o_pulls : Nat → Int32) (o_holeX : Nat → Int32) (o_holeY : Nat → Int32) (p1 : Int32) (p2 : Int32) (p3 : Int32) (p4 : Int32) : Option (Int32) :=
  ld o_holeX 4 p1 fun (v2 : Int32) =>
  bn1 (X0_crossing o_planes v2 p3 p2) fun (r3 : Int32) =>
  ld o_holeY 4 p1 fun (v6 : Int32) =>
  bn1 (X0_crossing o_planes v6 p4 p2) fun (r7 : Int32) =>
  bn1 (X0_kindAt o_height o_cells o_pulls p2 r3 r7) fun (r9 : Int32) =>
  some r9
def X0_seenFrom_J48 (o_height : Int32) (o_planes : Int32) (o_cells : Nat → Int32) (o_pulls : Nat → Int32) (o_holeX : Nat → Int32) (o_holeY : Nat → Int32) (p1 : Int32) (p2 : Int32) (p3 : Int32)  (l4 : Int32) (l5 : Int32) : Option (Int32) :=
  nm (if l5 < (0 : Int32) then (0 : Int32) else l5) fun (v1 : Int32) =>
  some (((100 : Int32) * l4) + v1)
def X0_seenFrom_L14 (o_height : Int32) (o_planes : Int32) (o_cells : Nat → Int32) (o_pulls : Nat → Int32) (o_holeX : Nat → Int32) (o_holeY : Nat → Int32) (p1 : Int32) (p2 : Int32) (p3 : Int32)  : Nat → Int32 → Int32 → Option (Int32)
  | 0, _, _ => none
  | n + 1, l4, l5 =>
    if l5 = (-1 : Int32) then
      if (o_planes - (1 : Int32)) ≤ l4 then
        X0_seenFrom_J48 o_height o_planes o_cells o_pulls o_holeX o_holeY p1 p2 p3 l4 l5
      else
        nm (l4 + (1 : Int32)) fun (v4 : Int32) =>
        bn1 (X0_crossedKind o_height o_planes o_cells o_pulls o_holeX o_holeY p1 v4 p2 p3) fun (r5 : Int32) =>
        X0_seenFrom_L14 o_height o_planes o_cells o_pulls o_holeX o_holeY p1 p2 p3 n v4 r5
    else
      X0_seenFrom_J48 o_height o_planes o_cells o_pulls o_holeX o_holeY p1 p2 p3 l4 l5
def X0_seenFrom (o_height : Int32) (o_planes : Int32) (o_cells : Nat → Int32) (o_pulls : Nat → Int32) (o_holeX : Nat → Int32) (o_holeY : Nat → Int32) (p1 : Int32) (p2 : Int32) (p3 : Int32) : Option (Int32) :=
  bn1 (X0_crossedKind o_height o_planes o_cells o_pulls o_holeX o_holeY p1 (0 : Int32) p2 p3) fun (r7 : Int32) =>
  X0_seenFrom_L14 o_height o_planes o_cells o_pulls o_holeX o_holeY p1 p2 p3 FU (0 : Int32) r7
def X1_begin (o_viewers : Int32) (o_lookLength : Int32) (o_time : Int32) (o_lookers : Nat → Int32) : Option (Int32 × Int32 × Int32 × (Nat → Int32)) :=
  bn1 (J7_fill_53178 4 o_lookers (-1 : Int32)) fun (o1 : Nat → Int32) =>
  some ((0 : Int32), (3 : Int32), (0 : Int32), o1)
def X1_copyFrom (o_viewers : Int32) (o_lookLength : Int32) (o_time : Int32) (o_lookers : Nat → Int32) (o_facts : Nat → Int32) (p1_viewers : Int32) (p1_lookLength : Int32) (p1_time : Int32) (p1_lookers : Nat → Int32) (p1_facts : Nat → Int32) : Option (Int32 × Int32 × Int32 × (Nat → Int32) × (Nat → Int32)) :=
  ck (¬ (4 : Int32) < 0 ∧ (0 : Int32).toNatClampNeg + (4 : Int32).toNatClampNeg ≤ 4 ∧ (0 : Int32).toNatClampNeg + (4 : Int32).toNatClampNeg ≤ 4) <|
  nm (va_cpy p1_lookers o_lookers (0 : Int32).toNatClampNeg (0 : Int32).toNatClampNeg (4 : Int32).toNatClampNeg) fun (b2 : Nat → Int32) =>
  ck (¬ (140 : Int32) < 0 ∧ (0 : Int32).toNatClampNeg + (140 : Int32).toNatClampNeg ≤ 140 ∧ (0 : Int32).toNatClampNeg + (140 : Int32).toNatClampNeg ≤ 140) <|
  nm (va_cpy p1_facts o_facts (0 : Int32).toNatClampNeg (0 : Int32).toNatClampNeg (140 : Int32).toNatClampNeg) fun (b4 : Nat → Int32) =>
  some (p1_viewers, p1_lookLength, p1_time, b2, b4)
def X1_isFull (o_viewers : Int32) : Option (Int32) :=
  if o_viewers < (20 : Int32) then
    some (0 : Int32)
  else
    some (1 : Int32)
def X1_set (o_facts : Nat → Int32) (p1 : Int32) (p2 : Int32) (p3 : Int32) : Option ((Nat → Int32)) :=
  st 140 ((p1 * (7 : Int32)) + p2) (upd o_facts ((p1 * (7 : Int32)) + p2).toNatClampNeg p3) fun (b2 : Nat → Int32) =>
  some b2
def X1_endLook (o_facts : Nat → Int32) (p1 : Int32) (p2 : Int32) : Option ((Nat → Int32)) :=
  bn1 (X1_set o_facts p1 (3 : Int32) p2) fun (o1 : Nat → Int32) =>
  bn1 (X1_set o1 p1 (4 : Int32) (-1 : Int32)) fun (o3 : Nat → Int32) =>
  bn1 (X1_set o3 p1 (5 : Int32) (0 : Int32)) fun (o5 : Nat → Int32) =>
  some o5
def X1_add (o_viewers : Int32) (o_facts : Nat → Int32) (p1 : Int32) (p2 : Int32) (p3 : Int32) : Option (Int32 × (Nat → Int32)) :=
  bn1 (X1_isFull o_viewers) fun (r1 : Int32) =>
  if r1 = 0 then
    nm (o_viewers + (1 : Int32)) fun (v4 : Int32) =>
    bn1 (X1_set o_facts o_viewers (0 : Int32) p1) fun (o5 : Nat → Int32) =>
    bn1 (X1_set o5 o_viewers (1 : Int32) p2) fun (o7 : Nat → Int32) =>
    bn1 (X1_set o7 o_viewers (2 : Int32) p3) fun (o9 : Nat → Int32) =>
    bn1 (X1_set o9 o_viewers (6 : Int32) (0 : Int32)) fun (o11 : Nat → Int32) =>
    bn1 (X1_endLook o11 o_viewers (0 : Int32)) fun (o13 : Nat → Int32) =>
    some (v4, o13)
  else
    some (o_viewers, o_facts)
def X1_fact (o_facts : Nat → Int32) (p1 : Int32) (p2 : Int32) : Option (Int32) :=
  ld o_facts 140 ((p1 * (7 : Int32)) + p2) fun (v2 : Int32) =>
  some v2
def X1_count_J25 (o_viewers : Int32) (o_facts : Nat → Int32) (p1 : Int32) (kL4 : Int32 → Int32 → Option (Int32)) (l2 : Int32) (l3 : Int32) : Option (Int32) :=
  nm (l3 + (1 : Int32)) fun (v1 : Int32) =>
  kL4 l2 v1
def X1_count_L4 (o_viewers : Int32) (o_facts : Nat → Int32) (p1 : Int32)  : Nat → Int32 → Int32 → Option (Int32)
  | 0, _, _ => none
  | n + 1, l2, l3 =>
    if o_viewers ≤ l3 then
      some l2
    else
      bn1 (X1_fact o_facts l3 (3 : Int32)) fun (r3 : Int32) =>
      if r3 = p1 then
        nm (l2 + (1 : Int32)) fun (v6 : Int32) =>
        X1_count_J25 o_viewers o_facts p1 (fun z0 z1 => X1_count_L4 o_viewers o_facts p1 n z0 z1) v6 l3
      else
        X1_count_J25 o_viewers o_facts p1 (fun z0 z1 => X1_count_L4 o_viewers o_facts p1 n z0 z1) l2 l3
def X1_count (o_viewers : Int32) (o_facts : Nat → Int32) (p1 : Int32) : Option (Int32) :=
  X1_count_L4 o_viewers o_facts p1 FU (0 : Int32) (0 : Int32)
def X1_allPaid_L4 (o_viewers : Int32) (o_facts : Nat → Int32)  : Nat → Int32 → Int32 → Option (Int32)
  | 0, _, _ => none
  | n + 1, l1, l2 =>
    if o_viewers ≤ l2 then
      some l1
    else
      bn1 (X1_fact o_facts l2 (6 : Int32)) fun (r2 : Int32) =>
      nm (l1 + r2) fun (v4 : Int32) =>
      nm (l2 + (1 : Int32)) fun (v5 : Int32) =>
      X1_allPaid_L4 o_viewers o_facts n v4 v5
def X1_allPaid (o_viewers : Int32) (o_facts : Nat → Int32) : Option (Int32) :=
  X1_allPaid_L4 o_viewers o_facts FU (0 : Int32) (0 : Int32)
def X6_limited (p0 : Int64) (p2 : Int32) (p3 : Int32) : Option (Int32) :=
  nm (if p0 < p3.toInt64 then p0 else p3.toInt64) fun (v1 : Int64) =>
  nm (if v1 < p2.toInt64 then p2.toInt64 else v1) fun (v2 : Int64) =>
  some v2.toInt32
def X2_combine (p0 : Int32) (p1 : Int64) (p3 : Int64) : Option (Int32) :=
  if p0 = (42 : Int32) then
    bn1 (X6_limited (p1 * p3) (-1000000 : Int32) (1000000 : Int32)) fun (r2 : Int32) =>
    some r2
  else
  if p0 = (43 : Int32) then
    bn1 (X6_limited (p1 + p3) (-1000000 : Int32) (1000000 : Int32)) fun (r5 : Int32) =>
    some r5
  else
  if p0 = (44 : Int32) then
    bn1 (X6_quotient p1 p3) fun (r8 : Int64) =>
    bn1 (X6_limited r8 (-1000000 : Int32) (1000000 : Int32)) fun (r10 : Int32) =>
    some r10
  else
  if p0 = (45 : Int32) then
    bn1 (X6_limited (p1 - p3) (-1000000 : Int32) (1000000 : Int32)) fun (r13 : Int32) =>
    some r13
  else
  bn1 (X6_quotient p1 p3) fun (r15 : Int64) =>
  bn1 (X6_limited r15 (-1000000 : Int32) (1000000 : Int32)) fun (r17 : Int32) =>
  some r17
def X2_operand (p0 : Int32) (p1 : Int32) (p2 : Int32) (p3 : Int32) (p4 : Int32) : Option (Int32) :=
  if p0 = (-4 : Int32) then
    some p4
  else
  if p0 = (-3 : Int32) then
    some p3
  else
  if p0 = (-2 : Int32) then
    some p2
  else
  if p0 = (-1 : Int32) then
    some p1
  else
  some p0
def X2_value_J103 (o_size : Int32) (o_codes : Nat → Int32) (p1 : Int32) (p2 : Int32) (p3 : Int32) (p4 : Int32) (kL6 : Int32 → Int32 → (Nat → Int32) → Option (Int32 × (Nat → Int32))) (l5 : Int32) (l6 : Int32) (o_waiting : Nat → Int32) : Option (Int32 × (Nat → Int32)) :=
  nm (l6 + (1 : Int32)) fun (v1 : Int32) =>
  kL6 l5 v1 o_waiting
def X2_value_L6 (o_size : Int32) (o_codes : Nat → Int32) (p1 : Int32) (p2 : Int32) (p3 : Int32) (p4 : Int32)  : Nat → Int32 → Int32 → (Nat → Int32) → Option (Int32 × (Nat → Int32))
  | 0, _, _, _ => none
  | n + 1, l5, l6, o_waiting =>
    if o_size ≤ l6 then
      ld o_waiting 16 (0 : Int32) fun (v4 : Int32) =>
      some (v4, o_waiting)
    else
      ld o_codes 800 l6 fun (v6 : Int32) =>
      if (-4 : Int32) ≤ v6 then
        if (16 : Int32) ≤ l5 then
          X2_value_J103 o_size o_codes p1 p2 p3 p4 (fun z0 z1 z2 => X2_value_L6 o_size o_codes p1 p2 p3 p4 n z0 z1 z2) l5 l6 o_waiting
        else
          bn1 (X2_operand v6 p1 p2 p3 p4) fun (r9 : Int32) =>
          st 16 l5 (upd o_waiting l5.toNatClampNeg r9) fun (b12 : Nat → Int32) =>
          nm (l5 + (1 : Int32)) fun (v13 : Int32) =>
          X2_value_J103 o_size o_codes p1 p2 p3 p4 (fun z0 z1 z2 => X2_value_L6 o_size o_codes p1 p2 p3 p4 n z0 z1 z2) v13 l6 b12
      else
        if l5 < (2 : Int32) then
          X2_value_J103 o_size o_codes p1 p2 p3 p4 (fun z0 z1 z2 => X2_value_L6 o_size o_codes p1 p2 p3 p4 n z0 z1 z2) l5 l6 o_waiting
        else
          nm (l5 + (-1 : Int32)) fun (v15 : Int32) =>
          ld o_waiting 16 (v15 - (1 : Int32)) fun (v17 : Int32) =>
          ld o_waiting 16 v15 fun (v19 : Int32) =>
          bn1 (X2_combine (-v6) v17.toInt64 v19.toInt64) fun (r20 : Int32) =>
          st 16 (v15 - (1 : Int32)) (upd o_waiting (v15 - (1 : Int32)).toNatClampNeg r20) fun (b23 : Nat → Int32) =>
          X2_value_J103 o_size o_codes p1 p2 p3 p4 (fun z0 z1 z2 => X2_value_L6 o_size o_codes p1 p2 p3 p4 n z0 z1 z2) v15 l6 b23
def X2_value (o_size : Int32) (o_codes : Nat → Int32) (o_waiting : Nat → Int32) (p1 : Int32) (p2 : Int32) (p3 : Int32) (p4 : Int32) : Option (Int32 × (Nat → Int32)) :=
  X2_value_L6 o_size o_codes p1 p2 p3 p4 FU (0 : Int32) (0 : Int32) o_waiting
def X5_priceFor (o_counts : Nat → Int32) (o_kinds : Nat → Int32) (o_depths : Nat → Int32) (o_prices : Nat → Int32) (p1_price_size : Int32) (p1_price_codes : Nat → Int32) (p1_price_waiting : Nat → Int32) (p2 : Int32) (p3 : Int32) : Option (Int32 × (Nat → Int32) × (Nat → Int32)) :=
  nm ((p3 * (26 : Int32)) + p2) fun (v1 : Int32) =>
  ld o_prices 104 v1 fun (v3 : Int32) =>
  if v3 = (-1 : Int32) then
    ld o_counts 104 v1 fun (v8 : Int32) =>
    ld o_kinds 4 p3 fun (v10 : Int32) =>
    ld o_depths 4 p3 fun (v12 : Int32) =>
    bn2 (X2_value p1_price_size p1_price_codes p1_price_waiting v8 v10 v12 p3) fun (r13 : Int32) (o14 : Nat → Int32) =>
    bn1 (X6_limited r13.toInt64 (0 : Int32) (999 : Int32)) fun (r16 : Int32) =>
    st 104 v1 (upd o_prices v1.toNatClampNeg r16) fun (b19 : Nat → Int32) =>
    ld b19 104 v1 fun (v21 : Int32) =>
    some (v21, b19, o14)
  else
    ld o_prices 104 v1 fun (v6 : Int32) =>
    some (v6, o_prices, p1_price_waiting)
def X1_lookOn (o_lookers : Nat → Int32) (o_facts : Nat → Int32) (p2_price_size : Int32) (p2_price_codes : Nat → Int32) (p2_price_waiting : Nat → Int32) (p3_counts : Nat → Int32) (p3_kinds : Nat → Int32) (p3_depths : Nat → Int32) (p3_prices : Nat → Int32) (p1 : Int32) : Option ((Nat → Int32) × (Nat → Int32) × (Nat → Int32) × (Nat → Int32)) :=
  bn1 (X1_fact o_facts p1 (5 : Int32)) fun (r1 : Int32) =>
  nm (r1 - (1 : Int32)) fun (v3 : Int32) =>
  bn1 (X1_set o_facts p1 (5 : Int32) v3) fun (o4 : Nat → Int32) =>
  if v3 ≤ 0 then
    bn1 (X1_fact o4 p1 (4 : Int32)) fun (r7 : Int32) =>
    bn1 (X1_fact o4 p1 (2 : Int32)) fun (r9 : Int32) =>
    bn1 (X1_fact o4 p1 (1 : Int32)) fun (r11 : Int32) =>
    bn3 (X5_priceFor p3_counts p3_kinds p3_depths p3_prices p2_price_size p2_price_codes p2_price_waiting r11 r7) fun (r13 : Int32) (o14 : Nat → Int32) (o15 : Nat → Int32) =>
    nm (if r13 < r9 then r13 else r9) fun (v17 : Int32) =>
    bn1 (X1_set o4 p1 (2 : Int32) (r9 - v17)) fun (o18 : Nat → Int32) =>
    bn1 (X1_set o18 p1 (6 : Int32) v17) fun (o20 : Nat → Int32) =>
    st 4 r7 (upd o_lookers r7.toNatClampNeg (-1 : Int32)) fun (b23 : Nat → Int32) =>
    bn1 (X1_endLook o20 p1 (2 : Int32)) fun (o24 : Nat → Int32) =>
    some (b23, o24, o15, o14)
  else
    some (o_lookers, o4, p2_price_waiting, p3_prices)
def X1_beginLook (o_lookLength : Int32) (o_lookers : Nat → Int32) (o_facts : Nat → Int32) (p1 : Int32) (p2 : Int32) : Option ((Nat → Int32) × (Nat → Int32)) :=
  st 4 p2 (upd o_lookers p2.toNatClampNeg p1) fun (b2 : Nat → Int32) =>
  bn1 (X1_set o_facts p1 (3 : Int32) (1 : Int32)) fun (o3 : Nat → Int32) =>
  bn1 (X1_set o3 p1 (4 : Int32) p2) fun (o5 : Nat → Int32) =>
  bn1 (X1_set o5 p1 (5 : Int32) o_lookLength) fun (o7 : Nat → Int32) =>
  some (b2, o7)
def X1_choose_J106 (o_lookLength : Int32) (o_lookers : Nat → Int32) (o_facts : Nat → Int32) (p2_height : Int32) (p2_holes : Int32) (p2_reach : Int32) (p2_holeY : Nat → Int32) (p2_price_size : Int32) (p2_price_codes : Nat → Int32) (p3_counts : Nat → Int32) (p3_kinds : Nat → Int32) (p3_depths : Nat → Int32) (p1 : Int32) (kL20 : Int32 → Int32 → Int32 → Int32 → Int32 → (Nat → Int32) → (Nat → Int32) → Option ((Nat → Int32) × (Nat → Int32) × (Nat → Int32) × (Nat → Int32))) (l4 : Int32) (l5 : Int32) (l6 : Int32) (l7 : Int32) (l8 : Int32) (p2_price_waiting : Nat → Int32) (p3_prices : Nat → Int32) : Option ((Nat → Int32) × (Nat → Int32) × (Nat → Int32) × (Nat → Int32)) :=
  nm (l8 + (1 : Int32)) fun (v1 : Int32) =>
  kL20 l4 l5 l6 l7 v1 p2_price_waiting p3_prices
def X1_choose_L20 (o_lookLength : Int32) (o_lookers : Nat → Int32) (o_facts : Nat → Int32) (p2_height : Int32) (p2_holes : Int32) (p2_reach : Int32) (p2_holeY : Nat → Int32) (p2_price_size : Int32) (p2_price_codes : Nat → Int32) (p3_counts : Nat → Int32) (p3_kinds : Nat → Int32) (p3_depths : Nat → Int32) (p1 : Int32)  : Nat → Int32 → Int32 → Int32 → Int32 → Int32 → (Nat → Int32) → (Nat → Int32) → Option ((Nat → Int32) × (Nat → Int32) × (Nat → Int32) × (Nat → Int32))
  | 0, _, _, _, _, _, _, _ => none
  | n + 1, l4, l5, l6, l7, l8, p2_price_waiting, p3_prices =>
    if p2_holes ≤ l8 then
      if l5 = 0 then
        bn1 (X1_endLook o_facts p1 (3 : Int32)) fun (o8 : Nat → Int32) =>
        some (o_lookers, o8, p2_price_waiting, p3_prices)
      else
        if l6 < 0 then
          some (o_lookers, o_facts, p2_price_waiting, p3_prices)
        else
          bn2 (X1_beginLook o_lookLength o_lookers o_facts p1 l6) fun (o5 : Nat → Int32) (o6 : Nat → Int32) =>
          some (o5, o6, p2_price_waiting, p3_prices)
    else
      bn1 (X1_fact o_facts p1 (0 : Int32)) fun (r10 : Int32) =>
      bn1 (X0_canUse p2_height p2_reach p2_holeY r10 l8) fun (r12 : Int32) =>
      if r12 = 0 then
        X1_choose_J106 o_lookLength o_lookers o_facts p2_height p2_holes p2_reach p2_holeY p2_price_size p2_price_codes p3_counts p3_kinds p3_depths p1 (fun z0 z1 z2 z3 z4 z5 z6 => X1_choose_L20 o_lookLength o_lookers o_facts p2_height p2_holes p2_reach p2_holeY p2_price_size p2_price_codes p3_counts p3_kinds p3_depths p1 n z0 z1 z2 z3 z4 z5 z6) l4 l5 l6 l7 l8 p2_price_waiting p3_prices
      else
        bn3 (X5_priceFor p3_counts p3_kinds p3_depths p3_prices p2_price_size p2_price_codes p2_price_waiting l4 l8) fun (r15 : Int32) (o16 : Nat → Int32) (o17 : Nat → Int32) =>
        bn1 (X1_fact o_facts p1 (2 : Int32)) fun (r19 : Int32) =>
        if r19 < r15 then
          X1_choose_J106 o_lookLength o_lookers o_facts p2_height p2_holes p2_reach p2_holeY p2_price_size p2_price_codes p3_counts p3_kinds p3_depths p1 (fun z0 z1 z2 z3 z4 z5 z6 => X1_choose_L20 o_lookLength o_lookers o_facts p2_height p2_holes p2_reach p2_holeY p2_price_size p2_price_codes p3_counts p3_kinds p3_depths p1 n z0 z1 z2 z3 z4 z5 z6) l4 l5 l6 l7 l8 o17 o16
        else
          ld p3_counts 104 ((l8 * (26 : Int32)) + l4) fun (v23 : Int32) =>
          ld o_lookers 4 l8 fun (v25 : Int32) =>
          if v25 = (-1 : Int32) then
            if v23 ≤ l7 then
              X1_choose_J106 o_lookLength o_lookers o_facts p2_height p2_holes p2_reach p2_holeY p2_price_size p2_price_codes p3_counts p3_kinds p3_depths p1 (fun z0 z1 z2 z3 z4 z5 z6 => X1_choose_L20 o_lookLength o_lookers o_facts p2_height p2_holes p2_reach p2_holeY p2_price_size p2_price_codes p3_counts p3_kinds p3_depths p1 n z0 z1 z2 z3 z4 z5 z6) l4 (1 : Int32) l6 l7 l8 o17 o16
            else
              X1_choose_J106 o_lookLength o_lookers o_facts p2_height p2_holes p2_reach p2_holeY p2_price_size p2_price_codes p3_counts p3_kinds p3_depths p1 (fun z0 z1 z2 z3 z4 z5 z6 => X1_choose_L20 o_lookLength o_lookers o_facts p2_height p2_holes p2_reach p2_holeY p2_price_size p2_price_codes p3_counts p3_kinds p3_depths p1 n z0 z1 z2 z3 z4 z5 z6) l4 (1 : Int32) l8 v23 l8 o17 o16
          else
            X1_choose_J106 o_lookLength o_lookers o_facts p2_height p2_holes p2_reach p2_holeY p2_price_size p2_price_codes p3_counts p3_kinds p3_depths p1 (fun z0 z1 z2 z3 z4 z5 z6 => X1_choose_L20 o_lookLength o_lookers o_facts p2_height p2_holes p2_reach p2_holeY p2_price_size p2_price_codes p3_counts p3_kinds p3_depths p1 n z0 z1 z2 z3 z4 z5 z6) l4 (1 : Int32) l6 l7 l8 o17 o16
def X1_choose (o_lookLength : Int32) (o_lookers : Nat → Int32) (o_facts : Nat → Int32) (p2_height : Int32) (p2_holes : Int32) (p2_reach : Int32) (p2_holeY : Nat → Int32) (p2_price_size : Int32) (p2_price_codes : Nat → Int32) (p2_price_waiting : Nat → Int32) (p3_counts : Nat → Int32) (p3_kinds : Nat → Int32) (p3_depths : Nat → Int32) (p3_prices : Nat → Int32) (p1 : Int32) : Option ((Nat → Int32) × (Nat → Int32) × (Nat → Int32) × (Nat → Int32)) :=
  bn1 (X1_fact o_facts p1 (1 : Int32)) fun (r28 : Int32) =>
  X1_choose_L20 o_lookLength o_lookers o_facts p2_height p2_holes p2_reach p2_holeY p2_price_size p2_price_codes p3_counts p3_kinds p3_depths p1 FU r28 (0 : Int32) (-1 : Int32) (-1 : Int32) (0 : Int32) p2_price_waiting p3_prices
def X1_tick_J59 (o_viewers : Int32) (o_lookLength : Int32) (o_time : Int32) (p1_height : Int32) (p1_holes : Int32) (p1_reach : Int32) (p1_holeY : Nat → Int32) (p1_price_size : Int32) (p1_price_codes : Nat → Int32) (p2_counts : Nat → Int32) (p2_kinds : Nat → Int32) (p2_depths : Nat → Int32) (kL35 : Int32 → (Nat → Int32) → (Nat → Int32) → (Nat → Int32) → (Nat → Int32) → Option (Int32 × (Nat → Int32) × (Nat → Int32) × (Nat → Int32) × (Nat → Int32))) (l3 : Int32) (o_lookers : Nat → Int32) (o_facts : Nat → Int32) (p1_price_waiting : Nat → Int32) (p2_prices : Nat → Int32) : Option (Int32 × (Nat → Int32) × (Nat → Int32) × (Nat → Int32) × (Nat → Int32)) :=
  nm (l3 + (1 : Int32)) fun (v1 : Int32) =>
  kL35 v1 o_lookers o_facts p1_price_waiting p2_prices
def X1_tick_L35 (o_viewers : Int32) (o_lookLength : Int32) (o_time : Int32) (p1_height : Int32) (p1_holes : Int32) (p1_reach : Int32) (p1_holeY : Nat → Int32) (p1_price_size : Int32) (p1_price_codes : Nat → Int32) (p2_counts : Nat → Int32) (p2_kinds : Nat → Int32) (p2_depths : Nat → Int32)  : Nat → Int32 → (Nat → Int32) → (Nat → Int32) → (Nat → Int32) → (Nat → Int32) → Option (Int32 × (Nat → Int32) × (Nat → Int32) × (Nat → Int32) × (Nat → Int32))
  | 0, _, _, _, _, _ => none
  | n + 1, l3, o_lookers, o_facts, p1_price_waiting, p2_prices =>
    if o_viewers ≤ l3 then
      nm (o_time + (1 : Int32)) fun (v3 : Int32) =>
      some (v3, o_lookers, o_facts, p1_price_waiting, p2_prices)
    else
      bn1 (X1_fact o_facts l3 (3 : Int32)) fun (r4 : Int32) =>
      if r4 = 0 then
        bn4 (X1_choose o_lookLength o_lookers o_facts p1_height p1_holes p1_reach p1_holeY p1_price_size p1_price_codes p1_price_waiting p2_counts p2_kinds p2_depths p2_prices l3) fun (o7 : Nat → Int32) (o8 : Nat → Int32) (o9 : Nat → Int32) (o10 : Nat → Int32) =>
        X1_tick_J59 o_viewers o_lookLength o_time p1_height p1_holes p1_reach p1_holeY p1_price_size p1_price_codes p2_counts p2_kinds p2_depths (fun z0 z1 z2 z3 z4 => X1_tick_L35 o_viewers o_lookLength o_time p1_height p1_holes p1_reach p1_holeY p1_price_size p1_price_codes p2_counts p2_kinds p2_depths n z0 z1 z2 z3 z4) l3 o7 o8 o9 o10
      else
        X1_tick_J59 o_viewers o_lookLength o_time p1_height p1_holes p1_reach p1_holeY p1_price_size p1_price_codes p2_counts p2_kinds p2_depths (fun z0 z1 z2 z3 z4 => X1_tick_L35 o_viewers o_lookLength o_time p1_height p1_holes p1_reach p1_holeY p1_price_size p1_price_codes p2_counts p2_kinds p2_depths n z0 z1 z2 z3 z4) l3 o_lookers o_facts p1_price_waiting p2_prices
def X1_tick_J27 (o_viewers : Int32) (o_lookLength : Int32) (o_time : Int32) (p1_height : Int32) (p1_holes : Int32) (p1_reach : Int32) (p1_holeY : Nat → Int32) (p1_price_size : Int32) (p1_price_codes : Nat → Int32) (p2_counts : Nat → Int32) (p2_kinds : Nat → Int32) (p2_depths : Nat → Int32) (kL2 : Int32 → (Nat → Int32) → (Nat → Int32) → (Nat → Int32) → (Nat → Int32) → Option (Int32 × (Nat → Int32) × (Nat → Int32) × (Nat → Int32) × (Nat → Int32))) (l3 : Int32) (o_lookers : Nat → Int32) (o_facts : Nat → Int32) (p1_price_waiting : Nat → Int32) (p2_prices : Nat → Int32) : Option (Int32 × (Nat → Int32) × (Nat → Int32) × (Nat → Int32) × (Nat → Int32)) :=
  nm (l3 + (1 : Int32)) fun (v12 : Int32) =>
  kL2 v12 o_lookers o_facts p1_price_waiting p2_prices
def X1_tick_L2 (o_viewers : Int32) (o_lookLength : Int32) (o_time : Int32) (p1_height : Int32) (p1_holes : Int32) (p1_reach : Int32) (p1_holeY : Nat → Int32) (p1_price_size : Int32) (p1_price_codes : Nat → Int32) (p2_counts : Nat → Int32) (p2_kinds : Nat → Int32) (p2_depths : Nat → Int32)  : Nat → Int32 → (Nat → Int32) → (Nat → Int32) → (Nat → Int32) → (Nat → Int32) → Option (Int32 × (Nat → Int32) × (Nat → Int32) × (Nat → Int32) × (Nat → Int32))
  | 0, _, _, _, _, _ => none
  | n + 1, l3, o_lookers, o_facts, p1_price_waiting, p2_prices =>
    if o_viewers ≤ l3 then
      X1_tick_L35 o_viewers o_lookLength o_time p1_height p1_holes p1_reach p1_holeY p1_price_size p1_price_codes p2_counts p2_kinds p2_depths FU (0 : Int32) o_lookers o_facts p1_price_waiting p2_prices
    else
      bn1 (X1_fact o_facts l3 (3 : Int32)) fun (r14 : Int32) =>
      if r14 = (1 : Int32) then
        bn4 (X1_lookOn o_lookers o_facts p1_price_size p1_price_codes p1_price_waiting p2_counts p2_kinds p2_depths p2_prices l3) fun (o17 : Nat → Int32) (o18 : Nat → Int32) (o19 : Nat → Int32) (o20 : Nat → Int32) =>
        X1_tick_J27 o_viewers o_lookLength o_time p1_height p1_holes p1_reach p1_holeY p1_price_size p1_price_codes p2_counts p2_kinds p2_depths (fun z0 z1 z2 z3 z4 => X1_tick_L2 o_viewers o_lookLength o_time p1_height p1_holes p1_reach p1_holeY p1_price_size p1_price_codes p2_counts p2_kinds p2_depths n z0 z1 z2 z3 z4) l3 o17 o18 o19 o20
      else
        X1_tick_J27 o_viewers o_lookLength o_time p1_height p1_holes p1_reach p1_holeY p1_price_size p1_price_codes p2_counts p2_kinds p2_depths (fun z0 z1 z2 z3 z4 => X1_tick_L2 o_viewers o_lookLength o_time p1_height p1_holes p1_reach p1_holeY p1_price_size p1_price_codes p2_counts p2_kinds p2_depths n z0 z1 z2 z3 z4) l3 o_lookers o_facts p1_price_waiting p2_prices
def X1_tick (o_viewers : Int32) (o_lookLength : Int32) (o_time : Int32) (o_lookers : Nat → Int32) (o_facts : Nat → Int32) (p1_height : Int32) (p1_holes : Int32) (p1_reach : Int32) (p1_holeY : Nat → Int32) (p1_price_size : Int32) (p1_price_codes : Nat → Int32) (p1_price_waiting : Nat → Int32) (p2_counts : Nat → Int32) (p2_kinds : Nat → Int32) (p2_depths : Nat → Int32) (p2_prices : Nat → Int32) : Option (Int32 × (Nat → Int32) × (Nat → Int32) × (Nat → Int32) × (Nat → Int32)) :=
  X1_tick_L2 o_viewers o_lookLength o_time p1_height p1_holes p1_reach p1_holeY p1_price_size p1_price_codes p2_counts p2_kinds p2_depths FU (0 : Int32) o_lookers o_facts p1_price_waiting p2_prices
def X3_hasRoomFor (o_filled : Int32) (p1 : Int32) : Option (Int32) :=
  if (800 : Int32) < (o_filled + p1) then
    some (0 : Int32)
  else
    some (1 : Int32)
def X3_put_L3 (p1 : Int32)  : Nat → Int32 → Int32 → (Nat → Int32) → Option (Int32 × (Nat → Int32))
  | 0, _, _, _ => none
  | n + 1, l2, o_filled, o_bytes =>
    if l2 < 0 then
      some (o_filled, o_bytes)
    else
      if (800 : Int32) ≤ o_filled then
        some (o_filled, o_bytes)
      else
        st 800 o_filled (upd o_bytes o_filled.toNatClampNeg (vp_nar .byte (((p1).toUInt32 >>> ((l2).toUInt32 &&& Int32.toUInt32 31)).toInt32).toInt8.toInt32)) fun (b4 : Nat → Int32) =>
        nm (o_filled + (1 : Int32)) fun (v5 : Int32) =>
        nm (l2 + (-8 : Int32)) fun (v6 : Int32) =>
        X3_put_L3 p1 n v6 v5 b4
def X3_put (o_filled : Int32) (o_bytes : Nat → Int32) (p1 : Int32) : Option (Int32 × (Nat → Int32)) :=
  X3_put_L3 p1 FU (24 : Int32) o_filled o_bytes
def X3_begin (o_filled : Int32) (o_error : Int32) (o_errorAt : Int32) (o_end : Int32) (o_at : Int32) (o_planesTold : Int32) (o_reachTold : Int32) (o_lengthTold : Int32) (o_priceTold : Int32) (p1 : Int32) : Option (Int32 × Int32 × Int32 × Int32 × Int32 × Int32 × Int32 × Int32 × Int32) :=
  nm (if o_filled < p1 then o_filled else p1) fun (v1 : Int32) =>
  some ((0 : Int32), (0 : Int32), (-1 : Int32), v1, (0 : Int32), (0 : Int32), (0 : Int32), (0 : Int32), (0 : Int32))
def X3_peek_J38 (o_end : Int32) (o_bytes : Nat → Int32)  (o_at : Int32) : Option (Int32 × Int32) :=
  if o_end ≤ o_at then
    some ((-1 : Int32), o_at)
  else
    ld o_bytes 800 o_at fun (v3 : Int32) =>
    some ((v3 &&& (255 : Int32)), o_at)
def X3_peek_L0 (o_end : Int32) (o_bytes : Nat → Int32)  : Nat → Int32 → Option (Int32 × Int32)
  | 0, _ => none
  | n + 1, o_at =>
    if o_end ≤ o_at then
      X3_peek_J38 o_end o_bytes o_at
    else
      ld o_bytes 800 o_at fun (v6 : Int32) =>
      if v6 = (32 : Int32) then
        nm (o_at + (1 : Int32)) fun (v8 : Int32) =>
        X3_peek_L0 o_end o_bytes n v8
      else
        X3_peek_J38 o_end o_bytes o_at
def X3_peek (o_end : Int32) (o_at : Int32) (o_bytes : Nat → Int32) : Option (Int32 × Int32) :=
  X3_peek_L0 o_end o_bytes FU o_at
def X3_isLetter (p0 : Int32) : Option (Int32) :=
  if p0 < (97 : Int32) then
    some (0 : Int32)
  else
    if (122 : Int32) < p0 then
      some (0 : Int32)
    else
      some (1 : Int32)
def X3_takesWord_L22 (tx : List Int32) (o_end : Int32) (o_at : Int32) (o_bytes : Nat → Int32)  : Nat → Int32 → Int32 → Option (Int32 × Int32)
  | 0, _, _ => none
  | n + 1, l2, l3 =>
    bn1 (J0_length_8abf5 tx) fun (r1 : Int32) =>
    if r1 ≤ l3 then
      if o_end ≤ l2 then
        some ((1 : Int32), l2)
      else
        ld o_bytes 800 l2 fun (v6 : Int32) =>
        bn1 (X3_isLetter v6) fun (r7 : Int32) =>
        if r7 = 0 then
          some ((1 : Int32), l2)
        else
          some ((0 : Int32), o_at)
    else
      ld o_bytes 800 (o_at + l3) fun (v11 : Int32) =>
      bn1 (J0_charAt_5068e tx l3) fun (r12 : Int32) =>
      if v11 = r12 then
        nm (l3 + (1 : Int32)) fun (v15 : Int32) =>
        X3_takesWord_L22 tx o_end o_at o_bytes n l2 v15
      else
        some ((0 : Int32), o_at)
def X3_takesWord (tx : List Int32) (o_end : Int32) (o_at : Int32) (o_bytes : Nat → Int32) : Option (Int32 × Int32) :=
  bn1 (J0_length_8abf5 tx) fun (r16 : Int32) =>
  nm (o_at + r16) fun (v18 : Int32) =>
  if v18 ≤ o_end then
    X3_takesWord_L22 tx o_end o_at o_bytes FU v18 (0 : Int32)
  else
    some ((0 : Int32), o_at)
def X3_fail (o_error : Int32) (o_errorAt : Int32) (p1 : Int32) (p2 : Int32) : Option (Int32 × Int32 × Int32) :=
  some ((0 : Int32), p1, p2)
def X3_isDigit (p0 : Int32) : Option (Int32) :=
  if p0 < (48 : Int32) then
    some (0 : Int32)
  else
    if (57 : Int32) < p0 then
      some (0 : Int32)
    else
      some (1 : Int32)
def X3_readNumber_J125 (o_end : Int32) (o_bytes : Nat → Int32) (p1 : Int32) (p2 : Int32)  (o_error : Int32) (o_errorAt : Int32) (o_at : Int32) (o_number : Int32) : Option (Int32 × Int32 × Int32 × Int32 × Int32) :=
  some ((1 : Int32), o_error, o_errorAt, o_at, o_number)
def X3_readNumber_J115 (o_error : Int32) (o_errorAt : Int32) (o_end : Int32) (o_bytes : Nat → Int32) (p1 : Int32) (p2 : Int32)  (l3 : Int32) (o_at : Int32) (o_number : Int32) : Option (Int32 × Int32 × Int32 × Int32 × Int32) :=
  bn3 (X3_fail o_error o_errorAt (-3 : Int32) l3) fun (r1 : Int32) (o2 : Int32) (o3 : Int32) =>
  if r1 = 0 then
    some ((0 : Int32), o2, o3, o_at, o_number)
  else
    X3_readNumber_J125 o_end o_bytes p1 p2 o2 o3 o_at o_number
def X3_readNumber_J99 (o_error : Int32) (o_errorAt : Int32) (o_end : Int32) (o_bytes : Nat → Int32) (p1 : Int32) (p2 : Int32)  (l3 : Int32) (o_at : Int32) (o_number : Int32) : Option (Int32 × Int32 × Int32 × Int32 × Int32) :=
  if o_number < p1 then
    X3_readNumber_J115 o_error o_errorAt o_end o_bytes p1 p2 l3 o_at o_number
  else
    if o_number ≤ p2 then
      X3_readNumber_J125 o_end o_bytes p1 p2 o_error o_errorAt o_at o_number
    else
      X3_readNumber_J115 o_error o_errorAt o_end o_bytes p1 p2 l3 o_at o_number
def X3_readNumber_L31 (o_error : Int32) (o_errorAt : Int32) (o_end : Int32) (o_bytes : Nat → Int32) (p1 : Int32) (p2 : Int32)  : Nat → Int32 → Int32 → Int32 → Option (Int32 × Int32 × Int32 × Int32 × Int32)
  | 0, _, _, _ => none
  | n + 1, l3, o_at, o_number =>
    if o_end ≤ o_at then
      X3_readNumber_J99 o_error o_errorAt o_end o_bytes p1 p2 l3 o_at o_number
    else
      ld o_bytes 800 o_at fun (v10 : Int32) =>
      bn1 (X3_isDigit v10) fun (r11 : Int32) =>
      if r11 = 0 then
        X3_readNumber_J99 o_error o_errorAt o_end o_bytes p1 p2 l3 o_at o_number
      else
        ld o_bytes 800 o_at fun (v15 : Int32) =>
        nm (if (99999 : Int32) < ((((10 : Int32) * o_number) + v15) - (48 : Int32)) then (99999 : Int32) else ((((10 : Int32) * o_number) + v15) - (48 : Int32))) fun (v16 : Int32) =>
        nm (o_at + (1 : Int32)) fun (v17 : Int32) =>
        X3_readNumber_L31 o_error o_errorAt o_end o_bytes p1 p2 n l3 v17 v16
def X3_readNumber (o_error : Int32) (o_errorAt : Int32) (o_end : Int32) (o_at : Int32) (o_number : Int32) (o_bytes : Nat → Int32) (p1 : Int32) (p2 : Int32) : Option (Int32 × Int32 × Int32 × Int32 × Int32) :=
  bn2 (X3_peek o_end o_at o_bytes) fun (r18 : Int32) (o19 : Int32) =>
  bn1 (X3_isDigit r18) fun (r21 : Int32) =>
  if r21 = 0 then
    bn3 (X3_fail o_error o_errorAt (-2 : Int32) o19) fun (r24 : Int32) (o25 : Int32) (o26 : Int32) =>
    ck (r24 = 0 ∨ r24 = 1) <|
    some (r24, o25, o26, o19, o_number)
  else
    X3_readNumber_L31 o_error o_errorAt o_end o_bytes p1 p2 FU o19 o19 (0 : Int32)
def X4_begin (o_box_width : Int32) (o_box_height : Int32) (o_box_planes : Int32) (o_box_holes : Int32) (o_box_reach : Int32) (o_box_cells : Nat → Int32) (o_box_pulls : Nat → Int32) (o_box_price_size : Int32) (o_box_price_codes : Nat → Int32) (o_crowd_viewers : Int32) (o_crowd_lookLength : Int32) (o_crowd_time : Int32) (o_crowd_lookers : Nat → Int32) (p1 : Int32) (p2 : Int32) (p3 : Int32) : Option (Int32 × Int32 × Int32 × Int32 × Int32 × (Nat → Int32) × (Nat → Int32) × Int32 × (Nat → Int32) × Int32 × Int32 × Int32 × (Nat → Int32)) :=
  bn9 (X0_begin o_box_width o_box_height o_box_planes o_box_holes o_box_reach o_box_cells o_box_pulls o_box_price_size o_box_price_codes p1 p2 p3) fun (o1 : Int32) (o2 : Int32) (o3 : Int32) (o4 : Int32) (o5 : Int32) (o6 : Nat → Int32) (o7 : Nat → Int32) (o8 : Int32) (o9 : Nat → Int32) =>
  bn4 (X1_begin o_crowd_viewers o_crowd_lookLength o_crowd_time o_crowd_lookers) fun (o11 : Int32) (o12 : Int32) (o13 : Int32) (o14 : Nat → Int32) =>
  some (o1, o2, o3, o4, o5, o6, o7, o8, o9, o11, o12, o13, o14)
def X3_readSign (o_error : Int32) (o_errorAt : Int32) (o_end : Int32) (o_at : Int32) (o_bytes : Nat → Int32) (p1 : Int32) : Option (Int32 × Int32 × Int32 × Int32) :=
  bn2 (X3_peek o_end o_at o_bytes) fun (r1 : Int32) (o2 : Int32) =>
  if r1 = p1 then
    nm (o2 + (1 : Int32)) fun (v5 : Int32) =>
    some ((1 : Int32), o_error, o_errorAt, v5)
  else
    bn3 (X3_fail o_error o_errorAt (-2 : Int32) o2) fun (r6 : Int32) (o7 : Int32) (o8 : Int32) =>
    ck (r6 = 0 ∨ r6 = 1) <|
    some (r6, o7, o8, o2)
def X3_readBox (o_error : Int32) (o_errorAt : Int32) (o_end : Int32) (o_at : Int32) (o_number : Int32) (o_show_box_width : Int32) (o_show_box_height : Int32) (o_show_box_planes : Int32) (o_show_box_holes : Int32) (o_show_box_reach : Int32) (o_show_box_cells : Nat → Int32) (o_show_box_pulls : Nat → Int32) (o_show_box_price_size : Int32) (o_show_box_price_codes : Nat → Int32) (o_show_crowd_viewers : Int32) (o_show_crowd_lookLength : Int32) (o_show_crowd_time : Int32) (o_show_crowd_lookers : Nat → Int32) (o_bytes : Nat → Int32) : Option (Int32 × Int32 × Int32 × Int32 × Int32 × Int32 × Int32 × Int32 × Int32 × Int32 × (Nat → Int32) × (Nat → Int32) × Int32 × (Nat → Int32) × Int32 × Int32 × Int32 × (Nat → Int32)) :=
  bn2 (X3_peek o_end o_at o_bytes) fun (r1 : Int32) (o2 : Int32) =>
  bn2 (X3_takesWord [98, 111, 120] o_end o2 o_bytes) fun (r5 : Int32) (o6 : Int32) =>
  if r5 = 0 then
    bn3 (X3_fail o_error o_errorAt (-2 : Int32) o6) fun (r50 : Int32) (o51 : Int32) (o52 : Int32) =>
    ck (r50 = 0 ∨ r50 = 1) <|
    some (r50, o51, o52, o6, o_number, o_show_box_width, o_show_box_height, o_show_box_planes, o_show_box_holes, o_show_box_reach, o_show_box_cells, o_show_box_pulls, o_show_box_price_size, o_show_box_price_codes, o_show_crowd_viewers, o_show_crowd_lookLength, o_show_crowd_time, o_show_crowd_lookers)
  else
    bn5 (X3_readNumber o_error o_errorAt o_end o6 o_number o_bytes (1 : Int32) (12 : Int32)) fun (r9 : Int32) (o10 : Int32) (o11 : Int32) (o12 : Int32) (o13 : Int32) =>
    if r9 = 0 then
      some ((0 : Int32), o10, o11, o12, o13, o_show_box_width, o_show_box_height, o_show_box_planes, o_show_box_holes, o_show_box_reach, o_show_box_cells, o_show_box_pulls, o_show_box_price_size, o_show_box_price_codes, o_show_crowd_viewers, o_show_crowd_lookLength, o_show_crowd_time, o_show_crowd_lookers)
    else
      bn5 (X3_readNumber o10 o11 o_end o12 o13 o_bytes (1 : Int32) (8 : Int32)) fun (r16 : Int32) (o17 : Int32) (o18 : Int32) (o19 : Int32) (o20 : Int32) =>
      if r16 = 0 then
        some ((0 : Int32), o17, o18, o19, o20, o_show_box_width, o_show_box_height, o_show_box_planes, o_show_box_holes, o_show_box_reach, o_show_box_cells, o_show_box_pulls, o_show_box_price_size, o_show_box_price_codes, o_show_crowd_viewers, o_show_crowd_lookLength, o_show_crowd_time, o_show_crowd_lookers)
      else
        bn5 (X3_readNumber o17 o18 o_end o19 o20 o_bytes (1 : Int32) (5 : Int32)) fun (r23 : Int32) (o24 : Int32) (o25 : Int32) (o26 : Int32) (o27 : Int32) =>
        if r23 = 0 then
          some ((0 : Int32), o24, o25, o26, o27, o_show_box_width, o_show_box_height, o_show_box_planes, o_show_box_holes, o_show_box_reach, o_show_box_cells, o_show_box_pulls, o_show_box_price_size, o_show_box_price_codes, o_show_crowd_viewers, o_show_crowd_lookLength, o_show_crowd_time, o_show_crowd_lookers)
        else
          bn13 (X4_begin o_show_box_width o_show_box_height o_show_box_planes o_show_box_holes o_show_box_reach o_show_box_cells o_show_box_pulls o_show_box_price_size o_show_box_price_codes o_show_crowd_viewers o_show_crowd_lookLength o_show_crowd_time o_show_crowd_lookers o13 o20 o27) fun (o30 : Int32) (o31 : Int32) (o32 : Int32) (o33 : Int32) (o34 : Int32) (o35 : Nat → Int32) (o36 : Nat → Int32) (o37 : Int32) (o38 : Nat → Int32) (o39 : Int32) (o40 : Int32) (o41 : Int32) (o42 : Nat → Int32) =>
          bn4 (X3_readSign o24 o25 o_end o26 o_bytes (59 : Int32)) fun (r44 : Int32) (o45 : Int32) (o46 : Int32) (o47 : Int32) =>
          ck (r44 = 0 ∨ r44 = 1) <|
          some (r44, o45, o46, o47, o27, o30, o31, o32, o33, o34, o35, o36, o37, o38, o39, o40, o41, o42)
def X3_isOfLine_J13 (p0 : Int32)   : Option (Int32) :=
  some (1 : Int32)
def X3_isOfLine (p0 : Int32) : Option (Int32) :=
  if p0 = (46 : Int32) then
    X3_isOfLine_J13 p0
  else
    bn1 (X3_isLetter p0) fun (r2 : Int32) =>
    if r2 = 0 then
      some (0 : Int32)
    else
      X3_isOfLine_J13 p0
def X3_readLine_J193 (o_error : Int32) (o_errorAt : Int32) (o_end : Int32) (o_show_box_width : Int32) (o_show_box_planes : Int32) (o_bytes : Nat → Int32) (p1 : Int32) (p2 : Int32) (kL95 : Int32 → Int32 → Int32 → (Nat → Int32) → Option (Int32 × Int32 × Int32 × Int32 × (Nat → Int32))) (l3 : Int32) (l4 : Int32) (k1 : Int32) (k2 : Int32) (k3 : Int32) (k4 : Int32) (o_at : Int32) (o_show_box_cells : Nat → Int32) : Option (Int32 × Int32 × Int32 × Int32 × (Nat → Int32)) :=
  bn1 (X0_setKind o_show_box_cells k1 k2 k3 k4) fun (o1 : Nat → Int32) =>
  nm (l4 + (1 : Int32)) fun (v3 : Int32) =>
  kL95 l3 v3 o_at o1
def X3_readLine_J161 (o_error : Int32) (o_errorAt : Int32) (o_end : Int32) (o_show_box_width : Int32) (o_show_box_planes : Int32) (o_bytes : Nat → Int32) (p1 : Int32) (p2 : Int32) (kL95 : Int32 → Int32 → Int32 → (Nat → Int32) → Option (Int32 × Int32 × Int32 × Int32 × (Nat → Int32))) (l3 : Int32) (l4 : Int32) (l5 : Int32) (o_at : Int32) (o_show_box_cells : Nat → Int32) : Option (Int32 × Int32 × Int32 × Int32 × (Nat → Int32)) :=
  if l5 = 0 then
    ld o_bytes 800 (l3 + l4) fun (v6 : Int32) =>
    X3_readLine_J193 o_error o_errorAt o_end o_show_box_width o_show_box_planes o_bytes p1 p2 kL95 l3 l4 p1 l4 p2 (v6 - (97 : Int32)) o_at o_show_box_cells
  else
    X3_readLine_J193 o_error o_errorAt o_end o_show_box_width o_show_box_planes o_bytes p1 p2 kL95 l3 l4 p1 l4 p2 (-1 : Int32) o_at o_show_box_cells
def X3_readLine_J129 (o_error : Int32) (o_errorAt : Int32) (o_end : Int32) (o_show_box_width : Int32) (o_show_box_planes : Int32) (o_bytes : Nat → Int32) (p1 : Int32) (p2 : Int32) (kL95 : Int32 → Int32 → Int32 → (Nat → Int32) → Option (Int32 × Int32 × Int32 × Int32 × (Nat → Int32))) (l3 : Int32) (l4 : Int32) (k0 : Int32) (o_at : Int32) (o_show_box_cells : Nat → Int32) : Option (Int32 × Int32 × Int32 × Int32 × (Nat → Int32)) :=
  if k0 = 0 then
    X3_readLine_J161 o_error o_errorAt o_end o_show_box_width o_show_box_planes o_bytes p1 p2 kL95 l3 l4 k0 o_at o_show_box_cells
  else
    bn1 (X0_isBack o_show_box_planes p1) fun (r8 : Int32) =>
    if r8 = 0 then
      X3_readLine_J161 o_error o_errorAt o_end o_show_box_width o_show_box_planes o_bytes p1 p2 kL95 l3 l4 k0 o_at o_show_box_cells
    else
      bn3 (X3_fail o_error o_errorAt (-4 : Int32) (l3 + l4)) fun (r11 : Int32) (o12 : Int32) (o13 : Int32) =>
      ck (r11 = 0 ∨ r11 = 1) <|
      some (r11, o12, o13, o_at, o_show_box_cells)
def X3_readLine_L95 (o_error : Int32) (o_errorAt : Int32) (o_end : Int32) (o_show_box_width : Int32) (o_show_box_planes : Int32) (o_bytes : Nat → Int32) (p1 : Int32) (p2 : Int32)  : Nat → Int32 → Int32 → Int32 → (Nat → Int32) → Option (Int32 × Int32 × Int32 × Int32 × (Nat → Int32))
  | 0, _, _, _, _ => none
  | n + 1, l3, l4, o_at, o_show_box_cells =>
    if o_show_box_width ≤ l4 then
      some ((1 : Int32), o_error, o_errorAt, o_at, o_show_box_cells)
    else
      ld o_bytes 800 (l3 + l4) fun (v18 : Int32) =>
      if v18 = (46 : Int32) then
        X3_readLine_J129 o_error o_errorAt o_end o_show_box_width o_show_box_planes o_bytes p1 p2 (fun z0 z1 z2 z3 => X3_readLine_L95 o_error o_errorAt o_end o_show_box_width o_show_box_planes o_bytes p1 p2 n z0 z1 z2 z3) l3 l4 (1 : Int32) o_at o_show_box_cells
      else
        X3_readLine_J129 o_error o_errorAt o_end o_show_box_width o_show_box_planes o_bytes p1 p2 (fun z0 z1 z2 z3 => X3_readLine_L95 o_error o_errorAt o_end o_show_box_width o_show_box_planes o_bytes p1 p2 n z0 z1 z2 z3) l3 l4 (0 : Int32) o_at o_show_box_cells
def X3_readLine_J49 (o_error : Int32) (o_errorAt : Int32) (o_end : Int32) (o_show_box_width : Int32) (o_show_box_planes : Int32) (o_show_box_cells : Nat → Int32) (o_bytes : Nat → Int32) (p1 : Int32) (p2 : Int32)  (l3 : Int32) (o_at : Int32) : Option (Int32 × Int32 × Int32 × Int32 × (Nat → Int32)) :=
  if o_at = l3 then
    bn3 (X3_fail o_error o_errorAt (-2 : Int32) l3) fun (r27 : Int32) (o28 : Int32) (o29 : Int32) =>
    ck (r27 = 0 ∨ r27 = 1) <|
    some (r27, o28, o29, o_at, o_show_box_cells)
  else
    if (o_at - l3) = o_show_box_width then
      X3_readLine_L95 o_error o_errorAt o_end o_show_box_width o_show_box_planes o_bytes p1 p2 FU l3 (0 : Int32) o_at o_show_box_cells
    else
      bn3 (X3_fail o_error o_errorAt (-4 : Int32) l3) fun (r22 : Int32) (o23 : Int32) (o24 : Int32) =>
      ck (r22 = 0 ∨ r22 = 1) <|
      some (r22, o23, o24, o_at, o_show_box_cells)
def X3_readLine_L10 (o_error : Int32) (o_errorAt : Int32) (o_end : Int32) (o_show_box_width : Int32) (o_show_box_planes : Int32) (o_show_box_cells : Nat → Int32) (o_bytes : Nat → Int32) (p1 : Int32) (p2 : Int32)  : Nat → Int32 → Int32 → Option (Int32 × Int32 × Int32 × Int32 × (Nat → Int32))
  | 0, _, _ => none
  | n + 1, l3, o_at =>
    if o_end ≤ o_at then
      X3_readLine_J49 o_error o_errorAt o_end o_show_box_width o_show_box_planes o_show_box_cells o_bytes p1 p2 l3 o_at
    else
      ld o_bytes 800 o_at fun (v34 : Int32) =>
      bn1 (X3_isOfLine v34) fun (r35 : Int32) =>
      if r35 = 0 then
        X3_readLine_J49 o_error o_errorAt o_end o_show_box_width o_show_box_planes o_show_box_cells o_bytes p1 p2 l3 o_at
      else
        nm (o_at + (1 : Int32)) fun (v38 : Int32) =>
        X3_readLine_L10 o_error o_errorAt o_end o_show_box_width o_show_box_planes o_show_box_cells o_bytes p1 p2 n l3 v38
def X3_readLine (o_error : Int32) (o_errorAt : Int32) (o_end : Int32) (o_at : Int32) (o_show_box_width : Int32) (o_show_box_planes : Int32) (o_show_box_cells : Nat → Int32) (o_bytes : Nat → Int32) (p1 : Int32) (p2 : Int32) : Option (Int32 × Int32 × Int32 × Int32 × (Nat → Int32)) :=
  bn2 (X3_peek o_end o_at o_bytes) fun (r39 : Int32) (o40 : Int32) =>
  X3_readLine_L10 o_error o_errorAt o_end o_show_box_width o_show_box_planes o_show_box_cells o_bytes p1 p2 FU o40 o40
def X3_readPlane_L27 (o_end : Int32) (o_planesTold : Int32) (o_show_box_width : Int32) (o_show_box_height : Int32) (o_show_box_planes : Int32) (o_bytes : Nat → Int32) (p1 : Int32)  : Nat → Int32 → Int32 → Int32 → Int32 → (Nat → Int32) → Option (Int32 × Int32 × Int32 × Int32 × Int32 × (Nat → Int32))
  | 0, _, _, _, _, _ => none
  | n + 1, l2, o_error, o_errorAt, o_at, o_show_box_cells =>
    if o_show_box_height ≤ l2 then
      nm (o_planesTold + (1 : Int32)) fun (v2 : Int32) =>
      some ((1 : Int32), o_error, o_errorAt, o_at, v2, o_show_box_cells)
    else
      bn5 (X3_readLine o_error o_errorAt o_end o_at o_show_box_width o_show_box_planes o_show_box_cells o_bytes o_planesTold l2) fun (r3 : Int32) (o4 : Int32) (o5 : Int32) (o6 : Int32) (o7 : Nat → Int32) =>
      if r3 = 0 then
        some ((0 : Int32), o4, o5, o6, o_planesTold, o7)
      else
        nm (l2 + (1 : Int32)) fun (v10 : Int32) =>
        X3_readPlane_L27 o_end o_planesTold o_show_box_width o_show_box_height o_show_box_planes o_bytes p1 n v10 o4 o5 o6 o7
def X3_readPlane (o_error : Int32) (o_errorAt : Int32) (o_end : Int32) (o_at : Int32) (o_planesTold : Int32) (o_show_box_width : Int32) (o_show_box_height : Int32) (o_show_box_planes : Int32) (o_show_box_cells : Nat → Int32) (o_bytes : Nat → Int32) (p1 : Int32) : Option (Int32 × Int32 × Int32 × Int32 × Int32 × (Nat → Int32)) :=
  if o_planesTold < o_show_box_planes then
    X3_readPlane_L27 o_end o_planesTold o_show_box_width o_show_box_height o_show_box_planes o_bytes p1 FU (0 : Int32) o_error o_errorAt o_at o_show_box_cells
  else
    bn3 (X3_fail o_error o_errorAt (-5 : Int32) p1) fun (r12 : Int32) (o13 : Int32) (o14 : Int32) =>
    ck (r12 = 0 ∨ r12 = 1) <|
    some (r12, o13, o14, o_at, o_planesTold, o_show_box_cells)
def X3_readHole (o_error : Int32) (o_errorAt : Int32) (o_end : Int32) (o_at : Int32) (o_number : Int32) (o_show_box_width : Int32) (o_show_box_height : Int32) (o_show_box_holes : Int32) (o_show_box_holeX : Nat → Int32) (o_show_box_holeY : Nat → Int32) (o_bytes : Nat → Int32) (p1 : Int32) : Option (Int32 × Int32 × Int32 × Int32 × Int32 × Int32 × (Nat → Int32) × (Nat → Int32)) :=
  if o_show_box_holes < (4 : Int32) then
    bn5 (X3_readNumber o_error o_errorAt o_end o_at o_number o_bytes (0 : Int32) (o_show_box_width - (1 : Int32))) fun (r2 : Int32) (o3 : Int32) (o4 : Int32) (o5 : Int32) (o6 : Int32) =>
    if r2 = 0 then
      some ((0 : Int32), o3, o4, o5, o6, o_show_box_holes, o_show_box_holeX, o_show_box_holeY)
    else
      bn5 (X3_readNumber o3 o4 o_end o5 o6 o_bytes (0 : Int32) (o_show_box_height - (1 : Int32))) fun (r9 : Int32) (o10 : Int32) (o11 : Int32) (o12 : Int32) (o13 : Int32) =>
      if r9 = 0 then
        some ((0 : Int32), o10, o11, o12, o13, o_show_box_holes, o_show_box_holeX, o_show_box_holeY)
      else
        bn3 (X0_addHole o_show_box_holes o_show_box_holeX o_show_box_holeY o6 o13) fun (o16 : Int32) (o17 : Nat → Int32) (o18 : Nat → Int32) =>
        some ((1 : Int32), o10, o11, o12, o13, o16, o17, o18)
  else
    bn3 (X3_fail o_error o_errorAt (-5 : Int32) p1) fun (r20 : Int32) (o21 : Int32) (o22 : Int32) =>
    ck (r20 = 0 ∨ r20 = 1) <|
    some (r20, o21, o22, o_at, o_number, o_show_box_holes, o_show_box_holeX, o_show_box_holeY)
def X3_readReach (o_error : Int32) (o_errorAt : Int32) (o_end : Int32) (o_at : Int32) (o_number : Int32) (o_reachTold : Int32) (o_show_box_reach : Int32) (o_bytes : Nat → Int32) (p1 : Int32) : Option (Int32 × Int32 × Int32 × Int32 × Int32 × Int32 × Int32) :=
  if o_reachTold = 0 then
    bn5 (X3_readNumber o_error o_errorAt o_end o_at o_number o_bytes (0 : Int32) (9 : Int32)) fun (r2 : Int32) (o3 : Int32) (o4 : Int32) (o5 : Int32) (o6 : Int32) =>
    if r2 = 0 then
      some ((0 : Int32), o3, o4, o5, o6, o_reachTold, o_show_box_reach)
    else
      some ((1 : Int32), o3, o4, o5, o6, (1 : Int32), o6)
  else
    bn3 (X3_fail o_error o_errorAt (-2 : Int32) p1) fun (r9 : Int32) (o10 : Int32) (o11 : Int32) =>
    ck (r9 = 0 ∨ r9 = 1) <|
    some (r9, o10, o11, o_at, o_number, o_reachTold, o_show_box_reach)
def X3_readLength (o_error : Int32) (o_errorAt : Int32) (o_end : Int32) (o_at : Int32) (o_number : Int32) (o_lengthTold : Int32) (o_show_crowd_lookLength : Int32) (o_bytes : Nat → Int32) (p1 : Int32) : Option (Int32 × Int32 × Int32 × Int32 × Int32 × Int32 × Int32) :=
  if o_lengthTold = 0 then
    bn5 (X3_readNumber o_error o_errorAt o_end o_at o_number o_bytes (1 : Int32) (20 : Int32)) fun (r2 : Int32) (o3 : Int32) (o4 : Int32) (o5 : Int32) (o6 : Int32) =>
    if r2 = 0 then
      some ((0 : Int32), o3, o4, o5, o6, o_lengthTold, o_show_crowd_lookLength)
    else
      some ((1 : Int32), o3, o4, o5, o6, (1 : Int32), o6)
  else
    bn3 (X3_fail o_error o_errorAt (-2 : Int32) p1) fun (r9 : Int32) (o10 : Int32) (o11 : Int32) =>
    ck (r9 = 0 ∨ r9 = 1) <|
    some (r9, o10, o11, o_at, o_number, o_lengthTold, o_show_crowd_lookLength)
def X3_readKind_J82 (o_end : Int32) (o_bytes : Nat → Int32)  (o_error : Int32) (o_errorAt : Int32) (o_at : Int32) (o_number : Int32) : Option (Int32 × Int32 × Int32 × Int32 × Int32) :=
  some ((1 : Int32), o_error, o_errorAt, o_at, o_number)
def X3_readKind (o_error : Int32) (o_errorAt : Int32) (o_end : Int32) (o_at : Int32) (o_number : Int32) (o_bytes : Nat → Int32) : Option (Int32 × Int32 × Int32 × Int32 × Int32) :=
  bn2 (X3_peek o_end o_at o_bytes) fun (r1 : Int32) (o2 : Int32) =>
  bn1 (X3_isLetter r1) fun (r4 : Int32) =>
  if r4 = 0 then
    bn3 (X3_fail o_error o_errorAt (-2 : Int32) o2) fun (r20 : Int32) (o21 : Int32) (o22 : Int32) =>
    ck (r20 = 0 ∨ r20 = 1) <|
    some (r20, o21, o22, o2, o_number)
  else
    nm (o2 + (1 : Int32)) fun (v7 : Int32) =>
    nm (r1 - (97 : Int32)) fun (v8 : Int32) =>
    if o_end ≤ v7 then
      X3_readKind_J82 o_end o_bytes o_error o_errorAt v7 v8
    else
      ld o_bytes 800 v7 fun (v11 : Int32) =>
      bn1 (X3_isLetter v11) fun (r12 : Int32) =>
      if r12 = 0 then
        X3_readKind_J82 o_end o_bytes o_error o_errorAt v7 v8
      else
        bn3 (X3_fail o_error o_errorAt (-3 : Int32) o2) fun (r15 : Int32) (o16 : Int32) (o17 : Int32) =>
        if r15 = 0 then
          some ((0 : Int32), o16, o17, v7, v8)
        else
          X3_readKind_J82 o_end o_bytes o16 o17 v7 v8
def X3_readViewer (o_error : Int32) (o_errorAt : Int32) (o_end : Int32) (o_at : Int32) (o_number : Int32) (o_show_crowd_viewers : Int32) (o_show_crowd_facts : Nat → Int32) (o_bytes : Nat → Int32) (p1 : Int32) : Option (Int32 × Int32 × Int32 × Int32 × Int32 × Int32 × (Nat → Int32)) :=
  bn1 (X1_isFull o_show_crowd_viewers) fun (r1 : Int32) =>
  if r1 = 0 then
    bn5 (X3_readNumber o_error o_errorAt o_end o_at o_number o_bytes (0 : Int32) (9 : Int32)) fun (r4 : Int32) (o5 : Int32) (o6 : Int32) (o7 : Int32) (o8 : Int32) =>
    if r4 = 0 then
      some ((0 : Int32), o5, o6, o7, o8, o_show_crowd_viewers, o_show_crowd_facts)
    else
      bn5 (X3_readKind o5 o6 o_end o7 o8 o_bytes) fun (r11 : Int32) (o12 : Int32) (o13 : Int32) (o14 : Int32) (o15 : Int32) =>
      if r11 = 0 then
        some ((0 : Int32), o12, o13, o14, o15, o_show_crowd_viewers, o_show_crowd_facts)
      else
        bn5 (X3_readNumber o12 o13 o_end o14 o15 o_bytes (0 : Int32) (999 : Int32)) fun (r18 : Int32) (o19 : Int32) (o20 : Int32) (o21 : Int32) (o22 : Int32) =>
        if r18 = 0 then
          some ((0 : Int32), o19, o20, o21, o22, o_show_crowd_viewers, o_show_crowd_facts)
        else
          bn2 (X1_add o_show_crowd_viewers o_show_crowd_facts o8 o15 o22) fun (o25 : Int32) (o26 : Nat → Int32) =>
          some ((1 : Int32), o19, o20, o21, o22, o25, o26)
  else
    bn3 (X3_fail o_error o_errorAt (-5 : Int32) p1) fun (r28 : Int32) (o29 : Int32) (o30 : Int32) =>
    ck (r28 = 0 ∨ r28 = 1) <|
    some (r28, o29, o30, o_at, o_number, o_show_crowd_viewers, o_show_crowd_facts)
def X3_takesEither_J17 (o_end : Int32) (o_bytes : Nat → Int32) (p1 : Int32) (p2 : Int32)  (l3 : Int32) (o_at : Int32) : Option (Int32 × Int32) :=
  nm (o_at + (1 : Int32)) fun (v1 : Int32) =>
  some (l3, v1)
def X3_takesEither (o_end : Int32) (o_at : Int32) (o_bytes : Nat → Int32) (p1 : Int32) (p2 : Int32) : Option (Int32 × Int32) :=
  bn2 (X3_peek o_end o_at o_bytes) fun (r2 : Int32) (o3 : Int32) =>
  if r2 = p1 then
    X3_takesEither_J17 o_end o_bytes p1 p2 r2 o3
  else
    if r2 = p2 then
      X3_takesEither_J17 o_end o_bytes p1 p2 r2 o3
    else
      some ((0 : Int32), o3)
def X3_readFactor_J144 (rs : Int32 → Int32 → Int32 → Int32 → Int32 → Int32 → (Nat → Int32) → (Nat → Int32) → Int32 → Option (Int32 × Int32 × Int32 × Int32 × Int32 × Int32 × (Nat → Int32))) (o_end : Int32) (o_show_box_price_size : Int32) (o_show_box_price_codes : Nat → Int32) (o_bytes : Nat → Int32) (p1 : Int32)  (l3 : Int32) (o_error : Int32) (o_errorAt : Int32) (o_at : Int32) (o_number : Int32) : Option (Int32 × Int32 × Int32 × Int32 × Int32 × Int32 × (Nat → Int32)) :=
  bn2 (X2_add o_show_box_price_size o_show_box_price_codes l3) fun (o1 : Int32) (o2 : Nat → Int32) =>
  some ((1 : Int32), o_error, o_errorAt, o_at, o_number, o1, o2)
def X3_readFactor (rs : Int32 → Int32 → Int32 → Int32 → Int32 → Int32 → (Nat → Int32) → (Nat → Int32) → Int32 → Option (Int32 × Int32 × Int32 × Int32 × Int32 × Int32 × (Nat → Int32))) (o_error : Int32) (o_errorAt : Int32) (o_end : Int32) (o_at : Int32) (o_number : Int32) (o_show_box_price_size : Int32) (o_show_box_price_codes : Nat → Int32) (o_bytes : Nat → Int32) (p1 : Int32) : Option (Int32 × Int32 × Int32 × Int32 × Int32 × Int32 × (Nat → Int32)) :=
  bn2 (X3_peek o_end o_at o_bytes) fun (r4 : Int32) (o5 : Int32) =>
  if r4 = (40 : Int32) then
    if p1 < (4 : Int32) then
      nm (o5 + (1 : Int32)) fun (v36 : Int32) =>
      bn7 (rs o_error o_errorAt o_end v36 o_number o_show_box_price_size o_show_box_price_codes o_bytes (p1 + (1 : Int32))) fun (r37 : Int32) (o38 : Int32) (o39 : Int32) (o40 : Int32) (o41 : Int32) (o42 : Int32) (o43 : Nat → Int32) =>
      if r37 = 0 then
        some ((0 : Int32), o38, o39, o40, o41, o42, o43)
      else
        bn4 (X3_readSign o38 o39 o_end o40 o_bytes (41 : Int32)) fun (r46 : Int32) (o47 : Int32) (o48 : Int32) (o49 : Int32) =>
        if r46 = 0 then
          some ((0 : Int32), o47, o48, o49, o41, o42, o43)
        else
          some ((1 : Int32), o47, o48, o49, o41, o42, o43)
    else
      bn3 (X3_fail o_error o_errorAt (-6 : Int32) o5) fun (r52 : Int32) (o53 : Int32) (o54 : Int32) =>
      ck (r52 = 0 ∨ r52 = 1) <|
      some (r52, o53, o54, o5, o_number, o_show_box_price_size, o_show_box_price_codes)
  else
    bn2 (X3_takesWord [115, 104, 111, 119, 110] o_end o5 o_bytes) fun (r9 : Int32) (o10 : Int32) =>
    if r9 = 0 then
      bn2 (X3_takesWord [107, 105, 110, 100, 115] o_end o10 o_bytes) fun (r14 : Int32) (o15 : Int32) =>
      if r14 = 0 then
        bn2 (X3_takesWord [100, 101, 112, 116, 104] o_end o15 o_bytes) fun (r19 : Int32) (o20 : Int32) =>
        if r19 = 0 then
          bn2 (X3_takesWord [104, 111, 108, 101] o_end o20 o_bytes) fun (r24 : Int32) (o25 : Int32) =>
          if r24 = 0 then
            bn5 (X3_readNumber o_error o_errorAt o_end o25 o_number o_bytes (0 : Int32) (9999 : Int32)) fun (r28 : Int32) (o29 : Int32) (o30 : Int32) (o31 : Int32) (o32 : Int32) =>
            if r28 = 0 then
              some ((0 : Int32), o29, o30, o31, o32, o_show_box_price_size, o_show_box_price_codes)
            else
              X3_readFactor_J144 rs o_end o_show_box_price_size o_show_box_price_codes o_bytes p1 o32 o29 o30 o31 o32
          else
            X3_readFactor_J144 rs o_end o_show_box_price_size o_show_box_price_codes o_bytes p1 (-4 : Int32) o_error o_errorAt o25 o_number
        else
          X3_readFactor_J144 rs o_end o_show_box_price_size o_show_box_price_codes o_bytes p1 (-3 : Int32) o_error o_errorAt o20 o_number
      else
        X3_readFactor_J144 rs o_end o_show_box_price_size o_show_box_price_codes o_bytes p1 (-2 : Int32) o_error o_errorAt o15 o_number
    else
      X3_readFactor_J144 rs o_end o_show_box_price_size o_show_box_price_codes o_bytes p1 (-1 : Int32) o_error o_errorAt o10 o_number
def X3_readSum_J82 (f0 : Int32 → Int32 → Int32 → Int32 → Int32 → Int32 → (Nat → Int32) → (Nat → Int32) → Int32 → Option (Int32 × Int32 × Int32 × Int32 × Int32 × Int32 × (Nat → Int32))) (o_end : Int32) (o_bytes : Nat → Int32) (p1 : Int32) (kL7 : Int32 → Int32 → Int32 → Int32 → Int32 → Int32 → Int32 → Int32 → (Nat → Int32) → Option (Int32 × Int32 × Int32 × Int32 × Int32 × Int32 × (Nat → Int32))) (l2 : Int32) (l3 : Int32) (l4 : Int32) (o_error : Int32) (o_errorAt : Int32) (o_at : Int32) (o_number : Int32) (o_show_box_price_size : Int32) (o_show_box_price_codes : Nat → Int32) : Option (Int32 × Int32 × Int32 × Int32 × Int32 × Int32 × (Nat → Int32)) :=
  nm (l4 + (1 : Int32)) fun (v1 : Int32) =>
  kL7 l2 l3 v1 o_error o_errorAt o_at o_number o_show_box_price_size o_show_box_price_codes
def X3_readSum_L7 (f0 : Int32 → Int32 → Int32 → Int32 → Int32 → Int32 → (Nat → Int32) → (Nat → Int32) → Int32 → Option (Int32 × Int32 × Int32 × Int32 × Int32 × Int32 × (Nat → Int32))) (o_end : Int32) (o_bytes : Nat → Int32) (p1 : Int32)  : Nat → Int32 → Int32 → Int32 → Int32 → Int32 → Int32 → Int32 → Int32 → (Nat → Int32) → Option (Int32 × Int32 × Int32 × Int32 × Int32 × Int32 × (Nat → Int32))
  | 0, _, _, _, _, _, _, _, _, _ => none
  | n + 1, l2, l3, l4, o_error, o_errorAt, o_at, o_number, o_show_box_price_size, o_show_box_price_codes =>
    if o_end ≤ l4 then
      some ((1 : Int32), o_error, o_errorAt, o_at, o_number, o_show_box_price_size, o_show_box_price_codes)
    else
      bn7 (f0 o_error o_errorAt o_end o_at o_number o_show_box_price_size o_show_box_price_codes o_bytes p1) fun (r3 : Int32) (o4 : Int32) (o5 : Int32) (o6 : Int32) (o7 : Int32) (o8 : Int32) (o9 : Nat → Int32) =>
      if r3 = 0 then
        some ((0 : Int32), o4, o5, o6, o7, o8, o9)
      else
        bn2 (X2_addOperation o8 o9 l3) fun (o12 : Int32) (o13 : Nat → Int32) =>
        bn2 (X3_takesEither o_end o6 o_bytes (42 : Int32) (47 : Int32)) fun (r15 : Int32) (o16 : Int32) =>
        if r15 = 0 then
          bn2 (X2_addOperation o12 o13 l2) fun (o19 : Int32) (o20 : Nat → Int32) =>
          bn2 (X3_takesEither o_end o16 o_bytes (43 : Int32) (45 : Int32)) fun (r22 : Int32) (o23 : Int32) =>
          if r22 = 0 then
            some ((1 : Int32), o4, o5, o23, o7, o19, o20)
          else
            X3_readSum_J82 f0 o_end o_bytes p1 (fun z0 z1 z2 z3 z4 z5 z6 z7 z8 => X3_readSum_L7 f0 o_end o_bytes p1 n z0 z1 z2 z3 z4 z5 z6 z7 z8) r22 r15 l4 o4 o5 o23 o7 o19 o20
        else
          X3_readSum_J82 f0 o_end o_bytes p1 (fun z0 z1 z2 z3 z4 z5 z6 z7 z8 => X3_readSum_L7 f0 o_end o_bytes p1 n z0 z1 z2 z3 z4 z5 z6 z7 z8) l2 r15 l4 o4 o5 o16 o7 o12 o13
def X3_readSum_b (f0 : Int32 → Int32 → Int32 → Int32 → Int32 → Int32 → (Nat → Int32) → (Nat → Int32) → Int32 → Option (Int32 × Int32 × Int32 × Int32 × Int32 × Int32 × (Nat → Int32))) (o_error : Int32) (o_errorAt : Int32) (o_end : Int32) (o_at : Int32) (o_number : Int32) (o_show_box_price_size : Int32) (o_show_box_price_codes : Nat → Int32) (o_bytes : Nat → Int32) (p1 : Int32) : Option (Int32 × Int32 × Int32 × Int32 × Int32 × Int32 × (Nat → Int32)) :=
  X3_readSum_L7 f0 o_end o_bytes p1 FU (0 : Int32) (0 : Int32) (0 : Int32) o_error o_errorAt o_at o_number o_show_box_price_size o_show_box_price_codes
def X3_readSum : Nat → Int32 → Int32 → Int32 → Int32 → Int32 → Int32 → (Nat → Int32) → (Nat → Int32) → Int32 → Option (Int32 × Int32 × Int32 × Int32 × Int32 × Int32 × (Nat → Int32))
  | 0 => fun _ _ _ _ _ _ _ _ _ => none
  | d + 1 => X3_readSum_b (X3_readFactor (X3_readSum d))
def X3_readPrice (o_error : Int32) (o_errorAt : Int32) (o_end : Int32) (o_at : Int32) (o_number : Int32) (o_priceTold : Int32) (o_show_box_price_size : Int32) (o_show_box_price_codes : Nat → Int32) (o_bytes : Nat → Int32) (p1 : Int32) : Option (Int32 × Int32 × Int32 × Int32 × Int32 × Int32 × Int32 × (Nat → Int32)) :=
  if o_priceTold = 0 then
    bn1 (X2_clear o_show_box_price_size) fun (o2 : Int32) =>
    bn7 (X3_readSum 6 o_error o_errorAt o_end o_at o_number o2 o_show_box_price_codes o_bytes (0 : Int32)) fun (r4 : Int32) (o5 : Int32) (o6 : Int32) (o7 : Int32) (o8 : Int32) (o9 : Int32) (o10 : Nat → Int32) =>
    ck (r4 = 0 ∨ r4 = 1) <|
    some (r4, o5, o6, o7, o8, (1 : Int32), o9, o10)
  else
    bn3 (X3_fail o_error o_errorAt (-2 : Int32) p1) fun (r13 : Int32) (o14 : Int32) (o15 : Int32) =>
    ck (r13 = 0 ∨ r13 = 1) <|
    some (r13, o14, o15, o_at, o_number, o_priceTold, o_show_box_price_size, o_show_box_price_codes)
def X3_readStatement (o_error : Int32) (o_errorAt : Int32) (o_end : Int32) (o_at : Int32) (o_number : Int32) (o_planesTold : Int32) (o_reachTold : Int32) (o_lengthTold : Int32) (o_priceTold : Int32) (o_show_box_width : Int32) (o_show_box_height : Int32) (o_show_box_planes : Int32) (o_show_box_holes : Int32) (o_show_box_reach : Int32) (o_show_box_cells : Nat → Int32) (o_show_box_holeX : Nat → Int32) (o_show_box_holeY : Nat → Int32) (o_show_box_price_size : Int32) (o_show_box_price_codes : Nat → Int32) (o_show_crowd_viewers : Int32) (o_show_crowd_lookLength : Int32) (o_show_crowd_facts : Nat → Int32) (o_bytes : Nat → Int32) : Option (Int32 × Int32 × Int32 × Int32 × Int32 × Int32 × Int32 × Int32 × Int32 × Int32 × Int32 × (Nat → Int32) × (Nat → Int32) × (Nat → Int32) × Int32 × (Nat → Int32) × Int32 × Int32 × (Nat → Int32)) :=
  bn2 (X3_takesWord [112, 108, 97, 110, 101] o_end o_at o_bytes) fun (r2 : Int32) (o3 : Int32) =>
  if r2 = 0 then
    bn2 (X3_takesWord [104, 111, 108, 101] o_end o3 o_bytes) fun (r7 : Int32) (o8 : Int32) =>
    if r7 = 0 then
      bn2 (X3_takesWord [114, 101, 97, 99, 104] o_end o8 o_bytes) fun (r12 : Int32) (o13 : Int32) =>
      if r12 = 0 then
        bn2 (X3_takesWord [108, 101, 110, 103, 116, 104] o_end o13 o_bytes) fun (r17 : Int32) (o18 : Int32) =>
        if r17 = 0 then
          bn2 (X3_takesWord [118, 105, 101, 119, 101, 114] o_end o18 o_bytes) fun (r22 : Int32) (o23 : Int32) =>
          if r22 = 0 then
            bn2 (X3_takesWord [112, 114, 105, 99, 101] o_end o23 o_bytes) fun (r27 : Int32) (o28 : Int32) =>
            if r27 = 0 then
              bn3 (X3_fail o_error o_errorAt (-2 : Int32) o_at) fun (r31 : Int32) (o32 : Int32) (o33 : Int32) =>
              ck (r31 = 0 ∨ r31 = 1) <|
              some (r31, o32, o33, o28, o_number, o_planesTold, o_reachTold, o_lengthTold, o_priceTold, o_show_box_holes, o_show_box_reach, o_show_box_cells, o_show_box_holeX, o_show_box_holeY, o_show_box_price_size, o_show_box_price_codes, o_show_crowd_viewers, o_show_crowd_lookLength, o_show_crowd_facts)
            else
              bn8 (X3_readPrice o_error o_errorAt o_end o28 o_number o_priceTold o_show_box_price_size o_show_box_price_codes o_bytes o_at) fun (r36 : Int32) (o37 : Int32) (o38 : Int32) (o39 : Int32) (o40 : Int32) (o41 : Int32) (o42 : Int32) (o43 : Nat → Int32) =>
              ck (r36 = 0 ∨ r36 = 1) <|
              some (r36, o37, o38, o39, o40, o_planesTold, o_reachTold, o_lengthTold, o41, o_show_box_holes, o_show_box_reach, o_show_box_cells, o_show_box_holeX, o_show_box_holeY, o42, o43, o_show_crowd_viewers, o_show_crowd_lookLength, o_show_crowd_facts)
          else
            bn7 (X3_readViewer o_error o_errorAt o_end o23 o_number o_show_crowd_viewers o_show_crowd_facts o_bytes o_at) fun (r46 : Int32) (o47 : Int32) (o48 : Int32) (o49 : Int32) (o50 : Int32) (o51 : Int32) (o52 : Nat → Int32) =>
            ck (r46 = 0 ∨ r46 = 1) <|
            some (r46, o47, o48, o49, o50, o_planesTold, o_reachTold, o_lengthTold, o_priceTold, o_show_box_holes, o_show_box_reach, o_show_box_cells, o_show_box_holeX, o_show_box_holeY, o_show_box_price_size, o_show_box_price_codes, o51, o_show_crowd_lookLength, o52)
        else
          bn7 (X3_readLength o_error o_errorAt o_end o18 o_number o_lengthTold o_show_crowd_lookLength o_bytes o_at) fun (r55 : Int32) (o56 : Int32) (o57 : Int32) (o58 : Int32) (o59 : Int32) (o60 : Int32) (o61 : Int32) =>
          ck (r55 = 0 ∨ r55 = 1) <|
          some (r55, o56, o57, o58, o59, o_planesTold, o_reachTold, o60, o_priceTold, o_show_box_holes, o_show_box_reach, o_show_box_cells, o_show_box_holeX, o_show_box_holeY, o_show_box_price_size, o_show_box_price_codes, o_show_crowd_viewers, o61, o_show_crowd_facts)
      else
        bn7 (X3_readReach o_error o_errorAt o_end o13 o_number o_reachTold o_show_box_reach o_bytes o_at) fun (r64 : Int32) (o65 : Int32) (o66 : Int32) (o67 : Int32) (o68 : Int32) (o69 : Int32) (o70 : Int32) =>
        ck (r64 = 0 ∨ r64 = 1) <|
        some (r64, o65, o66, o67, o68, o_planesTold, o69, o_lengthTold, o_priceTold, o_show_box_holes, o70, o_show_box_cells, o_show_box_holeX, o_show_box_holeY, o_show_box_price_size, o_show_box_price_codes, o_show_crowd_viewers, o_show_crowd_lookLength, o_show_crowd_facts)
    else
      bn8 (X3_readHole o_error o_errorAt o_end o8 o_number o_show_box_width o_show_box_height o_show_box_holes o_show_box_holeX o_show_box_holeY o_bytes o_at) fun (r73 : Int32) (o74 : Int32) (o75 : Int32) (o76 : Int32) (o77 : Int32) (o78 : Int32) (o79 : Nat → Int32) (o80 : Nat → Int32) =>
      ck (r73 = 0 ∨ r73 = 1) <|
      some (r73, o74, o75, o76, o77, o_planesTold, o_reachTold, o_lengthTold, o_priceTold, o78, o_show_box_reach, o_show_box_cells, o79, o80, o_show_box_price_size, o_show_box_price_codes, o_show_crowd_viewers, o_show_crowd_lookLength, o_show_crowd_facts)
  else
    bn6 (X3_readPlane o_error o_errorAt o_end o3 o_planesTold o_show_box_width o_show_box_height o_show_box_planes o_show_box_cells o_bytes o_at) fun (r83 : Int32) (o84 : Int32) (o85 : Int32) (o86 : Int32) (o87 : Int32) (o88 : Nat → Int32) =>
    ck (r83 = 0 ∨ r83 = 1) <|
    some (r83, o84, o85, o86, o_number, o87, o_reachTold, o_lengthTold, o_priceTold, o_show_box_holes, o_show_box_reach, o88, o_show_box_holeX, o_show_box_holeY, o_show_box_price_size, o_show_box_price_codes, o_show_crowd_viewers, o_show_crowd_lookLength, o_show_crowd_facts)
def X3_read_J60 (o_bytes : Nat → Int32) (p1 : Int32)  (l2 : Int32) (o_filled : Int32) (o_error : Int32) (o_errorAt : Int32) (o_end : Int32) (o_at : Int32) (o_number : Int32) (o_planesTold : Int32) (o_reachTold : Int32) (o_lengthTold : Int32) (o_priceTold : Int32) (o_show_box_width : Int32) (o_show_box_height : Int32) (o_show_box_planes : Int32) (o_show_box_holes : Int32) (o_show_box_reach : Int32) (o_show_box_cells : Nat → Int32) (o_show_box_pulls : Nat → Int32) (o_show_box_holeX : Nat → Int32) (o_show_box_holeY : Nat → Int32) (o_show_box_price_size : Int32) (o_show_box_price_codes : Nat → Int32) (o_show_crowd_viewers : Int32) (o_show_crowd_lookLength : Int32) (o_show_crowd_time : Int32) (o_show_crowd_lookers : Nat → Int32) (o_show_crowd_facts : Nat → Int32) : Option (Int32 × Int32 × Int32 × Int32 × Int32 × Int32 × Int32 × Int32 × Int32 × Int32 × Int32 × Int32 × Int32 × Int32 × Int32 × Int32 × (Nat → Int32) × (Nat → Int32) × (Nat → Int32) × (Nat → Int32) × Int32 × (Nat → Int32) × Int32 × Int32 × Int32 × (Nat → Int32) × (Nat → Int32)) :=
  if l2 = 0 then
    ck (l2 = 0 ∨ l2 = 1) <|
    some (l2, o_filled, o_error, o_errorAt, o_end, o_at, o_number, o_planesTold, o_reachTold, o_lengthTold, o_priceTold, o_show_box_width, o_show_box_height, o_show_box_planes, o_show_box_holes, o_show_box_reach, o_show_box_cells, o_show_box_pulls, o_show_box_holeX, o_show_box_holeY, o_show_box_price_size, o_show_box_price_codes, o_show_crowd_viewers, o_show_crowd_lookLength, o_show_crowd_time, o_show_crowd_lookers, o_show_crowd_facts)
  else
    if o_show_box_holes = 0 then
      bn3 (X0_addHole o_show_box_holes o_show_box_holeX o_show_box_holeY (0 : Int32) (0 : Int32)) fun (o5 : Int32) (o6 : Nat → Int32) (o7 : Nat → Int32) =>
      ck (l2 = 0 ∨ l2 = 1) <|
      some (l2, o_filled, o_error, o_errorAt, o_end, o_at, o_number, o_planesTold, o_reachTold, o_lengthTold, o_priceTold, o_show_box_width, o_show_box_height, o_show_box_planes, o5, o_show_box_reach, o_show_box_cells, o_show_box_pulls, o6, o7, o_show_box_price_size, o_show_box_price_codes, o_show_crowd_viewers, o_show_crowd_lookLength, o_show_crowd_time, o_show_crowd_lookers, o_show_crowd_facts)
    else
      ck (l2 = 0 ∨ l2 = 1) <|
      some (l2, o_filled, o_error, o_errorAt, o_end, o_at, o_number, o_planesTold, o_reachTold, o_lengthTold, o_priceTold, o_show_box_width, o_show_box_height, o_show_box_planes, o_show_box_holes, o_show_box_reach, o_show_box_cells, o_show_box_pulls, o_show_box_holeX, o_show_box_holeY, o_show_box_price_size, o_show_box_price_codes, o_show_crowd_viewers, o_show_crowd_lookLength, o_show_crowd_time, o_show_crowd_lookers, o_show_crowd_facts)
def X3_read_J53 (o_bytes : Nat → Int32) (p1 : Int32) (kL12 : Int32 → Int32 → Int32 → Int32 → Int32 → Int32 → Int32 → Int32 → Int32 → Int32 → Int32 → Int32 → Int32 → Int32 → Int32 → Int32 → Int32 → (Nat → Int32) → (Nat → Int32) → (Nat → Int32) → (Nat → Int32) → Int32 → (Nat → Int32) → Int32 → Int32 → Int32 → (Nat → Int32) → (Nat → Int32) → Option (Int32 × Int32 × Int32 × Int32 × Int32 × Int32 × Int32 × Int32 × Int32 × Int32 × Int32 × Int32 × Int32 × Int32 × Int32 × Int32 × (Nat → Int32) × (Nat → Int32) × (Nat → Int32) × (Nat → Int32) × Int32 × (Nat → Int32) × Int32 × Int32 × Int32 × (Nat → Int32) × (Nat → Int32))) (l3 : Int32) (k0 : Int32) (o_filled : Int32) (o_error : Int32) (o_errorAt : Int32) (o_end : Int32) (o_at : Int32) (o_number : Int32) (o_planesTold : Int32) (o_reachTold : Int32) (o_lengthTold : Int32) (o_priceTold : Int32) (o_show_box_width : Int32) (o_show_box_height : Int32) (o_show_box_planes : Int32) (o_show_box_holes : Int32) (o_show_box_reach : Int32) (o_show_box_cells : Nat → Int32) (o_show_box_pulls : Nat → Int32) (o_show_box_holeX : Nat → Int32) (o_show_box_holeY : Nat → Int32) (o_show_box_price_size : Int32) (o_show_box_price_codes : Nat → Int32) (o_show_crowd_viewers : Int32) (o_show_crowd_lookLength : Int32) (o_show_crowd_time : Int32) (o_show_crowd_lookers : Nat → Int32) (o_show_crowd_facts : Nat → Int32) : Option (Int32 × Int32 × Int32 × Int32 × Int32 × Int32 × Int32 × Int32 × Int32 × Int32 × Int32 × Int32 × Int32 × Int32 × Int32 × Int32 × (Nat → Int32) × (Nat → Int32) × (Nat → Int32) × (Nat → Int32) × Int32 × (Nat → Int32) × Int32 × Int32 × Int32 × (Nat → Int32) × (Nat → Int32)) :=
  nm (l3 + (1 : Int32)) fun (v10 : Int32) =>
  kL12 k0 v10 o_filled o_error o_errorAt o_end o_at o_number o_planesTold o_reachTold o_lengthTold o_priceTold o_show_box_width o_show_box_height o_show_box_planes o_show_box_holes o_show_box_reach o_show_box_cells o_show_box_pulls o_show_box_holeX o_show_box_holeY o_show_box_price_size o_show_box_price_codes o_show_crowd_viewers o_show_crowd_lookLength o_show_crowd_time o_show_crowd_lookers o_show_crowd_facts
def X3_read_J52 (o_bytes : Nat → Int32) (p1 : Int32) (kL12 : Int32 → Int32 → Int32 → Int32 → Int32 → Int32 → Int32 → Int32 → Int32 → Int32 → Int32 → Int32 → Int32 → Int32 → Int32 → Int32 → Int32 → (Nat → Int32) → (Nat → Int32) → (Nat → Int32) → (Nat → Int32) → Int32 → (Nat → Int32) → Int32 → Int32 → Int32 → (Nat → Int32) → (Nat → Int32) → Option (Int32 × Int32 × Int32 × Int32 × Int32 × Int32 × Int32 × Int32 × Int32 × Int32 × Int32 × Int32 × Int32 × Int32 × Int32 × Int32 × (Nat → Int32) × (Nat → Int32) × (Nat → Int32) × (Nat → Int32) × Int32 × (Nat → Int32) × Int32 × Int32 × Int32 × (Nat → Int32) × (Nat → Int32))) (l3 : Int32) (o_filled : Int32) (o_error : Int32) (o_errorAt : Int32) (o_end : Int32) (o_at : Int32) (o_number : Int32) (o_planesTold : Int32) (o_reachTold : Int32) (o_lengthTold : Int32) (o_priceTold : Int32) (o_show_box_width : Int32) (o_show_box_height : Int32) (o_show_box_planes : Int32) (o_show_box_holes : Int32) (o_show_box_reach : Int32) (o_show_box_cells : Nat → Int32) (o_show_box_pulls : Nat → Int32) (o_show_box_holeX : Nat → Int32) (o_show_box_holeY : Nat → Int32) (o_show_box_price_size : Int32) (o_show_box_price_codes : Nat → Int32) (o_show_crowd_viewers : Int32) (o_show_crowd_lookLength : Int32) (o_show_crowd_time : Int32) (o_show_crowd_lookers : Nat → Int32) (o_show_crowd_facts : Nat → Int32) : Option (Int32 × Int32 × Int32 × Int32 × Int32 × Int32 × Int32 × Int32 × Int32 × Int32 × Int32 × Int32 × Int32 × Int32 × Int32 × Int32 × (Nat → Int32) × (Nat → Int32) × (Nat → Int32) × (Nat → Int32) × Int32 × (Nat → Int32) × Int32 × Int32 × Int32 × (Nat → Int32) × (Nat → Int32)) :=
  X3_read_J53 o_bytes p1 kL12 l3 (0 : Int32) o_filled o_error o_errorAt o_end o_at o_number o_planesTold o_reachTold o_lengthTold o_priceTold o_show_box_width o_show_box_height o_show_box_planes o_show_box_holes o_show_box_reach o_show_box_cells o_show_box_pulls o_show_box_holeX o_show_box_holeY o_show_box_price_size o_show_box_price_codes o_show_crowd_viewers o_show_crowd_lookLength o_show_crowd_time o_show_crowd_lookers o_show_crowd_facts
def X3_read_L12 (o_bytes : Nat → Int32) (p1 : Int32)  : Nat → Int32 → Int32 → Int32 → Int32 → Int32 → Int32 → Int32 → Int32 → Int32 → Int32 → Int32 → Int32 → Int32 → Int32 → Int32 → Int32 → Int32 → (Nat → Int32) → (Nat → Int32) → (Nat → Int32) → (Nat → Int32) → Int32 → (Nat → Int32) → Int32 → Int32 → Int32 → (Nat → Int32) → (Nat → Int32) → Option (Int32 × Int32 × Int32 × Int32 × Int32 × Int32 × Int32 × Int32 × Int32 × Int32 × Int32 × Int32 × Int32 × Int32 × Int32 × Int32 × (Nat → Int32) × (Nat → Int32) × (Nat → Int32) × (Nat → Int32) × Int32 × (Nat → Int32) × Int32 × Int32 × Int32 × (Nat → Int32) × (Nat → Int32))
  | 0, _, _, _, _, _, _, _, _, _, _, _, _, _, _, _, _, _, _, _, _, _, _, _, _, _, _, _, _ => none
  | n + 1, l2, l3, o_filled, o_error, o_errorAt, o_end, o_at, o_number, o_planesTold, o_reachTold, o_lengthTold, o_priceTold, o_show_box_width, o_show_box_height, o_show_box_planes, o_show_box_holes, o_show_box_reach, o_show_box_cells, o_show_box_pulls, o_show_box_holeX, o_show_box_holeY, o_show_box_price_size, o_show_box_price_codes, o_show_crowd_viewers, o_show_crowd_lookLength, o_show_crowd_time, o_show_crowd_lookers, o_show_crowd_facts =>
    if o_end ≤ l3 then
      X3_read_J60 o_bytes p1 l2 o_filled o_error o_errorAt o_end o_at o_number o_planesTold o_reachTold o_lengthTold o_priceTold o_show_box_width o_show_box_height o_show_box_planes o_show_box_holes o_show_box_reach o_show_box_cells o_show_box_pulls o_show_box_holeX o_show_box_holeY o_show_box_price_size o_show_box_price_codes o_show_crowd_viewers o_show_crowd_lookLength o_show_crowd_time o_show_crowd_lookers o_show_crowd_facts
    else
      if l2 = 0 then
        X3_read_J60 o_bytes p1 l2 o_filled o_error o_errorAt o_end o_at o_number o_planesTold o_reachTold o_lengthTold o_priceTold o_show_box_width o_show_box_height o_show_box_planes o_show_box_holes o_show_box_reach o_show_box_cells o_show_box_pulls o_show_box_holeX o_show_box_holeY o_show_box_price_size o_show_box_price_codes o_show_crowd_viewers o_show_crowd_lookLength o_show_crowd_time o_show_crowd_lookers o_show_crowd_facts
      else
        bn2 (X3_peek o_end o_at o_bytes) fun (r13 : Int32) (o14 : Int32) =>
        if r13 = (-1 : Int32) then
          X3_read_J60 o_bytes p1 l2 o_filled o_error o_errorAt o_end o14 o_number o_planesTold o_reachTold o_lengthTold o_priceTold o_show_box_width o_show_box_height o_show_box_planes o_show_box_holes o_show_box_reach o_show_box_cells o_show_box_pulls o_show_box_holeX o_show_box_holeY o_show_box_price_size o_show_box_price_codes o_show_crowd_viewers o_show_crowd_lookLength o_show_crowd_time o_show_crowd_lookers o_show_crowd_facts
        else
          bn19 (X3_readStatement o_error o_errorAt o_end o14 o_number o_planesTold o_reachTold o_lengthTold o_priceTold o_show_box_width o_show_box_height o_show_box_planes o_show_box_holes o_show_box_reach o_show_box_cells o_show_box_holeX o_show_box_holeY o_show_box_price_size o_show_box_price_codes o_show_crowd_viewers o_show_crowd_lookLength o_show_crowd_facts o_bytes) fun (r17 : Int32) (o18 : Int32) (o19 : Int32) (o20 : Int32) (o21 : Int32) (o22 : Int32) (o23 : Int32) (o24 : Int32) (o25 : Int32) (o26 : Int32) (o27 : Int32) (o28 : Nat → Int32) (o29 : Nat → Int32) (o30 : Nat → Int32) (o31 : Int32) (o32 : Nat → Int32) (o33 : Int32) (o34 : Int32) (o35 : Nat → Int32) =>
          if r17 = 0 then
            X3_read_J52 o_bytes p1 (fun z0 z1 z2 z3 z4 z5 z6 z7 z8 z9 z10 z11 z12 z13 z14 z15 z16 z17 z18 z19 z20 z21 z22 z23 z24 z25 z26 z27 => X3_read_L12 o_bytes p1 n z0 z1 z2 z3 z4 z5 z6 z7 z8 z9 z10 z11 z12 z13 z14 z15 z16 z17 z18 z19 z20 z21 z22 z23 z24 z25 z26 z27) l3 o_filled o18 o19 o_end o20 o21 o22 o23 o24 o25 o_show_box_width o_show_box_height o_show_box_planes o26 o27 o28 o_show_box_pulls o29 o30 o31 o32 o33 o34 o_show_crowd_time o_show_crowd_lookers o35
          else
            bn4 (X3_readSign o18 o19 o_end o20 o_bytes (59 : Int32)) fun (r38 : Int32) (o39 : Int32) (o40 : Int32) (o41 : Int32) =>
            if r38 = 0 then
              X3_read_J52 o_bytes p1 (fun z0 z1 z2 z3 z4 z5 z6 z7 z8 z9 z10 z11 z12 z13 z14 z15 z16 z17 z18 z19 z20 z21 z22 z23 z24 z25 z26 z27 => X3_read_L12 o_bytes p1 n z0 z1 z2 z3 z4 z5 z6 z7 z8 z9 z10 z11 z12 z13 z14 z15 z16 z17 z18 z19 z20 z21 z22 z23 z24 z25 z26 z27) l3 o_filled o39 o40 o_end o41 o21 o22 o23 o24 o25 o_show_box_width o_show_box_height o_show_box_planes o26 o27 o28 o_show_box_pulls o29 o30 o31 o32 o33 o34 o_show_crowd_time o_show_crowd_lookers o35
            else
              X3_read_J53 o_bytes p1 (fun z0 z1 z2 z3 z4 z5 z6 z7 z8 z9 z10 z11 z12 z13 z14 z15 z16 z17 z18 z19 z20 z21 z22 z23 z24 z25 z26 z27 => X3_read_L12 o_bytes p1 n z0 z1 z2 z3 z4 z5 z6 z7 z8 z9 z10 z11 z12 z13 z14 z15 z16 z17 z18 z19 z20 z21 z22 z23 z24 z25 z26 z27) l3 (1 : Int32) o_filled o39 o40 o_end o41 o21 o22 o23 o24 o25 o_show_box_width o_show_box_height o_show_box_planes o26 o27 o28 o_show_box_pulls o29 o30 o31 o32 o33 o34 o_show_crowd_time o_show_crowd_lookers o35
def X3_read (o_filled : Int32) (o_error : Int32) (o_errorAt : Int32) (o_end : Int32) (o_at : Int32) (o_number : Int32) (o_planesTold : Int32) (o_reachTold : Int32) (o_lengthTold : Int32) (o_priceTold : Int32) (o_show_box_width : Int32) (o_show_box_height : Int32) (o_show_box_planes : Int32) (o_show_box_holes : Int32) (o_show_box_reach : Int32) (o_show_box_cells : Nat → Int32) (o_show_box_pulls : Nat → Int32) (o_show_box_holeX : Nat → Int32) (o_show_box_holeY : Nat → Int32) (o_show_box_price_size : Int32) (o_show_box_price_codes : Nat → Int32) (o_show_crowd_viewers : Int32) (o_show_crowd_lookLength : Int32) (o_show_crowd_time : Int32) (o_show_crowd_lookers : Nat → Int32) (o_show_crowd_facts : Nat → Int32) (o_bytes : Nat → Int32) (p1 : Int32) : Option (Int32 × Int32 × Int32 × Int32 × Int32 × Int32 × Int32 × Int32 × Int32 × Int32 × Int32 × Int32 × Int32 × Int32 × Int32 × Int32 × (Nat → Int32) × (Nat → Int32) × (Nat → Int32) × (Nat → Int32) × Int32 × (Nat → Int32) × Int32 × Int32 × Int32 × (Nat → Int32) × (Nat → Int32)) :=
  bn9 (X3_begin o_filled o_error o_errorAt o_end o_at o_planesTold o_reachTold o_lengthTold o_priceTold p1) fun (o44 : Int32) (o45 : Int32) (o46 : Int32) (o47 : Int32) (o48 : Int32) (o49 : Int32) (o50 : Int32) (o51 : Int32) (o52 : Int32) =>
  bn18 (X3_readBox o45 o46 o47 o48 o_number o_show_box_width o_show_box_height o_show_box_planes o_show_box_holes o_show_box_reach o_show_box_cells o_show_box_pulls o_show_box_price_size o_show_box_price_codes o_show_crowd_viewers o_show_crowd_lookLength o_show_crowd_time o_show_crowd_lookers o_bytes) fun (r54 : Int32) (o55 : Int32) (o56 : Int32) (o57 : Int32) (o58 : Int32) (o59 : Int32) (o60 : Int32) (o61 : Int32) (o62 : Int32) (o63 : Int32) (o64 : Nat → Int32) (o65 : Nat → Int32) (o66 : Int32) (o67 : Nat → Int32) (o68 : Int32) (o69 : Int32) (o70 : Int32) (o71 : Nat → Int32) =>
  X3_read_L12 o_bytes p1 FU r54 (0 : Int32) o44 o55 o56 o47 o57 o58 o49 o50 o51 o52 o59 o60 o61 o62 o63 o64 o65 o_show_box_holeX o_show_box_holeY o66 o67 o68 o69 o70 o71 o_show_crowd_facts
def X4_copyFrom (o_box_width : Int32) (o_box_height : Int32) (o_box_planes : Int32) (o_box_holes : Int32) (o_box_reach : Int32) (o_box_cells : Nat → Int32) (o_box_pulls : Nat → Int32) (o_box_holeX : Nat → Int32) (o_box_holeY : Nat → Int32) (o_box_price_size : Int32) (o_box_price_codes : Nat → Int32) (o_crowd_viewers : Int32) (o_crowd_lookLength : Int32) (o_crowd_time : Int32) (o_crowd_lookers : Nat → Int32) (o_crowd_facts : Nat → Int32) (p1_box_width : Int32) (p1_box_height : Int32) (p1_box_planes : Int32) (p1_box_holes : Int32) (p1_box_reach : Int32) (p1_box_cells : Nat → Int32) (p1_box_pulls : Nat → Int32) (p1_box_holeX : Nat → Int32) (p1_box_holeY : Nat → Int32) (p1_box_price_size : Int32) (p1_box_price_codes : Nat → Int32) (p1_crowd_viewers : Int32) (p1_crowd_lookLength : Int32) (p1_crowd_time : Int32) (p1_crowd_lookers : Nat → Int32) (p1_crowd_facts : Nat → Int32) : Option (Int32 × Int32 × Int32 × Int32 × Int32 × (Nat → Int32) × (Nat → Int32) × (Nat → Int32) × (Nat → Int32) × Int32 × (Nat → Int32) × Int32 × Int32 × Int32 × (Nat → Int32) × (Nat → Int32)) :=
  bn11 (X0_copyFrom o_box_width o_box_height o_box_planes o_box_holes o_box_reach o_box_cells o_box_pulls o_box_holeX o_box_holeY o_box_price_size o_box_price_codes p1_box_width p1_box_height p1_box_planes p1_box_holes p1_box_reach p1_box_cells p1_box_pulls p1_box_holeX p1_box_holeY p1_box_price_size p1_box_price_codes) fun (o1 : Int32) (o2 : Int32) (o3 : Int32) (o4 : Int32) (o5 : Int32) (o6 : Nat → Int32) (o7 : Nat → Int32) (o8 : Nat → Int32) (o9 : Nat → Int32) (o10 : Int32) (o11 : Nat → Int32) =>
  bn5 (X1_copyFrom o_crowd_viewers o_crowd_lookLength o_crowd_time o_crowd_lookers o_crowd_facts p1_crowd_viewers p1_crowd_lookLength p1_crowd_time p1_crowd_lookers p1_crowd_facts) fun (o13 : Int32) (o14 : Int32) (o15 : Int32) (o16 : Nat → Int32) (o17 : Nat → Int32) =>
  some (o1, o2, o3, o4, o5, o6, o7, o8, o9, o10, o11, o13, o14, o15, o16, o17)
def X5_target (p0 : Int32) (p1 : Int32) (p2 : Int32) : Option (Int32) :=
  some (((p0 * (96 : Int32)) + (p2 * (12 : Int32))) + p1)
def X5_look_L17 (o_depths : Nat → Int32) (p1_width : Int32) (p1_height : Int32) (p1_planes : Int32) (p1_cells : Nat → Int32) (p1_pulls : Nat → Int32) (p1_holeX : Nat → Int32) (p1_holeY : Nat → Int32) (p2 : Int32) (kL5 : Int32 → Int32 → (Nat → Int32) → (Nat → Int32) → Option ((Nat → Int32) × (Nat → Int32) × (Nat → Int32))) : Nat → Int32 → Int32 → Int32 → (Nat → Int32) → (Nat → Int32) → Option ((Nat → Int32) × (Nat → Int32) × (Nat → Int32))
  | 0, _, _, _, _, _ => none
  | n + 1, l3, l4, l5, o_seen, o_counts =>
    if p1_width ≤ l5 then
      nm (l4 + (1 : Int32)) fun (v2 : Int32) =>
      kL5 l3 v2 o_seen o_counts
    else
      bn1 (X0_seenFrom p1_height p1_planes p1_cells p1_pulls p1_holeX p1_holeY p2 l5 l4) fun (r3 : Int32) =>
      bn1 (X5_target p2 l5 l4) fun (r5 : Int32) =>
      st 384 r5 (upd o_seen r5.toNatClampNeg r3) fun (b8 : Nat → Int32) =>
      nm (r3 - r3 / (100 : Int32) * (100 : Int32)) fun (v9 : Int32) =>
      ld o_counts 104 ((p2 * (26 : Int32)) + v9) fun (v11 : Int32) =>
      st 104 ((p2 * (26 : Int32)) + v9) (upd o_counts ((p2 * (26 : Int32)) + v9).toNatClampNeg (v11 + (1 : Int32))) fun (b13 : Nat → Int32) =>
      nm (l3 + ((r3 / (100 : Int32)) + (1 : Int32))) fun (v14 : Int32) =>
      nm (l5 + (1 : Int32)) fun (v15 : Int32) =>
      X5_look_L17 o_depths p1_width p1_height p1_planes p1_cells p1_pulls p1_holeX p1_holeY p2 kL5 n v14 l4 v15 b8 b13
def X5_look_L5 (o_depths : Nat → Int32) (p1_width : Int32) (p1_height : Int32) (p1_planes : Int32) (p1_cells : Nat → Int32) (p1_pulls : Nat → Int32) (p1_holeX : Nat → Int32) (p1_holeY : Nat → Int32) (p2 : Int32)  : Nat → Int32 → Int32 → (Nat → Int32) → (Nat → Int32) → Option ((Nat → Int32) × (Nat → Int32) × (Nat → Int32))
  | 0, _, _, _, _ => none
  | n + 1, l3, l4, o_seen, o_counts =>
    if p1_height ≤ l4 then
      bn1 (X6_quotient l3.toInt64 (p1_width * p1_height).toInt64) fun (r17 : Int64) =>
      st 4 p2 (upd o_depths p2.toNatClampNeg r17.toInt32) fun (b20 : Nat → Int32) =>
      some (o_seen, o_counts, b20)
    else
      X5_look_L17 o_depths p1_width p1_height p1_planes p1_cells p1_pulls p1_holeX p1_holeY p2 (fun z0 z1 z2 z3 => X5_look_L5 o_depths p1_width p1_height p1_planes p1_cells p1_pulls p1_holeX p1_holeY p2 n z0 z1 z2 z3) FU l3 l4 (0 : Int32) o_seen o_counts
def X5_look (o_seen : Nat → Int32) (o_counts : Nat → Int32) (o_depths : Nat → Int32) (p1_width : Int32) (p1_height : Int32) (p1_planes : Int32) (p1_cells : Nat → Int32) (p1_pulls : Nat → Int32) (p1_holeX : Nat → Int32) (p1_holeY : Nat → Int32) (p2 : Int32) : Option ((Nat → Int32) × (Nat → Int32) × (Nat → Int32)) :=
  X5_look_L5 o_depths p1_width p1_height p1_planes p1_cells p1_pulls p1_holeX p1_holeY p2 FU (0 : Int32) (0 : Int32) o_seen o_counts
def X5_differentKinds_J27 (o_counts : Nat → Int32) (p1 : Int32) (kL4 : Int32 → Int32 → Option (Int32)) (l2 : Int32) (l3 : Int32) : Option (Int32) :=
  nm (l3 + (1 : Int32)) fun (v1 : Int32) =>
  kL4 l2 v1
def X5_differentKinds_L4 (o_counts : Nat → Int32) (p1 : Int32)  : Nat → Int32 → Int32 → Option (Int32)
  | 0, _, _ => none
  | n + 1, l2, l3 =>
    if (26 : Int32) ≤ l3 then
      some l2
    else
      ld o_counts 104 ((p1 * (26 : Int32)) + l3) fun (v4 : Int32) =>
      if v4 ≤ 0 then
        X5_differentKinds_J27 o_counts p1 (fun z0 z1 => X5_differentKinds_L4 o_counts p1 n z0 z1) l2 l3
      else
        nm (l2 + (1 : Int32)) fun (v6 : Int32) =>
        X5_differentKinds_J27 o_counts p1 (fun z0 z1 => X5_differentKinds_L4 o_counts p1 n z0 z1) v6 l3
def X5_differentKinds (o_counts : Nat → Int32) (p1 : Int32) : Option (Int32) :=
  X5_differentKinds_L4 o_counts p1 FU (0 : Int32) (0 : Int32)
def X5_update_L18 (p1_width : Int32) (p1_height : Int32) (p1_planes : Int32) (p1_holes : Int32) (p1_cells : Nat → Int32) (p1_pulls : Nat → Int32) (p1_holeX : Nat → Int32) (p1_holeY : Nat → Int32)  : Nat → Int32 → (Nat → Int32) → (Nat → Int32) → (Nat → Int32) → (Nat → Int32) → (Nat → Int32) → Option ((Nat → Int32) × (Nat → Int32) × (Nat → Int32) × (Nat → Int32) × (Nat → Int32))
  | 0, _, _, _, _, _, _ => none
  | n + 1, l2, o_seen, o_counts, o_kinds, o_depths, o_prices =>
    if p1_holes ≤ l2 then
      some (o_seen, o_counts, o_kinds, o_depths, o_prices)
    else
      bn3 (X5_look o_seen o_counts o_depths p1_width p1_height p1_planes p1_cells p1_pulls p1_holeX p1_holeY l2) fun (o2 : Nat → Int32) (o3 : Nat → Int32) (o4 : Nat → Int32) =>
      bn1 (X5_differentKinds o3 l2) fun (r6 : Int32) =>
      st 4 l2 (upd o_kinds l2.toNatClampNeg r6) fun (b9 : Nat → Int32) =>
      nm (l2 + (1 : Int32)) fun (v10 : Int32) =>
      X5_update_L18 p1_width p1_height p1_planes p1_holes p1_cells p1_pulls p1_holeX p1_holeY n v10 o2 o3 b9 o4 o_prices
def X5_update (o_seen : Nat → Int32) (o_counts : Nat → Int32) (o_kinds : Nat → Int32) (o_depths : Nat → Int32) (o_prices : Nat → Int32) (p1_width : Int32) (p1_height : Int32) (p1_planes : Int32) (p1_holes : Int32) (p1_cells : Nat → Int32) (p1_pulls : Nat → Int32) (p1_holeX : Nat → Int32) (p1_holeY : Nat → Int32) : Option ((Nat → Int32) × (Nat → Int32) × (Nat → Int32) × (Nat → Int32) × (Nat → Int32)) :=
  bn1 (J7_fill_53178 104 o_counts (0 : Int32)) fun (o11 : Nat → Int32) =>
  bn1 (J7_fill_53178 104 o_prices (-1 : Int32)) fun (o13 : Nat → Int32) =>
  X5_update_L18 p1_width p1_height p1_planes p1_holes p1_cells p1_pulls p1_holeX p1_holeY FU (0 : Int32) o_seen o11 o_kinds o_depths o13
def X5_countInAll_L5 (o_counts : Nat → Int32) (p1_holes : Int32) (p2 : Int32)  : Nat → Int32 → Int32 → Option (Int32)
  | 0, _, _ => none
  | n + 1, l3, l4 =>
    if p1_holes ≤ l4 then
      some l3
    else
      ld o_counts 104 ((l4 * (26 : Int32)) + p2) fun (v3 : Int32) =>
      nm (l3 + v3) fun (v4 : Int32) =>
      nm (l4 + (1 : Int32)) fun (v5 : Int32) =>
      X5_countInAll_L5 o_counts p1_holes p2 n v4 v5
def X5_countInAll (o_counts : Nat → Int32) (p1_holes : Int32) (p2 : Int32) : Option (Int32) :=
  X5_countInAll_L5 o_counts p1_holes p2 FU (0 : Int32) (0 : Int32)
def X5_targetsOf_J62 (o_seen : Nat → Int32) (p1_width : Int32) (p1_height : Int32) (p1_holes : Int32) (p2 : Int32) (kL5 : Int32 → Int32 → Option (Int32)) (kL17 : Int32 → Int32 → Int32 → Option (Int32)) (kL29 : Int32 → Int32 → Int32 → Int32 → Option (Int32)) (l3 : Int32) (l4 : Int32) (l5 : Int32) (l6 : Int32) : Option (Int32) :=
  nm (l6 + (1 : Int32)) fun (v1 : Int32) =>
  kL29 l3 l4 l5 v1
def X5_targetsOf_L29 (o_seen : Nat → Int32) (p1_width : Int32) (p1_height : Int32) (p1_holes : Int32) (p2 : Int32) (kL5 : Int32 → Int32 → Option (Int32)) (kL17 : Int32 → Int32 → Int32 → Option (Int32)) : Nat → Int32 → Int32 → Int32 → Int32 → Option (Int32)
  | 0, _, _, _, _ => none
  | n + 1, l3, l4, l5, l6 =>
    if p1_width ≤ l6 then
      nm (l5 + (1 : Int32)) fun (v3 : Int32) =>
      kL17 l3 l4 v3
    else
      bn1 (X5_target l4 l6 l5) fun (r4 : Int32) =>
      ld o_seen 384 r4 fun (v7 : Int32) =>
      if (v7 / (100 : Int32)) = p2 then
        nm (l3 + (1 : Int32)) fun (v9 : Int32) =>
        X5_targetsOf_J62 o_seen p1_width p1_height p1_holes p2 kL5 kL17 (fun z0 z1 z2 z3 => X5_targetsOf_L29 o_seen p1_width p1_height p1_holes p2 kL5 kL17 n z0 z1 z2 z3) v9 l4 l5 l6
      else
        X5_targetsOf_J62 o_seen p1_width p1_height p1_holes p2 kL5 kL17 (fun z0 z1 z2 z3 => X5_targetsOf_L29 o_seen p1_width p1_height p1_holes p2 kL5 kL17 n z0 z1 z2 z3) l3 l4 l5 l6
def X5_targetsOf_L17 (o_seen : Nat → Int32) (p1_width : Int32) (p1_height : Int32) (p1_holes : Int32) (p2 : Int32) (kL5 : Int32 → Int32 → Option (Int32)) : Nat → Int32 → Int32 → Int32 → Option (Int32)
  | 0, _, _, _ => none
  | n + 1, l3, l4, l5 =>
    if p1_height ≤ l5 then
      nm (l4 + (1 : Int32)) fun (v11 : Int32) =>
      kL5 l3 v11
    else
      X5_targetsOf_L29 o_seen p1_width p1_height p1_holes p2 kL5 (fun z0 z1 z2 => X5_targetsOf_L17 o_seen p1_width p1_height p1_holes p2 kL5 n z0 z1 z2) FU l3 l4 l5 (0 : Int32)
def X5_targetsOf_L5 (o_seen : Nat → Int32) (p1_width : Int32) (p1_height : Int32) (p1_holes : Int32) (p2 : Int32)  : Nat → Int32 → Int32 → Option (Int32)
  | 0, _, _ => none
  | n + 1, l3, l4 =>
    if p1_holes ≤ l4 then
      some l3
    else
      X5_targetsOf_L17 o_seen p1_width p1_height p1_holes p2 (fun z0 z1 => X5_targetsOf_L5 o_seen p1_width p1_height p1_holes p2 n z0 z1) FU l3 l4 (0 : Int32)
def X5_targetsOf (o_seen : Nat → Int32) (p1_width : Int32) (p1_height : Int32) (p1_holes : Int32) (p2 : Int32) : Option (Int32) :=
  X5_targetsOf_L5 o_seen p1_width p1_height p1_holes p2 FU (0 : Int32) (0 : Int32)
def X5_reason_J88 (o_seen : Nat → Int32) (p1_width : Int32) (p1_height : Int32) (p1_planes : Int32) (p1_cells : Nat → Int32) (p1_pulls : Nat → Int32) (p1_holeX : Nat → Int32) (p1_holeY : Nat → Int32) (p2 : Int32) (p3 : Int32) (p4 : Int32) (p5 : Int32) (kL6 : Int32 → Int32 → Option (Int32)) (kL18 : Int32 → Int32 → Int32 → Option (Int32)) (l6 : Int32) (l7 : Int32) (l8 : Int32) : Option (Int32) :=
  nm (l8 + (1 : Int32)) fun (v1 : Int32) =>
  kL18 l6 l7 v1
def X5_reason_L18 (o_seen : Nat → Int32) (p1_width : Int32) (p1_height : Int32) (p1_planes : Int32) (p1_cells : Nat → Int32) (p1_pulls : Nat → Int32) (p1_holeX : Nat → Int32) (p1_holeY : Nat → Int32) (p2 : Int32) (p3 : Int32) (p4 : Int32) (p5 : Int32) (kL6 : Int32 → Int32 → Option (Int32)) : Nat → Int32 → Int32 → Int32 → Option (Int32)
  | 0, _, _, _ => none
  | n + 1, l6, l7, l8 =>
    if p1_width ≤ l8 then
      nm (l7 + (1 : Int32)) fun (v3 : Int32) =>
      kL6 l6 v3
    else
      ld p1_holeX 4 p2 fun (v5 : Int32) =>
      bn1 (X0_crossing p1_planes v5 l8 p3) fun (r6 : Int32) =>
      if r6 = p4 then
        ld p1_holeY 4 p2 fun (v10 : Int32) =>
        bn1 (X0_crossing p1_planes v10 l7 p3) fun (r11 : Int32) =>
        if r11 = p5 then
          bn1 (X5_target p2 l8 l7) fun (r14 : Int32) =>
          ld o_seen 384 r14 fun (v17 : Int32) =>
          if (v17 / (100 : Int32)) = p3 then
            some (0 : Int32)
          else
            X5_reason_J88 o_seen p1_width p1_height p1_planes p1_cells p1_pulls p1_holeX p1_holeY p2 p3 p4 p5 kL6 (fun z0 z1 z2 => X5_reason_L18 o_seen p1_width p1_height p1_planes p1_cells p1_pulls p1_holeX p1_holeY p2 p3 p4 p5 kL6 n z0 z1 z2) (1 : Int32) l7 l8
        else
          X5_reason_J88 o_seen p1_width p1_height p1_planes p1_cells p1_pulls p1_holeX p1_holeY p2 p3 p4 p5 kL6 (fun z0 z1 z2 => X5_reason_L18 o_seen p1_width p1_height p1_planes p1_cells p1_pulls p1_holeX p1_holeY p2 p3 p4 p5 kL6 n z0 z1 z2) l6 l7 l8
      else
        X5_reason_J88 o_seen p1_width p1_height p1_planes p1_cells p1_pulls p1_holeX p1_holeY p2 p3 p4 p5 kL6 (fun z0 z1 z2 => X5_reason_L18 o_seen p1_width p1_height p1_planes p1_cells p1_pulls p1_holeX p1_holeY p2 p3 p4 p5 kL6 n z0 z1 z2) l6 l7 l8
def X5_reason_L6 (o_seen : Nat → Int32) (p1_width : Int32) (p1_height : Int32) (p1_planes : Int32) (p1_cells : Nat → Int32) (p1_pulls : Nat → Int32) (p1_holeX : Nat → Int32) (p1_holeY : Nat → Int32) (p2 : Int32) (p3 : Int32) (p4 : Int32) (p5 : Int32)  : Nat → Int32 → Int32 → Option (Int32)
  | 0, _, _ => none
  | n + 1, l6, l7 =>
    if p1_height ≤ l7 then
      bn1 (X0_kindAt p1_height p1_cells p1_pulls p3 p4 p5) fun (r20 : Int32) =>
      if r20 = (-1 : Int32) then
        some (1 : Int32)
      else
        if l6 = 0 then
          some (2 : Int32)
        else
          some (3 : Int32)
    else
      X5_reason_L18 o_seen p1_width p1_height p1_planes p1_cells p1_pulls p1_holeX p1_holeY p2 p3 p4 p5 (fun z0 z1 => X5_reason_L6 o_seen p1_width p1_height p1_planes p1_cells p1_pulls p1_holeX p1_holeY p2 p3 p4 p5 n z0 z1) FU l6 l7 (0 : Int32)
def X5_reason (o_seen : Nat → Int32) (p1_width : Int32) (p1_height : Int32) (p1_planes : Int32) (p1_cells : Nat → Int32) (p1_pulls : Nat → Int32) (p1_holeX : Nat → Int32) (p1_holeY : Nat → Int32) (p2 : Int32) (p3 : Int32) (p4 : Int32) (p5 : Int32) : Option (Int32) :=
  X5_reason_L6 o_seen p1_width p1_height p1_planes p1_cells p1_pulls p1_holeX p1_holeY p2 p3 p4 p5 FU (0 : Int32) (0 : Int32)
def X6_append (o_setup_filled : Int32) (o_setup_bytes : Nat → Int32) (p1 : Int32) (p2 : Int32) (p3 : Int32) (p4 : Int32) (p5 : Int32) : Option (Int32 × Int32 × (Nat → Int32)) :=
  bn1 (X3_hasRoomFor o_setup_filled (20 : Int32)) fun (r1 : Int32) =>
  if r1 = 0 then
    some ((-1 : Int32), o_setup_filled, o_setup_bytes)
  else
    bn2 (X3_put o_setup_filled o_setup_bytes p1) fun (o4 : Int32) (o5 : Nat → Int32) =>
    bn2 (X3_put o4 o5 p2) fun (o7 : Int32) (o8 : Nat → Int32) =>
    bn2 (X3_put o7 o8 p3) fun (o10 : Int32) (o11 : Nat → Int32) =>
    bn2 (X3_put o10 o11 p4) fun (o13 : Int32) (o14 : Nat → Int32) =>
    bn2 (X3_put o13 o14 p5) fun (o16 : Int32) (o17 : Nat → Int32) =>
    some (o16, o16, o17)
def X6_remember (j : Nat) (o_nextPast : Int32) (o_undoable : Int32) (o_now_box_width : Int32) (o_now_box_height : Int32) (o_now_box_planes : Int32) (o_now_box_holes : Int32) (o_now_box_reach : Int32) (o_now_box_cells : Nat → Int32) (o_now_box_pulls : Nat → Int32) (o_now_box_holeX : Nat → Int32) (o_now_box_holeY : Nat → Int32) (o_now_box_price_size : Int32) (o_now_box_price_codes : Nat → Int32) (o_now_crowd_viewers : Int32) (o_now_crowd_lookLength : Int32) (o_now_crowd_time : Int32) (o_now_crowd_lookers : Nat → Int32) (o_now_crowd_facts : Nat → Int32) (o_past_e_box_width : Int32) (o_past_e_box_height : Int32) (o_past_e_box_planes : Int32) (o_past_e_box_holes : Int32) (o_past_e_box_reach : Int32) (o_past_e_box_cells : Nat → Int32) (o_past_e_box_pulls : Nat → Int32) (o_past_e_box_holeX : Nat → Int32) (o_past_e_box_holeY : Nat → Int32) (o_past_e_box_price_size : Int32) (o_past_e_box_price_codes : Nat → Int32) (o_past_e_crowd_viewers : Int32) (o_past_e_crowd_lookLength : Int32) (o_past_e_crowd_time : Int32) (o_past_e_crowd_lookers : Nat → Int32) (o_past_e_crowd_facts : Nat → Int32) : Option (Int32 × Int32 × Int32 × Int32 × Int32 × Int32 × Int32 × (Nat → Int32) × (Nat → Int32) × (Nat → Int32) × (Nat → Int32) × Int32 × (Nat → Int32) × Int32 × Int32 × Int32 × (Nat → Int32) × (Nat → Int32)) :=
  ck (¬ (o_nextPast < 0 ∨ 8 ≤ o_nextPast.toNatClampNeg) ∧ o_nextPast.toNatClampNeg = j) <|
  bn16 (X4_copyFrom o_past_e_box_width o_past_e_box_height o_past_e_box_planes o_past_e_box_holes o_past_e_box_reach o_past_e_box_cells o_past_e_box_pulls o_past_e_box_holeX o_past_e_box_holeY o_past_e_box_price_size o_past_e_box_price_codes o_past_e_crowd_viewers o_past_e_crowd_lookLength o_past_e_crowd_time o_past_e_crowd_lookers o_past_e_crowd_facts o_now_box_width o_now_box_height o_now_box_planes o_now_box_holes o_now_box_reach o_now_box_cells o_now_box_pulls o_now_box_holeX o_now_box_holeY o_now_box_price_size o_now_box_price_codes o_now_crowd_viewers o_now_crowd_lookLength o_now_crowd_time o_now_crowd_lookers o_now_crowd_facts) fun (o3 : Int32) (o4 : Int32) (o5 : Int32) (o6 : Int32) (o7 : Int32) (o8 : Nat → Int32) (o9 : Nat → Int32) (o10 : Nat → Int32) (o11 : Nat → Int32) (o12 : Int32) (o13 : Nat → Int32) (o14 : Int32) (o15 : Int32) (o16 : Int32) (o17 : Nat → Int32) (o18 : Nat → Int32) =>
  nm ((o_nextPast + (1 : Int32)) - (o_nextPast + (1 : Int32)) / (8 : Int32) * (8 : Int32)) fun (v20 : Int32) =>
  nm (if (8 : Int32) < (o_undoable + (1 : Int32)) then (8 : Int32) else (o_undoable + (1 : Int32))) fun (v21 : Int32) =>
  some (v20, v21, o3, o4, o5, o6, o7, o8, o9, o10, o11, o12, o13, o14, o15, o16, o17, o18)
def X6_load_J15 (j : Nat) (o_nextPast : Int32) (o_undoable : Int32) (o_setup_filled : Int32) (o_setup_error : Int32) (o_setup_errorAt : Int32) (o_setup_end : Int32) (o_setup_at : Int32) (o_setup_number : Int32) (o_setup_planesTold : Int32) (o_setup_reachTold : Int32) (o_setup_lengthTold : Int32) (o_setup_priceTold : Int32) (o_setup_show_box_width : Int32) (o_setup_show_box_height : Int32) (o_setup_show_box_planes : Int32) (o_setup_show_box_holes : Int32) (o_setup_show_box_reach : Int32) (o_setup_show_box_cells : Nat → Int32) (o_setup_show_box_pulls : Nat → Int32) (o_setup_show_box_holeX : Nat → Int32) (o_setup_show_box_holeY : Nat → Int32) (o_setup_show_box_price_size : Int32) (o_setup_show_box_price_codes : Nat → Int32) (o_setup_show_crowd_viewers : Int32) (o_setup_show_crowd_lookLength : Int32) (o_setup_show_crowd_time : Int32) (o_setup_show_crowd_lookers : Nat → Int32) (o_setup_show_crowd_facts : Nat → Int32) (o_setup_bytes : Nat → Int32) (o_now_box_width : Int32) (o_now_box_height : Int32) (o_now_box_planes : Int32) (o_now_box_holes : Int32) (o_now_box_reach : Int32) (o_now_box_cells : Nat → Int32) (o_now_box_pulls : Nat → Int32) (o_now_box_holeX : Nat → Int32) (o_now_box_holeY : Nat → Int32) (o_now_box_price_size : Int32) (o_now_box_price_codes : Nat → Int32) (o_now_crowd_viewers : Int32) (o_now_crowd_lookLength : Int32) (o_now_crowd_time : Int32) (o_now_crowd_lookers : Nat → Int32) (o_now_crowd_facts : Nat → Int32) (o_view_seen : Nat → Int32) (o_view_counts : Nat → Int32) (o_view_kinds : Nat → Int32) (o_view_depths : Nat → Int32) (o_view_prices : Nat → Int32) (o_past_e_box_width : Int32) (o_past_e_box_height : Int32) (o_past_e_box_planes : Int32) (o_past_e_box_holes : Int32) (o_past_e_box_reach : Int32) (o_past_e_box_cells : Nat → Int32) (o_past_e_box_pulls : Nat → Int32) (o_past_e_box_holeX : Nat → Int32) (o_past_e_box_holeY : Nat → Int32) (o_past_e_box_price_size : Int32) (o_past_e_box_price_codes : Nat → Int32) (o_past_e_crowd_viewers : Int32) (o_past_e_crowd_lookLength : Int32) (o_past_e_crowd_time : Int32) (o_past_e_crowd_lookers : Nat → Int32) (o_past_e_crowd_facts : Nat → Int32) (p1 : Int32)   : Option (Sum Nat (Int32 × Int32 × Int32 × Int32 × Int32 × Int32 × Int32 × Int32 × Int32 × Int32 × Int32 × Int32 × Int32 × Int32 × Int32 × Int32 × Int32 × Int32 × (Nat → Int32) × (Nat → Int32) × (Nat → Int32) × (Nat → Int32) × Int32 × (Nat → Int32) × Int32 × Int32 × Int32 × (Nat → Int32) × (Nat → Int32) × Int32 × Int32 × Int32 × Int32 × Int32 × (Nat → Int32) × (Nat → Int32) × (Nat → Int32) × (Nat → Int32) × Int32 × (Nat → Int32) × Int32 × Int32 × Int32 × (Nat → Int32) × (Nat → Int32) × (Nat → Int32) × (Nat → Int32) × (Nat → Int32) × (Nat → Int32) × (Nat → Int32) × Int32 × Int32 × Int32 × Int32 × Int32 × (Nat → Int32) × (Nat → Int32) × (Nat → Int32) × (Nat → Int32) × Int32 × (Nat → Int32) × Int32 × Int32 × Int32 × (Nat → Int32) × (Nat → Int32))) :=
  some (.inl 2)
def X6_load (j : Nat) (o_nextPast : Int32) (o_undoable : Int32) (o_setup_filled : Int32) (o_setup_error : Int32) (o_setup_errorAt : Int32) (o_setup_end : Int32) (o_setup_at : Int32) (o_setup_number : Int32) (o_setup_planesTold : Int32) (o_setup_reachTold : Int32) (o_setup_lengthTold : Int32) (o_setup_priceTold : Int32) (o_setup_show_box_width : Int32) (o_setup_show_box_height : Int32) (o_setup_show_box_planes : Int32) (o_setup_show_box_holes : Int32) (o_setup_show_box_reach : Int32) (o_setup_show_box_cells : Nat → Int32) (o_setup_show_box_pulls : Nat → Int32) (o_setup_show_box_holeX : Nat → Int32) (o_setup_show_box_holeY : Nat → Int32) (o_setup_show_box_price_size : Int32) (o_setup_show_box_price_codes : Nat → Int32) (o_setup_show_crowd_viewers : Int32) (o_setup_show_crowd_lookLength : Int32) (o_setup_show_crowd_time : Int32) (o_setup_show_crowd_lookers : Nat → Int32) (o_setup_show_crowd_facts : Nat → Int32) (o_setup_bytes : Nat → Int32) (o_now_box_width : Int32) (o_now_box_height : Int32) (o_now_box_planes : Int32) (o_now_box_holes : Int32) (o_now_box_reach : Int32) (o_now_box_cells : Nat → Int32) (o_now_box_pulls : Nat → Int32) (o_now_box_holeX : Nat → Int32) (o_now_box_holeY : Nat → Int32) (o_now_box_price_size : Int32) (o_now_box_price_codes : Nat → Int32) (o_now_crowd_viewers : Int32) (o_now_crowd_lookLength : Int32) (o_now_crowd_time : Int32) (o_now_crowd_lookers : Nat → Int32) (o_now_crowd_facts : Nat → Int32) (o_view_seen : Nat → Int32) (o_view_counts : Nat → Int32) (o_view_kinds : Nat → Int32) (o_view_depths : Nat → Int32) (o_view_prices : Nat → Int32) (o_past_e_box_width : Int32) (o_past_e_box_height : Int32) (o_past_e_box_planes : Int32) (o_past_e_box_holes : Int32) (o_past_e_box_reach : Int32) (o_past_e_box_cells : Nat → Int32) (o_past_e_box_pulls : Nat → Int32) (o_past_e_box_holeX : Nat → Int32) (o_past_e_box_holeY : Nat → Int32) (o_past_e_box_price_size : Int32) (o_past_e_box_price_codes : Nat → Int32) (o_past_e_crowd_viewers : Int32) (o_past_e_crowd_lookLength : Int32) (o_past_e_crowd_time : Int32) (o_past_e_crowd_lookers : Nat → Int32) (o_past_e_crowd_facts : Nat → Int32) (p1 : Int32) : Option (Sum Nat (Int32 × Int32 × Int32 × Int32 × Int32 × Int32 × Int32 × Int32 × Int32 × Int32 × Int32 × Int32 × Int32 × Int32 × Int32 × Int32 × Int32 × Int32 × (Nat → Int32) × (Nat → Int32) × (Nat → Int32) × (Nat → Int32) × Int32 × (Nat → Int32) × Int32 × Int32 × Int32 × (Nat → Int32) × (Nat → Int32) × Int32 × Int32 × Int32 × Int32 × Int32 × (Nat → Int32) × (Nat → Int32) × (Nat → Int32) × (Nat → Int32) × Int32 × (Nat → Int32) × Int32 × Int32 × Int32 × (Nat → Int32) × (Nat → Int32) × (Nat → Int32) × (Nat → Int32) × (Nat → Int32) × (Nat → Int32) × (Nat → Int32) × Int32 × Int32 × Int32 × Int32 × Int32 × (Nat → Int32) × (Nat → Int32) × (Nat → Int32) × (Nat → Int32) × Int32 × (Nat → Int32) × Int32 × Int32 × Int32 × (Nat → Int32) × (Nat → Int32))) :=
  if p1 < 0 then
    X6_load_J15 j o_nextPast o_undoable o_setup_filled o_setup_error o_setup_errorAt o_setup_end o_setup_at o_setup_number o_setup_planesTold o_setup_reachTold o_setup_lengthTold o_setup_priceTold o_setup_show_box_width o_setup_show_box_height o_setup_show_box_planes o_setup_show_box_holes o_setup_show_box_reach o_setup_show_box_cells o_setup_show_box_pulls o_setup_show_box_holeX o_setup_show_box_holeY o_setup_show_box_price_size o_setup_show_box_price_codes o_setup_show_crowd_viewers o_setup_show_crowd_lookLength o_setup_show_crowd_time o_setup_show_crowd_lookers o_setup_show_crowd_facts o_setup_bytes o_now_box_width o_now_box_height o_now_box_planes o_now_box_holes o_now_box_reach o_now_box_cells o_now_box_pulls o_now_box_holeX o_now_box_holeY o_now_box_price_size o_now_box_price_codes o_now_crowd_viewers o_now_crowd_lookLength o_now_crowd_time o_now_crowd_lookers o_now_crowd_facts o_view_seen o_view_counts o_view_kinds o_view_depths o_view_prices o_past_e_box_width o_past_e_box_height o_past_e_box_planes o_past_e_box_holes o_past_e_box_reach o_past_e_box_cells o_past_e_box_pulls o_past_e_box_holeX o_past_e_box_holeY o_past_e_box_price_size o_past_e_box_price_codes o_past_e_crowd_viewers o_past_e_crowd_lookLength o_past_e_crowd_time o_past_e_crowd_lookers o_past_e_crowd_facts p1
  else
    if p1 ≤ o_setup_filled then
      bn27 (X3_read o_setup_filled o_setup_error o_setup_errorAt o_setup_end o_setup_at o_setup_number o_setup_planesTold o_setup_reachTold o_setup_lengthTold o_setup_priceTold o_setup_show_box_width o_setup_show_box_height o_setup_show_box_planes o_setup_show_box_holes o_setup_show_box_reach o_setup_show_box_cells o_setup_show_box_pulls o_setup_show_box_holeX o_setup_show_box_holeY o_setup_show_box_price_size o_setup_show_box_price_codes o_setup_show_crowd_viewers o_setup_show_crowd_lookLength o_setup_show_crowd_time o_setup_show_crowd_lookers o_setup_show_crowd_facts o_setup_bytes p1) fun (r3 : Int32) (o4 : Int32) (o5 : Int32) (o6 : Int32) (o7 : Int32) (o8 : Int32) (o9 : Int32) (o10 : Int32) (o11 : Int32) (o12 : Int32) (o13 : Int32) (o14 : Int32) (o15 : Int32) (o16 : Int32) (o17 : Int32) (o18 : Int32) (o19 : Nat → Int32) (o20 : Nat → Int32) (o21 : Nat → Int32) (o22 : Nat → Int32) (o23 : Int32) (o24 : Nat → Int32) (o25 : Int32) (o26 : Int32) (o27 : Int32) (o28 : Nat → Int32) (o29 : Nat → Int32) =>
      if r3 = 0 then
        some (.inr (o5, o_nextPast, o_undoable, o4, o5, o6, o7, o8, o9, o10, o11, o12, o13, o14, o15, o16, o17, o18, o19, o20, o21, o22, o23, o24, o25, o26, o27, o28, o29, o_now_box_width, o_now_box_height, o_now_box_planes, o_now_box_holes, o_now_box_reach, o_now_box_cells, o_now_box_pulls, o_now_box_holeX, o_now_box_holeY, o_now_box_price_size, o_now_box_price_codes, o_now_crowd_viewers, o_now_crowd_lookLength, o_now_crowd_time, o_now_crowd_lookers, o_now_crowd_facts, o_view_seen, o_view_counts, o_view_kinds, o_view_depths, o_view_prices, o_past_e_box_width, o_past_e_box_height, o_past_e_box_planes, o_past_e_box_holes, o_past_e_box_reach, o_past_e_box_cells, o_past_e_box_pulls, o_past_e_box_holeX, o_past_e_box_holeY, o_past_e_box_price_size, o_past_e_box_price_codes, o_past_e_crowd_viewers, o_past_e_crowd_lookLength, o_past_e_crowd_time, o_past_e_crowd_lookers, o_past_e_crowd_facts))
      else
        bn18 (X6_remember j o_nextPast o_undoable o_now_box_width o_now_box_height o_now_box_planes o_now_box_holes o_now_box_reach o_now_box_cells o_now_box_pulls o_now_box_holeX o_now_box_holeY o_now_box_price_size o_now_box_price_codes o_now_crowd_viewers o_now_crowd_lookLength o_now_crowd_time o_now_crowd_lookers o_now_crowd_facts o_past_e_box_width o_past_e_box_height o_past_e_box_planes o_past_e_box_holes o_past_e_box_reach o_past_e_box_cells o_past_e_box_pulls o_past_e_box_holeX o_past_e_box_holeY o_past_e_box_price_size o_past_e_box_price_codes o_past_e_crowd_viewers o_past_e_crowd_lookLength o_past_e_crowd_time o_past_e_crowd_lookers o_past_e_crowd_facts) fun (o32 : Int32) (o33 : Int32) (o34 : Int32) (o35 : Int32) (o36 : Int32) (o37 : Int32) (o38 : Int32) (o39 : Nat → Int32) (o40 : Nat → Int32) (o41 : Nat → Int32) (o42 : Nat → Int32) (o43 : Int32) (o44 : Nat → Int32) (o45 : Int32) (o46 : Int32) (o47 : Int32) (o48 : Nat → Int32) (o49 : Nat → Int32) =>
        bn16 (X4_copyFrom o_now_box_width o_now_box_height o_now_box_planes o_now_box_holes o_now_box_reach o_now_box_cells o_now_box_pulls o_now_box_holeX o_now_box_holeY o_now_box_price_size o_now_box_price_codes o_now_crowd_viewers o_now_crowd_lookLength o_now_crowd_time o_now_crowd_lookers o_now_crowd_facts o14 o15 o16 o17 o18 o19 o20 o21 o22 o23 o24 o25 o26 o27 o28 o29) fun (o51 : Int32) (o52 : Int32) (o53 : Int32) (o54 : Int32) (o55 : Int32) (o56 : Nat → Int32) (o57 : Nat → Int32) (o58 : Nat → Int32) (o59 : Nat → Int32) (o60 : Int32) (o61 : Nat → Int32) (o62 : Int32) (o63 : Int32) (o64 : Int32) (o65 : Nat → Int32) (o66 : Nat → Int32) =>
        bn5 (X5_update o_view_seen o_view_counts o_view_kinds o_view_depths o_view_prices o51 o52 o53 o54 o56 o57 o58 o59) fun (o68 : Nat → Int32) (o69 : Nat → Int32) (o70 : Nat → Int32) (o71 : Nat → Int32) (o72 : Nat → Int32) =>
        some (.inr (o62, o32, o33, o4, o5, o6, o7, o8, o9, o10, o11, o12, o13, o14, o15, o16, o17, o18, o19, o20, o21, o22, o23, o24, o25, o26, o27, o28, o29, o51, o52, o53, o54, o55, o56, o57, o58, o59, o60, o61, o62, o63, o64, o65, o66, o68, o69, o70, o71, o72, o34, o35, o36, o37, o38, o39, o40, o41, o42, o43, o44, o45, o46, o47, o48, o49))
    else
      X6_load_J15 j o_nextPast o_undoable o_setup_filled o_setup_error o_setup_errorAt o_setup_end o_setup_at o_setup_number o_setup_planesTold o_setup_reachTold o_setup_lengthTold o_setup_priceTold o_setup_show_box_width o_setup_show_box_height o_setup_show_box_planes o_setup_show_box_holes o_setup_show_box_reach o_setup_show_box_cells o_setup_show_box_pulls o_setup_show_box_holeX o_setup_show_box_holeY o_setup_show_box_price_size o_setup_show_box_price_codes o_setup_show_crowd_viewers o_setup_show_crowd_lookLength o_setup_show_crowd_time o_setup_show_crowd_lookers o_setup_show_crowd_facts o_setup_bytes o_now_box_width o_now_box_height o_now_box_planes o_now_box_holes o_now_box_reach o_now_box_cells o_now_box_pulls o_now_box_holeX o_now_box_holeY o_now_box_price_size o_now_box_price_codes o_now_crowd_viewers o_now_crowd_lookLength o_now_crowd_time o_now_crowd_lookers o_now_crowd_facts o_view_seen o_view_counts o_view_kinds o_view_depths o_view_prices o_past_e_box_width o_past_e_box_height o_past_e_box_planes o_past_e_box_holes o_past_e_box_reach o_past_e_box_cells o_past_e_box_pulls o_past_e_box_holeX o_past_e_box_holeY o_past_e_box_price_size o_past_e_box_price_codes o_past_e_crowd_viewers o_past_e_crowd_lookLength o_past_e_crowd_time o_past_e_crowd_lookers o_past_e_crowd_facts p1
def X6_errorOffset (o_setup_errorAt : Int32) : Option (Int32) :=
  some o_setup_errorAt
def X6_state (o_now_box_width : Int32) (o_now_box_height : Int32) (o_now_box_planes : Int32) (o_now_box_holes : Int32) (o_now_box_reach : Int32) (o_now_crowd_viewers : Int32) (o_now_crowd_lookLength : Int32) (o_now_crowd_time : Int32) (o_now_crowd_facts : Nat → Int32) (p1 : Int32) : Option (Sum Nat (Int32)) :=
  if p1 = (0 : Int32) then
    some (.inr o_now_box_width)
  else
  if p1 = (1 : Int32) then
    some (.inr o_now_box_height)
  else
  if p1 = (2 : Int32) then
    some (.inr o_now_box_planes)
  else
  if p1 = (3 : Int32) then
    some (.inr o_now_box_holes)
  else
  if p1 = (4 : Int32) then
    some (.inr o_now_box_reach)
  else
  if p1 = (5 : Int32) then
    some (.inr o_now_crowd_lookLength)
  else
  if p1 = (6 : Int32) then
    some (.inr o_now_crowd_time)
  else
  if p1 = (7 : Int32) then
    some (.inr o_now_crowd_viewers)
  else
  if p1 = (8 : Int32) then
    bn1 (X1_count o_now_crowd_viewers o_now_crowd_facts (0 : Int32)) fun (r10 : Int32) =>
    some (.inr r10)
  else
  if p1 = (9 : Int32) then
    bn1 (X1_count o_now_crowd_viewers o_now_crowd_facts (1 : Int32)) fun (r13 : Int32) =>
    some (.inr r13)
  else
  if p1 = (10 : Int32) then
    bn1 (X1_count o_now_crowd_viewers o_now_crowd_facts (2 : Int32)) fun (r16 : Int32) =>
    some (.inr r16)
  else
  if p1 = (11 : Int32) then
    bn1 (X1_count o_now_crowd_viewers o_now_crowd_facts (3 : Int32)) fun (r19 : Int32) =>
    some (.inr r19)
  else
  if p1 = (12 : Int32) then
    bn1 (X1_allPaid o_now_crowd_viewers o_now_crowd_facts) fun (r22 : Int32) =>
    some (.inr r22)
  else
  if p1 = (13 : Int32) then
    bn1 (X1_count o_now_crowd_viewers o_now_crowd_facts (1 : Int32)) fun (r25 : Int32) =>
    some (.inr (o_now_box_holes - r25))
  else
  some (.inl 2)
def X6_requirePlane_J18 (o_now_box_planes : Int32) (p1 : Int32)   : Option (Sum Nat (Unit)) :=
  some (.inl 1)
def X6_requirePlane (o_now_box_planes : Int32) (p1 : Int32) : Option (Sum Nat (Unit)) :=
  if p1 < 0 then
    X6_requirePlane_J18 o_now_box_planes p1
  else
    if p1 < o_now_box_planes then
      some (.inr ())
    else
      X6_requirePlane_J18 o_now_box_planes p1
