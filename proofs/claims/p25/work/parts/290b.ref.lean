/-! pure programs: what the bytecode computes, written by program (gen.py) -/
def X7_come_J67 (o_undoDepth : Int32) (o_data : Nat → Int32) (o_history_r0 : Nat → Int32) (o_history_r1 : Nat → Int32) (o_history_r2 : Nat → Int32) (o_history_r3 : Nat → Int32) (o_history_r4 : Nat → Int32) (o_history_r5 : Nat → Int32) (o_history_r6 : Nat → Int32) (o_history_r7 : Nat → Int32) (p1 : Int32) (p2 : Int32) (p3 : Int32)  (k1 : Int32) (o_thrown : Int32) : Option (Int32 × Int32 × Int32 × (Nat → Int32) × (Nat → Int32) × (Nat → Int32) × (Nat → Int32) × (Nat → Int32) × (Nat → Int32) × (Nat → Int32) × (Nat → Int32) × (Nat → Int32)) :=
  bn2 (X7_fails o_thrown k1 (2 : Int32)) fun (r1 : Int32) (o2 : Int32) =>
  if r1 = 0 then
    bn9 (X7_remember o_undoDepth o_data o_history_r0 o_history_r1 o_history_r2 o_history_r3 o_history_r4 o_history_r5 o_history_r6 o_history_r7) fun (o5 : Int32) (o6 : Nat → Int32) (o7 : Nat → Int32) (o8 : Nat → Int32) (o9 : Nat → Int32) (o10 : Nat → Int32) (o11 : Nat → Int32) (o12 : Nat → Int32) (o13 : Nat → Int32) =>
    bn1 (X7_addViewer 2243 o_data p1 p2 p3) fun (o15 : Nat → Int32) =>
    ld o15 2243 (7 : Int32) fun (v18 : Int32) =>
    some ((v18 - (1 : Int32)), o2, o5, o15, o6, o7, o8, o9, o10, o11, o12, o13)
  else
    some ((0 : Int32), o2, o_undoDepth, o_data, o_history_r0, o_history_r1, o_history_r2, o_history_r3, o_history_r4, o_history_r5, o_history_r6, o_history_r7)
def X7_come_J42 (o_undoDepth : Int32) (o_data : Nat → Int32) (o_history_r0 : Nat → Int32) (o_history_r1 : Nat → Int32) (o_history_r2 : Nat → Int32) (o_history_r3 : Nat → Int32) (o_history_r4 : Nat → Int32) (o_history_r5 : Nat → Int32) (o_history_r6 : Nat → Int32) (o_history_r7 : Nat → Int32) (p1 : Int32) (p2 : Int32) (p3 : Int32)  (k1 : Int32) (o_thrown : Int32) : Option (Int32 × Int32 × Int32 × (Nat → Int32) × (Nat → Int32) × (Nat → Int32) × (Nat → Int32) × (Nat → Int32) × (Nat → Int32) × (Nat → Int32) × (Nat → Int32) × (Nat → Int32)) :=
  bn2 (X7_fails o_thrown k1 (1 : Int32)) fun (r19 : Int32) (o20 : Int32) =>
  if r19 = 0 then
    ld o_data 2243 (7 : Int32) fun (v24 : Int32) =>
    if v24 = (20 : Int32) then
      X7_come_J67 o_undoDepth o_data o_history_r0 o_history_r1 o_history_r2 o_history_r3 o_history_r4 o_history_r5 o_history_r6 o_history_r7 p1 p2 p3 (1 : Int32) o20
    else
      X7_come_J67 o_undoDepth o_data o_history_r0 o_history_r1 o_history_r2 o_history_r3 o_history_r4 o_history_r5 o_history_r6 o_history_r7 p1 p2 p3 (0 : Int32) o20
  else
    some ((0 : Int32), o20, o_undoDepth, o_data, o_history_r0, o_history_r1, o_history_r2, o_history_r3, o_history_r4, o_history_r5, o_history_r6, o_history_r7)
def X7_come_J37 (o_undoDepth : Int32) (o_data : Nat → Int32) (o_history_r0 : Nat → Int32) (o_history_r1 : Nat → Int32) (o_history_r2 : Nat → Int32) (o_history_r3 : Nat → Int32) (o_history_r4 : Nat → Int32) (o_history_r5 : Nat → Int32) (o_history_r6 : Nat → Int32) (o_history_r7 : Nat → Int32) (p1 : Int32) (p2 : Int32) (p3 : Int32)  (o_thrown : Int32) : Option (Int32 × Int32 × Int32 × (Nat → Int32) × (Nat → Int32) × (Nat → Int32) × (Nat → Int32) × (Nat → Int32) × (Nat → Int32) × (Nat → Int32) × (Nat → Int32) × (Nat → Int32)) :=
  X7_come_J42 o_undoDepth o_data o_history_r0 o_history_r1 o_history_r2 o_history_r3 o_history_r4 o_history_r5 o_history_r6 o_history_r7 p1 p2 p3 (1 : Int32) o_thrown
def X7_come (o_thrown : Int32) (o_undoDepth : Int32) (o_data : Nat → Int32) (o_history_r0 : Nat → Int32) (o_history_r1 : Nat → Int32) (o_history_r2 : Nat → Int32) (o_history_r3 : Nat → Int32) (o_history_r4 : Nat → Int32) (o_history_r5 : Nat → Int32) (o_history_r6 : Nat → Int32) (o_history_r7 : Nat → Int32) (p1 : Int32) (p2 : Int32) (p3 : Int32) : Option (Int32 × Int32 × Int32 × (Nat → Int32) × (Nat → Int32) × (Nat → Int32) × (Nat → Int32) × (Nat → Int32) × (Nat → Int32) × (Nat → Int32) × (Nat → Int32) × (Nat → Int32)) :=
  bn1 (X7_in p1 (0 : Int32) (9 : Int32)) fun (r26 : Int32) =>
  if r26 = 0 then
    X7_come_J37 o_undoDepth o_data o_history_r0 o_history_r1 o_history_r2 o_history_r3 o_history_r4 o_history_r5 o_history_r6 o_history_r7 p1 p2 p3 (0 : Int32)
  else
    bn1 (X7_in p2 (0 : Int32) (25 : Int32)) fun (r29 : Int32) =>
    if r29 = 0 then
      X7_come_J37 o_undoDepth o_data o_history_r0 o_history_r1 o_history_r2 o_history_r3 o_history_r4 o_history_r5 o_history_r6 o_history_r7 p1 p2 p3 (0 : Int32)
    else
      bn1 (X7_in p3 (0 : Int32) (999 : Int32)) fun (r32 : Int32) =>
      if r32 = 0 then
        X7_come_J37 o_undoDepth o_data o_history_r0 o_history_r1 o_history_r2 o_history_r3 o_history_r4 o_history_r5 o_history_r6 o_history_r7 p1 p2 p3 (0 : Int32)
      else
        X7_come_J42 o_undoDepth o_data o_history_r0 o_history_r1 o_history_r2 o_history_r3 o_history_r4 o_history_r5 o_history_r6 o_history_r7 p1 p2 p3 (0 : Int32) (0 : Int32)
def X7_length_J21 (o_undoDepth : Int32) (o_data : Nat → Int32) (o_history_r0 : Nat → Int32) (o_history_r1 : Nat → Int32) (o_history_r2 : Nat → Int32) (o_history_r3 : Nat → Int32) (o_history_r4 : Nat → Int32) (o_history_r5 : Nat → Int32) (o_history_r6 : Nat → Int32) (o_history_r7 : Nat → Int32) (p1 : Int32)  (k1 : Int32) (o_thrown : Int32) : Option (Int32 × Int32 × Int32 × (Nat → Int32) × (Nat → Int32) × (Nat → Int32) × (Nat → Int32) × (Nat → Int32) × (Nat → Int32) × (Nat → Int32) × (Nat → Int32) × (Nat → Int32)) :=
  bn2 (X7_fails o_thrown k1 (1 : Int32)) fun (r1 : Int32) (o2 : Int32) =>
  if r1 = 0 then
    bn9 (X7_remember o_undoDepth o_data o_history_r0 o_history_r1 o_history_r2 o_history_r3 o_history_r4 o_history_r5 o_history_r6 o_history_r7) fun (o5 : Int32) (o6 : Nat → Int32) (o7 : Nat → Int32) (o8 : Nat → Int32) (o9 : Nat → Int32) (o10 : Nat → Int32) (o11 : Nat → Int32) (o12 : Nat → Int32) (o13 : Nat → Int32) =>
    ld o_data 2243 (5 : Int32) fun (v16 : Int32) =>
    st 2243 (5 : Int32) (upd o_data (5 : Int32).toNatClampNeg p1) fun (b18 : Nat → Int32) =>
    some (v16, o2, o5, b18, o6, o7, o8, o9, o10, o11, o12, o13)
  else
    some ((0 : Int32), o2, o_undoDepth, o_data, o_history_r0, o_history_r1, o_history_r2, o_history_r3, o_history_r4, o_history_r5, o_history_r6, o_history_r7)
def X7_length (o_thrown : Int32) (o_undoDepth : Int32) (o_data : Nat → Int32) (o_history_r0 : Nat → Int32) (o_history_r1 : Nat → Int32) (o_history_r2 : Nat → Int32) (o_history_r3 : Nat → Int32) (o_history_r4 : Nat → Int32) (o_history_r5 : Nat → Int32) (o_history_r6 : Nat → Int32) (o_history_r7 : Nat → Int32) (p1 : Int32) : Option (Int32 × Int32 × Int32 × (Nat → Int32) × (Nat → Int32) × (Nat → Int32) × (Nat → Int32) × (Nat → Int32) × (Nat → Int32) × (Nat → Int32) × (Nat → Int32) × (Nat → Int32)) :=
  bn1 (X7_in p1 (1 : Int32) (20 : Int32)) fun (r19 : Int32) =>
  if r19 = 0 then
    X7_length_J21 o_undoDepth o_data o_history_r0 o_history_r1 o_history_r2 o_history_r3 o_history_r4 o_history_r5 o_history_r6 o_history_r7 p1 (1 : Int32) (0 : Int32)
  else
    X7_length_J21 o_undoDepth o_data o_history_r0 o_history_r1 o_history_r2 o_history_r3 o_history_r4 o_history_r5 o_history_r6 o_history_r7 p1 (0 : Int32) (0 : Int32)
def X7_undo (o_thrown : Int32) (o_undoDepth : Int32) (o_data : Nat → Int32) (o_history_r0 : Nat → Int32) (o_history_r1 : Nat → Int32) (o_history_r2 : Nat → Int32) (o_history_r3 : Nat → Int32) (o_history_r4 : Nat → Int32) (o_history_r5 : Nat → Int32) (o_history_r6 : Nat → Int32) (o_history_r7 : Nat → Int32) : Option (Int32 × Int32 × Int32 × (Nat → Int32)) :=
  if o_undoDepth = 0 then
    some ((-1 : Int32), (0 : Int32), o_undoDepth, o_data)
  else
    nm (o_undoDepth - (1 : Int32)) fun (v2 : Int32) =>
    ck (¬ (v2 < 0 ∨ 8 ≤ v2.toNatClampNeg)) <|
    rw8 v2.toNatClampNeg
      (bn1 (X7_copy 2243 2243 o_history_r0 o_data (2243 : Int32)) fun (o6 : Nat → Int32) =>
      some (v2, (0 : Int32), v2, o6))
      (bn1 (X7_copy 2243 2243 o_history_r1 o_data (2243 : Int32)) fun (o8 : Nat → Int32) =>
      some (v2, (0 : Int32), v2, o8))
      (bn1 (X7_copy 2243 2243 o_history_r2 o_data (2243 : Int32)) fun (o10 : Nat → Int32) =>
      some (v2, (0 : Int32), v2, o10))
      (bn1 (X7_copy 2243 2243 o_history_r3 o_data (2243 : Int32)) fun (o12 : Nat → Int32) =>
      some (v2, (0 : Int32), v2, o12))
      (bn1 (X7_copy 2243 2243 o_history_r4 o_data (2243 : Int32)) fun (o14 : Nat → Int32) =>
      some (v2, (0 : Int32), v2, o14))
      (bn1 (X7_copy 2243 2243 o_history_r5 o_data (2243 : Int32)) fun (o16 : Nat → Int32) =>
      some (v2, (0 : Int32), v2, o16))
      (bn1 (X7_copy 2243 2243 o_history_r6 o_data (2243 : Int32)) fun (o18 : Nat → Int32) =>
      some (v2, (0 : Int32), v2, o18))
      (bn1 (X7_copy 2243 2243 o_history_r7 o_data (2243 : Int32)) fun (o20 : Nat → Int32) =>
      some (v2, (0 : Int32), v2, o20))
def X7_checksum_L146 (o_data : Nat → Int32) (kL132 : Int64 → Int32 → Int32 → Option (Int64 × Int32)) : Nat → Int64 → Int32 → Int32 → Int32 → Option (Int64 × Int32)
  | 0, _, _, _, _ => none
  | n + 1, l1, l3, l4, o_thrown =>
    if (7 : Int32) ≤ l4 then
      nm (l3 + (1 : Int32)) fun (v2 : Int32) =>
      kL132 l1 v2 o_thrown
    else
      bn1 (X7_toldViewer o_data l3 l4) fun (r3 : Int32) =>
      nm (((31 : Int64) * l1) + r3.toInt64) fun (v5 : Int64) =>
      nm (l4 + (1 : Int32)) fun (v6 : Int32) =>
      X7_checksum_L146 o_data kL132 n v5 l3 v6 o_thrown
def X7_checksum_L132 (o_data : Nat → Int32)  : Nat → Int64 → Int32 → Int32 → Option (Int64 × Int32)
  | 0, _, _, _ => none
  | n + 1, l1, l3, o_thrown =>
    ld o_data 2243 (7 : Int32) fun (v8 : Int32) =>
    if v8 ≤ l3 then
      some (l1, o_thrown)
    else
      X7_checksum_L146 o_data (fun z0 z1 z2 => X7_checksum_L132 o_data n z0 z1 z2) FU l1 l3 (0 : Int32) o_thrown
def X7_checksum_L97 (o_data : Nat → Int32) (kL84 : Int64 → Int32 → Int32 → Option (Int64 × Int32)) : Nat → Int64 → Int32 → Int32 → Int32 → Option (Int64 × Int32)
  | 0, _, _, _, _ => none
  | n + 1, l1, l3, l4, o_thrown =>
    if (5 : Int32) ≤ l4 then
      nm (l3 + (1 : Int32)) fun (v11 : Int32) =>
      kL84 l1 v11 o_thrown
    else
      bn1 (X7_toldHole o_data l3 l4) fun (r12 : Int32) =>
      nm (((31 : Int64) * l1) + r12.toInt64) fun (v14 : Int64) =>
      nm (l4 + (1 : Int32)) fun (v15 : Int32) =>
      X7_checksum_L97 o_data kL84 n v14 l3 v15 o_thrown
def X7_checksum_L84 (o_data : Nat → Int32)  : Nat → Int64 → Int32 → Int32 → Option (Int64 × Int32)
  | 0, _, _, _ => none
  | n + 1, l1, l3, o_thrown =>
    ld o_data 2243 (3 : Int32) fun (v17 : Int32) =>
    if v17 ≤ l3 then
      X7_checksum_L132 o_data FU l1 (0 : Int32) o_thrown
    else
      X7_checksum_L97 o_data (fun z0 z1 z2 => X7_checksum_L84 o_data n z0 z1 z2) FU l1 l3 (0 : Int32) o_thrown
def X7_checksum_L49 (o_data : Nat → Int32) (kL36 : Int64 → Int32 → Int32 → Option (Int64 × Int32)) : Nat → Int64 → Int32 → Int32 → Int32 → Option (Int64 × Int32)
  | 0, _, _, _, _ => none
  | n + 1, l1, l3, l4, o_thrown =>
    if (3 : Int32) ≤ l4 then
      nm (l3 + (1 : Int32)) fun (v20 : Int32) =>
      kL36 l1 v20 o_thrown
    else
      bn1 (X7_toldPlane o_data l3 l4) fun (r21 : Int32) =>
      nm (((31 : Int64) * l1) + r21.toInt64) fun (v23 : Int64) =>
      nm (l4 + (1 : Int32)) fun (v24 : Int32) =>
      X7_checksum_L49 o_data kL36 n v23 l3 v24 o_thrown
def X7_checksum_L36 (o_data : Nat → Int32)  : Nat → Int64 → Int32 → Int32 → Option (Int64 × Int32)
  | 0, _, _, _ => none
  | n + 1, l1, l3, o_thrown =>
    ld o_data 2243 (2 : Int32) fun (v26 : Int32) =>
    if v26 ≤ l3 then
      X7_checksum_L84 o_data FU l1 (0 : Int32) o_thrown
    else
      X7_checksum_L49 o_data (fun z0 z1 z2 => X7_checksum_L36 o_data n z0 z1 z2) FU l1 l3 (0 : Int32) o_thrown
def X7_checksum_L9 (o_data : Nat → Int32)  : Nat → Int64 → Int32 → Int32 → Option (Int64 × Int32)
  | 0, _, _, _ => none
  | n + 1, l1, l3, o_thrown =>
    if (14 : Int32) ≤ l3 then
      X7_checksum_L36 o_data FU l1 (0 : Int32) o_thrown
    else
      bn1 (X7_told o_data l3) fun (r29 : Int32) =>
      nm (((31 : Int64) * l1) + r29.toInt64) fun (v31 : Int64) =>
      nm (l3 + (1 : Int32)) fun (v32 : Int32) =>
      X7_checksum_L9 o_data n v31 v32 o_thrown
def X7_checksum (o_thrown : Int32) (o_data : Nat → Int32) : Option (Int64 × Int32) :=
  X7_checksum_L9 o_data FU (0 : Int64) (0 : Int32) (0 : Int32)
