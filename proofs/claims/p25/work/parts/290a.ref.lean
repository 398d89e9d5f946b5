/-! pure programs: what the bytecode computes, written by program (gen.py) -/
def X7_thrown (o_thrown : Int32) : Option (Int32) :=
  some o_thrown
def X7_fails_J16 (p1 : Int32) (p2 : Int32)  (o_thrown : Int32) : Option (Int32 × Int32) :=
  if o_thrown = 0 then
    some ((0 : Int32), o_thrown)
  else
    some ((1 : Int32), o_thrown)
def X7_fails (o_thrown : Int32) (p1 : Int32) (p2 : Int32) : Option (Int32 × Int32) :=
  if p1 = 0 then
    X7_fails_J16 p1 p2 o_thrown
  else
    if o_thrown = 0 then
      X7_fails_J16 p1 p2 p2
    else
      X7_fails_J16 p1 p2 o_thrown
def X7_in (p0 : Int32) (p1 : Int32) (p2 : Int32) : Option (Int32) :=
  if p0 < p1 then
    some (0 : Int32)
  else
    if p2 < p0 then
      some (0 : Int32)
    else
      some (1 : Int32)
def X7_min (p0 : Int32) (p1 : Int32) : Option (Int32) :=
  if p1 ≤ p0 then
    some p1
  else
    some p0
def X7_max (p0 : Int32) (p1 : Int32) : Option (Int32) :=
  if p0 ≤ p1 then
    some p1
  else
    some p0
def X7_copy_L2 (n_o : Nat) (n_p1 : Nat) (o : Nat → Int32) (p2 : Int32)  : Nat → Int32 → (Nat → Int32) → Option ((Nat → Int32))
  | 0, _, _ => none
  | n + 1, l3, p1 =>
    if p2 ≤ l3 then
      some p1
    else
      ld o n_o l3 fun (v3 : Int32) =>
      st n_p1 l3 (upd p1 l3.toNatClampNeg v3) fun (b5 : Nat → Int32) =>
      nm (l3 + (1 : Int32)) fun (v6 : Int32) =>
      X7_copy_L2 n_o n_p1 o p2 n v6 b5
def X7_copy (n_o : Nat) (n_p1 : Nat) (o : Nat → Int32) (p1 : Nat → Int32) (p2 : Int32) : Option ((Nat → Int32)) :=
  X7_copy_L2 n_o n_p1 o p2 FU (0 : Int32) p1
def X7_layBox_J88 (n_o : Nat) (p1 : Int32) (p2 : Int32) (p3 : Int32) (kL46 : Int32 → (Nat → Int32) → Option ((Nat → Int32))) (kL55 : Int32 → Int32 → (Nat → Int32) → Option ((Nat → Int32))) (l4 : Int32) (l5 : Int32) (k1 : Int32) (k2 : Int32) (o : Nat → Int32) : Option ((Nat → Int32)) :=
  st n_o k1 (upd o k1.toNatClampNeg k2) fun (b2 : Nat → Int32) =>
  nm (l5 + (1 : Int32)) fun (v3 : Int32) =>
  kL55 l4 v3 b2
def X7_layBox_L55 (n_o : Nat) (p1 : Int32) (p2 : Int32) (p3 : Int32) (kL46 : Int32 → (Nat → Int32) → Option ((Nat → Int32))) : Nat → Int32 → Int32 → (Nat → Int32) → Option ((Nat → Int32))
  | 0, _, _, _ => none
  | n + 1, l4, l5, o =>
    if (p1 * p2) ≤ l5 then
      nm (l4 + (1 : Int32)) fun (v5 : Int32) =>
      kL46 v5 o
    else
      if l4 = (p3 - (1 : Int32)) then
        X7_layBox_J88 n_o p1 p2 p3 kL46 (fun z0 z1 z2 => X7_layBox_L55 n_o p1 p2 p3 kL46 n z0 z1 z2) l4 l5 (((15 : Int32) + ((96 : Int32) * l4)) + l5) (0 : Int32) o
      else
        X7_layBox_J88 n_o p1 p2 p3 kL46 (fun z0 z1 z2 => X7_layBox_L55 n_o p1 p2 p3 kL46 n z0 z1 z2) l4 l5 (((15 : Int32) + ((96 : Int32) * l4)) + l5) (-1 : Int32) o
def X7_layBox_L46 (n_o : Nat) (p1 : Int32) (p2 : Int32) (p3 : Int32)  : Nat → Int32 → (Nat → Int32) → Option ((Nat → Int32))
  | 0, _, _ => none
  | n + 1, l4, o =>
    if p3 ≤ l4 then
      some o
    else
      X7_layBox_L55 n_o p1 p2 p3 (fun z0 z1 => X7_layBox_L46 n_o p1 p2 p3 n z0 z1) FU l4 (0 : Int32) o
def X7_layBox_L3 (n_o : Nat) (p1 : Int32) (p2 : Int32) (p3 : Int32)  : Nat → Int32 → (Nat → Int32) → Option ((Nat → Int32))
  | 0, _, _ => none
  | n + 1, l4, o =>
    if (2243 : Int32) ≤ l4 then
      st n_o (0 : Int32) (upd o (0 : Int32).toNatClampNeg p1) fun (b10 : Nat → Int32) =>
      st n_o (1 : Int32) (upd b10 (1 : Int32).toNatClampNeg p2) fun (b12 : Nat → Int32) =>
      st n_o (2 : Int32) (upd b12 (2 : Int32).toNatClampNeg p3) fun (b14 : Nat → Int32) =>
      st n_o (4 : Int32) (upd b14 (4 : Int32).toNatClampNeg (9 : Int32)) fun (b16 : Nat → Int32) =>
      st n_o (5 : Int32) (upd b16 (5 : Int32).toNatClampNeg (3 : Int32)) fun (b18 : Nat → Int32) =>
      X7_layBox_L46 n_o p1 p2 p3 FU (0 : Int32) b18
    else
      st n_o l4 (upd o l4.toNatClampNeg (0 : Int32)) fun (b20 : Nat → Int32) =>
      nm (l4 + (1 : Int32)) fun (v21 : Int32) =>
      X7_layBox_L3 n_o p1 p2 p3 n v21 b20
def X7_layBox (n_o : Nat) (o : Nat → Int32) (p1 : Int32) (p2 : Int32) (p3 : Int32) : Option ((Nat → Int32)) :=
  X7_layBox_L3 n_o p1 p2 p3 FU (0 : Int32) o
def X7_append_J76 (p1 : Int32) (p2 : Int32) (p3 : Int32) (p4 : Int32) (p5 : Int32) (kL23 : Int32 → Int32 → Int32 → (Nat → Int32) → Option (Int32 × Int32 × Int32 × (Nat → Int32))) (l6 : Int32) (k0 : Int32) (o_thrown : Int32) (o_bufferLength : Int32) (o_buffer : Nat → Int32) : Option (Int32 × Int32 × Int32 × (Nat → Int32)) :=
  nm (l6 - l6 / (4 : Int32) * (4 : Int32)) fun (v1 : Int32) =>
  st 800 o_bufferLength (upd o_buffer o_bufferLength.toNatClampNeg ((k0 >>> (((24 : Int32) - ((8 : Int32) * v1)) &&& 31)) &&& (255 : Int32))) fun (b3 : Nat → Int32) =>
  nm (o_bufferLength + (1 : Int32)) fun (v4 : Int32) =>
  nm (l6 + (1 : Int32)) fun (v5 : Int32) =>
  kL23 v5 o_thrown v4 b3
def X7_append_L23 (p1 : Int32) (p2 : Int32) (p3 : Int32) (p4 : Int32) (p5 : Int32)  : Nat → Int32 → Int32 → Int32 → (Nat → Int32) → Option (Int32 × Int32 × Int32 × (Nat → Int32))
  | 0, _, _, _, _ => none
  | n + 1, l6, o_thrown, o_bufferLength, o_buffer =>
    if (20 : Int32) ≤ l6 then
      some (o_bufferLength, o_thrown, o_bufferLength, o_buffer)
    else
      if (4 : Int32) ≤ l6 then
        if (8 : Int32) ≤ l6 then
          if (12 : Int32) ≤ l6 then
            if (16 : Int32) ≤ l6 then
              X7_append_J76 p1 p2 p3 p4 p5 (fun z0 z1 z2 z3 => X7_append_L23 p1 p2 p3 p4 p5 n z0 z1 z2 z3) l6 p5 o_thrown o_bufferLength o_buffer
            else
              X7_append_J76 p1 p2 p3 p4 p5 (fun z0 z1 z2 z3 => X7_append_L23 p1 p2 p3 p4 p5 n z0 z1 z2 z3) l6 p4 o_thrown o_bufferLength o_buffer
          else
            X7_append_J76 p1 p2 p3 p4 p5 (fun z0 z1 z2 z3 => X7_append_L23 p1 p2 p3 p4 p5 n z0 z1 z2 z3) l6 p3 o_thrown o_bufferLength o_buffer
        else
          X7_append_J76 p1 p2 p3 p4 p5 (fun z0 z1 z2 z3 => X7_append_L23 p1 p2 p3 p4 p5 n z0 z1 z2 z3) l6 p2 o_thrown o_bufferLength o_buffer
      else
        X7_append_J76 p1 p2 p3 p4 p5 (fun z0 z1 z2 z3 => X7_append_L23 p1 p2 p3 p4 p5 n z0 z1 z2 z3) l6 p1 o_thrown o_bufferLength o_buffer
def X7_append (o_thrown : Int32) (o_bufferLength : Int32) (o_buffer : Nat → Int32) (p1 : Int32) (p2 : Int32) (p3 : Int32) (p4 : Int32) (p5 : Int32) : Option (Int32 × Int32 × Int32 × (Nat → Int32)) :=
  if (o_bufferLength + (20 : Int32)) ≤ (800 : Int32) then
    X7_append_L23 p1 p2 p3 p4 p5 FU (0 : Int32) (0 : Int32) o_bufferLength o_buffer
  else
    some ((-1 : Int32), (0 : Int32), o_bufferLength, o_buffer)
def X7_byteAt (o_textLength : Int32) (o_buffer : Nat → Int32) (p1 : Int32) : Option (Int32) :=
  if o_textLength ≤ p1 then
    some (-1 : Int32)
  else
    ld o_buffer 800 p1 fun (v3 : Int32) =>
    some v3
def X7_ahead_L0 (o_textLength : Int32) (o_buffer : Nat → Int32)  : Nat → Int32 → Option (Int32 × Int32)
  | 0, _ => none
  | n + 1, o_position =>
    bn1 (X7_byteAt o_textLength o_buffer o_position) fun (r1 : Int32) =>
    if r1 = (32 : Int32) then
      nm (o_position + (1 : Int32)) fun (v6 : Int32) =>
      X7_ahead_L0 o_textLength o_buffer n v6
    else
      bn1 (X7_byteAt o_textLength o_buffer o_position) fun (r4 : Int32) =>
      some (r4, o_position)
def X7_ahead (o_textLength : Int32) (o_position : Int32) (o_buffer : Nat → Int32) : Option (Int32 × Int32) :=
  X7_ahead_L0 o_textLength o_buffer FU o_position
def X7_isGood (o_error : Int32) : Option (Int32) :=
  if o_error = 0 then
    some (1 : Int32)
  else
    some (0 : Int32)
def X7_report (o_error : Int32) (o_errorAt : Int32) (p1 : Int32) (p2 : Int32) : Option (Int32 × Int32) :=
  if o_error = 0 then
    some (p1, p2)
  else
    some (o_error, o_errorAt)
def X7_isDigit (p0 : Int32) : Option (Int32) :=
  bn1 (X7_in p0 (48 : Int32) (57 : Int32)) fun (r1 : Int32) =>
  ck (r1 = 0 ∨ r1 = 1) <|
  some r1
def X7_takeWord_J48 (tx : List Int32) (o_textLength : Int32) (o_error : Int32) (o_buffer : Nat → Int32)  (l2 : Int32) (o_position : Int32) : Option (Int32 × Int32) :=
  bn1 (J0_length_8abf5 tx) fun (r1 : Int32) =>
  if l2 < r1 then
    some ((0 : Int32), o_position)
  else
    bn1 (X7_byteAt o_textLength o_buffer (o_position + l2)) fun (r4 : Int32) =>
    bn1 (X7_in r4 (97 : Int32) (122 : Int32)) fun (r6 : Int32) =>
    if r6 = 0 then
      nm (o_position + l2) fun (v9 : Int32) =>
      some ((1 : Int32), v9)
    else
      some ((0 : Int32), o_position)
def X7_takeWord_L16 (tx : List Int32) (o_textLength : Int32) (o_error : Int32) (o_buffer : Nat → Int32)  : Nat → Int32 → Int32 → Option (Int32 × Int32)
  | 0, _, _ => none
  | n + 1, l2, o_position =>
    bn1 (J0_length_8abf5 tx) fun (r10 : Int32) =>
    if r10 ≤ l2 then
      X7_takeWord_J48 tx o_textLength o_error o_buffer l2 o_position
    else
      bn1 (X7_byteAt o_textLength o_buffer (o_position + l2)) fun (r13 : Int32) =>
      bn1 (J0_charAt_5068e tx l2) fun (r15 : Int32) =>
      if r13 = r15 then
        nm (l2 + (1 : Int32)) fun (v18 : Int32) =>
        X7_takeWord_L16 tx o_textLength o_error o_buffer n v18 o_position
      else
        X7_takeWord_J48 tx o_textLength o_error o_buffer l2 o_position
def X7_takeWord (tx : List Int32) (o_textLength : Int32) (o_position : Int32) (o_error : Int32) (o_buffer : Nat → Int32) : Option (Int32 × Int32) :=
  bn1 (X7_isGood o_error) fun (r19 : Int32) =>
  if r19 = 0 then
    some ((0 : Int32), o_position)
  else
    bn2 (X7_ahead o_textLength o_position o_buffer) fun (r22 : Int32) (o23 : Int32) =>
    X7_takeWord_L16 tx o_textLength o_error o_buffer FU (0 : Int32) o23
def X7_expect (o_textLength : Int32) (o_position : Int32) (o_error : Int32) (o_errorAt : Int32) (o_buffer : Nat → Int32) (p1 : Int32) : Option (Int32 × Int32 × Int32) :=
  bn1 (X7_isGood o_error) fun (r1 : Int32) =>
  if r1 = 0 then
    some (o_position, o_error, o_errorAt)
  else
    bn2 (X7_ahead o_textLength o_position o_buffer) fun (r4 : Int32) (o5 : Int32) =>
    if r4 = p1 then
      nm (o5 + (1 : Int32)) fun (v11 : Int32) =>
      some (v11, o_error, o_errorAt)
    else
      bn2 (X7_report o_error o_errorAt (-2 : Int32) o5) fun (o8 : Int32) (o9 : Int32) =>
      some (o5, o8, o9)
def X7_number_J109 (o_textLength : Int32) (o_buffer : Nat → Int32) (p1 : Int32) (p2 : Int32)  (l3 : Int32) (o_position : Int32) (o_error : Int32) (o_errorAt : Int32) (o_numberStart : Int32) : Option (Int32 × Int32 × Int32 × Int32 × Int32) :=
  bn1 (X7_isGood o_error) fun (r1 : Int32) =>
  if r1 = 0 then
    some ((0 : Int32), o_position, o_error, o_errorAt, o_numberStart)
  else
    some (l3, o_position, o_error, o_errorAt, o_numberStart)
def X7_number_L41 (o_textLength : Int32) (o_error : Int32) (o_errorAt : Int32) (o_buffer : Nat → Int32) (p1 : Int32) (p2 : Int32)  : Nat → Int32 → Int32 → Int32 → Option (Int32 × Int32 × Int32 × Int32 × Int32)
  | 0, _, _, _ => none
  | n + 1, l3, o_position, o_numberStart =>
    bn1 (X7_byteAt o_textLength o_buffer o_position) fun (r4 : Int32) =>
    bn1 (X7_isDigit r4) fun (r6 : Int32) =>
    if r6 = 0 then
      bn1 (X7_in l3 p1 p2) fun (r9 : Int32) =>
      if r9 = 0 then
        bn2 (X7_report o_error o_errorAt (-3 : Int32) o_numberStart) fun (o12 : Int32) (o13 : Int32) =>
        X7_number_J109 o_textLength o_buffer p1 p2 l3 o_position o12 o13 o_numberStart
      else
        X7_number_J109 o_textLength o_buffer p1 p2 l3 o_position o_error o_errorAt o_numberStart
    else
      bn1 (X7_byteAt o_textLength o_buffer o_position) fun (r15 : Int32) =>
      bn1 (X7_min (100000000 : Int32) ((((10 : Int32) * l3) + r15) - (48 : Int32))) fun (r17 : Int32) =>
      nm (o_position + (1 : Int32)) fun (v19 : Int32) =>
      X7_number_L41 o_textLength o_error o_errorAt o_buffer p1 p2 n r17 v19 o_numberStart
def X7_number (o_textLength : Int32) (o_position : Int32) (o_error : Int32) (o_errorAt : Int32) (o_numberStart : Int32) (o_buffer : Nat → Int32) (p1 : Int32) (p2 : Int32) : Option (Int32 × Int32 × Int32 × Int32 × Int32) :=
  bn1 (X7_isGood o_error) fun (r20 : Int32) =>
  if r20 = 0 then
    some ((0 : Int32), o_position, o_error, o_errorAt, o_numberStart)
  else
    bn2 (X7_ahead o_textLength o_position o_buffer) fun (r23 : Int32) (o24 : Int32) =>
    bn1 (X7_isDigit r23) fun (r26 : Int32) =>
    if r26 = 0 then
      bn2 (X7_report o_error o_errorAt (-2 : Int32) o24) fun (o29 : Int32) (o30 : Int32) =>
      some ((0 : Int32), o24, o29, o30, o_numberStart)
    else
      X7_number_L41 o_textLength o_error o_errorAt o_buffer p1 p2 FU (0 : Int32) o24 o24
def X7_emit (o_error : Int32) (o_draft : Nat → Int32) (p1 : Int32) : Option ((Nat → Int32)) :=
  bn1 (X7_isGood o_error) fun (r1 : Int32) =>
  if r1 = 0 then
    some o_draft
  else
    ld o_draft 2243 (9 : Int32) fun (v5 : Int32) =>
    st 2243 ((643 : Int32) + v5) (upd o_draft ((643 : Int32) + v5).toNatClampNeg p1) fun (b7 : Nat → Int32) =>
    ld b7 2243 (9 : Int32) fun (v9 : Int32) =>
    st 2243 (9 : Int32) (upd b7 (9 : Int32).toNatClampNeg (v9 + (1 : Int32))) fun (b11 : Nat → Int32) =>
    some b11
def X7_factor_J170 (rs : Int32 → Int32 → Int32 → Int32 → Int32 → Int32 → (Nat → Int32) → (Nat → Int32) → Option (Int32 × Int32 × Int32 × Int32 × Int32 × (Nat → Int32))) (o_textLength : Int32) (o_nesting : Int32) (o_buffer : Nat → Int32) (o_draft : Nat → Int32)  (l3 : Int32) (k1 : Int32) (o_position : Int32) (o_error : Int32) (o_errorAt : Int32) (o_numberStart : Int32) : Option (Int32 × Int32 × Int32 × Int32 × Int32 × (Nat → Int32)) :=
  bn1 (X7_emit o_error o_draft k1) fun (o1 : Nat → Int32) =>
  bn1 (X7_emit o_error o1 l3) fun (o3 : Nat → Int32) =>
  some (o_position, o_error, o_errorAt, o_numberStart, o_nesting, o3)
def X7_factor_J159 (rs : Int32 → Int32 → Int32 → Int32 → Int32 → Int32 → (Nat → Int32) → (Nat → Int32) → Option (Int32 × Int32 × Int32 × Int32 × Int32 × (Nat → Int32))) (o_textLength : Int32) (o_nesting : Int32) (o_buffer : Nat → Int32) (o_draft : Nat → Int32)  (l2 : Int32) (k0 : Int32) (o_position : Int32) (o_error : Int32) (o_errorAt : Int32) (o_numberStart : Int32) : Option (Int32 × Int32 × Int32 × Int32 × Int32 × (Nat → Int32)) :=
  if 0 ≤ l2 then
    X7_factor_J170 rs o_textLength o_nesting o_buffer o_draft k0 (1 : Int32) o_position o_error o_errorAt o_numberStart
  else
    X7_factor_J170 rs o_textLength o_nesting o_buffer o_draft k0 (0 : Int32) o_position o_error o_errorAt o_numberStart
def X7_factor_J142 (rs : Int32 → Int32 → Int32 → Int32 → Int32 → Int32 → (Nat → Int32) → (Nat → Int32) → Option (Int32 × Int32 × Int32 × Int32 × Int32 × (Nat → Int32))) (o_textLength : Int32) (o_error : Int32) (o_errorAt : Int32) (o_numberStart : Int32) (o_nesting : Int32) (o_buffer : Nat → Int32) (o_draft : Nat → Int32)  (k0 : Int32) (o_position : Int32) : Option (Int32 × Int32 × Int32 × Int32 × Int32 × (Nat → Int32)) :=
  if 0 ≤ k0 then
    X7_factor_J159 rs o_textLength o_nesting o_buffer o_draft k0 k0 o_position o_error o_errorAt o_numberStart
  else
    bn5 (X7_number o_textLength o_position o_error o_errorAt o_numberStart o_buffer (0 : Int32) (9999 : Int32)) fun (r7 : Int32) (o8 : Int32) (o9 : Int32) (o10 : Int32) (o11 : Int32) =>
    X7_factor_J159 rs o_textLength o_nesting o_buffer o_draft k0 r7 o8 o9 o10 o11
def X7_factor_J37 (rs : Int32 → Int32 → Int32 → Int32 → Int32 → Int32 → (Nat → Int32) → (Nat → Int32) → Option (Int32 × Int32 × Int32 × Int32 × Int32 × (Nat → Int32))) (o_textLength : Int32) (o_numberStart : Int32) (o_nesting : Int32) (o_buffer : Nat → Int32) (o_draft : Nat → Int32)  (o_position : Int32) (o_error : Int32) (o_errorAt : Int32) : Option (Int32 × Int32 × Int32 × Int32 × Int32 × (Nat → Int32)) :=
  nm (o_position + (1 : Int32)) fun (v13 : Int32) =>
  nm (o_nesting + (1 : Int32)) fun (v14 : Int32) =>
  bn6 (rs o_textLength v13 o_error o_errorAt o_numberStart v14 o_buffer o_draft) fun (o15 : Int32) (o16 : Int32) (o17 : Int32) (o18 : Int32) (o19 : Int32) (o20 : Nat → Int32) =>
  bn3 (X7_expect o_textLength o15 o16 o17 o_buffer (41 : Int32)) fun (o22 : Int32) (o23 : Int32) (o24 : Int32) =>
  nm (o19 - (1 : Int32)) fun (v26 : Int32) =>
  some (o22, o23, o24, o18, v26, o20)
def X7_factor (rs : Int32 → Int32 → Int32 → Int32 → Int32 → Int32 → (Nat → Int32) → (Nat → Int32) → Option (Int32 × Int32 × Int32 × Int32 × Int32 × (Nat → Int32))) (o_textLength : Int32) (o_position : Int32) (o_error : Int32) (o_errorAt : Int32) (o_numberStart : Int32) (o_nesting : Int32) (o_buffer : Nat → Int32) (o_draft : Nat → Int32) : Option (Int32 × Int32 × Int32 × Int32 × Int32 × (Nat → Int32)) :=
  bn1 (X7_isGood o_error) fun (r27 : Int32) =>
  if r27 = 0 then
    some (o_position, o_error, o_errorAt, o_numberStart, o_nesting, o_draft)
  else
    bn2 (X7_ahead o_textLength o_position o_buffer) fun (r30 : Int32) (o31 : Int32) =>
    if r30 = (40 : Int32) then
      if o_nesting = (4 : Int32) then
        bn2 (X7_report o_error o_errorAt (-6 : Int32) o31) fun (o58 : Int32) (o59 : Int32) =>
        X7_factor_J37 rs o_textLength o_numberStart o_nesting o_buffer o_draft o31 o58 o59
      else
        X7_factor_J37 rs o_textLength o_numberStart o_nesting o_buffer o_draft o31 o_error o_errorAt
    else
      bn1 (X7_isDigit r30) fun (r34 : Int32) =>
      if r34 = 0 then
        bn2 (X7_takeWord [115, 104, 111, 119, 110] o_textLength o31 o_error o_buffer) fun (r38 : Int32) (o39 : Int32) =>
        if r38 = 0 then
          bn2 (X7_takeWord [107, 105, 110, 100, 115] o_textLength o39 o_error o_buffer) fun (r43 : Int32) (o44 : Int32) =>
          if r43 = 0 then
            bn2 (X7_takeWord [100, 101, 112, 116, 104] o_textLength o44 o_error o_buffer) fun (r48 : Int32) (o49 : Int32) =>
            if r48 = 0 then
              bn2 (X7_takeWord [104, 111, 108, 101] o_textLength o49 o_error o_buffer) fun (r53 : Int32) (o54 : Int32) =>
              if r53 = 0 then
                X7_factor_J142 rs o_textLength o_error o_errorAt o_numberStart o_nesting o_buffer o_draft (-1 : Int32) o54
              else
                X7_factor_J142 rs o_textLength o_error o_errorAt o_numberStart o_nesting o_buffer o_draft (3 : Int32) o54
            else
              X7_factor_J142 rs o_textLength o_error o_errorAt o_numberStart o_nesting o_buffer o_draft (2 : Int32) o49
          else
            X7_factor_J142 rs o_textLength o_error o_errorAt o_numberStart o_nesting o_buffer o_draft (1 : Int32) o44
        else
          X7_factor_J142 rs o_textLength o_error o_errorAt o_numberStart o_nesting o_buffer o_draft (0 : Int32) o39
      else
        X7_factor_J142 rs o_textLength o_error o_errorAt o_numberStart o_nesting o_buffer o_draft (-1 : Int32) o31
def X7_term_J68 (f0 : Int32 → Int32 → Int32 → Int32 → Int32 → Int32 → (Nat → Int32) → (Nat → Int32) → Option (Int32 × Int32 × Int32 × Int32 × Int32 × (Nat → Int32))) (o_textLength : Int32) (o_buffer : Nat → Int32) (kL4 : Int32 → Int32 → Int32 → Int32 → Int32 → (Nat → Int32) → Option (Int32 × Int32 × Int32 × Int32 × Int32 × (Nat → Int32))) (k1 : Int32) (o_position : Int32) (o_error : Int32) (o_errorAt : Int32) (o_numberStart : Int32) (o_nesting : Int32) (o_draft : Nat → Int32) : Option (Int32 × Int32 × Int32 × Int32 × Int32 × (Nat → Int32)) :=
  bn1 (X7_emit o_error o_draft k1) fun (o1 : Nat → Int32) =>
  kL4 o_position o_error o_errorAt o_numberStart o_nesting o1
def X7_term_J43 (f0 : Int32 → Int32 → Int32 → Int32 → Int32 → Int32 → (Nat → Int32) → (Nat → Int32) → Option (Int32 × Int32 × Int32 × Int32 × Int32 × (Nat → Int32))) (o_textLength : Int32) (o_buffer : Nat → Int32) (kL4 : Int32 → Int32 → Int32 → Int32 → Int32 → (Nat → Int32) → Option (Int32 × Int32 × Int32 × Int32 × Int32 × (Nat → Int32))) (k0 : Int32) (o_position : Int32) (o_error : Int32) (o_errorAt : Int32) (o_numberStart : Int32) (o_nesting : Int32) (o_draft : Nat → Int32) : Option (Int32 × Int32 × Int32 × Int32 × Int32 × (Nat → Int32)) :=
  nm (o_position + (1 : Int32)) fun (v3 : Int32) =>
  bn6 (f0 o_textLength v3 o_error o_errorAt o_numberStart o_nesting o_buffer o_draft) fun (o4 : Int32) (o5 : Int32) (o6 : Int32) (o7 : Int32) (o8 : Int32) (o9 : Nat → Int32) =>
  if k0 = 0 then
    X7_term_J68 f0 o_textLength o_buffer kL4 (5 : Int32) o4 o5 o6 o7 o8 o9
  else
    X7_term_J68 f0 o_textLength o_buffer kL4 (4 : Int32) o4 o5 o6 o7 o8 o9
def X7_term_J29 (f0 : Int32 → Int32 → Int32 → Int32 → Int32 → Int32 → (Nat → Int32) → (Nat → Int32) → Option (Int32 × Int32 × Int32 × Int32 × Int32 × (Nat → Int32))) (o_textLength : Int32) (o_buffer : Nat → Int32) (kL4 : Int32 → Int32 → Int32 → Int32 → Int32 → (Nat → Int32) → Option (Int32 × Int32 × Int32 × Int32 × Int32 × (Nat → Int32))) (o_position : Int32) (o_error : Int32) (o_errorAt : Int32) (o_numberStart : Int32) (o_nesting : Int32) (o_draft : Nat → Int32) : Option (Int32 × Int32 × Int32 × Int32 × Int32 × (Nat → Int32)) :=
  bn2 (X7_ahead o_textLength o_position o_buffer) fun (r12 : Int32) (o13 : Int32) =>
  if r12 = (42 : Int32) then
    X7_term_J43 f0 o_textLength o_buffer kL4 (1 : Int32) o13 o_error o_errorAt o_numberStart o_nesting o_draft
  else
    X7_term_J43 f0 o_textLength o_buffer kL4 (0 : Int32) o13 o_error o_errorAt o_numberStart o_nesting o_draft
def X7_term_L4 (f0 : Int32 → Int32 → Int32 → Int32 → Int32 → Int32 → (Nat → Int32) → (Nat → Int32) → Option (Int32 × Int32 × Int32 × Int32 × Int32 × (Nat → Int32))) (o_textLength : Int32) (o_buffer : Nat → Int32)  : Nat → Int32 → Int32 → Int32 → Int32 → Int32 → (Nat → Int32) → Option (Int32 × Int32 × Int32 × Int32 × Int32 × (Nat → Int32))
  | 0, _, _, _, _, _, _ => none
  | n + 1, o_position, o_error, o_errorAt, o_numberStart, o_nesting, o_draft =>
    bn1 (X7_isGood o_error) fun (r16 : Int32) =>
    if r16 = 0 then
      some (o_position, o_error, o_errorAt, o_numberStart, o_nesting, o_draft)
    else
      bn2 (X7_ahead o_textLength o_position o_buffer) fun (r19 : Int32) (o20 : Int32) =>
      if r19 = (42 : Int32) then
        X7_term_J29 f0 o_textLength o_buffer (fun z0 z1 z2 z3 z4 z5 => X7_term_L4 f0 o_textLength o_buffer n z0 z1 z2 z3 z4 z5) o20 o_error o_errorAt o_numberStart o_nesting o_draft
      else
        bn2 (X7_ahead o_textLength o20 o_buffer) fun (r23 : Int32) (o24 : Int32) =>
        if r23 = (47 : Int32) then
          X7_term_J29 f0 o_textLength o_buffer (fun z0 z1 z2 z3 z4 z5 => X7_term_L4 f0 o_textLength o_buffer n z0 z1 z2 z3 z4 z5) o24 o_error o_errorAt o_numberStart o_nesting o_draft
        else
          some (o24, o_error, o_errorAt, o_numberStart, o_nesting, o_draft)
def X7_term (f0 : Int32 → Int32 → Int32 → Int32 → Int32 → Int32 → (Nat → Int32) → (Nat → Int32) → Option (Int32 × Int32 × Int32 × Int32 × Int32 × (Nat → Int32))) (o_textLength : Int32) (o_position : Int32) (o_error : Int32) (o_errorAt : Int32) (o_numberStart : Int32) (o_nesting : Int32) (o_buffer : Nat → Int32) (o_draft : Nat → Int32) : Option (Int32 × Int32 × Int32 × Int32 × Int32 × (Nat → Int32)) :=
  bn6 (f0 o_textLength o_position o_error o_errorAt o_numberStart o_nesting o_buffer o_draft) fun (o27 : Int32) (o28 : Int32) (o29 : Int32) (o30 : Int32) (o31 : Int32) (o32 : Nat → Int32) =>
  X7_term_L4 f0 o_textLength o_buffer FU o27 o28 o29 o30 o31 o32
def X7_readSum_J68 (f1 : Int32 → Int32 → Int32 → Int32 → Int32 → Int32 → (Nat → Int32) → (Nat → Int32) → Option (Int32 × Int32 × Int32 × Int32 × Int32 × (Nat → Int32))) (o_textLength : Int32) (o_buffer : Nat → Int32) (kL4 : Int32 → Int32 → Int32 → Int32 → Int32 → (Nat → Int32) → Option (Int32 × Int32 × Int32 × Int32 × Int32 × (Nat → Int32))) (k1 : Int32) (o_position : Int32) (o_error : Int32) (o_errorAt : Int32) (o_numberStart : Int32) (o_nesting : Int32) (o_draft : Nat → Int32) : Option (Int32 × Int32 × Int32 × Int32 × Int32 × (Nat → Int32)) :=
  bn1 (X7_emit o_error o_draft k1) fun (o1 : Nat → Int32) =>
  kL4 o_position o_error o_errorAt o_numberStart o_nesting o1
def X7_readSum_J43 (f1 : Int32 → Int32 → Int32 → Int32 → Int32 → Int32 → (Nat → Int32) → (Nat → Int32) → Option (Int32 × Int32 × Int32 × Int32 × Int32 × (Nat → Int32))) (o_textLength : Int32) (o_buffer : Nat → Int32) (kL4 : Int32 → Int32 → Int32 → Int32 → Int32 → (Nat → Int32) → Option (Int32 × Int32 × Int32 × Int32 × Int32 × (Nat → Int32))) (k0 : Int32) (o_position : Int32) (o_error : Int32) (o_errorAt : Int32) (o_numberStart : Int32) (o_nesting : Int32) (o_draft : Nat → Int32) : Option (Int32 × Int32 × Int32 × Int32 × Int32 × (Nat → Int32)) :=
  nm (o_position + (1 : Int32)) fun (v3 : Int32) =>
  bn6 (f1 o_textLength v3 o_error o_errorAt o_numberStart o_nesting o_buffer o_draft) fun (o4 : Int32) (o5 : Int32) (o6 : Int32) (o7 : Int32) (o8 : Int32) (o9 : Nat → Int32) =>
  if k0 = 0 then
    X7_readSum_J68 f1 o_textLength o_buffer kL4 (3 : Int32) o4 o5 o6 o7 o8 o9
  else
    X7_readSum_J68 f1 o_textLength o_buffer kL4 (2 : Int32) o4 o5 o6 o7 o8 o9
def X7_readSum_J29 (f1 : Int32 → Int32 → Int32 → Int32 → Int32 → Int32 → (Nat → Int32) → (Nat → Int32) → Option (Int32 × Int32 × Int32 × Int32 × Int32 × (Nat → Int32))) (o_textLength : Int32) (o_buffer : Nat → Int32) (kL4 : Int32 → Int32 → Int32 → Int32 → Int32 → (Nat → Int32) → Option (Int32 × Int32 × Int32 × Int32 × Int32 × (Nat → Int32))) (o_position : Int32) (o_error : Int32) (o_errorAt : Int32) (o_numberStart : Int32) (o_nesting : Int32) (o_draft : Nat → Int32) : Option (Int32 × Int32 × Int32 × Int32 × Int32 × (Nat → Int32)) :=
  bn2 (X7_ahead o_textLength o_position o_buffer) fun (r12 : Int32) (o13 : Int32) =>
  if r12 = (43 : Int32) then
    X7_readSum_J43 f1 o_textLength o_buffer kL4 (1 : Int32) o13 o_error o_errorAt o_numberStart o_nesting o_draft
  else
    X7_readSum_J43 f1 o_textLength o_buffer kL4 (0 : Int32) o13 o_error o_errorAt o_numberStart o_nesting o_draft
def X7_readSum_L4 (f1 : Int32 → Int32 → Int32 → Int32 → Int32 → Int32 → (Nat → Int32) → (Nat → Int32) → Option (Int32 × Int32 × Int32 × Int32 × Int32 × (Nat → Int32))) (o_textLength : Int32) (o_buffer : Nat → Int32)  : Nat → Int32 → Int32 → Int32 → Int32 → Int32 → (Nat → Int32) → Option (Int32 × Int32 × Int32 × Int32 × Int32 × (Nat → Int32))
  | 0, _, _, _, _, _, _ => none
  | n + 1, o_position, o_error, o_errorAt, o_numberStart, o_nesting, o_draft =>
    bn1 (X7_isGood o_error) fun (r16 : Int32) =>
    if r16 = 0 then
      some (o_position, o_error, o_errorAt, o_numberStart, o_nesting, o_draft)
    else
      bn2 (X7_ahead o_textLength o_position o_buffer) fun (r19 : Int32) (o20 : Int32) =>
      if r19 = (43 : Int32) then
        X7_readSum_J29 f1 o_textLength o_buffer (fun z0 z1 z2 z3 z4 z5 => X7_readSum_L4 f1 o_textLength o_buffer n z0 z1 z2 z3 z4 z5) o20 o_error o_errorAt o_numberStart o_nesting o_draft
      else
        bn2 (X7_ahead o_textLength o20 o_buffer) fun (r23 : Int32) (o24 : Int32) =>
        if r23 = (45 : Int32) then
          X7_readSum_J29 f1 o_textLength o_buffer (fun z0 z1 z2 z3 z4 z5 => X7_readSum_L4 f1 o_textLength o_buffer n z0 z1 z2 z3 z4 z5) o24 o_error o_errorAt o_numberStart o_nesting o_draft
        else
          some (o24, o_error, o_errorAt, o_numberStart, o_nesting, o_draft)
def X7_readSum_b (f1 : Int32 → Int32 → Int32 → Int32 → Int32 → Int32 → (Nat → Int32) → (Nat → Int32) → Option (Int32 × Int32 × Int32 × Int32 × Int32 × (Nat → Int32))) (o_textLength : Int32) (o_position : Int32) (o_error : Int32) (o_errorAt : Int32) (o_numberStart : Int32) (o_nesting : Int32) (o_buffer : Nat → Int32) (o_draft : Nat → Int32) : Option (Int32 × Int32 × Int32 × Int32 × Int32 × (Nat → Int32)) :=
  bn6 (f1 o_textLength o_position o_error o_errorAt o_numberStart o_nesting o_buffer o_draft) fun (o27 : Int32) (o28 : Int32) (o29 : Int32) (o30 : Int32) (o31 : Int32) (o32 : Nat → Int32) =>
  X7_readSum_L4 f1 o_textLength o_buffer FU o27 o28 o29 o30 o31 o32
def X7_readSum : Nat → Int32 → Int32 → Int32 → Int32 → Int32 → Int32 → (Nat → Int32) → (Nat → Int32) → Option (Int32 × Int32 × Int32 × Int32 × Int32 × (Nat → Int32))
  | 0 => fun _ _ _ _ _ _ _ _ => none
  | d + 1 => X7_readSum_b (X7_term (X7_factor (X7_readSum d)))
def X7_once_J19 (o_seen : Int32) (p1 : Int32) (p2 : Int32)  (o_error : Int32) (o_errorAt : Int32) : Option (Int32 × Int32 × Int32) :=
  nm (o_seen ||| ((1 : Int32) <<< (p1 &&& 31))) fun (v1 : Int32) =>
  some (o_error, o_errorAt, v1)
def X7_once (o_error : Int32) (o_errorAt : Int32) (o_seen : Int32) (p1 : Int32) (p2 : Int32) : Option (Int32 × Int32 × Int32) :=
  if ((o_seen >>> (p1 &&& 31)) &&& (1 : Int32)) = (1 : Int32) then
    bn2 (X7_report o_error o_errorAt (-2 : Int32) p2) fun (o3 : Int32) (o4 : Int32) =>
    X7_once_J19 o_seen p1 p2 o3 o4
  else
    X7_once_J19 o_seen p1 p2 o_error o_errorAt
def X7_isLine_J17 (p0 : Int32)   : Option (Int32) :=
  some (1 : Int32)
def X7_isLine (p0 : Int32) : Option (Int32) :=
  if p0 = (46 : Int32) then
    X7_isLine_J17 p0
  else
    bn1 (X7_in p0 (97 : Int32) (122 : Int32)) fun (r2 : Int32) =>
    if r2 = 0 then
      some (0 : Int32)
    else
      X7_isLine_J17 p0
def X7_readLine_J177 (o_textLength : Int32) (o_buffer : Nat → Int32) (p1 : Int32) (p2 : Int32)  (l3 : Int32) (l4 : Int32) (o_position : Int32) (o_error : Int32) (o_errorAt : Int32) (o_draft : Nat → Int32) : Option (Int32 × Int32 × Int32 × (Nat → Int32)) :=
  nm (l3 + l4) fun (v1 : Int32) =>
  some (v1, o_error, o_errorAt, o_draft)
def X7_readLine_J170 (o_textLength : Int32) (o_buffer : Nat → Int32) (p1 : Int32) (p2 : Int32) (kL82 : Int32 → Int32 → Int32 → Int32 → Int32 → Int32 → Int32 → (Nat → Int32) → Option (Int32 × Int32 × Int32 × (Nat → Int32))) (l3 : Int32) (l4 : Int32) (l5 : Int32) (l6 : Int32) (k1 : Int32) (k2 : Int32) (o_position : Int32) (o_error : Int32) (o_errorAt : Int32) (o_draft : Nat → Int32) : Option (Int32 × Int32 × Int32 × (Nat → Int32)) :=
  st 2243 k1 (upd o_draft k1.toNatClampNeg k2) fun (b3 : Nat → Int32) =>
  nm (l6 + (1 : Int32)) fun (v4 : Int32) =>
  kL82 l3 l4 l5 v4 o_position o_error o_errorAt b3
def X7_readLine_J135 (o_textLength : Int32) (o_buffer : Nat → Int32) (p1 : Int32) (p2 : Int32) (kL82 : Int32 → Int32 → Int32 → Int32 → Int32 → Int32 → Int32 → (Nat → Int32) → Option (Int32 × Int32 × Int32 × (Nat → Int32))) (l3 : Int32) (l4 : Int32) (l5 : Int32) (l6 : Int32) (l7 : Int32) (o_position : Int32) (o_error : Int32) (o_errorAt : Int32) (o_draft : Nat → Int32) : Option (Int32 × Int32 × Int32 × (Nat → Int32)) :=
  if l7 = (46 : Int32) then
    X7_readLine_J170 o_textLength o_buffer p1 p2 kL82 l3 l4 l5 l6 ((((15 : Int32) + ((96 : Int32) * p1)) + (l5 * p2)) + l6) (-1 : Int32) o_position o_error o_errorAt o_draft
  else
    X7_readLine_J170 o_textLength o_buffer p1 p2 kL82 l3 l4 l5 l6 ((((15 : Int32) + ((96 : Int32) * p1)) + (l5 * p2)) + l6) (l7 - (97 : Int32)) o_position o_error o_errorAt o_draft
def X7_readLine_L82 (o_textLength : Int32) (o_buffer : Nat → Int32) (p1 : Int32) (p2 : Int32)  : Nat → Int32 → Int32 → Int32 → Int32 → Int32 → Int32 → Int32 → (Nat → Int32) → Option (Int32 × Int32 × Int32 × (Nat → Int32))
  | 0, _, _, _, _, _, _, _, _ => none
  | n + 1, l3, l4, l5, l6, o_position, o_error, o_errorAt, o_draft =>
    if l5 ≤ l6 then
      X7_readLine_J177 o_textLength o_buffer p1 p2 l3 l4 o_position o_error o_errorAt o_draft
    else
      bn1 (X7_isGood o_error) fun (r7 : Int32) =>
      if r7 = 0 then
        X7_readLine_J177 o_textLength o_buffer p1 p2 l3 l4 o_position o_error o_errorAt o_draft
      else
        bn1 (X7_byteAt o_textLength o_buffer (l3 + l6)) fun (r10 : Int32) =>
        if r10 = (46 : Int32) then
          ld o_draft 2243 (2 : Int32) fun (v14 : Int32) =>
          if p1 = (v14 - (1 : Int32)) then
            bn2 (X7_report o_error o_errorAt (-4 : Int32) (l3 + l6)) fun (o16 : Int32) (o17 : Int32) =>
            X7_readLine_J135 o_textLength o_buffer p1 p2 (fun z0 z1 z2 z3 z4 z5 z6 z7 => X7_readLine_L82 o_textLength o_buffer p1 p2 n z0 z1 z2 z3 z4 z5 z6 z7) l3 l4 l5 l6 r10 o_position o16 o17 o_draft
          else
            X7_readLine_J135 o_textLength o_buffer p1 p2 (fun z0 z1 z2 z3 z4 z5 z6 z7 => X7_readLine_L82 o_textLength o_buffer p1 p2 n z0 z1 z2 z3 z4 z5 z6 z7) l3 l4 l5 l6 r10 o_position o_error o_errorAt o_draft
        else
          X7_readLine_J135 o_textLength o_buffer p1 p2 (fun z0 z1 z2 z3 z4 z5 z6 z7 => X7_readLine_L82 o_textLength o_buffer p1 p2 n z0 z1 z2 z3 z4 z5 z6 z7) l3 l4 l5 l6 r10 o_position o_error o_errorAt o_draft
def X7_readLine_J79 (o_textLength : Int32) (o_buffer : Nat → Int32) (o_draft : Nat → Int32) (p1 : Int32) (p2 : Int32)  (l3 : Int32) (l4 : Int32) (l5 : Int32) (o_position : Int32) (o_error : Int32) (o_errorAt : Int32) : Option (Int32 × Int32 × Int32 × (Nat → Int32)) :=
  X7_readLine_L82 o_textLength o_buffer p1 p2 FU l3 l4 l5 (0 : Int32) o_position o_error o_errorAt o_draft
def X7_readLine_L45 (o_textLength : Int32) (o_error : Int32) (o_errorAt : Int32) (o_buffer : Nat → Int32) (o_draft : Nat → Int32) (p1 : Int32) (p2 : Int32)  : Nat → Int32 → Int32 → Int32 → Int32 → Option (Int32 × Int32 × Int32 × (Nat → Int32))
  | 0, _, _, _, _ => none
  | n + 1, l3, l4, l5, o_position =>
    bn1 (X7_byteAt o_textLength o_buffer (l3 + l4)) fun (r19 : Int32) =>
    bn1 (X7_isLine r19) fun (r21 : Int32) =>
    if r21 = 0 then
      if l4 = l5 then
        X7_readLine_J79 o_textLength o_buffer o_draft p1 p2 l3 l4 l5 o_position o_error o_errorAt
      else
        bn2 (X7_report o_error o_errorAt (-4 : Int32) l3) fun (o25 : Int32) (o26 : Int32) =>
        X7_readLine_J79 o_textLength o_buffer o_draft p1 p2 l3 l4 l5 o_position o25 o26
    else
      nm (l4 + (1 : Int32)) fun (v28 : Int32) =>
      X7_readLine_L45 o_textLength o_error o_errorAt o_buffer o_draft p1 p2 n l3 v28 l5 o_position
def X7_readLine (o_textLength : Int32) (o_position : Int32) (o_error : Int32) (o_errorAt : Int32) (o_buffer : Nat → Int32) (o_draft : Nat → Int32) (p1 : Int32) (p2 : Int32) : Option (Int32 × Int32 × Int32 × (Nat → Int32)) :=
  bn1 (X7_isGood o_error) fun (r29 : Int32) =>
  if r29 = 0 then
    some (o_position, o_error, o_errorAt, o_draft)
  else
    bn2 (X7_ahead o_textLength o_position o_buffer) fun (r32 : Int32) (o33 : Int32) =>
    bn1 (X7_isLine r32) fun (r35 : Int32) =>
    if r35 = 0 then
      bn2 (X7_report o_error o_errorAt (-2 : Int32) o33) fun (o40 : Int32) (o41 : Int32) =>
      some (o33, o40, o41, o_draft)
    else
      ld o_draft 2243 (0 : Int32) fun (v39 : Int32) =>
      X7_readLine_L45 o_textLength o_error o_errorAt o_buffer o_draft p1 p2 FU o33 (0 : Int32) v39 o33
def X7_readPlane_L22 (o_textLength : Int32) (o_toldPlanes : Int32) (o_buffer : Nat → Int32) (p1 : Int32)  : Nat → Int32 → Int32 → Int32 → Int32 → (Nat → Int32) → Option (Int32 × Int32 × Int32 × Int32 × (Nat → Int32))
  | 0, _, _, _, _, _ => none
  | n + 1, l2, o_position, o_error, o_errorAt, o_draft =>
    ld o_draft 2243 (1 : Int32) fun (v2 : Int32) =>
    if v2 ≤ l2 then
      nm (o_toldPlanes + (1 : Int32)) fun (v4 : Int32) =>
      some (o_position, o_error, o_errorAt, v4, o_draft)
    else
      bn4 (X7_readLine o_textLength o_position o_error o_errorAt o_buffer o_draft o_toldPlanes l2) fun (o5 : Int32) (o6 : Int32) (o7 : Int32) (o8 : Nat → Int32) =>
      nm (l2 + (1 : Int32)) fun (v10 : Int32) =>
      X7_readPlane_L22 o_textLength o_toldPlanes o_buffer p1 n v10 o5 o6 o7 o8
def X7_readPlane_J20 (o_textLength : Int32) (o_position : Int32) (o_toldPlanes : Int32) (o_buffer : Nat → Int32) (o_draft : Nat → Int32) (p1 : Int32)  (o_error : Int32) (o_errorAt : Int32) : Option (Int32 × Int32 × Int32 × Int32 × (Nat → Int32)) :=
  X7_readPlane_L22 o_textLength o_toldPlanes o_buffer p1 FU (0 : Int32) o_position o_error o_errorAt o_draft
def X7_readPlane (o_textLength : Int32) (o_position : Int32) (o_error : Int32) (o_errorAt : Int32) (o_toldPlanes : Int32) (o_buffer : Nat → Int32) (o_draft : Nat → Int32) (p1 : Int32) : Option (Int32 × Int32 × Int32 × Int32 × (Nat → Int32)) :=
  ld o_draft 2243 (2 : Int32) fun (v12 : Int32) =>
  if o_toldPlanes = v12 then
    bn2 (X7_report o_error o_errorAt (-5 : Int32) p1) fun (o14 : Int32) (o15 : Int32) =>
    X7_readPlane_J20 o_textLength o_position o_toldPlanes o_buffer o_draft p1 o14 o15
  else
    X7_readPlane_J20 o_textLength o_position o_toldPlanes o_buffer o_draft p1 o_error o_errorAt
def X7_readHole_J17 (o_textLength : Int32) (o_position : Int32) (o_numberStart : Int32) (o_buffer : Nat → Int32) (o_draft : Nat → Int32) (p1 : Int32)  (o_error : Int32) (o_errorAt : Int32) : Option (Int32 × Int32 × Int32 × Int32 × (Nat → Int32)) :=
  ld o_draft 2243 (0 : Int32) fun (v2 : Int32) =>
  bn5 (X7_number o_textLength o_position o_error o_errorAt o_numberStart o_buffer (0 : Int32) (v2 - (1 : Int32))) fun (r3 : Int32) (o4 : Int32) (o5 : Int32) (o6 : Int32) (o7 : Int32) =>
  ld o_draft 2243 (1 : Int32) fun (v10 : Int32) =>
  bn5 (X7_number o_textLength o4 o5 o6 o7 o_buffer (0 : Int32) (v10 - (1 : Int32))) fun (r11 : Int32) (o12 : Int32) (o13 : Int32) (o14 : Int32) (o15 : Int32) =>
  bn1 (X7_isGood o13) fun (r17 : Int32) =>
  if r17 = 0 then
    some (o12, o13, o14, o15, o_draft)
  else
    ld o_draft 2243 (3 : Int32) fun (v21 : Int32) =>
    st 2243 ((495 : Int32) + ((2 : Int32) * v21)) (upd o_draft ((495 : Int32) + ((2 : Int32) * v21)).toNatClampNeg r3) fun (b23 : Nat → Int32) =>
    ld b23 2243 (3 : Int32) fun (v25 : Int32) =>
    st 2243 (((495 : Int32) + ((2 : Int32) * v25)) + (1 : Int32)) (upd b23 (((495 : Int32) + ((2 : Int32) * v25)) + (1 : Int32)).toNatClampNeg r11) fun (b27 : Nat → Int32) =>
    ld b27 2243 (3 : Int32) fun (v29 : Int32) =>
    st 2243 (3 : Int32) (upd b27 (3 : Int32).toNatClampNeg (v29 + (1 : Int32))) fun (b31 : Nat → Int32) =>
    some (o12, o13, o14, o15, b31)
def X7_readHole (o_textLength : Int32) (o_position : Int32) (o_error : Int32) (o_errorAt : Int32) (o_numberStart : Int32) (o_buffer : Nat → Int32) (o_draft : Nat → Int32) (p1 : Int32) : Option (Int32 × Int32 × Int32 × Int32 × (Nat → Int32)) :=
  ld o_draft 2243 (3 : Int32) fun (v33 : Int32) =>
  if v33 = (4 : Int32) then
    bn2 (X7_report o_error o_errorAt (-5 : Int32) p1) fun (o35 : Int32) (o36 : Int32) =>
    X7_readHole_J17 o_textLength o_position o_numberStart o_buffer o_draft p1 o35 o36
  else
    X7_readHole_J17 o_textLength o_position o_numberStart o_buffer o_draft p1 o_error o_errorAt
def X7_kind_J67 (o_textLength : Int32) (o_buffer : Nat → Int32)  (l1 : Int32) (l2 : Int32) (o_position : Int32) (o_error : Int32) (o_errorAt : Int32) : Option (Int32 × Int32 × Int32 × Int32) :=
  nm (o_position + l2) fun (v1 : Int32) =>
  bn1 (X7_isGood o_error) fun (r2 : Int32) =>
  if r2 = 0 then
    some ((0 : Int32), v1, o_error, o_errorAt)
  else
    some ((l1 - (97 : Int32)), v1, o_error, o_errorAt)
def X7_kind_J55 (o_textLength : Int32) (o_buffer : Nat → Int32)  (l1 : Int32) (l2 : Int32) (l3 : Int32) (o_position : Int32) (o_error : Int32) (o_errorAt : Int32) : Option (Int32 × Int32 × Int32 × Int32) :=
  if l2 ≤ (1 : Int32) then
    X7_kind_J67 o_textLength o_buffer l1 l2 o_position o_error o_errorAt
  else
    bn2 (X7_report o_error o_errorAt (-3 : Int32) l3) fun (o6 : Int32) (o7 : Int32) =>
    X7_kind_J67 o_textLength o_buffer l1 l2 o_position o6 o7
def X7_kind_L21 (o_textLength : Int32) (o_error : Int32) (o_errorAt : Int32) (o_buffer : Nat → Int32)  : Nat → Int32 → Int32 → Int32 → Int32 → Option (Int32 × Int32 × Int32 × Int32)
  | 0, _, _, _, _ => none
  | n + 1, l1, l2, l3, o_position =>
    bn1 (X7_byteAt o_textLength o_buffer (l3 + l2)) fun (r9 : Int32) =>
    bn1 (X7_in r9 (97 : Int32) (122 : Int32)) fun (r11 : Int32) =>
    if r11 = 0 then
      if l2 = 0 then
        bn2 (X7_report o_error o_errorAt (-2 : Int32) l3) fun (o15 : Int32) (o16 : Int32) =>
        X7_kind_J55 o_textLength o_buffer l1 l2 l3 o_position o15 o16
      else
        X7_kind_J55 o_textLength o_buffer l1 l2 l3 o_position o_error o_errorAt
    else
      nm (l2 + (1 : Int32)) fun (v18 : Int32) =>
      X7_kind_L21 o_textLength o_error o_errorAt o_buffer n l1 v18 l3 o_position
def X7_kind (o_textLength : Int32) (o_position : Int32) (o_error : Int32) (o_errorAt : Int32) (o_buffer : Nat → Int32) : Option (Int32 × Int32 × Int32 × Int32) :=
  bn1 (X7_isGood o_error) fun (r19 : Int32) =>
  if r19 = 0 then
    some ((0 : Int32), o_position, o_error, o_errorAt)
  else
    bn2 (X7_ahead o_textLength o_position o_buffer) fun (r22 : Int32) (o23 : Int32) =>
    X7_kind_L21 o_textLength o_error o_errorAt o_buffer FU r22 (0 : Int32) o23 o23
def X7_addViewer (n_o : Nat) (o : Nat → Int32) (p1 : Int32) (p2 : Int32) (p3 : Int32) : Option ((Nat → Int32)) :=
  ld o n_o (7 : Int32) fun (v2 : Int32) =>
  nm ((503 : Int32) + ((7 : Int32) * v2)) fun (v3 : Int32) =>
  st n_o (v3 + (0 : Int32)) (upd o (v3 + (0 : Int32)).toNatClampNeg p1) fun (b5 : Nat → Int32) =>
  st n_o (v3 + (1 : Int32)) (upd b5 (v3 + (1 : Int32)).toNatClampNeg p2) fun (b7 : Nat → Int32) =>
  st n_o (v3 + (2 : Int32)) (upd b7 (v3 + (2 : Int32)).toNatClampNeg p3) fun (b9 : Nat → Int32) =>
  st n_o (v3 + (3 : Int32)) (upd b9 (v3 + (3 : Int32)).toNatClampNeg (0 : Int32)) fun (b11 : Nat → Int32) =>
  st n_o (v3 + (4 : Int32)) (upd b11 (v3 + (4 : Int32)).toNatClampNeg (-1 : Int32)) fun (b13 : Nat → Int32) =>
  st n_o (v3 + (5 : Int32)) (upd b13 (v3 + (5 : Int32)).toNatClampNeg (0 : Int32)) fun (b15 : Nat → Int32) =>
  st n_o (v3 + (6 : Int32)) (upd b15 (v3 + (6 : Int32)).toNatClampNeg (0 : Int32)) fun (b17 : Nat → Int32) =>
  ld b17 n_o (7 : Int32) fun (v19 : Int32) =>
  st n_o (7 : Int32) (upd b17 (7 : Int32).toNatClampNeg (v19 + (1 : Int32))) fun (b21 : Nat → Int32) =>
  some b21
def X7_readViewer_J19 (o_textLength : Int32) (o_position : Int32) (o_numberStart : Int32) (o_buffer : Nat → Int32) (o_draft : Nat → Int32) (p1 : Int32)  (o_error : Int32) (o_errorAt : Int32) : Option (Int32 × Int32 × Int32 × Int32 × (Nat → Int32)) :=
  bn5 (X7_number o_textLength o_position o_error o_errorAt o_numberStart o_buffer (0 : Int32) (9 : Int32)) fun (r1 : Int32) (o2 : Int32) (o3 : Int32) (o4 : Int32) (o5 : Int32) =>
  bn4 (X7_kind o_textLength o2 o3 o4 o_buffer) fun (r7 : Int32) (o8 : Int32) (o9 : Int32) (o10 : Int32) =>
  bn5 (X7_number o_textLength o8 o9 o10 o5 o_buffer (0 : Int32) (999 : Int32)) fun (r12 : Int32) (o13 : Int32) (o14 : Int32) (o15 : Int32) (o16 : Int32) =>
  bn1 (X7_isGood o14) fun (r18 : Int32) =>
  if r18 = 0 then
    some (o13, o14, o15, o16, o_draft)
  else
    bn1 (X7_addViewer 2243 o_draft r1 r7 r12) fun (o21 : Nat → Int32) =>
    some (o13, o14, o15, o16, o21)
def X7_readViewer (o_textLength : Int32) (o_position : Int32) (o_error : Int32) (o_errorAt : Int32) (o_numberStart : Int32) (o_buffer : Nat → Int32) (o_draft : Nat → Int32) (p1 : Int32) : Option (Int32 × Int32 × Int32 × Int32 × (Nat → Int32)) :=
  ld o_draft 2243 (7 : Int32) fun (v24 : Int32) =>
  if v24 = (20 : Int32) then
    bn2 (X7_report o_error o_errorAt (-5 : Int32) p1) fun (o26 : Int32) (o27 : Int32) =>
    X7_readViewer_J19 o_textLength o_position o_numberStart o_buffer o_draft p1 o26 o27
  else
    X7_readViewer_J19 o_textLength o_position o_numberStart o_buffer o_draft p1 o_error o_errorAt
def X7_statement_J160 (o_textLength : Int32) (o_buffer : Nat → Int32)  (o_position : Int32) (o_error : Int32) (o_errorAt : Int32) (o_numberStart : Int32) (o_nesting : Int32) (o_seen : Int32) (o_toldPlanes : Int32) (o_draft : Nat → Int32) : Option (Int32 × Int32 × Int32 × Int32 × Int32 × Int32 × Int32 × (Nat → Int32)) :=
  bn3 (X7_expect o_textLength o_position o_error o_errorAt o_buffer (59 : Int32)) fun (o1 : Int32) (o2 : Int32) (o3 : Int32) =>
  some (o1, o2, o3, o_numberStart, o_nesting, o_seen, o_toldPlanes, o_draft)
def X7_statement (o_textLength : Int32) (o_position : Int32) (o_error : Int32) (o_errorAt : Int32) (o_numberStart : Int32) (o_nesting : Int32) (o_seen : Int32) (o_toldPlanes : Int32) (o_buffer : Nat → Int32) (o_draft : Nat → Int32) : Option (Int32 × Int32 × Int32 × Int32 × Int32 × Int32 × Int32 × (Nat → Int32)) :=
  bn2 (X7_ahead o_textLength o_position o_buffer) fun (r5 : Int32) (o6 : Int32) =>
  bn2 (X7_takeWord [112, 108, 97, 110, 101] o_textLength o6 o_error o_buffer) fun (r9 : Int32) (o10 : Int32) =>
  if r9 = 0 then
    bn2 (X7_takeWord [104, 111, 108, 101] o_textLength o10 o_error o_buffer) fun (r14 : Int32) (o15 : Int32) =>
    if r14 = 0 then
      bn2 (X7_takeWord [114, 101, 97, 99, 104] o_textLength o15 o_error o_buffer) fun (r19 : Int32) (o20 : Int32) =>
      if r19 = 0 then
        bn2 (X7_takeWord [108, 101, 110, 103, 116, 104] o_textLength o20 o_error o_buffer) fun (r24 : Int32) (o25 : Int32) =>
        if r24 = 0 then
          bn2 (X7_takeWord [118, 105, 101, 119, 101, 114] o_textLength o25 o_error o_buffer) fun (r29 : Int32) (o30 : Int32) =>
          if r29 = 0 then
            bn2 (X7_takeWord [112, 114, 105, 99, 101] o_textLength o30 o_error o_buffer) fun (r34 : Int32) (o35 : Int32) =>
            if r34 = 0 then
              bn2 (X7_report o_error o_errorAt (-2 : Int32) o6) fun (o38 : Int32) (o39 : Int32) =>
              X7_statement_J160 o_textLength o_buffer o35 o38 o39 o_numberStart o_nesting o_seen o_toldPlanes o_draft
            else
              bn3 (X7_once o_error o_errorAt o_seen (2 : Int32) o6) fun (o41 : Int32) (o42 : Int32) (o43 : Int32) =>
              st 2243 (8 : Int32) (upd o_draft (8 : Int32).toNatClampNeg (1 : Int32)) fun (b46 : Nat → Int32) =>
              bn6 (X7_readSum 6 o_textLength o35 o41 o42 o_numberStart o_nesting o_buffer b46) fun (o47 : Int32) (o48 : Int32) (o49 : Int32) (o50 : Int32) (o51 : Int32) (o52 : Nat → Int32) =>
              X7_statement_J160 o_textLength o_buffer o47 o48 o49 o50 o51 o43 o_toldPlanes o52
          else
            bn5 (X7_readViewer o_textLength o30 o_error o_errorAt o_numberStart o_buffer o_draft o6) fun (o54 : Int32) (o55 : Int32) (o56 : Int32) (o57 : Int32) (o58 : Nat → Int32) =>
            X7_statement_J160 o_textLength o_buffer o54 o55 o56 o57 o_nesting o_seen o_toldPlanes o58
        else
          bn3 (X7_once o_error o_errorAt o_seen (1 : Int32) o6) fun (o60 : Int32) (o61 : Int32) (o62 : Int32) =>
          bn5 (X7_number o_textLength o25 o60 o61 o_numberStart o_buffer (1 : Int32) (20 : Int32)) fun (r64 : Int32) (o65 : Int32) (o66 : Int32) (o67 : Int32) (o68 : Int32) =>
          st 2243 (5 : Int32) (upd o_draft (5 : Int32).toNatClampNeg r64) fun (b71 : Nat → Int32) =>
          X7_statement_J160 o_textLength o_buffer o65 o66 o67 o68 o_nesting o62 o_toldPlanes b71
      else
        bn3 (X7_once o_error o_errorAt o_seen (0 : Int32) o6) fun (o72 : Int32) (o73 : Int32) (o74 : Int32) =>
        bn5 (X7_number o_textLength o20 o72 o73 o_numberStart o_buffer (0 : Int32) (9 : Int32)) fun (r76 : Int32) (o77 : Int32) (o78 : Int32) (o79 : Int32) (o80 : Int32) =>
        st 2243 (4 : Int32) (upd o_draft (4 : Int32).toNatClampNeg r76) fun (b83 : Nat → Int32) =>
        X7_statement_J160 o_textLength o_buffer o77 o78 o79 o80 o_nesting o74 o_toldPlanes b83
    else
      bn5 (X7_readHole o_textLength o15 o_error o_errorAt o_numberStart o_buffer o_draft o6) fun (o84 : Int32) (o85 : Int32) (o86 : Int32) (o87 : Int32) (o88 : Nat → Int32) =>
      X7_statement_J160 o_textLength o_buffer o84 o85 o86 o87 o_nesting o_seen o_toldPlanes o88
  else
    bn5 (X7_readPlane o_textLength o10 o_error o_errorAt o_toldPlanes o_buffer o_draft o6) fun (o90 : Int32) (o91 : Int32) (o92 : Int32) (o93 : Int32) (o94 : Nat → Int32) =>
    X7_statement_J160 o_textLength o_buffer o90 o91 o92 o_numberStart o_nesting o_seen o93 o94
def X7_remember_J53 (o_data : Nat → Int32)  (o_undoDepth : Int32) (o_history_r0 : Nat → Int32) (o_history_r1 : Nat → Int32) (o_history_r2 : Nat → Int32) (o_history_r3 : Nat → Int32) (o_history_r4 : Nat → Int32) (o_history_r5 : Nat → Int32) (o_history_r6 : Nat → Int32) (o_history_r7 : Nat → Int32) : Option (Int32 × (Nat → Int32) × (Nat → Int32) × (Nat → Int32) × (Nat → Int32) × (Nat → Int32) × (Nat → Int32) × (Nat → Int32) × (Nat → Int32)) :=
  ck (¬ (o_undoDepth < 0 ∨ 8 ≤ o_undoDepth.toNatClampNeg)) <|
  rw8 o_undoDepth.toNatClampNeg
    (bn1 (X7_copy 2243 2243 o_data o_history_r0 (2243 : Int32)) fun (o4 : Nat → Int32) =>
    nm (o_undoDepth + (1 : Int32)) fun (v6 : Int32) =>
    some (v6, o4, o_history_r1, o_history_r2, o_history_r3, o_history_r4, o_history_r5, o_history_r6, o_history_r7))
    (bn1 (X7_copy 2243 2243 o_data o_history_r1 (2243 : Int32)) fun (o7 : Nat → Int32) =>
    nm (o_undoDepth + (1 : Int32)) fun (v9 : Int32) =>
    some (v9, o_history_r0, o7, o_history_r2, o_history_r3, o_history_r4, o_history_r5, o_history_r6, o_history_r7))
    (bn1 (X7_copy 2243 2243 o_data o_history_r2 (2243 : Int32)) fun (o10 : Nat → Int32) =>
    nm (o_undoDepth + (1 : Int32)) fun (v12 : Int32) =>
    some (v12, o_history_r0, o_history_r1, o10, o_history_r3, o_history_r4, o_history_r5, o_history_r6, o_history_r7))
    (bn1 (X7_copy 2243 2243 o_data o_history_r3 (2243 : Int32)) fun (o13 : Nat → Int32) =>
    nm (o_undoDepth + (1 : Int32)) fun (v15 : Int32) =>
    some (v15, o_history_r0, o_history_r1, o_history_r2, o13, o_history_r4, o_history_r5, o_history_r6, o_history_r7))
    (bn1 (X7_copy 2243 2243 o_data o_history_r4 (2243 : Int32)) fun (o16 : Nat → Int32) =>
    nm (o_undoDepth + (1 : Int32)) fun (v18 : Int32) =>
    some (v18, o_history_r0, o_history_r1, o_history_r2, o_history_r3, o16, o_history_r5, o_history_r6, o_history_r7))
    (bn1 (X7_copy 2243 2243 o_data o_history_r5 (2243 : Int32)) fun (o19 : Nat → Int32) =>
    nm (o_undoDepth + (1 : Int32)) fun (v21 : Int32) =>
    some (v21, o_history_r0, o_history_r1, o_history_r2, o_history_r3, o_history_r4, o19, o_history_r6, o_history_r7))
    (bn1 (X7_copy 2243 2243 o_data o_history_r6 (2243 : Int32)) fun (o22 : Nat → Int32) =>
    nm (o_undoDepth + (1 : Int32)) fun (v24 : Int32) =>
    some (v24, o_history_r0, o_history_r1, o_history_r2, o_history_r3, o_history_r4, o_history_r5, o22, o_history_r7))
    (bn1 (X7_copy 2243 2243 o_data o_history_r7 (2243 : Int32)) fun (o25 : Nat → Int32) =>
    nm (o_undoDepth + (1 : Int32)) fun (v27 : Int32) =>
    some (v27, o_history_r0, o_history_r1, o_history_r2, o_history_r3, o_history_r4, o_history_r5, o_history_r6, o25))
def X7_remember_L11 (o_undoDepth : Int32) (o_data : Nat → Int32)  : Nat → Int32 → (Nat → Int32) → (Nat → Int32) → (Nat → Int32) → (Nat → Int32) → (Nat → Int32) → (Nat → Int32) → (Nat → Int32) → (Nat → Int32) → Option (Int32 × (Nat → Int32) × (Nat → Int32) × (Nat → Int32) × (Nat → Int32) × (Nat → Int32) × (Nat → Int32) × (Nat → Int32) × (Nat → Int32))
  | 0, _, _, _, _, _, _, _, _, _ => none
  | n + 1, l1, o_history_r0, o_history_r1, o_history_r2, o_history_r3, o_history_r4, o_history_r5, o_history_r6, o_history_r7 =>
    if (8 : Int32) ≤ l1 then
      nm (o_undoDepth - (1 : Int32)) fun (v29 : Int32) =>
      X7_remember_J53 o_data v29 o_history_r0 o_history_r1 o_history_r2 o_history_r3 o_history_r4 o_history_r5 o_history_r6 o_history_r7
    else
      ck (¬ (l1 < 0 ∨ 8 ≤ l1.toNatClampNeg)) <|
      rw8 l1.toNatClampNeg
        (ck (¬ ((l1 - (1 : Int32)) < 0 ∨ 8 ≤ (l1 - (1 : Int32)).toNatClampNeg)) <|
        none)
        (ck (¬ ((l1 - (1 : Int32)) < 0 ∨ 8 ≤ (l1 - (1 : Int32)).toNatClampNeg)) <|
        rw8 (l1 - (1 : Int32)).toNatClampNeg
          (bn1 (X7_copy 2243 2243 o_history_r1 o_history_r0 (2243 : Int32)) fun (o36 : Nat → Int32) =>
          nm (l1 + (1 : Int32)) fun (v38 : Int32) =>
          X7_remember_L11 o_undoDepth o_data n v38 o36 o_history_r1 o_history_r2 o_history_r3 o_history_r4 o_history_r5 o_history_r6 o_history_r7)
          none
          none
          none
          none
          none
          none
          none)
        (ck (¬ ((l1 - (1 : Int32)) < 0 ∨ 8 ≤ (l1 - (1 : Int32)).toNatClampNeg)) <|
        rw8 (l1 - (1 : Int32)).toNatClampNeg
          none
          (bn1 (X7_copy 2243 2243 o_history_r2 o_history_r1 (2243 : Int32)) fun (o41 : Nat → Int32) =>
          nm (l1 + (1 : Int32)) fun (v43 : Int32) =>
          X7_remember_L11 o_undoDepth o_data n v43 o_history_r0 o41 o_history_r2 o_history_r3 o_history_r4 o_history_r5 o_history_r6 o_history_r7)
          none
          none
          none
          none
          none
          none)
        (ck (¬ ((l1 - (1 : Int32)) < 0 ∨ 8 ≤ (l1 - (1 : Int32)).toNatClampNeg)) <|
        rw8 (l1 - (1 : Int32)).toNatClampNeg
          none
          none
          (bn1 (X7_copy 2243 2243 o_history_r3 o_history_r2 (2243 : Int32)) fun (o46 : Nat → Int32) =>
          nm (l1 + (1 : Int32)) fun (v48 : Int32) =>
          X7_remember_L11 o_undoDepth o_data n v48 o_history_r0 o_history_r1 o46 o_history_r3 o_history_r4 o_history_r5 o_history_r6 o_history_r7)
          none
          none
          none
          none
          none)
        (ck (¬ ((l1 - (1 : Int32)) < 0 ∨ 8 ≤ (l1 - (1 : Int32)).toNatClampNeg)) <|
        rw8 (l1 - (1 : Int32)).toNatClampNeg
          none
          none
          none
          (bn1 (X7_copy 2243 2243 o_history_r4 o_history_r3 (2243 : Int32)) fun (o51 : Nat → Int32) =>
          nm (l1 + (1 : Int32)) fun (v53 : Int32) =>
          X7_remember_L11 o_undoDepth o_data n v53 o_history_r0 o_history_r1 o_history_r2 o51 o_history_r4 o_history_r5 o_history_r6 o_history_r7)
          none
          none
          none
          none)
        (ck (¬ ((l1 - (1 : Int32)) < 0 ∨ 8 ≤ (l1 - (1 : Int32)).toNatClampNeg)) <|
        rw8 (l1 - (1 : Int32)).toNatClampNeg
          none
          none
          none
          none
          (bn1 (X7_copy 2243 2243 o_history_r5 o_history_r4 (2243 : Int32)) fun (o56 : Nat → Int32) =>
          nm (l1 + (1 : Int32)) fun (v58 : Int32) =>
          X7_remember_L11 o_undoDepth o_data n v58 o_history_r0 o_history_r1 o_history_r2 o_history_r3 o56 o_history_r5 o_history_r6 o_history_r7)
          none
          none
          none)
        (ck (¬ ((l1 - (1 : Int32)) < 0 ∨ 8 ≤ (l1 - (1 : Int32)).toNatClampNeg)) <|
        rw8 (l1 - (1 : Int32)).toNatClampNeg
          none
          none
          none
          none
          none
          (bn1 (X7_copy 2243 2243 o_history_r6 o_history_r5 (2243 : Int32)) fun (o61 : Nat → Int32) =>
          nm (l1 + (1 : Int32)) fun (v63 : Int32) =>
          X7_remember_L11 o_undoDepth o_data n v63 o_history_r0 o_history_r1 o_history_r2 o_history_r3 o_history_r4 o61 o_history_r6 o_history_r7)
          none
          none)
        (ck (¬ ((l1 - (1 : Int32)) < 0 ∨ 8 ≤ (l1 - (1 : Int32)).toNatClampNeg)) <|
        rw8 (l1 - (1 : Int32)).toNatClampNeg
          none
          none
          none
          none
          none
          none
          (bn1 (X7_copy 2243 2243 o_history_r7 o_history_r6 (2243 : Int32)) fun (o66 : Nat → Int32) =>
          nm (l1 + (1 : Int32)) fun (v68 : Int32) =>
          X7_remember_L11 o_undoDepth o_data n v68 o_history_r0 o_history_r1 o_history_r2 o_history_r3 o_history_r4 o_history_r5 o66 o_history_r7)
          none)
def X7_remember (o_undoDepth : Int32) (o_data : Nat → Int32) (o_history_r0 : Nat → Int32) (o_history_r1 : Nat → Int32) (o_history_r2 : Nat → Int32) (o_history_r3 : Nat → Int32) (o_history_r4 : Nat → Int32) (o_history_r5 : Nat → Int32) (o_history_r6 : Nat → Int32) (o_history_r7 : Nat → Int32) : Option (Int32 × (Nat → Int32) × (Nat → Int32) × (Nat → Int32) × (Nat → Int32) × (Nat → Int32) × (Nat → Int32) × (Nat → Int32) × (Nat → Int32)) :=
  if o_undoDepth = (8 : Int32) then
    X7_remember_L11 o_undoDepth o_data FU (1 : Int32) o_history_r0 o_history_r1 o_history_r2 o_history_r3 o_history_r4 o_history_r5 o_history_r6 o_history_r7
  else
    X7_remember_J53 o_data o_undoDepth o_history_r0 o_history_r1 o_history_r2 o_history_r3 o_history_r4 o_history_r5 o_history_r6 o_history_r7
def X7_load_J190 (o_undoDepth : Int32) (o_buffer : Nat → Int32) (o_data : Nat → Int32) (o_history_r0 : Nat → Int32) (o_history_r1 : Nat → Int32) (o_history_r2 : Nat → Int32) (o_history_r3 : Nat → Int32) (o_history_r4 : Nat → Int32) (o_history_r5 : Nat → Int32) (o_history_r6 : Nat → Int32) (o_history_r7 : Nat → Int32) (p1 : Int32)  (o_thrown : Int32) (o_bufferLength : Int32) (o_textLength : Int32) (o_position : Int32) (o_error : Int32) (o_errorAt : Int32) (o_errorOffset : Int32) (o_numberStart : Int32) (o_nesting : Int32) (o_seen : Int32) (o_toldPlanes : Int32) (o_draft : Nat → Int32) : Option (Int32 × Int32 × Int32 × Int32 × Int32 × Int32 × Int32 × Int32 × Int32 × Int32 × Int32 × Int32 × Int32 × (Nat → Int32) × (Nat → Int32) × (Nat → Int32) × (Nat → Int32) × (Nat → Int32) × (Nat → Int32) × (Nat → Int32) × (Nat → Int32) × (Nat → Int32) × (Nat → Int32)) :=
  bn9 (X7_remember o_undoDepth o_data o_history_r0 o_history_r1 o_history_r2 o_history_r3 o_history_r4 o_history_r5 o_history_r6 o_history_r7) fun (o1 : Int32) (o2 : Nat → Int32) (o3 : Nat → Int32) (o4 : Nat → Int32) (o5 : Nat → Int32) (o6 : Nat → Int32) (o7 : Nat → Int32) (o8 : Nat → Int32) (o9 : Nat → Int32) =>
  bn1 (X7_copy 2243 2243 o_draft o_data (2243 : Int32)) fun (o11 : Nat → Int32) =>
  ld o11 2243 (7 : Int32) fun (v14 : Int32) =>
  some (v14, o_thrown, o_bufferLength, o_textLength, o_position, o_error, o_errorAt, o_errorOffset, o1, o_numberStart, o_nesting, o_seen, o_toldPlanes, o11, o_draft, o2, o3, o4, o5, o6, o7, o8, o9)
def X7_load_J154 (o_errorOffset : Int32) (o_undoDepth : Int32) (o_buffer : Nat → Int32) (o_data : Nat → Int32) (o_history_r0 : Nat → Int32) (o_history_r1 : Nat → Int32) (o_history_r2 : Nat → Int32) (o_history_r3 : Nat → Int32) (o_history_r4 : Nat → Int32) (o_history_r5 : Nat → Int32) (o_history_r6 : Nat → Int32) (o_history_r7 : Nat → Int32) (p1 : Int32)  (o_thrown : Int32) (o_bufferLength : Int32) (o_textLength : Int32) (o_position : Int32) (o_error : Int32) (o_errorAt : Int32) (o_numberStart : Int32) (o_nesting : Int32) (o_seen : Int32) (o_toldPlanes : Int32) (o_draft : Nat → Int32) : Option (Int32 × Int32 × Int32 × Int32 × Int32 × Int32 × Int32 × Int32 × Int32 × Int32 × Int32 × Int32 × Int32 × (Nat → Int32) × (Nat → Int32) × (Nat → Int32) × (Nat → Int32) × (Nat → Int32) × (Nat → Int32) × (Nat → Int32) × (Nat → Int32) × (Nat → Int32) × (Nat → Int32)) :=
  bn1 (X7_isGood o_error) fun (r15 : Int32) =>
  if r15 = 0 then
    some (o_error, o_thrown, o_bufferLength, o_textLength, o_position, o_error, o_errorAt, o_errorAt, o_undoDepth, o_numberStart, o_nesting, o_seen, o_toldPlanes, o_data, o_draft, o_history_r0, o_history_r1, o_history_r2, o_history_r3, o_history_r4, o_history_r5, o_history_r6, o_history_r7)
  else
    ld o_draft 2243 (3 : Int32) fun (v19 : Int32) =>
    if v19 = 0 then
      st 2243 (3 : Int32) (upd o_draft (3 : Int32).toNatClampNeg (1 : Int32)) fun (b22 : Nat → Int32) =>
      X7_load_J190 o_undoDepth o_buffer o_data o_history_r0 o_history_r1 o_history_r2 o_history_r3 o_history_r4 o_history_r5 o_history_r6 o_history_r7 p1 o_thrown o_bufferLength o_textLength o_position o_error o_errorAt o_errorAt o_numberStart o_nesting o_seen o_toldPlanes b22
    else
      X7_load_J190 o_undoDepth o_buffer o_data o_history_r0 o_history_r1 o_history_r2 o_history_r3 o_history_r4 o_history_r5 o_history_r6 o_history_r7 p1 o_thrown o_bufferLength o_textLength o_position o_error o_errorAt o_errorAt o_numberStart o_nesting o_seen o_toldPlanes o_draft
def X7_load_L132 (o_errorOffset : Int32) (o_undoDepth : Int32) (o_buffer : Nat → Int32) (o_data : Nat → Int32) (o_history_r0 : Nat → Int32) (o_history_r1 : Nat → Int32) (o_history_r2 : Nat → Int32) (o_history_r3 : Nat → Int32) (o_history_r4 : Nat → Int32) (o_history_r5 : Nat → Int32) (o_history_r6 : Nat → Int32) (o_history_r7 : Nat → Int32) (p1 : Int32)  : Nat → Int32 → Int32 → Int32 → Int32 → Int32 → Int32 → Int32 → Int32 → Int32 → Int32 → (Nat → Int32) → Option (Int32 × Int32 × Int32 × Int32 × Int32 × Int32 × Int32 × Int32 × Int32 × Int32 × Int32 × Int32 × Int32 × (Nat → Int32) × (Nat → Int32) × (Nat → Int32) × (Nat → Int32) × (Nat → Int32) × (Nat → Int32) × (Nat → Int32) × (Nat → Int32) × (Nat → Int32) × (Nat → Int32))
  | 0, _, _, _, _, _, _, _, _, _, _, _ => none
  | n + 1, o_thrown, o_bufferLength, o_textLength, o_position, o_error, o_errorAt, o_numberStart, o_nesting, o_seen, o_toldPlanes, o_draft =>
    bn1 (X7_isGood o_error) fun (r23 : Int32) =>
    if r23 = 0 then
      X7_load_J154 o_errorOffset o_undoDepth o_buffer o_data o_history_r0 o_history_r1 o_history_r2 o_history_r3 o_history_r4 o_history_r5 o_history_r6 o_history_r7 p1 o_thrown o_bufferLength o_textLength o_position o_error o_errorAt o_numberStart o_nesting o_seen o_toldPlanes o_draft
    else
      bn2 (X7_ahead o_textLength o_position o_buffer) fun (r26 : Int32) (o27 : Int32) =>
      if r26 = (-1 : Int32) then
        X7_load_J154 o_errorOffset o_undoDepth o_buffer o_data o_history_r0 o_history_r1 o_history_r2 o_history_r3 o_history_r4 o_history_r5 o_history_r6 o_history_r7 p1 o_thrown o_bufferLength o_textLength o27 o_error o_errorAt o_numberStart o_nesting o_seen o_toldPlanes o_draft
      else
        bn8 (X7_statement o_textLength o27 o_error o_errorAt o_numberStart o_nesting o_seen o_toldPlanes o_buffer o_draft) fun (o30 : Int32) (o31 : Int32) (o32 : Int32) (o33 : Int32) (o34 : Int32) (o35 : Int32) (o36 : Int32) (o37 : Nat → Int32) =>
        X7_load_L132 o_errorOffset o_undoDepth o_buffer o_data o_history_r0 o_history_r1 o_history_r2 o_history_r3 o_history_r4 o_history_r5 o_history_r6 o_history_r7 p1 n o_thrown o_bufferLength o_textLength o30 o31 o32 o33 o34 o35 o36 o37
def X7_load_J91 (o_errorOffset : Int32) (o_undoDepth : Int32) (o_numberStart : Int32) (o_buffer : Nat → Int32) (o_data : Nat → Int32) (o_draft : Nat → Int32) (o_history_r0 : Nat → Int32) (o_history_r1 : Nat → Int32) (o_history_r2 : Nat → Int32) (o_history_r3 : Nat → Int32) (o_history_r4 : Nat → Int32) (o_history_r5 : Nat → Int32) (o_history_r6 : Nat → Int32) (o_history_r7 : Nat → Int32) (p1 : Int32)  (o_thrown : Int32) (o_bufferLength : Int32) (o_textLength : Int32) (o_position : Int32) (o_error : Int32) (o_errorAt : Int32) (o_nesting : Int32) (o_seen : Int32) (o_toldPlanes : Int32) : Option (Int32 × Int32 × Int32 × Int32 × Int32 × Int32 × Int32 × Int32 × Int32 × Int32 × Int32 × Int32 × Int32 × (Nat → Int32) × (Nat → Int32) × (Nat → Int32) × (Nat → Int32) × (Nat → Int32) × (Nat → Int32) × (Nat → Int32) × (Nat → Int32) × (Nat → Int32) × (Nat → Int32)) :=
  bn5 (X7_number o_textLength o_position o_error o_errorAt o_numberStart o_buffer (1 : Int32) (12 : Int32)) fun (r39 : Int32) (o40 : Int32) (o41 : Int32) (o42 : Int32) (o43 : Int32) =>
  bn5 (X7_number o_textLength o40 o41 o42 o43 o_buffer (1 : Int32) (8 : Int32)) fun (r45 : Int32) (o46 : Int32) (o47 : Int32) (o48 : Int32) (o49 : Int32) =>
  bn5 (X7_number o_textLength o46 o47 o48 o49 o_buffer (1 : Int32) (5 : Int32)) fun (r51 : Int32) (o52 : Int32) (o53 : Int32) (o54 : Int32) (o55 : Int32) =>
  bn1 (X7_layBox 2243 o_draft r39 r45 r51) fun (o57 : Nat → Int32) =>
  bn3 (X7_expect o_textLength o52 o53 o54 o_buffer (59 : Int32)) fun (o59 : Int32) (o60 : Int32) (o61 : Int32) =>
  X7_load_L132 o_errorOffset o_undoDepth o_buffer o_data o_history_r0 o_history_r1 o_history_r2 o_history_r3 o_history_r4 o_history_r5 o_history_r6 o_history_r7 p1 FU o_thrown o_bufferLength o_textLength o59 o60 o61 o55 o_nesting o_seen o_toldPlanes o57
def X7_load_J23 (o_bufferLength : Int32) (o_textLength : Int32) (o_position : Int32) (o_error : Int32) (o_errorAt : Int32) (o_errorOffset : Int32) (o_undoDepth : Int32) (o_numberStart : Int32) (o_nesting : Int32) (o_seen : Int32) (o_toldPlanes : Int32) (o_buffer : Nat → Int32) (o_data : Nat → Int32) (o_draft : Nat → Int32) (o_history_r0 : Nat → Int32) (o_history_r1 : Nat → Int32) (o_history_r2 : Nat → Int32) (o_history_r3 : Nat → Int32) (o_history_r4 : Nat → Int32) (o_history_r5 : Nat → Int32) (o_history_r6 : Nat → Int32) (o_history_r7 : Nat → Int32) (p1 : Int32)  (k1 : Int32) (o_thrown : Int32) : Option (Int32 × Int32 × Int32 × Int32 × Int32 × Int32 × Int32 × Int32 × Int32 × Int32 × Int32 × Int32 × Int32 × (Nat → Int32) × (Nat → Int32) × (Nat → Int32) × (Nat → Int32) × (Nat → Int32) × (Nat → Int32) × (Nat → Int32) × (Nat → Int32) × (Nat → Int32) × (Nat → Int32)) :=
  bn2 (X7_fails o_thrown k1 (1 : Int32)) fun (r63 : Int32) (o64 : Int32) =>
  if r63 = 0 then
    bn2 (X7_takeWord [98, 111, 120] p1 (0 : Int32) (0 : Int32) o_buffer) fun (r68 : Int32) (o69 : Int32) =>
    if r68 = 0 then
      bn2 (X7_report (0 : Int32) (-1 : Int32) (-2 : Int32) o69) fun (o72 : Int32) (o73 : Int32) =>
      X7_load_J91 o_errorOffset o_undoDepth o_numberStart o_buffer o_data o_draft o_history_r0 o_history_r1 o_history_r2 o_history_r3 o_history_r4 o_history_r5 o_history_r6 o_history_r7 p1 o64 (0 : Int32) p1 o69 o72 o73 (0 : Int32) (0 : Int32) (0 : Int32)
    else
      X7_load_J91 o_errorOffset o_undoDepth o_numberStart o_buffer o_data o_draft o_history_r0 o_history_r1 o_history_r2 o_history_r3 o_history_r4 o_history_r5 o_history_r6 o_history_r7 p1 o64 (0 : Int32) p1 o69 (0 : Int32) (-1 : Int32) (0 : Int32) (0 : Int32) (0 : Int32)
  else
    some ((0 : Int32), o64, o_bufferLength, o_textLength, o_position, o_error, o_errorAt, o_errorOffset, o_undoDepth, o_numberStart, o_nesting, o_seen, o_toldPlanes, o_data, o_draft, o_history_r0, o_history_r1, o_history_r2, o_history_r3, o_history_r4, o_history_r5, o_history_r6, o_history_r7)
def X7_load (o_thrown : Int32) (o_bufferLength : Int32) (o_textLength : Int32) (o_position : Int32) (o_error : Int32) (o_errorAt : Int32) (o_errorOffset : Int32) (o_undoDepth : Int32) (o_numberStart : Int32) (o_nesting : Int32) (o_seen : Int32) (o_toldPlanes : Int32) (o_buffer : Nat → Int32) (o_data : Nat → Int32) (o_draft : Nat → Int32) (o_history_r0 : Nat → Int32) (o_history_r1 : Nat → Int32) (o_history_r2 : Nat → Int32) (o_history_r3 : Nat → Int32) (o_history_r4 : Nat → Int32) (o_history_r5 : Nat → Int32) (o_history_r6 : Nat → Int32) (o_history_r7 : Nat → Int32) (p1 : Int32) : Option (Int32 × Int32 × Int32 × Int32 × Int32 × Int32 × Int32 × Int32 × Int32 × Int32 × Int32 × Int32 × Int32 × (Nat → Int32) × (Nat → Int32) × (Nat → Int32) × (Nat → Int32) × (Nat → Int32) × (Nat → Int32) × (Nat → Int32) × (Nat → Int32) × (Nat → Int32) × (Nat → Int32)) :=
  bn1 (X7_in p1 (0 : Int32) o_bufferLength) fun (r75 : Int32) =>
  if r75 = 0 then
    X7_load_J23 o_bufferLength o_textLength o_position o_error o_errorAt o_errorOffset o_undoDepth o_numberStart o_nesting o_seen o_toldPlanes o_buffer o_data o_draft o_history_r0 o_history_r1 o_history_r2 o_history_r3 o_history_r4 o_history_r5 o_history_r6 o_history_r7 p1 (1 : Int32) (0 : Int32)
  else
    X7_load_J23 o_bufferLength o_textLength o_position o_error o_errorAt o_errorOffset o_undoDepth o_numberStart o_nesting o_seen o_toldPlanes o_buffer o_data o_draft o_history_r0 o_history_r1 o_history_r2 o_history_r3 o_history_r4 o_history_r5 o_history_r6 o_history_r7 p1 (0 : Int32) (0 : Int32)
def X7_errorOffset (o_thrown : Int32) (o_errorOffset : Int32) : Option (Int32 × Int32) :=
  some (o_errorOffset, (0 : Int32))
def X7_cells (o_data : Nat → Int32) : Option (Int32) :=
  ld o_data 2243 (0 : Int32) fun (v2 : Int32) =>
  ld o_data 2243 (1 : Int32) fun (v4 : Int32) =>
  some (v2 * v4)
def X7_kindAt (o_data : Nat → Int32) (p1 : Int32) (p2 : Int32) (p3 : Int32) : Option (Int32) :=
  ld o_data 2243 ((10 : Int32) + p1) fun (v2 : Int32) =>
  nm (p3 + v2) fun (v3 : Int32) =>
  ld o_data 2243 (1 : Int32) fun (v5 : Int32) =>
  if v5 ≤ v3 then
    some (-1 : Int32)
  else
    ld o_data 2243 (0 : Int32) fun (v8 : Int32) =>
    ld o_data 2243 ((((15 : Int32) + ((96 : Int32) * p1)) + (v8 * v3)) + p2) fun (v10 : Int32) =>
    some v10
def X7_holeX (o_data : Nat → Int32) (p1 : Int32) : Option (Int32) :=
  ld o_data 2243 ((495 : Int32) + ((2 : Int32) * p1)) fun (v2 : Int32) =>
  some v2
def X7_holeY (o_data : Nat → Int32) (p1 : Int32) : Option (Int32) :=
  ld o_data 2243 (((495 : Int32) + ((2 : Int32) * p1)) + (1 : Int32)) fun (v2 : Int32) =>
  some v2
def X7_crossX (o_data : Nat → Int32) (p1 : Int32) (p2 : Int32) (p3 : Int32) : Option (Int32) :=
  bn1 (X7_holeX o_data p1) fun (r1 : Int32) =>
  ld o_data 2243 (0 : Int32) fun (v4 : Int32) =>
  ck (¬ v4 = 0) <|
  nm (p2 - p2 / v4 * v4) fun (v6 : Int32) =>
  bn1 (X7_holeX o_data p1) fun (r7 : Int32) =>
  ld o_data 2243 (2 : Int32) fun (v10 : Int32) =>
  ck (¬ v10 = 0) <|
  some (r1 + (((v6 - r7) * (p3 + (1 : Int32))) / v10))
def X7_crossY (o_data : Nat → Int32) (p1 : Int32) (p2 : Int32) (p3 : Int32) : Option (Int32) :=
  bn1 (X7_holeY o_data p1) fun (r1 : Int32) =>
  ld o_data 2243 (0 : Int32) fun (v4 : Int32) =>
  ck (¬ v4 = 0) <|
  bn1 (X7_holeY o_data p1) fun (r6 : Int32) =>
  ld o_data 2243 (2 : Int32) fun (v9 : Int32) =>
  ck (¬ v9 = 0) <|
  some (r1 + ((((p2 / v4) - r6) * (p3 + (1 : Int32))) / v9))
def X7_planeSeen_L2 (o_data : Nat → Int32) (p1 : Int32) (p2 : Int32)  : Nat → Int32 → Option (Int32)
  | 0, _ => none
  | n + 1, l3 =>
    bn1 (X7_crossX o_data p1 p2 l3) fun (r1 : Int32) =>
    bn1 (X7_crossY o_data p1 p2 l3) fun (r3 : Int32) =>
    bn1 (X7_kindAt o_data l3 r1 r3) fun (r5 : Int32) =>
    if r5 = (-1 : Int32) then
      nm (l3 + (1 : Int32)) fun (v8 : Int32) =>
      X7_planeSeen_L2 o_data p1 p2 n v8
    else
      some l3
def X7_planeSeen (o_data : Nat → Int32) (p1 : Int32) (p2 : Int32) : Option (Int32) :=
  X7_planeSeen_L2 o_data p1 p2 FU (0 : Int32)
def X7_kindSeen (o_data : Nat → Int32) (p1 : Int32) (p2 : Int32) : Option (Int32) :=
  bn1 (X7_planeSeen o_data p1 p2) fun (r1 : Int32) =>
  bn1 (X7_crossX o_data p1 p2 r1) fun (r3 : Int32) =>
  bn1 (X7_crossY o_data p1 p2 r1) fun (r5 : Int32) =>
  bn1 (X7_kindAt o_data r1 r3 r5) fun (r7 : Int32) =>
  some r7
def X7_showing_J31 (o_data : Nat → Int32) (p1 : Int32) (p2 : Int32) (kL5 : Int32 → Int32 → Option (Int32)) (l4 : Int32) (k0 : Int32) (k1 : Int32) : Option (Int32) :=
  nm (k0 + k1) fun (v1 : Int32) =>
  nm (l4 + (1 : Int32)) fun (v2 : Int32) =>
  kL5 v1 v2
def X7_showing_L5 (o_data : Nat → Int32) (p1 : Int32) (p2 : Int32)  : Nat → Int32 → Int32 → Option (Int32)
  | 0, _, _ => none
  | n + 1, l3, l4 =>
    bn1 (X7_cells o_data) fun (r3 : Int32) =>
    if r3 ≤ l4 then
      some l3
    else
      bn1 (X7_kindSeen o_data p1 l4) fun (r6 : Int32) =>
      if r6 = p2 then
        X7_showing_J31 o_data p1 p2 (fun z0 z1 => X7_showing_L5 o_data p1 p2 n z0 z1) l4 l3 (1 : Int32)
      else
        X7_showing_J31 o_data p1 p2 (fun z0 z1 => X7_showing_L5 o_data p1 p2 n z0 z1) l4 l3 (0 : Int32)
def X7_showing (o_data : Nat → Int32) (p1 : Int32) (p2 : Int32) : Option (Int32) :=
  X7_showing_L5 o_data p1 p2 FU (0 : Int32) (0 : Int32)
def X7_kindsOf_L37 (o_data : Nat → Int32) (p1 : Int32)  : Nat → Int32 → Int32 → Int32 → Option (Int32)
  | 0, _, _, _ => none
  | n + 1, l2, l3, l4 =>
    if (26 : Int32) ≤ l4 then
      some l3
    else
      nm (l3 + ((l2 >>> (l4 &&& 31)) &&& (1 : Int32))) fun (v2 : Int32) =>
      nm (l4 + (1 : Int32)) fun (v3 : Int32) =>
      X7_kindsOf_L37 o_data p1 n l2 v2 v3
def X7_kindsOf_L7 (o_data : Nat → Int32) (p1 : Int32)  : Nat → Int32 → Int32 → Int32 → Option (Int32)
  | 0, _, _, _ => none
  | n + 1, l2, l3, l4 =>
    bn1 (X7_cells o_data) fun (r4 : Int32) =>
    if r4 ≤ l4 then
      X7_kindsOf_L37 o_data p1 FU l2 l3 (0 : Int32)
    else
      bn1 (X7_kindSeen o_data p1 l4) fun (r7 : Int32) =>
      nm (l2 ||| ((1 : Int32) <<< (r7 &&& 31))) fun (v9 : Int32) =>
      nm (l4 + (1 : Int32)) fun (v10 : Int32) =>
      X7_kindsOf_L7 o_data p1 n v9 l3 v10
def X7_kindsOf (o_data : Nat → Int32) (p1 : Int32) : Option (Int32) :=
  X7_kindsOf_L7 o_data p1 FU (0 : Int32) (0 : Int32) (0 : Int32)
def X7_depthOf_L4 (o_data : Nat → Int32) (p1 : Int32)  : Nat → Int32 → Int32 → Option (Int32)
  | 0, _, _ => none
  | n + 1, l2, l3 =>
    bn1 (X7_cells o_data) fun (r1 : Int32) =>
    if r1 ≤ l3 then
      bn1 (X7_cells o_data) fun (r4 : Int32) =>
      ck (¬ r4 = 0) <|
      some (l2 / r4)
    else
      bn1 (X7_planeSeen o_data p1 l3) fun (r7 : Int32) =>
      nm (l2 + (r7 + (1 : Int32))) fun (v9 : Int32) =>
      nm (l3 + (1 : Int32)) fun (v10 : Int32) =>
      X7_depthOf_L4 o_data p1 n v9 v10
def X7_depthOf (o_data : Nat → Int32) (p1 : Int32) : Option (Int32) :=
  X7_depthOf_L4 o_data p1 FU (0 : Int32) (0 : Int32)
def X7_limited (p0 : Int64) : Option (Int64) :=
  if (lg_cmp p0 (1000000 : Int64)) ≤ 0 then
    if 0 ≤ (lg_cmp p0 (-1000000 : Int64)) then
      some p0
    else
      some (-1000000 : Int64)
  else
    some (1000000 : Int64)
def X7_operate_J47 (p0 : Int32) (p1 : Int64) (p3 : Int64)  (k0 : Int64) : Option (Int64) :=
  bn1 (X7_limited k0) fun (r1 : Int64) =>
  some r1
def X7_operate (p0 : Int32) (p1 : Int64) (p3 : Int64) : Option (Int64) :=
  if p0 = (5 : Int32) then
    if (lg_cmp p3 (0 : Int64)) = 0 then
      some (0 : Int64)
    else
      ck (¬ p3 = 0) <|
      bn1 (X7_limited (p1 / p3)) fun (r8 : Int64) =>
      some r8
  else
    if p0 = (2 : Int32) then
      X7_operate_J47 p0 p1 p3 (p1 + p3)
    else
      if p0 = (3 : Int32) then
        X7_operate_J47 p0 p1 p3 (p1 - p3)
      else
        X7_operate_J47 p0 p1 p3 (p1 * p3)
def X7_priceOf_J185 (o_data : Nat → Int32) (p1 : Int32) (p2 : Int32) (kL72 : Int32 → Int32 → (Nat → Int64) → (Nat → Int32) → Option (Int32 × (Nat → Int64) × (Nat → Int32))) (l3 : Int32) (l4 : Int32) (o_stack : Nat → Int64) (o_facts : Nat → Int32) : Option (Int32 × (Nat → Int64) × (Nat → Int32)) :=
  nm (l4 + (1 : Int32)) fun (v1 : Int32) =>
  kL72 l3 v1 o_stack o_facts
def X7_priceOf_J148 (o_data : Nat → Int32) (p1 : Int32) (p2 : Int32) (kL72 : Int32 → Int32 → (Nat → Int64) → (Nat → Int32) → Option (Int32 × (Nat → Int64) × (Nat → Int32))) (l3 : Int32) (l4 : Int32) (k1 : Int32) (k2 : Int64) (o_stack : Nat → Int64) (o_facts : Nat → Int32) : Option (Int32 × (Nat → Int64) × (Nat → Int32)) :=
  st 1600 k1 (vp_updL o_stack k1.toNatClampNeg k2) fun (b3 : Nat → Int64) =>
  nm (l3 + (1 : Int32)) fun (v4 : Int32) =>
  X7_priceOf_J185 o_data p1 p2 kL72 v4 l4 b3 o_facts
def X7_priceOf_L72 (o_data : Nat → Int32) (p1 : Int32) (p2 : Int32)  : Nat → Int32 → Int32 → (Nat → Int64) → (Nat → Int32) → Option (Int32 × (Nat → Int64) × (Nat → Int32))
  | 0, _, _, _, _ => none
  | n + 1, l3, l4, o_stack, o_facts =>
    ld o_data 2243 (9 : Int32) fun (v6 : Int32) =>
    if v6 ≤ l4 then
      ld o_stack 1600 (0 : Int32) fun (v9 : Int64) =>
      bn1 (X7_min (999 : Int32) v9.toInt32) fun (r10 : Int32) =>
      bn1 (X7_max (0 : Int32) r10) fun (r12 : Int32) =>
      some (r12, o_stack, o_facts)
    else
      ld o_data 2243 ((643 : Int32) + l4) fun (v15 : Int32) =>
      if (1 : Int32) < v15 then
        nm (l3 + (-1 : Int32)) fun (v17 : Int32) =>
        ld o_stack 1600 (v17 - (1 : Int32)) fun (v19 : Int64) =>
        ld o_stack 1600 v17 fun (v21 : Int64) =>
        bn1 (X7_operate v15 v19 v21) fun (r22 : Int64) =>
        st 1600 (v17 - (1 : Int32)) (vp_updL o_stack (v17 - (1 : Int32)).toNatClampNeg r22) fun (b25 : Nat → Int64) =>
        X7_priceOf_J185 o_data p1 p2 (fun z0 z1 z2 z3 => X7_priceOf_L72 o_data p1 p2 n z0 z1 z2 z3) v17 l4 b25 o_facts
      else
        nm (l4 + (1 : Int32)) fun (v26 : Int32) =>
        if v15 = 0 then
          ld o_data 2243 ((643 : Int32) + v26) fun (v33 : Int32) =>
          X7_priceOf_J148 o_data p1 p2 (fun z0 z1 z2 z3 => X7_priceOf_L72 o_data p1 p2 n z0 z1 z2 z3) l3 v26 l3 v33.toInt64 o_stack o_facts
        else
          ld o_data 2243 ((643 : Int32) + v26) fun (v29 : Int32) =>
          ld o_facts 4 v29 fun (v31 : Int32) =>
          X7_priceOf_J148 o_data p1 p2 (fun z0 z1 z2 z3 => X7_priceOf_L72 o_data p1 p2 n z0 z1 z2 z3) l3 v26 l3 v31.toInt64 o_stack o_facts
def X7_priceOf (o_data : Nat → Int32) (o_stack : Nat → Int64) (o_facts : Nat → Int32) (p1 : Int32) (p2 : Int32) : Option (Int32 × (Nat → Int64) × (Nat → Int32)) :=
  bn1 (X7_showing o_data p2 p1) fun (r34 : Int32) =>
  st 4 (0 : Int32) (upd o_facts (0 : Int32).toNatClampNeg r34) fun (b37 : Nat → Int32) =>
  ld o_data 2243 (8 : Int32) fun (v39 : Int32) =>
  if v39 = 0 then
    ld b37 4 (0 : Int32) fun (v54 : Int32) =>
    some (((1 : Int32) + v54), o_stack, b37)
  else
    bn1 (X7_kindsOf o_data p2) fun (r41 : Int32) =>
    st 4 (1 : Int32) (upd b37 (1 : Int32).toNatClampNeg r41) fun (b44 : Nat → Int32) =>
    bn1 (X7_depthOf o_data p2) fun (r45 : Int32) =>
    st 4 (2 : Int32) (upd b44 (2 : Int32).toNatClampNeg r45) fun (b48 : Nat → Int32) =>
    st 4 (3 : Int32) (upd b48 (3 : Int32).toNatClampNeg p2) fun (b50 : Nat → Int32) =>
    st 1600 (0 : Int32) (vp_updL o_stack (0 : Int32).toNatClampNeg (0 : Int64)) fun (b52 : Nat → Int64) =>
    X7_priceOf_L72 o_data p1 p2 FU (0 : Int32) (0 : Int32) b52 b50
def X7_of (o_data : Nat → Int32) (p1 : Int32) (p2 : Int32) : Option (Int32) :=
  ld o_data 2243 (((503 : Int32) + ((7 : Int32) * p1)) + p2) fun (v2 : Int32) =>
  some v2
def X7_set (o_data : Nat → Int32) (p1 : Int32) (p2 : Int32) (p3 : Int32) : Option ((Nat → Int32)) :=
  st 2243 (((503 : Int32) + ((7 : Int32) * p1)) + p2) (upd o_data (((503 : Int32) + ((7 : Int32) * p1)) + p2).toNatClampNeg p3) fun (b2 : Nat → Int32) =>
  some b2
def X7_canUse (o_data : Nat → Int32) (p1 : Int32) (p2 : Int32) : Option (Int32) :=
  bn1 (X7_of o_data p1 (0 : Int32)) fun (r1 : Int32) =>
  ld o_data 2243 (1 : Int32) fun (v4 : Int32) =>
  bn1 (X7_holeY o_data p2) fun (r5 : Int32) =>
  nm (if 0 ≤ (r1 - ((v4 - (1 : Int32)) - r5)) then (r1 - ((v4 - (1 : Int32)) - r5)) else 0 - (r1 - ((v4 - (1 : Int32)) - r5))) fun (v7 : Int32) =>
  ld o_data 2243 (4 : Int32) fun (v9 : Int32) =>
  if v9 < v7 then
    some (0 : Int32)
  else
    some (1 : Int32)
def X7_lookerAt_J35 (o_data : Nat → Int32) (p1 : Int32) (kL2 : Int32 → Option (Int32)) (l2 : Int32) : Option (Int32) :=
  nm (l2 + (1 : Int32)) fun (v1 : Int32) =>
  kL2 v1
def X7_lookerAt_L2 (o_data : Nat → Int32) (p1 : Int32)  : Nat → Int32 → Option (Int32)
  | 0, _ => none
  | n + 1, l2 =>
    ld o_data 2243 (7 : Int32) fun (v3 : Int32) =>
    if v3 ≤ l2 then
      some (-1 : Int32)
    else
      bn1 (X7_of o_data l2 (3 : Int32)) fun (r5 : Int32) =>
      if r5 = (1 : Int32) then
        bn1 (X7_of o_data l2 (4 : Int32)) fun (r8 : Int32) =>
        if r8 = p1 then
          some l2
        else
          X7_lookerAt_J35 o_data p1 (fun z0 => X7_lookerAt_L2 o_data p1 n z0) l2
      else
        X7_lookerAt_J35 o_data p1 (fun z0 => X7_lookerAt_L2 o_data p1 n z0) l2
def X7_lookerAt (o_data : Nat → Int32) (p1 : Int32) : Option (Int32) :=
  X7_lookerAt_L2 o_data p1 FU (0 : Int32)
def X7_inState_J31 (o_data : Nat → Int32) (p1 : Int32) (kL4 : Int32 → Int32 → Option (Int32)) (l3 : Int32) (k0 : Int32) (k1 : Int32) : Option (Int32) :=
  nm (k0 + k1) fun (v1 : Int32) =>
  nm (l3 + (1 : Int32)) fun (v2 : Int32) =>
  kL4 v1 v2
def X7_inState_L4 (o_data : Nat → Int32) (p1 : Int32)  : Nat → Int32 → Int32 → Option (Int32)
  | 0, _, _ => none
  | n + 1, l2, l3 =>
    ld o_data 2243 (7 : Int32) fun (v4 : Int32) =>
    if v4 ≤ l3 then
      some l2
    else
      bn1 (X7_of o_data l3 (3 : Int32)) fun (r6 : Int32) =>
      if r6 = p1 then
        X7_inState_J31 o_data p1 (fun z0 z1 => X7_inState_L4 o_data p1 n z0 z1) l3 l2 (1 : Int32)
      else
        X7_inState_J31 o_data p1 (fun z0 z1 => X7_inState_L4 o_data p1 n z0 z1) l3 l2 (0 : Int32)
def X7_inState (o_data : Nat → Int32) (p1 : Int32) : Option (Int32) :=
  X7_inState_L4 o_data p1 FU (0 : Int32) (0 : Int32)
def X7_paidInAll_L4 (o_data : Nat → Int32)  : Nat → Int32 → Int32 → Option (Int32)
  | 0, _, _ => none
  | n + 1, l1, l2 =>
    ld o_data 2243 (7 : Int32) fun (v2 : Int32) =>
    if v2 ≤ l2 then
      some l1
    else
      bn1 (X7_of o_data l2 (6 : Int32)) fun (r4 : Int32) =>
      nm (l1 + r4) fun (v6 : Int32) =>
      nm (l2 + (1 : Int32)) fun (v7 : Int32) =>
      X7_paidInAll_L4 o_data n v6 v7
def X7_paidInAll (o_data : Nat → Int32) : Option (Int32) :=
  X7_paidInAll_L4 o_data FU (0 : Int32) (0 : Int32)
def X7_look (o_data : Nat → Int32) (o_stack : Nat → Int64) (o_facts : Nat → Int32) (p1 : Int32) : Option ((Nat → Int32) × (Nat → Int64) × (Nat → Int32)) :=
  bn1 (X7_of o_data p1 (5 : Int32)) fun (r1 : Int32) =>
  bn1 (X7_set o_data p1 (5 : Int32) (r1 - (1 : Int32))) fun (o3 : Nat → Int32) =>
  bn1 (X7_of o3 p1 (5 : Int32)) fun (r5 : Int32) =>
  if r5 ≤ 0 then
    bn1 (X7_of o3 p1 (2 : Int32)) fun (r8 : Int32) =>
    bn1 (X7_of o3 p1 (1 : Int32)) fun (r10 : Int32) =>
    bn1 (X7_of o3 p1 (4 : Int32)) fun (r12 : Int32) =>
    bn3 (X7_priceOf o3 o_stack o_facts r10 r12) fun (r14 : Int32) (o15 : Nat → Int64) (o16 : Nat → Int32) =>
    bn1 (X7_min r8 r14) fun (r18 : Int32) =>
    bn1 (X7_of o3 p1 (2 : Int32)) fun (r20 : Int32) =>
    bn1 (X7_set o3 p1 (2 : Int32) (r20 - r18)) fun (o22 : Nat → Int32) =>
    bn1 (X7_set o22 p1 (6 : Int32) r18) fun (o24 : Nat → Int32) =>
    bn1 (X7_set o24 p1 (3 : Int32) (2 : Int32)) fun (o26 : Nat → Int32) =>
    bn1 (X7_set o26 p1 (4 : Int32) (-1 : Int32)) fun (o28 : Nat → Int32) =>
    some (o28, o15, o16)
  else
    some (o3, o_stack, o_facts)
def X7_choose_J120 (p1 : Int32)  (l2 : Int32) (o_data : Nat → Int32) (o_stack : Nat → Int64) (o_facts : Nat → Int32) : Option ((Nat → Int32) × (Nat → Int64) × (Nat → Int32)) :=
  if l2 = (-1 : Int32) then
    some (o_data, o_stack, o_facts)
  else
    bn1 (X7_set o_data p1 (3 : Int32) (1 : Int32)) fun (o2 : Nat → Int32) =>
    bn1 (X7_set o2 p1 (4 : Int32) l2) fun (o4 : Nat → Int32) =>
    ld o4 2243 (5 : Int32) fun (v7 : Int32) =>
    bn1 (X7_set o4 p1 (5 : Int32) v7) fun (o8 : Nat → Int32) =>
    some (o8, o_stack, o_facts)
def X7_choose_J102 (o_data : Nat → Int32) (p1 : Int32) (kL10 : Int32 → Int32 → Int32 → Int32 → (Nat → Int64) → (Nat → Int32) → Option ((Nat → Int32) × (Nat → Int64) × (Nat → Int32))) (l2 : Int32) (l3 : Int32) (l4 : Int32) (l5 : Int32) (o_stack : Nat → Int64) (o_facts : Nat → Int32) : Option ((Nat → Int32) × (Nat → Int64) × (Nat → Int32)) :=
  nm (l5 + (1 : Int32)) fun (v10 : Int32) =>
  kL10 l2 l3 l4 v10 o_stack o_facts
def X7_choose_J96 (o_data : Nat → Int32) (p1 : Int32) (kL10 : Int32 → Int32 → Int32 → Int32 → (Nat → Int64) → (Nat → Int32) → Option ((Nat → Int32) × (Nat → Int64) × (Nat → Int32))) (l4 : Int32) (l5 : Int32) (l6 : Int32) (o_stack : Nat → Int64) (o_facts : Nat → Int32) : Option ((Nat → Int32) × (Nat → Int64) × (Nat → Int32)) :=
  X7_choose_J102 o_data p1 kL10 l5 l6 l4 l5 o_stack o_facts
def X7_choose_L10 (o_data : Nat → Int32) (p1 : Int32)  : Nat → Int32 → Int32 → Int32 → Int32 → (Nat → Int64) → (Nat → Int32) → Option ((Nat → Int32) × (Nat → Int64) × (Nat → Int32))
  | 0, _, _, _, _, _, _ => none
  | n + 1, l2, l3, l4, l5, o_stack, o_facts =>
    ld o_data 2243 (3 : Int32) fun (v12 : Int32) =>
    if v12 ≤ l5 then
      if l4 = 0 then
        bn1 (X7_set o_data p1 (3 : Int32) (3 : Int32)) fun (o15 : Nat → Int32) =>
        X7_choose_J120 p1 l2 o15 o_stack o_facts
      else
        X7_choose_J120 p1 l2 o_data o_stack o_facts
    else
      bn1 (X7_canUse o_data p1 l5) fun (r17 : Int32) =>
      if r17 = 0 then
        X7_choose_J102 o_data p1 (fun z0 z1 z2 z3 z4 z5 => X7_choose_L10 o_data p1 n z0 z1 z2 z3 z4 z5) l2 l3 l4 l5 o_stack o_facts
      else
        bn1 (X7_of o_data p1 (1 : Int32)) fun (r20 : Int32) =>
        bn3 (X7_priceOf o_data o_stack o_facts r20 l5) fun (r22 : Int32) (o23 : Nat → Int64) (o24 : Nat → Int32) =>
        bn1 (X7_of o_data p1 (2 : Int32)) fun (r26 : Int32) =>
        if r22 ≤ r26 then
          bn1 (X7_of o_data p1 (1 : Int32)) fun (r29 : Int32) =>
          bn1 (X7_showing o_data l5 r29) fun (r31 : Int32) =>
          bn1 (X7_lookerAt o_data l5) fun (r33 : Int32) =>
          if r33 = (-1 : Int32) then
            if l2 = (-1 : Int32) then
              X7_choose_J96 o_data p1 (fun z0 z1 z2 z3 z4 z5 => X7_choose_L10 o_data p1 n z0 z1 z2 z3 z4 z5) (1 : Int32) l5 r31 o23 o24
            else
              if l3 < r31 then
                X7_choose_J96 o_data p1 (fun z0 z1 z2 z3 z4 z5 => X7_choose_L10 o_data p1 n z0 z1 z2 z3 z4 z5) (1 : Int32) l5 r31 o23 o24
              else
                X7_choose_J102 o_data p1 (fun z0 z1 z2 z3 z4 z5 => X7_choose_L10 o_data p1 n z0 z1 z2 z3 z4 z5) l2 l3 (1 : Int32) l5 o23 o24
          else
            X7_choose_J102 o_data p1 (fun z0 z1 z2 z3 z4 z5 => X7_choose_L10 o_data p1 n z0 z1 z2 z3 z4 z5) l2 l3 (1 : Int32) l5 o23 o24
        else
          X7_choose_J102 o_data p1 (fun z0 z1 z2 z3 z4 z5 => X7_choose_L10 o_data p1 n z0 z1 z2 z3 z4 z5) l2 l3 l4 l5 o23 o24
def X7_choose (o_data : Nat → Int32) (o_stack : Nat → Int64) (o_facts : Nat → Int32) (p1 : Int32) : Option ((Nat → Int32) × (Nat → Int64) × (Nat → Int32)) :=
  X7_choose_L10 o_data p1 FU (-1 : Int32) (0 : Int32) (0 : Int32) (0 : Int32) o_stack o_facts
def X7_tick_J61  (kL36 : Int32 → (Nat → Int32) → (Nat → Int64) → (Nat → Int32) → Option ((Nat → Int32) × (Nat → Int64) × (Nat → Int32))) (l1 : Int32) (o_data : Nat → Int32) (o_stack : Nat → Int64) (o_facts : Nat → Int32) : Option ((Nat → Int32) × (Nat → Int64) × (Nat → Int32)) :=
  nm (l1 + (1 : Int32)) fun (v1 : Int32) =>
  kL36 v1 o_data o_stack o_facts
def X7_tick_L36   : Nat → Int32 → (Nat → Int32) → (Nat → Int64) → (Nat → Int32) → Option ((Nat → Int32) × (Nat → Int64) × (Nat → Int32))
  | 0, _, _, _, _ => none
  | n + 1, l1, o_data, o_stack, o_facts =>
    ld o_data 2243 (7 : Int32) fun (v3 : Int32) =>
    if v3 ≤ l1 then
      ld o_data 2243 (6 : Int32) fun (v6 : Int32) =>
      st 2243 (6 : Int32) (upd o_data (6 : Int32).toNatClampNeg (v6 + (1 : Int32))) fun (b8 : Nat → Int32) =>
      some (b8, o_stack, o_facts)
    else
      bn1 (X7_of o_data l1 (3 : Int32)) fun (r9 : Int32) =>
      if r9 = 0 then
        bn3 (X7_choose o_data o_stack o_facts l1) fun (o12 : Nat → Int32) (o13 : Nat → Int64) (o14 : Nat → Int32) =>
        X7_tick_J61  (fun z0 z1 z2 z3 => X7_tick_L36  n z0 z1 z2 z3) l1 o12 o13 o14
      else
        X7_tick_J61  (fun z0 z1 z2 z3 => X7_tick_L36  n z0 z1 z2 z3) l1 o_data o_stack o_facts
def X7_tick_J28  (kL2 : Int32 → (Nat → Int32) → (Nat → Int64) → (Nat → Int32) → Option ((Nat → Int32) × (Nat → Int64) × (Nat → Int32))) (l1 : Int32) (o_data : Nat → Int32) (o_stack : Nat → Int64) (o_facts : Nat → Int32) : Option ((Nat → Int32) × (Nat → Int64) × (Nat → Int32)) :=
  nm (l1 + (1 : Int32)) fun (v16 : Int32) =>
  kL2 v16 o_data o_stack o_facts
def X7_tick_L2   : Nat → Int32 → (Nat → Int32) → (Nat → Int64) → (Nat → Int32) → Option ((Nat → Int32) × (Nat → Int64) × (Nat → Int32))
  | 0, _, _, _, _ => none
  | n + 1, l1, o_data, o_stack, o_facts =>
    ld o_data 2243 (7 : Int32) fun (v18 : Int32) =>
    if v18 ≤ l1 then
      X7_tick_L36  FU (0 : Int32) o_data o_stack o_facts
    else
      bn1 (X7_of o_data l1 (3 : Int32)) fun (r20 : Int32) =>
      if r20 = (1 : Int32) then
        bn3 (X7_look o_data o_stack o_facts l1) fun (o23 : Nat → Int32) (o24 : Nat → Int64) (o25 : Nat → Int32) =>
        X7_tick_J28  (fun z0 z1 z2 z3 => X7_tick_L2  n z0 z1 z2 z3) l1 o23 o24 o25
      else
        X7_tick_J28  (fun z0 z1 z2 z3 => X7_tick_L2  n z0 z1 z2 z3) l1 o_data o_stack o_facts
def X7_tick (o_data : Nat → Int32) (o_stack : Nat → Int64) (o_facts : Nat → Int32) : Option ((Nat → Int32) × (Nat → Int64) × (Nat → Int32)) :=
  X7_tick_L2  FU (0 : Int32) o_data o_stack o_facts
def X7_freeHoles_J29 (o_data : Nat → Int32) (kL4 : Int32 → Int32 → Option (Int32)) (l2 : Int32) (k0 : Int32) (k1 : Int32) : Option (Int32) :=
  nm (k0 + k1) fun (v1 : Int32) =>
  nm (l2 + (1 : Int32)) fun (v2 : Int32) =>
  kL4 v1 v2
def X7_freeHoles_L4 (o_data : Nat → Int32)  : Nat → Int32 → Int32 → Option (Int32)
  | 0, _, _ => none
  | n + 1, l1, l2 =>
    ld o_data 2243 (3 : Int32) fun (v4 : Int32) =>
    if v4 ≤ l2 then
      some l1
    else
      bn1 (X7_lookerAt o_data l2) fun (r6 : Int32) =>
      if r6 = (-1 : Int32) then
        X7_freeHoles_J29 o_data (fun z0 z1 => X7_freeHoles_L4 o_data n z0 z1) l2 l1 (1 : Int32)
      else
        X7_freeHoles_J29 o_data (fun z0 z1 => X7_freeHoles_L4 o_data n z0 z1) l2 l1 (0 : Int32)
def X7_freeHoles (o_data : Nat → Int32) : Option (Int32) :=
  X7_freeHoles_L4 o_data FU (0 : Int32) (0 : Int32)
def X7_told (o_data : Nat → Int32) (p1 : Int32) : Option (Int32) :=
  if p1 = (8 : Int32) then
    bn1 (X7_inState o_data (p1 - (8 : Int32))) fun (r2 : Int32) =>
    some r2
  else
  if p1 = (9 : Int32) then
    bn1 (X7_inState o_data (p1 - (8 : Int32))) fun (r5 : Int32) =>
    some r5
  else
  if p1 = (10 : Int32) then
    bn1 (X7_inState o_data (p1 - (8 : Int32))) fun (r8 : Int32) =>
    some r8
  else
  if p1 = (11 : Int32) then
    bn1 (X7_inState o_data (p1 - (8 : Int32))) fun (r11 : Int32) =>
    some r11
  else
  if p1 = (12 : Int32) then
    bn1 (X7_paidInAll o_data) fun (r14 : Int32) =>
    some r14
  else
  if p1 = (13 : Int32) then
    bn1 (X7_freeHoles o_data) fun (r17 : Int32) =>
    some r17
  else
  ld o_data 2243 p1 fun (v20 : Int32) =>
  some v20
def X7_state_J21 (o_data : Nat → Int32) (p1 : Int32)  (k1 : Int32) (o_thrown : Int32) : Option (Int32 × Int32) :=
  bn2 (X7_fails o_thrown k1 (1 : Int32)) fun (r1 : Int32) (o2 : Int32) =>
  if r1 = 0 then
    bn1 (X7_told o_data p1) fun (r5 : Int32) =>
    some (r5, o2)
  else
    some ((0 : Int32), o2)
def X7_state (o_thrown : Int32) (o_data : Nat → Int32) (p1 : Int32) : Option (Int32 × Int32) :=
  bn1 (X7_in p1 (0 : Int32) (13 : Int32)) fun (r7 : Int32) =>
  if r7 = 0 then
    X7_state_J21 o_data p1 (1 : Int32) (0 : Int32)
  else
    X7_state_J21 o_data p1 (0 : Int32) (0 : Int32)
def X7_noPlane_J22 (o_thrown : Int32) (o_data : Nat → Int32) (p1 : Int32)  (k1 : Int32) : Option (Int32 × Int32) :=
  bn2 (X7_fails o_thrown k1 (1 : Int32)) fun (r1 : Int32) (o2 : Int32) =>
  ck (r1 = 0 ∨ r1 = 1) <|
  some (r1, o2)
def X7_noPlane (o_thrown : Int32) (o_data : Nat → Int32) (p1 : Int32) : Option (Int32 × Int32) :=
  ld o_data 2243 (2 : Int32) fun (v6 : Int32) =>
  bn1 (X7_in p1 (0 : Int32) (v6 - (1 : Int32))) fun (r7 : Int32) =>
  if r7 = 0 then
    X7_noPlane_J22 o_thrown o_data p1 (1 : Int32)
  else
    X7_noPlane_J22 o_thrown o_data p1 (0 : Int32)
def X7_noCell_J38 (o_thrown : Int32) (o_data : Nat → Int32) (p1 : Int32) (p2 : Int32)  (k1 : Int32) : Option (Int32 × Int32) :=
  bn2 (X7_fails o_thrown k1 (1 : Int32)) fun (r1 : Int32) (o2 : Int32) =>
  ck (r1 = 0 ∨ r1 = 1) <|
  some (r1, o2)
def X7_noCell_J33 (o_thrown : Int32) (o_data : Nat → Int32) (p1 : Int32) (p2 : Int32)   : Option (Int32 × Int32) :=
  X7_noCell_J38 o_thrown o_data p1 p2 (1 : Int32)
def X7_noCell (o_thrown : Int32) (o_data : Nat → Int32) (p1 : Int32) (p2 : Int32) : Option (Int32 × Int32) :=
  ld o_data 2243 (0 : Int32) fun (v6 : Int32) =>
  bn1 (X7_in p1 (0 : Int32) (v6 - (1 : Int32))) fun (r7 : Int32) =>
  if r7 = 0 then
    X7_noCell_J33 o_thrown o_data p1 p2
  else
    ld o_data 2243 (1 : Int32) fun (v11 : Int32) =>
    bn1 (X7_in p2 (0 : Int32) (v11 - (1 : Int32))) fun (r12 : Int32) =>
    if r12 = 0 then
      X7_noCell_J33 o_thrown o_data p1 p2
    else
      X7_noCell_J38 o_thrown o_data p1 p2 (0 : Int32)
def X7_noHole_J22 (o_thrown : Int32) (o_data : Nat → Int32) (p1 : Int32)  (k1 : Int32) : Option (Int32 × Int32) :=
  bn2 (X7_fails o_thrown k1 (1 : Int32)) fun (r1 : Int32) (o2 : Int32) =>
  ck (r1 = 0 ∨ r1 = 1) <|
  some (r1, o2)
def X7_noHole (o_thrown : Int32) (o_data : Nat → Int32) (p1 : Int32) : Option (Int32 × Int32) :=
  ld o_data 2243 (3 : Int32) fun (v6 : Int32) =>
  bn1 (X7_in p1 (0 : Int32) (v6 - (1 : Int32))) fun (r7 : Int32) =>
  if r7 = 0 then
    X7_noHole_J22 o_thrown o_data p1 (1 : Int32)
  else
    X7_noHole_J22 o_thrown o_data p1 (0 : Int32)
def X7_noViewer_J23 (o_thrown : Int32) (o_data : Nat → Int32) (p1 : Int32)  (k1 : Int32) : Option (Int32 × Int32) :=
  bn2 (X7_fails o_thrown k1 (1 : Int32)) fun (r1 : Int32) (o2 : Int32) =>
  ck (r1 = 0 ∨ r1 = 1) <|
  some (r1, o2)
def X7_noViewer (o_thrown : Int32) (o_data : Nat → Int32) (p1 : Int32) : Option (Int32 × Int32) :=
  ld o_data 2243 (7 : Int32) fun (v6 : Int32) =>
  bn1 (X7_in p1 (0 : Int32) (v6 - (1 : Int32))) fun (r7 : Int32) =>
  if r7 = 0 then
    X7_noViewer_J23 o_thrown o_data p1 (1 : Int32)
  else
    X7_noViewer_J23 o_thrown o_data p1 (0 : Int32)
def X7_stands_J22 (o_data : Nat → Int32) (p1 : Int32) (p2 : Int32) (p3 : Int32)  (o_thrown : Int32) : Option (Int32 × Int32) :=
  some ((0 : Int32), o_thrown)
def X7_stands (o_thrown : Int32) (o_data : Nat → Int32) (p1 : Int32) (p2 : Int32) (p3 : Int32) : Option (Int32 × Int32) :=
  bn2 (X7_noPlane (0 : Int32) o_data p1) fun (r1 : Int32) (o2 : Int32) =>
  if r1 = 0 then
    bn2 (X7_noCell o2 o_data p2 p3) fun (r5 : Int32) (o6 : Int32) =>
    if r5 = 0 then
      bn1 (X7_kindAt o_data p1 p2 p3) fun (r9 : Int32) =>
      some (r9, o6)
    else
      X7_stands_J22 o_data p1 p2 p3 o6
  else
    X7_stands_J22 o_data p1 p2 p3 o2
def X7_toldPlane_J123 (o_data : Nat → Int32) (p1 : Int32) (p2 : Int32) (kL77 : Int32 → Int32 → Option (Int32)) (kL96 : Int32 → Int32 → Int32 → Option (Int32)) (l4 : Int32) (l5 : Int32) (k0 : Int32) (k1 : Int32) : Option (Int32) :=
  nm (k0 + k1) fun (v1 : Int32) =>
  nm (l5 + (1 : Int32)) fun (v2 : Int32) =>
  kL96 v1 l4 v2
def X7_toldPlane_L96 (o_data : Nat → Int32) (p1 : Int32) (p2 : Int32) (kL77 : Int32 → Int32 → Option (Int32)) : Nat → Int32 → Int32 → Int32 → Option (Int32)
  | 0, _, _, _ => none
  | n + 1, l3, l4, l5 =>
    bn1 (X7_cells o_data) fun (r3 : Int32) =>
    if r3 ≤ l5 then
      nm (l4 + (1 : Int32)) fun (v6 : Int32) =>
      kL77 l3 v6
    else
      bn1 (X7_planeSeen o_data l4 l5) fun (r7 : Int32) =>
      if r7 = p1 then
        X7_toldPlane_J123 o_data p1 p2 kL77 (fun z0 z1 z2 => X7_toldPlane_L96 o_data p1 p2 kL77 n z0 z1 z2) l4 l5 l3 (1 : Int32)
      else
        X7_toldPlane_J123 o_data p1 p2 kL77 (fun z0 z1 z2 => X7_toldPlane_L96 o_data p1 p2 kL77 n z0 z1 z2) l4 l5 l3 (0 : Int32)
def X7_toldPlane_L77 (o_data : Nat → Int32) (p1 : Int32) (p2 : Int32)  : Nat → Int32 → Int32 → Option (Int32)
  | 0, _, _ => none
  | n + 1, l3, l4 =>
    ld o_data 2243 (3 : Int32) fun (v11 : Int32) =>
    if v11 ≤ l4 then
      some l3
    else
      if p2 = (2 : Int32) then
        X7_toldPlane_L96 o_data p1 p2 (fun z0 z1 => X7_toldPlane_L77 o_data p1 p2 n z0 z1) FU l3 l4 (0 : Int32)
      else
        some l3
def X7_toldPlane_J74 (o_data : Nat → Int32) (p1 : Int32) (p2 : Int32)  (l3 : Int32) : Option (Int32) :=
  X7_toldPlane_L77 o_data p1 p2 FU l3 (0 : Int32)
def X7_toldPlane_J66 (o_data : Nat → Int32) (p1 : Int32) (p2 : Int32) (kL19 : Int32 → Int32 → Option (Int32)) (l4 : Int32) (k0 : Int32) (k1 : Int32) : Option (Int32) :=
  nm (k0 + k1) fun (v14 : Int32) =>
  nm (l4 + (1 : Int32)) fun (v15 : Int32) =>
  kL19 v14 v15
def X7_toldPlane_L19 (o_data : Nat → Int32) (p1 : Int32) (p2 : Int32)  : Nat → Int32 → Int32 → Option (Int32)
  | 0, _, _ => none
  | n + 1, l3, l4 =>
    bn1 (X7_cells o_data) fun (r16 : Int32) =>
    if r16 ≤ l4 then
      X7_toldPlane_J74 o_data p1 p2 l3
    else
      if p2 = (1 : Int32) then
        ld o_data 2243 (0 : Int32) fun (v21 : Int32) =>
        ck (¬ v21 = 0) <|
        nm (l4 - l4 / v21 * v21) fun (v23 : Int32) =>
        ld o_data 2243 (0 : Int32) fun (v25 : Int32) =>
        ck (¬ v25 = 0) <|
        bn1 (X7_kindAt o_data p1 v23 (l4 / v25)) fun (r27 : Int32) =>
        if r27 = (-1 : Int32) then
          X7_toldPlane_J66 o_data p1 p2 (fun z0 z1 => X7_toldPlane_L19 o_data p1 p2 n z0 z1) l4 l3 (0 : Int32)
        else
          X7_toldPlane_J66 o_data p1 p2 (fun z0 z1 => X7_toldPlane_L19 o_data p1 p2 n z0 z1) l4 l3 (1 : Int32)
      else
        X7_toldPlane_J74 o_data p1 p2 l3
def X7_toldPlane (o_data : Nat → Int32) (p1 : Int32) (p2 : Int32) : Option (Int32) :=
  if p2 = 0 then
    ld o_data 2243 ((10 : Int32) + p1) fun (v32 : Int32) =>
    some v32
  else
    X7_toldPlane_L19 o_data p1 p2 FU (0 : Int32) (0 : Int32)
def X7_plane_J35 (o_data : Nat → Int32) (p1 : Int32) (p2 : Int32)  (o_thrown : Int32) : Option (Int32 × Int32) :=
  some ((0 : Int32), o_thrown)
def X7_plane_J28 (o_data : Nat → Int32) (p1 : Int32) (p2 : Int32)  (k1 : Int32) (o_thrown : Int32) : Option (Int32 × Int32) :=
  bn2 (X7_fails o_thrown k1 (2 : Int32)) fun (r1 : Int32) (o2 : Int32) =>
  if r1 = 0 then
    bn1 (X7_toldPlane o_data p1 p2) fun (r5 : Int32) =>
    some (r5, o2)
  else
    X7_plane_J35 o_data p1 p2 o2
def X7_plane (o_thrown : Int32) (o_data : Nat → Int32) (p1 : Int32) (p2 : Int32) : Option (Int32 × Int32) :=
  bn2 (X7_noPlane (0 : Int32) o_data p1) fun (r7 : Int32) (o8 : Int32) =>
  if r7 = 0 then
    bn1 (X7_in p2 (0 : Int32) (2 : Int32)) fun (r11 : Int32) =>
    if r11 = 0 then
      X7_plane_J28 o_data p1 p2 (1 : Int32) o8
    else
      X7_plane_J28 o_data p1 p2 (0 : Int32) o8
  else
    X7_plane_J35 o_data p1 p2 o8
def X7_toldHole (o_data : Nat → Int32) (p1 : Int32) (p2 : Int32) : Option (Int32) :=
  if p2 = 0 then
    bn1 (X7_holeX o_data p1) fun (r13 : Int32) =>
    some r13
  else
    if p2 = (1 : Int32) then
      bn1 (X7_holeY o_data p1) fun (r11 : Int32) =>
      some r11
    else
      if p2 = (2 : Int32) then
        bn1 (X7_lookerAt o_data p1) fun (r9 : Int32) =>
        some r9
      else
        if p2 = (3 : Int32) then
          bn1 (X7_kindsOf o_data p1) fun (r7 : Int32) =>
          some r7
        else
          bn1 (X7_depthOf o_data p1) fun (r5 : Int32) =>
          some r5
def X7_hole_J35 (o_data : Nat → Int32) (p1 : Int32) (p2 : Int32)  (o_thrown : Int32) : Option (Int32 × Int32) :=
  some ((0 : Int32), o_thrown)
def X7_hole_J28 (o_data : Nat → Int32) (p1 : Int32) (p2 : Int32)  (k1 : Int32) (o_thrown : Int32) : Option (Int32 × Int32) :=
  bn2 (X7_fails o_thrown k1 (2 : Int32)) fun (r1 : Int32) (o2 : Int32) =>
  if r1 = 0 then
    bn1 (X7_toldHole o_data p1 p2) fun (r5 : Int32) =>
    some (r5, o2)
  else
    X7_hole_J35 o_data p1 p2 o2
def X7_hole (o_thrown : Int32) (o_data : Nat → Int32) (p1 : Int32) (p2 : Int32) : Option (Int32 × Int32) :=
  bn2 (X7_noHole (0 : Int32) o_data p1) fun (r7 : Int32) (o8 : Int32) =>
  if r7 = 0 then
    bn1 (X7_in p2 (0 : Int32) (4 : Int32)) fun (r11 : Int32) =>
    if r11 = 0 then
      X7_hole_J28 o_data p1 p2 (1 : Int32) o8
    else
      X7_hole_J28 o_data p1 p2 (0 : Int32) o8
  else
    X7_hole_J35 o_data p1 p2 o8
def X7_sees (o_thrown : Int32) (o_data : Nat → Int32) (p1 : Int32) (p2 : Int32) (p3 : Int32) : Option (Int32 × Int32) :=
  bn2 (X7_noHole (0 : Int32) o_data p1) fun (r1 : Int32) (o2 : Int32) =>
  if r1 = 0 then
    bn2 (X7_noCell o2 o_data p2 p3) fun (r5 : Int32) (o6 : Int32) =>
    if r5 = 0 then
      ld o_data 2243 (0 : Int32) fun (v10 : Int32) =>
      nm ((v10 * p3) + p2) fun (v11 : Int32) =>
      bn1 (X7_planeSeen o_data p1 v11) fun (r12 : Int32) =>
      bn1 (X7_kindSeen o_data p1 v11) fun (r14 : Int32) =>
      some ((((100 : Int32) * r12) + r14), o6)
    else
      some ((0 : Int32), o6)
  else
    some ((0 : Int32), o2)
def X7_shown_J36 (o_data : Nat → Int32) (p1 : Int32) (p2 : Int32)  (o_thrown : Int32) : Option (Int32 × Int32) :=
  some ((0 : Int32), o_thrown)
def X7_shown_J29 (o_data : Nat → Int32) (p1 : Int32) (p2 : Int32)  (k1 : Int32) (o_thrown : Int32) : Option (Int32 × Int32) :=
  bn2 (X7_fails o_thrown k1 (2 : Int32)) fun (r1 : Int32) (o2 : Int32) =>
  if r1 = 0 then
    bn1 (X7_showing o_data p1 p2) fun (r5 : Int32) =>
    some (r5, o2)
  else
    X7_shown_J36 o_data p1 p2 o2
def X7_shown (o_thrown : Int32) (o_data : Nat → Int32) (p1 : Int32) (p2 : Int32) : Option (Int32 × Int32) :=
  bn2 (X7_noHole (0 : Int32) o_data p1) fun (r7 : Int32) (o8 : Int32) =>
  if r7 = 0 then
    bn1 (X7_in p2 (0 : Int32) (25 : Int32)) fun (r11 : Int32) =>
    if r11 = 0 then
      X7_shown_J29 o_data p1 p2 (1 : Int32) o8
    else
      X7_shown_J29 o_data p1 p2 (0 : Int32) o8
  else
    X7_shown_J36 o_data p1 p2 o8
def X7_why_J106 (o_data : Nat → Int32) (p1 : Int32) (p2 : Int32) (p3 : Int32) (p4 : Int32) (kL53 : Int32 → Int32 → Int32 → Option (Int32 × Int32)) (l5 : Int32) (l6 : Int32) (o_thrown : Int32) : Option (Int32 × Int32) :=
  nm (l6 + (1 : Int32)) fun (v1 : Int32) =>
  kL53 l5 v1 o_thrown
def X7_why_L53 (o_data : Nat → Int32) (p1 : Int32) (p2 : Int32) (p3 : Int32) (p4 : Int32)  : Nat → Int32 → Int32 → Int32 → Option (Int32 × Int32)
  | 0, _, _, _ => none
  | n + 1, l5, l6, o_thrown =>
    bn1 (X7_cells o_data) fun (r2 : Int32) =>
    if r2 ≤ l6 then
      some (l5, o_thrown)
    else
      bn1 (X7_crossX o_data p1 l6 p2) fun (r5 : Int32) =>
      if r5 = p3 then
        bn1 (X7_crossY o_data p1 l6 p2) fun (r8 : Int32) =>
        if r8 = p4 then
          bn1 (X7_planeSeen o_data p1 l6) fun (r11 : Int32) =>
          if r11 = p2 then
            some ((0 : Int32), o_thrown)
          else
            X7_why_J106 o_data p1 p2 p3 p4 (fun z0 z1 z2 => X7_why_L53 o_data p1 p2 p3 p4 n z0 z1 z2) (3 : Int32) l6 o_thrown
        else
          X7_why_J106 o_data p1 p2 p3 p4 (fun z0 z1 z2 => X7_why_L53 o_data p1 p2 p3 p4 n z0 z1 z2) l5 l6 o_thrown
      else
        X7_why_J106 o_data p1 p2 p3 p4 (fun z0 z1 z2 => X7_why_L53 o_data p1 p2 p3 p4 n z0 z1 z2) l5 l6 o_thrown
def X7_why (o_thrown : Int32) (o_data : Nat → Int32) (p1 : Int32) (p2 : Int32) (p3 : Int32) (p4 : Int32) : Option (Int32 × Int32) :=
  bn2 (X7_noHole (0 : Int32) o_data p1) fun (r14 : Int32) (o15 : Int32) =>
  if r14 = 0 then
    bn2 (X7_noPlane o15 o_data p2) fun (r18 : Int32) (o19 : Int32) =>
    if r18 = 0 then
      bn2 (X7_noCell o19 o_data p3 p4) fun (r22 : Int32) (o23 : Int32) =>
      if r22 = 0 then
        bn1 (X7_kindAt o_data p2 p3 p4) fun (r26 : Int32) =>
        if r26 = (-1 : Int32) then
          some ((1 : Int32), o23)
        else
          X7_why_L53 o_data p1 p2 p3 p4 FU (2 : Int32) (0 : Int32) o23
      else
        some ((0 : Int32), o23)
    else
      some ((0 : Int32), o19)
  else
    some ((0 : Int32), o15)
def X7_toldViewer (o_data : Nat → Int32) (p1 : Int32) (p2 : Int32) : Option (Int32) :=
  bn1 (X7_of o_data p1 p2) fun (r1 : Int32) =>
  some r1
def X7_viewer_J36 (o_data : Nat → Int32) (p1 : Int32) (p2 : Int32)  (o_thrown : Int32) : Option (Int32 × Int32) :=
  some ((0 : Int32), o_thrown)
def X7_viewer_J29 (o_data : Nat → Int32) (p1 : Int32) (p2 : Int32)  (k1 : Int32) (o_thrown : Int32) : Option (Int32 × Int32) :=
  bn2 (X7_fails o_thrown k1 (2 : Int32)) fun (r1 : Int32) (o2 : Int32) =>
  if r1 = 0 then
    bn1 (X7_toldViewer o_data p1 p2) fun (r5 : Int32) =>
    some (r5, o2)
  else
    X7_viewer_J36 o_data p1 p2 o2
def X7_viewer (o_thrown : Int32) (o_data : Nat → Int32) (p1 : Int32) (p2 : Int32) : Option (Int32 × Int32) :=
  bn2 (X7_noViewer (0 : Int32) o_data p1) fun (r7 : Int32) (o8 : Int32) =>
  if r7 = 0 then
    bn1 (X7_in p2 (0 : Int32) (6 : Int32)) fun (r11 : Int32) =>
    if r11 = 0 then
      X7_viewer_J29 o_data p1 p2 (1 : Int32) o8
    else
      X7_viewer_J29 o_data p1 p2 (0 : Int32) o8
  else
    X7_viewer_J36 o_data p1 p2 o8
def X7_price (o_thrown : Int32) (o_data : Nat → Int32) (o_stack : Nat → Int64) (o_facts : Nat → Int32) (p1 : Int32) (p2 : Int32) : Option (Int32 × Int32 × (Nat → Int64) × (Nat → Int32)) :=
  bn2 (X7_noViewer (0 : Int32) o_data p1) fun (r1 : Int32) (o2 : Int32) =>
  if r1 = 0 then
    bn2 (X7_noHole o2 o_data p2) fun (r5 : Int32) (o6 : Int32) =>
    if r5 = 0 then
      bn1 (X7_canUse o_data p1 p2) fun (r9 : Int32) =>
      if r9 = 0 then
        some ((-1 : Int32), o6, o_stack, o_facts)
      else
        bn1 (X7_of o_data p1 (1 : Int32)) fun (r12 : Int32) =>
        bn3 (X7_priceOf o_data o_stack o_facts r12 p2) fun (r14 : Int32) (o15 : Nat → Int64) (o16 : Nat → Int32) =>
        some (r14, o6, o15, o16)
    else
      some ((0 : Int32), o6, o_stack, o_facts)
  else
    some ((0 : Int32), o2, o_stack, o_facts)
def X7_bestPull_J144 (p1 : Int32) (p2 : Int32) (kL69 : Int32 → Int32 → Int32 → Int32 → Int32 → (Nat → Int32) → Option (Int32 × Int32 × (Nat → Int32))) (l3 : Int32) (l4 : Int32) (l5 : Int32) (l6 : Int32) (o_thrown : Int32) (o_data : Nat → Int32) : Option (Int32 × Int32 × (Nat → Int32)) :=
  nm (l6 + (1 : Int32)) fun (v1 : Int32) =>
  kL69 l3 l4 l5 v1 o_thrown o_data
def X7_bestPull_L97 (p1 : Int32) (p2 : Int32) (kL69 : Int32 → Int32 → Int32 → Int32 → Int32 → (Nat → Int32) → Option (Int32 × Int32 × (Nat → Int32))) : Nat → Int32 → Int32 → Int32 → Int32 → Int32 → Int32 → Int32 → (Nat → Int32) → Option (Int32 × Int32 × (Nat → Int32))
  | 0, _, _, _, _, _, _, _, _ => none
  | n + 1, l3, l4, l5, l6, l7, l8, o_thrown, o_data =>
    ld o_data 2243 (3 : Int32) fun (v3 : Int32) =>
    if v3 ≤ l8 then
      if l5 < l7 then
        X7_bestPull_J144 p1 p2 kL69 l3 l6 l7 l6 o_thrown o_data
      else
        X7_bestPull_J144 p1 p2 kL69 l3 l4 l5 l6 o_thrown o_data
    else
      bn1 (X7_showing o_data l8 p2) fun (r6 : Int32) =>
      nm (l7 + r6) fun (v8 : Int32) =>
      nm (l8 + (1 : Int32)) fun (v9 : Int32) =>
      X7_bestPull_L97 p1 p2 kL69 n l3 l4 l5 l6 v8 v9 o_thrown o_data
def X7_bestPull_L69 (p1 : Int32) (p2 : Int32)  : Nat → Int32 → Int32 → Int32 → Int32 → Int32 → (Nat → Int32) → Option (Int32 × Int32 × (Nat → Int32))
  | 0, _, _, _, _, _, _ => none
  | n + 1, l3, l4, l5, l6, o_thrown, o_data =>
    ld o_data 2243 (1 : Int32) fun (v11 : Int32) =>
    if v11 < l6 then
      st 2243 ((10 : Int32) + p1) (upd o_data ((10 : Int32) + p1).toNatClampNeg l3) fun (b14 : Nat → Int32) =>
      some (l4, o_thrown, b14)
    else
      st 2243 ((10 : Int32) + p1) (upd o_data ((10 : Int32) + p1).toNatClampNeg l6) fun (b16 : Nat → Int32) =>
      X7_bestPull_L97 p1 p2 (fun z0 z1 z2 z3 z4 z5 => X7_bestPull_L69 p1 p2 n z0 z1 z2 z3 z4 z5) FU l3 l4 l5 l6 (0 : Int32) (0 : Int32) o_thrown b16
def X7_bestPull_J29 (o_data : Nat → Int32) (p1 : Int32) (p2 : Int32)  (k1 : Int32) (o_thrown : Int32) : Option (Int32 × Int32 × (Nat → Int32)) :=
  bn2 (X7_fails o_thrown k1 (2 : Int32)) fun (r17 : Int32) (o18 : Int32) =>
  if r17 = 0 then
    ld o_data 2243 (2 : Int32) fun (v22 : Int32) =>
    if p1 = (v22 - (1 : Int32)) then
      some ((0 : Int32), o18, o_data)
    else
      ld o_data 2243 ((10 : Int32) + p1) fun (v25 : Int32) =>
      X7_bestPull_L69 p1 p2 FU v25 (0 : Int32) (-1 : Int32) (0 : Int32) o18 o_data
  else
    some ((0 : Int32), o18, o_data)
def X7_bestPull (o_thrown : Int32) (o_data : Nat → Int32) (p1 : Int32) (p2 : Int32) : Option (Int32 × Int32 × (Nat → Int32)) :=
  bn2 (X7_noPlane (0 : Int32) o_data p1) fun (r26 : Int32) (o27 : Int32) =>
  if r26 = 0 then
    bn1 (X7_in p2 (0 : Int32) (25 : Int32)) fun (r30 : Int32) =>
    if r30 = 0 then
      X7_bestPull_J29 o_data p1 p2 (1 : Int32) o27
    else
      X7_bestPull_J29 o_data p1 p2 (0 : Int32) o27
  else
    some ((0 : Int32), o27, o_data)
def X7_foretold_J104 (p1 : Int32) (p2 : Int32)  (k0 : Int32) (o_thrown : Int32) (o_data : Nat → Int32) (o_aside : Nat → Int32) (o_stack : Nat → Int64) (o_facts : Nat → Int32) : Option (Int32 × Int32 × (Nat → Int32) × (Nat → Int32) × (Nat → Int64) × (Nat → Int32)) :=
  bn1 (X7_copy 643 2243 o_aside o_data (643 : Int32)) fun (o1 : Nat → Int32) =>
  some (k0, o_thrown, o1, o_aside, o_stack, o_facts)
def X7_foretold_J101 (p1 : Int32) (p2 : Int32)  (k1 : Int32) (o_thrown : Int32) (o_data : Nat → Int32) (o_aside : Nat → Int32) (o_stack : Nat → Int64) (o_facts : Nat → Int32) : Option (Int32 × Int32 × (Nat → Int32) × (Nat → Int32) × (Nat → Int64) × (Nat → Int32)) :=
  bn1 (X7_inState o_data k1) fun (r3 : Int32) =>
  X7_foretold_J104 p1 p2 r3 o_thrown o_data o_aside o_stack o_facts
def X7_foretold_L55 (p1 : Int32) (p2 : Int32)  : Nat → Int32 → Int32 → (Nat → Int32) → (Nat → Int32) → (Nat → Int64) → (Nat → Int32) → Option (Int32 × Int32 × (Nat → Int32) × (Nat → Int32) × (Nat → Int64) × (Nat → Int32))
  | 0, _, _, _, _, _, _ => none
  | n + 1, l3, o_thrown, o_data, o_aside, o_stack, o_facts =>
    if p1 ≤ l3 then
      if p2 = 0 then
        bn1 (X7_paidInAll o_data) fun (r9 : Int32) =>
        X7_foretold_J104 p1 p2 r9 o_thrown o_data o_aside o_stack o_facts
      else
        if p2 = (1 : Int32) then
          X7_foretold_J101 p1 p2 (0 : Int32) o_thrown o_data o_aside o_stack o_facts
        else
          if p2 = (2 : Int32) then
            X7_foretold_J101 p1 p2 (1 : Int32) o_thrown o_data o_aside o_stack o_facts
          else
            X7_foretold_J101 p1 p2 (3 : Int32) o_thrown o_data o_aside o_stack o_facts
    else
      bn3 (X7_tick o_data o_stack o_facts) fun (o11 : Nat → Int32) (o12 : Nat → Int64) (o13 : Nat → Int32) =>
      nm (l3 + (1 : Int32)) fun (v15 : Int32) =>
      X7_foretold_L55 p1 p2 n v15 o_thrown o11 o_aside o12 o13
def X7_foretold_J30 (o_data : Nat → Int32) (o_aside : Nat → Int32) (o_stack : Nat → Int64) (o_facts : Nat → Int32) (p1 : Int32) (p2 : Int32)  (k1 : Int32) (o_thrown : Int32) : Option (Int32 × Int32 × (Nat → Int32) × (Nat → Int32) × (Nat → Int64) × (Nat → Int32)) :=
  bn2 (X7_fails o_thrown k1 (1 : Int32)) fun (r16 : Int32) (o17 : Int32) =>
  if r16 = 0 then
    bn1 (X7_copy 2243 643 o_data o_aside (643 : Int32)) fun (o20 : Nat → Int32) =>
    X7_foretold_L55 p1 p2 FU (0 : Int32) o17 o_data o20 o_stack o_facts
  else
    some ((0 : Int32), o17, o_data, o_aside, o_stack, o_facts)
def X7_foretold_J25 (o_data : Nat → Int32) (o_aside : Nat → Int32) (o_stack : Nat → Int64) (o_facts : Nat → Int32) (p1 : Int32) (p2 : Int32)  (o_thrown : Int32) : Option (Int32 × Int32 × (Nat → Int32) × (Nat → Int32) × (Nat → Int64) × (Nat → Int32)) :=
  X7_foretold_J30 o_data o_aside o_stack o_facts p1 p2 (1 : Int32) o_thrown
def X7_foretold (o_thrown : Int32) (o_data : Nat → Int32) (o_aside : Nat → Int32) (o_stack : Nat → Int64) (o_facts : Nat → Int32) (p1 : Int32) (p2 : Int32) : Option (Int32 × Int32 × (Nat → Int32) × (Nat → Int32) × (Nat → Int64) × (Nat → Int32)) :=
  bn1 (X7_in p1 (1 : Int32) (100 : Int32)) fun (r22 : Int32) =>
  if r22 = 0 then
    X7_foretold_J25 o_data o_aside o_stack o_facts p1 p2 (0 : Int32)
  else
    bn1 (X7_in p2 (0 : Int32) (3 : Int32)) fun (r25 : Int32) =>
    if r25 = 0 then
      X7_foretold_J25 o_data o_aside o_stack o_facts p1 p2 (0 : Int32)
    else
      X7_foretold_J30 o_data o_aside o_stack o_facts p1 p2 (0 : Int32) (0 : Int32)
def X7_emptyIn_L21   : Nat → Int32 → Int32 → (Nat → Int32) → (Nat → Int32) → (Nat → Int64) → (Nat → Int32) → Option (Int32 × Int32 × (Nat → Int32) × (Nat → Int32) × (Nat → Int64) × (Nat → Int32))
  | 0, _, _, _, _, _, _ => none
  | n + 1, l1, o_thrown, o_data, o_aside, o_stack, o_facts =>
    bn1 (X7_inState o_data (0 : Int32)) fun (r1 : Int32) =>
    bn1 (X7_inState o_data (1 : Int32)) fun (r3 : Int32) =>
    if (r1 + r3) ≤ 0 then
      bn1 (X7_copy 643 2243 o_aside o_data (643 : Int32)) fun (o6 : Nat → Int32) =>
      some (l1, o_thrown, o6, o_aside, o_stack, o_facts)
    else
      bn3 (X7_tick o_data o_stack o_facts) fun (o8 : Nat → Int32) (o9 : Nat → Int64) (o10 : Nat → Int32) =>
      nm (l1 + (1 : Int32)) fun (v12 : Int32) =>
      X7_emptyIn_L21  n v12 o_thrown o8 o_aside o9 o10
def X7_emptyIn (o_thrown : Int32) (o_data : Nat → Int32) (o_aside : Nat → Int32) (o_stack : Nat → Int64) (o_facts : Nat → Int32) : Option (Int32 × Int32 × (Nat → Int32) × (Nat → Int32) × (Nat → Int64) × (Nat → Int32)) :=
  bn1 (X7_copy 2243 643 o_data o_aside (643 : Int32)) fun (o13 : Nat → Int32) =>
  X7_emptyIn_L21  FU (0 : Int32) (0 : Int32) o_data o13 o_stack o_facts
def X7_meanPaid (o_thrown : Int32) (o_data : Nat → Int32) : Option (UInt32 × Int32) :=
  bn1 (X7_inState o_data (2 : Int32)) fun (r1 : Int32) =>
  if r1 = 0 then
    some (FP.fconst0, (0 : Int32))
  else
    bn1 (X7_paidInAll o_data) fun (r4 : Int32) =>
    bn1 (X7_inState o_data (2 : Int32)) fun (r6 : Int32) =>
    ck ((FP.fdiv (FP.i2f r4) (FP.i2f r6)) &&& 0x7fffffff ≤ 0x7f800000) <|
    some ((FP.fdiv (FP.i2f r4) (FP.i2f r6)), (0 : Int32))
def X7_pass_L41 (p1 : Int32)  : Nat → Int32 → Int32 → Int32 → Int32 → (Nat → Int32) → (Nat → Int32) → (Nat → Int32) → (Nat → Int32) → (Nat → Int32) → (Nat → Int32) → (Nat → Int32) → (Nat → Int32) → (Nat → Int32) → (Nat → Int64) → (Nat → Int32) → Option (Int32 × Int32 × Int32 × (Nat → Int32) × (Nat → Int32) × (Nat → Int32) × (Nat → Int32) × (Nat → Int32) × (Nat → Int32) × (Nat → Int32) × (Nat → Int32) × (Nat → Int32) × (Nat → Int64) × (Nat → Int32))
  | 0, _, _, _, _, _, _, _, _, _, _, _, _, _, _, _ => none
  | n + 1, l2, l3, o_thrown, o_undoDepth, o_data, o_history_r0, o_history_r1, o_history_r2, o_history_r3, o_history_r4, o_history_r5, o_history_r6, o_history_r7, o_stack, o_facts =>
    if p1 ≤ l3 then
      bn1 (X7_paidInAll o_data) fun (r2 : Int32) =>
      some ((r2 - l2), o_thrown, o_undoDepth, o_data, o_history_r0, o_history_r1, o_history_r2, o_history_r3, o_history_r4, o_history_r5, o_history_r6, o_history_r7, o_stack, o_facts)
    else
      bn3 (X7_tick o_data o_stack o_facts) fun (o4 : Nat → Int32) (o5 : Nat → Int64) (o6 : Nat → Int32) =>
      nm (l3 + (1 : Int32)) fun (v8 : Int32) =>
      X7_pass_L41 p1 n l2 v8 o_thrown o_undoDepth o4 o_history_r0 o_history_r1 o_history_r2 o_history_r3 o_history_r4 o_history_r5 o_history_r6 o_history_r7 o5 o6
def X7_pass_J21 (o_undoDepth : Int32) (o_data : Nat → Int32) (o_history_r0 : Nat → Int32) (o_history_r1 : Nat → Int32) (o_history_r2 : Nat → Int32) (o_history_r3 : Nat → Int32) (o_history_r4 : Nat → Int32) (o_history_r5 : Nat → Int32) (o_history_r6 : Nat → Int32) (o_history_r7 : Nat → Int32) (o_stack : Nat → Int64) (o_facts : Nat → Int32) (p1 : Int32)  (k1 : Int32) (o_thrown : Int32) : Option (Int32 × Int32 × Int32 × (Nat → Int32) × (Nat → Int32) × (Nat → Int32) × (Nat → Int32) × (Nat → Int32) × (Nat → Int32) × (Nat → Int32) × (Nat → Int32) × (Nat → Int32) × (Nat → Int64) × (Nat → Int32)) :=
  bn2 (X7_fails o_thrown k1 (1 : Int32)) fun (r9 : Int32) (o10 : Int32) =>
  if r9 = 0 then
    bn9 (X7_remember o_undoDepth o_data o_history_r0 o_history_r1 o_history_r2 o_history_r3 o_history_r4 o_history_r5 o_history_r6 o_history_r7) fun (o13 : Int32) (o14 : Nat → Int32) (o15 : Nat → Int32) (o16 : Nat → Int32) (o17 : Nat → Int32) (o18 : Nat → Int32) (o19 : Nat → Int32) (o20 : Nat → Int32) (o21 : Nat → Int32) =>
    bn1 (X7_paidInAll o_data) fun (r23 : Int32) =>
    X7_pass_L41 p1 FU r23 (0 : Int32) o10 o13 o_data o14 o15 o16 o17 o18 o19 o20 o21 o_stack o_facts
  else
    some ((0 : Int32), o10, o_undoDepth, o_data, o_history_r0, o_history_r1, o_history_r2, o_history_r3, o_history_r4, o_history_r5, o_history_r6, o_history_r7, o_stack, o_facts)
def X7_pass (o_thrown : Int32) (o_undoDepth : Int32) (o_data : Nat → Int32) (o_history_r0 : Nat → Int32) (o_history_r1 : Nat → Int32) (o_history_r2 : Nat → Int32) (o_history_r3 : Nat → Int32) (o_history_r4 : Nat → Int32) (o_history_r5 : Nat → Int32) (o_history_r6 : Nat → Int32) (o_history_r7 : Nat → Int32) (o_stack : Nat → Int64) (o_facts : Nat → Int32) (p1 : Int32) : Option (Int32 × Int32 × Int32 × (Nat → Int32) × (Nat → Int32) × (Nat → Int32) × (Nat → Int32) × (Nat → Int32) × (Nat → Int32) × (Nat → Int32) × (Nat → Int32) × (Nat → Int32) × (Nat → Int64) × (Nat → Int32)) :=
  bn1 (X7_in p1 (1 : Int32) (50 : Int32)) fun (r25 : Int32) =>
  if r25 = 0 then
    X7_pass_J21 o_undoDepth o_data o_history_r0 o_history_r1 o_history_r2 o_history_r3 o_history_r4 o_history_r5 o_history_r6 o_history_r7 o_stack o_facts p1 (1 : Int32) (0 : Int32)
  else
    X7_pass_J21 o_undoDepth o_data o_history_r0 o_history_r1 o_history_r2 o_history_r3 o_history_r4 o_history_r5 o_history_r6 o_history_r7 o_stack o_facts p1 (0 : Int32) (0 : Int32)
def X7_pull_J58 (o_undoDepth : Int32) (o_data : Nat → Int32) (o_history_r0 : Nat → Int32) (o_history_r1 : Nat → Int32) (o_history_r2 : Nat → Int32) (o_history_r3 : Nat → Int32) (o_history_r4 : Nat → Int32) (o_history_r5 : Nat → Int32) (o_history_r6 : Nat → Int32) (o_history_r7 : Nat → Int32) (p1 : Int32) (p2 : Int32)  (k1 : Int32) (o_thrown : Int32) : Option (Int32 × Int32 × Int32 × (Nat → Int32) × (Nat → Int32) × (Nat → Int32) × (Nat → Int32) × (Nat → Int32) × (Nat → Int32) × (Nat → Int32) × (Nat → Int32) × (Nat → Int32)) :=
  bn2 (X7_fails o_thrown k1 (3 : Int32)) fun (r1 : Int32) (o2 : Int32) =>
  if r1 = 0 then
    bn9 (X7_remember o_undoDepth o_data o_history_r0 o_history_r1 o_history_r2 o_history_r3 o_history_r4 o_history_r5 o_history_r6 o_history_r7) fun (o5 : Int32) (o6 : Nat → Int32) (o7 : Nat → Int32) (o8 : Nat → Int32) (o9 : Nat → Int32) (o10 : Nat → Int32) (o11 : Nat → Int32) (o12 : Nat → Int32) (o13 : Nat → Int32) =>
    ld o_data 2243 ((10 : Int32) + p1) fun (v16 : Int32) =>
    st 2243 ((10 : Int32) + p1) (upd o_data ((10 : Int32) + p1).toNatClampNeg p2) fun (b18 : Nat → Int32) =>
    some (v16, o2, o5, b18, o6, o7, o8, o9, o10, o11, o12, o13)
  else
    some ((0 : Int32), o2, o_undoDepth, o_data, o_history_r0, o_history_r1, o_history_r2, o_history_r3, o_history_r4, o_history_r5, o_history_r6, o_history_r7)
def X7_pull_J33 (o_undoDepth : Int32) (o_data : Nat → Int32) (o_history_r0 : Nat → Int32) (o_history_r1 : Nat → Int32) (o_history_r2 : Nat → Int32) (o_history_r3 : Nat → Int32) (o_history_r4 : Nat → Int32) (o_history_r5 : Nat → Int32) (o_history_r6 : Nat → Int32) (o_history_r7 : Nat → Int32) (p1 : Int32) (p2 : Int32)  (k1 : Int32) (o_thrown : Int32) : Option (Int32 × Int32 × Int32 × (Nat → Int32) × (Nat → Int32) × (Nat → Int32) × (Nat → Int32) × (Nat → Int32) × (Nat → Int32) × (Nat → Int32) × (Nat → Int32) × (Nat → Int32)) :=
  bn2 (X7_fails o_thrown k1 (2 : Int32)) fun (r19 : Int32) (o20 : Int32) =>
  if r19 = 0 then
    ld o_data 2243 (2 : Int32) fun (v24 : Int32) =>
    if p1 = (v24 - (1 : Int32)) then
      X7_pull_J58 o_undoDepth o_data o_history_r0 o_history_r1 o_history_r2 o_history_r3 o_history_r4 o_history_r5 o_history_r6 o_history_r7 p1 p2 (1 : Int32) o20
    else
      X7_pull_J58 o_undoDepth o_data o_history_r0 o_history_r1 o_history_r2 o_history_r3 o_history_r4 o_history_r5 o_history_r6 o_history_r7 p1 p2 (0 : Int32) o20
  else
    some ((0 : Int32), o20, o_undoDepth, o_data, o_history_r0, o_history_r1, o_history_r2, o_history_r3, o_history_r4, o_history_r5, o_history_r6, o_history_r7)
def X7_pull (o_thrown : Int32) (o_undoDepth : Int32) (o_data : Nat → Int32) (o_history_r0 : Nat → Int32) (o_history_r1 : Nat → Int32) (o_history_r2 : Nat → Int32) (o_history_r3 : Nat → Int32) (o_history_r4 : Nat → Int32) (o_history_r5 : Nat → Int32) (o_history_r6 : Nat → Int32) (o_history_r7 : Nat → Int32) (p1 : Int32) (p2 : Int32) : Option (Int32 × Int32 × Int32 × (Nat → Int32) × (Nat → Int32) × (Nat → Int32) × (Nat → Int32) × (Nat → Int32) × (Nat → Int32) × (Nat → Int32) × (Nat → Int32) × (Nat → Int32)) :=
  bn2 (X7_noPlane (0 : Int32) o_data p1) fun (r26 : Int32) (o27 : Int32) =>
  if r26 = 0 then
    ld o_data 2243 (1 : Int32) fun (v31 : Int32) =>
    bn1 (X7_in p2 (0 : Int32) v31) fun (r32 : Int32) =>
    if r32 = 0 then
      X7_pull_J33 o_undoDepth o_data o_history_r0 o_history_r1 o_history_r2 o_history_r3 o_history_r4 o_history_r5 o_history_r6 o_history_r7 p1 p2 (1 : Int32) o27
    else
      X7_pull_J33 o_undoDepth o_data o_history_r0 o_history_r1 o_history_r2 o_history_r3 o_history_r4 o_history_r5 o_history_r6 o_history_r7 p1 p2 (0 : Int32) o27
  else
    some ((0 : Int32), o27, o_undoDepth, o_data, o_history_r0, o_history_r1, o_history_r2, o_history_r3, o_history_r4, o_history_r5, o_history_r6, o_history_r7)
