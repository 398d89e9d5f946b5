/-! pure programs: what the bytecode computes, written by program (gen.py) -/
def X7_remember_J53 (o_data : Nat → Int32)  (o_undoDepth : Int32) (o_history_r0 : Nat → Int32) (o_history_r1 : Nat → Int32) (o_history_r2 : Nat → Int32) (o_history_r3 : Nat → Int32) (o_history_r4 : Nat → Int32) (o_history_r5 : Nat → Int32) (o_history_r6 : Nat → Int32) (o_history_r7 : Nat → Int32) : Option (Int32 × (Nat → Int32) × (Nat → Int32) × (Nat → Int32) × (Nat → Int32) × (Nat → Int32) × (Nat → Int32) × (Nat → Int32) × (Nat → Int32)) :=
  ck (¬ (o_undoDepth < 0 ∨ 8 ≤ o_undoDepth.toNatClampNeg)) <|
  rw8 o_undoDepth.toNatClampNeg
    (bn1 (X7_copy 2243 2243 o_data o_history_r0 (2243 : Int32)) fun (o3 : Nat → Int32) =>
    nm (o_undoDepth + (1 : Int32)) fun (v5 : Int32) =>
    some (v5, o3, o_history_r1, o_history_r2, o_history_r3, o_history_r4, o_history_r5, o_history_r6, o_history_r7))
    (bn1 (X7_copy 2243 2243 o_data o_history_r1 (2243 : Int32)) fun (o6 : Nat → Int32) =>
    nm (o_undoDepth + (1 : Int32)) fun (v8 : Int32) =>
    some (v8, o_history_r0, o6, o_history_r2, o_history_r3, o_history_r4, o_history_r5, o_history_r6, o_history_r7))
    (bn1 (X7_copy 2243 2243 o_data o_history_r2 (2243 : Int32)) fun (o9 : Nat → Int32) =>
    nm (o_undoDepth + (1 : Int32)) fun (v11 : Int32) =>
    some (v11, o_history_r0, o_history_r1, o9, o_history_r3, o_history_r4, o_history_r5, o_history_r6, o_history_r7))
    (bn1 (X7_copy 2243 2243 o_data o_history_r3 (2243 : Int32)) fun (o12 : Nat → Int32) =>
    nm (o_undoDepth + (1 : Int32)) fun (v14 : Int32) =>
    some (v14, o_history_r0, o_history_r1, o_history_r2, o12, o_history_r4, o_history_r5, o_history_r6, o_history_r7))
    (bn1 (X7_copy 2243 2243 o_data o_history_r4 (2243 : Int32)) fun (o15 : Nat → Int32) =>
    nm (o_undoDepth + (1 : Int32)) fun (v17 : Int32) =>
    some (v17, o_history_r0, o_history_r1, o_history_r2, o_history_r3, o15, o_history_r5, o_history_r6, o_history_r7))
    (bn1 (X7_copy 2243 2243 o_data o_history_r5 (2243 : Int32)) fun (o18 : Nat → Int32) =>
    nm (o_undoDepth + (1 : Int32)) fun (v20 : Int32) =>
    some (v20, o_history_r0, o_history_r1, o_history_r2, o_history_r3, o_history_r4, o18, o_history_r6, o_history_r7))
    (bn1 (X7_copy 2243 2243 o_data o_history_r6 (2243 : Int32)) fun (o21 : Nat → Int32) =>
    nm (o_undoDepth + (1 : Int32)) fun (v23 : Int32) =>
    some (v23, o_history_r0, o_history_r1, o_history_r2, o_history_r3, o_history_r4, o_history_r5, o21, o_history_r7))
    (bn1 (X7_copy 2243 2243 o_data o_history_r7 (2243 : Int32)) fun (o24 : Nat → Int32) =>
    nm (o_undoDepth + (1 : Int32)) fun (v26 : Int32) =>
    some (v26, o_history_r0, o_history_r1, o_history_r2, o_history_r3, o_history_r4, o_history_r5, o_history_r6, o24))
def X7_remember_L11 (o_undoDepth : Int32) (o_data : Nat → Int32)  : Nat → Int32 → (Nat → Int32) → (Nat → Int32) → (Nat → Int32) → (Nat → Int32) → (Nat → Int32) → (Nat → Int32) → (Nat → Int32) → (Nat → Int32) → Option (Int32 × (Nat → Int32) × (Nat → Int32) × (Nat → Int32) × (Nat → Int32) × (Nat → Int32) × (Nat → Int32) × (Nat → Int32) × (Nat → Int32))
  | 0, _, _, _, _, _, _, _, _, _ => none
  | n + 1, l1, o_history_r0, o_history_r1, o_history_r2, o_history_r3, o_history_r4, o_history_r5, o_history_r6, o_history_r7 =>
    if (8 : Int32) ≤ l1 then
      nm (o_undoDepth - (1 : Int32)) fun (v28 : Int32) =>
      X7_remember_J53 o_data v28 o_history_r0 o_history_r1 o_history_r2 o_history_r3 o_history_r4 o_history_r5 o_history_r6 o_history_r7
    else
      ck (¬ (l1 < 0 ∨ 8 ≤ l1.toNatClampNeg)) <|
      rw8 l1.toNatClampNeg
        (ck (¬ ((l1 - (1 : Int32)) < 0 ∨ 8 ≤ (l1 - (1 : Int32)).toNatClampNeg)) <|
        rw8 (l1 - (1 : Int32)).toNatClampNeg
          (bn1 (X7_copy 2243 2243 o_history_r0 o_history_r0 (2243 : Int32)) fun (o33 : Nat → Int32) =>
          nm (l1 + (1 : Int32)) fun (v35 : Int32) =>
          X7_remember_L11 o_undoDepth o_data n v35 o33 o_history_r1 o_history_r2 o_history_r3 o_history_r4 o_history_r5 o_history_r6 o_history_r7)
          (bn1 (X7_copy 2243 2243 o_history_r0 o_history_r1 (2243 : Int32)) fun (o36 : Nat → Int32) =>
          nm (l1 + (1 : Int32)) fun (v38 : Int32) =>
          X7_remember_L11 o_undoDepth o_data n v38 o_history_r0 o36 o_history_r2 o_history_r3 o_history_r4 o_history_r5 o_history_r6 o_history_r7)
          (bn1 (X7_copy 2243 2243 o_history_r0 o_history_r2 (2243 : Int32)) fun (o39 : Nat → Int32) =>
          nm (l1 + (1 : Int32)) fun (v41 : Int32) =>
          X7_remember_L11 o_undoDepth o_data n v41 o_history_r0 o_history_r1 o39 o_history_r3 o_history_r4 o_history_r5 o_history_r6 o_history_r7)
          (bn1 (X7_copy 2243 2243 o_history_r0 o_history_r3 (2243 : Int32)) fun (o42 : Nat → Int32) =>
          nm (l1 + (1 : Int32)) fun (v44 : Int32) =>
          X7_remember_L11 o_undoDepth o_data n v44 o_history_r0 o_history_r1 o_history_r2 o42 o_history_r4 o_history_r5 o_history_r6 o_history_r7)
          (bn1 (X7_copy 2243 2243 o_history_r0 o_history_r4 (2243 : Int32)) fun (o45 : Nat → Int32) =>
          nm (l1 + (1 : Int32)) fun (v47 : Int32) =>
          X7_remember_L11 o_undoDepth o_data n v47 o_history_r0 o_history_r1 o_history_r2 o_history_r3 o45 o_history_r5 o_history_r6 o_history_r7)
          (bn1 (X7_copy 2243 2243 o_history_r0 o_history_r5 (2243 : Int32)) fun (o48 : Nat → Int32) =>
          nm (l1 + (1 : Int32)) fun (v50 : Int32) =>
          X7_remember_L11 o_undoDepth o_data n v50 o_history_r0 o_history_r1 o_history_r2 o_history_r3 o_history_r4 o48 o_history_r6 o_history_r7)
          (bn1 (X7_copy 2243 2243 o_history_r0 o_history_r6 (2243 : Int32)) fun (o51 : Nat → Int32) =>
          nm (l1 + (1 : Int32)) fun (v53 : Int32) =>
          X7_remember_L11 o_undoDepth o_data n v53 o_history_r0 o_history_r1 o_history_r2 o_history_r3 o_history_r4 o_history_r5 o51 o_history_r7)
          (bn1 (X7_copy 2243 2243 o_history_r0 o_history_r7 (2243 : Int32)) fun (o54 : Nat → Int32) =>
          nm (l1 + (1 : Int32)) fun (v56 : Int32) =>
          X7_remember_L11 o_undoDepth o_data n v56 o_history_r0 o_history_r1 o_history_r2 o_history_r3 o_history_r4 o_history_r5 o_history_r6 o54))
        (ck (¬ ((l1 - (1 : Int32)) < 0 ∨ 8 ≤ (l1 - (1 : Int32)).toNatClampNeg)) <|
        rw8 (l1 - (1 : Int32)).toNatClampNeg
          (bn1 (X7_copy 2243 2243 o_history_r1 o_history_r0 (2243 : Int32)) fun (o59 : Nat → Int32) =>
          nm (l1 + (1 : Int32)) fun (v61 : Int32) =>
          X7_remember_L11 o_undoDepth o_data n v61 o59 o_history_r1 o_history_r2 o_history_r3 o_history_r4 o_history_r5 o_history_r6 o_history_r7)
          (bn1 (X7_copy 2243 2243 o_history_r1 o_history_r1 (2243 : Int32)) fun (o62 : Nat → Int32) =>
          nm (l1 + (1 : Int32)) fun (v64 : Int32) =>
          X7_remember_L11 o_undoDepth o_data n v64 o_history_r0 o62 o_history_r2 o_history_r3 o_history_r4 o_history_r5 o_history_r6 o_history_r7)
          (bn1 (X7_copy 2243 2243 o_history_r1 o_history_r2 (2243 : Int32)) fun (o65 : Nat → Int32) =>
          nm (l1 + (1 : Int32)) fun (v67 : Int32) =>
          X7_remember_L11 o_undoDepth o_data n v67 o_history_r0 o_history_r1 o65 o_history_r3 o_history_r4 o_history_r5 o_history_r6 o_history_r7)
          (bn1 (X7_copy 2243 2243 o_history_r1 o_history_r3 (2243 : Int32)) fun (o68 : Nat → Int32) =>
          nm (l1 + (1 : Int32)) fun (v70 : Int32) =>
          X7_remember_L11 o_undoDepth o_data n v70 o_history_r0 o_history_r1 o_history_r2 o68 o_history_r4 o_history_r5 o_history_r6 o_history_r7)
          (bn1 (X7_copy 2243 2243 o_history_r1 o_history_r4 (2243 : Int32)) fun (o71 : Nat → Int32) =>
          nm (l1 + (1 : Int32)) fun (v73 : Int32) =>
          X7_remember_L11 o_undoDepth o_data n v73 o_history_r0 o_history_r1 o_history_r2 o_history_r3 o71 o_history_r5 o_history_r6 o_history_r7)
          (bn1 (X7_copy 2243 2243 o_history_r1 o_history_r5 (2243 : Int32)) fun (o74 : Nat → Int32) =>
          nm (l1 + (1 : Int32)) fun (v76 : Int32) =>
          X7_remember_L11 o_undoDepth o_data n v76 o_history_r0 o_history_r1 o_history_r2 o_history_r3 o_history_r4 o74 o_history_r6 o_history_r7)
          (bn1 (X7_copy 2243 2243 o_history_r1 o_history_r6 (2243 : Int32)) fun (o77 : Nat → Int32) =>
          nm (l1 + (1 : Int32)) fun (v79 : Int32) =>
          X7_remember_L11 o_undoDepth o_data n v79 o_history_r0 o_history_r1 o_history_r2 o_history_r3 o_history_r4 o_history_r5 o77 o_history_r7)
          (bn1 (X7_copy 2243 2243 o_history_r1 o_history_r7 (2243 : Int32)) fun (o80 : Nat → Int32) =>
          nm (l1 + (1 : Int32)) fun (v82 : Int32) =>
          X7_remember_L11 o_undoDepth o_data n v82 o_history_r0 o_history_r1 o_history_r2 o_history_r3 o_history_r4 o_history_r5 o_history_r6 o80))
        (ck (¬ ((l1 - (1 : Int32)) < 0 ∨ 8 ≤ (l1 - (1 : Int32)).toNatClampNeg)) <|
        rw8 (l1 - (1 : Int32)).toNatClampNeg
          (bn1 (X7_copy 2243 2243 o_history_r2 o_history_r0 (2243 : Int32)) fun (o85 : Nat → Int32) =>
          nm (l1 + (1 : Int32)) fun (v87 : Int32) =>
          X7_remember_L11 o_undoDepth o_data n v87 o85 o_history_r1 o_history_r2 o_history_r3 o_history_r4 o_history_r5 o_history_r6 o_history_r7)
          (bn1 (X7_copy 2243 2243 o_history_r2 o_history_r1 (2243 : Int32)) fun (o88 : Nat → Int32) =>
          nm (l1 + (1 : Int32)) fun (v90 : Int32) =>
          X7_remember_L11 o_undoDepth o_data n v90 o_history_r0 o88 o_history_r2 o_history_r3 o_history_r4 o_history_r5 o_history_r6 o_history_r7)
          (bn1 (X7_copy 2243 2243 o_history_r2 o_history_r2 (2243 : Int32)) fun (o91 : Nat → Int32) =>
          nm (l1 + (1 : Int32)) fun (v93 : Int32) =>
          X7_remember_L11 o_undoDepth o_data n v93 o_history_r0 o_history_r1 o91 o_history_r3 o_history_r4 o_history_r5 o_history_r6 o_history_r7)
          (bn1 (X7_copy 2243 2243 o_history_r2 o_history_r3 (2243 : Int32)) fun (o94 : Nat → Int32) =>
          nm (l1 + (1 : Int32)) fun (v96 : Int32) =>
          X7_remember_L11 o_undoDepth o_data n v96 o_history_r0 o_history_r1 o_history_r2 o94 o_history_r4 o_history_r5 o_history_r6 o_history_r7)
          (bn1 (X7_copy 2243 2243 o_history_r2 o_history_r4 (2243 : Int32)) fun (o97 : Nat → Int32) =>
          nm (l1 + (1 : Int32)) fun (v99 : Int32) =>
          X7_remember_L11 o_undoDepth o_data n v99 o_history_r0 o_history_r1 o_history_r2 o_history_r3 o97 o_history_r5 o_history_r6 o_history_r7)
          (bn1 (X7_copy 2243 2243 o_history_r2 o_history_r5 (2243 : Int32)) fun (o100 : Nat → Int32) =>
          nm (l1 + (1 : Int32)) fun (v102 : Int32) =>
          X7_remember_L11 o_undoDepth o_data n v102 o_history_r0 o_history_r1 o_history_r2 o_history_r3 o_history_r4 o100 o_history_r6 o_history_r7)
          (bn1 (X7_copy 2243 2243 o_history_r2 o_history_r6 (2243 : Int32)) fun (o103 : Nat → Int32) =>
          nm (l1 + (1 : Int32)) fun (v105 : Int32) =>
          X7_remember_L11 o_undoDepth o_data n v105 o_history_r0 o_history_r1 o_history_r2 o_history_r3 o_history_r4 o_history_r5 o103 o_history_r7)
          (bn1 (X7_copy 2243 2243 o_history_r2 o_history_r7 (2243 : Int32)) fun (o106 : Nat → Int32) =>
          nm (l1 + (1 : Int32)) fun (v108 : Int32) =>
          X7_remember_L11 o_undoDepth o_data n v108 o_history_r0 o_history_r1 o_history_r2 o_history_r3 o_history_r4 o_history_r5 o_history_r6 o106))
        (ck (¬ ((l1 - (1 : Int32)) < 0 ∨ 8 ≤ (l1 - (1 : Int32)).toNatClampNeg)) <|
        rw8 (l1 - (1 : Int32)).toNatClampNeg
          (bn1 (X7_copy 2243 2243 o_history_r3 o_history_r0 (2243 : Int32)) fun (o111 : Nat → Int32) =>
          nm (l1 + (1 : Int32)) fun (v113 : Int32) =>
          X7_remember_L11 o_undoDepth o_data n v113 o111 o_history_r1 o_history_r2 o_history_r3 o_history_r4 o_history_r5 o_history_r6 o_history_r7)
          (bn1 (X7_copy 2243 2243 o_history_r3 o_history_r1 (2243 : Int32)) fun (o114 : Nat → Int32) =>
          nm (l1 + (1 : Int32)) fun (v116 : Int32) =>
          X7_remember_L11 o_undoDepth o_data n v116 o_history_r0 o114 o_history_r2 o_history_r3 o_history_r4 o_history_r5 o_history_r6 o_history_r7)
          (bn1 (X7_copy 2243 2243 o_history_r3 o_history_r2 (2243 : Int32)) fun (o117 : Nat → Int32) =>
          nm (l1 + (1 : Int32)) fun (v119 : Int32) =>
          X7_remember_L11 o_undoDepth o_data n v119 o_history_r0 o_history_r1 o117 o_history_r3 o_history_r4 o_history_r5 o_history_r6 o_history_r7)
          (bn1 (X7_copy 2243 2243 o_history_r3 o_history_r3 (2243 : Int32)) fun (o120 : Nat → Int32) =>
          nm (l1 + (1 : Int32)) fun (v122 : Int32) =>
          X7_remember_L11 o_undoDepth o_data n v122 o_history_r0 o_history_r1 o_history_r2 o120 o_history_r4 o_history_r5 o_history_r6 o_history_r7)
          (bn1 (X7_copy 2243 2243 o_history_r3 o_history_r4 (2243 : Int32)) fun (o123 : Nat → Int32) =>
          nm (l1 + (1 : Int32)) fun (v125 : Int32) =>
          X7_remember_L11 o_undoDepth o_data n v125 o_history_r0 o_history_r1 o_history_r2 o_history_r3 o123 o_history_r5 o_history_r6 o_history_r7)
          (bn1 (X7_copy 2243 2243 o_history_r3 o_history_r5 (2243 : Int32)) fun (o126 : Nat → Int32) =>
          nm (l1 + (1 : Int32)) fun (v128 : Int32) =>
          X7_remember_L11 o_undoDepth o_data n v128 o_history_r0 o_history_r1 o_history_r2 o_history_r3 o_history_r4 o126 o_history_r6 o_history_r7)
          (bn1 (X7_copy 2243 2243 o_history_r3 o_history_r6 (2243 : Int32)) fun (o129 : Nat → Int32) =>
          nm (l1 + (1 : Int32)) fun (v131 : Int32) =>
          X7_remember_L11 o_undoDepth o_data n v131 o_history_r0 o_history_r1 o_history_r2 o_history_r3 o_history_r4 o_history_r5 o129 o_history_r7)
          (bn1 (X7_copy 2243 2243 o_history_r3 o_history_r7 (2243 : Int32)) fun (o132 : Nat → Int32) =>
          nm (l1 + (1 : Int32)) fun (v134 : Int32) =>
          X7_remember_L11 o_undoDepth o_data n v134 o_history_r0 o_history_r1 o_history_r2 o_history_r3 o_history_r4 o_history_r5 o_history_r6 o132))
        (ck (¬ ((l1 - (1 : Int32)) < 0 ∨ 8 ≤ (l1 - (1 : Int32)).toNatClampNeg)) <|
        rw8 (l1 - (1 : Int32)).toNatClampNeg
          (bn1 (X7_copy 2243 2243 o_history_r4 o_history_r0 (2243 : Int32)) fun (o137 : Nat → Int32) =>
          nm (l1 + (1 : Int32)) fun (v139 : Int32) =>
          X7_remember_L11 o_undoDepth o_data n v139 o137 o_history_r1 o_history_r2 o_history_r3 o_history_r4 o_history_r5 o_history_r6 o_history_r7)
          (bn1 (X7_copy 2243 2243 o_history_r4 o_history_r1 (2243 : Int32)) fun (o140 : Nat → Int32) =>
          nm (l1 + (1 : Int32)) fun (v142 : Int32) =>
          X7_remember_L11 o_undoDepth o_data n v142 o_history_r0 o140 o_history_r2 o_history_r3 o_history_r4 o_history_r5 o_history_r6 o_history_r7)
          (bn1 (X7_copy 2243 2243 o_history_r4 o_history_r2 (2243 : Int32)) fun (o143 : Nat → Int32) =>
          nm (l1 + (1 : Int32)) fun (v145 : Int32) =>
          X7_remember_L11 o_undoDepth o_data n v145 o_history_r0 o_history_r1 o143 o_history_r3 o_history_r4 o_history_r5 o_history_r6 o_history_r7)
          (bn1 (X7_copy 2243 2243 o_history_r4 o_history_r3 (2243 : Int32)) fun (o146 : Nat → Int32) =>
          nm (l1 + (1 : Int32)) fun (v148 : Int32) =>
          X7_remember_L11 o_undoDepth o_data n v148 o_history_r0 o_history_r1 o_history_r2 o146 o_history_r4 o_history_r5 o_history_r6 o_history_r7)
          (bn1 (X7_copy 2243 2243 o_history_r4 o_history_r4 (2243 : Int32)) fun (o149 : Nat → Int32) =>
          nm (l1 + (1 : Int32)) fun (v151 : Int32) =>
          X7_remember_L11 o_undoDepth o_data n v151 o_history_r0 o_history_r1 o_history_r2 o_history_r3 o149 o_history_r5 o_history_r6 o_history_r7)
          (bn1 (X7_copy 2243 2243 o_history_r4 o_history_r5 (2243 : Int32)) fun (o152 : Nat → Int32) =>
          nm (l1 + (1 : Int32)) fun (v154 : Int32) =>
          X7_remember_L11 o_undoDepth o_data n v154 o_history_r0 o_history_r1 o_history_r2 o_history_r3 o_history_r4 o152 o_history_r6 o_history_r7)
          (bn1 (X7_copy 2243 2243 o_history_r4 o_history_r6 (2243 : Int32)) fun (o155 : Nat → Int32) =>
          nm (l1 + (1 : Int32)) fun (v157 : Int32) =>
          X7_remember_L11 o_undoDepth o_data n v157 o_history_r0 o_history_r1 o_history_r2 o_history_r3 o_history_r4 o_history_r5 o155 o_history_r7)
          (bn1 (X7_copy 2243 2243 o_history_r4 o_history_r7 (2243 : Int32)) fun (o158 : Nat → Int32) =>
          nm (l1 + (1 : Int32)) fun (v160 : Int32) =>
          X7_remember_L11 o_undoDepth o_data n v160 o_history_r0 o_history_r1 o_history_r2 o_history_r3 o_history_r4 o_history_r5 o_history_r6 o158))
        (ck (¬ ((l1 - (1 : Int32)) < 0 ∨ 8 ≤ (l1 - (1 : Int32)).toNatClampNeg)) <|
        rw8 (l1 - (1 : Int32)).toNatClampNeg
          (bn1 (X7_copy 2243 2243 o_history_r5 o_history_r0 (2243 : Int32)) fun (o163 : Nat → Int32) =>
          nm (l1 + (1 : Int32)) fun (v165 : Int32) =>
          X7_remember_L11 o_undoDepth o_data n v165 o163 o_history_r1 o_history_r2 o_history_r3 o_history_r4 o_history_r5 o_history_r6 o_history_r7)
          (bn1 (X7_copy 2243 2243 o_history_r5 o_history_r1 (2243 : Int32)) fun (o166 : Nat → Int32) =>
          nm (l1 + (1 : Int32)) fun (v168 : Int32) =>
          X7_remember_L11 o_undoDepth o_data n v168 o_history_r0 o166 o_history_r2 o_history_r3 o_history_r4 o_history_r5 o_history_r6 o_history_r7)
          (bn1 (X7_copy 2243 2243 o_history_r5 o_history_r2 (2243 : Int32)) fun (o169 : Nat → Int32) =>
          nm (l1 + (1 : Int32)) fun (v171 : Int32) =>
          X7_remember_L11 o_undoDepth o_data n v171 o_history_r0 o_history_r1 o169 o_history_r3 o_history_r4 o_history_r5 o_history_r6 o_history_r7)
          (bn1 (X7_copy 2243 2243 o_history_r5 o_history_r3 (2243 : Int32)) fun (o172 : Nat → Int32) =>
          nm (l1 + (1 : Int32)) fun (v174 : Int32) =>
          X7_remember_L11 o_undoDepth o_data n v174 o_history_r0 o_history_r1 o_history_r2 o172 o_history_r4 o_history_r5 o_history_r6 o_history_r7)
          (bn1 (X7_copy 2243 2243 o_history_r5 o_history_r4 (2243 : Int32)) fun (o175 : Nat → Int32) =>
          nm (l1 + (1 : Int32)) fun (v177 : Int32) =>
          X7_remember_L11 o_undoDepth o_data n v177 o_history_r0 o_history_r1 o_history_r2 o_history_r3 o175 o_history_r5 o_history_r6 o_history_r7)
          (bn1 (X7_copy 2243 2243 o_history_r5 o_history_r5 (2243 : Int32)) fun (o178 : Nat → Int32) =>
          nm (l1 + (1 : Int32)) fun (v180 : Int32) =>
          X7_remember_L11 o_undoDepth o_data n v180 o_history_r0 o_history_r1 o_history_r2 o_history_r3 o_history_r4 o178 o_history_r6 o_history_r7)
          (bn1 (X7_copy 2243 2243 o_history_r5 o_history_r6 (2243 : Int32)) fun (o181 : Nat → Int32) =>
          nm (l1 + (1 : Int32)) fun (v183 : Int32) =>
          X7_remember_L11 o_undoDepth o_data n v183 o_history_r0 o_history_r1 o_history_r2 o_history_r3 o_history_r4 o_history_r5 o181 o_history_r7)
          (bn1 (X7_copy 2243 2243 o_history_r5 o_history_r7 (2243 : Int32)) fun (o184 : Nat → Int32) =>
          nm (l1 + (1 : Int32)) fun (v186 : Int32) =>
          X7_remember_L11 o_undoDepth o_data n v186 o_history_r0 o_history_r1 o_history_r2 o_history_r3 o_history_r4 o_history_r5 o_history_r6 o184))
        (ck (¬ ((l1 - (1 : Int32)) < 0 ∨ 8 ≤ (l1 - (1 : Int32)).toNatClampNeg)) <|
        rw8 (l1 - (1 : Int32)).toNatClampNeg
          (bn1 (X7_copy 2243 2243 o_history_r6 o_history_r0 (2243 : Int32)) fun (o189 : Nat → Int32) =>
          nm (l1 + (1 : Int32)) fun (v191 : Int32) =>
          X7_remember_L11 o_undoDepth o_data n v191 o189 o_history_r1 o_history_r2 o_history_r3 o_history_r4 o_history_r5 o_history_r6 o_history_r7)
          (bn1 (X7_copy 2243 2243 o_history_r6 o_history_r1 (2243 : Int32)) fun (o192 : Nat → Int32) =>
          nm (l1 + (1 : Int32)) fun (v194 : Int32) =>
          X7_remember_L11 o_undoDepth o_data n v194 o_history_r0 o192 o_history_r2 o_history_r3 o_history_r4 o_history_r5 o_history_r6 o_history_r7)
          (bn1 (X7_copy 2243 2243 o_history_r6 o_history_r2 (2243 : Int32)) fun (o195 : Nat → Int32) =>
          nm (l1 + (1 : Int32)) fun (v197 : Int32) =>
          X7_remember_L11 o_undoDepth o_data n v197 o_history_r0 o_history_r1 o195 o_history_r3 o_history_r4 o_history_r5 o_history_r6 o_history_r7)
          (bn1 (X7_copy 2243 2243 o_history_r6 o_history_r3 (2243 : Int32)) fun (o198 : Nat → Int32) =>
          nm (l1 + (1 : Int32)) fun (v200 : Int32) =>
          X7_remember_L11 o_undoDepth o_data n v200 o_history_r0 o_history_r1 o_history_r2 o198 o_history_r4 o_history_r5 o_history_r6 o_history_r7)
          (bn1 (X7_copy 2243 2243 o_history_r6 o_history_r4 (2243 : Int32)) fun (o201 : Nat → Int32) =>
          nm (l1 + (1 : Int32)) fun (v203 : Int32) =>
          X7_remember_L11 o_undoDepth o_data n v203 o_history_r0 o_history_r1 o_history_r2 o_history_r3 o201 o_history_r5 o_history_r6 o_history_r7)
          (bn1 (X7_copy 2243 2243 o_history_r6 o_history_r5 (2243 : Int32)) fun (o204 : Nat → Int32) =>
          nm (l1 + (1 : Int32)) fun (v206 : Int32) =>
          X7_remember_L11 o_undoDepth o_data n v206 o_history_r0 o_history_r1 o_history_r2 o_history_r3 o_history_r4 o204 o_history_r6 o_history_r7)
          (bn1 (X7_copy 2243 2243 o_history_r6 o_history_r6 (2243 : Int32)) fun (o207 : Nat → Int32) =>
          nm (l1 + (1 : Int32)) fun (v209 : Int32) =>
          X7_remember_L11 o_undoDepth o_data n v209 o_history_r0 o_history_r1 o_history_r2 o_history_r3 o_history_r4 o_history_r5 o207 o_history_r7)
          (bn1 (X7_copy 2243 2243 o_history_r6 o_history_r7 (2243 : Int32)) fun (o210 : Nat → Int32) =>
          nm (l1 + (1 : Int32)) fun (v212 : Int32) =>
          X7_remember_L11 o_undoDepth o_data n v212 o_history_r0 o_history_r1 o_history_r2 o_history_r3 o_history_r4 o_history_r5 o_history_r6 o210))
        (ck (¬ ((l1 - (1 : Int32)) < 0 ∨ 8 ≤ (l1 - (1 : Int32)).toNatClampNeg)) <|
        rw8 (l1 - (1 : Int32)).toNatClampNeg
          (bn1 (X7_copy 2243 2243 o_history_r7 o_history_r0 (2243 : Int32)) fun (o215 : Nat → Int32) =>
          nm (l1 + (1 : Int32)) fun (v217 : Int32) =>
          X7_remember_L11 o_undoDepth o_data n v217 o215 o_history_r1 o_history_r2 o_history_r3 o_history_r4 o_history_r5 o_history_r6 o_history_r7)
          (bn1 (X7_copy 2243 2243 o_history_r7 o_history_r1 (2243 : Int32)) fun (o218 : Nat → Int32) =>
          nm (l1 + (1 : Int32)) fun (v220 : Int32) =>
          X7_remember_L11 o_undoDepth o_data n v220 o_history_r0 o218 o_history_r2 o_history_r3 o_history_r4 o_history_r5 o_history_r6 o_history_r7)
          (bn1 (X7_copy 2243 2243 o_history_r7 o_history_r2 (2243 : Int32)) fun (o221 : Nat → Int32) =>
          nm (l1 + (1 : Int32)) fun (v223 : Int32) =>
          X7_remember_L11 o_undoDepth o_data n v223 o_history_r0 o_history_r1 o221 o_history_r3 o_history_r4 o_history_r5 o_history_r6 o_history_r7)
          (bn1 (X7_copy 2243 2243 o_history_r7 o_history_r3 (2243 : Int32)) fun (o224 : Nat → Int32) =>
          nm (l1 + (1 : Int32)) fun (v226 : Int32) =>
          X7_remember_L11 o_undoDepth o_data n v226 o_history_r0 o_history_r1 o_history_r2 o224 o_history_r4 o_history_r5 o_history_r6 o_history_r7)
          (bn1 (X7_copy 2243 2243 o_history_r7 o_history_r4 (2243 : Int32)) fun (o227 : Nat → Int32) =>
          nm (l1 + (1 : Int32)) fun (v229 : Int32) =>
          X7_remember_L11 o_undoDepth o_data n v229 o_history_r0 o_history_r1 o_history_r2 o_history_r3 o227 o_history_r5 o_history_r6 o_history_r7)
          (bn1 (X7_copy 2243 2243 o_history_r7 o_history_r5 (2243 : Int32)) fun (o230 : Nat → Int32) =>
          nm (l1 + (1 : Int32)) fun (v232 : Int32) =>
          X7_remember_L11 o_undoDepth o_data n v232 o_history_r0 o_history_r1 o_history_r2 o_history_r3 o_history_r4 o230 o_history_r6 o_history_r7)
          (bn1 (X7_copy 2243 2243 o_history_r7 o_history_r6 (2243 : Int32)) fun (o233 : Nat → Int32) =>
          nm (l1 + (1 : Int32)) fun (v235 : Int32) =>
          X7_remember_L11 o_undoDepth o_data n v235 o_history_r0 o_history_r1 o_history_r2 o_history_r3 o_history_r4 o_history_r5 o233 o_history_r7)
          (bn1 (X7_copy 2243 2243 o_history_r7 o_history_r7 (2243 : Int32)) fun (o236 : Nat → Int32) =>
          nm (l1 + (1 : Int32)) fun (v238 : Int32) =>
          X7_remember_L11 o_undoDepth o_data n v238 o_history_r0 o_history_r1 o_history_r2 o_history_r3 o_history_r4 o_history_r5 o_history_r6 o236))
def X7_remember (o_undoDepth : Int32) (o_data : Nat → Int32) (o_history_r0 : Nat → Int32) (o_history_r1 : Nat → Int32) (o_history_r2 : Nat → Int32) (o_history_r3 : Nat → Int32) (o_history_r4 : Nat → Int32) (o_history_r5 : Nat → Int32) (o_history_r6 : Nat → Int32) (o_history_r7 : Nat → Int32) : Option (Int32 × (Nat → Int32) × (Nat → Int32) × (Nat → Int32) × (Nat → Int32) × (Nat → Int32) × (Nat → Int32) × (Nat → Int32) × (Nat → Int32)) :=
  if o_undoDepth = (8 : Int32) then
    X7_remember_L11 o_undoDepth o_data FU (1 : Int32) o_history_r0 o_history_r1 o_history_r2 o_history_r3 o_history_r4 o_history_r5 o_history_r6 o_history_r7
  else
    X7_remember_J53 o_data o_undoDepth o_history_r0 o_history_r1 o_history_r2 o_history_r3 o_history_r4 o_history_r5 o_history_r6 o_history_r7
def X7_load_J190 (o_undoDepth : Int32) (o_buffer : Nat → Int32) (o_data : Nat → Int32) (o_history_r0 : Nat → Int32) (o_history_r1 : Nat → Int32) (o_history_r2 : Nat → Int32) (o_history_r3 : Nat → Int32) (o_history_r4 : Nat → Int32) (o_history_r5 : Nat → Int32) (o_history_r6 : Nat → Int32) (o_history_r7 : Nat → Int32) (p1 : Int32)  (o_thrown : Int32) (o_bufferLength : Int32) (o_textLength : Int32) (o_position : Int32) (o_error : Int32) (o_errorAt : Int32) (o_errorOffset : Int32) (o_numberStart : Int32) (o_nesting : Int32) (o_seen : Int32) (o_toldPlanes : Int32) (o_draft : Nat → Int32) : Option (Int32 × Int32 × Int32 × Int32 × Int32 × Int32 × Int32 × Int32 × Int32 × Int32 × Int32 × Int32 × Int32 × (Nat → Int32) × (Nat → Int32) × (Nat → Int32) × (Nat → Int32) × (Nat → Int32) × (Nat → Int32) × (Nat → Int32) × (Nat → Int32) × (Nat → Int32) × (Nat → Int32)) :=
  bn9 (X7_remember o_undoDepth o_data o_history_r0 o_history_r1 o_history_r2 o_history_r3 o_history_r4 o_history_r5 o_history_r6 o_history_r7) fun (o1 : Int32) (o2 : Nat → Int32) (o3 : Nat → Int32) (o4 : Nat → Int32) (o5 : Nat → Int32) (o6 : Nat → Int32) (o7 : Nat → Int32) (o8 : Nat → Int32) (o9 : Nat → Int32) =>
  bn1 (X7_copy 2243 2243 o_draft o_data (2243 : Int32)) fun (o11 : Nat → Int32) =>
  ld o11 2243 (7 : Int32) fun (v14 : Int32) =>
  some (v14, o_thrown, o_bufferLength, o_textLength, o_position, o_error, o_errorAt, o_errorOffset, o1, o_numberStart, o_nesting, o_seen, o_toldPlanes, o11, o_draft, o2, o3, o4, o5, o6, o7, o8, o9)
def X7_load_J154 (o_errorOffset : Int32) (o_undoDepth : Int32) (o_buffer : Nat → Int32) (o_data : Nat → Int32) (o_history_r0 : Nat → Int32) (o_history_r1 : Nat → Int32) (o_history_r2 : Nat → Int32) (o_history_r3 : Nat → Int32) (o_history_r4 : Nat → Int32) (o_history_r5 : Nat → Int32) (o_history_r6 : Nat → Int32) (o_history_r7 : Nat → Int32) (p1 : Int32)  (o_thrown : Int32) (o_bufferLength : Int32) (o_textLength : Int32) (o_position : Int32) (o_error : Int32) (o_errorAt : Int32) (o_numberStart : Int32) (o_nesting : Int32) (o_seen : Int32) (o_toldPlanes : Int32) (o_draft : Nat → Int32) : Option (Int32 × Int32 × Int32 × Int32 × Int32 × Int32 × Int32 × Int32 × Int32 × Int32 × Int32 × Int32 × Int32 × (Nat → Int32) × (Nat → Int32) × (Nat → Int32) × (Nat → Int32) × (Nat → Int32) × (Nat → Int32) × (Nat → Int32) × (Nat → Int32) × (Nat → Int32) × (Nat → Int32)) :=
  bn1 (X7_isGood o_error) fun (r15 : Int32) =>
  if r15 = 0 then
    some (o_error, o_thrown, o_bufferLength, o_textLength, o_position, o_error, o_errorAt, o_errorAt, o_undoDepth, o_numberStart, o_nesting, o_seen, o_toldPlanes, o_data, o_draft, o_history_r0, o_history_r1, o_history_r2, o_history_r3, o_history_r4, o_history_r5, o_history_r6, o_history_r7)
  else
    ld o_draft 2243 (3 : Int32) fun (v19 : Int32) =>
    if v19 = 0 then
      st 2243 (3 : Int32) (upd o_draft (3 : Int32).toNatClampNeg (1 : Int32)) fun (b22 : Nat → Int32) =>
      X7_load_J190 o_undoDepth o_buffer o_data o_history_r0 o_history_r1 o_history_r2 o_history_r3 o_history_r4 o_history_r5 o_history_r6 o_history_r7 p1 o_thrown o_bufferLength o_textLength o_position o_error o_errorAt o_errorAt o_numberStart o_nesting o_seen o_toldPlanes b22
    else
      X7_load_J190 o_undoDepth o_buffer o_data o_history_r0 o_history_r1 o_history_r2 o_history_r3 o_history_r4 o_history_r5 o_history_r6 o_history_r7 p1 o_thrown o_bufferLength o_textLength o_position o_error o_errorAt o_errorAt o_numberStart o_nesting o_seen o_toldPlanes o_draft
def X7_load_L132 (o_errorOffset : Int32) (o_undoDepth : Int32) (o_buffer : Nat → Int32) (o_data : Nat → Int32) (o_history_r0 : Nat → Int32) (o_history_r1 : Nat → Int32) (o_history_r2 : Nat → Int32) (o_history_r3 : Nat → Int32) (o_history_r4 : Nat → Int32) (o_history_r5 : Nat → Int32) (o_history_r6 : Nat → Int32) (o_history_r7 : Nat → Int32) (p1 : Int32)  : Nat → Int32 → Int32 → Int32 → Int32 → Int32 → Int32 → Int32 → Int32 → Int32 → Int32 → (Nat → Int32) → Option (Int32 × Int32 × Int32 × Int32 × Int32 × Int32 × Int32 × Int32 × Int32 × Int32 × Int32 × Int32 × Int32 × (Nat → Int32) × (Nat → Int32) × (Nat → Int32) × (Nat → Int32) × (Nat → Int32) × (Nat → Int32) × (Nat → Int32) × (Nat → Int32) × (Nat → Int32) × (Nat → Int32))
  | 0, _, _, _, _, _, _, _, _, _, _, _ => none
  | n + 1, o_thrown, o_bufferLength, o_textLength, o_position, o_error, o_errorAt, o_numberStart, o_nesting, o_seen, o_toldPlanes, o_draft =>
    bn1 (X7_isGood o_error) fun (r23 : Int32) =>
    if r23 = 0 then
      X7_load_J154 o_errorOffset o_undoDepth o_buffer o_data o_history_r0 o_history_r1 o_history_r2 o_history_r3 o_history_r4 o_history_r5 o_history_r6 o_history_r7 p1 o_thrown o_bufferLength o_textLength o_position o_error o_errorAt o_numberStart o_nesting o_seen o_toldPlanes o_draft
    else
      bn2 (X7_ahead o_textLength o_position o_buffer) fun (r26 : Int32) (o27 : Int32) =>
      if r26 = (-1 : Int32) then
        X7_load_J154 o_errorOffset o_undoDepth o_buffer o_data o_history_r0 o_history_r1 o_history_r2 o_history_r3 o_history_r4 o_history_r5 o_history_r6 o_history_r7 p1 o_thrown o_bufferLength o_textLength o27 o_error o_errorAt o_numberStart o_nesting o_seen o_toldPlanes o_draft
      else
        bn8 (X7_statement o_textLength o27 o_error o_errorAt o_numberStart o_nesting o_seen o_toldPlanes o_buffer o_draft) fun (o30 : Int32) (o31 : Int32) (o32 : Int32) (o33 : Int32) (o34 : Int32) (o35 : Int32) (o36 : Int32) (o37 : Nat → Int32) =>
        X7_load_L132 o_errorOffset o_undoDepth o_buffer o_data o_history_r0 o_history_r1 o_history_r2 o_history_r3 o_history_r4 o_history_r5 o_history_r6 o_history_r7 p1 n o_thrown o_bufferLength o_textLength o30 o31 o32 o33 o34 o35 o36 o37
def X7_load_J91 (o_errorOffset : Int32) (o_undoDepth : Int32) (o_numberStart : Int32) (o_buffer : Nat → Int32) (o_data : Nat → Int32) (o_draft : Nat → Int32) (o_history_r0 : Nat → Int32) (o_history_r1 : Nat → Int32) (o_history_r2 : Nat → Int32) (o_history_r3 : Nat → Int32) (o_history_r4 : Nat → Int32) (o_history_r5 : Nat → Int32) (o_history_r6 : Nat → Int32) (o_history_r7 : Nat → Int32) (p1 : Int32)  (o_thrown : Int32) (o_bufferLength : Int32) (o_textLength : Int32) (o_position : Int32) (o_error : Int32) (o_errorAt : Int32) (o_nesting : Int32) (o_seen : Int32) (o_toldPlanes : Int32) : Option (Int32 × Int32 × Int32 × Int32 × Int32 × Int32 × Int32 × Int32 × Int32 × Int32 × Int32 × Int32 × Int32 × (Nat → Int32) × (Nat → Int32) × (Nat → Int32) × (Nat → Int32) × (Nat → Int32) × (Nat → Int32) × (Nat → Int32) × (Nat → Int32) × (Nat → Int32) × (Nat → Int32)) :=
  bn5 (X7_number o_textLength o_position o_error o_errorAt o_numberStart o_buffer (1 : Int32) (12 : Int32)) fun (r39 : Int32) (o40 : Int32) (o41 : Int32) (o42 : Int32) (o43 : Int32) =>
  bn5 (X7_number o_textLength o40 o41 o42 o43 o_buffer (1 : Int32) (8 : Int32)) fun (r45 : Int32) (o46 : Int32) (o47 : Int32) (o48 : Int32) (o49 : Int32) =>
  bn5 (X7_number o_textLength o46 o47 o48 o49 o_buffer (1 : Int32) (5 : Int32)) fun (r51 : Int32) (o52 : Int32) (o53 : Int32) (o54 : Int32) (o55 : Int32) =>
  bn1 (X7_layBox 2243 o_draft r39 r45 r51) fun (o57 : Nat → Int32) =>
  bn3 (X7_expect o_textLength o52 o53 o54 o_buffer (59 : Int32)) fun (o59 : Int32) (o60 : Int32) (o61 : Int32) =>
  X7_load_L132 o_errorOffset o_undoDepth o_buffer o_data o_history_r0 o_history_r1 o_history_r2 o_history_r3 o_history_r4 o_history_r5 o_history_r6 o_history_r7 p1 FU o_thrown o_bufferLength o_textLength o59 o60 o61 o55 o_nesting o_seen o_toldPlanes o57
def X7_load_J23 (o_bufferLength : Int32) (o_textLength : Int32) (o_position : Int32) (o_error : Int32) (o_errorAt : Int32) (o_errorOffset : Int32) (o_undoDepth : Int32) (o_numberStart : Int32) (o_nesting : Int32) (o_seen : Int32) (o_toldPlanes : Int32) (o_buffer : Nat → Int32) (o_data : Nat → Int32) (o_draft : Nat → Int32) (o_history_r0 : Nat → Int32) (o_history_r1 : Nat → Int32) (o_history_r2 : Nat → Int32) (o_history_r3 : Nat → Int32) (o_history_r4 : Nat → Int32) (o_history_r5 : Nat → Int32) (o_history_r6 : Nat → Int32) (o_history_r7 : Nat → Int32) (p1 : Int32)  (k1 : Int32) (o_thrown : Int32) : Option (Int32 × Int32 × Int32 × Int32 × Int32 × Int32 × Int32 × Int32 × Int32 × Int32 × Int32 × Int32 × Int32 × (Nat → Int32) × (Nat → Int32) × (Nat → Int32) × (Nat → Int32) × (Nat → Int32) × (Nat → Int32) × (Nat → Int32) × (Nat → Int32) × (Nat → Int32) × (Nat → Int32)) :=
  bn2 (X7_fails o_thrown k1 (1 : Int32)) fun (r63 : Int32) (o64 : Int32) =>
  if r63 = 0 then
    bn2 (X7_takeWord [98, 111, 120] p1 (0 : Int32) (0 : Int32) o_buffer) fun (r68 : Int32) (o69 : Int32) =>
    if r68 = 0 then
      bn2 (X7_report (0 : Int32) (-1 : Int32) (-2 : Int32) o69) fun (o72 : Int32) (o73 : Int32) =>
      X7_load_J91 o_errorOffset o_undoDepth o_numberStart o_buffer o_data o_draft o_history_r0 o_history_r1 o_history_r2 o_history_r3 o_history_r4 o_history_r5 o_history_r6 o_history_r7 p1 o64 (0 : Int32) p1 o69 o72 o73 (0 : Int32) (0 : Int32) (0 : Int32)
    else
      X7_load_J91 o_errorOffset o_undoDepth o_numberStart o_buffer o_data o_draft o_history_r0 o_history_r1 o_history_r2 o_history_r3 o_history_r4 o_history_r5 o_history_r6 o_history_r7 p1 o64 (0 : Int32) p1 o69 (0 : Int32) (-1 : Int32) (0 : Int32) (0 : Int32) (0 : Int32)
  else
    some ((0 : Int32), o64, o_bufferLength, o_textLength, o_position, o_error, o_errorAt, o_errorOffset, o_undoDepth, o_numberStart, o_nesting, o_seen, o_toldPlanes, o_data, o_draft, o_history_r0, o_history_r1, o_history_r2, o_history_r3, o_history_r4, o_history_r5, o_history_r6, o_history_r7)
def X7_load (o_thrown : Int32) (o_bufferLength : Int32) (o_textLength : Int32) (o_position : Int32) (o_error : Int32) (o_errorAt : Int32) (o_errorOffset : Int32) (o_undoDepth : Int32) (o_numberStart : Int32) (o_nesting : Int32) (o_seen : Int32) (o_toldPlanes : Int32) (o_buffer : Nat → Int32) (o_data : Nat → Int32) (o_draft : Nat → Int32) (o_history_r0 : Nat → Int32) (o_history_r1 : Nat → Int32) (o_history_r2 : Nat → Int32) (o_history_r3 : Nat → Int32) (o_history_r4 : Nat → Int32) (o_history_r5 : Nat → Int32) (o_history_r6 : Nat → Int32) (o_history_r7 : Nat → Int32) (p1 : Int32) : Option (Int32 × Int32 × Int32 × Int32 × Int32 × Int32 × Int32 × Int32 × Int32 × Int32 × Int32 × Int32 × Int32 × (Nat → Int32) × (Nat → Int32) × (Nat → Int32) × (Nat → Int32) × (Nat → Int32) × (Nat → Int32) × (Nat → Int32) × (Nat → Int32) × (Nat → Int32) × (Nat → Int32)) :=
  bn1 (X7_in p1 (0 : Int32) o_bufferLength) fun (r75 : Int32) =>
  if r75 = 0 then
    X7_load_J23 o_bufferLength o_textLength o_position o_error o_errorAt o_errorOffset o_undoDepth o_numberStart o_nesting o_seen o_toldPlanes o_buffer o_data o_draft o_history_r0 o_history_r1 o_history_r2 o_history_r3 o_history_r4 o_history_r5 o_history_r6 o_history_r7 p1 (1 : Int32) (0 : Int32)
  else
    X7_load_J23 o_bufferLength o_textLength o_position o_error o_errorAt o_errorOffset o_undoDepth o_numberStart o_nesting o_seen o_toldPlanes o_buffer o_data o_draft o_history_r0 o_history_r1 o_history_r2 o_history_r3 o_history_r4 o_history_r5 o_history_r6 o_history_r7 p1 (0 : Int32) (0 : Int32)
def X7_errorOffset (o_thrown : Int32) (o_errorOffset : Int32) : Option (Int32 × Int32) :=
  some (o_errorOffset, (0 : Int32))
def X7_cells (o_data : Nat → Int32) : Option (Int32) :=
  ld o_data 2243 (0 : Int32) fun (v2 : Int32) =>
  ld o_data 2243 (1 : Int32) fun (v4 : Int32) =>
  some (v2 * v4)
def X7_kindAt (o_data : Nat → Int32) (p1 : Int32) (p2 : Int32) (p3 : Int32) : Option (Int32) :=
  ld o_data 2243 ((10 : Int32) + p1) fun (v2 : Int32) =>
  nm (p3 + v2) fun (v3 : Int32) =>
  ld o_data 2243 (1 : Int32) fun (v5 : Int32) =>
  if v5 ≤ v3 then
    some (-1 : Int32)
  else
    ld o_data 2243 (0 : Int32) fun (v8 : Int32) =>
    ld o_data 2243 ((((15 : Int32) + ((96 : Int32) * p1)) + (v8 * v3)) + p2) fun (v10 : Int32) =>
    some v10
def X7_holeX (o_data : Nat → Int32) (p1 : Int32) : Option (Int32) :=
  ld o_data 2243 ((495 : Int32) + ((2 : Int32) * p1)) fun (v2 : Int32) =>
  some v2
def X7_holeY (o_data : Nat → Int32) (p1 : Int32) : Option (Int32) :=
  ld o_data 2243 (((495 : Int32) + ((2 : Int32) * p1)) + (1 : Int32)) fun (v2 : Int32) =>
  some v2
def X7_crossX (o_data : Nat → Int32) (p1 : Int32) (p2 : Int32) (p3 : Int32) : Option (Int32) :=
  bn1 (X7_holeX o_data p1) fun (r1 : Int32) =>
  ld o_data 2243 (0 : Int32) fun (v4 : Int32) =>
  ck (¬ v4 = 0) <|
  nm (p2 - p2 / v4 * v4) fun (v6 : Int32) =>
  bn1 (X7_holeX o_data p1) fun (r7 : Int32) =>
  ld o_data 2243 (2 : Int32) fun (v10 : Int32) =>
  ck (¬ v10 = 0) <|
  some (r1 + (((v6 - r7) * (p3 + (1 : Int32))) / v10))
def X7_crossY (o_data : Nat → Int32) (p1 : Int32) (p2 : Int32) (p3 : Int32) : Option (Int32) :=
  bn1 (X7_holeY o_data p1) fun (r1 : Int32) =>
  ld o_data 2243 (0 : Int32) fun (v4 : Int32) =>
  ck (¬ v4 = 0) <|
  bn1 (X7_holeY o_data p1) fun (r6 : Int32) =>
  ld o_data 2243 (2 : Int32) fun (v9 : Int32) =>
  ck (¬ v9 = 0) <|
  some (r1 + ((((p2 / v4) - r6) * (p3 + (1 : Int32))) / v9))
def X7_planeSeen_L2 (o_data : Nat → Int32) (p1 : Int32) (p2 : Int32)  : Nat → Int32 → Option (Int32)
  | 0, _ => none
  | n + 1, l3 =>
    bn1 (X7_crossX o_data p1 p2 l3) fun (r1 : Int32) =>
    bn1 (X7_crossY o_data p1 p2 l3) fun (r3 : Int32) =>
    bn1 (X7_kindAt o_data l3 r1 r3) fun (r5 : Int32) =>
    if r5 = (-1 : Int32) then
      nm (l3 + (1 : Int32)) fun (v8 : Int32) =>
      X7_planeSeen_L2 o_data p1 p2 n v8
    else
      some l3
def X7_planeSeen (o_data : Nat → Int32) (p1 : Int32) (p2 : Int32) : Option (Int32) :=
  X7_planeSeen_L2 o_data p1 p2 FU (0 : Int32)
def X7_kindSeen (o_data : Nat → Int32) (p1 : Int32) (p2 : Int32) : Option (Int32) :=
  bn1 (X7_planeSeen o_data p1 p2) fun (r1 : Int32) =>
  bn1 (X7_crossX o_data p1 p2 r1) fun (r3 : Int32) =>
  bn1 (X7_crossY o_data p1 p2 r1) fun (r5 : Int32) =>
  bn1 (X7_kindAt o_data r1 r3 r5) fun (r7 : Int32) =>
  some r7
def X7_showing_J31 (o_data : Nat → Int32) (p1 : Int32) (p2 : Int32) (kL5 : Int32 → Int32 → Option (Int32)) (l4 : Int32) (k0 : Int32) (k1 : Int32) : Option (Int32) :=
  nm (k0 + k1) fun (v1 : Int32) =>
  nm (l4 + (1 : Int32)) fun (v2 : Int32) =>
  kL5 v1 v2
def X7_showing_L5 (o_data : Nat → Int32) (p1 : Int32) (p2 : Int32)  : Nat → Int32 → Int32 → Option (Int32)
  | 0, _, _ => none
  | n + 1, l3, l4 =>
    bn1 (X7_cells o_data) fun (r3 : Int32) =>
    if r3 ≤ l4 then
      some l3
    else
      bn1 (X7_kindSeen o_data p1 l4) fun (r6 : Int32) =>
      if r6 = p2 then
        X7_showing_J31 o_data p1 p2 (fun z0 z1 => X7_showing_L5 o_data p1 p2 n z0 z1) l4 l3 (1 : Int32)
      else
        X7_showing_J31 o_data p1 p2 (fun z0 z1 => X7_showing_L5 o_data p1 p2 n z0 z1) l4 l3 (0 : Int32)
def X7_showing (o_data : Nat → Int32) (p1 : Int32) (p2 : Int32) : Option (Int32) :=
  X7_showing_L5 o_data p1 p2 FU (0 : Int32) (0 : Int32)
def X7_kindsOf_L37 (o_data : Nat → Int32) (p1 : Int32)  : Nat → Int32 → Int32 → Int32 → Option (Int32)
  | 0, _, _, _ => none
  | n + 1, l2, l3, l4 =>
    if (26 : Int32) ≤ l4 then
      some l3
    else
      nm (l3 + ((l2 >>> (l4 &&& 31)) &&& (1 : Int32))) fun (v2 : Int32) =>
      nm (l4 + (1 : Int32)) fun (v3 : Int32) =>
      X7_kindsOf_L37 o_data p1 n l2 v2 v3
def X7_kindsOf_L7 (o_data : Nat → Int32) (p1 : Int32)  : Nat → Int32 → Int32 → Int32 → Option (Int32)
  | 0, _, _, _ => none
  | n + 1, l2, l3, l4 =>
    bn1 (X7_cells o_data) fun (r4 : Int32) =>
    if r4 ≤ l4 then
      X7_kindsOf_L37 o_data p1 FU l2 l3 (0 : Int32)
    else
      bn1 (X7_kindSeen o_data p1 l4) fun (r7 : Int32) =>
      nm (l2 ||| ((1 : Int32) <<< (r7 &&& 31))) fun (v9 : Int32) =>
      nm (l4 + (1 : Int32)) fun (v10 : Int32) =>
      X7_kindsOf_L7 o_data p1 n v9 l3 v10
def X7_kindsOf (o_data : Nat → Int32) (p1 : Int32) : Option (Int32) :=
  X7_kindsOf_L7 o_data p1 FU (0 : Int32) (0 : Int32) (0 : Int32)
def X7_depthOf_L4 (o_data : Nat → Int32) (p1 : Int32)  : Nat → Int32 → Int32 → Option (Int32)
  | 0, _, _ => none
  | n + 1, l2, l3 =>
    bn1 (X7_cells o_data) fun (r1 : Int32) =>
    if r1 ≤ l3 then
      bn1 (X7_cells o_data) fun (r4 : Int32) =>
      ck (¬ r4 = 0) <|
      some (l2 / r4)
    else
      bn1 (X7_planeSeen o_data p1 l3) fun (r7 : Int32) =>
      nm (l2 + (r7 + (1 : Int32))) fun (v9 : Int32) =>
      nm (l3 + (1 : Int32)) fun (v10 : Int32) =>
      X7_depthOf_L4 o_data p1 n v9 v10
def X7_depthOf (o_data : Nat → Int32) (p1 : Int32) : Option (Int32) :=
  X7_depthOf_L4 o_data p1 FU (0 : Int32) (0 : Int32)
def X7_limited (p0 : Int64) : Option (Int64) :=
  if (lg_cmp p0 (1000000 : Int64)) ≤ 0 then
    if 0 ≤ (lg_cmp p0 (-1000000 : Int64)) then
      some p0
    else
      some (-1000000 : Int64)
  else
    some (1000000 : Int64)
def X7_operate_J47 (p0 : Int32) (p1 : Int64) (p3 : Int64)  (k0 : Int64) : Option (Int64) :=
  bn1 (X7_limited k0) fun (r1 : Int64) =>
  some r1
def X7_operate (p0 : Int32) (p1 : Int64) (p3 : Int64) : Option (Int64) :=
  if p0 = (5 : Int32) then
    if (lg_cmp p3 (0 : Int64)) = 0 then
      some (0 : Int64)
    else
      ck (¬ p3 = 0) <|
      bn1 (X7_limited (p1 / p3)) fun (r8 : Int64) =>
      some r8
  else
    if p0 = (2 : Int32) then
      X7_operate_J47 p0 p1 p3 (p1 + p3)
    else
      if p0 = (3 : Int32) then
        X7_operate_J47 p0 p1 p3 (p1 - p3)
      else
        X7_operate_J47 p0 p1 p3 (p1 * p3)
def X7_priceOf_J185 (o_data : Nat → Int32) (p1 : Int32) (p2 : Int32) (kL72 : Int32 → Int32 → (Nat → Int64) → (Nat → Int32) → Option (Int32 × (Nat → Int64) × (Nat → Int32))) (l3 : Int32) (l4 : Int32) (o_stack : Nat → Int64) (o_facts : Nat → Int32) : Option (Int32 × (Nat → Int64) × (Nat → Int32)) :=
  nm (l4 + (1 : Int32)) fun (v1 : Int32) =>
  kL72 l3 v1 o_stack o_facts
def X7_priceOf_J148 (o_data : Nat → Int32) (p1 : Int32) (p2 : Int32) (kL72 : Int32 → Int32 → (Nat → Int64) → (Nat → Int32) → Option (Int32 × (Nat → Int64) × (Nat → Int32))) (l3 : Int32) (l4 : Int32) (k1 : Int32) (k2 : Int64) (o_stack : Nat → Int64) (o_facts : Nat → Int32) : Option (Int32 × (Nat → Int64) × (Nat → Int32)) :=
  st 1600 k1 (vp_updL o_stack k1.toNatClampNeg k2) fun (b3 : Nat → Int64) =>
  nm (l3 + (1 : Int32)) fun (v4 : Int32) =>
  X7_priceOf_J185 o_data p1 p2 kL72 v4 l4 b3 o_facts
def X7_priceOf_L72 (o_data : Nat → Int32) (p1 : Int32) (p2 : Int32)  : Nat → Int32 → Int32 → (Nat → Int64) → (Nat → Int32) → Option (Int32 × (Nat → Int64) × (Nat → Int32))
  | 0, _, _, _, _ => none
  | n + 1, l3, l4, o_stack, o_facts =>
    ld o_data 2243 (9 : Int32) fun (v6 : Int32) =>
    if v6 ≤ l4 then
      ld o_stack 1600 (0 : Int32) fun (v9 : Int64) =>
      bn1 (X7_min (999 : Int32) v9.toInt32) fun (r10 : Int32) =>
      bn1 (X7_max (0 : Int32) r10) fun (r12 : Int32) =>
      some (r12, o_stack, o_facts)
    else
      ld o_data 2243 ((643 : Int32) + l4) fun (v15 : Int32) =>
      if (1 : Int32) < v15 then
        nm (l3 + (-1 : Int32)) fun (v17 : Int32) =>
        ld o_stack 1600 (v17 - (1 : Int32)) fun (v19 : Int64) =>
        ld o_stack 1600 v17 fun (v21 : Int64) =>
        bn1 (X7_operate v15 v19 v21) fun (r22 : Int64) =>
        st 1600 (v17 - (1 : Int32)) (vp_updL o_stack (v17 - (1 : Int32)).toNatClampNeg r22) fun (b25 : Nat → Int64) =>
        X7_priceOf_J185 o_data p1 p2 (fun z0 z1 z2 z3 => X7_priceOf_L72 o_data p1 p2 n z0 z1 z2 z3) v17 l4 b25 o_facts
      else
        nm (l4 + (1 : Int32)) fun (v26 : Int32) =>
        if v15 = 0 then
          ld o_data 2243 ((643 : Int32) + v26) fun (v33 : Int32) =>
          X7_priceOf_J148 o_data p1 p2 (fun z0 z1 z2 z3 => X7_priceOf_L72 o_data p1 p2 n z0 z1 z2 z3) l3 v26 l3 v33.toInt64 o_stack o_facts
        else
          ld o_data 2243 ((643 : Int32) + v26) fun (v29 : Int32) =>
          ld o_facts 4 v29 fun (v31 : Int32) =>
          X7_priceOf_J148 o_data p1 p2 (fun z0 z1 z2 z3 => X7_priceOf_L72 o_data p1 p2 n z0 z1 z2 z3) l3 v26 l3 v31.toInt64 o_stack o_facts
def X7_priceOf (o_data : Nat → Int32) (o_stack : Nat → Int64) (o_facts : Nat → Int32) (p1 : Int32) (p2 : Int32) : Option (Int32 × (Nat → Int64) × (Nat → Int32)) :=
  bn1 (X7_showing o_data p2 p1) fun (r34 : Int32) =>
  st 4 (0 : Int32) (upd o_facts (0 : Int32).toNatClampNeg r34) fun (b37 : Nat → Int32) =>
  ld o_data 2243 (8 : Int32) fun (v39 : Int32) =>
  if v39 = 0 then
    ld b37 4 (0 : Int32) fun (v54 : Int32) =>
    some (((1 : Int32) + v54), o_stack, b37)
  else
    bn1 (X7_kindsOf o_data p2) fun (r41 : Int32) =>
    st 4 (1 : Int32) (upd b37 (1 : Int32).toNatClampNeg r41) fun (b44 : Nat → Int32) =>
    bn1 (X7_depthOf o_data p2) fun (r45 : Int32) =>
    st 4 (2 : Int32) (upd b44 (2 : Int32).toNatClampNeg r45) fun (b48 : Nat → Int32) =>
    st 4 (3 : Int32) (upd b48 (3 : Int32).toNatClampNeg p2) fun (b50 : Nat → Int32) =>
    st 1600 (0 : Int32) (vp_updL o_stack (0 : Int32).toNatClampNeg (0 : Int64)) fun (b52 : Nat → Int64) =>
    X7_priceOf_L72 o_data p1 p2 FU (0 : Int32) (0 : Int32) b52 b50
def X7_of (o_data : Nat → Int32) (p1 : Int32) (p2 : Int32) : Option (Int32) :=
  ld o_data 2243 (((503 : Int32) + ((7 : Int32) * p1)) + p2) fun (v2 : Int32) =>
  some v2
def X7_set (o_data : Nat → Int32) (p1 : Int32) (p2 : Int32) (p3 : Int32) : Option ((Nat → Int32)) :=
  st 2243 (((503 : Int32) + ((7 : Int32) * p1)) + p2) (upd o_data (((503 : Int32) + ((7 : Int32) * p1)) + p2).toNatClampNeg p3) fun (b2 : Nat → Int32) =>
  some b2
def X7_canUse (o_data : Nat → Int32) (p1 : Int32) (p2 : Int32) : Option (Int32) :=
  bn1 (X7_of o_data p1 (0 : Int32)) fun (r1 : Int32) =>
  ld o_data 2243 (1 : Int32) fun (v4 : Int32) =>
  bn1 (X7_holeY o_data p2) fun (r5 : Int32) =>
  nm (if 0 ≤ (r1 - ((v4 - (1 : Int32)) - r5)) then (r1 - ((v4 - (1 : Int32)) - r5)) else 0 - (r1 - ((v4 - (1 : Int32)) - r5))) fun (v7 : Int32) =>
  ld o_data 2243 (4 : Int32) fun (v9 : Int32) =>
  if v9 < v7 then
    some (0 : Int32)
  else
    some (1 : Int32)
def X7_lookerAt_J35 (o_data : Nat → Int32) (p1 : Int32) (kL2 : Int32 → Option (Int32)) (l2 : Int32) : Option (Int32) :=
  nm (l2 + (1 : Int32)) fun (v1 : Int32) =>
  kL2 v1
def X7_lookerAt_L2 (o_data : Nat → Int32) (p1 : Int32)  : Nat → Int32 → Option (Int32)
  | 0, _ => none
  | n + 1, l2 =>
    ld o_data 2243 (7 : Int32) fun (v3 : Int32) =>
    if v3 ≤ l2 then
      some (-1 : Int32)
    else
      bn1 (X7_of o_data l2 (3 : Int32)) fun (r5 : Int32) =>
      if r5 = (1 : Int32) then
        bn1 (X7_of o_data l2 (4 : Int32)) fun (r8 : Int32) =>
        if r8 = p1 then
          some l2
        else
          X7_lookerAt_J35 o_data p1 (fun z0 => X7_lookerAt_L2 o_data p1 n z0) l2
      else
        X7_lookerAt_J35 o_data p1 (fun z0 => X7_lookerAt_L2 o_data p1 n z0) l2
def X7_lookerAt (o_data : Nat → Int32) (p1 : Int32) : Option (Int32) :=
  X7_lookerAt_L2 o_data p1 FU (0 : Int32)
def X7_inState_J31 (o_data : Nat → Int32) (p1 : Int32) (kL4 : Int32 → Int32 → Option (Int32)) (l3 : Int32) (k0 : Int32) (k1 : Int32) : Option (Int32) :=
  nm (k0 + k1) fun (v1 : Int32) =>
  nm (l3 + (1 : Int32)) fun (v2 : Int32) =>
  kL4 v1 v2
def X7_inState_L4 (o_data : Nat → Int32) (p1 : Int32)  : Nat → Int32 → Int32 → Option (Int32)
  | 0, _, _ => none
  | n + 1, l2, l3 =>
    ld o_data 2243 (7 : Int32) fun (v4 : Int32) =>
    if v4 ≤ l3 then
      some l2
    else
      bn1 (X7_of o_data l3 (3 : Int32)) fun (r6 : Int32) =>
      if r6 = p1 then
        X7_inState_J31 o_data p1 (fun z0 z1 => X7_inState_L4 o_data p1 n z0 z1) l3 l2 (1 : Int32)
      else
        X7_inState_J31 o_data p1 (fun z0 z1 => X7_inState_L4 o_data p1 n z0 z1) l3 l2 (0 : Int32)
def X7_inState (o_data : Nat → Int32) (p1 : Int32) : Option (Int32) :=
  X7_inState_L4 o_data p1 FU (0 : Int32) (0 : Int32)
def X7_paidInAll_L4 (o_data : Nat → Int32)  : Nat → Int32 → Int32 → Option (Int32)
  | 0, _, _ => none
  | n + 1, l1, l2 =>
    ld o_data 2243 (7 : Int32) fun (v2 : Int32) =>
    if v2 ≤ l2 then
      some l1
    else
      bn1 (X7_of o_data l2 (6 : Int32)) fun (r4 : Int32) =>
      nm (l1 + r4) fun (v6 : Int32) =>
      nm (l2 + (1 : Int32)) fun (v7 : Int32) =>
      X7_paidInAll_L4 o_data n v6 v7
def X7_paidInAll (o_data : Nat → Int32) : Option (Int32) :=
  X7_paidInAll_L4 o_data FU (0 : Int32) (0 : Int32)
def X7_look (o_data : Nat → Int32) (o_stack : Nat → Int64) (o_facts : Nat → Int32) (p1 : Int32) : Option ((Nat → Int32) × (Nat → Int64) × (Nat → Int32)) :=
  bn1 (X7_of o_data p1 (5 : Int32)) fun (r1 : Int32) =>
  bn1 (X7_set o_data p1 (5 : Int32) (r1 - (1 : Int32))) fun (o3 : Nat → Int32) =>
  bn1 (X7_of o3 p1 (5 : Int32)) fun (r5 : Int32) =>
  if r5 ≤ 0 then
    bn1 (X7_of o3 p1 (2 : Int32)) fun (r8 : Int32) =>
    bn1 (X7_of o3 p1 (1 : Int32)) fun (r10 : Int32) =>
    bn1 (X7_of o3 p1 (4 : Int32)) fun (r12 : Int32) =>
    bn3 (X7_priceOf o3 o_stack o_facts r10 r12) fun (r14 : Int32) (o15 : Nat → Int64) (o16 : Nat → Int32) =>
    bn1 (X7_min r8 r14) fun (r18 : Int32) =>
    bn1 (X7_of o3 p1 (2 : Int32)) fun (r20 : Int32) =>
    bn1 (X7_set o3 p1 (2 : Int32) (r20 - r18)) fun (o22 : Nat → Int32) =>
    bn1 (X7_set o22 p1 (6 : Int32) r18) fun (o24 : Nat → Int32) =>
    bn1 (X7_set o24 p1 (3 : Int32) (2 : Int32)) fun (o26 : Nat → Int32) =>
    bn1 (X7_set o26 p1 (4 : Int32) (-1 : Int32)) fun (o28 : Nat → Int32) =>
    some (o28, o15, o16)
  else
    some (o3, o_stack, o_facts)
def X7_choose_J120 (p1 : Int32)  (l2 : Int32) (o_data : Nat → Int32) (o_stack : Nat → Int64) (o_facts : Nat → Int32) : Option ((Nat → Int32) × (Nat → Int64) × (Nat → Int32)) :=
  if l2 = (-1 : Int32) then
    some (o_data, o_stack, o_facts)
  else
    bn1 (X7_set o_data p1 (3 : Int32) (1 : Int32)) fun (o2 : Nat → Int32) =>
    bn1 (X7_set o2 p1 (4 : Int32) l2) fun (o4 : Nat → Int32) =>
    ld o4 2243 (5 : Int32) fun (v7 : Int32) =>
    bn1 (X7_set o4 p1 (5 : Int32) v7) fun (o8 : Nat → Int32) =>
    some (o8, o_stack, o_facts)
def X7_choose_J102 (o_data : Nat → Int32) (p1 : Int32) (kL10 : Int32 → Int32 → Int32 → Int32 → (Nat → Int64) → (Nat → Int32) → Option ((Nat → Int32) × (Nat → Int64) × (Nat → Int32))) (l2 : Int32) (l3 : Int32) (l4 : Int32) (l5 : Int32) (o_stack : Nat → Int64) (o_facts : Nat → Int32) : Option ((Nat → Int32) × (Nat → Int64) × (Nat → Int32)) :=
  nm (l5 + (1 : Int32)) fun (v10 : Int32) =>
  kL10 l2 l3 l4 v10 o_stack o_facts
def X7_choose_J96 (o_data : Nat → Int32) (p1 : Int32) (kL10 : Int32 → Int32 → Int32 → Int32 → (Nat → Int64) → (Nat → Int32) → Option ((Nat → Int32) × (Nat → Int64) × (Nat → Int32))) (l4 : Int32) (l5 : Int32) (l6 : Int32) (o_stack : Nat → Int64) (o_facts : Nat → Int32) : Option ((Nat → Int32) × (Nat → Int64) × (Nat → Int32)) :=
  X7_choose_J102 o_data p1 kL10 l5 l6 l4 l5 o_stack o_facts
def X7_choose_L10 (o_data : Nat → Int32) (p1 : Int32)  : Nat → Int32 → Int32 → Int32 → Int32 → (Nat → Int64) → (Nat → Int32) → Option ((Nat → Int32) × (Nat → Int64) × (Nat → Int32))
  | 0, _, _, _, _, _, _ => none
  | n + 1, l2, l3, l4, l5, o_stack, o_facts =>
    ld o_data 2243 (3 : Int32) fun (v12 : Int32) =>
    if v12 ≤ l5 then
      if l4 = 0 then
        bn1 (X7_set o_data p1 (3 : Int32) (3 : Int32)) fun (o15 : Nat → Int32) =>
        X7_choose_J120 p1 l2 o15 o_stack o_facts
      else
        X7_choose_J120 p1 l2 o_data o_stack o_facts
    else
      bn1 (X7_canUse o_data p1 l5) fun (r17 : Int32) =>
      if r17 = 0 then
        X7_choose_J102 o_data p1 (fun z0 z1 z2 z3 z4 z5 => X7_choose_L10 o_data p1 n z0 z1 z2 z3 z4 z5) l2 l3 l4 l5 o_stack o_facts
      else
        bn1 (X7_of o_data p1 (1 : Int32)) fun (r20 : Int32) =>
        bn3 (X7_priceOf o_data o_stack o_facts r20 l5) fun (r22 : Int32) (o23 : Nat → Int64) (o24 : Nat → Int32) =>
        bn1 (X7_of o_data p1 (2 : Int32)) fun (r26 : Int32) =>
        if r22 ≤ r26 then
          bn1 (X7_of o_data p1 (1 : Int32)) fun (r29 : Int32) =>
          bn1 (X7_showing o_data l5 r29) fun (r31 : Int32) =>
          bn1 (X7_lookerAt o_data l5) fun (r33 : Int32) =>
          if r33 = (-1 : Int32) then
            if l2 = (-1 : Int32) then
              X7_choose_J96 o_data p1 (fun z0 z1 z2 z3 z4 z5 => X7_choose_L10 o_data p1 n z0 z1 z2 z3 z4 z5) (1 : Int32) l5 r31 o23 o24
            else
              if l3 < r31 then
                X7_choose_J96 o_data p1 (fun z0 z1 z2 z3 z4 z5 => X7_choose_L10 o_data p1 n z0 z1 z2 z3 z4 z5) (1 : Int32) l5 r31 o23 o24
              else
                X7_choose_J102 o_data p1 (fun z0 z1 z2 z3 z4 z5 => X7_choose_L10 o_data p1 n z0 z1 z2 z3 z4 z5) l2 l3 (1 : Int32) l5 o23 o24
          else
            X7_choose_J102 o_data p1 (fun z0 z1 z2 z3 z4 z5 => X7_choose_L10 o_data p1 n z0 z1 z2 z3 z4 z5) l2 l3 (1 : Int32) l5 o23 o24
        else
          X7_choose_J102 o_data p1 (fun z0 z1 z2 z3 z4 z5 => X7_choose_L10 o_data p1 n z0 z1 z2 z3 z4 z5) l2 l3 l4 l5 o23 o24
def X7_choose (o_data : Nat → Int32) (o_stack : Nat → Int64) (o_facts : Nat → Int32) (p1 : Int32) : Option ((Nat → Int32) × (Nat → Int64) × (Nat → Int32)) :=
  X7_choose_L10 o_data p1 FU (-1 : Int32) (0 : Int32) (0 : Int32) (0 : Int32) o_stack o_facts
def X7_tick_J61  (kL36 : Int32 → (Nat → Int32) → (Nat → Int64) → (Nat → Int32) → Option ((Nat → Int32) × (Nat → Int64) × (Nat → Int32))) (l1 : Int32) (o_data : Nat → Int32) (o_stack : Nat → Int64) (o_facts : Nat → Int32) : Option ((Nat → Int32) × (Nat → Int64) × (Nat → Int32)) :=
  nm (l1 + (1 : Int32)) fun (v1 : Int32) =>
  kL36 v1 o_data o_stack o_facts
def X7_tick_L36   : Nat → Int32 → (Nat → Int32) → (Nat → Int64) → (Nat → Int32) → Option ((Nat → Int32) × (Nat → Int64) × (Nat → Int32))
  | 0, _, _, _, _ => none
  | n + 1, l1, o_data, o_stack, o_facts =>
    ld o_data 2243 (7 : Int32) fun (v3 : Int32) =>
    if v3 ≤ l1 then
      ld o_data 2243 (6 : Int32) fun (v6 : Int32) =>
      st 2243 (6 : Int32) (upd o_data (6 : Int32).toNatClampNeg (v6 + (1 : Int32))) fun (b8 : Nat → Int32) =>
      some (b8, o_stack, o_facts)
    else
      bn1 (X7_of o_data l1 (3 : Int32)) fun (r9 : Int32) =>
      if r9 = 0 then
        bn3 (X7_choose o_data o_stack o_facts l1) fun (o12 : Nat → Int32) (o13 : Nat → Int64) (o14 : Nat → Int32) =>
        X7_tick_J61  (fun z0 z1 z2 z3 => X7_tick_L36  n z0 z1 z2 z3) l1 o12 o13 o14
      else
        X7_tick_J61  (fun z0 z1 z2 z3 => X7_tick_L36  n z0 z1 z2 z3) l1 o_data o_stack o_facts
def X7_tick_J28  (kL2 : Int32 → (Nat → Int32) → (Nat → Int64) → (Nat → Int32) → Option ((Nat → Int32) × (Nat → Int64) × (Nat → Int32))) (l1 : Int32) (o_data : Nat → Int32) (o_stack : Nat → Int64) (o_facts : Nat → Int32) : Option ((Nat → Int32) × (Nat → Int64) × (Nat → Int32)) :=
  nm (l1 + (1 : Int32)) fun (v16 : Int32) =>
  kL2 v16 o_data o_stack o_facts
def X7_tick_L2   : Nat → Int32 → (Nat → Int32) → (Nat → Int64) → (Nat → Int32) → Option ((Nat → Int32) × (Nat → Int64) × (Nat → Int32))
  | 0, _, _, _, _ => none
  | n + 1, l1, o_data, o_stack, o_facts =>
    ld o_data 2243 (7 : Int32) fun (v18 : Int32) =>
    if v18 ≤ l1 then
      X7_tick_L36  FU (0 : Int32) o_data o_stack o_facts
    else
      bn1 (X7_of o_data l1 (3 : Int32)) fun (r20 : Int32) =>
      if r20 = (1 : Int32) then
        bn3 (X7_look o_data o_stack o_facts l1) fun (o23 : Nat → Int32) (o24 : Nat → Int64) (o25 : Nat → Int32) =>
        X7_tick_J28  (fun z0 z1 z2 z3 => X7_tick_L2  n z0 z1 z2 z3) l1 o23 o24 o25
      else
        X7_tick_J28  (fun z0 z1 z2 z3 => X7_tick_L2  n z0 z1 z2 z3) l1 o_data o_stack o_facts
def X7_tick (o_data : Nat → Int32) (o_stack : Nat → Int64) (o_facts : Nat → Int32) : Option ((Nat → Int32) × (Nat → Int64) × (Nat → Int32)) :=
  X7_tick_L2  FU (0 : Int32) o_data o_stack o_facts
def X7_freeHoles_J29 (o_data : Nat → Int32) (kL4 : Int32 → Int32 → Option (Int32)) (l2 : Int32) (k0 : Int32) (k1 : Int32) : Option (Int32) :=
  nm (k0 + k1) fun (v1 : Int32) =>
  nm (l2 + (1 : Int32)) fun (v2 : Int32) =>
  kL4 v1 v2
def X7_freeHoles_L4 (o_data : Nat → Int32)  : Nat → Int32 → Int32 → Option (Int32)
  | 0, _, _ => none
  | n + 1, l1, l2 =>
    ld o_data 2243 (3 : Int32) fun (v4 : Int32) =>
    if v4 ≤ l2 then
      some l1
    else
      bn1 (X7_lookerAt o_data l2) fun (r6 : Int32) =>
      if r6 = (-1 : Int32) then
        X7_freeHoles_J29 o_data (fun z0 z1 => X7_freeHoles_L4 o_data n z0 z1) l2 l1 (1 : Int32)
      else
        X7_freeHoles_J29 o_data (fun z0 z1 => X7_freeHoles_L4 o_data n z0 z1) l2 l1 (0 : Int32)
def X7_freeHoles (o_data : Nat → Int32) : Option (Int32) :=
  X7_freeHoles_L4 o_data FU (0 : Int32) (0 : Int32)
def X7_told (o_data : Nat → Int32) (p1 : Int32) : Option (Int32) :=
  if p1 = (8 : Int32) then
    bn1 (X7_inState o_data (p1 - (8 : Int32))) fun (r2 : Int32) =>
    some r2
  else
  if p1 = (9 : Int32) then
    bn1 (X7_inState o_data (p1 - (8 : Int32))) fun (r5 : Int32) =>
    some r5
  else
  if p1 = (10 : Int32) then
    bn1 (X7_inState o_data (p1 - (8 : Int32))) fun (r8 : Int32) =>
    some r8
  else
  if p1 = (11 : Int32) then
    bn1 (X7_inState o_data (p1 - (8 : Int32))) fun (r11 : Int32) =>
    some r11
  else
  if p1 = (12 : Int32) then
    bn1 (X7_paidInAll o_data) fun (r14 : Int32) =>
    some r14
  else
  if p1 = (13 : Int32) then
    bn1 (X7_freeHoles o_data) fun (r17 : Int32) =>
    some r17
  else
  ld o_data 2243 p1 fun (v20 : Int32) =>
  some v20
def X7_state_J21 (o_data : Nat → Int32) (p1 : Int32)  (k1 : Int32) (o_thrown : Int32) : Option (Int32 × Int32) :=
  bn2 (X7_fails o_thrown k1 (1 : Int32)) fun (r1 : Int32) (o2 : Int32) =>
  if r1 = 0 then
    bn1 (X7_told o_data p1) fun (r5 : Int32) =>
    some (r5, o2)
  else
    some ((0 : Int32), o2)
def X7_state (o_thrown : Int32) (o_data : Nat → Int32) (p1 : Int32) : Option (Int32 × Int32) :=
  bn1 (X7_in p1 (0 : Int32) (13 : Int32)) fun (r7 : Int32) =>
  if r7 = 0 then
    X7_state_J21 o_data p1 (1 : Int32) (0 : Int32)
  else
    X7_state_J21 o_data p1 (0 : Int32) (0 : Int32)
def X7_noPlane_J22 (o_thrown : Int32) (o_data : Nat → Int32) (p1 : Int32)  (k1 : Int32) : Option (Int32 × Int32) :=
  bn2 (X7_fails o_thrown k1 (1 : Int32)) fun (r1 : Int32) (o2 : Int32) =>
  ck (r1 = 0 ∨ r1 = 1) <|
  some (r1, o2)
def X7_noPlane (o_thrown : Int32) (o_data : Nat → Int32) (p1 : Int32) : Option (Int32 × Int32) :=
  ld o_data 2243 (2 : Int32) fun (v6 : Int32) =>
  bn1 (X7_in p1 (0 : Int32) (v6 - (1 : Int32))) fun (r7 : Int32) =>
  if r7 = 0 then
    X7_noPlane_J22 o_thrown o_data p1 (1 : Int32)
  else
    X7_noPlane_J22 o_thrown o_data p1 (0 : Int32)
def X7_noCell_J38 (o_thrown : Int32) (o_data : Nat → Int32) (p1 : Int32) (p2 : Int32)  (k1 : Int32) : Option (Int32 × Int32) :=
  bn2 (X7_fails o_thrown k1 (1 : Int32)) fun (r1 : Int32) (o2 : Int32) =>
  ck (r1 = 0 ∨ r1 = 1) <|
  some (r1, o2)
def X7_noCell_J33 (o_thrown : Int32) (o_data : Nat → Int32) (p1 : Int32) (p2 : Int32)   : Option (Int32 × Int32) :=
  X7_noCell_J38 o_thrown o_data p1 p2 (1 : Int32)
def X7_noCell (o_thrown : Int32) (o_data : Nat → Int32) (p1 : Int32) (p2 : Int32) : Option (Int32 × Int32) :=
  ld o_data 2243 (0 : Int32) fun (v6 : Int32) =>
  bn1 (X7_in p1 (0 : Int32) (v6 - (1 : Int32))) fun (r7 : Int32) =>
  if r7 = 0 then
    X7_noCell_J33 o_thrown o_data p1 p2
  else
    ld o_data 2243 (1 : Int32) fun (v11 : Int32) =>
    bn1 (X7_in p2 (0 : Int32) (v11 - (1 : Int32))) fun (r12 : Int32) =>
    if r12 = 0 then
      X7_noCell_J33 o_thrown o_data p1 p2
    else
      X7_noCell_J38 o_thrown o_data p1 p2 (0 : Int32)
def X7_noHole_J22 (o_thrown : Int32) (o_data : Nat → Int32) (p1 : Int32)  (k1 : Int32) : Option (Int32 × Int32) :=
  bn2 (X7_fails o_thrown k1 (1 : Int32)) fun (r1 : Int32) (o2 : Int32) =>
  ck (r1 = 0 ∨ r1 = 1) <|
  some (r1, o2)
def X7_noHole (o_thrown : Int32) (o_data : Nat → Int32) (p1 : Int32) : Option (Int32 × Int32) :=
  ld o_data 2243 (3 : Int32) fun (v6 : Int32) =>
  bn1 (X7_in p1 (0 : Int32) (v6 - (1 : Int32))) fun (r7 : Int32) =>
  if r7 = 0 then
    X7_noHole_J22 o_thrown o_data p1 (1 : Int32)
  else
    X7_noHole_J22 o_thrown o_data p1 (0 : Int32)
def X7_noViewer_J23 (o_thrown : Int32) (o_data : Nat → Int32) (p1 : Int32)  (k1 : Int32) : Option (Int32 × Int32) :=
  bn2 (X7_fails o_thrown k1 (1 : Int32)) fun (r1 : Int32) (o2 : Int32) =>
  ck (r1 = 0 ∨ r1 = 1) <|
  some (r1, o2)
def X7_noViewer (o_thrown : Int32) (o_data : Nat → Int32) (p1 : Int32) : Option (Int32 × Int32) :=
  ld o_data 2243 (7 : Int32) fun (v6 : Int32) =>
  bn1 (X7_in p1 (0 : Int32) (v6 - (1 : Int32))) fun (r7 : Int32) =>
  if r7 = 0 then
    X7_noViewer_J23 o_thrown o_data p1 (1 : Int32)
  else
    X7_noViewer_J23 o_thrown o_data p1 (0 : Int32)
def X7_stands_J22 (o_data : Nat → Int32) (p1 : Int32) (p2 : Int32) (p3 : Int32)  (o_thrown : Int32) : Option (Int32 × Int32) :=
  some ((0 : Int32), o_thrown)
def X7_stands (o_thrown : Int32) (o_data : Nat → Int32) (p1 : Int32) (p2 : Int32) (p3 : Int32) : Option (Int32 × Int32) :=
  bn2 (X7_noPlane (0 : Int32) o_data p1) fun (r1 : Int32) (o2 : Int32) =>
  if r1 = 0 then
    bn2 (X7_noCell o2 o_data p2 p3) fun (r5 : Int32) (o6 : Int32) =>
    if r5 = 0 then
      bn1 (X7_kindAt o_data p1 p2 p3) fun (r9 : Int32) =>
      some (r9, o6)
    else
      X7_stands_J22 o_data p1 p2 p3 o6
  else
    X7_stands_J22 o_data p1 p2 p3 o2
def X7_toldPlane_J123 (o_data : Nat → Int32) (p1 : Int32) (p2 : Int32) (kL77 : Int32 → Int32 → Option (Int32)) (kL96 : Int32 → Int32 → Int32 → Option (Int32)) (l4 : Int32) (l5 : Int32) (k0 : Int32) (k1 : Int32) : Option (Int32) :=
  nm (k0 + k1) fun (v1 : Int32) =>
  nm (l5 + (1 : Int32)) fun (v2 : Int32) =>
  kL96 v1 l4 v2
def X7_toldPlane_L96 (o_data : Nat → Int32) (p1 : Int32) (p2 : Int32) (kL77 : Int32 → Int32 → Option (Int32)) : Nat → Int32 → Int32 → Int32 → Option (Int32)
  | 0, _, _, _ => none
  | n + 1, l3, l4, l5 =>
    bn1 (X7_cells o_data) fun (r3 : Int32) =>
    if r3 ≤ l5 then
      nm (l4 + (1 : Int32)) fun (v6 : Int32) =>
      kL77 l3 v6
    else
      bn1 (X7_planeSeen o_data l4 l5) fun (r7 : Int32) =>
      if r7 = p1 then
        X7_toldPlane_J123 o_data p1 p2 kL77 (fun z0 z1 z2 => X7_toldPlane_L96 o_data p1 p2 kL77 n z0 z1 z2) l4 l5 l3 (1 : Int32)
      else
        X7_toldPlane_J123 o_data p1 p2 kL77 (fun z0 z1 z2 => X7_toldPlane_L96 o_data p1 p2 kL77 n z0 z1 z2) l4 l5 l3 (0 : Int32)
def X7_toldPlane_L77 (o_data : Nat → Int32) (p1 : Int32) (p2 : Int32)  : Nat → Int32 → Int32 → Option (Int32)
  | 0, _, _ => none
  | n + 1, l3, l4 =>
    ld o_data 2243 (3 : Int32) fun (v11 : Int32) =>
    if v11 ≤ l4 then
      some l3
    else
      if p2 = (2 : Int32) then
        X7_toldPlane_L96 o_data p1 p2 (fun z0 z1 => X7_toldPlane_L77 o_data p1 p2 n z0 z1) FU l3 l4 (0 : Int32)
      else
        some l3
def X7_toldPlane_J74 (o_data : Nat → Int32) (p1 : Int32) (p2 : Int32)  (l3 : Int32) : Option (Int32) :=
  X7_toldPlane_L77 o_data p1 p2 FU l3 (0 : Int32)
def X7_toldPlane_J66 (o_data : Nat → Int32) (p1 : Int32) (p2 : Int32) (kL19 : Int32 → Int32 → Option (Int32)) (l4 : Int32) (k0 : Int32) (k1 : Int32) : Option (Int32) :=
  nm (k0 + k1) fun (v14 : Int32) =>
  nm (l4 + (1 : Int32)) fun (v15 : Int32) =>
  kL19 v14 v15
def X7_toldPlane_L19 (o_data : Nat → Int32) (p1 : Int32) (p2 : Int32)  : Nat → Int32 → Int32 → Option (Int32)
  | 0, _, _ => none
  | n + 1, l3, l4 =>
    bn1 (X7_cells o_data) fun (r16 : Int32) =>
    if r16 ≤ l4 then
      X7_toldPlane_J74 o_data p1 p2 l3
    else
      if p2 = (1 : Int32) then
        ld o_data 2243 (0 : Int32) fun (v21 : Int32) =>
        ck (¬ v21 = 0) <|
        nm (l4 - l4 / v21 * v21) fun (v23 : Int32) =>
        ld o_data 2243 (0 : Int32) fun (v25 : Int32) =>
        ck (¬ v25 = 0) <|
        bn1 (X7_kindAt o_data p1 v23 (l4 / v25)) fun (r27 : Int32) =>
        if r27 = (-1 : Int32) then
          X7_toldPlane_J66 o_data p1 p2 (fun z0 z1 => X7_toldPlane_L19 o_data p1 p2 n z0 z1) l4 l3 (0 : Int32)
        else
          X7_toldPlane_J66 o_data p1 p2 (fun z0 z1 => X7_toldPlane_L19 o_data p1 p2 n z0 z1) l4 l3 (1 : Int32)
      else
        X7_toldPlane_J74 o_data p1 p2 l3
def X7_toldPlane (o_data : Nat → Int32) (p1 : Int32) (p2 : Int32) : Option (Int32) :=
  if p2 = 0 then
    ld o_data 2243 ((10 : Int32) + p1) fun (v32 : Int32) =>
    some v32
  else
    X7_toldPlane_L19 o_data p1 p2 FU (0 : Int32) (0 : Int32)
def X7_plane_J35 (o_data : Nat → Int32) (p1 : Int32) (p2 : Int32)  (o_thrown : Int32) : Option (Int32 × Int32) :=
  some ((0 : Int32), o_thrown)
def X7_plane_J28 (o_data : Nat → Int32) (p1 : Int32) (p2 : Int32)  (k1 : Int32) (o_thrown : Int32) : Option (Int32 × Int32) :=
  bn2 (X7_fails o_thrown k1 (2 : Int32)) fun (r1 : Int32) (o2 : Int32) =>
  if r1 = 0 then
    bn1 (X7_toldPlane o_data p1 p2) fun (r5 : Int32) =>
    some (r5, o2)
  else
    X7_plane_J35 o_data p1 p2 o2
def X7_plane (o_thrown : Int32) (o_data : Nat → Int32) (p1 : Int32) (p2 : Int32) : Option (Int32 × Int32) :=
  bn2 (X7_noPlane (0 : Int32) o_data p1) fun (r7 : Int32) (o8 : Int32) =>
  if r7 = 0 then
    bn1 (X7_in p2 (0 : Int32) (2 : Int32)) fun (r11 : Int32) =>
    if r11 = 0 then
      X7_plane_J28 o_data p1 p2 (1 : Int32) o8
    else
      X7_plane_J28 o_data p1 p2 (0 : Int32) o8
  else
    X7_plane_J35 o_data p1 p2 o8
def X7_toldHole (o_data : Nat → Int32) (p1 : Int32) (p2 : Int32) : Option (Int32) :=
  if p2 = 0 then
    bn1 (X7_holeX o_data p1) fun (r13 : Int32) =>
    some r13
  else
    if p2 = (1 : Int32) then
      bn1 (X7_holeY o_data p1) fun (r11 : Int32) =>
      some r11
    else
      if p2 = (2 : Int32) then
        bn1 (X7_lookerAt o_data p1) fun (r9 : Int32) =>
        some r9
      else
        if p2 = (3 : Int32) then
          bn1 (X7_kindsOf o_data p1) fun (r7 : Int32) =>
          some r7
        else
          bn1 (X7_depthOf o_data p1) fun (r5 : Int32) =>
          some r5
def X7_hole_J35 (o_data : Nat → Int32) (p1 : Int32) (p2 : Int32)  (o_thrown : Int32) : Option (Int32 × Int32) :=
  some ((0 : Int32), o_thrown)
def X7_hole_J28 (o_data : Nat → Int32) (p1 : Int32) (p2 : Int32)  (k1 : Int32) (o_thrown : Int32) : Option (Int32 × Int32) :=
  bn2 (X7_fails o_thrown k1 (2 : Int32)) fun (r1 : Int32) (o2 : Int32) =>
  if r1 = 0 then
    bn1 (X7_toldHole o_data p1 p2) fun (r5 : Int32) =>
    some (r5, o2)
  else
    X7_hole_J35 o_data p1 p2 o2
def X7_hole (o_thrown : Int32) (o_data : Nat → Int32) (p1 : Int32) (p2 : Int32) : Option (Int32 × Int32) :=
  bn2 (X7_noHole (0 : Int32) o_data p1) fun (r7 : Int32) (o8 : Int32) =>
  if r7 = 0 then
    bn1 (X7_in p2 (0 : Int32) (4 : Int32)) fun (r11 : Int32) =>
    if r11 = 0 then
      X7_hole_J28 o_data p1 p2 (1 : Int32) o8
    else
      X7_hole_J28 o_data p1 p2 (0 : Int32) o8
  else
    X7_hole_J35 o_data p1 p2 o8
def X7_sees (o_thrown : Int32) (o_data : Nat → Int32) (p1 : Int32) (p2 : Int32) (p3 : Int32) : Option (Int32 × Int32) :=
  bn2 (X7_noHole (0 : Int32) o_data p1) fun (r1 : Int32) (o2 : Int32) =>
  if r1 = 0 then
    bn2 (X7_noCell o2 o_data p2 p3) fun (r5 : Int32) (o6 : Int32) =>
    if r5 = 0 then
      ld o_data 2243 (0 : Int32) fun (v10 : Int32) =>
      nm ((v10 * p3) + p2) fun (v11 : Int32) =>
      bn1 (X7_planeSeen o_data p1 v11) fun (r12 : Int32) =>
      bn1 (X7_kindSeen o_data p1 v11) fun (r14 : Int32) =>
      some ((((100 : Int32) * r12) + r14), o6)
    else
      some ((0 : Int32), o6)
  else
    some ((0 : Int32), o2)
def X7_shown_J36 (o_data : Nat → Int32) (p1 : Int32) (p2 : Int32)  (o_thrown : Int32) : Option (Int32 × Int32) :=
  some ((0 : Int32), o_thrown)
def X7_shown_J29 (o_data : Nat → Int32) (p1 : Int32) (p2 : Int32)  (k1 : Int32) (o_thrown : Int32) : Option (Int32 × Int32) :=
  bn2 (X7_fails o_thrown k1 (2 : Int32)) fun (r1 : Int32) (o2 : Int32) =>
  if r1 = 0 then
    bn1 (X7_showing o_data p1 p2) fun (r5 : Int32) =>
    some (r5, o2)
  else
    X7_shown_J36 o_data p1 p2 o2
def X7_shown (o_thrown : Int32) (o_data : Nat → Int32) (p1 : Int32) (p2 : Int32) : Option (Int32 × Int32) :=
  bn2 (X7_noHole (0 : Int32) o_data p1) fun (r7 : Int32) (o8 : Int32) =>
  if r7 = 0 then
    bn1 (X7_in p2 (0 : Int32) (25 : Int32)) fun (r11 : Int32) =>
    if r11 = 0 then
      X7_shown_J29 o_data p1 p2 (1 : Int32) o8
    else
      X7_shown_J29 o_data p1 p2 (0 : Int32) o8
  else
    X7_shown_J36 o_data p1 p2 o8
def X7_why_J106 (o_data : Nat → Int32) (p1 : Int32) (p2 : Int32) (p3 : Int32) (p4 : Int32) (kL53 : Int32 → Int32 → Int32 → Option (Int32 × Int32)) (l5 : Int32) (l6 : Int32) (o_thrown : Int32) : Option (Int32 × Int32) :=
  nm (l6 + (1 : Int32)) fun (v1 : Int32) =>
  kL53 l5 v1 o_thrown
def X7_why_L53 (o_data : Nat → Int32) (p1 : Int32) (p2 : Int32) (p3 : Int32) (p4 : Int32)  : Nat → Int32 → Int32 → Int32 → Option (Int32 × Int32)
  | 0, _, _, _ => none
  | n + 1, l5, l6, o_thrown =>
    bn1 (X7_cells o_data) fun (r2 : Int32) =>
    if r2 ≤ l6 then
      some (l5, o_thrown)
    else
      bn1 (X7_crossX o_data p1 l6 p2) fun (r5 : Int32) =>
      if r5 = p3 then
        bn1 (X7_crossY o_data p1 l6 p2) fun (r8 : Int32) =>
        if r8 = p4 then
          bn1 (X7_planeSeen o_data p1 l6) fun (r11 : Int32) =>
          if r11 = p2 then
            some ((0 : Int32), o_thrown)
          else
            X7_why_J106 o_data p1 p2 p3 p4 (fun z0 z1 z2 => X7_why_L53 o_data p1 p2 p3 p4 n z0 z1 z2) (3 : Int32) l6 o_thrown
        else
          X7_why_J106 o_data p1 p2 p3 p4 (fun z0 z1 z2 => X7_why_L53 o_data p1 p2 p3 p4 n z0 z1 z2) l5 l6 o_thrown
      else
        X7_why_J106 o_data p1 p2 p3 p4 (fun z0 z1 z2 => X7_why_L53 o_data p1 p2 p3 p4 n z0 z1 z2) l5 l6 o_thrown
def X7_why (o_thrown : Int32) (o_data : Nat → Int32) (p1 : Int32) (p2 : Int32) (p3 : Int32) (p4 : Int32) : Option (Int32 × Int32) :=
  bn2 (X7_noHole (0 : Int32) o_data p1) fun (r14 : Int32) (o15 : Int32) =>
  if r14 = 0 then
    bn2 (X7_noPlane o15 o_data p2) fun (r18 : Int32) (o19 : Int32) =>
    if r18 = 0 then
      bn2 (X7_noCell o19 o_data p3 p4) fun (r22 : Int32) (o23 : Int32) =>
      if r22 = 0 then
        bn1 (X7_kindAt o_data p2 p3 p4) fun (r26 : Int32) =>
        if r26 = (-1 : Int32) then
          some ((1 : Int32), o23)
        else
          X7_why_L53 o_data p1 p2 p3 p4 FU (2 : Int32) (0 : Int32) o23
      else
        some ((0 : Int32), o23)
    else
      some ((0 : Int32), o19)
  else
    some ((0 : Int32), o15)
def X7_toldViewer (o_data : Nat → Int32) (p1 : Int32) (p2 : Int32) : Option (Int32) :=
  bn1 (X7_of o_data p1 p2) fun (r1 : Int32) =>
  some r1
def X7_viewer_J36 (o_data : Nat → Int32) (p1 : Int32) (p2 : Int32)  (o_thrown : Int32) : Option (Int32 × Int32) :=
  some ((0 : Int32), o_thrown)
def X7_viewer_J29 (o_data : Nat → Int32) (p1 : Int32) (p2 : Int32)  (k1 : Int32) (o_thrown : Int32) : Option (Int32 × Int32) :=
  bn2 (X7_fails o_thrown k1 (2 : Int32)) fun (r1 : Int32) (o2 : Int32) =>
  if r1 = 0 then
    bn1 (X7_toldViewer o_data p1 p2) fun (r5 : Int32) =>
    some (r5, o2)
  else
    X7_viewer_J36 o_data p1 p2 o2
def X7_viewer (o_thrown : Int32) (o_data : Nat → Int32) (p1 : Int32) (p2 : Int32) : Option (Int32 × Int32) :=
  bn2 (X7_noViewer (0 : Int32) o_data p1) fun (r7 : Int32) (o8 : Int32) =>
  if r7 = 0 then
    bn1 (X7_in p2 (0 : Int32) (6 : Int32)) fun (r11 : Int32) =>
    if r11 = 0 then
      X7_viewer_J29 o_data p1 p2 (1 : Int32) o8
    else
      X7_viewer_J29 o_data p1 p2 (0 : Int32) o8
  else
    X7_viewer_J36 o_data p1 p2 o8
def X7_price (o_thrown : Int32) (o_data : Nat → Int32) (o_stack : Nat → Int64) (o_facts : Nat → Int32) (p1 : Int32) (p2 : Int32) : Option (Int32 × Int32 × (Nat → Int64) × (Nat → Int32)) :=
  bn2 (X7_noViewer (0 : Int32) o_data p1) fun (r1 : Int32) (o2 : Int32) =>
  if r1 = 0 then
    bn2 (X7_noHole o2 o_data p2) fun (r5 : Int32) (o6 : Int32) =>
    if r5 = 0 then
      bn1 (X7_canUse o_data p1 p2) fun (r9 : Int32) =>
      if r9 = 0 then
        some ((-1 : Int32), o6, o_stack, o_facts)
      else
        bn1 (X7_of o_data p1 (1 : Int32)) fun (r12 : Int32) =>
        bn3 (X7_priceOf o_data o_stack o_facts r12 p2) fun (r14 : Int32) (o15 : Nat → Int64) (o16 : Nat → Int32) =>
        some (r14, o6, o15, o16)
    else
      some ((0 : Int32), o6, o_stack, o_facts)
  else
    some ((0 : Int32), o2, o_stack, o_facts)
def X7_bestPull_J144 (p1 : Int32) (p2 : Int32) (kL69 : Int32 → Int32 → Int32 → Int32 → Int32 → (Nat → Int32) → Option (Int32 × Int32 × (Nat → Int32))) (l3 : Int32) (l4 : Int32) (l5 : Int32) (l6 : Int32) (o_thrown : Int32) (o_data : Nat → Int32) : Option (Int32 × Int32 × (Nat → Int32)) :=
  nm (l6 + (1 : Int32)) fun (v1 : Int32) =>
  kL69 l3 l4 l5 v1 o_thrown o_data
def X7_bestPull_L97 (p1 : Int32) (p2 : Int32) (kL69 : Int32 → Int32 → Int32 → Int32 → Int32 → (Nat → Int32) → Option (Int32 × Int32 × (Nat → Int32))) : Nat → Int32 → Int32 → Int32 → Int32 → Int32 → Int32 → Int32 → (Nat → Int32) → Option (Int32 × Int32 × (Nat → Int32))
  | 0, _, _, _, _, _, _, _, _ => none
  | n + 1, l3, l4, l5, l6, l7, l8, o_thrown, o_data =>
    ld o_data 2243 (3 : Int32) fun (v3 : Int32) =>
    if v3 ≤ l8 then
      if l5 < l7 then
        X7_bestPull_J144 p1 p2 kL69 l3 l6 l7 l6 o_thrown o_data
      else
        X7_bestPull_J144 p1 p2 kL69 l3 l4 l5 l6 o_thrown o_data
    else
      bn1 (X7_showing o_data l8 p2) fun (r6 : Int32) =>
      nm (l7 + r6) fun (v8 : Int32) =>
      nm (l8 + (1 : Int32)) fun (v9 : Int32) =>
      X7_bestPull_L97 p1 p2 kL69 n l3 l4 l5 l6 v8 v9 o_thrown o_data
def X7_bestPull_L69 (p1 : Int32) (p2 : Int32)  : Nat → Int32 → Int32 → Int32 → Int32 → Int32 → (Nat → Int32) → Option (Int32 × Int32 × (Nat → Int32))
  | 0, _, _, _, _, _, _ => none
  | n + 1, l3, l4, l5, l6, o_thrown, o_data =>
    ld o_data 2243 (1 : Int32) fun (v11 : Int32) =>
    if v11 < l6 then
      st 2243 ((10 : Int32) + p1) (upd o_data ((10 : Int32) + p1).toNatClampNeg l3) fun (b14 : Nat → Int32) =>
      some (l4, o_thrown, b14)
    else
      st 2243 ((10 : Int32) + p1) (upd o_data ((10 : Int32) + p1).toNatClampNeg l6) fun (b16 : Nat → Int32) =>
      X7_bestPull_L97 p1 p2 (fun z0 z1 z2 z3 z4 z5 => X7_bestPull_L69 p1 p2 n z0 z1 z2 z3 z4 z5) FU l3 l4 l5 l6 (0 : Int32) (0 : Int32) o_thrown b16
def X7_bestPull_J29 (o_data : Nat → Int32) (p1 : Int32) (p2 : Int32)  (k1 : Int32) (o_thrown : Int32) : Option (Int32 × Int32 × (Nat → Int32)) :=
  bn2 (X7_fails o_thrown k1 (2 : Int32)) fun (r17 : Int32) (o18 : Int32) =>
  if r17 = 0 then
    ld o_data 2243 (2 : Int32) fun (v22 : Int32) =>
    if p1 = (v22 - (1 : Int32)) then
      some ((0 : Int32), o18, o_data)
    else
      ld o_data 2243 ((10 : Int32) + p1) fun (v25 : Int32) =>
      X7_bestPull_L69 p1 p2 FU v25 (0 : Int32) (-1 : Int32) (0 : Int32) o18 o_data
  else
    some ((0 : Int32), o18, o_data)
def X7_bestPull (o_thrown : Int32) (o_data : Nat → Int32) (p1 : Int32) (p2 : Int32) : Option (Int32 × Int32 × (Nat → Int32)) :=
  bn2 (X7_noPlane (0 : Int32) o_data p1) fun (r26 : Int32) (o27 : Int32) =>
  if r26 = 0 then
    bn1 (X7_in p2 (0 : Int32) (25 : Int32)) fun (r30 : Int32) =>
    if r30 = 0 then
      X7_bestPull_J29 o_data p1 p2 (1 : Int32) o27
    else
      X7_bestPull_J29 o_data p1 p2 (0 : Int32) o27
  else
    some ((0 : Int32), o27, o_data)
def X7_foretold_J104 (p1 : Int32) (p2 : Int32)  (k0 : Int32) (o_thrown : Int32) (o_data : Nat → Int32) (o_aside : Nat → Int32) (o_stack : Nat → Int64) (o_facts : Nat → Int32) : Option (Int32 × Int32 × (Nat → Int32) × (Nat → Int32) × (Nat → Int64) × (Nat → Int32)) :=
  bn1 (X7_copy 643 2243 o_aside o_data (643 : Int32)) fun (o1 : Nat → Int32) =>
  some (k0, o_thrown, o1, o_aside, o_stack, o_facts)
def X7_foretold_J101 (p1 : Int32) (p2 : Int32)  (k1 : Int32) (o_thrown : Int32) (o_data : Nat → Int32) (o_aside : Nat → Int32) (o_stack : Nat → Int64) (o_facts : Nat → Int32) : Option (Int32 × Int32 × (Nat → Int32) × (Nat → Int32) × (Nat → Int64) × (Nat → Int32)) :=
  bn1 (X7_inState o_data k1) fun (r3 : Int32) =>
  X7_foretold_J104 p1 p2 r3 o_thrown o_data o_aside o_stack o_facts
def X7_foretold_L55 (p1 : Int32) (p2 : Int32)  : Nat → Int32 → Int32 → (Nat → Int32) → (Nat → Int32) → (Nat → Int64) → (Nat → Int32) → Option (Int32 × Int32 × (Nat → Int32) × (Nat → Int32) × (Nat → Int64) × (Nat → Int32))
  | 0, _, _, _, _, _, _ => none
  | n + 1, l3, o_thrown, o_data, o_aside, o_stack, o_facts =>
    if p1 ≤ l3 then
      if p2 = 0 then
        bn1 (X7_paidInAll o_data) fun (r9 : Int32) =>
        X7_foretold_J104 p1 p2 r9 o_thrown o_data o_aside o_stack o_facts
      else
        if p2 = (1 : Int32) then
          X7_foretold_J101 p1 p2 (0 : Int32) o_thrown o_data o_aside o_stack o_facts
        else
          if p2 = (2 : Int32) then
            X7_foretold_J101 p1 p2 (1 : Int32) o_thrown o_data o_aside o_stack o_facts
          else
            X7_foretold_J101 p1 p2 (3 : Int32) o_thrown o_data o_aside o_stack o_facts
    else
      bn3 (X7_tick o_data o_stack o_facts) fun (o11 : Nat → Int32) (o12 : Nat → Int64) (o13 : Nat → Int32) =>
      nm (l3 + (1 : Int32)) fun (v15 : Int32) =>
      X7_foretold_L55 p1 p2 n v15 o_thrown o11 o_aside o12 o13
def X7_foretold_J30 (o_data : Nat → Int32) (o_aside : Nat → Int32) (o_stack : Nat → Int64) (o_facts : Nat → Int32) (p1 : Int32) (p2 : Int32)  (k1 : Int32) (o_thrown : Int32) : Option (Int32 × Int32 × (Nat → Int32) × (Nat → Int32) × (Nat → Int64) × (Nat → Int32)) :=
  bn2 (X7_fails o_thrown k1 (1 : Int32)) fun (r16 : Int32) (o17 : Int32) =>
  if r16 = 0 then
    bn1 (X7_copy 2243 643 o_data o_aside (643 : Int32)) fun (o20 : Nat → Int32) =>
    X7_foretold_L55 p1 p2 FU (0 : Int32) o17 o_data o20 o_stack o_facts
  else
    some ((0 : Int32), o17, o_data, o_aside, o_stack, o_facts)
def X7_foretold_J25 (o_data : Nat → Int32) (o_aside : Nat → Int32) (o_stack : Nat → Int64) (o_facts : Nat → Int32) (p1 : Int32) (p2 : Int32)  (o_thrown : Int32) : Option (Int32 × Int32 × (Nat → Int32) × (Nat → Int32) × (Nat → Int64) × (Nat → Int32)) :=
  X7_foretold_J30 o_data o_aside o_stack o_facts p1 p2 (1 : Int32) o_thrown
def X7_foretold (o_thrown : Int32) (o_data : Nat → Int32) (o_aside : Nat → Int32) (o_stack : Nat → Int64) (o_facts : Nat → Int32) (p1 : Int32) (p2 : Int32) : Option (Int32 × Int32 × (Nat → Int32) × (Nat → Int32) × (Nat → Int64) × (Nat → Int32)) :=
  bn1 (X7_in p1 (1 : Int32) (100 : Int32)) fun (r22 : Int32) =>
  if r22 = 0 then
    X7_foretold_J25 o_data o_aside o_stack o_facts p1 p2 (0 : Int32)
  else
    bn1 (X7_in p2 (0 : Int32) (3 : Int32)) fun (r25 : Int32) =>
    if r25 = 0 then
      X7_foretold_J25 o_data o_aside o_stack o_facts p1 p2 (0 : Int32)
    else
      X7_foretold_J30 o_data o_aside o_stack o_facts p1 p2 (0 : Int32) (0 : Int32)
def X7_emptyIn_L21   : Nat → Int32 → Int32 → (Nat → Int32) → (Nat → Int32) → (Nat → Int64) → (Nat → Int32) → Option (Int32 × Int32 × (Nat → Int32) × (Nat → Int32) × (Nat → Int64) × (Nat → Int32))
  | 0, _, _, _, _, _, _ => none
  | n + 1, l1, o_thrown, o_data, o_aside, o_stack, o_facts =>
    bn1 (X7_inState o_data (0 : Int32)) fun (r1 : Int32) =>
    bn1 (X7_inState o_data (1 : Int32)) fun (r3 : Int32) =>
    if (r1 + r3) ≤ 0 then
      bn1 (X7_copy 643 2243 o_aside o_data (643 : Int32)) fun (o6 : Nat → Int32) =>
      some (l1, o_thrown, o6, o_aside, o_stack, o_facts)
    else
      bn3 (X7_tick o_data o_stack o_facts) fun (o8 : Nat → Int32) (o9 : Nat → Int64) (o10 : Nat → Int32) =>
      nm (l1 + (1 : Int32)) fun (v12 : Int32) =>
      X7_emptyIn_L21  n v12 o_thrown o8 o_aside o9 o10
def X7_emptyIn (o_thrown : Int32) (o_data : Nat → Int32) (o_aside : Nat → Int32) (o_stack : Nat → Int64) (o_facts : Nat → Int32) : Option (Int32 × Int32 × (Nat → Int32) × (Nat → Int32) × (Nat → Int64) × (Nat → Int32)) :=
  bn1 (X7_copy 2243 643 o_data o_aside (643 : Int32)) fun (o13 : Nat → Int32) =>
  X7_emptyIn_L21  FU (0 : Int32) (0 : Int32) o_data o13 o_stack o_facts
def X7_meanPaid (o_thrown : Int32) (o_data : Nat → Int32) : Option (UInt32 × Int32) :=
  bn1 (X7_inState o_data (2 : Int32)) fun (r1 : Int32) =>
  if r1 = 0 then
    some (FP.fconst0, (0 : Int32))
  else
    bn1 (X7_paidInAll o_data) fun (r4 : Int32) =>
    bn1 (X7_inState o_data (2 : Int32)) fun (r6 : Int32) =>
    ck ((FP.fdiv (FP.i2f r4) (FP.i2f r6)) &&& 0x7fffffff ≤ 0x7f800000) <|
    some ((FP.fdiv (FP.i2f r4) (FP.i2f r6)), (0 : Int32))
def X7_pass_L41 (p1 : Int32)  : Nat → Int32 → Int32 → Int32 → Int32 → (Nat → Int32) → (Nat → Int32) → (Nat → Int32) → (Nat → Int32) → (Nat → Int32) → (Nat → Int32) → (Nat → Int32) → (Nat → Int32) → (Nat → Int32) → (Nat → Int64) → (Nat → Int32) → Option (Int32 × Int32 × Int32 × (Nat → Int32) × (Nat → Int32) × (Nat → Int32) × (Nat → Int32) × (Nat → Int32) × (Nat → Int32) × (Nat → Int32) × (Nat → Int32) × (Nat → Int32) × (Nat → Int64) × (Nat → Int32))
  | 0, _, _, _, _, _, _, _, _, _, _, _, _, _, _, _ => none
  | n + 1, l2, l3, o_thrown, o_undoDepth, o_data, o_history_r0, o_history_r1, o_history_r2, o_history_r3, o_history_r4, o_history_r5, o_history_r6, o_history_r7, o_stack, o_facts =>
    if p1 ≤ l3 then
      bn1 (X7_paidInAll o_data) fun (r2 : Int32) =>
      some ((r2 - l2), o_thrown, o_undoDepth, o_data, o_history_r0, o_history_r1, o_history_r2, o_history_r3, o_history_r4, o_history_r5, o_history_r6, o_history_r7, o_stack, o_facts)
    else
      bn3 (X7_tick o_data o_stack o_facts) fun (o4 : Nat → Int32) (o5 : Nat → Int64) (o6 : Nat → Int32) =>
      nm (l3 + (1 : Int32)) fun (v8 : Int32) =>
      X7_pass_L41 p1 n l2 v8 o_thrown o_undoDepth o4 o_history_r0 o_history_r1 o_history_r2 o_history_r3 o_history_r4 o_history_r5 o_history_r6 o_history_r7 o5 o6
def X7_pass_J21 (o_undoDepth : Int32) (o_data : Nat → Int32) (o_history_r0 : Nat → Int32) (o_history_r1 : Nat → Int32) (o_history_r2 : Nat → Int32) (o_history_r3 : Nat → Int32) (o_history_r4 : Nat → Int32) (o_history_r5 : Nat → Int32) (o_history_r6 : Nat → Int32) (o_history_r7 : Nat → Int32) (o_stack : Nat → Int64) (o_facts : Nat → Int32) (p1 : Int32)  (k1 : Int32) (o_thrown : Int32) : Option (Int32 × Int32 × Int32 × (Nat → Int32) × (Nat → Int32) × (Nat → Int32) × (Nat → Int32) × (Nat → Int32) × (Nat → Int32) × (Nat → Int32) × (Nat → Int32) × (Nat → Int32) × (Nat → Int64) × (Nat → Int32)) :=
  bn2 (X7_fails o_thrown k1 (1 : Int32)) fun (r9 : Int32) (o10 : Int32) =>
  if r9 = 0 then
    bn9 (X7_remember o_undoDepth o_data o_history_r0 o_history_r1 o_history_r2 o_history_r3 o_history_r4 o_history_r5 o_history_r6 o_history_r7) fun (o13 : Int32) (o14 : Nat → Int32) (o15 : Nat → Int32) (o16 : Nat → Int32) (o17 : Nat → Int32) (o18 : Nat → Int32) (o19 : Nat → Int32) (o20 : Nat → Int32) (o21 : Nat → Int32) =>
    bn1 (X7_paidInAll o_data) fun (r23 : Int32) =>
    X7_pass_L41 p1 FU r23 (0 : Int32) o10 o13 o_data o14 o15 o16 o17 o18 o19 o20 o21 o_stack o_facts
  else
    some ((0 : Int32), o10, o_undoDepth, o_data, o_history_r0, o_history_r1, o_history_r2, o_history_r3, o_history_r4, o_history_r5, o_history_r6, o_history_r7, o_stack, o_facts)
def X7_pass (o_thrown : Int32) (o_undoDepth : Int32) (o_data : Nat → Int32) (o_history_r0 : Nat → Int32) (o_history_r1 : Nat → Int32) (o_history_r2 : Nat → Int32) (o_history_r3 : Nat → Int32) (o_history_r4 : Nat → Int32) (o_history_r5 : Nat → Int32) (o_history_r6 : Nat → Int32) (o_history_r7 : Nat → Int32) (o_stack : Nat → Int64) (o_facts : Nat → Int32) (p1 : Int32) : Option (Int32 × Int32 × Int32 × (Nat → Int32) × (Nat → Int32) × (Nat → Int32) × (Nat → Int32) × (Nat → Int32) × (Nat → Int32) × (Nat → Int32) × (Nat → Int32) × (Nat → Int32) × (Nat → Int64) × (Nat → Int32)) :=
  bn1 (X7_in p1 (1 : Int32) (50 : Int32)) fun (r25 : Int32) =>
  if r25 = 0 then
    X7_pass_J21 o_undoDepth o_data o_history_r0 o_history_r1 o_history_r2 o_history_r3 o_history_r4 o_history_r5 o_history_r6 o_history_r7 o_stack o_facts p1 (1 : Int32) (0 : Int32)
  else
    X7_pass_J21 o_undoDepth o_data o_history_r0 o_history_r1 o_history_r2 o_history_r3 o_history_r4 o_history_r5 o_history_r6 o_history_r7 o_stack o_facts p1 (0 : Int32) (0 : Int32)
def X7_pull_J58 (o_undoDepth : Int32) (o_data : Nat → Int32) (o_history_r0 : Nat → Int32) (o_history_r1 : Nat → Int32) (o_history_r2 : Nat → Int32) (o_history_r3 : Nat → Int32) (o_history_r4 : Nat → Int32) (o_history_r5 : Nat → Int32) (o_history_r6 : Nat → Int32) (o_history_r7 : Nat → Int32) (p1 : Int32) (p2 : Int32)  (k1 : Int32) (o_thrown : Int32) : Option (Int32 × Int32 × Int32 × (Nat → Int32) × (Nat → Int32) × (Nat → Int32) × (Nat → Int32) × (Nat → Int32) × (Nat → Int32) × (Nat → Int32) × (Nat → Int32) × (Nat → Int32)) :=
  bn2 (X7_fails o_thrown k1 (3 : Int32)) fun (r1 : Int32) (o2 : Int32) =>
  if r1 = 0 then
    bn9 (X7_remember o_undoDepth o_data o_history_r0 o_history_r1 o_history_r2 o_history_r3 o_history_r4 o_history_r5 o_history_r6 o_history_r7) fun (o5 : Int32) (o6 : Nat → Int32) (o7 : Nat → Int32) (o8 : Nat → Int32) (o9 : Nat → Int32) (o10 : Nat → Int32) (o11 : Nat → Int32) (o12 : Nat → Int32) (o13 : Nat → Int32) =>
    ld o_data 2243 ((10 : Int32) + p1) fun (v16 : Int32) =>
    st 2243 ((10 : Int32) + p1) (upd o_data ((10 : Int32) + p1).toNatClampNeg p2) fun (b18 : Nat → Int32) =>
    some (v16, o2, o5, b18, o6, o7, o8, o9, o10, o11, o12, o13)
  else
    some ((0 : Int32), o2, o_undoDepth, o_data, o_history_r0, o_history_r1, o_history_r2, o_history_r3, o_history_r4, o_history_r5, o_history_r6, o_history_r7)
def X7_pull_J33 (o_undoDepth : Int32) (o_data : Nat → Int32) (o_history_r0 : Nat → Int32) (o_history_r1 : Nat → Int32) (o_history_r2 : Nat → Int32) (o_history_r3 : Nat → Int32) (o_history_r4 : Nat → Int32) (o_history_r5 : Nat → Int32) (o_history_r6 : Nat → Int32) (o_history_r7 : Nat → Int32) (p1 : Int32) (p2 : Int32)  (k1 : Int32) (o_thrown : Int32) : Option (Int32 × Int32 × Int32 × (Nat → Int32) × (Nat → Int32) × (Nat → Int32) × (Nat → Int32) × (Nat → Int32) × (Nat → Int32) × (Nat → Int32) × (Nat → Int32) × (Nat → Int32)) :=
  bn2 (X7_fails o_thrown k1 (2 : Int32)) fun (r19 : Int32) (o20 : Int32) =>
  if r19 = 0 then
    ld o_data 2243 (2 : Int32) fun (v24 : Int32) =>
    if p1 = (v24 - (1 : Int32)) then
      X7_pull_J58 o_undoDepth o_data o_history_r0 o_history_r1 o_history_r2 o_history_r3 o_history_r4 o_history_r5 o_history_r6 o_history_r7 p1 p2 (1 : Int32) o20
    else
      X7_pull_J58 o_undoDepth o_data o_history_r0 o_history_r1 o_history_r2 o_history_r3 o_history_r4 o_history_r5 o_history_r6 o_history_r7 p1 p2 (0 : Int32) o20
  else
    some ((0 : Int32), o20, o_undoDepth, o_data, o_history_r0, o_history_r1, o_history_r2, o_history_r3, o_history_r4, o_history_r5, o_history_r6, o_history_r7)
def X7_pull (o_thrown : Int32) (o_undoDepth : Int32) (o_data : Nat → Int32) (o_history_r0 : Nat → Int32) (o_history_r1 : Nat → Int32) (o_history_r2 : Nat → Int32) (o_history_r3 : Nat → Int32) (o_history_r4 : Nat → Int32) (o_history_r5 : Nat → Int32) (o_history_r6 : Nat → Int32) (o_history_r7 : Nat → Int32) (p1 : Int32) (p2 : Int32) : Option (Int32 × Int32 × Int32 × (Nat → Int32) × (Nat → Int32) × (Nat → Int32) × (Nat → Int32) × (Nat → Int32) × (Nat → Int32) × (Nat → Int32) × (Nat → Int32) × (Nat → Int32)) :=
  bn2 (X7_noPlane (0 : Int32) o_data p1) fun (r26 : Int32) (o27 : Int32) =>
  if r26 = 0 then
    ld o_data 2243 (1 : Int32) fun (v31 : Int32) =>
    bn1 (X7_in p2 (0 : Int32) v31) fun (r32 : Int32) =>
    if r32 = 0 then
      X7_pull_J33 o_undoDepth o_data o_history_r0 o_history_r1 o_history_r2 o_history_r3 o_history_r4 o_history_r5 o_history_r6 o_history_r7 p1 p2 (1 : Int32) o27
    else
      X7_pull_J33 o_undoDepth o_data o_history_r0 o_history_r1 o_history_r2 o_history_r3 o_history_r4 o_history_r5 o_history_r6 o_history_r7 p1 p2 (0 : Int32) o27
  else
    some ((0 : Int32), o27, o_undoDepth, o_data, o_history_r0, o_history_r1, o_history_r2, o_history_r3, o_history_r4, o_history_r5, o_history_r6, o_history_r7)
def X7_come_J67 (o_undoDepth : Int32) (o_data : Nat → Int32) (o_history_r0 : Nat → Int32) (o_history_r1 : Nat → Int32) (o_history_r2 : Nat → Int32) (o_history_r3 : Nat → Int32) (o_history_r4 : Nat → Int32) (o_history_r5 : Nat → Int32) (o_history_r6 : Nat → Int32) (o_history_r7 : Nat → Int32) (p1 : Int32) (p2 : Int32) (p3 : Int32)  (k1 : Int32) (o_thrown : Int32) : Option (Int32 × Int32 × Int32 × (Nat → Int32) × (Nat → Int32) × (Nat → Int32) × (Nat → Int32) × (Nat → Int32) × (Nat → Int32) × (Nat → Int32) × (Nat → Int32) × (Nat → Int32)) :=
  bn2 (X7_fails o_thrown k1 (2 : Int32)) fun (r1 : Int32) (o2 : Int32) =>
  if r1 = 0 then
    bn9 (X7_remember o_undoDepth o_data o_history_r0 o_history_r1 o_history_r2 o_history_r3 o_history_r4 o_history_r5 o_history_r6 o_history_r7) fun (o5 : Int32) (o6 : Nat → Int32) (o7 : Nat → Int32) (o8 : Nat → Int32) (o9 : Nat → Int32) (o10 : Nat → Int32) (o11 : Nat → Int32) (o12 : Nat → Int32) (o13 : Nat → Int32) =>
    bn1 (X7_addViewer 2243 o_data p1 p2 p3) fun (o15 : Nat → Int32) =>
    ld o15 2243 (7 : Int32) fun (v18 : Int32) =>
    some ((v18 - (1 : Int32)), o2, o5, o15, o6, o7, o8, o9, o10, o11, o12, o13)
  else
    some ((0 : Int32), o2, o_undoDepth, o_data, o_history_r0, o_history_r1, o_history_r2, o_history_r3, o_history_r4, o_history_r5, o_history_r6, o_history_r7)
def X7_come_J42 (o_undoDepth : Int32) (o_data : Nat → Int32) (o_history_r0 : Nat → Int32) (o_history_r1 : Nat → Int32) (o_history_r2 : Nat → Int32) (o_history_r3 : Nat → Int32) (o_history_r4 : Nat → Int32) (o_history_r5 : Nat → Int32) (o_history_r6 : Nat → Int32) (o_history_r7 : Nat → Int32) (p1 : Int32) (p2 : Int32) (p3 : Int32)  (k1 : Int32) (o_thrown : Int32) : Option (Int32 × Int32 × Int32 × (Nat → Int32) × (Nat → Int32) × (Nat → Int32) × (Nat → Int32) × (Nat → Int32) × (Nat → Int32) × (Nat → Int32) × (Nat → Int32) × (Nat → Int32)) :=
  bn2 (X7_fails o_thrown k1 (1 : Int32)) fun (r19 : Int32) (o20 : Int32) =>
  if r19 = 0 then
    ld o_data 2243 (7 : Int32) fun (v24 : Int32) =>
    if v24 = (20 : Int32) then
      X7_come_J67 o_undoDepth o_data o_history_r0 o_history_r1 o_history_r2 o_history_r3 o_history_r4 o_history_r5 o_history_r6 o_history_r7 p1 p2 p3 (1 : Int32) o20
    else
      X7_come_J67 o_undoDepth o_data o_history_r0 o_history_r1 o_history_r2 o_history_r3 o_history_r4 o_history_r5 o_history_r6 o_history_r7 p1 p2 p3 (0 : Int32) o20
  else
    some ((0 : Int32), o20, o_undoDepth, o_data, o_history_r0, o_history_r1, o_history_r2, o_history_r3, o_history_r4, o_history_r5, o_history_r6, o_history_r7)
def X7_come_J37 (o_undoDepth : Int32) (o_data : Nat → Int32) (o_history_r0 : Nat → Int32) (o_history_r1 : Nat → Int32) (o_history_r2 : Nat → Int32) (o_history_r3 : Nat → Int32) (o_history_r4 : Nat → Int32) (o_history_r5 : Nat → Int32) (o_history_r6 : Nat → Int32) (o_history_r7 : Nat → Int32) (p1 : Int32) (p2 : Int32) (p3 : Int32)  (o_thrown : Int32) : Option (Int32 × Int32 × Int32 × (Nat → Int32) × (Nat → Int32) × (Nat → Int32) × (Nat → Int32) × (Nat → Int32) × (Nat → Int32) × (Nat → Int32) × (Nat → Int32) × (Nat → Int32)) :=
  X7_come_J42 o_undoDepth o_data o_history_r0 o_history_r1 o_history_r2 o_history_r3 o_history_r4 o_history_r5 o_history_r6 o_history_r7 p1 p2 p3 (1 : Int32) o_thrown
def X7_come (o_thrown : Int32) (o_undoDepth : Int32) (o_data : Nat → Int32) (o_history_r0 : Nat → Int32) (o_history_r1 : Nat → Int32) (o_history_r2 : Nat → Int32) (o_history_r3 : Nat → Int32) (o_history_r4 : Nat → Int32) (o_history_r5 : Nat → Int32) (o_history_r6 : Nat → Int32) (o_history_r7 : Nat → Int32) (p1 : Int32) (p2 : Int32) (p3 : Int32) : Option (Int32 × Int32 × Int32 × (Nat → Int32) × (Nat → Int32) × (Nat → Int32) × (Nat → Int32) × (Nat → Int32) × (Nat → Int32) × (Nat → Int32) × (Nat → Int32) × (Nat → Int32)) :=
  bn1 (X7_in p1 (0 : Int32) (9 : Int32)) fun (r26 : Int32) =>
  if r26 = 0 then
    X7_come_J37 o_undoDepth o_data o_history_r0 o_history_r1 o_history_r2 o_history_r3 o_history_r4 o_history_r5 o_history_r6 o_history_r7 p1 p2 p3 (0 : Int32)
  else
    bn1 (X7_in p2 (0 : Int32) (25 : Int32)) fun (r29 : Int32) =>
    if r29 = 0 then
      X7_come_J37 o_undoDepth o_data o_history_r0 o_history_r1 o_history_r2 o_history_r3 o_history_r4 o_history_r5 o_history_r6 o_history_r7 p1 p2 p3 (0 : Int32)
    else
      bn1 (X7_in p3 (0 : Int32) (999 : Int32)) fun (r32 : Int32) =>
      if r32 = 0 then
        X7_come_J37 o_undoDepth o_data o_history_r0 o_history_r1 o_history_r2 o_history_r3 o_history_r4 o_history_r5 o_history_r6 o_history_r7 p1 p2 p3 (0 : Int32)
      else
        X7_come_J42 o_undoDepth o_data o_history_r0 o_history_r1 o_history_r2 o_history_r3 o_history_r4 o_history_r5 o_history_r6 o_history_r7 p1 p2 p3 (0 : Int32) (0 : Int32)
def X7_length_J21 (o_undoDepth : Int32) (o_data : Nat → Int32) (o_history_r0 : Nat → Int32) (o_history_r1 : Nat → Int32) (o_history_r2 : Nat → Int32) (o_history_r3 : Nat → Int32) (o_history_r4 : Nat → Int32) (o_history_r5 : Nat → Int32) (o_history_r6 : Nat → Int32) (o_history_r7 : Nat → Int32) (p1 : Int32)  (k1 : Int32) (o_thrown : Int32) : Option (Int32 × Int32 × Int32 × (Nat → Int32) × (Nat → Int32) × (Nat → Int32) × (Nat → Int32) × (Nat → Int32) × (Nat → Int32) × (Nat → Int32) × (Nat → Int32) × (Nat → Int32)) :=
  bn2 (X7_fails o_thrown k1 (1 : Int32)) fun (r1 : Int32) (o2 : Int32) =>
  if r1 = 0 then
    bn9 (X7_remember o_undoDepth o_data o_history_r0 o_history_r1 o_history_r2 o_history_r3 o_history_r4 o_history_r5 o_history_r6 o_history_r7) fun (o5 : Int32) (o6 : Nat → Int32) (o7 : Nat → Int32) (o8 : Nat → Int32) (o9 : Nat → Int32) (o10 : Nat → Int32) (o11 : Nat → Int32) (o12 : Nat → Int32) (o13 : Nat → Int32) =>
    ld o_data 2243 (5 : Int32) fun (v16 : Int32) =>
    st 2243 (5 : Int32) (upd o_data (5 : Int32).toNatClampNeg p1) fun (b18 : Nat → Int32) =>
    some (v16, o2, o5, b18, o6, o7, o8, o9, o10, o11, o12, o13)
  else
    some ((0 : Int32), o2, o_undoDepth, o_data, o_history_r0, o_history_r1, o_history_r2, o_history_r3, o_history_r4, o_history_r5, o_history_r6, o_history_r7)
def X7_length (o_thrown : Int32) (o_undoDepth : Int32) (o_data : Nat → Int32) (o_history_r0 : Nat → Int32) (o_history_r1 : Nat → Int32) (o_history_r2 : Nat → Int32) (o_history_r3 : Nat → Int32) (o_history_r4 : Nat → Int32) (o_history_r5 : Nat → Int32) (o_history_r6 : Nat → Int32) (o_history_r7 : Nat → Int32) (p1 : Int32) : Option (Int32 × Int32 × Int32 × (Nat → Int32) × (Nat → Int32) × (Nat → Int32) × (Nat → Int32) × (Nat → Int32) × (Nat → Int32) × (Nat → Int32) × (Nat → Int32) × (Nat → Int32)) :=
  bn1 (X7_in p1 (1 : Int32) (20 : Int32)) fun (r19 : Int32) =>
  if r19 = 0 then
    X7_length_J21 o_undoDepth o_data o_history_r0 o_history_r1 o_history_r2 o_history_r3 o_history_r4 o_history_r5 o_history_r6 o_history_r7 p1 (1 : Int32) (0 : Int32)
  else
    X7_length_J21 o_undoDepth o_data o_history_r0 o_history_r1 o_history_r2 o_history_r3 o_history_r4 o_history_r5 o_history_r6 o_history_r7 p1 (0 : Int32) (0 : Int32)
def X7_undo (o_thrown : Int32) (o_undoDepth : Int32) (o_data : Nat → Int32) (o_history_r0 : Nat → Int32) (o_history_r1 : Nat → Int32) (o_history_r2 : Nat → Int32) (o_history_r3 : Nat → Int32) (o_history_r4 : Nat → Int32) (o_history_r5 : Nat → Int32) (o_history_r6 : Nat → Int32) (o_history_r7 : Nat → Int32) : Option (Int32 × Int32 × Int32 × (Nat → Int32)) :=
  if o_undoDepth = 0 then
    some ((-1 : Int32), (0 : Int32), o_undoDepth, o_data)
  else
    nm (o_undoDepth - (1 : Int32)) fun (v2 : Int32) =>
    ck (¬ (v2 < 0 ∨ 8 ≤ v2.toNatClampNeg)) <|
    rw8 v2.toNatClampNeg
      (bn1 (X7_copy 2243 2243 o_history_r0 o_data (2243 : Int32)) fun (o5 : Nat → Int32) =>
      some (v2, (0 : Int32), v2, o5))
      (bn1 (X7_copy 2243 2243 o_history_r1 o_data (2243 : Int32)) fun (o7 : Nat → Int32) =>
      some (v2, (0 : Int32), v2, o7))
      (bn1 (X7_copy 2243 2243 o_history_r2 o_data (2243 : Int32)) fun (o9 : Nat → Int32) =>
      some (v2, (0 : Int32), v2, o9))
      (bn1 (X7_copy 2243 2243 o_history_r3 o_data (2243 : Int32)) fun (o11 : Nat → Int32) =>
      some (v2, (0 : Int32), v2, o11))
      (bn1 (X7_copy 2243 2243 o_history_r4 o_data (2243 : Int32)) fun (o13 : Nat → Int32) =>
      some (v2, (0 : Int32), v2, o13))
      (bn1 (X7_copy 2243 2243 o_history_r5 o_data (2243 : Int32)) fun (o15 : Nat → Int32) =>
      some (v2, (0 : Int32), v2, o15))
      (bn1 (X7_copy 2243 2243 o_history_r6 o_data (2243 : Int32)) fun (o17 : Nat → Int32) =>
      some (v2, (0 : Int32), v2, o17))
      (bn1 (X7_copy 2243 2243 o_history_r7 o_data (2243 : Int32)) fun (o19 : Nat → Int32) =>
      some (v2, (0 : Int32), v2, o19))
def X7_checksum_L146 (o_data : Nat → Int32) (kL132 : Int64 → Int32 → Int32 → Option (Int64 × Int32)) : Nat → Int64 → Int32 → Int32 → Int32 → Option (Int64 × Int32)
  | 0, _, _, _, _ => none
  | n + 1, l1, l3, l4, o_thrown =>
    if (7 : Int32) ≤ l4 then
      nm (l3 + (1 : Int32)) fun (v2 : Int32) =>
      kL132 l1 v2 o_thrown
    else
      bn1 (X7_toldViewer o_data l3 l4) fun (r3 : Int32) =>
      nm (((31 : Int64) * l1) + r3.toInt64) fun (v5 : Int64) =>
      nm (l4 + (1 : Int32)) fun (v6 : Int32) =>
      X7_checksum_L146 o_data kL132 n v5 l3 v6 o_thrown
def X7_checksum_L132 (o_data : Nat → Int32)  : Nat → Int64 → Int32 → Int32 → Option (Int64 × Int32)
  | 0, _, _, _ => none
  | n + 1, l1, l3, o_thrown =>
    ld o_data 2243 (7 : Int32) fun (v8 : Int32) =>
    if v8 ≤ l3 then
      some (l1, o_thrown)
    else
      X7_checksum_L146 o_data (fun z0 z1 z2 => X7_checksum_L132 o_data n z0 z1 z2) FU l1 l3 (0 : Int32) o_thrown
def X7_checksum_L97 (o_data : Nat → Int32) (kL84 : Int64 → Int32 → Int32 → Option (Int64 × Int32)) : Nat → Int64 → Int32 → Int32 → Int32 → Option (Int64 × Int32)
  | 0, _, _, _, _ => none
  | n + 1, l1, l3, l4, o_thrown =>
    if (5 : Int32) ≤ l4 then
      nm (l3 + (1 : Int32)) fun (v11 : Int32) =>
      kL84 l1 v11 o_thrown
    else
      bn1 (X7_toldHole o_data l3 l4) fun (r12 : Int32) =>
      nm (((31 : Int64) * l1) + r12.toInt64) fun (v14 : Int64) =>
      nm (l4 + (1 : Int32)) fun (v15 : Int32) =>
      X7_checksum_L97 o_data kL84 n v14 l3 v15 o_thrown
def X7_checksum_L84 (o_data : Nat → Int32)  : Nat → Int64 → Int32 → Int32 → Option (Int64 × Int32)
  | 0, _, _, _ => none
  | n + 1, l1, l3, o_thrown =>
    ld o_data 2243 (3 : Int32) fun (v17 : Int32) =>
    if v17 ≤ l3 then
      X7_checksum_L132 o_data FU l1 (0 : Int32) o_thrown
    else
      X7_checksum_L97 o_data (fun z0 z1 z2 => X7_checksum_L84 o_data n z0 z1 z2) FU l1 l3 (0 : Int32) o_thrown
def X7_checksum_L49 (o_data : Nat → Int32) (kL36 : Int64 → Int32 → Int32 → Option (Int64 × Int32)) : Nat → Int64 → Int32 → Int32 → Int32 → Option (Int64 × Int32)
  | 0, _, _, _, _ => none
  | n + 1, l1, l3, l4, o_thrown =>
    if (3 : Int32) ≤ l4 then
      nm (l3 + (1 : Int32)) fun (v20 : Int32) =>
      kL36 l1 v20 o_thrown
    else
      bn1 (X7_toldPlane o_data l3 l4) fun (r21 : Int32) =>
      nm (((31 : Int64) * l1) + r21.toInt64) fun (v23 : Int64) =>
      nm (l4 + (1 : Int32)) fun (v24 : Int32) =>
      X7_checksum_L49 o_data kL36 n v23 l3 v24 o_thrown
def X7_checksum_L36 (o_data : Nat → Int32)  : Nat → Int64 → Int32 → Int32 → Option (Int64 × Int32)
  | 0, _, _, _ => none
  | n + 1, l1, l3, o_thrown =>
    ld o_data 2243 (2 : Int32) fun (v26 : Int32) =>
    if v26 ≤ l3 then
      X7_checksum_L84 o_data FU l1 (0 : Int32) o_thrown
    else
      X7_checksum_L49 o_data (fun z0 z1 z2 => X7_checksum_L36 o_data n z0 z1 z2) FU l1 l3 (0 : Int32) o_thrown
def X7_checksum_L9 (o_data : Nat → Int32)  : Nat → Int64 → Int32 → Int32 → Option (Int64 × Int32)
  | 0, _, _, _ => none
  | n + 1, l1, l3, o_thrown =>
    if (14 : Int32) ≤ l3 then
      X7_checksum_L36 o_data FU l1 (0 : Int32) o_thrown
    else
      bn1 (X7_told o_data l3) fun (r29 : Int32) =>
      nm (((31 : Int64) * l1) + r29.toInt64) fun (v31 : Int64) =>
      nm (l3 + (1 : Int32)) fun (v32 : Int32) =>
      X7_checksum_L9 o_data n v31 v32 o_thrown
def X7_checksum (o_thrown : Int32) (o_data : Nat → Int32) : Option (Int64 × Int32) :=
  X7_checksum_L9 o_data FU (0 : Int64) (0 : Int32) (0 : Int32)
