/-! pure programs of the law's own reading methods, written by program (lg.py) -/
def X10_on (G : LG) (p1 : Int32) (p2 : Int32) (p3 : Int32) : Option (Int32) :=
  ck (¬ (nI (shZ G 2)) = 0) <|
  some (p1 + (((p2 - p1) * (p3 + (1 : Int32))) / (nI (shZ G 2))))
def X10_stands (G : LG) (p1 : Int32) (p2 : Int32) (p3 : Int32) : Option (Int32) :=
  ld (shP G) (shZ G 2) p1 fun (v2 : Int32) =>
  if (p3 + v2) < (nI (shZ G 1)) then (ck (¬ (p1 < 0 ∨ (shZ G 2) ≤ p1.toNatClampNeg)) <|
  ld (shP G) (shZ G 2) p1 fun (v6 : Int32) =>
  ck (¬ ((p3 + v6) < 0 ∨ (shZ G 1) ≤ (p3 + v6).toNatClampNeg)) <|
  bn1 (J0_charAt_5068e (shT G p1.toNatClampNeg (p3 + v6).toNatClampNeg) p2) fun (r10 : Int32) =>
  ck (vp_nar .char r10 = r10) <|
  some r10) else (some (46 : Int32))
def X10_sees_L3 (G : LG) (p1 : Int32) (p2 : Int32) (p3 : Int32)  : Nat → Int32 → Option (Int32)
  | 0, _ => none
  | n + 1, l4 =>
    if (nI (shZ G 2)) ≤ l4 then (some (-1 : Int32)) else (ck (¬ (p1 < 0 ∨ (shZ G 3) ≤ p1.toNatClampNeg)) <|
    ld (shH G p1.toNatClampNeg) 2 (0 : Int32) fun (v4 : Int32) =>
    bn1 (X10_on G v4 p2 l4) fun (r6 : Int32) =>
    ck (¬ (p1 < 0 ∨ (shZ G 3) ≤ p1.toNatClampNeg)) <|
    ld (shH G p1.toNatClampNeg) 2 (1 : Int32) fun (v9 : Int32) =>
    bn1 (X10_on G v9 p3 l4) fun (r11 : Int32) =>
    bn1 (X10_stands G l4 r6 r11) fun (r13 : Int32) =>
    if r13 = (46 : Int32) then (nm (l4 + (1 : Int32)) fun (v15 : Int32) =>
    X10_sees_L3 G p1 p2 p3 n v15) else (some ((((100 : Int32) * l4) + r13) - (97 : Int32))))
def X10_sees (G : LG) (p1 : Int32) (p2 : Int32) (p3 : Int32) : Option (Int32) :=
  X10_sees_L3 G p1 p2 p3 FU (0 : Int32)
def X10_shown_J137 (G : LG) (p1 : Int32) (p2 : Int32) (kL111 : Int32 → Int32 → Int32 → Int32 → Int32 → (Nat → Int32) → Option (Int32)) (l3 : Int32) (l4 : Int32) (l8 : Int32) (l9 : Int32) (k0 : Int32) (k1 : Int32) (ta : Nat → Int32) : Option (Int32) :=
  nm (k0 + k1) fun (v1 : Int32) =>
  nm (l9 + (1 : Int32)) fun (v2 : Int32) =>
  kL111 l3 l4 v1 l8 v2 ta
def X10_shown_L111 (G : LG) (p1 : Int32) (p2 : Int32)  : Nat → Int32 → Int32 → Int32 → Int32 → Int32 → (Nat → Int32) → Option (Int32)
  | 0, _, _, _, _, _, _ => none
  | n + 1, l3, l4, l6, l8, l9, ta =>
    if l8 ≤ l9 then (if p2 < 0 then (if p2 = (-1 : Int32) then (some l6) else (ck (¬ ((nI (shZ G 0)) * (nI (shZ G 1))) = 0) <|
    some (l4 / ((nI (shZ G 0)) * (nI (shZ G 1)))))) else (some l3)) else (ld ta 26 l9 fun (v8 : Int32) =>
    if v8 = 0 then (X10_shown_J137 G p1 p2 (fun z0 z1 z2 z3 z4 z5 => X10_shown_L111 G p1 p2 n z0 z1 z2 z3 z4 z5) l3 l4 l8 l9 l6 (0 : Int32) ta) else (X10_shown_J137 G p1 p2 (fun z0 z1 z2 z3 z4 z5 => X10_shown_L111 G p1 p2 n z0 z1 z2 z3 z4 z5) l3 l4 l8 l9 l6 (1 : Int32) ta))
def X10_shown_J61 (G : LG) (p1 : Int32) (p2 : Int32) (kL14 : Int32 → Int32 → Int32 → (Nat → Int32) → Option (Int32)) (kL26 : Int32 → Int32 → Int32 → Int32 → (Nat → Int32) → Option (Int32)) (l4 : Int32) (l6 : Int32) (l7 : Int32) (l8 : Int32) (k0 : Int32) (k1 : Int32) (ta : Nat → Int32) : Option (Int32) :=
  nm (k0 + k1) fun (v10 : Int32) =>
  nm (l4 + ((l8 / (100 : Int32)) + (1 : Int32))) fun (v11 : Int32) =>
  nm (l8 - l8 / (100 : Int32) * (100 : Int32)) fun (v12 : Int32) =>
  st 26 v12 (upd ta v12.toNatClampNeg (vp_nar .boolean (1 : Int32))) fun (b14 : Nat → Int32) =>
  nm (l7 + (1 : Int32)) fun (v15 : Int32) =>
  kL26 v10 v11 l6 v15 b14
def X10_shown_L26 (G : LG) (p1 : Int32) (p2 : Int32) (kL14 : Int32 → Int32 → Int32 → (Nat → Int32) → Option (Int32)) : Nat → Int32 → Int32 → Int32 → Int32 → (Nat → Int32) → Option (Int32)
  | 0, _, _, _, _, _ => none
  | n + 1, l3, l4, l6, l7, ta =>
    if (nI (shZ G 1)) ≤ l7 then (nm (l6 + (1 : Int32)) fun (v17 : Int32) =>
    kL14 l3 l4 v17 ta) else (bn1 (X10_sees G p1 l6 l7) fun (r19 : Int32) =>
    nm (r19 - r19 / (100 : Int32) * (100 : Int32)) fun (v20 : Int32) =>
    if v20 = p2 then (X10_shown_J61 G p1 p2 kL14 (fun z0 z1 z2 z3 z4 => X10_shown_L26 G p1 p2 kL14 n z0 z1 z2 z3 z4) l4 l6 l7 r19 l3 (1 : Int32) ta) else (X10_shown_J61 G p1 p2 kL14 (fun z0 z1 z2 z3 z4 => X10_shown_L26 G p1 p2 kL14 n z0 z1 z2 z3 z4) l4 l6 l7 r19 l3 (0 : Int32) ta))
def X10_shown_L14 (G : LG) (p1 : Int32) (p2 : Int32)  : Nat → Int32 → Int32 → Int32 → (Nat → Int32) → Option (Int32)
  | 0, _, _, _, _ => none
  | n + 1, l3, l4, l6, ta =>
    if (nI (shZ G 0)) ≤ l6 then (X10_shown_L111 G p1 p2 FU l3 l4 (0 : Int32) (26 : Int32) (0 : Int32) ta) else (X10_shown_L26 G p1 p2 (fun z0 z1 z2 z3 => X10_shown_L14 G p1 p2 n z0 z1 z2 z3) FU l3 l4 l6 (0 : Int32) ta)
def X10_shown (G : LG) (p1 : Int32) (p2 : Int32) : Option (Int32) :=
  X10_shown_L14 G p1 p2 FU (0 : Int32) (0 : Int32) (0 : Int32) (fun _ => (0 : Int32))
def X10_canUse (G : LG) (f : Nat → Int32) (p2 : Int32) : Option (Int32) :=
  ck (¬ (p2 < 0 ∨ (shZ G 3) ≤ p2.toNatClampNeg)) <|
  ld (shH G p2.toNatClampNeg) 2 (1 : Int32) fun (v3 : Int32) =>
  nm (((nI (shZ G 1)) - (1 : Int32)) - v3) fun (v4 : Int32) =>
  nm (if 0 ≤ ((f 0) - v4) then ((f 0) - v4) else 0 - ((f 0) - v4)) fun (v5 : Int32) =>
  if (shI G 0) < v5 then (some (0 : Int32)) else (some (1 : Int32))
def X10_looker_J39 (G : LG) (p1 : Int32) (kL2 : Int32 → Option (Int32)) (l2 : Int32) : Option (Int32) :=
  nm (l2 + (1 : Int32)) fun (v1 : Int32) =>
  kL2 v1
def X10_looker_L2 (G : LG) (p1 : Int32)  : Nat → Int32 → Option (Int32)
  | 0, _ => none
  | n + 1, l2 =>
    if (nI (shZ G 4)) ≤ l2 then (some (-1 : Int32)) else (ck (¬ (l2 < 0 ∨ (shZ G 4) ≤ l2.toNatClampNeg)) <|
    if (shG G l2.toNatClampNeg 3) = (1 : Int32) then (ck (¬ (l2 < 0 ∨ (shZ G 4) ≤ l2.toNatClampNeg)) <|
    if (shG G l2.toNatClampNeg 4) = p1 then (some l2) else (X10_looker_J39 G p1 (fun z0 => X10_looker_L2 G p1 n z0) l2)) else (X10_looker_J39 G p1 (fun z0 => X10_looker_L2 G p1 n z0) l2))
def X10_looker (G : LG) (p1 : Int32) : Option (Int32) :=
  X10_looker_L2 G p1 FU (0 : Int32)
def X10_inState_J39 (G : LG) (p1 : Int32) (kL14 : Int32 → Int32 → Int32 → Option (Int32)) (l2 : Int32) (l4 : Int32) (l5 : Int32) : Option (Int32) :=
  nm (l5 + (1 : Int32)) fun (v1 : Int32) =>
  kL14 l2 l4 v1
def X10_inState_L14 (G : LG) (p1 : Int32)  : Nat → Int32 → Int32 → Int32 → Option (Int32)
  | 0, _, _, _ => none
  | n + 1, l2, l4, l5 =>
    if l4 ≤ l5 then (some l2) else (ck (¬ (l5 < 0 ∨ (shZ G 4) ≤ l5.toNatClampNeg)) <|
    if (shG G l5.toNatClampNeg 3) = p1 then (nm (l2 + (1 : Int32)) fun (v5 : Int32) =>
    X10_inState_J39 G p1 (fun z0 z1 z2 => X10_inState_L14 G p1 n z0 z1 z2) v5 l4 l5) else (X10_inState_J39 G p1 (fun z0 z1 z2 => X10_inState_L14 G p1 n z0 z1 z2) l2 l4 l5))
def X10_inState (G : LG) (p1 : Int32) : Option (Int32) :=
  nm (nI (shZ G 4)) fun (v6 : Int32) =>
  X10_inState_L14 G p1 FU (0 : Int32) v6 (0 : Int32)
def X10_paid_L13 (G : LG)  : Nat → Int32 → Int32 → Int32 → Option (Int32)
  | 0, _, _, _ => none
  | n + 1, l1, l3, l4 =>
    if l3 ≤ l4 then (some l1) else (ck (¬ (l4 < 0 ∨ (shZ G 4) ≤ l4.toNatClampNeg)) <|
    nm (l1 + (shG G l4.toNatClampNeg 6)) fun (v3 : Int32) =>
    nm (l4 + (1 : Int32)) fun (v4 : Int32) =>
    X10_paid_L13 G n v3 l3 v4)
def X10_paid (G : LG) : Option (Int32) :=
  nm (nI (shZ G 4)) fun (v5 : Int32) =>
  X10_paid_L13 G FU (0 : Int32) v5 (0 : Int32)
def X10_told_J24 (G : LG) (p1 : Int32) (kL4 : Int32 → Int32 → Option (Int32)) (l2 : Int32) (l3 : Int32) : Option (Int32) :=
  nm (l3 + (1 : Int32)) fun (v1 : Int32) =>
  kL4 l2 v1
def X10_told_L4 (G : LG) (p1 : Int32)  : Nat → Int32 → Int32 → Option (Int32)
  | 0, _, _ => none
  | n + 1, l2, l3 =>
    if (nI (shZ G 3)) ≤ l3 then (if p1 = 0 then (some (nI (shZ G 0))) else (if p1 = (1 : Int32) then (some (nI (shZ G 1))) else (if p1 = (2 : Int32) then (some (nI (shZ G 2))) else (if p1 = (3 : Int32) then (some (nI (shZ G 3))) else (if p1 = (4 : Int32) then (some (shI G 0)) else (if p1 = (5 : Int32) then (some (shI G 1)) else (if p1 = (6 : Int32) then (some (shI G 2)) else (if p1 = (7 : Int32) then (some (nI (shZ G 4))) else (if (12 : Int32) ≤ p1 then (if p1 = (12 : Int32) then (bn1 (X10_paid G) fun (r14 : Int32) =>
    some r14) else (some l2)) else (bn1 (X10_inState G (p1 - (8 : Int32))) fun (r16 : Int32) =>
    some r16)))))))))) else (bn1 (X10_looker G l3) fun (r18 : Int32) =>
    if 0 ≤ r18 then (X10_told_J24 G p1 (fun z0 z1 => X10_told_L4 G p1 n z0 z1) l2 l3) else (nm (l2 + (1 : Int32)) fun (v20 : Int32) =>
    X10_told_J24 G p1 (fun z0 z1 => X10_told_L4 G p1 n z0 z1) v20 l3))
def X10_told (G : LG) (p1 : Int32) : Option (Int32) :=
  X10_told_L4 G p1 FU (0 : Int32) (0 : Int32)
def X10_ofPlane_J79 (G : LG) (p1 : Int32) (p2 : Int32) (kL8 : Int32 → Int32 → Int32 → Option (Int32)) (kL20 : Int32 → Int32 → Int32 → Int32 → Option (Int32)) (kL49 : Int32 → Int32 → Int32 → Int32 → Int32 → Option (Int32)) (l3 : Int32) (l4 : Int32) (l5 : Int32) (l6 : Int32) (l7 : Int32) : Option (Int32) :=
  nm (l7 + (1 : Int32)) fun (v1 : Int32) =>
  kL49 l3 l4 l5 l6 v1
def X10_ofPlane_L49 (G : LG) (p1 : Int32) (p2 : Int32) (kL8 : Int32 → Int32 → Int32 → Option (Int32)) (kL20 : Int32 → Int32 → Int32 → Int32 → Option (Int32)) : Nat → Int32 → Int32 → Int32 → Int32 → Int32 → Option (Int32)
  | 0, _, _, _, _, _ => none
  | n + 1, l3, l4, l5, l6, l7 =>
    if (nI (shZ G 3)) ≤ l7 then (nm (l6 + (1 : Int32)) fun (v3 : Int32) =>
    kL20 l3 l4 l5 v3) else (bn1 (X10_sees G l7 l5 l6) fun (r5 : Int32) =>
    if (r5 / (100 : Int32)) = p1 then (nm (l4 + (1 : Int32)) fun (v7 : Int32) =>
    X10_ofPlane_J79 G p1 p2 kL8 kL20 (fun z0 z1 z2 z3 z4 => X10_ofPlane_L49 G p1 p2 kL8 kL20 n z0 z1 z2 z3 z4) l3 v7 l5 l6 l7) else (X10_ofPlane_J79 G p1 p2 kL8 kL20 (fun z0 z1 z2 z3 z4 => X10_ofPlane_L49 G p1 p2 kL8 kL20 n z0 z1 z2 z3 z4) l3 l4 l5 l6 l7))
def X10_ofPlane_J46 (G : LG) (p1 : Int32) (p2 : Int32) (kL8 : Int32 → Int32 → Int32 → Option (Int32)) (kL20 : Int32 → Int32 → Int32 → Int32 → Option (Int32)) (l3 : Int32) (l4 : Int32) (l5 : Int32) (l6 : Int32) : Option (Int32) :=
  X10_ofPlane_L49 G p1 p2 kL8 kL20 FU l3 l4 l5 l6 (0 : Int32)
def X10_ofPlane_L20 (G : LG) (p1 : Int32) (p2 : Int32) (kL8 : Int32 → Int32 → Int32 → Option (Int32)) : Nat → Int32 → Int32 → Int32 → Int32 → Option (Int32)
  | 0, _, _, _, _ => none
  | n + 1, l3, l4, l5, l6 =>
    if (nI (shZ G 1)) ≤ l6 then (nm (l5 + (1 : Int32)) fun (v9 : Int32) =>
    kL8 l3 l4 v9) else (bn1 (X10_stands G p1 l5 l6) fun (r11 : Int32) =>
    if r11 = (46 : Int32) then (X10_ofPlane_J46 G p1 p2 kL8 (fun z0 z1 z2 z3 => X10_ofPlane_L20 G p1 p2 kL8 n z0 z1 z2 z3) l3 l4 l5 l6) else (nm (l3 + (1 : Int32)) fun (v13 : Int32) =>
    X10_ofPlane_J46 G p1 p2 kL8 (fun z0 z1 z2 z3 => X10_ofPlane_L20 G p1 p2 kL8 n z0 z1 z2 z3) v13 l4 l5 l6))
def X10_ofPlane_L8 (G : LG) (p1 : Int32) (p2 : Int32)  : Nat → Int32 → Int32 → Int32 → Option (Int32)
  | 0, _, _, _ => none
  | n + 1, l3, l4, l5 =>
    if (nI (shZ G 0)) ≤ l5 then (if p2 = 0 then (ld (shP G) (shZ G 2) p1 fun (v18 : Int32) =>
    some v18) else (if p2 = (1 : Int32) then (some l3) else (some l4))) else (X10_ofPlane_L20 G p1 p2 (fun z0 z1 z2 => X10_ofPlane_L8 G p1 p2 n z0 z1 z2) FU l3 l4 l5 (0 : Int32))
def X10_ofPlane (G : LG) (p1 : Int32) (p2 : Int32) : Option (Int32) :=
  X10_ofPlane_L8 G p1 p2 FU (0 : Int32) (0 : Int32) (0 : Int32)
def X10_ofHole_J42 (G : LG) (p1 : Int32) (p2 : Int32)  (k1 : Int32) (k2 : Int32) : Option (Int32) :=
  bn1 (X10_shown G k1 k2) fun (r2 : Int32) =>
  some r2
def X10_ofHole (G : LG) (p1 : Int32) (p2 : Int32) : Option (Int32) :=
  if (2 : Int32) ≤ p2 then (if p2 = (2 : Int32) then (bn1 (X10_looker G p1) fun (r7 : Int32) =>
  some r7) else (if p2 = (3 : Int32) then (X10_ofHole_J42 G p1 p2 p1 (-1 : Int32)) else (X10_ofHole_J42 G p1 p2 p1 (-2 : Int32)))) else (ck (¬ (p1 < 0 ∨ (shZ G 3) ≤ p1.toNatClampNeg)) <|
  ld (shH G p1.toNatClampNeg) 2 p2 fun (v10 : Int32) =>
  some v10)
def X10_ofGuest (G : LG) (p1 : Int32) (p2 : Int32) : Option (Int32) :=
  ck (¬ (p1 < 0 ∨ (shZ G 4) ≤ p1.toNatClampNeg)) <|
  if p2 = 0 then (some (shG G p1.toNatClampNeg 0)) else (if p2 = (1 : Int32) then (some (shG G p1.toNatClampNeg 1)) else (if p2 = (2 : Int32) then (some (shG G p1.toNatClampNeg 2)) else (if p2 = (3 : Int32) then (some (shG G p1.toNatClampNeg 3)) else (if p2 = (4 : Int32) then (some (shG G p1.toNatClampNeg 4)) else (if p2 = (5 : Int32) then (some (shG G p1.toNatClampNeg 5)) else (some (shG G p1.toNatClampNeg 6)))))))
def X10_checksum_L137 (G : LG) (kL125 : Int64 → Int32 → Nat → Option (Int64)) : Nat → Int64 → Int32 → Int32 → Nat → Option (Int64)
  | 0, _, _, _, _ => none
  | n + 1, l1, l3, l4, nc =>
    if (7 : Int32) ≤ l4 then (nm (l3 + (1 : Int32)) fun (v2 : Int32) =>
    kL125 l1 v2 nc) else (bn1 (X10_ofGuest G l3 l4) fun (r4 : Int32) =>
    nm (((31 : Int64) * l1) + r4.toInt64) fun (v5 : Int64) =>
    nm (l4 + (1 : Int32)) fun (v6 : Int32) =>
    X10_checksum_L137 G kL125 n v5 l3 v6 nc)
def X10_checksum_L125 (G : LG)  : Nat → Int64 → Int32 → Nat → Option (Int64)
  | 0, _, _, _ => none
  | n + 1, l1, l3, nc =>
    if (nI (shZ G 4)) ≤ l3 then (some l1) else (X10_checksum_L137 G (fun z0 z1 z2 => X10_checksum_L125 G n z0 z1 z2) FU l1 l3 (0 : Int32) nc)
def X10_checksum_L90 (G : LG) (kL78 : Int64 → Int32 → Nat → Option (Int64)) : Nat → Int64 → Int32 → Int32 → Nat → Option (Int64)
  | 0, _, _, _, _ => none
  | n + 1, l1, l3, l4, nc =>
    if (5 : Int32) ≤ l4 then (nm (l3 + (1 : Int32)) fun (v9 : Int32) =>
    kL78 l1 v9 nc) else (bn1 (X10_ofHole G l3 l4) fun (r11 : Int32) =>
    ck (nc + 1 ≤ 20) <|
    nm (nc + 1) fun (nc13 : Nat) =>
    nm (((31 : Int64) * l1) + r11.toInt64) fun (v14 : Int64) =>
    nm (l4 + (1 : Int32)) fun (v15 : Int32) =>
    X10_checksum_L90 G kL78 n v14 l3 v15 nc13)
def X10_checksum_L78 (G : LG)  : Nat → Int64 → Int32 → Nat → Option (Int64)
  | 0, _, _, _ => none
  | n + 1, l1, l3, nc =>
    if (nI (shZ G 3)) ≤ l3 then (X10_checksum_L125 G FU l1 (0 : Int32) nc) else (X10_checksum_L90 G (fun z0 z1 z2 => X10_checksum_L78 G n z0 z1 z2) FU l1 l3 (0 : Int32) nc)
def X10_checksum_L43 (G : LG) (kL31 : Int64 → Int32 → Nat → Option (Int64)) : Nat → Int64 → Int32 → Int32 → Nat → Option (Int64)
  | 0, _, _, _, _ => none
  | n + 1, l1, l3, l4, nc =>
    if (3 : Int32) ≤ l4 then (nm (l3 + (1 : Int32)) fun (v18 : Int32) =>
    kL31 l1 v18 nc) else (bn1 (X10_ofPlane G l3 l4) fun (r20 : Int32) =>
    nm (((31 : Int64) * l1) + r20.toInt64) fun (v21 : Int64) =>
    nm (l4 + (1 : Int32)) fun (v22 : Int32) =>
    X10_checksum_L43 G kL31 n v21 l3 v22 nc)
def X10_checksum_L31 (G : LG)  : Nat → Int64 → Int32 → Nat → Option (Int64)
  | 0, _, _, _ => none
  | n + 1, l1, l3, nc =>
    if (nI (shZ G 2)) ≤ l3 then (X10_checksum_L78 G FU l1 (0 : Int32) nc) else (X10_checksum_L43 G (fun z0 z1 z2 => X10_checksum_L31 G n z0 z1 z2) FU l1 l3 (0 : Int32) nc)
def X10_checksum_L4 (G : LG)  : Nat → Int64 → Int32 → Nat → Option (Int64)
  | 0, _, _, _ => none
  | n + 1, l1, l3, nc =>
    if (14 : Int32) ≤ l3 then (X10_checksum_L31 G FU l1 (0 : Int32) nc) else (bn1 (X10_told G l3) fun (r26 : Int32) =>
    nm (((31 : Int64) * l1) + r26.toInt64) fun (v27 : Int64) =>
    nm (l3 + (1 : Int32)) fun (v28 : Int32) =>
    X10_checksum_L4 G n v27 v28 nc)
def X10_checksum (G : LG) : Option (Int64) :=
  X10_checksum_L4 G FU (0 : Int64) (0 : Int32) 0
def X10_price (G : LG) (va : Nat → Int64) (p1 : Int32) (p2 : Int32) : Option (Int32 × (Nat → Int64)) :=
  bn1 (X10_shown G p2 p1) fun (r2 : Int32) =>
  if shZ G 5 = 0 then (some ((r2 + (1 : Int32)), va)) else (st 4 (0 : Int32) (vp_updL va (0 : Int32).toNatClampNeg r2.toInt64) fun (b5 : Nat → Int64) =>
  bn1 (X10_shown G p2 (-1 : Int32)) fun (r7 : Int32) =>
  st 4 (1 : Int32) (vp_updL b5 (1 : Int32).toNatClampNeg r7.toInt64) fun (b9 : Nat → Int64) =>
  bn1 (X10_shown G p2 (-2 : Int32)) fun (r11 : Int32) =>
  st 4 (2 : Int32) (vp_updL b9 (2 : Int32).toNatClampNeg r11.toInt64) fun (b13 : Nat → Int64) =>
  st 4 (3 : Int32) (vp_updL b13 (3 : Int32).toNatClampNeg p2.toInt64) fun (b15 : Nat → Int64) =>
  bn1 (X8_value G b15 3 1) fun (r17 : Int64) =>
  nm (if r17 < (999 : Int64) then r17 else (999 : Int64)) fun (v18 : Int64) =>
  nm (if v18 < (0 : Int64) then (0 : Int64) else v18) fun (v19 : Int64) =>
  some (v19.toInt32, b15))
