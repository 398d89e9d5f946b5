/-! ticks, by program (lg.py) -/
def X10_ticks_J291 (G : LG) (kL124 : Int32 → Int32 → (Nat → Int64) → (Nat → Nat → Int32) → Nat → Option ((Nat → Int64) × (Nat → Nat → Int32))) (l2 : Int32) (l3 : Int32) (va : Nat → Int64) (gg : Nat → Nat → Int32) (nc : Nat) : Option ((Nat → Int64) × (Nat → Nat → Int32)) :=
  nm (l3 + (1 : Int32)) fun (v1 : Int32) =>
  kL124 l2 v1 va gg nc
def X10_ticks_J261 (G : LG) (kL124 : Int32 → Int32 → (Nat → Int64) → (Nat → Nat → Int32) → Nat → Option ((Nat → Int64) × (Nat → Nat → Int32))) (l2 : Int32) (l3 : Int32) (l6 : Int32) (va : Nat → Int64) (gg : Nat → Nat → Int32) (nc : Nat) : Option ((Nat → Int64) × (Nat → Nat → Int32)) :=
  if 0 ≤ l6 then (ck (¬ (l3 < 0 ∨ (shZ G 4) ≤ l3.toNatClampNeg)) <|
  nm (gset gg l3.toNatClampNeg 3 (1 : Int32)) fun (b4 : Nat → Nat → Int32) =>
  nm (gset b4 l3.toNatClampNeg 4 l6) fun (b5 : Nat → Nat → Int32) =>
  nm (shI G 1) fun (v6 : Int32) =>
  nm (gset b5 l3.toNatClampNeg 5 v6) fun (b7 : Nat → Nat → Int32) =>
  X10_ticks_J291 G kL124 l2 l3 va b7 nc) else (X10_ticks_J291 G kL124 l2 l3 va gg nc)
def X10_ticks_J244 (G : LG) (kL124 : Int32 → Int32 → (Nat → Int64) → (Nat → Nat → Int32) → Nat → Option ((Nat → Int64) × (Nat → Nat → Int32))) (kL160 : Int32 → Int32 → Int32 → Int32 → Int32 → (Nat → Int64) → (Nat → Nat → Int32) → Nat → Option ((Nat → Int64) × (Nat → Nat → Int32))) (l2 : Int32) (l3 : Int32) (l5 : Int32) (l6 : Int32) (l7 : Int32) (va : Nat → Int64) (gg : Nat → Nat → Int32) (nc : Nat) : Option ((Nat → Int64) × (Nat → Nat → Int32)) :=
  nm (l7 + (-1 : Int32)) fun (v8 : Int32) =>
  kL160 l2 l3 l5 l6 v8 va gg nc
def X10_ticks_J240 (G : LG) (kL124 : Int32 → Int32 → (Nat → Int64) → (Nat → Nat → Int32) → Nat → Option ((Nat → Int64) × (Nat → Nat → Int32))) (kL160 : Int32 → Int32 → Int32 → Int32 → Int32 → (Nat → Int64) → (Nat → Nat → Int32) → Nat → Option ((Nat → Int64) × (Nat → Nat → Int32))) (l2 : Int32) (l3 : Int32) (l5 : Int32) (l7 : Int32) (va : Nat → Int64) (gg : Nat → Nat → Int32) (nc : Nat) : Option ((Nat → Int64) × (Nat → Nat → Int32)) :=
  X10_ticks_J244 G kL124 kL160 l2 l3 l5 l7 l7 va gg nc
def X10_ticks_L160 (G : LG) (kL124 : Int32 → Int32 → (Nat → Int64) → (Nat → Nat → Int32) → Nat → Option ((Nat → Int64) × (Nat → Nat → Int32))) : Nat → Int32 → Int32 → Int32 → Int32 → Int32 → (Nat → Int64) → (Nat → Nat → Int32) → Nat → Option ((Nat → Int64) × (Nat → Nat → Int32))
  | 0, _, _, _, _, _, _, _, _ => none
  | n + 1, l2, l3, l5, l6, l7, va, gg, nc =>
    if l7 < 0 then (if l5 = 0 then (ck (¬ (l3 < 0 ∨ (shZ G 4) ≤ l3.toNatClampNeg)) <|
    nm (gset gg l3.toNatClampNeg 3 (3 : Int32)) fun (b12 : Nat → Nat → Int32) =>
    X10_ticks_J261 G kL124 l2 l3 l6 va b12 nc) else (X10_ticks_J261 G kL124 l2 l3 l6 va gg nc)) else (bn1 (X10_canUse (shUpG G gg) (gg l3.toNatClampNeg) l7) fun (r14 : Int32) =>
    ck (¬ (l3 < 0 ∨ (shZ G 4) ≤ l3.toNatClampNeg)) <|
    if r14 = 0 then (X10_ticks_J244 G kL124 (fun z0 z1 z2 z3 z4 z5 z6 z7 => X10_ticks_L160 G kL124 n z0 z1 z2 z3 z4 z5 z6 z7) l2 l3 l5 l6 l7 va gg nc) else (bn2 (X10_price (shUpG G gg) va (gg l3.toNatClampNeg 1) l7) fun (r18 : Int32) (o19 : Nat → Int64) =>
    ck (nc + 3 ≤ 600) <|
    nm (nc + 3) fun (nc21 : Nat) =>
    if r18 ≤ (gg l3.toNatClampNeg 2) then (nm (l5 + (1 : Int32)) fun (v23 : Int32) =>
    bn1 (X10_looker (shUpG G gg) l7) fun (r25 : Int32) =>
    if 0 ≤ r25 then (X10_ticks_J244 G kL124 (fun z0 z1 z2 z3 z4 z5 z6 z7 => X10_ticks_L160 G kL124 n z0 z1 z2 z3 z4 z5 z6 z7) l2 l3 v23 l6 l7 o19 gg nc21) else (if l6 < 0 then (X10_ticks_J240 G kL124 (fun z0 z1 z2 z3 z4 z5 z6 z7 => X10_ticks_L160 G kL124 n z0 z1 z2 z3 z4 z5 z6 z7) l2 l3 v23 l7 o19 gg nc21) else (bn1 (X10_shown (shUpG G gg) l7 (gg l3.toNatClampNeg 1)) fun (r29 : Int32) =>
    ck (nc21 + 1 ≤ 600) <|
    nm (nc21 + 1) fun (nc31 : Nat) =>
    bn1 (X10_shown (shUpG G gg) l6 (gg l3.toNatClampNeg 1)) fun (r33 : Int32) =>
    ck (nc31 + 1 ≤ 600) <|
    nm (nc31 + 1) fun (nc35 : Nat) =>
    if r29 < r33 then (X10_ticks_J244 G kL124 (fun z0 z1 z2 z3 z4 z5 z6 z7 => X10_ticks_L160 G kL124 n z0 z1 z2 z3 z4 z5 z6 z7) l2 l3 v23 l6 l7 o19 gg nc35) else (X10_ticks_J240 G kL124 (fun z0 z1 z2 z3 z4 z5 z6 z7 => X10_ticks_L160 G kL124 n z0 z1 z2 z3 z4 z5 z6 z7) l2 l3 v23 l7 o19 gg nc35)))) else (X10_ticks_J244 G kL124 (fun z0 z1 z2 z3 z4 z5 z6 z7 => X10_ticks_L160 G kL124 n z0 z1 z2 z3 z4 z5 z6 z7) l2 l3 l5 l6 l7 o19 gg nc21)))
def X10_ticks_L124 (G : LG)  : Nat → Int32 → Int32 → (Nat → Int64) → (Nat → Nat → Int32) → Nat → Option ((Nat → Int64) × (Nat → Nat → Int32))
  | 0, _, _, _, _, _ => none
  | n + 1, l2, l3, va, gg, nc =>
    if l2 ≤ l3 then (nm ((shI G 2) + (1 : Int32)) fun (v38 : Int32) =>
    some (va, gg)) else (ck (¬ (l3 < 0 ∨ (shZ G 4) ≤ l3.toNatClampNeg)) <|
    if (gg l3.toNatClampNeg 3) = 0 then (nm ((nI (shZ G 3)) - (1 : Int32)) fun (v41 : Int32) =>
    X10_ticks_L160 G (fun z0 z1 z2 z3 z4 => X10_ticks_L124 G n z0 z1 z2 z3 z4) FU l2 l3 (0 : Int32) (-1 : Int32) v41 va gg nc) else (X10_ticks_J291 G (fun z0 z1 z2 z3 z4 => X10_ticks_L124 G n z0 z1 z2 z3 z4) l2 l3 va gg nc))
def X10_ticks_J108 (G : LG) (kL10 : Int32 → Int32 → (Nat → Int64) → (Nat → Nat → Int32) → Nat → Option ((Nat → Int64) × (Nat → Nat → Int32))) (l2 : Int32) (l3 : Int32) (va : Nat → Int64) (gg : Nat → Nat → Int32) (nc : Nat) : Option ((Nat → Int64) × (Nat → Nat → Int32)) :=
  nm (l3 + (1 : Int32)) fun (v42 : Int32) =>
  kL10 l2 v42 va gg nc
def X10_ticks_L10 (G : LG)  : Nat → Int32 → Int32 → (Nat → Int64) → (Nat → Nat → Int32) → Nat → Option ((Nat → Int64) × (Nat → Nat → Int32))
  | 0, _, _, _, _, _ => none
  | n + 1, l2, l3, va, gg, nc =>
    if l2 ≤ l3 then (nm (nI (shZ G 4)) fun (v44 : Int32) =>
    X10_ticks_L124 G FU v44 (0 : Int32) va gg nc) else (ck (¬ (l3 < 0 ∨ (shZ G 4) ≤ l3.toNatClampNeg)) <|
    if (gg l3.toNatClampNeg 3) = (1 : Int32) then (nm ((gg l3.toNatClampNeg 5) - (1 : Int32)) fun (v47 : Int32) =>
    nm (gset gg l3.toNatClampNeg 5 v47) fun (b48 : Nat → Nat → Int32) =>
    if (b48 l3.toNatClampNeg 5) ≤ 0 then (bn2 (X10_price (shUpG G b48) va (b48 l3.toNatClampNeg 1) (b48 l3.toNatClampNeg 4)) fun (r51 : Int32) (o52 : Nat → Int64) =>
    ck (nc + 3 ≤ 600) <|
    nm (nc + 3) fun (nc54 : Nat) =>
    nm (if r51 < (b48 l3.toNatClampNeg 2) then r51 else (b48 l3.toNatClampNeg 2)) fun (v55 : Int32) =>
    nm (gset b48 l3.toNatClampNeg 6 v55) fun (b56 : Nat → Nat → Int32) =>
    nm ((b56 l3.toNatClampNeg 2) - (b56 l3.toNatClampNeg 6)) fun (v57 : Int32) =>
    nm (gset b56 l3.toNatClampNeg 2 v57) fun (b58 : Nat → Nat → Int32) =>
    nm (gset b58 l3.toNatClampNeg 3 (2 : Int32)) fun (b59 : Nat → Nat → Int32) =>
    nm (gset b59 l3.toNatClampNeg 4 (-1 : Int32)) fun (b60 : Nat → Nat → Int32) =>
    X10_ticks_J108 G (fun z0 z1 z2 z3 z4 => X10_ticks_L10 G n z0 z1 z2 z3 z4) l2 l3 o52 b60 nc54) else (X10_ticks_J108 G (fun z0 z1 z2 z3 z4 => X10_ticks_L10 G n z0 z1 z2 z3 z4) l2 l3 va b48 nc)) else (X10_ticks_J108 G (fun z0 z1 z2 z3 z4 => X10_ticks_L10 G n z0 z1 z2 z3 z4) l2 l3 va gg nc))
def X10_ticks (G : LG) (va : Nat → Int64) : Option ((Nat → Int64) × (Nat → Nat → Int32)) :=
  nm (nI (shZ G 4)) fun (v61 : Int32) =>
  X10_ticks_L10 G FU v61 (0 : Int32) va (shG G) 0
theorem kd_X10_ticks : yX10_ticks.cls = RX10 ∧ yX10_ticks.cls ≠ "java/lang/invoke/MethodHandle" ∧ yX10_ticks.cls ≠ "java/lang/invoke/VarHandle" ∧ (parseMethodDescriptor yX10_ticks.desc).map (fun d => d.parameters.length) = some 0 := by decide +kernel
set_option maxHeartbeats 4000000 in
set_option maxRecDepth 100000 in
theorem c_X10_ticks {l : Launch} {D : va_G} {cy : Nat → ClassId} (G : LG) (a qV sz : Nat) (qP qU qH qG : Nat) (vT : Value) (rP rH rG : Nat → Nat) (rL : Nat → Nat → Nat) (rN : Nat → Nat) (va : Nat → Int64) (res : (Nat → Int64) × (Nat → Nat → Int32)) (hF : X10_ticks G va = some res) : Met l yX10_ticks wsX10_ticks ({ frames := 8, cells := 600, slots := 15600, locals := 290 } : Room) (kP (ER D cy G qP qU qH qG vT rP rH rG rL rN) D [.ref a] ([(a, showE G qP qU qH qG vT qV), (qV, .inl (cy 2, 4, .inr (.inl va)))] ++ rl (shZ G 4) rG (fun i => guestE ((shG G) i))) sz) (kQv D ([(a, showT G (shI G 2 + (1 : Int32)) qP qU qH qG vT qV), (qV, .inl (cy 2, 4, .inr (.inl res.1)))] ++ rl (shZ G 4) rG (fun i => guestE (res.2 i))) (va_A ([(a, showE G qP qU qH qG vT qV), (qV, .inl (cy 2, 4, .inr (.inl va)))] ++ rl (shZ G 4) rG (fun i => guestE ((shG G) i))) sz)) 600 15600 (va_A ([(a, showE G qP qU qH qG vT qV), (qV, .inl (cy 2, 4, .inr (.inl va)))] ++ rl (shZ G 4) rG (fun i => guestE ((shG G) i))) sz) := by
  refine kMet (y := yX10_ticks) (av := [.ref a]) (cc := cX10_ticks) (maxL := 8) (ret := none) (own := RX10) (Qc := fun A9 => (kQv D ([(a, showT G (shI G 2 + (1 : Int32)) qP qU qH qG vT qV), (qV, .inl (cy 2, 4, .inr (.inl res.1)))] ++ rl (shZ G 4) rG (fun i => guestE (res.2 i))) A9)) (by decide) rfl rfl (Nat.le_of_ble_eq_true rfl) ?_
  intro p e s m args below meth c A hx hb hr hts hown hml hlocks hname hEG hP hD hA hsz ls hl
  have hN := hEG.1
  have hR := hEG.2
  obtain ⟨g1, g2, g3, g4, g5, g6, g7, g9, g10⟩ := hEG.2
  have hK := hN.1
  have hl : lv_has ls 8 [(0, .ref a)] := hl
  have hS : va_S A s.heap s.heap [] := va_S.rf
  have f_f126 := hts (.fieldLink RX10 126 "PeepBoxLaw$Guest" "state" "I") (by decide +kernel)
  have f_inX7 : ∀ w ∈ wsX70, w ∈ wsX10_ticks := by decide +kernel
  have f_f129 := hts (.fieldLink RX10 129 "PeepBoxLaw$Guest" "hole" "I") (by decide +kernel)
  have f_f19 := hts (.fieldLink RX10 19 "PeepBoxLaw$Show" "length" "I") (by decide +kernel)
  have f_inX10 : ∀ w ∈ wsX100, w ∈ wsX10_ticks := by decide +kernel
  have f_f132 := hts (.fieldLink RX10 132 "PeepBoxLaw$Guest" "left" "I") (by decide +kernel)
  have f_f138 := hts (.fieldLink RX10 138 "PeepBoxLaw$Guest" "wish" "I") (by decide +kernel)
  have f_f135 := hts (.fieldLink RX10 135 "PeepBoxLaw$Guest" "coins" "I") (by decide +kernel)
  have f_f48 := hts (.fieldLink RX10 48 "PeepBoxLaw$Show" "time" "I") (by decide +kernel)
  have f_f33 := hts (.fieldLink RX10 33 "PeepBoxLaw$Show" "holes" "[[I") (by decide +kernel)
  have f_f39 := hts (.fieldLink RX10 39 "PeepBoxLaw$Show" "guests" "[LPeepBoxLaw$Guest;") (by decide +kernel)
  have f_m144 := hts (.methodLink RX10 144 Lib.Math.min.name) (by decide +kernel)
  have f_s_va_mmin := hts (.static Lib.Math.min.name) (by decide +kernel)
  have f_iMath := hts (.initialized "java/lang/Math") (by decide +kernel)
  have f_k_va_mmin := hts (.code Lib.Math.min.name Lib.Math.min.code 2 (some .int)) (by decide +kernel)
  have f_f146 := hts (.fieldLink RX10 146 "PeepBoxLaw$Guest" "paid" "I") (by decide +kernel)
  obtain ⟨QQ, hQQ⟩ : ∃ Q9, Q9 = MQ below (kQv D ([(a, showT G (shI G 2 + (1 : Int32)) qP qU qH qG vT qV), (qV, .inl (cy 2, 4, .inr (.inl res.1)))] ++ rl (shZ G 4) rG (fun i => guestE (res.2 i))) A) args s 600 15600 A := ⟨_, rfl⟩
  rw [← hQQ]
  have J124 : ∀ (n124 : Nat) (l2 : Int32) (l3 : Int32) (va : Nat → Int64) (gg : Nat → Nat → Int32) (nc : Nat) (hnc : nc ≤ 600) (H : Heap) (locs : List Loc) (ls : Array Slot), va_P D vwCl ([(a, showE G qP qU qH qG vT qV), (qV, .inl (cy 2, 4, .inr (.inl va)))] ++ rl (shZ G 4) rG (fun i => guestE (gg i))) H → va_D A ([(a, showE G qP qU qH qG vT qV), (qV, .inl (cy 2, 4, .inr (.inl va)))] ++ rl (shZ G 4) rG (fun i => guestE (gg i))) → va_S A s.heap H locs → lv_has ls 8 [(0, .ref a), (1, .ref qG), (2, .int l2), (3, .int l3)] → X10_ticks_L124 G n124 l2 l3 va gg nc = some res → W p l e ({ frames := 8, cells := 600, slots := 15600, locals := 290 } : Room) s m args below meth c H locs nc (26 * nc) QQ (F0 m 124 ls []) := by
    intro n124
    induction n124 with
    | zero =>
      intro l2 l3 va gg nc hnc H locs ls hP hD hS hl hF
      rw [X10_ticks_L124] at hF
      cases hF
    | succ n124 ih124 =>
      have J291 : ∀ (l2 : Int32) (l3 : Int32) (va : Nat → Int64) (gg : Nat → Nat → Int32) (nc : Nat) (hnc : nc ≤ 600) (H : Heap) (locs : List Loc) (ls : Array Slot), va_P D vwCl ([(a, showE G qP qU qH qG vT qV), (qV, .inl (cy 2, 4, .inr (.inl va)))] ++ rl (shZ G 4) rG (fun i => guestE (gg i))) H → va_D A ([(a, showE G qP qU qH qG vT qV), (qV, .inl (cy 2, 4, .inr (.inl va)))] ++ rl (shZ G 4) rG (fun i => guestE (gg i))) → va_S A s.heap H locs → lv_has ls 8 [(0, .ref a), (1, .ref qG), (2, .int l2), (3, .int l3)] → X10_ticks_J291 G (fun z0 z1 z2 z3 z4 => X10_ticks_L124 G n124 z0 z1 z2 z3 z4) l2 l3 va gg nc = some res → W p l e ({ frames := 8, cells := 600, slots := 15600, locals := 290 } : Room) s m args below meth c H locs nc (26 * nc) QQ (F0 m 291 ls []) := by
        intro l2 l3 va gg nc hnc H locs ls hP hD hS hl hF
        unfold X10_ticks_J291 at hF
        obtain ⟨v1, ev1⟩ : ∃ y : Int32, y = l3 + (1 : Int32) := ⟨_, rfl⟩
        have hF := nm_o hF v1 ev1
        refine lv_iinc (v := v1) (lv' := [(3, .int v1), (0, .ref a), (1, .ref qG), (2, .int l2)]) hx hb dX10_ticks_291 hl (k := 3) rfl (by rw [ev1]; rfl) (by decide) rfl (fun ls hl => ?_)
        refine lv_goto (tgt := 124) hx hb dX10_ticks_294 (by decide) ?_
        exact ih124 l2 v1 va gg nc hnc H locs ls hP hD hS (lv_sub hl [1, 2, 3, 0] rfl) hF
      have J261 : ∀ (l2 : Int32) (l3 : Int32) (l6 : Int32) (va : Nat → Int64) (gg : Nat → Nat → Int32) (nc : Nat) (hnc : nc ≤ 600) (H : Heap) (locs : List Loc) (ls : Array Slot), va_P D vwCl ([(a, showE G qP qU qH qG vT qV), (qV, .inl (cy 2, 4, .inr (.inl va)))] ++ rl (shZ G 4) rG (fun i => guestE (gg i))) H → va_D A ([(a, showE G qP qU qH qG vT qV), (qV, .inl (cy 2, 4, .inr (.inl va)))] ++ rl (shZ G 4) rG (fun i => guestE (gg i))) → va_S A s.heap H locs → lv_has ls 8 [(0, .ref a), (1, .ref qG), (2, .int l2), (3, .int l3), (4, .ref (rG l3.toNatClampNeg)), (6, .int l6)] → X10_ticks_J261 G (fun z0 z1 z2 z3 z4 => X10_ticks_L124 G n124 z0 z1 z2 z3 z4) l2 l3 l6 va gg nc = some res → W p l e ({ frames := 8, cells := 600, slots := 15600, locals := 290 } : Room) s m args below meth c H locs nc (26 * nc) QQ (F0 m 261 ls []) := by
        intro l2 l3 l6 va gg nc hnc H locs ls hP hD hS hl hF
        unfold X10_ticks_J261 at hF
        refine lv_iload hx hb dX10_ticks_261 (lv_at hl 5 rfl) ?_
        refine lv_if_ge (tgt := 269) hx hb dX10_ticks_263 (by decide) (fun h2 => ?_) (fun h2 => ?_)
        · have hF := if_p hF h2
          refine lv_aload hx hb dX10_ticks_269 (lv_at hl 4 rfl) ?_
          refine lv_iconst (v := 1) hx hb dX10_ticks_271 (by decide) ?_
          obtain ⟨h3, hF⟩ := ck_o hF
          refine va_put (D := D) (ci := 7) (v := .int (1 : Int32)) (ty := .int) (C := RX7) (T := TX7) (N := 7) hx hb hts f_inX7 tyX7 tyX7_ok nmX7 hown hK hP hD hS (2 + l3.toNatClampNeg) (rl_get (kg_lt h3)) rfl 3 (by decide) f_f126 (fun _ h9 => h9) (by decide +kernel) rfl rfl rfl (Nat.le_of_ble_eq_true rfl) dX10_ticks_272 (fun H locs hP hD hS => ?_)
          obtain ⟨b4, eb4⟩ : ∃ y : Nat → Nat → Int32, y = gset gg l3.toNatClampNeg 3 (1 : Int32) := ⟨_, rfl⟩
          have hF := nm_o hF b4 eb4
          have e9 := rl_gset (X := ([(a, showE G qP qU qH qG vT qV), (qV, .inl (cy 2, 4, .inr (.inl va)))] : va_W)) (n := shZ G 4) (r := rG) (gg := gg) (j := 3) (v := (1 : Int32)) (kg_lt h3) (by decide)
          have hP : va_P D vwCl (([(a, showE G qP qU qH qG vT qV), (qV, .inl (cy 2, 4, .inr (.inl va)))] ++ rl (shZ G 4) rG (fun i => guestE (b4 i)))) H := by rw [eb4, ← e9]; exact hP
          have hD : va_D A (([(a, showE G qP qU qH qG vT qV), (qV, .inl (cy 2, 4, .inr (.inl va)))] ++ rl (shZ G 4) rG (fun i => guestE (b4 i)))) := by rw [eb4, ← e9]; exact hD
          refine lv_aload hx hb dX10_ticks_275 (lv_at hl 4 rfl) ?_
          refine lv_iload hx hb dX10_ticks_277 (lv_at hl 5 rfl) ?_
          refine va_put (D := D) (ci := 7) (v := .int l6) (ty := .int) (C := RX7) (T := TX7) (N := 7) hx hb hts f_inX7 tyX7 tyX7_ok nmX7 hown hK hP hD hS (2 + l3.toNatClampNeg) (rl_get (kg_lt h3)) rfl 4 (by decide) f_f129 (fun _ h9 => h9) (by decide +kernel) rfl rfl rfl (Nat.le_of_ble_eq_true rfl) dX10_ticks_279 (fun H locs hP hD hS => ?_)
          obtain ⟨b5, eb5⟩ : ∃ y : Nat → Nat → Int32, y = gset b4 l3.toNatClampNeg 4 l6 := ⟨_, rfl⟩
          have hF := nm_o hF b5 eb5
          have e9 := rl_gset (X := ([(a, showE G qP qU qH qG vT qV), (qV, .inl (cy 2, 4, .inr (.inl va)))] : va_W)) (n := shZ G 4) (r := rG) (gg := b4) (j := 4) (v := l6) (kg_lt h3) (by decide)
          have hP : va_P D vwCl (([(a, showE G qP qU qH qG vT qV), (qV, .inl (cy 2, 4, .inr (.inl va)))] ++ rl (shZ G 4) rG (fun i => guestE (b5 i)))) H := by rw [eb5, ← e9]; exact hP
          have hD : va_D A (([(a, showE G qP qU qH qG vT qV), (qV, .inl (cy 2, 4, .inr (.inl va)))] ++ rl (shZ G 4) rG (fun i => guestE (b5 i)))) := by rw [eb5, ← e9]; exact hD
          refine lv_aload hx hb dX10_ticks_282 (lv_at hl 4 rfl) ?_
          refine lv_aload_n hx hb dX10_ticks_284 rfl (lv_at hl 0 rfl) ?_
          refine va_get (D := D) (ci := 10) (v := .int (shI G 1)) (C := RX10) (T := TX10) (N := 11) hx hb hts f_inX10 hown hK hP 0 rfl rfl 3 (by decide) f_f19 (fun _ h9 => h9) rfl dX10_ticks_285 ?_
          refine lv_topi (fun v6 ev6 => ?_)
          have hF := nm_o hF v6 ev6
          refine va_put (D := D) (ci := 7) (v := .int v6) (ty := .int) (C := RX7) (T := TX7) (N := 7) hx hb hts f_inX7 tyX7 tyX7_ok nmX7 hown hK hP hD hS (2 + l3.toNatClampNeg) (rl_get (kg_lt h3)) rfl 5 (by decide) f_f132 (fun _ h9 => h9) (by decide +kernel) rfl rfl rfl (Nat.le_of_ble_eq_true rfl) dX10_ticks_288 (fun H locs hP hD hS => ?_)
          obtain ⟨b7, eb7⟩ : ∃ y : Nat → Nat → Int32, y = gset b5 l3.toNatClampNeg 5 v6 := ⟨_, rfl⟩
          have hF := nm_o hF b7 eb7
          have e9 := rl_gset (X := ([(a, showE G qP qU qH qG vT qV), (qV, .inl (cy 2, 4, .inr (.inl va)))] : va_W)) (n := shZ G 4) (r := rG) (gg := b5) (j := 5) (v := v6) (kg_lt h3) (by decide)
          have hP : va_P D vwCl (([(a, showE G qP qU qH qG vT qV), (qV, .inl (cy 2, 4, .inr (.inl va)))] ++ rl (shZ G 4) rG (fun i => guestE (b7 i)))) H := by rw [eb7, ← e9]; exact hP
          have hD : va_D A (([(a, showE G qP qU qH qG vT qV), (qV, .inl (cy 2, 4, .inr (.inl va)))] ++ rl (shZ G 4) rG (fun i => guestE (b7 i)))) := by rw [eb7, ← e9]; exact hD
          exact J291 l2 l3 va b7 nc hnc H locs ls hP hD hS (lv_sub hl [0, 1, 2, 3] rfl) hF
        · have hF := if_n hF h2
          refine lv_goto (tgt := 291) hx hb dX10_ticks_266 (by decide) ?_
          exact J291 l2 l3 va gg nc hnc H locs ls hP hD hS (lv_sub hl [0, 1, 2, 3] rfl) hF
      have J160 : ∀ (n160 : Nat) (l2 : Int32) (l3 : Int32) (l5 : Int32) (l6 : Int32) (l7 : Int32) (va : Nat → Int64) (gg : Nat → Nat → Int32) (nc : Nat) (hnc : nc ≤ 600) (H : Heap) (locs : List Loc) (ls : Array Slot), va_P D vwCl ([(a, showE G qP qU qH qG vT qV), (qV, .inl (cy 2, 4, .inr (.inl va)))] ++ rl (shZ G 4) rG (fun i => guestE (gg i))) H → va_D A ([(a, showE G qP qU qH qG vT qV), (qV, .inl (cy 2, 4, .inr (.inl va)))] ++ rl (shZ G 4) rG (fun i => guestE (gg i))) → va_S A s.heap H locs → lv_has ls 8 [(0, .ref a), (1, .ref qG), (2, .int l2), (3, .int l3), (4, .ref (rG l3.toNatClampNeg)), (5, .int l5), (6, .int l6), (7, .int l7)] → X10_ticks_L160 G (fun z0 z1 z2 z3 z4 => X10_ticks_L124 G n124 z0 z1 z2 z3 z4) n160 l2 l3 l5 l6 l7 va gg nc = some res → W p l e ({ frames := 8, cells := 600, slots := 15600, locals := 290 } : Room) s m args below meth c H locs nc (26 * nc) QQ (F0 m 160 ls []) := by
        intro n160
        induction n160 with
        | zero =>
          intro l2 l3 l5 l6 l7 va gg nc hnc H locs ls hP hD hS hl hF
          rw [X10_ticks_L160] at hF
          cases hF
        | succ n160 ih160 =>
          have J244 : ∀ (l2 : Int32) (l3 : Int32) (l5 : Int32) (l6 : Int32) (l7 : Int32) (va : Nat → Int64) (gg : Nat → Nat → Int32) (nc : Nat) (hnc : nc ≤ 600) (H : Heap) (locs : List Loc) (ls : Array Slot), va_P D vwCl ([(a, showE G qP qU qH qG vT qV), (qV, .inl (cy 2, 4, .inr (.inl va)))] ++ rl (shZ G 4) rG (fun i => guestE (gg i))) H → va_D A ([(a, showE G qP qU qH qG vT qV), (qV, .inl (cy 2, 4, .inr (.inl va)))] ++ rl (shZ G 4) rG (fun i => guestE (gg i))) → va_S A s.heap H locs → lv_has ls 8 [(0, .ref a), (1, .ref qG), (2, .int l2), (3, .int l3), (4, .ref (rG l3.toNatClampNeg)), (5, .int l5), (6, .int l6), (7, .int l7)] → X10_ticks_J244 G (fun z0 z1 z2 z3 z4 => X10_ticks_L124 G n124 z0 z1 z2 z3 z4) (fun z0 z1 z2 z3 z4 z5 z6 z7 => X10_ticks_L160 G (fun z0 z1 z2 z3 z4 => X10_ticks_L124 G n124 z0 z1 z2 z3 z4) n160 z0 z1 z2 z3 z4 z5 z6 z7) l2 l3 l5 l6 l7 va gg nc = some res → W p l e ({ frames := 8, cells := 600, slots := 15600, locals := 290 } : Room) s m args below meth c H locs nc (26 * nc) QQ (F0 m 244 ls []) := by
            intro l2 l3 l5 l6 l7 va gg nc hnc H locs ls hP hD hS hl hF
            unfold X10_ticks_J244 at hF
            obtain ⟨v8, ev8⟩ : ∃ y : Int32, y = l7 + (-1 : Int32) := ⟨_, rfl⟩
            have hF := nm_o hF v8 ev8
            refine lv_iinc (v := v8) (lv' := [(7, .int v8), (0, .ref a), (1, .ref qG), (2, .int l2), (3, .int l3), (4, .ref (rG l3.toNatClampNeg)), (5, .int l5), (6, .int l6)]) hx hb dX10_ticks_244 hl (k := 7) rfl (by rw [ev8]; rfl) (by decide) rfl (fun ls hl => ?_)
            refine lv_goto (tgt := 160) hx hb dX10_ticks_247 (by decide) ?_
            exact ih160 l2 l3 l5 l6 v8 va gg nc hnc H locs ls hP hD hS (lv_sub hl [1, 2, 3, 4, 5, 6, 7, 0] rfl) hF
          have J240 : ∀ (l2 : Int32) (l3 : Int32) (l5 : Int32) (l7 : Int32) (va : Nat → Int64) (gg : Nat → Nat → Int32) (nc : Nat) (hnc : nc ≤ 600) (H : Heap) (locs : List Loc) (ls : Array Slot), va_P D vwCl ([(a, showE G qP qU qH qG vT qV), (qV, .inl (cy 2, 4, .inr (.inl va)))] ++ rl (shZ G 4) rG (fun i => guestE (gg i))) H → va_D A ([(a, showE G qP qU qH qG vT qV), (qV, .inl (cy 2, 4, .inr (.inl va)))] ++ rl (shZ G 4) rG (fun i => guestE (gg i))) → va_S A s.heap H locs → lv_has ls 8 [(0, .ref a), (1, .ref qG), (2, .int l2), (3, .int l3), (4, .ref (rG l3.toNatClampNeg)), (5, .int l5), (7, .int l7)] → X10_ticks_J240 G (fun z0 z1 z2 z3 z4 => X10_ticks_L124 G n124 z0 z1 z2 z3 z4) (fun z0 z1 z2 z3 z4 z5 z6 z7 => X10_ticks_L160 G (fun z0 z1 z2 z3 z4 => X10_ticks_L124 G n124 z0 z1 z2 z3 z4) n160 z0 z1 z2 z3 z4 z5 z6 z7) l2 l3 l5 l7 va gg nc = some res → W p l e ({ frames := 8, cells := 600, slots := 15600, locals := 290 } : Room) s m args below meth c H locs nc (26 * nc) QQ (F0 m 240 ls []) := by
            intro l2 l3 l5 l7 va gg nc hnc H locs ls hP hD hS hl hF
            unfold X10_ticks_J240 at hF
            refine lv_iload hx hb dX10_ticks_240 (lv_at hl 6 rfl) ?_
            refine lv_istore (lv' := [(6, .int l7), (0, .ref a), (1, .ref qG), (2, .int l2), (3, .int l3), (4, .ref (rG l3.toNatClampNeg)), (5, .int l5), (7, .int l7)]) hx hb dX10_ticks_242 hl (by decide) rfl (fun ls hl => ?_)
            exact J244 l2 l3 l5 l7 l7 va gg nc hnc H locs ls hP hD hS (lv_sub hl [1, 2, 3, 4, 5, 6, 0, 7] rfl) hF
          intro l2 l3 l5 l6 l7 va gg nc hnc H locs ls hP hD hS hl hF
          rw [X10_ticks_L160] at hF
          refine lv_iload hx hb dX10_ticks_160 (lv_at hl 7 rfl) ?_
          refine lv_if_lt (tgt := 250) hx hb dX10_ticks_162 (by decide) (fun h9 => ?_) (fun h9 => ?_)
          · have hF := if_p hF h9
            refine lv_iload hx hb dX10_ticks_250 (lv_at hl 5 rfl) ?_
            refine lv_if_ne (tgt := 261) hx hb dX10_ticks_252 (by decide) (fun h10 => ?_) (fun h10 => ?_)
            · have hF := if_n hF h10
              exact J261 l2 l3 l6 va gg nc hnc H locs ls hP hD hS (lv_sub hl [0, 1, 2, 3, 4, 6] rfl) hF
            · have hF := if_p hF h10
              refine lv_aload hx hb dX10_ticks_255 (lv_at hl 4 rfl) ?_
              refine lv_iconst (v := 3) hx hb dX10_ticks_257 (by decide) ?_
              obtain ⟨h11, hF⟩ := ck_o hF
              refine va_put (D := D) (ci := 7) (v := .int (3 : Int32)) (ty := .int) (C := RX7) (T := TX7) (N := 7) hx hb hts f_inX7 tyX7 tyX7_ok nmX7 hown hK hP hD hS (2 + l3.toNatClampNeg) (rl_get (kg_lt h11)) rfl 3 (by decide) f_f126 (fun _ h9 => h9) (by decide +kernel) rfl rfl rfl (Nat.le_of_ble_eq_true rfl) dX10_ticks_258 (fun H locs hP hD hS => ?_)
              obtain ⟨b12, eb12⟩ : ∃ y : Nat → Nat → Int32, y = gset gg l3.toNatClampNeg 3 (3 : Int32) := ⟨_, rfl⟩
              have hF := nm_o hF b12 eb12
              have e9 := rl_gset (X := ([(a, showE G qP qU qH qG vT qV), (qV, .inl (cy 2, 4, .inr (.inl va)))] : va_W)) (n := shZ G 4) (r := rG) (gg := gg) (j := 3) (v := (3 : Int32)) (kg_lt h11) (by decide)
              have hP : va_P D vwCl (([(a, showE G qP qU qH qG vT qV), (qV, .inl (cy 2, 4, .inr (.inl va)))] ++ rl (shZ G 4) rG (fun i => guestE (b12 i)))) H := by rw [eb12, ← e9]; exact hP
              have hD : va_D A (([(a, showE G qP qU qH qG vT qV), (qV, .inl (cy 2, 4, .inr (.inl va)))] ++ rl (shZ G 4) rG (fun i => guestE (b12 i)))) := by rw [eb12, ← e9]; exact hD
              exact J261 l2 l3 l6 va b12 nc hnc H locs ls hP hD hS (lv_sub hl [0, 1, 2, 3, 4, 6] rfl) hF
          · have hF := if_n hF h9
            refine lv_aload_n hx hb dX10_ticks_165 rfl (lv_at hl 0 rfl) ?_
            refine lv_aload hx hb dX10_ticks_166 (lv_at hl 4 rfl) ?_
            refine lv_iload hx hb dX10_ticks_168 (lv_at hl 7 rfl) ?_
            obtain ⟨r14, h13, hF⟩ := bn1_o hF
            obtain ⟨h15, hF⟩ := ck_o hF
            refine kg_i (va_runV (As := [.ref (rG l3.toNatClampNeg), .int l7]) (rest := []) ⟨hx, hb, hml, hown, hts⟩ (c_X10_canUse (shUpG G gg) a qV (rG l3.toNatClampNeg) H.size (gg l3.toNatClampNeg) l7 _ h13) (cwV 2 hts gX10_ticks_X10_canUse rfl rfl rfl kd_X10_canUse ⟨Nat.le_of_ble_eq_true rfl, Nat.le_of_ble_eq_true rfl⟩) ⟨kP_blind (EU_ok D cy (shUpG G gg) a qV (rG l3.toNatClampNeg) (gg l3.toNatClampNeg)) D _ _ _, va_recv hK hP (ci := 10) (q0 := 0) rfl rfl, kStartU (kg_lt h15) hN hR hP hD hS hA _⟩ rfl rfl hl.1 rfl (lv_room (Nat.le_of_ble_eq_true rfl)) dX10_ticks_170 ⟨by show nc + 0 ≤ 600; omega, by show 26 * nc + 0 ≤ 15600; omega⟩) hP hD hS hA (fun H locs hP hD hS => ?_)
            show W p l e ({ frames := 8, cells := 600, slots := 15600, locals := 290 } : Room) s m args below meth c H locs nc (26 * nc) QQ (F0 m 173 ls [.int r14])
            refine lv_if_eq (tgt := 244) hx hb dX10_ticks_173 (by decide) (fun h16 => ?_) (fun h16 => ?_)
            · have hF := if_p hF h16
              exact J244 l2 l3 l5 l6 l7 va gg nc hnc H locs ls hP hD hS (lv_sub hl [0, 1, 2, 3, 4, 5, 6, 7] rfl) hF
            · have hF := if_n hF h16
              refine lv_aload_n hx hb dX10_ticks_176 rfl (lv_at hl 0 rfl) ?_
              refine lv_aload hx hb dX10_ticks_177 (lv_at hl 4 rfl) ?_
              refine va_get (D := D) (ci := 7) (v := .int (gg l3.toNatClampNeg 1)) (C := RX7) (T := TX7) (N := 7) hx hb hts f_inX7 hown hK hP (2 + l3.toNatClampNeg) (rl_get (kg_lt h15)) rfl 1 (by decide) f_f138 (fun _ h9 => h9) rfl dX10_ticks_179 ?_
              refine lv_iload hx hb dX10_ticks_182 (lv_at hl 7 rfl) ?_
              obtain ⟨r18, o19, h17, hF⟩ := bn2_o hF
              obtain ⟨h20, hF⟩ := ck_o hF
              refine kc_i (va_runV (As := [.int (gg l3.toNatClampNeg 1), .int l7]) (rest := []) ⟨hx, hb, hml, hown, hts⟩ (c_X10_price (shUpG G gg) a qV H.size va (gg l3.toNatClampNeg 1) l7 _ h17) (cwV 2 hts gX10_ticks_X10_price rfl rfl rfl kd_X10_price ⟨Nat.le_of_ble_eq_true rfl, Nat.le_of_ble_eq_true rfl⟩) ⟨kP_blind (EG_ok D cy (shUpG G gg) a qV) D _ _ _, va_recv hK hP (ci := 10) (q0 := 0) rfl rfl, kStartT (Or.inr rfl) hN hR hP hD hS hA _⟩ rfl rfl hl.1 rfl (lv_room (Nat.le_of_ble_eq_true rfl)) dX10_ticks_184 (kg_budget h20)) hP hD hS hA [1] rfl (Nat.le_refl _) (fun H locs hP hD hS => ?_)
              rw [wjn_app1] at hP hD
              have hP : va_P D vwCl (([(a, showE G qP qU qH qG vT qV), (qV, .inl (cy 2, 4, .inr (.inl o19)))] ++ rl (shZ G 4) rG (fun i => guestE (gg i)))) H := hP
              have hD : va_D A (([(a, showE G qP qU qH qG vT qV), (qV, .inl (cy 2, 4, .inr (.inl o19)))] ++ rl (shZ G 4) rG (fun i => guestE (gg i)))) := hD
              refine kg_step ?_
              obtain ⟨nc21, enc21⟩ : ∃ y : Nat, y = nc + 3 := ⟨_, rfl⟩
              have hnc : nc21 ≤ 600 := by rw [enc21]; exact h20
              rw [← enc21]
              have hF := nm_o hF nc21 enc21
              refine lv_aload hx hb dX10_ticks_187 (lv_at hl 4 rfl) ?_
              refine va_get (D := D) (ci := 7) (v := .int (gg l3.toNatClampNeg 2)) (C := RX7) (T := TX7) (N := 7) hx hb hts f_inX7 hown hK hP (2 + l3.toNatClampNeg) (rl_get (kg_lt h15)) rfl 2 (by decide) f_f135 (fun _ h9 => h9) rfl dX10_ticks_189 ?_
              refine lv_icmp_le (tgt := 198) hx hb dX10_ticks_192 (by decide) (fun h22 => ?_) (fun h22 => ?_)
              · have hF := if_p hF h22
                obtain ⟨v23, ev23⟩ : ∃ y : Int32, y = l5 + (1 : Int32) := ⟨_, rfl⟩
                have hF := nm_o hF v23 ev23
                refine lv_iinc (v := v23) (lv' := [(5, .int v23), (0, .ref a), (1, .ref qG), (2, .int l2), (3, .int l3), (4, .ref (rG l3.toNatClampNeg)), (6, .int l6), (7, .int l7)]) hx hb dX10_ticks_198 hl (k := 5) rfl (by rw [ev23]; rfl) (by decide) rfl (fun ls hl => ?_)
                refine lv_aload_n hx hb dX10_ticks_201 rfl (lv_at hl 1 rfl) ?_
                refine lv_iload hx hb dX10_ticks_202 (lv_at hl 7 rfl) ?_
                obtain ⟨r25, h24, hF⟩ := bn1_o hF
                refine kg_i (va_runV (As := [.int l7]) (rest := []) ⟨hx, hb, hml, hown, hts⟩ (c_X10_looker (shUpG G gg) a qV H.size l7 _ h24) (cwV 1 hts gX10_ticks_X10_looker rfl rfl rfl kd_X10_looker ⟨Nat.le_of_ble_eq_true rfl, Nat.le_of_ble_eq_true rfl⟩) ⟨kP_blind (EG_ok D cy (shUpG G gg) a qV) D _ _ _, va_recv hK hP (ci := 10) (q0 := 0) rfl rfl, kStartT (Or.inl rfl) hN hR hP hD hS hA _⟩ rfl rfl hl.1 rfl (lv_room (Nat.le_of_ble_eq_true rfl)) dX10_ticks_204 ⟨by show nc21 + 0 ≤ 600; omega, by show 26 * nc21 + 0 ≤ 15600; omega⟩) hP hD hS hA (fun H locs hP hD hS => ?_)
                show W p l e ({ frames := 8, cells := 600, slots := 15600, locals := 290 } : Room) s m args below meth c H locs nc21 (26 * nc21) QQ (F0 m 207 ls [.int r25])
                refine lv_if_ge (tgt := 244) hx hb dX10_ticks_207 (by decide) (fun h26 => ?_) (fun h26 => ?_)
                · have hF := if_p hF h26
                  exact J244 l2 l3 v23 l6 l7 o19 gg nc21 hnc H locs ls hP hD hS (lv_sub hl [1, 2, 3, 4, 5, 0, 6, 7] rfl) hF
                · have hF := if_n hF h26
                  refine lv_iload hx hb dX10_ticks_210 (lv_at hl 6 rfl) ?_
                  refine lv_if_lt (tgt := 240) hx hb dX10_ticks_212 (by decide) (fun h27 => ?_) (fun h27 => ?_)
                  · have hF := if_p hF h27
                    exact J240 l2 l3 v23 l7 o19 gg nc21 hnc H locs ls hP hD hS (lv_sub hl [1, 2, 3, 4, 5, 0, 7] rfl) hF
                  · have hF := if_n hF h27
                    refine lv_aload_n hx hb dX10_ticks_215 rfl (lv_at hl 1 rfl) ?_
                    refine lv_iload hx hb dX10_ticks_216 (lv_at hl 7 rfl) ?_
                    refine lv_aload hx hb dX10_ticks_218 (lv_at hl 5 rfl) ?_
                    refine va_get (D := D) (ci := 7) (v := .int (gg l3.toNatClampNeg 1)) (C := RX7) (T := TX7) (N := 7) hx hb hts f_inX7 hown hK hP (2 + l3.toNatClampNeg) (rl_get (kg_lt h15)) rfl 1 (by decide) f_f138 (fun _ h9 => h9) rfl dX10_ticks_220 ?_
                    obtain ⟨r29, h28, hF⟩ := bn1_o hF
                    obtain ⟨h30, hF⟩ := ck_o hF
                    refine kg_i (va_runV (As := [.int l7, .int (gg l3.toNatClampNeg 1)]) (rest := []) ⟨hx, hb, hml, hown, hts⟩ (c_X10_shown (shUpG G gg) a qV H.size l7 (gg l3.toNatClampNeg 1) _ h28) (cwV 2 hts gX10_ticks_X10_shown rfl rfl rfl kd_X10_shown ⟨Nat.le_of_ble_eq_true rfl, Nat.le_of_ble_eq_true rfl⟩) ⟨kP_blind (EG_ok D cy (shUpG G gg) a qV) D _ _ _, va_recv hK hP (ci := 10) (q0 := 0) rfl rfl, kStartT (Or.inl rfl) hN hR hP hD hS hA _⟩ rfl rfl hl.1 rfl (lv_room (Nat.le_of_ble_eq_true rfl)) dX10_ticks_223 (kg_budget h30)) hP hD hS hA (fun H locs hP hD hS => ?_)
                    refine kg_step ?_
                    obtain ⟨nc31, enc31⟩ : ∃ y : Nat, y = nc21 + 1 := ⟨_, rfl⟩
                    have hnc : nc31 ≤ 600 := by rw [enc31]; exact h30
                    rw [← enc31]
                    have hF := nm_o hF nc31 enc31
                    refine lv_aload_n hx hb dX10_ticks_226 rfl (lv_at hl 1 rfl) ?_
                    refine lv_iload hx hb dX10_ticks_227 (lv_at hl 6 rfl) ?_
                    refine lv_aload hx hb dX10_ticks_229 (lv_at hl 5 rfl) ?_
                    refine va_get (D := D) (ci := 7) (v := .int (gg l3.toNatClampNeg 1)) (C := RX7) (T := TX7) (N := 7) hx hb hts f_inX7 hown hK hP (2 + l3.toNatClampNeg) (rl_get (kg_lt h15)) rfl 1 (by decide) f_f138 (fun _ h9 => h9) rfl dX10_ticks_231 ?_
                    obtain ⟨r33, h32, hF⟩ := bn1_o hF
                    obtain ⟨h34, hF⟩ := ck_o hF
                    refine kg_i (va_runV (As := [.int l6, .int (gg l3.toNatClampNeg 1)]) (rest := [.int r29]) ⟨hx, hb, hml, hown, hts⟩ (c_X10_shown (shUpG G gg) a qV H.size l6 (gg l3.toNatClampNeg 1) _ h32) (cwV 2 hts gX10_ticks_X10_shown rfl rfl rfl kd_X10_shown ⟨Nat.le_of_ble_eq_true rfl, Nat.le_of_ble_eq_true rfl⟩) ⟨kP_blind (EG_ok D cy (shUpG G gg) a qV) D _ _ _, va_recv hK hP (ci := 10) (q0 := 0) rfl rfl, kStartT (Or.inl rfl) hN hR hP hD hS hA _⟩ rfl rfl hl.1 rfl (lv_room (Nat.le_of_ble_eq_true rfl)) dX10_ticks_234 (kg_budget h34)) hP hD hS hA (fun H locs hP hD hS => ?_)
                    refine kg_step ?_
                    obtain ⟨nc35, enc35⟩ : ∃ y : Nat, y = nc31 + 1 := ⟨_, rfl⟩
                    have hnc : nc35 ≤ 600 := by rw [enc35]; exact h34
                    rw [← enc35]
                    have hF := nm_o hF nc35 enc35
                    refine lv_icmp_lt (tgt := 244) hx hb dX10_ticks_237 (by decide) (fun h36 => ?_) (fun h36 => ?_)
                    · have hF := if_p hF h36
                      exact J244 l2 l3 v23 l6 l7 o19 gg nc35 hnc H locs ls hP hD hS (lv_sub hl [1, 2, 3, 4, 5, 0, 6, 7] rfl) hF
                    · have hF := if_n hF h36
                      exact J240 l2 l3 v23 l7 o19 gg nc35 hnc H locs ls hP hD hS (lv_sub hl [1, 2, 3, 4, 5, 0, 7] rfl) hF
              · have hF := if_n hF h22
                refine lv_goto (tgt := 244) hx hb dX10_ticks_195 (by decide) ?_
                exact J244 l2 l3 l5 l6 l7 o19 gg nc21 hnc H locs ls hP hD hS (lv_sub hl [0, 1, 2, 3, 4, 5, 6, 7] rfl) hF
      intro l2 l3 va gg nc hnc H locs ls hP hD hS hl hF
      rw [X10_ticks_L124] at hF
      refine lv_iload_n hx hb dX10_ticks_124 rfl (lv_at hl 3 rfl) ?_
      refine lv_iload_n hx hb dX10_ticks_125 rfl (lv_at hl 2 rfl) ?_
      refine lv_icmp_ge (tgt := 297) hx hb dX10_ticks_126 (by decide) (fun h37 => ?_) (fun h37 => ?_)
      · have hF := if_p hF h37
        refine lv_aload_n hx hb dX10_ticks_297 rfl (lv_at hl 0 rfl) ?_
        refine lv_dup hx hb dX10_ticks_298 rfl ?_
        refine va_get (D := D) (ci := 10) (v := .int (shI G 2)) (C := RX10) (T := TX10) (N := 11) hx hb hts f_inX10 hown hK hP 0 rfl rfl 4 (by decide) f_f48 (fun _ h9 => h9) rfl dX10_ticks_299 ?_
        refine lv_iconst (v := 1) hx hb dX10_ticks_302 (by decide) ?_
        refine lv_iadd hx hb dX10_ticks_303 ?_
        refine lv_topi (fun v38 ev38 => ?_)
        have hF := nm_o hF v38 ev38
        refine va_put (D := D) (ci := 10) (v := .int v38) (ty := .int) (C := RX10) (T := TX10) (N := 11) hx hb hts f_inX10 tyX10 tyX10_ok nmX10 hown hK hP hD hS 0 rfl rfl 4 (by decide) f_f48 (fun _ h9 => h9) (by decide +kernel) rfl rfl rfl (Nat.le_of_ble_eq_true rfl) dX10_ticks_304 (fun H locs hP hD hS => ?_)
        have hP : va_P D vwCl (([(a, showT G v38 qP qU qH qG vT qV), (qV, .inl (cy 2, 4, .inr (.inl va)))] ++ rl (shZ G 4) rG (fun i => guestE (gg i)))) H := hP
        have hD : va_D A (([(a, showT G v38 qP qU qH qG vT qV), (qV, .inl (cy 2, 4, .inr (.inl va)))] ++ rl (shZ G 4) rG (fun i => guestE (gg i)))) := hD
        obtain rfl := so_o hF
        refine W.widen (k := 600) (n := 15600) hnc (by omega) ?_
        rw [ev38] at hP hD
        rw [hQQ]
        exact kr_v hx hb hr hlocks hP hD hS dX10_ticks_307
      · have hF := if_n hF h37
        refine lv_aload_n hx hb dX10_ticks_129 rfl (lv_at hl 1 rfl) ?_
        refine lv_iload_n hx hb dX10_ticks_130 rfl (lv_at hl 3 rfl) ?_
        obtain ⟨h39, hF⟩ := ck_o hF
        refine va_aldq hx hb hK (g7.P hS) 0 8 rfl rfl h39 dX10_ticks_131 ?_
        show W p l e ({ frames := 8, cells := 600, slots := 15600, locals := 290 } : Room) s m args below meth c H locs _ _ QQ (F0 m 132 ls [.ref (rG l3.toNatClampNeg)])
        refine lv_astore (lv' := [(4, .ref (rG l3.toNatClampNeg)), (0, .ref a), (1, .ref qG), (2, .int l2), (3, .int l3)]) hx hb dX10_ticks_132 hl (by decide) rfl (fun ls hl => ?_)
        refine lv_aload hx hb dX10_ticks_134 (lv_at hl 0 rfl) ?_
        refine va_get (D := D) (ci := 7) (v := .int (gg l3.toNatClampNeg 3)) (C := RX7) (T := TX7) (N := 7) hx hb hts f_inX7 hown hK hP (2 + l3.toNatClampNeg) (rl_get (kg_lt h39)) rfl 3 (by decide) f_f126 (fun _ h9 => h9) rfl dX10_ticks_136 ?_
        refine lv_if_eq (tgt := 145) hx hb dX10_ticks_139 (by decide) (fun h40 => ?_) (fun h40 => ?_)
        · have hF := if_p hF h40
          refine lv_iconst (v := 0) hx hb dX10_ticks_145 (by decide) ?_
          refine lv_istore (lv' := [(5, .int (0 : Int32)), (4, .ref (rG l3.toNatClampNeg)), (0, .ref a), (1, .ref qG), (2, .int l2), (3, .int l3)]) hx hb dX10_ticks_146 hl (by decide) rfl (fun ls hl => ?_)
          refine lv_iconst (v := -1) hx hb dX10_ticks_148 (by decide) ?_
          refine lv_istore (lv' := [(6, .int (-1 : Int32)), (5, .int (0 : Int32)), (4, .ref (rG l3.toNatClampNeg)), (0, .ref a), (1, .ref qG), (2, .int l2), (3, .int l3)]) hx hb dX10_ticks_149 hl (by decide) rfl (fun ls hl => ?_)
          refine lv_aload_n hx hb dX10_ticks_151 rfl (lv_at hl 3 rfl) ?_
          refine va_get (D := D) (ci := 10) (v := .ref qH) (C := RX10) (T := TX10) (N := 11) hx hb hts f_inX10 hown hK hP 0 rfl rfl 7 (by decide) f_f33 (fun _ h9 => h9) rfl dX10_ticks_152 ?_
          refine va_alen hx hb hK (g5.P hS) 0 4 rfl rfl (v := nI (shZ G 3)) rfl dX10_ticks_155 ?_
          refine lv_iconst (v := 1) hx hb dX10_ticks_156 (by decide) ?_
          refine lv_isub hx hb dX10_ticks_157 ?_
          refine lv_topi (fun v41 ev41 => ?_)
          have hF := nm_o hF v41 ev41
          refine lv_istore (lv' := [(7, .int v41), (6, .int (-1 : Int32)), (5, .int (0 : Int32)), (4, .ref (rG l3.toNatClampNeg)), (0, .ref a), (1, .ref qG), (2, .int l2), (3, .int l3)]) hx hb dX10_ticks_158 hl (by decide) rfl (fun ls hl => ?_)
          exact J160 FU l2 l3 (0 : Int32) (-1 : Int32) v41 va gg nc hnc H locs ls hP hD hS (lv_sub hl [4, 5, 6, 7, 3, 2, 1, 0] rfl) hF
        · have hF := if_n hF h40
          refine lv_goto (tgt := 291) hx hb dX10_ticks_142 (by decide) ?_
          exact J291 l2 l3 va gg nc hnc H locs ls hP hD hS (lv_sub hl [1, 2, 3, 4] rfl) hF
  have J10 : ∀ (n10 : Nat) (l2 : Int32) (l3 : Int32) (va : Nat → Int64) (gg : Nat → Nat → Int32) (nc : Nat) (hnc : nc ≤ 600) (H : Heap) (locs : List Loc) (ls : Array Slot), va_P D vwCl ([(a, showE G qP qU qH qG vT qV), (qV, .inl (cy 2, 4, .inr (.inl va)))] ++ rl (shZ G 4) rG (fun i => guestE (gg i))) H → va_D A ([(a, showE G qP qU qH qG vT qV), (qV, .inl (cy 2, 4, .inr (.inl va)))] ++ rl (shZ G 4) rG (fun i => guestE (gg i))) → va_S A s.heap H locs → lv_has ls 8 [(0, .ref a), (1, .ref qG), (2, .int l2), (3, .int l3)] → X10_ticks_L10 G n10 l2 l3 va gg nc = some res → W p l e ({ frames := 8, cells := 600, slots := 15600, locals := 290 } : Room) s m args below meth c H locs nc (26 * nc) QQ (F0 m 10 ls []) := by
    intro n10
    induction n10 with
    | zero =>
      intro l2 l3 va gg nc hnc H locs ls hP hD hS hl hF
      rw [X10_ticks_L10] at hF
      cases hF
    | succ n10 ih10 =>
      have J108 : ∀ (l2 : Int32) (l3 : Int32) (va : Nat → Int64) (gg : Nat → Nat → Int32) (nc : Nat) (hnc : nc ≤ 600) (H : Heap) (locs : List Loc) (ls : Array Slot), va_P D vwCl ([(a, showE G qP qU qH qG vT qV), (qV, .inl (cy 2, 4, .inr (.inl va)))] ++ rl (shZ G 4) rG (fun i => guestE (gg i))) H → va_D A ([(a, showE G qP qU qH qG vT qV), (qV, .inl (cy 2, 4, .inr (.inl va)))] ++ rl (shZ G 4) rG (fun i => guestE (gg i))) → va_S A s.heap H locs → lv_has ls 8 [(0, .ref a), (1, .ref qG), (2, .int l2), (3, .int l3)] → X10_ticks_J108 G (fun z0 z1 z2 z3 z4 => X10_ticks_L10 G n10 z0 z1 z2 z3 z4) l2 l3 va gg nc = some res → W p l e ({ frames := 8, cells := 600, slots := 15600, locals := 290 } : Room) s m args below meth c H locs nc (26 * nc) QQ (F0 m 108 ls []) := by
        intro l2 l3 va gg nc hnc H locs ls hP hD hS hl hF
        unfold X10_ticks_J108 at hF
        obtain ⟨v42, ev42⟩ : ∃ y : Int32, y = l3 + (1 : Int32) := ⟨_, rfl⟩
        have hF := nm_o hF v42 ev42
        refine lv_iinc (v := v42) (lv' := [(3, .int v42), (0, .ref a), (1, .ref qG), (2, .int l2)]) hx hb dX10_ticks_108 hl (k := 3) rfl (by rw [ev42]; rfl) (by decide) rfl (fun ls hl => ?_)
        refine lv_goto (tgt := 10) hx hb dX10_ticks_111 (by decide) ?_
        exact ih10 l2 v42 va gg nc hnc H locs ls hP hD hS (lv_sub hl [1, 2, 3, 0] rfl) hF
      intro l2 l3 va gg nc hnc H locs ls hP hD hS hl hF
      rw [X10_ticks_L10] at hF
      refine lv_iload_n hx hb dX10_ticks_10 rfl (lv_at hl 3 rfl) ?_
      refine lv_iload_n hx hb dX10_ticks_11 rfl (lv_at hl 2 rfl) ?_
      refine lv_icmp_ge (tgt := 114) hx hb dX10_ticks_12 (by decide) (fun h43 => ?_) (fun h43 => ?_)
      · have hF := if_p hF h43
        refine lv_aload_n hx hb dX10_ticks_114 rfl (lv_at hl 0 rfl) ?_
        refine va_get (D := D) (ci := 10) (v := .ref qG) (C := RX10) (T := TX10) (N := 11) hx hb hts f_inX10 hown hK hP 0 rfl rfl 8 (by decide) f_f39 (fun _ h9 => h9) rfl dX10_ticks_115 ?_
        refine lv_astore_n (lv' := [(1, .ref qG), (0, .ref a), (2, .int l2), (3, .int l3)]) hx hb dX10_ticks_118 rfl hl (by decide) rfl (fun ls hl => ?_)
        refine lv_aload_n hx hb dX10_ticks_119 rfl (lv_at hl 0 rfl) ?_
        refine va_alen hx hb hK (g7.P hS) 0 8 rfl rfl (v := nI (shZ G 4)) rfl dX10_ticks_120 ?_
        refine lv_topi (fun v44 ev44 => ?_)
        have hF := nm_o hF v44 ev44
        refine lv_istore_n (lv' := [(2, .int v44), (1, .ref qG), (0, .ref a), (3, .int l3)]) hx hb dX10_ticks_121 rfl hl (by decide) rfl (fun ls hl => ?_)
        refine lv_iconst (v := 0) hx hb dX10_ticks_122 (by decide) ?_
        refine lv_istore_n (lv' := [(3, .int (0 : Int32)), (2, .int v44), (1, .ref qG), (0, .ref a)]) hx hb dX10_ticks_123 rfl hl (by decide) rfl (fun ls hl => ?_)
        exact J124 FU v44 (0 : Int32) va gg nc hnc H locs ls hP hD hS (lv_sub hl [3, 2, 1, 0] rfl) hF
      · have hF := if_n hF h43
        refine lv_aload_n hx hb dX10_ticks_15 rfl (lv_at hl 1 rfl) ?_
        refine lv_iload_n hx hb dX10_ticks_16 rfl (lv_at hl 3 rfl) ?_
        obtain ⟨h45, hF⟩ := ck_o hF
        refine va_aldq hx hb hK (g7.P hS) 0 8 rfl rfl h45 dX10_ticks_17 ?_
        show W p l e ({ frames := 8, cells := 600, slots := 15600, locals := 290 } : Room) s m args below meth c H locs _ _ QQ (F0 m 18 ls [.ref (rG l3.toNatClampNeg)])
        refine lv_astore (lv' := [(4, .ref (rG l3.toNatClampNeg)), (0, .ref a), (1, .ref qG), (2, .int l2), (3, .int l3)]) hx hb dX10_ticks_18 hl (by decide) rfl (fun ls hl => ?_)
        refine lv_aload hx hb dX10_ticks_20 (lv_at hl 0 rfl) ?_
        refine va_get (D := D) (ci := 7) (v := .int (gg l3.toNatClampNeg 3)) (C := RX7) (T := TX7) (N := 7) hx hb hts f_inX7 hown hK hP (2 + l3.toNatClampNeg) (rl_get (kg_lt h45)) rfl 3 (by decide) f_f126 (fun _ h9 => h9) rfl dX10_ticks_22 ?_
        refine lv_iconst (v := 1) hx hb dX10_ticks_25 (by decide) ?_
        refine lv_icmp_eq (tgt := 32) hx hb dX10_ticks_26 (by decide) (fun h46 => ?_) (fun h46 => ?_)
        · have hF := if_p hF h46
          refine lv_aload hx hb dX10_ticks_32 (lv_at hl 0 rfl) ?_
          refine lv_dup hx hb dX10_ticks_34 rfl ?_
          refine va_get (D := D) (ci := 7) (v := .int (gg l3.toNatClampNeg 5)) (C := RX7) (T := TX7) (N := 7) hx hb hts f_inX7 hown hK hP (2 + l3.toNatClampNeg) (rl_get (kg_lt h45)) rfl 5 (by decide) f_f132 (fun _ h9 => h9) rfl dX10_ticks_35 ?_
          refine lv_iconst (v := 1) hx hb dX10_ticks_38 (by decide) ?_
          refine lv_isub hx hb dX10_ticks_39 ?_
          refine lv_topi (fun v47 ev47 => ?_)
          have hF := nm_o hF v47 ev47
          refine va_put (D := D) (ci := 7) (v := .int v47) (ty := .int) (C := RX7) (T := TX7) (N := 7) hx hb hts f_inX7 tyX7 tyX7_ok nmX7 hown hK hP hD hS (2 + l3.toNatClampNeg) (rl_get (kg_lt h45)) rfl 5 (by decide) f_f132 (fun _ h9 => h9) (by decide +kernel) rfl rfl rfl (Nat.le_of_ble_eq_true rfl) dX10_ticks_40 (fun H locs hP hD hS => ?_)
          obtain ⟨b48, eb48⟩ : ∃ y : Nat → Nat → Int32, y = gset gg l3.toNatClampNeg 5 v47 := ⟨_, rfl⟩
          have hF := nm_o hF b48 eb48
          have e9 := rl_gset (X := ([(a, showE G qP qU qH qG vT qV), (qV, .inl (cy 2, 4, .inr (.inl va)))] : va_W)) (n := shZ G 4) (r := rG) (gg := gg) (j := 5) (v := v47) (kg_lt h45) (by decide)
          have hP : va_P D vwCl (([(a, showE G qP qU qH qG vT qV), (qV, .inl (cy 2, 4, .inr (.inl va)))] ++ rl (shZ G 4) rG (fun i => guestE (b48 i)))) H := by rw [eb48, ← e9]; exact hP
          have hD : va_D A (([(a, showE G qP qU qH qG vT qV), (qV, .inl (cy 2, 4, .inr (.inl va)))] ++ rl (shZ G 4) rG (fun i => guestE (b48 i)))) := by rw [eb48, ← e9]; exact hD
          refine lv_aload hx hb dX10_ticks_43 (lv_at hl 0 rfl) ?_
          refine va_get (D := D) (ci := 7) (v := .int (b48 l3.toNatClampNeg 5)) (C := RX7) (T := TX7) (N := 7) hx hb hts f_inX7 hown hK hP (2 + l3.toNatClampNeg) (rl_get (kg_lt h45)) rfl 5 (by decide) f_f132 (fun _ h9 => h9) rfl dX10_ticks_45 ?_
          refine lv_if_le (tgt := 54) hx hb dX10_ticks_48 (by decide) (fun h49 => ?_) (fun h49 => ?_)
          · have hF := if_p hF h49
            refine lv_aload hx hb dX10_ticks_54 (lv_at hl 0 rfl) ?_
            refine lv_aload hx hb dX10_ticks_56 (lv_at hl 0 rfl) ?_
            refine va_get (D := D) (ci := 7) (v := .int (b48 l3.toNatClampNeg 2)) (C := RX7) (T := TX7) (N := 7) hx hb hts f_inX7 hown hK hP (2 + l3.toNatClampNeg) (rl_get (kg_lt h45)) rfl 2 (by decide) f_f135 (fun _ h9 => h9) rfl dX10_ticks_58 ?_
            refine lv_aload_n hx hb dX10_ticks_61 rfl (lv_at hl 1 rfl) ?_
            refine lv_aload hx hb dX10_ticks_62 (lv_at hl 0 rfl) ?_
            refine va_get (D := D) (ci := 7) (v := .int (b48 l3.toNatClampNeg 1)) (C := RX7) (T := TX7) (N := 7) hx hb hts f_inX7 hown hK hP (2 + l3.toNatClampNeg) (rl_get (kg_lt h45)) rfl 1 (by decide) f_f138 (fun _ h9 => h9) rfl dX10_ticks_64 ?_
            refine lv_aload hx hb dX10_ticks_67 (lv_at hl 0 rfl) ?_
            refine va_get (D := D) (ci := 7) (v := .int (b48 l3.toNatClampNeg 4)) (C := RX7) (T := TX7) (N := 7) hx hb hts f_inX7 hown hK hP (2 + l3.toNatClampNeg) (rl_get (kg_lt h45)) rfl 4 (by decide) f_f129 (fun _ h9 => h9) rfl dX10_ticks_69 ?_
            obtain ⟨r51, o52, h50, hF⟩ := bn2_o hF
            obtain ⟨h53, hF⟩ := ck_o hF
            refine kc_i (va_runV (As := [.int (b48 l3.toNatClampNeg 1), .int (b48 l3.toNatClampNeg 4)]) (rest := [.int (b48 l3.toNatClampNeg 2), .ref (rG l3.toNatClampNeg)]) ⟨hx, hb, hml, hown, hts⟩ (c_X10_price (shUpG G b48) a qV H.size va (b48 l3.toNatClampNeg 1) (b48 l3.toNatClampNeg 4) _ h50) (cwV 2 hts gX10_ticks_X10_price rfl rfl rfl kd_X10_price ⟨Nat.le_of_ble_eq_true rfl, Nat.le_of_ble_eq_true rfl⟩) ⟨kP_blind (EG_ok D cy (shUpG G b48) a qV) D _ _ _, va_recv hK hP (ci := 10) (q0 := 0) rfl rfl, kStartT (Or.inr rfl) hN hR hP hD hS hA _⟩ rfl rfl hl.1 rfl (lv_room (Nat.le_of_ble_eq_true rfl)) dX10_ticks_72 (kg_budget h53)) hP hD hS hA [1] rfl (Nat.le_refl _) (fun H locs hP hD hS => ?_)
            rw [wjn_app1] at hP hD
            have hP : va_P D vwCl (([(a, showE G qP qU qH qG vT qV), (qV, .inl (cy 2, 4, .inr (.inl o52)))] ++ rl (shZ G 4) rG (fun i => guestE (b48 i)))) H := hP
            have hD : va_D A (([(a, showE G qP qU qH qG vT qV), (qV, .inl (cy 2, 4, .inr (.inl o52)))] ++ rl (shZ G 4) rG (fun i => guestE (b48 i)))) := hD
            refine kg_step ?_
            obtain ⟨nc54, enc54⟩ : ∃ y : Nat, y = nc + 3 := ⟨_, rfl⟩
            have hnc : nc54 ≤ 600 := by rw [enc54]; exact h53
            rw [← enc54]
            have hF := nm_o hF nc54 enc54
            refine va_mmin hx hb (by rw [hml]; exact hl.1.symm) hown f_m144 f_s_va_mmin f_iMath f_k_va_mmin (Nat.le_of_ble_eq_true rfl) (Nat.le_of_ble_eq_true rfl) (by show nc54 ≤ 600; omega) (by show 26 * nc54 ≤ 15600; omega) dX10_ticks_75 ?_
            refine lv_topi (fun v55 ev55 => ?_)
            have hF := nm_o hF v55 ev55
            refine va_put (D := D) (ci := 7) (v := .int v55) (ty := .int) (C := RX7) (T := TX7) (N := 7) hx hb hts f_inX7 tyX7 tyX7_ok nmX7 hown hK hP hD hS (2 + l3.toNatClampNeg) (rl_get (kg_lt h45)) rfl 6 (by decide) f_f146 (fun _ h9 => h9) (by decide +kernel) rfl rfl rfl (Nat.le_of_ble_eq_true rfl) dX10_ticks_78 (fun H locs hP hD hS => ?_)
            obtain ⟨b56, eb56⟩ : ∃ y : Nat → Nat → Int32, y = gset b48 l3.toNatClampNeg 6 v55 := ⟨_, rfl⟩
            have hF := nm_o hF b56 eb56
            have e9 := rl_gset (X := ([(a, showE G qP qU qH qG vT qV), (qV, .inl (cy 2, 4, .inr (.inl o52)))] : va_W)) (n := shZ G 4) (r := rG) (gg := b48) (j := 6) (v := v55) (kg_lt h45) (by decide)
            have hP : va_P D vwCl (([(a, showE G qP qU qH qG vT qV), (qV, .inl (cy 2, 4, .inr (.inl o52)))] ++ rl (shZ G 4) rG (fun i => guestE (b56 i)))) H := by rw [eb56, ← e9]; exact hP
            have hD : va_D A (([(a, showE G qP qU qH qG vT qV), (qV, .inl (cy 2, 4, .inr (.inl o52)))] ++ rl (shZ G 4) rG (fun i => guestE (b56 i)))) := by rw [eb56, ← e9]; exact hD
            refine lv_aload hx hb dX10_ticks_81 (lv_at hl 0 rfl) ?_
            refine lv_dup hx hb dX10_ticks_83 rfl ?_
            refine va_get (D := D) (ci := 7) (v := .int (b56 l3.toNatClampNeg 2)) (C := RX7) (T := TX7) (N := 7) hx hb hts f_inX7 hown hK hP (2 + l3.toNatClampNeg) (rl_get (kg_lt h45)) rfl 2 (by decide) f_f135 (fun _ h9 => h9) rfl dX10_ticks_84 ?_
            refine lv_aload hx hb dX10_ticks_87 (lv_at hl 0 rfl) ?_
            refine va_get (D := D) (ci := 7) (v := .int (b56 l3.toNatClampNeg 6)) (C := RX7) (T := TX7) (N := 7) hx hb hts f_inX7 hown hK hP (2 + l3.toNatClampNeg) (rl_get (kg_lt h45)) rfl 6 (by decide) f_f146 (fun _ h9 => h9) rfl dX10_ticks_89 ?_
            refine lv_isub hx hb dX10_ticks_92 ?_
            refine lv_topi (fun v57 ev57 => ?_)
            have hF := nm_o hF v57 ev57
            refine va_put (D := D) (ci := 7) (v := .int v57) (ty := .int) (C := RX7) (T := TX7) (N := 7) hx hb hts f_inX7 tyX7 tyX7_ok nmX7 hown hK hP hD hS (2 + l3.toNatClampNeg) (rl_get (kg_lt h45)) rfl 2 (by decide) f_f135 (fun _ h9 => h9) (by decide +kernel) rfl rfl rfl (Nat.le_of_ble_eq_true rfl) dX10_ticks_93 (fun H locs hP hD hS => ?_)
            obtain ⟨b58, eb58⟩ : ∃ y : Nat → Nat → Int32, y = gset b56 l3.toNatClampNeg 2 v57 := ⟨_, rfl⟩
            have hF := nm_o hF b58 eb58
            have e9 := rl_gset (X := ([(a, showE G qP qU qH qG vT qV), (qV, .inl (cy 2, 4, .inr (.inl o52)))] : va_W)) (n := shZ G 4) (r := rG) (gg := b56) (j := 2) (v := v57) (kg_lt h45) (by decide)
            have hP : va_P D vwCl (([(a, showE G qP qU qH qG vT qV), (qV, .inl (cy 2, 4, .inr (.inl o52)))] ++ rl (shZ G 4) rG (fun i => guestE (b58 i)))) H := by rw [eb58, ← e9]; exact hP
            have hD : va_D A (([(a, showE G qP qU qH qG vT qV), (qV, .inl (cy 2, 4, .inr (.inl o52)))] ++ rl (shZ G 4) rG (fun i => guestE (b58 i)))) := by rw [eb58, ← e9]; exact hD
            refine lv_aload hx hb dX10_ticks_96 (lv_at hl 0 rfl) ?_
            refine lv_iconst (v := 2) hx hb dX10_ticks_98 (by decide) ?_
            refine va_put (D := D) (ci := 7) (v := .int (2 : Int32)) (ty := .int) (C := RX7) (T := TX7) (N := 7) hx hb hts f_inX7 tyX7 tyX7_ok nmX7 hown hK hP hD hS (2 + l3.toNatClampNeg) (rl_get (kg_lt h45)) rfl 3 (by decide) f_f126 (fun _ h9 => h9) (by decide +kernel) rfl rfl rfl (Nat.le_of_ble_eq_true rfl) dX10_ticks_99 (fun H locs hP hD hS => ?_)
            obtain ⟨b59, eb59⟩ : ∃ y : Nat → Nat → Int32, y = gset b58 l3.toNatClampNeg 3 (2 : Int32) := ⟨_, rfl⟩
            have hF := nm_o hF b59 eb59
            have e9 := rl_gset (X := ([(a, showE G qP qU qH qG vT qV), (qV, .inl (cy 2, 4, .inr (.inl o52)))] : va_W)) (n := shZ G 4) (r := rG) (gg := b58) (j := 3) (v := (2 : Int32)) (kg_lt h45) (by decide)
            have hP : va_P D vwCl (([(a, showE G qP qU qH qG vT qV), (qV, .inl (cy 2, 4, .inr (.inl o52)))] ++ rl (shZ G 4) rG (fun i => guestE (b59 i)))) H := by rw [eb59, ← e9]; exact hP
            have hD : va_D A (([(a, showE G qP qU qH qG vT qV), (qV, .inl (cy 2, 4, .inr (.inl o52)))] ++ rl (shZ G 4) rG (fun i => guestE (b59 i)))) := by rw [eb59, ← e9]; exact hD
            refine lv_aload hx hb dX10_ticks_102 (lv_at hl 0 rfl) ?_
            refine lv_iconst (v := -1) hx hb dX10_ticks_104 (by decide) ?_
            refine va_put (D := D) (ci := 7) (v := .int (-1 : Int32)) (ty := .int) (C := RX7) (T := TX7) (N := 7) hx hb hts f_inX7 tyX7 tyX7_ok nmX7 hown hK hP hD hS (2 + l3.toNatClampNeg) (rl_get (kg_lt h45)) rfl 4 (by decide) f_f129 (fun _ h9 => h9) (by decide +kernel) rfl rfl rfl (Nat.le_of_ble_eq_true rfl) dX10_ticks_105 (fun H locs hP hD hS => ?_)
            obtain ⟨b60, eb60⟩ : ∃ y : Nat → Nat → Int32, y = gset b59 l3.toNatClampNeg 4 (-1 : Int32) := ⟨_, rfl⟩
            have hF := nm_o hF b60 eb60
            have e9 := rl_gset (X := ([(a, showE G qP qU qH qG vT qV), (qV, .inl (cy 2, 4, .inr (.inl o52)))] : va_W)) (n := shZ G 4) (r := rG) (gg := b59) (j := 4) (v := (-1 : Int32)) (kg_lt h45) (by decide)
            have hP : va_P D vwCl (([(a, showE G qP qU qH qG vT qV), (qV, .inl (cy 2, 4, .inr (.inl o52)))] ++ rl (shZ G 4) rG (fun i => guestE (b60 i)))) H := by rw [eb60, ← e9]; exact hP
            have hD : va_D A (([(a, showE G qP qU qH qG vT qV), (qV, .inl (cy 2, 4, .inr (.inl o52)))] ++ rl (shZ G 4) rG (fun i => guestE (b60 i)))) := by rw [eb60, ← e9]; exact hD
            exact J108 l2 l3 o52 b60 nc54 hnc H locs ls hP hD hS (lv_sub hl [1, 2, 3, 4] rfl) hF
          · have hF := if_n hF h49
            refine lv_goto (tgt := 108) hx hb dX10_ticks_51 (by decide) ?_
            exact J108 l2 l3 va b48 nc hnc H locs ls hP hD hS (lv_sub hl [1, 2, 3, 4] rfl) hF
        · have hF := if_n hF h46
          refine lv_goto (tgt := 108) hx hb dX10_ticks_29 (by decide) ?_
          exact J108 l2 l3 va gg nc hnc H locs ls hP hD hS (lv_sub hl [1, 2, 3, 4] rfl) hF
  have main : ∀ (H : Heap) (locs : List Loc) (ls : Array Slot), va_P D vwCl ([(a, showE G qP qU qH qG vT qV), (qV, .inl (cy 2, 4, .inr (.inl va)))] ++ rl (shZ G 4) rG (fun i => guestE ((shG G) i))) H → va_D A ([(a, showE G qP qU qH qG vT qV), (qV, .inl (cy 2, 4, .inr (.inl va)))] ++ rl (shZ G 4) rG (fun i => guestE ((shG G) i))) → va_S A s.heap H locs → lv_has ls 8 [(0, .ref a)] → W p l e ({ frames := 8, cells := 600, slots := 15600, locals := 290 } : Room) s m args below meth c H locs 0 0 QQ (F0 m 0 ls []) := by
    intro H locs ls hP hD hS hl
    unfold X10_ticks at hF
    have hnc : 0 ≤ 600 := Nat.zero_le _
    refine lv_aload_n hx hb dX10_ticks_0 rfl (lv_at hl 0 rfl) ?_
    refine va_get (D := D) (ci := 10) (v := .ref qG) (C := RX10) (T := TX10) (N := 11) hx hb hts f_inX10 hown hK hP 0 rfl rfl 8 (by decide) f_f39 (fun _ h9 => h9) rfl dX10_ticks_1 ?_
    refine lv_astore_n (lv' := [(1, .ref qG), (0, .ref a)]) hx hb dX10_ticks_4 rfl hl (by decide) rfl (fun ls hl => ?_)
    refine lv_aload_n hx hb dX10_ticks_5 rfl (lv_at hl 0 rfl) ?_
    refine va_alen hx hb hK (g7.P hS) 0 8 rfl rfl (v := nI (shZ G 4)) rfl dX10_ticks_6 ?_
    refine lv_topi (fun v61 ev61 => ?_)
    have hF := nm_o hF v61 ev61
    refine lv_istore_n (lv' := [(2, .int v61), (1, .ref qG), (0, .ref a)]) hx hb dX10_ticks_7 rfl hl (by decide) rfl (fun ls hl => ?_)
    refine lv_iconst (v := 0) hx hb dX10_ticks_8 (by decide) ?_
    refine lv_istore_n (lv' := [(3, .int (0 : Int32)), (2, .int v61), (1, .ref qG), (0, .ref a)]) hx hb dX10_ticks_9 rfl hl (by decide) rfl (fun ls hl => ?_)
    exact J10 FU v61 (0 : Int32) va (shG G) 0 hnc H locs ls hP hD hS (lv_sub hl [3, 2, 1, 0] rfl) hF
  exact main s.heap [] ls hP hD hS hl
