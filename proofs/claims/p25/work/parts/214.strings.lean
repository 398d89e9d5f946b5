/-! texts that are read: constants, or cells of the world -/
theorem wjn_nil {ws L : va_W} : wjn ws [] L = ws ++ L := by cases L <;> rfl
abbrev strE (v : Nat) : va_E := .inr (11, [.ref v, .int (0 : Int32), .int (0 : Int32), .int (0 : Int32)])
/-- an address of the world that is none of the callee's cells -/
theorem va_notA {A : Nat → Prop} {D : va_G} {ws wc : va_W} {H : Heap} {is : List Nat} (hP : va_P D vwCl ws H) (hD : va_D A ws) (hC : is.map (fun i => ws[i]?) = wc.map some) {i : Nat} {x : Nat × va_E} (hi : ws[i]? = some x) (hn : i ∉ is) : ¬ va_A wc H.size x.1 := by
  intro q
  rcases q with ⟨k, e, hk⟩ | q
  · have h1 : (is.map (fun i => ws[i]?))[k]? = some (some (x.1, e)) := by rw [hC, List.getElem?_map, hk]; rfl
    rw [List.getElem?_map] at h1
    cases hj : is[k]? with
    | none => rw [hj] at h1; cases h1
    | some j =>
      rw [hj] at h1
      have h2 : ws[j]? = some (x.1, e) := Option.some.inj h1
      have h3 := hD.1 i j x (x.1, e) hi h2 rfl
      exact hn (h3 ▸ List.mem_of_getElem? hj)
  · exact absurd (hP i x hi).lt (Nat.not_lt.mpr q)
theorem kT_old {A : Nat → Prop} {s : State} {H : Heap} {locs : List Loc} {ws wc : va_W} {tx : List Int32} {a : Nat} (h : kStrAt tx a A s s.heap) (hD : va_D A ws) (hS : va_S A s.heap H locs) (hA : ∀ q, s.heap.size ≤ q → A q) (is : List Nat) (hC : is.map (fun i => ws[i]?) = wc.map some) : kStrAt tx a (va_A wc H.size) s H :=
  h.go (fun a h1 h2 => hS.2.1 a h1 h2) (va_free hD hS hA is hC) (State.WarmedH.refl s).alike
theorem kT_new {Ts : List Cond} {args : Array Value} {A : Nat → Prop} {D : va_G} {cy : Nat → ClassId} {s : State} {H : Heap} {ws wc : va_W} {tx : List Int32} {a v : Nat} {h1 h2 : Value} {f : Nat → Int32} (hts : ∀ w ∈ Ts, w.before args s = true) (hin : ∀ w ∈ u_ws RJ0 TJ0 4, w ∈ Ts) (hK : va_K D vwCl (kTys cy) s) (hP : va_P D vwCl ws H) (hD : va_D A ws) (i j : Nat) (hi : ws[i]? = some (a, .inr (11, [.ref v, .int (0 : Int32), h1, h2]))) (hj : ws[j]? = some (v, .inl (cy 1, tx.length, .inl f))) (is : List Nat) (hC : is.map (fun i => ws[i]?) = wc.map some) (hni : i ∉ is) (hnj : j ∉ is) (hf : ∀ j, j < tx.length → f j = tx.getD j 0) : kStrAt tx a (va_A wc H.size) s H :=
  kStr_of hts hin hK ⟨hP i _ hi, va_notA hP hD hC hi hni⟩ ⟨hP j _ hj, va_notA hP hD hC hj hnj⟩ hf
theorem kStartS {A : Nat → Prop} {D : va_G} {cy : Nat → ClassId} {ws wc : va_W} {s : State} {H : Heap} {locs : List Loc} {tx : List Int32} {a : Nat} (h0 : EN D cy A s s.heap) (hP : va_P D vwCl ws H) (hD : va_D A ws) (hS : va_S A s.heap H locs) (hA : ∀ q, s.heap.size ≤ q → A q) (is : List Nat) (hn : va_nd is = true) (hC : is.map (fun i => ws[i]?) = wc.map some) (hT : kStrAt tx a (va_A wc H.size) s H) (av : List Value) :
    ∀ U : State, U.heap = H → s.WarmedH U.vm → kP (ES D cy tx a) D av wc H.size av.toArray U := by
  intro U hU hW
  obtain ⟨q1, q2, q3, q4, q5⟩ := kStart (EN_ok D cy) h0 hP hD hS hA is hn hC av U hU hW
  exact ⟨q1, q2, q3, q4, q5, by rw [hU]; exact hT.go (fun _ _ _ => rfl) (fun _ h => h) hW.alike⟩
theorem kStartL {A : Nat → Prop} {D : va_G} {cy : Nat → ClassId} {ws wc : va_W} {s : State} {H : Heap} {locs : List Loc} {tx : List Int32} {a : Nat} (h0 : EL D cy A s s.heap) (hP : va_P D vwCl ws H) (hD : va_D A ws) (hS : va_S A s.heap H locs) (hA : ∀ q, s.heap.size ≤ q → A q) (is : List Nat) (hn : va_nd is = true) (hC : is.map (fun i => ws[i]?) = wc.map some) (hT : kStrAt tx a (va_A wc H.size) s H) (av : List Value) :
    ∀ U : State, U.heap = H → s.WarmedH U.vm → kP (ESL D cy tx a) D av wc H.size av.toArray U := by
  intro U hU hW
  obtain ⟨q1, q2, q3, q4, q5⟩ := kStart (EL_ok D cy) h0 hP hD hS hA is hn hC av U hU hW
  exact ⟨q1, q2, q3, q4, q5, by rw [hU]; exact hT.go (fun _ _ _ => rfl) (fun _ h => h) hW.alike⟩
/-- the names of a price's variables -/
def vTx (j : Nat) : List Int32 := match j with
  | 0 => [115, 104, 111, 119, 110]
  | 1 => [107, 105, 110, 100, 115]
  | 2 => [100, 101, 112, 116, 104]
  | _ => [104, 111, 108, 101]
def kVars (ad : Nat → Nat) (A : Nat → Prop) (U : State) (H : Heap) : Prop := ∃ t : Nat, va_Z "PeepBoxLaw" "VARIABLES" "[Ljava/lang/String;" (.ref t) A U H ∧ va_T (.object "java/lang/String") t 4 (fun j => .ref (ad j)) A U H ∧ ∀ j, j < 4 → kStrAt (vTx j) (ad j) A U H
theorem kVars.go {ad : Nat → Nat} {A B : Nat → Prop} {s U : State} {H0 H : Heap} (h : kVars ad A s H0) (hq : ∀ a : Nat, a < H0.size → ¬ A a → H[a]? = H0[a]?) (hAB : ∀ q, B q → A q) (hW : s.vm.Alike U.vm) : kVars ad B U H := by
  obtain ⟨t, h1, h2, h3⟩ := h
  exact ⟨t, ((va_Z.moved hW h1).kept hq).narrow hAB, ((va_T.moved hW h2).kept hq).narrow hAB, fun j hj => (h3 j hj).go hq hAB hW⟩
/-- EL, the digits, the variables' names -/
def EY (D : va_G) (cy : Nat → ClassId) (ad : Nat → Nat) (A : Nat → Prop) (U : State) (H : Heap) : Prop := EL D cy A U H ∧ kDig A U H ∧ kVars ad A U H ∧ va_Nw (.fieldLinkNest RX8 50 "PeepBoxLaw" "VARIABLES" "[Ljava/lang/String;" "PeepBoxLaw") U
theorem EY_ok (D : va_G) (cy : Nat → ClassId) (ad : Nat → Nat) : EOK (EY D cy ad) := fun A B s U H0 H h hq hAB hW => ⟨EL_ok D cy A B s U H0 H h.1 hq hAB hW, h.2.1.go hq hAB hW.alike, h.2.2.1.go hq hAB hW.alike, va_Nw.warmF hW h.2.2.2⟩
def EYN (D : va_G) (cy : Nat → ClassId) (ad : Nat → Nat) (G : LG) (rN : Nat → Nat) (A : Nat → Prop) (U : State) (H : Heap) : Prop := EY D cy ad A U H ∧ ∀ i, shQ G i = true → ro D (rN i) (nodeE G rN i) A H
theorem EYN_ok (D : va_G) (cy : Nat → ClassId) (ad : Nat → Nat) (G : LG) (rN : Nat → Nat) : EOK (EYN D cy ad G rN) := fun A B s U H0 H h hq hAB hW => ⟨EY_ok D cy ad A B s U H0 H h.1 hq hAB hW, fun i hi => (h.2 i hi).go hq hAB⟩
/-- a String that came back: a variable's name, or new -/
def strR (cy : Nat → ClassId) (ad : Nat → Nat) (tx : List Int32) (r : Nat) (u : va_W) : Prop := (u = [] ∧ ∃ j, j < 4 ∧ r = ad j ∧ tx = vTx j) ∨ ∃ (v : Nat) (f : Nat → Int32), u = [(r, strE v), (v, byE cy tx.length f)] ∧ ∀ j, j < tx.length → f j = tx.getD j 0
theorem kT_R {Ts : List Cond} {args : Array Value} {A : Nat → Prop} {D : va_G} {cy : Nat → ClassId} {ad : Nat → Nat} {s : State} {H : Heap} {locs : List Loc} {x y : Nat × va_E} {u : va_W} {tx : List Int32} {r : Nat} (hts : ∀ w ∈ Ts, w.before args s = true) (hin : ∀ w ∈ u_ws RJ0 TJ0 4, w ∈ Ts) (hK : va_K D vwCl (kTys cy) s) (hV : ∀ j, j < 4 → kStrAt (vTx j) (ad j) A s s.heap) (hu : strR cy ad tx r u) (hP : va_P D vwCl ([x, y] ++ u) H) (hD : va_D A ([x, y] ++ u)) (hS : va_S A s.heap H locs) (hA : ∀ q, s.heap.size ≤ q → A q) : kStrAt tx r (va_A [x, y] H.size) s H := by
  rcases hu with ⟨rfl, j, hj, rfl, rfl⟩ | ⟨v, f, rfl, hf⟩
  · exact kT_old (hV j hj) hD hS hA [0, 1] rfl
  · exact kT_new hts hin hK hP hD 2 3 rfl rfl [0, 1] rfl (by decide) (by decide) hf
def X8_op2 (k : Nat) : List Int32 := if k = 2 then [43] else if k = 3 then [32, 45, 32] else if k = 4 then [42, 32] else [47]
def X8_own (k : Nat) : Nat := if k < 4 then 1 else 2
/-- Node.text: fuel, the node's place, the level -/
def X8_text (G : LG) : Nat → Nat → Nat → Option (List Int32)
  | 0, _, _ => none
  | d + 1, i, lv => ck (shK G i < 6) <|
    if shK G i = 0 then ck (¬ shN G i < 0) <| ck ((shN G i).toNatClampNeg < 10000) <| some (dcs (shN G i).toNatClampNeg)
    else if shK G i = 1 then ck (¬ shN G i < 0) <| ck ((shN G i).toNatClampNeg < 4) <| some (vTx (shN G i).toNatClampNeg)
    else bn1 (X8_text G d (2 * i) (X8_own (shK G i))) fun (a : List Int32) => bn1 (X8_text G d (2 * i + 1) (X8_own (shK G i) + 1)) fun (b : List Int32) => ck (a.length + b.length ≤ 80) <| some (if X8_own (shK G i) < lv then [40] ++ (a ++ X8_op2 (shK G i) ++ b) ++ [41] else a ++ X8_op2 (shK G i) ++ b)
theorem ascS_lit {l : List Int32} (h : l.all (fun x => decide (0 ≤ x) && decide (x < 128)) = true) : ascS l := fun x hx => by
  have := List.all_eq_true.mp h x hx
  rw [Bool.and_eq_true] at this
  exact ⟨of_decide_eq_true this.1, of_decide_eq_true this.2⟩
theorem ascS_app {a b : List Int32} (ha : ascS a) (hb : ascS b) : ascS (a ++ b) := fun x hx => (List.mem_append.mp hx).elim (ha x) (hb x)
theorem vTx_asc {j : Nat} (h : j < 4) : ascS (vTx j) := by
  match j, h with
  | 0, _ => exact ascS_lit (by decide)
  | 1, _ => exact ascS_lit (by decide)
  | 2, _ => exact ascS_lit (by decide)
  | 3, _ => exact ascS_lit (by decide)
theorem X8_op2_asc (k : Nat) : ascS (X8_op2 k) ∧ (X8_op2 k).length ≤ 3 := by
  unfold X8_op2
  split
  · exact ⟨ascS_lit (by decide), by decide⟩
  · split
    · exact ⟨ascS_lit (by decide), by decide⟩
    · split
      · exact ⟨ascS_lit (by decide), by decide⟩
      · exact ⟨ascS_lit (by decide), by decide⟩
theorem X8_text_asc {G : LG} : ∀ (d i lv : Nat) (tx : List Int32), X8_text G d i lv = some tx → ascS tx := by
  intro d
  induction d with
  | zero => intro i lv tx h; cases h
  | succ d ih =>
    intro i lv tx h
    rw [X8_text] at h
    obtain ⟨-, h⟩ := ck_o h
    by_cases h0 : shK G i = 0
    · have h := if_p h h0
      obtain ⟨-, h⟩ := ck_o h
      obtain ⟨h2, h⟩ := ck_o h
      obtain rfl := so_o h
      exact dcs_asc h2
    · have h := if_n h h0
      by_cases h1 : shK G i = 1
      · have h := if_p h h1
        obtain ⟨-, h⟩ := ck_o h
        obtain ⟨h2, h⟩ := ck_o h
        obtain rfl := so_o h
        exact vTx_asc h2
      · have h := if_n h h1
        obtain ⟨a, ha, h⟩ := bn1_o h
        obtain ⟨b, hb, h⟩ := bn1_o h
        obtain ⟨-, h⟩ := ck_o h
        obtain rfl := so_o h
        have hs : ascS (a ++ X8_op2 (shK G i) ++ b) := ascS_app (ascS_app (ih _ _ _ ha) (X8_op2_asc _).1) (ih _ _ _ hb)
        split
        · exact ascS_app (ascS_app (ascS_lit (by decide)) hs) (ascS_lit (by decide))
        · exact hs
def nT : Nat → Nat
  | 0 => 0
  | d + 1 => 14 + nT d + nT d
def sT : Nat → Nat
  | 0 => 0
  | d + 1 => 1700 + sT d + sT d
theorem nT_s (d : Nat) : nT (d + 1) = 14 + nT d + nT d := rfl
theorem sT_s (d : Nat) : sT (d + 1) = 1700 + sT d + sT d := rfl
/-! Node.text (tx.py) -/
theorem sbOK_0 : sbOK ([] : List Int32) 16 (fun _ => (0 : Int32)) := ⟨by decide, by decide, sb_fit0, fun j hj => absurd hj (Nat.not_lt_zero j)⟩
theorem kd_X8_text : yX8_text.cls = RX8 ∧ yX8_text.cls ≠ "java/lang/invoke/MethodHandle" ∧ yX8_text.cls ≠ "java/lang/invoke/VarHandle" ∧ (parseMethodDescriptor yX8_text.desc).map (fun d => d.parameters.length) = some 1 := by decide +kernel
set_option maxHeartbeats 8000000 in
set_option maxRecDepth 100000 in
theorem b_X8_text {l : Launch} {D : va_G} {cy : Nat → ClassId} (ad : Nat → Nat) (G : LG) (rN : Nat → Nat) : ∀ (d i lv sz : Nat) (tx : List Int32), shQ G i = true → X8_at d i → X8_text G d i lv = some tx → lv < 2 ^ 31 → Met l yX8_text wsX8_text ({ frames := d + 7, cells := nT d, slots := sT d, locals := 100 * d + 400 } : Room) (kP (EYN D cy ad G rN) D [.ref (rN i), .int (nI lv)] ([] : va_W) sz) (kQR D (fun (u : va_W) (r : Nat) => strR cy ad tx r u) (fun u _ => u) (va_A ([] : va_W) sz)) (nT d) (sT d) (va_A ([] : va_W) sz) := by
  intro d
  induction d with
  | zero =>
    intro i lv sz tx _ _ hF
    cases hF
  | succ d ih =>
    intro i lv sz tx hq hat hF hlv31
    refine kMet (y := yX8_text) (av := [.ref (rN i), .int (nI lv)]) (cc := cX8_text) (maxL := 4) (ret := some (.object "java/lang/String")) (own := RX8) (Qc := fun A9 => (kQR D (fun (u : va_W) (r : Nat) => strR cy ad tx r u) (fun u _ => u) A9)) (by decide) rfl rfl (Nat.le_of_ble_eq_true rfl) ?_
    intro p e s m args below meth c A hx hb hr hts hown hml hlocks hname hE hP hD hA hsz ls hl
    have hEYN := hE
    obtain ⟨⟨hEL, hDig, hVar, hNest⟩, hNod⟩ := hE
    have hE := hEL.1
    have hL := hEL.2
    have hED : ED D cy A s s.heap := ⟨hE, hDig⟩
    have gn := hNod i hq
    have hV : ∀ j, j < 4 → kStrAt (vTx j) (ad j) A s s.heap := by obtain ⟨_, _, _, h⟩ := hVar; exact h
    have hK := hE.1
    have hl : lv_has ls 4 [(0, .ref (rN i)), (1, .int (nI lv))] := hl
    have hS : va_S A s.heap s.heap [] := va_S.rf
    have inJ0 : ∀ w ∈ wsJ00, w ∈ wsX8_text := by decide +kernel
    have f16 := hts (.fieldLink RX8 16 "PeepBoxLaw$Node" "kind" "I") (by decide +kernel)
    have inX8 : ∀ w ∈ wsX80, w ∈ wsX8_text := by decide +kernel
    have k34 := hts (.classLink RX8 34 RJ4) (by decide +kernel)
    have nJ4 := hts (.instantiable RJ4 4) (by decide +kernel)
    have iRJ4 := hts (.initialized RJ4) (by decide +kernel)
    have inJ4 : ∀ w ∈ wsJ40, w ∈ wsX8_text := by decide +kernel
    have l36 := hts (.methodLink RX8 36 yJ4_init_da8c8) (by decide +kernel)
    have imJ4_init_da8c8 := hts (.instanceMethod yJ4_init_da8c8) (by decide +kernel)
    have f20 := hts (.fieldLink RX8 20 "PeepBoxLaw$Node" "number" "I") (by decide +kernel)
    have f27 := hts (.fieldLink RX8 27 "PeepBoxLaw$Node" "left" "LPeepBoxLaw$Node;") (by decide +kernel)
    have f31 := hts (.fieldLink RX8 31 "PeepBoxLaw$Node" "right" "LPeepBoxLaw$Node;") (by decide +kernel)
    obtain ⟨QQ, hQQ⟩ : ∃ Q9, Q9 = MQ below (kQR D (fun (u : va_W) (r : Nat) => strR cy ad tx r u) (fun u _ => u) A) args s (nT (d + 1)) (sT (d + 1)) A := ⟨_, rfl⟩
    rw [← hQQ]
    obtain ⟨H, hH⟩ : ∃ H9, H9 = s.heap := ⟨_, rfl⟩
    have hP : va_P D vwCl (([] : va_W)) H := by rw [hH]; exact hP
    have hS : va_S A s.heap H [] := by rw [hH]; exact hS
    rw [← hH]
    rw [X8_text] at hF
    obtain ⟨hk6, hF⟩ := ck_o hF
    have hlt : ∀ n : Nat, n < 6 → (nI (shK G i) = nI n ↔ shK G i = n) := fun n hn => nI_eq (by omega) (by omega)
    refine lv_aload_n hx hb dX8_text_0 rfl (lv_at hl 0 rfl) ?_
    refine va_get (D := D) (ci := 8) (v := .int (nI (shK G i))) (C := RX8) (T := TX8) (N := 4) hx hb hts inX8 hown hK (gn.P hS) 0 rfl rfl 0 (by decide) f16 (fun _ h9 => h9) rfl dX8_text_1 ?_
    by_cases k0 : shK G i = 0
    · skip
      have hF := if_p hF k0
      obtain ⟨hn0, hF⟩ := ck_o hF
      obtain ⟨hw, hF⟩ := ck_o hF
      obtain rfl := so_o hF
      obtain ⟨w, ew⟩ : ∃ w : Nat, w = (shN G i).toNatClampNeg := ⟨_, rfl⟩
      have hnw : shN G i = nI w := by obtain ⟨j, hj, ej⟩ := nI_of hn0; rw [ew, ej, nI_clamp hj]
      rw [← ew] at hw
      refine lv_if_ne (tgt := 30) hx hb dX8_text_4 (by decide) (fun h1 => absurd (congrArg nI k0) h1) (fun _ => ?_)
      refine va_new (ci := 12) (fs := [.null, .int 0, .int 0, .int 0]) (C := RJ4) (T := TJ4) (N := 4) hx hb hts inJ4 tyJ4 tyJ4_ok hown k34 nJ4 iRJ4 hK hP hD hS hA rfl (fun j hj => by rcases (show j = 0 ∨ j = 1 ∨ j = 2 ∨ j = 3 by omega) with rfl | rfl | rfl | rfl <;> rfl) (by show (0 + 1) ≤ nT (d + 1); rw [nT_s]; omega) (by show (0 + 4) ≤ sT (d + 1); rw [sT_s]; omega) dX8_text_7 (fun b H hP hD hS => ?_)
      have hP : va_P D vwCl ([(b, .inr (12, [.null, .int (0 : Int32), .int (0 : Int32), .int (0 : Int32)]))]) H := hP
      have hD : va_D A ([(b, .inr (12, [.null, .int (0 : Int32), .int (0 : Int32), .int (0 : Int32)]))]) := hD
      refine lv_dup hx hb dX8_text_10 rfl ?_
      refine kc_E (va_runI (As := []) (rest := [.ref b]) ⟨hx, hb, hml, hown, hts⟩ (c_J4_init_da8c8 b H.size) (cwI 0 hts gX8_text_J4_init_da8c8 rfl rfl rfl iRJ4 l36 imJ4_init_da8c8 rfl kd_J4_init_da8c8 ⟨by dsimp only; omega, by dsimp only; omega⟩) ⟨kP_blind (EN_ok D cy) D _ _ _, kStart (EN_ok D cy) hE hP hD hS hA [0] rfl rfl _⟩ rfl rfl hl.1 rfl (lv_room (Nat.le_of_ble_eq_true rfl)) dX8_text_11 ⟨by show (0 + 1) + 1 ≤ nT (d + 1); rw [nT_s]; omega, by show (0 + 4) + 16 ≤ sT (d + 1); rw [sT_s]; omega⟩) hP hD hS hA [0] rfl (fun _ => Nat.le_of_ble_eq_true rfl) (fun v H locs _ hP hD hS => ?_)
      have hP : va_P D vwCl ([(b, .inr (12, [.ref v, .int (0 : Int32), .int (0 : Int32), .int (nI (([] : List Int32).length))])), (v, .inl (cy 1, 16, .inl (fun _ => (0 : Int32))))]) H := hP
      have hD : va_D A ([(b, .inr (12, [.ref v, .int (0 : Int32), .int (0 : Int32), .int (nI (([] : List Int32).length))])), (v, .inl (cy 1, 16, .inl (fun _ => (0 : Int32))))]) := hD
      have ok : sbOK ([] : List Int32) 16 (fun _ => (0 : Int32)) := sbOK_0
      obtain ⟨a2, hRa2, hTa2⟩ := hL.2.2.2.2.2.2.2 ("PeepBoxLaw$Node", 37, "", []) (by decide +kernel)
      refine va_ldcS hx hb hown hRa2 dX8_text_14 ?_
      refine kc_R (va_runV (As := [.ref a2]) (rest := []) ⟨hx, hb, hml, hown, hts⟩ (c_J4_append_15ec4 b v 16 a2 H.size (0 : Int32) ([] : List Int32) ([] : List Int32) (fun _ => (0 : Int32)) ok (ascS_lit (by decide)) (by decide)) (cwV 1 hts gX8_text_J4_append_15ec4 rfl rfl rfl kd_J4_append_15ec4 ⟨by dsimp only; omega, by dsimp only; omega⟩) ⟨kP_blind (ES_ok D cy ([] : List Int32) a2) D _ _ _, va_recv hK hP (ci := 12) (q0 := 0) rfl rfl, kStartS hE hP hD hS hA [0, 1] rfl rfl (kT_old hTa2 hD hS hA [0, 1] rfl) _⟩ rfl rfl hl.1 rfl (lv_room (Nat.le_of_ble_eq_true rfl)) dX8_text_16 ⟨by show ((0 + 1) + 1) + 1 ≤ nT (d + 1); rw [nT_s]; omega, by show ((0 + 4) + 16) + 200 ≤ sT (d + 1); rw [sT_s]; omega⟩) hP hD hS hA [0, 1] rfl (fun _ _ => Nat.le_of_ble_eq_true rfl) (fun u r_1 H locs hu hP hD hS => ?_)
      obtain ⟨v_1, m_1, f_1⟩ := u
      obtain ⟨rfl, ok⟩ := hu
      rw [show ([] : List Int32).length + ([] : List Int32).length = (([] : List Int32) ++ ([] : List Int32)).length from (List.length_append).symm] at hP hD
      have hP : va_P D vwCl ([(r_1, .inr (12, [.ref v_1, .int (0 : Int32), .int (0 : Int32), .int (nI ((([] : List Int32) ++ ([] : List Int32)).length))])), (v_1, .inl (cy 1, m_1, .inl f_1))]) H := hP
      have hD : va_D A ([(r_1, .inr (12, [.ref v_1, .int (0 : Int32), .int (0 : Int32), .int (nI ((([] : List Int32) ++ ([] : List Int32)).length))])), (v_1, .inl (cy 1, m_1, .inl f_1))]) := hD
      refine lv_aload_n hx hb dX8_text_19 rfl (lv_at hl 0 rfl) ?_
      refine va_get (D := D) (ci := 8) (v := .int (shN G i)) (C := RX8) (T := TX8) (N := 4) hx hb hts inX8 hown hK (gn.P hS) 0 rfl rfl 1 (by decide) f20 (fun _ h9 => h9) rfl dX8_text_20 ?_
      rw [hnw]
      refine kc_R (va_runV (As := [.int (nI w)]) (rest := []) ⟨hx, hb, hml, hown, hts⟩ (c_J4_append_bf812 r_1 v_1 m_1 w H.size (0 : Int32) (([] : List Int32) ++ ([] : List Int32)) f_1 ok hw (by decide)) (cwV 1 hts gX8_text_J4_append_bf812 rfl rfl rfl kd_J4_append_bf812 ⟨by dsimp only; omega, by dsimp only; omega⟩) ⟨kP_blind (ED_ok D cy) D _ _ _, va_recv hK hP (ci := 12) (q0 := 0) rfl rfl, kStart (ED_ok D cy) hED hP hD hS hA [0, 1] rfl rfl _⟩ rfl rfl hl.1 rfl (lv_room (Nat.le_of_ble_eq_true rfl)) dX8_text_23 ⟨by show (((0 + 1) + 1) + 1) + 1 ≤ nT (d + 1); rw [nT_s]; omega, by show (((0 + 4) + 16) + 200) + 200 ≤ sT (d + 1); rw [sT_s]; omega⟩) hP hD hS hA [0, 1] rfl (fun _ _ => Nat.le_of_ble_eq_true rfl) (fun u r_2 H locs hu hP hD hS => ?_)
      obtain ⟨v_2, m_2, f_2⟩ := u
      obtain ⟨rfl, ok⟩ := hu
      rw [show (([] : List Int32) ++ ([] : List Int32)).length + dcn w = ((([] : List Int32) ++ ([] : List Int32)) ++ dcs w).length from (by rw [← dcs_len w]; exact (List.length_append).symm)] at hP hD
      have hP : va_P D vwCl ([(r_2, .inr (12, [.ref v_2, .int (0 : Int32), .int (0 : Int32), .int (nI (((([] : List Int32) ++ ([] : List Int32)) ++ dcs w).length))])), (v_2, .inl (cy 1, m_2, .inl f_2))]) H := hP
      have hD : va_D A ([(r_2, .inr (12, [.ref v_2, .int (0 : Int32), .int (0 : Int32), .int (nI (((([] : List Int32) ++ ([] : List Int32)) ++ dcs w).length))])), (v_2, .inl (cy 1, m_2, .inl f_2))]) := hD
      refine kc_R (va_runV (As := []) (rest := []) ⟨hx, hb, hml, hown, hts⟩ (c_J4_toString_0e30d r_2 v_2 m_2 ((([] : List Int32) ++ ([] : List Int32)) ++ dcs w).length H.size (0 : Int32) f_2 ok.1 ok.2.1 ok.2.2.1) (cwV 0 hts gX8_text_J4_toString_0e30d rfl rfl rfl kd_J4_toString_0e30d ⟨by dsimp only; omega, by dsimp only; omega⟩) ⟨kP_blind (EL_ok D cy) D _ _ _, va_recv hK hP (ci := 12) (q0 := 0) rfl rfl, kStart (EL_ok D cy) hEL hP hD hS hA [0, 1] rfl rfl _⟩ rfl rfl hl.1 rfl (lv_room (Nat.le_of_ble_eq_true rfl)) dX8_text_26 ⟨by show ((((0 + 1) + 1) + 1) + 1) + 2 ≤ nT (d + 1); rw [nT_s]; omega, by show ((((0 + 4) + 16) + 200) + 200) + 204 ≤ sT (d + 1); rw [sT_s]; omega⟩) hP hD hS hA [0, 1] rfl (fun _ _ => Nat.le_of_ble_eq_true rfl) (fun u s0 H locs hu hP hD hS => ?_)
      obtain ⟨sv0, sf0⟩ := u
      have hsf0 : ∀ j, j < ((([] : List Int32) ++ ([] : List Int32)) ++ dcs w).length → sf0 j = ((([] : List Int32) ++ ([] : List Int32)) ++ dcs w).getD j 0 := fun j hj => (hu.2 j hj).trans (ok.2.2.2 j hj)
      have hP : va_P D vwCl ([(r_2, .inr (12, [.ref v_2, .int (0 : Int32), .int (0 : Int32), .int (nI (((([] : List Int32) ++ ([] : List Int32)) ++ dcs w).length))])), (v_2, .inl (cy 1, m_2, .inl f_2)), (s0, .inr (11, [.ref sv0, .int (0 : Int32), .int (0 : Int32), .int (0 : Int32)])), (sv0, .inl (cy 1, ((([] : List Int32) ++ ([] : List Int32)) ++ dcs w).length, .inl sf0))]) H := hP
      have hD : va_D A ([(r_2, .inr (12, [.ref v_2, .int (0 : Int32), .int (0 : Int32), .int (nI (((([] : List Int32) ++ ([] : List Int32)) ++ dcs w).length))])), (v_2, .inl (cy 1, m_2, .inl f_2)), (s0, .inr (11, [.ref sv0, .int (0 : Int32), .int (0 : Int32), .int (0 : Int32)])), (sv0, .inl (cy 1, ((([] : List Int32) ++ ([] : List Int32)) ++ dcs w).length, .inl sf0))]) := hD
      have hP : va_P D vwCl ([(s0, .inr (11, [.ref sv0, .int (0 : Int32), .int (0 : Int32), .int (0 : Int32)])), (sv0, .inl (cy 1, ((([] : List Int32) ++ ([] : List Int32)) ++ dcs w).length, .inl sf0))]) H := hP.sub [2, 3] rfl
      have hD : va_D A ([(s0, .inr (11, [.ref sv0, .int (0 : Int32), .int (0 : Int32), .int (0 : Int32)])), (sv0, .inl (cy 1, ((([] : List Int32) ++ ([] : List Int32)) ++ dcs w).length, .inl sf0))]) := hD.sub [2, 3] rfl rfl
      rw [hQQ, ← ew]
      exact kr_R [(s0, strE sv0), (sv0, byE cy (dcs w).length sf0)] (Or.inr ⟨sv0, sf0, rfl, hsf0⟩) hx hb hr (Or.inl ⟨_, rfl⟩) hlocks hP hD hS dX8_text_29 (by show (((((0 + 1) + 1) + 1) + 1) + 2) ≤ nT (d + 1); rw [nT_s]; omega) (by show (((((0 + 4) + 16) + 200) + 200) + 204) ≤ sT (d + 1); rw [sT_s]; omega)
    · skip
      have hF := if_n hF k0
      refine lv_if_ne (tgt := 30) hx hb dX8_text_4 (by decide) (fun _ => ?_) (fun h1 => absurd h1 (fun z => k0 ((hlt 0 (by decide)).mp z)))
      refine lv_aload_n hx hb dX8_text_30 rfl (lv_at hl 0 rfl) ?_
      refine va_get (D := D) (ci := 8) (v := .int (nI (shK G i))) (C := RX8) (T := TX8) (N := 4) hx hb hts inX8 hown hK (gn.P hS) 0 rfl rfl 0 (by decide) f16 (fun _ h9 => h9) rfl dX8_text_31 ?_
      refine lv_iconst (v := 1) hx hb dX8_text_34 (by decide) ?_
      by_cases k1 : shK G i = 1
      · skip
        have hF := if_p hF k1
        obtain ⟨hn0, hF⟩ := ck_o hF
        obtain ⟨hw, hF⟩ := ck_o hF
        obtain rfl := so_o hF
        obtain ⟨tv, hz, hv, -⟩ := hVar
        refine lv_icmp_ne (tgt := 47) hx hb dX8_text_35 (by decide) (fun h2 => absurd (congrArg nI k1) h2) (fun _ => ?_)
        refine va_getsN hx hb hz hS hown (va_Nw.use rfl hNest) (fun _ h9 => h9) dX8_text_38 ?_
        refine lv_aload_n hx hb dX8_text_41 rfl (lv_at hl 0 rfl) ?_
        refine va_get (D := D) (ci := 8) (v := .int (shN G i)) (C := RX8) (T := TX8) (N := 4) hx hb hts inX8 hown hK (gn.P hS) 0 rfl rfl 1 (by decide) f20 (fun _ h9 => h9) rfl dX8_text_42 ?_
        refine vb_tq hx hb hv hS (i := shN G i) (fun q => q.elim hn0 (fun q => absurd hw (Nat.not_lt.mpr q))) (v := .ref (ad (shN G i).toNatClampNeg)) rfl dX8_text_45 ?_
        rw [hQQ]
        exact kr_R ([] : va_W) (Or.inl ⟨rfl, _, hw, rfl, rfl⟩) hx hb hr (Or.inl ⟨_, rfl⟩) hlocks hP hD hS dX8_text_46 (by show 0 ≤ nT (d + 1); rw [nT_s]; omega) (by show 0 ≤ sT (d + 1); rw [sT_s]; omega)
      · skip
        have hF := if_n hF k1
        obtain ⟨ta, hFa, hF⟩ := bn1_o hF
        obtain ⟨tb, hFb, hF⟩ := bn1_o hF
        obtain ⟨hlen, hF⟩ := ck_o hF
        obtain rfl := so_o hF
        have hk : 1 < shK G i := by omega
        have hd0 : 0 < d := by cases d with | zero => cases hFa | succ d => exact Nat.succ_pos d
        obtain ⟨q1, q2, t1, t2⟩ := X8_kids hat hq hk hd0
        have aa := X8_text_asc _ _ _ _ hFa
        have ab := X8_text_asc _ _ _ _ hFb
        have ao := X8_op2_asc (shK G i)
        rw [nodeE, if_pos hk, if_pos hk] at gn
        obtain ⟨own, eown⟩ : ∃ o : Nat, o = X8_own (shK G i) := ⟨_, rfl⟩
        rw [← eown] at hFa hFb
        have ho : own = 1 ∨ own = 2 := by rw [eown, X8_own]; split; exact Or.inl rfl; exact Or.inr rfl
        refine lv_icmp_ne (tgt := 47) hx hb dX8_text_35 (by decide) (fun _ => ?_) (fun h2 => absurd h2 (fun z => k1 ((hlt 1 (by decide)).mp (show nI _ = nI 1 from z))))
        have J : ∀ (H : Heap) (locs : List Loc) (ls : Array Slot), va_P D vwCl ([] : va_W) H → va_D A ([] : va_W) → va_S A s.heap H locs → lv_has ls 4 [(0, .ref (rN i)), (1, .int (nI lv))] → W p l e ({ frames := (d + 1) + 7, cells := nT (d + 1), slots := sT (d + 1), locals := 100 * (d + 1) + 400 } : Room) s m args below meth c H locs 0 0 QQ (F0 m 60 ls [.int (nI own)]) := by
          intro H locs ls hP hD hS hl
          refine lv_istore_n (lv' := [(2, .int (nI own)), (0, .ref (rN i)), (1, .int (nI lv))]) hx hb dX8_text_60 rfl hl (by decide) rfl (fun ls hl => ?_)
          refine va_new (ci := 12) (fs := [.null, .int 0, .int 0, .int 0]) (C := RJ4) (T := TJ4) (N := 4) hx hb hts inJ4 tyJ4 tyJ4_ok hown k34 nJ4 iRJ4 hK hP hD hS hA rfl (fun j hj => by rcases (show j = 0 ∨ j = 1 ∨ j = 2 ∨ j = 3 by omega) with rfl | rfl | rfl | rfl <;> rfl) (by show (0 + 1) ≤ nT (d + 1); rw [nT_s]; omega) (by show (0 + 4) ≤ sT (d + 1); rw [sT_s]; omega) dX8_text_61 (fun b H hP hD hS => ?_)
          have hP : va_P D vwCl ([(b, .inr (12, [.null, .int (0 : Int32), .int (0 : Int32), .int (0 : Int32)]))]) H := hP
          have hD : va_D A ([(b, .inr (12, [.null, .int (0 : Int32), .int (0 : Int32), .int (0 : Int32)]))]) := hD
          refine lv_dup hx hb dX8_text_64 rfl ?_
          refine kc_E (va_runI (As := []) (rest := [.ref b]) ⟨hx, hb, hml, hown, hts⟩ (c_J4_init_da8c8 b H.size) (cwI 0 hts gX8_text_J4_init_da8c8 rfl rfl rfl iRJ4 l36 imJ4_init_da8c8 rfl kd_J4_init_da8c8 ⟨by dsimp only; omega, by dsimp only; omega⟩) ⟨kP_blind (EN_ok D cy) D _ _ _, kStart (EN_ok D cy) hE hP hD hS hA [0] rfl rfl _⟩ rfl rfl hl.1 rfl (lv_room (Nat.le_of_ble_eq_true rfl)) dX8_text_65 ⟨by show (0 + 1) + 1 ≤ nT (d + 1); rw [nT_s]; omega, by show (0 + 4) + 16 ≤ sT (d + 1); rw [sT_s]; omega⟩) hP hD hS hA [0] rfl (fun _ => Nat.le_of_ble_eq_true rfl) (fun v H locs _ hP hD hS => ?_)
          have hP : va_P D vwCl ([(b, .inr (12, [.ref v, .int (0 : Int32), .int (0 : Int32), .int (nI (([] : List Int32).length))])), (v, .inl (cy 1, 16, .inl (fun _ => (0 : Int32))))]) H := hP
          have hD : va_D A ([(b, .inr (12, [.ref v, .int (0 : Int32), .int (0 : Int32), .int (nI (([] : List Int32).length))])), (v, .inl (cy 1, 16, .inl (fun _ => (0 : Int32))))]) := hD
          have ok : sbOK ([] : List Int32) 16 (fun _ => (0 : Int32)) := sbOK_0
          refine lv_aload_n hx hb dX8_text_68 rfl (lv_at hl 1 rfl) ?_
          refine va_get (D := D) (ci := 8) (v := .ref (rN (2 * i))) (C := RX8) (T := TX8) (N := 4) hx hb hts inX8 hown hK (gn.P hS) 0 rfl rfl 2 (by decide) f27 (fun _ h9 => h9) rfl dX8_text_69 ?_
          refine lv_iload_n hx hb dX8_text_72 rfl (lv_at hl 0 rfl) ?_
          refine kc_R (va_runV (As := [.int (nI own)]) (rest := [.ref b]) ⟨hx, hb, hml, hown, hts⟩ (ih (2 * i) (own) H.size ta q1 t1 hFa (by omega)) (cwV 1 hts gX8_text_X8_text rfl rfl rfl kd_X8_text ⟨by dsimp only; omega, by dsimp only; omega⟩) ⟨kP_blind (EYN_ok D cy ad G rN) D _ _ _, va_recv hK ((hNod (2 * i) q1).P hS) (ci := 8) (q0 := 0) rfl rfl, kStart (EYN_ok D cy ad G rN) hEYN hP hD hS hA [] rfl rfl _⟩ rfl rfl hl.1 rfl (lv_room (Nat.le_of_ble_eq_true rfl)) dX8_text_73 ⟨by show ((0 + 1) + 1) + nT d ≤ nT (d + 1); rw [nT_s]; omega, by show ((0 + 4) + 16) + sT d ≤ sT (d + 1); rw [sT_s]; omega⟩) hP hD hS hA [] rfl (fun _ _ => Nat.zero_le _) (fun u rc H locs hu hP hD hS => ?_)
          rw [wjn_nil] at hP hD
          have hTc := kT_R hts inJ0 hK hV hu hP hD hS hA
          have hP : va_P D vwCl ([(b, .inr (12, [.ref v, .int (0 : Int32), .int (0 : Int32), .int (nI (([] : List Int32).length))])), (v, .inl (cy 1, 16, .inl (fun _ => (0 : Int32))))]) H := hP.sub [0, 1] rfl
          have hD : va_D A ([(b, .inr (12, [.ref v, .int (0 : Int32), .int (0 : Int32), .int (nI (([] : List Int32).length))])), (v, .inl (cy 1, 16, .inl (fun _ => (0 : Int32))))]) := hD.sub [0, 1] rfl rfl
          refine kc_R (va_runV (As := [.ref rc]) (rest := []) ⟨hx, hb, hml, hown, hts⟩ (c_J4_append_15ec4 b v 16 rc H.size (0 : Int32) ([] : List Int32) ta (fun _ => (0 : Int32)) ok aa (by simp only [List.length_append, List.length_nil]; have := ao.2; omega)) (cwV 1 hts gX8_text_J4_append_15ec4 rfl rfl rfl kd_J4_append_15ec4 ⟨by dsimp only; omega, by dsimp only; omega⟩) ⟨kP_blind (ES_ok D cy ta rc) D _ _ _, va_recv hK hP (ci := 12) (q0 := 0) rfl rfl, kStartS hE hP hD hS hA [0, 1] rfl rfl (hTc) _⟩ rfl rfl hl.1 rfl (lv_room (Nat.le_of_ble_eq_true rfl)) dX8_text_76 ⟨by show (((0 + 1) + 1) + nT d) + 1 ≤ nT (d + 1); rw [nT_s]; omega, by show (((0 + 4) + 16) + sT d) + 200 ≤ sT (d + 1); rw [sT_s]; omega⟩) hP hD hS hA [0, 1] rfl (fun _ _ => Nat.le_of_ble_eq_true rfl) (fun u r_1 H locs hu hP hD hS => ?_)
          obtain ⟨v_1, m_1, f_1⟩ := u
          obtain ⟨rfl, ok⟩ := hu
          rw [show ([] : List Int32).length + ta.length = (([] : List Int32) ++ ta).length from (List.length_append).symm] at hP hD
          have hP : va_P D vwCl ([(r_1, .inr (12, [.ref v_1, .int (0 : Int32), .int (0 : Int32), .int (nI ((([] : List Int32) ++ ta).length))])), (v_1, .inl (cy 1, m_1, .inl f_1))]) H := hP
          have hD : va_D A ([(r_1, .inr (12, [.ref v_1, .int (0 : Int32), .int (0 : Int32), .int (nI ((([] : List Int32) ++ ta).length))])), (v_1, .inl (cy 1, m_1, .inl f_1))]) := hD
          have J2 : ∀ (a : Nat) (H : Heap) (locs : List Loc) (ls : Array Slot), kStrAt (X8_op2 (shK G i)) a A s s.heap → va_P D vwCl ([(r_1, .inr (12, [.ref v_1, .int (0 : Int32), .int (0 : Int32), .int (nI ((([] : List Int32) ++ ta).length))])), (v_1, .inl (cy 1, m_1, .inl f_1))]) H → va_D A ([(r_1, .inr (12, [.ref v_1, .int (0 : Int32), .int (0 : Int32), .int (nI ((([] : List Int32) ++ ta).length))])), (v_1, .inl (cy 1, m_1, .inl f_1))]) → va_S A s.heap H locs → lv_has ls 4 [(2, .int (nI own)), (0, .ref (rN i)), (1, .int (nI lv))] → W p l e ({ frames := (d + 1) + 7, cells := nT (d + 1), slots := sT (d + 1), locals := 100 * (d + 1) + 400 } : Room) s m args below meth c H locs ((((0 + 1) + 1) + nT d) + 1) ((((0 + 4) + 16) + sT d) + 200) QQ (F0 m 120 ls [.ref a, .ref r_1]) := by
            intro a H locs ls hTo hP hD hS hl
            refine kc_R (va_runV (As := [.ref a]) (rest := []) ⟨hx, hb, hml, hown, hts⟩ (c_J4_append_15ec4 r_1 v_1 m_1 a H.size (0 : Int32) (([] : List Int32) ++ ta) (X8_op2 (shK G i)) f_1 ok ao.1 (by simp only [List.length_append, List.length_nil]; have := ao.2; omega)) (cwV 1 hts gX8_text_J4_append_15ec4 rfl rfl rfl kd_J4_append_15ec4 ⟨by dsimp only; omega, by dsimp only; omega⟩) ⟨kP_blind (ES_ok D cy (X8_op2 (shK G i)) a) D _ _ _, va_recv hK hP (ci := 12) (q0 := 0) rfl rfl, kStartS hE hP hD hS hA [0, 1] rfl rfl (kT_old hTo hD hS hA [0, 1] rfl) _⟩ rfl rfl hl.1 rfl (lv_room (Nat.le_of_ble_eq_true rfl)) dX8_text_120 ⟨by show ((((0 + 1) + 1) + nT d) + 1) + 1 ≤ nT (d + 1); rw [nT_s]; omega, by show ((((0 + 4) + 16) + sT d) + 200) + 200 ≤ sT (d + 1); rw [sT_s]; omega⟩) hP hD hS hA [0, 1] rfl (fun _ _ => Nat.le_of_ble_eq_true rfl) (fun u r_2 H locs hu hP hD hS => ?_)
            obtain ⟨v_2, m_2, f_2⟩ := u
            obtain ⟨rfl, ok⟩ := hu
            rw [show (([] : List Int32) ++ ta).length + (X8_op2 (shK G i)).length = ((([] : List Int32) ++ ta) ++ (X8_op2 (shK G i))).length from (List.length_append).symm] at hP hD
            have hP : va_P D vwCl ([(r_2, .inr (12, [.ref v_2, .int (0 : Int32), .int (0 : Int32), .int (nI (((([] : List Int32) ++ ta) ++ (X8_op2 (shK G i))).length))])), (v_2, .inl (cy 1, m_2, .inl f_2))]) H := hP
            have hD : va_D A ([(r_2, .inr (12, [.ref v_2, .int (0 : Int32), .int (0 : Int32), .int (nI (((([] : List Int32) ++ ta) ++ (X8_op2 (shK G i))).length))])), (v_2, .inl (cy 1, m_2, .inl f_2))]) := hD
            refine lv_aload_n hx hb dX8_text_123 rfl (lv_at hl 1 rfl) ?_
            refine va_get (D := D) (ci := 8) (v := .ref (rN (2 * i + 1))) (C := RX8) (T := TX8) (N := 4) hx hb hts inX8 hown hK (gn.P hS) 0 rfl rfl 3 (by decide) f31 (fun _ h9 => h9) rfl dX8_text_124 ?_
            refine lv_iload_n hx hb dX8_text_127 rfl (lv_at hl 0 rfl) ?_
            refine lv_iconst (v := 1) hx hb dX8_text_128 (by decide) ?_
            refine lv_iadd hx hb dX8_text_129 ?_
            rw [show ((nI own) + (1 : Int32)) = (nI (own + 1)) from nI_1 own]
            refine kc_R (va_runV (As := [.int (nI (own + 1))]) (rest := [.ref r_2]) ⟨hx, hb, hml, hown, hts⟩ (ih (2 * i + 1) (own + 1) H.size tb q2 t2 hFb (by omega)) (cwV 1 hts gX8_text_X8_text rfl rfl rfl kd_X8_text ⟨by dsimp only; omega, by dsimp only; omega⟩) ⟨kP_blind (EYN_ok D cy ad G rN) D _ _ _, va_recv hK ((hNod (2 * i + 1) q2).P hS) (ci := 8) (q0 := 0) rfl rfl, kStart (EYN_ok D cy ad G rN) hEYN hP hD hS hA [] rfl rfl _⟩ rfl rfl hl.1 rfl (lv_room (Nat.le_of_ble_eq_true rfl)) dX8_text_130 ⟨by show (((((0 + 1) + 1) + nT d) + 1) + 1) + nT d ≤ nT (d + 1); rw [nT_s]; omega, by show (((((0 + 4) + 16) + sT d) + 200) + 200) + sT d ≤ sT (d + 1); rw [sT_s]; omega⟩) hP hD hS hA [] rfl (fun _ _ => Nat.zero_le _) (fun u rc H locs hu hP hD hS => ?_)
            rw [wjn_nil] at hP hD
            have hTc := kT_R hts inJ0 hK hV hu hP hD hS hA
            have hP : va_P D vwCl ([(r_2, .inr (12, [.ref v_2, .int (0 : Int32), .int (0 : Int32), .int (nI (((([] : List Int32) ++ ta) ++ (X8_op2 (shK G i))).length))])), (v_2, .inl (cy 1, m_2, .inl f_2))]) H := hP.sub [0, 1] rfl
            have hD : va_D A ([(r_2, .inr (12, [.ref v_2, .int (0 : Int32), .int (0 : Int32), .int (nI (((([] : List Int32) ++ ta) ++ (X8_op2 (shK G i))).length))])), (v_2, .inl (cy 1, m_2, .inl f_2))]) := hD.sub [0, 1] rfl rfl
            refine kc_R (va_runV (As := [.ref rc]) (rest := []) ⟨hx, hb, hml, hown, hts⟩ (c_J4_append_15ec4 r_2 v_2 m_2 rc H.size (0 : Int32) ((([] : List Int32) ++ ta) ++ (X8_op2 (shK G i))) tb f_2 ok ab (by simp only [List.length_append, List.length_nil]; have := ao.2; omega)) (cwV 1 hts gX8_text_J4_append_15ec4 rfl rfl rfl kd_J4_append_15ec4 ⟨by dsimp only; omega, by dsimp only; omega⟩) ⟨kP_blind (ES_ok D cy tb rc) D _ _ _, va_recv hK hP (ci := 12) (q0 := 0) rfl rfl, kStartS hE hP hD hS hA [0, 1] rfl rfl (hTc) _⟩ rfl rfl hl.1 rfl (lv_room (Nat.le_of_ble_eq_true rfl)) dX8_text_133 ⟨by show ((((((0 + 1) + 1) + nT d) + 1) + 1) + nT d) + 1 ≤ nT (d + 1); rw [nT_s]; omega, by show ((((((0 + 4) + 16) + sT d) + 200) + 200) + sT d) + 200 ≤ sT (d + 1); rw [sT_s]; omega⟩) hP hD hS hA [0, 1] rfl (fun _ _ => Nat.le_of_ble_eq_true rfl) (fun u r_3 H locs hu hP hD hS => ?_)
            obtain ⟨v_3, m_3, f_3⟩ := u
            obtain ⟨rfl, ok⟩ := hu
            rw [show ((([] : List Int32) ++ ta) ++ (X8_op2 (shK G i))).length + tb.length = (((([] : List Int32) ++ ta) ++ (X8_op2 (shK G i))) ++ tb).length from (List.length_append).symm] at hP hD
            have hP : va_P D vwCl ([(r_3, .inr (12, [.ref v_3, .int (0 : Int32), .int (0 : Int32), .int (nI ((((([] : List Int32) ++ ta) ++ (X8_op2 (shK G i))) ++ tb).length))])), (v_3, .inl (cy 1, m_3, .inl f_3))]) H := hP
            have hD : va_D A ([(r_3, .inr (12, [.ref v_3, .int (0 : Int32), .int (0 : Int32), .int (nI ((((([] : List Int32) ++ ta) ++ (X8_op2 (shK G i))) ++ tb).length))])), (v_3, .inl (cy 1, m_3, .inl f_3))]) := hD
            refine kc_R (va_runV (As := []) (rest := []) ⟨hx, hb, hml, hown, hts⟩ (c_J4_toString_0e30d r_3 v_3 m_3 (((([] : List Int32) ++ ta) ++ (X8_op2 (shK G i))) ++ tb).length H.size (0 : Int32) f_3 ok.1 ok.2.1 ok.2.2.1) (cwV 0 hts gX8_text_J4_toString_0e30d rfl rfl rfl kd_J4_toString_0e30d ⟨by dsimp only; omega, by dsimp only; omega⟩) ⟨kP_blind (EL_ok D cy) D _ _ _, va_recv hK hP (ci := 12) (q0 := 0) rfl rfl, kStart (EL_ok D cy) hEL hP hD hS hA [0, 1] rfl rfl _⟩ rfl rfl hl.1 rfl (lv_room (Nat.le_of_ble_eq_true rfl)) dX8_text_136 ⟨by show (((((((0 + 1) + 1) + nT d) + 1) + 1) + nT d) + 1) + 2 ≤ nT (d + 1); rw [nT_s]; omega, by show (((((((0 + 4) + 16) + sT d) + 200) + 200) + sT d) + 200) + 204 ≤ sT (d + 1); rw [sT_s]; omega⟩) hP hD hS hA [0, 1] rfl (fun _ _ => Nat.le_of_ble_eq_true rfl) (fun u s1 H locs hu hP hD hS => ?_)
            obtain ⟨sv1, sf1⟩ := u
            have hsf1 : ∀ j, j < (((([] : List Int32) ++ ta) ++ (X8_op2 (shK G i))) ++ tb).length → sf1 j = (((([] : List Int32) ++ ta) ++ (X8_op2 (shK G i))) ++ tb).getD j 0 := fun j hj => (hu.2 j hj).trans (ok.2.2.2 j hj)
            have hP : va_P D vwCl ([(r_3, .inr (12, [.ref v_3, .int (0 : Int32), .int (0 : Int32), .int (nI ((((([] : List Int32) ++ ta) ++ (X8_op2 (shK G i))) ++ tb).length))])), (v_3, .inl (cy 1, m_3, .inl f_3)), (s1, .inr (11, [.ref sv1, .int (0 : Int32), .int (0 : Int32), .int (0 : Int32)])), (sv1, .inl (cy 1, (((([] : List Int32) ++ ta) ++ (X8_op2 (shK G i))) ++ tb).length, .inl sf1))]) H := hP
            have hD : va_D A ([(r_3, .inr (12, [.ref v_3, .int (0 : Int32), .int (0 : Int32), .int (nI ((((([] : List Int32) ++ ta) ++ (X8_op2 (shK G i))) ++ tb).length))])), (v_3, .inl (cy 1, m_3, .inl f_3)), (s1, .inr (11, [.ref sv1, .int (0 : Int32), .int (0 : Int32), .int (0 : Int32)])), (sv1, .inl (cy 1, (((([] : List Int32) ++ ta) ++ (X8_op2 (shK G i))) ++ tb).length, .inl sf1))]) := hD
            have hP : va_P D vwCl ([(s1, .inr (11, [.ref sv1, .int (0 : Int32), .int (0 : Int32), .int (0 : Int32)])), (sv1, .inl (cy 1, (((([] : List Int32) ++ ta) ++ (X8_op2 (shK G i))) ++ tb).length, .inl sf1))]) H := hP.sub [2, 3] rfl
            have hD : va_D A ([(s1, .inr (11, [.ref sv1, .int (0 : Int32), .int (0 : Int32), .int (0 : Int32)])), (sv1, .inl (cy 1, (((([] : List Int32) ++ ta) ++ (X8_op2 (shK G i))) ++ tb).length, .inl sf1))]) := hD.sub [2, 3] rfl rfl
            have et : (((([] : List Int32) ++ ta) ++ (X8_op2 (shK G i))) ++ tb) = ta ++ X8_op2 (shK G i) ++ tb := rfl
            rw [et] at hP hD hsf1
            have hP : va_P D vwCl ([(s1, .inr (11, [.ref sv1, .int (0 : Int32), .int (0 : Int32), .int (0 : Int32)])), (sv1, .inl (cy 1, (ta ++ X8_op2 (shK G i) ++ tb).length, .inl sf1))]) H := hP
            have hD : va_D A ([(s1, .inr (11, [.ref sv1, .int (0 : Int32), .int (0 : Int32), .int (0 : Int32)])), (sv1, .inl (cy 1, (ta ++ X8_op2 (shK G i) ++ tb).length, .inl sf1))]) := hD
            refine lv_astore_n (lv' := [(3, .ref s1), (2, .int (nI own)), (0, .ref (rN i)), (1, .int (nI lv))]) hx hb dX8_text_139 rfl hl (by decide) rfl (fun ls hl => ?_)
            refine lv_iload_n hx hb dX8_text_140 rfl (lv_at hl 1 rfl) ?_
            refine lv_iload_n hx hb dX8_text_141 rfl (lv_at hl 3 rfl) ?_
            by_cases hlv : own < lv
            · skip
              refine lv_icmp_ge (tgt := 172) hx hb dX8_text_142 (by decide) (fun h3 => absurd h3 (nI_ge hlv hlv31)) (fun _ => ?_)
              refine va_new (ci := 12) (fs := [.null, .int 0, .int 0, .int 0]) (C := RJ4) (T := TJ4) (N := 4) hx hb hts inJ4 tyJ4 tyJ4_ok hown k34 nJ4 iRJ4 hK hP hD hS hA rfl (fun j hj => by rcases (show j = 0 ∨ j = 1 ∨ j = 2 ∨ j = 3 by omega) with rfl | rfl | rfl | rfl <;> rfl) (by show (((((((((0 + 1) + 1) + nT d) + 1) + 1) + nT d) + 1) + 2) + 1) ≤ nT (d + 1); rw [nT_s]; omega) (by show (((((((((0 + 4) + 16) + sT d) + 200) + 200) + sT d) + 200) + 204) + 4) ≤ sT (d + 1); rw [sT_s]; omega) dX8_text_145 (fun bb H hP hD hS => ?_)
              have hP : va_P D vwCl ([(s1, .inr (11, [.ref sv1, .int (0 : Int32), .int (0 : Int32), .int (0 : Int32)])), (sv1, .inl (cy 1, (ta ++ X8_op2 (shK G i) ++ tb).length, .inl sf1)), (bb, .inr (12, [.null, .int (0 : Int32), .int (0 : Int32), .int (0 : Int32)]))]) H := hP
              have hD : va_D A ([(s1, .inr (11, [.ref sv1, .int (0 : Int32), .int (0 : Int32), .int (0 : Int32)])), (sv1, .inl (cy 1, (ta ++ X8_op2 (shK G i) ++ tb).length, .inl sf1)), (bb, .inr (12, [.null, .int (0 : Int32), .int (0 : Int32), .int (0 : Int32)]))]) := hD
              refine lv_dup hx hb dX8_text_148 rfl ?_
              refine kc_E (va_runI (As := []) (rest := [.ref bb]) ⟨hx, hb, hml, hown, hts⟩ (c_J4_init_da8c8 bb H.size) (cwI 0 hts gX8_text_J4_init_da8c8 rfl rfl rfl iRJ4 l36 imJ4_init_da8c8 rfl kd_J4_init_da8c8 ⟨by dsimp only; omega, by dsimp only; omega⟩) ⟨kP_blind (EN_ok D cy) D _ _ _, kStart (EN_ok D cy) hE hP hD hS hA [2] rfl rfl _⟩ rfl rfl hl.1 rfl (lv_room (Nat.le_of_ble_eq_true rfl)) dX8_text_149 ⟨by show (((((((((0 + 1) + 1) + nT d) + 1) + 1) + nT d) + 1) + 2) + 1) + 1 ≤ nT (d + 1); rw [nT_s]; omega, by show (((((((((0 + 4) + 16) + sT d) + 200) + 200) + sT d) + 200) + 204) + 4) + 16 ≤ sT (d + 1); rw [sT_s]; omega⟩) hP hD hS hA [2] rfl (fun _ => Nat.le_of_ble_eq_true rfl) (fun vb H locs _ hP hD hS => ?_)
              have hP : va_P D vwCl ([(s1, .inr (11, [.ref sv1, .int (0 : Int32), .int (0 : Int32), .int (0 : Int32)])), (sv1, .inl (cy 1, (ta ++ X8_op2 (shK G i) ++ tb).length, .inl sf1)), (bb, .inr (12, [.ref vb, .int (0 : Int32), .int (0 : Int32), .int (nI (([] : List Int32).length))])), (vb, .inl (cy 1, 16, .inl (fun _ => (0 : Int32))))]) H := hP
              have hD : va_D A ([(s1, .inr (11, [.ref sv1, .int (0 : Int32), .int (0 : Int32), .int (0 : Int32)])), (sv1, .inl (cy 1, (ta ++ X8_op2 (shK G i) ++ tb).length, .inl sf1)), (bb, .inr (12, [.ref vb, .int (0 : Int32), .int (0 : Int32), .int (nI (([] : List Int32).length))])), (vb, .inl (cy 1, 16, .inl (fun _ => (0 : Int32))))]) := hD
              have okb : sbOK ([] : List Int32) 16 (fun _ => (0 : Int32)) := sbOK_0
              obtain ⟨a4, hRa4, hTa4⟩ := hL.2.2.2.2.2.2.2 ("PeepBoxLaw$Node", 68, "(", [40]) (by decide +kernel)
              refine va_ldcS hx hb hown hRa4 dX8_text_152 ?_
              refine kc_R (va_runV (As := [.ref a4]) (rest := []) ⟨hx, hb, hml, hown, hts⟩ (c_J4_append_15ec4 bb vb 16 a4 H.size (0 : Int32) ([] : List Int32) ([40] : List Int32) (fun _ => (0 : Int32)) okb (ascS_lit (by decide)) (by decide)) (cwV 1 hts gX8_text_J4_append_15ec4 rfl rfl rfl kd_J4_append_15ec4 ⟨by dsimp only; omega, by dsimp only; omega⟩) ⟨kP_blind (ES_ok D cy ([40] : List Int32) a4) D _ _ _, va_recv hK hP (ci := 12) (q0 := 2) rfl rfl, kStartS hE hP hD hS hA [2, 3] rfl rfl (kT_old hTa4 hD hS hA [2, 3] rfl) _⟩ rfl rfl hl.1 rfl (lv_room (Nat.le_of_ble_eq_true rfl)) dX8_text_154 ⟨by show ((((((((((0 + 1) + 1) + nT d) + 1) + 1) + nT d) + 1) + 2) + 1) + 1) + 1 ≤ nT (d + 1); rw [nT_s]; omega, by show ((((((((((0 + 4) + 16) + sT d) + 200) + 200) + sT d) + 200) + 204) + 4) + 16) + 200 ≤ sT (d + 1); rw [sT_s]; omega⟩) hP hD hS hA [2, 3] rfl (fun _ _ => Nat.le_of_ble_eq_true rfl) (fun u rb_1 H locs hu hP hD hS => ?_)
              obtain ⟨vb_1, mb_1, fb_1⟩ := u
              obtain ⟨rfl, okb⟩ := hu
              rw [show ([] : List Int32).length + ([40] : List Int32).length = (([] : List Int32) ++ ([40] : List Int32)).length from (List.length_append).symm] at hP hD
              have hP : va_P D vwCl ([(s1, .inr (11, [.ref sv1, .int (0 : Int32), .int (0 : Int32), .int (0 : Int32)])), (sv1, .inl (cy 1, (ta ++ X8_op2 (shK G i) ++ tb).length, .inl sf1)), (rb_1, .inr (12, [.ref vb_1, .int (0 : Int32), .int (0 : Int32), .int (nI ((([] : List Int32) ++ ([40] : List Int32)).length))])), (vb_1, .inl (cy 1, mb_1, .inl fb_1))]) H := hP
              have hD : va_D A ([(s1, .inr (11, [.ref sv1, .int (0 : Int32), .int (0 : Int32), .int (0 : Int32)])), (sv1, .inl (cy 1, (ta ++ X8_op2 (shK G i) ++ tb).length, .inl sf1)), (rb_1, .inr (12, [.ref vb_1, .int (0 : Int32), .int (0 : Int32), .int (nI ((([] : List Int32) ++ ([40] : List Int32)).length))])), (vb_1, .inl (cy 1, mb_1, .inl fb_1))]) := hD
              refine lv_aload_n hx hb dX8_text_157 rfl (lv_at hl 0 rfl) ?_
              refine kc_R (va_runV (As := [.ref s1]) (rest := []) ⟨hx, hb, hml, hown, hts⟩ (c_J4_append_15ec4 rb_1 vb_1 mb_1 s1 H.size (0 : Int32) (([] : List Int32) ++ ([40] : List Int32)) (ta ++ X8_op2 (shK G i) ++ tb) fb_1 okb (ascS_app (ascS_app aa ao.1) ab) (by simp only [List.length_append, List.length_nil, List.length_cons]; have := ao.2; omega)) (cwV 1 hts gX8_text_J4_append_15ec4 rfl rfl rfl kd_J4_append_15ec4 ⟨by dsimp only; omega, by dsimp only; omega⟩) ⟨kP_blind (ES_ok D cy (ta ++ X8_op2 (shK G i) ++ tb) s1) D _ _ _, va_recv hK hP (ci := 12) (q0 := 2) rfl rfl, kStartS hE hP hD hS hA [2, 3] rfl rfl (kT_new hts inJ0 hK hP hD 0 1 rfl rfl [2, 3] rfl (by decide) (by decide) hsf1) _⟩ rfl rfl hl.1 rfl (lv_room (Nat.le_of_ble_eq_true rfl)) dX8_text_158 ⟨by show (((((((((((0 + 1) + 1) + nT d) + 1) + 1) + nT d) + 1) + 2) + 1) + 1) + 1) + 1 ≤ nT (d + 1); rw [nT_s]; omega, by show (((((((((((0 + 4) + 16) + sT d) + 200) + 200) + sT d) + 200) + 204) + 4) + 16) + 200) + 200 ≤ sT (d + 1); rw [sT_s]; omega⟩) hP hD hS hA [2, 3] rfl (fun _ _ => Nat.le_of_ble_eq_true rfl) (fun u rb_2 H locs hu hP hD hS => ?_)
              obtain ⟨vb_2, mb_2, fb_2⟩ := u
              obtain ⟨rfl, okb⟩ := hu
              rw [show (([] : List Int32) ++ ([40] : List Int32)).length + (ta ++ X8_op2 (shK G i) ++ tb).length = ((([] : List Int32) ++ ([40] : List Int32)) ++ (ta ++ X8_op2 (shK G i) ++ tb)).length from (List.length_append).symm] at hP hD
              have hP : va_P D vwCl ([(s1, .inr (11, [.ref sv1, .int (0 : Int32), .int (0 : Int32), .int (0 : Int32)])), (sv1, .inl (cy 1, (ta ++ X8_op2 (shK G i) ++ tb).length, .inl sf1)), (rb_2, .inr (12, [.ref vb_2, .int (0 : Int32), .int (0 : Int32), .int (nI (((([] : List Int32) ++ ([40] : List Int32)) ++ (ta ++ X8_op2 (shK G i) ++ tb)).length))])), (vb_2, .inl (cy 1, mb_2, .inl fb_2))]) H := hP
              have hD : va_D A ([(s1, .inr (11, [.ref sv1, .int (0 : Int32), .int (0 : Int32), .int (0 : Int32)])), (sv1, .inl (cy 1, (ta ++ X8_op2 (shK G i) ++ tb).length, .inl sf1)), (rb_2, .inr (12, [.ref vb_2, .int (0 : Int32), .int (0 : Int32), .int (nI (((([] : List Int32) ++ ([40] : List Int32)) ++ (ta ++ X8_op2 (shK G i) ++ tb)).length))])), (vb_2, .inl (cy 1, mb_2, .inl fb_2))]) := hD
              obtain ⟨a5, hRa5, hTa5⟩ := hL.2.2.2.2.2.2.2 ("PeepBoxLaw$Node", 70, ")", [41]) (by decide +kernel)
              refine va_ldcS hx hb hown hRa5 dX8_text_161 ?_
              refine kc_R (va_runV (As := [.ref a5]) (rest := []) ⟨hx, hb, hml, hown, hts⟩ (c_J4_append_15ec4 rb_2 vb_2 mb_2 a5 H.size (0 : Int32) ((([] : List Int32) ++ ([40] : List Int32)) ++ (ta ++ X8_op2 (shK G i) ++ tb)) ([41] : List Int32) fb_2 okb (ascS_lit (by decide)) (by simp only [List.length_append, List.length_nil, List.length_cons]; have := ao.2; omega)) (cwV 1 hts gX8_text_J4_append_15ec4 rfl rfl rfl kd_J4_append_15ec4 ⟨by dsimp only; omega, by dsimp only; omega⟩) ⟨kP_blind (ES_ok D cy ([41] : List Int32) a5) D _ _ _, va_recv hK hP (ci := 12) (q0 := 2) rfl rfl, kStartS hE hP hD hS hA [2, 3] rfl rfl (kT_old hTa5 hD hS hA [2, 3] rfl) _⟩ rfl rfl hl.1 rfl (lv_room (Nat.le_of_ble_eq_true rfl)) dX8_text_163 ⟨by show ((((((((((((0 + 1) + 1) + nT d) + 1) + 1) + nT d) + 1) + 2) + 1) + 1) + 1) + 1) + 1 ≤ nT (d + 1); rw [nT_s]; omega, by show ((((((((((((0 + 4) + 16) + sT d) + 200) + 200) + sT d) + 200) + 204) + 4) + 16) + 200) + 200) + 200 ≤ sT (d + 1); rw [sT_s]; omega⟩) hP hD hS hA [2, 3] rfl (fun _ _ => Nat.le_of_ble_eq_true rfl) (fun u rb_3 H locs hu hP hD hS => ?_)
              obtain ⟨vb_3, mb_3, fb_3⟩ := u
              obtain ⟨rfl, okb⟩ := hu
              rw [show ((([] : List Int32) ++ ([40] : List Int32)) ++ (ta ++ X8_op2 (shK G i) ++ tb)).length + ([41] : List Int32).length = (((([] : List Int32) ++ ([40] : List Int32)) ++ (ta ++ X8_op2 (shK G i) ++ tb)) ++ ([41] : List Int32)).length from (List.length_append).symm] at hP hD
              have hP : va_P D vwCl ([(s1, .inr (11, [.ref sv1, .int (0 : Int32), .int (0 : Int32), .int (0 : Int32)])), (sv1, .inl (cy 1, (ta ++ X8_op2 (shK G i) ++ tb).length, .inl sf1)), (rb_3, .inr (12, [.ref vb_3, .int (0 : Int32), .int (0 : Int32), .int (nI ((((([] : List Int32) ++ ([40] : List Int32)) ++ (ta ++ X8_op2 (shK G i) ++ tb)) ++ ([41] : List Int32)).length))])), (vb_3, .inl (cy 1, mb_3, .inl fb_3))]) H := hP
              have hD : va_D A ([(s1, .inr (11, [.ref sv1, .int (0 : Int32), .int (0 : Int32), .int (0 : Int32)])), (sv1, .inl (cy 1, (ta ++ X8_op2 (shK G i) ++ tb).length, .inl sf1)), (rb_3, .inr (12, [.ref vb_3, .int (0 : Int32), .int (0 : Int32), .int (nI ((((([] : List Int32) ++ ([40] : List Int32)) ++ (ta ++ X8_op2 (shK G i) ++ tb)) ++ ([41] : List Int32)).length))])), (vb_3, .inl (cy 1, mb_3, .inl fb_3))]) := hD
              refine kc_R (va_runV (As := []) (rest := []) ⟨hx, hb, hml, hown, hts⟩ (c_J4_toString_0e30d rb_3 vb_3 mb_3 (((([] : List Int32) ++ ([40] : List Int32)) ++ (ta ++ X8_op2 (shK G i) ++ tb)) ++ ([41] : List Int32)).length H.size (0 : Int32) fb_3 okb.1 okb.2.1 okb.2.2.1) (cwV 0 hts gX8_text_J4_toString_0e30d rfl rfl rfl kd_J4_toString_0e30d ⟨by dsimp only; omega, by dsimp only; omega⟩) ⟨kP_blind (EL_ok D cy) D _ _ _, va_recv hK hP (ci := 12) (q0 := 2) rfl rfl, kStart (EL_ok D cy) hEL hP hD hS hA [2, 3] rfl rfl _⟩ rfl rfl hl.1 rfl (lv_room (Nat.le_of_ble_eq_true rfl)) dX8_text_166 ⟨by show (((((((((((((0 + 1) + 1) + nT d) + 1) + 1) + nT d) + 1) + 2) + 1) + 1) + 1) + 1) + 1) + 2 ≤ nT (d + 1); rw [nT_s]; omega, by show (((((((((((((0 + 4) + 16) + sT d) + 200) + 200) + sT d) + 200) + 204) + 4) + 16) + 200) + 200) + 200) + 204 ≤ sT (d + 1); rw [sT_s]; omega⟩) hP hD hS hA [2, 3] rfl (fun _ _ => Nat.le_of_ble_eq_true rfl) (fun u s2 H locs hu hP hD hS => ?_)
              obtain ⟨sv2, sf2⟩ := u
              have hsf2 : ∀ j, j < (((([] : List Int32) ++ ([40] : List Int32)) ++ (ta ++ X8_op2 (shK G i) ++ tb)) ++ ([41] : List Int32)).length → sf2 j = (((([] : List Int32) ++ ([40] : List Int32)) ++ (ta ++ X8_op2 (shK G i) ++ tb)) ++ ([41] : List Int32)).getD j 0 := fun j hj => (hu.2 j hj).trans (okb.2.2.2 j hj)
              have hP : va_P D vwCl ([(s1, .inr (11, [.ref sv1, .int (0 : Int32), .int (0 : Int32), .int (0 : Int32)])), (sv1, .inl (cy 1, (ta ++ X8_op2 (shK G i) ++ tb).length, .inl sf1)), (rb_3, .inr (12, [.ref vb_3, .int (0 : Int32), .int (0 : Int32), .int (nI ((((([] : List Int32) ++ ([40] : List Int32)) ++ (ta ++ X8_op2 (shK G i) ++ tb)) ++ ([41] : List Int32)).length))])), (vb_3, .inl (cy 1, mb_3, .inl fb_3)), (s2, .inr (11, [.ref sv2, .int (0 : Int32), .int (0 : Int32), .int (0 : Int32)])), (sv2, .inl (cy 1, (((([] : List Int32) ++ ([40] : List Int32)) ++ (ta ++ X8_op2 (shK G i) ++ tb)) ++ ([41] : List Int32)).length, .inl sf2))]) H := hP
              have hD : va_D A ([(s1, .inr (11, [.ref sv1, .int (0 : Int32), .int (0 : Int32), .int (0 : Int32)])), (sv1, .inl (cy 1, (ta ++ X8_op2 (shK G i) ++ tb).length, .inl sf1)), (rb_3, .inr (12, [.ref vb_3, .int (0 : Int32), .int (0 : Int32), .int (nI ((((([] : List Int32) ++ ([40] : List Int32)) ++ (ta ++ X8_op2 (shK G i) ++ tb)) ++ ([41] : List Int32)).length))])), (vb_3, .inl (cy 1, mb_3, .inl fb_3)), (s2, .inr (11, [.ref sv2, .int (0 : Int32), .int (0 : Int32), .int (0 : Int32)])), (sv2, .inl (cy 1, (((([] : List Int32) ++ ([40] : List Int32)) ++ (ta ++ X8_op2 (shK G i) ++ tb)) ++ ([41] : List Int32)).length, .inl sf2))]) := hD
              have hP : va_P D vwCl ([(s2, .inr (11, [.ref sv2, .int (0 : Int32), .int (0 : Int32), .int (0 : Int32)])), (sv2, .inl (cy 1, (((([] : List Int32) ++ ([40] : List Int32)) ++ (ta ++ X8_op2 (shK G i) ++ tb)) ++ ([41] : List Int32)).length, .inl sf2))]) H := hP.sub [4, 5] rfl
              have hD : va_D A ([(s2, .inr (11, [.ref sv2, .int (0 : Int32), .int (0 : Int32), .int (0 : Int32)])), (sv2, .inl (cy 1, (((([] : List Int32) ++ ([40] : List Int32)) ++ (ta ++ X8_op2 (shK G i) ++ tb)) ++ ([41] : List Int32)).length, .inl sf2))]) := hD.sub [4, 5] rfl rfl
              refine lv_goto (tgt := 173) hx hb dX8_text_169 (by decide) ?_
              have et2 : (((([] : List Int32) ++ ([40] : List Int32)) ++ (ta ++ X8_op2 (shK G i) ++ tb)) ++ ([41] : List Int32)) = [40] ++ (ta ++ X8_op2 (shK G i) ++ tb) ++ [41] := rfl
              rw [et2] at hP hD hsf2
              rw [hQQ, ← eown, if_pos hlv]
              exact kr_R [(s2, strE sv2), (sv2, byE cy ([40] ++ (ta ++ X8_op2 (shK G i) ++ tb) ++ [41]).length sf2)] (Or.inr ⟨sv2, sf2, rfl, hsf2⟩) hx hb hr (Or.inl ⟨_, rfl⟩) hlocks hP hD hS dX8_text_173 (by show ((((((((((((((0 + 1) + 1) + nT d) + 1) + 1) + nT d) + 1) + 2) + 1) + 1) + 1) + 1) + 1) + 2) ≤ nT (d + 1); rw [nT_s]; omega) (by show ((((((((((((((0 + 4) + 16) + sT d) + 200) + 200) + sT d) + 200) + 204) + 4) + 16) + 200) + 200) + 200) + 204) ≤ sT (d + 1); rw [sT_s]; omega)
            · skip
              refine lv_icmp_ge (tgt := 172) hx hb dX8_text_142 (by decide) (fun _ => ?_) (fun h3 => absurd (nI_le (a := lv) (b := own) (by omega) (by omega)) h3)
              refine lv_aload_n hx hb dX8_text_172 rfl (lv_at hl 0 rfl) ?_
              rw [hQQ, ← eown, if_neg hlv]
              exact kr_R [(s1, strE sv1), (sv1, byE cy (ta ++ X8_op2 (shK G i) ++ tb).length sf1)] (Or.inr ⟨sv1, sf1, rfl, hsf1⟩) hx hb hr (Or.inl ⟨_, rfl⟩) hlocks hP hD hS dX8_text_173 (by show ((((((((0 + 1) + 1) + nT d) + 1) + 1) + nT d) + 1) + 2) ≤ nT (d + 1); rw [nT_s]; omega) (by show ((((((((0 + 4) + 16) + sT d) + 200) + 200) + sT d) + 200) + 204) ≤ sT (d + 1); rw [sT_s]; omega)
          refine lv_aload_n hx hb dX8_text_79 rfl (lv_at hl 1 rfl) ?_
          refine va_get (D := D) (ci := 8) (v := .int (nI (shK G i))) (C := RX8) (T := TX8) (N := 4) hx hb hts inX8 hown hK (gn.P hS) 0 rfl rfl 0 (by decide) f16 (fun _ h9 => h9) rfl dX8_text_80 ?_
          refine lv_iconst (v := 2) hx hb dX8_text_83 (by decide) ?_
          by_cases c2 : shK G i = 2
          · skip
            refine lv_icmp_ne (tgt := 92) hx hb dX8_text_84 (by decide) (fun h3 => absurd (congrArg nI c2) h3) (fun _ => ?_)
            obtain ⟨a4, hRa4, hTa4⟩ := hL.2.2.2.2.2.2.2 ("PeepBoxLaw$Node", 60, "+", [43]) (by decide +kernel)
            refine va_ldcS hx hb hown hRa4 dX8_text_87 ?_
            refine lv_goto (tgt := 120) hx hb dX8_text_89 (by decide) ?_
            exact J2 _ H _ ls (by rw [X8_op2, if_pos c2]; exact hTa4) hP hD hS hl
          · skip
            refine lv_icmp_ne (tgt := 92) hx hb dX8_text_84 (by decide) (fun _ => ?_) (fun h3 => absurd h3 (fun z => c2 ((hlt 2 (by decide)).mp (show nI _ = nI 2 from z))))
            refine lv_aload_n hx hb dX8_text_92 rfl (lv_at hl 1 rfl) ?_
            refine va_get (D := D) (ci := 8) (v := .int (nI (shK G i))) (C := RX8) (T := TX8) (N := 4) hx hb hts inX8 hown hK (gn.P hS) 0 rfl rfl 0 (by decide) f16 (fun _ h9 => h9) rfl dX8_text_93 ?_
            refine lv_iconst (v := 3) hx hb dX8_text_96 (by decide) ?_
            by_cases c3 : shK G i = 3
            · skip
              refine lv_icmp_ne (tgt := 105) hx hb dX8_text_97 (by decide) (fun h4 => absurd (congrArg nI c3) h4) (fun _ => ?_)
              obtain ⟨a5, hRa5, hTa5⟩ := hL.2.2.2.2.2.2.2 ("PeepBoxLaw$Node", 62, " - ", [32, 45, 32]) (by decide +kernel)
              refine va_ldcS hx hb hown hRa5 dX8_text_100 ?_
              refine lv_goto (tgt := 120) hx hb dX8_text_102 (by decide) ?_
              exact J2 _ H _ ls (by rw [X8_op2, if_neg c2, if_pos c3]; exact hTa5) hP hD hS hl
            · skip
              refine lv_icmp_ne (tgt := 105) hx hb dX8_text_97 (by decide) (fun _ => ?_) (fun h4 => absurd h4 (fun z => c3 ((hlt 3 (by decide)).mp (show nI _ = nI 3 from z))))
              refine lv_aload_n hx hb dX8_text_105 rfl (lv_at hl 1 rfl) ?_
              refine va_get (D := D) (ci := 8) (v := .int (nI (shK G i))) (C := RX8) (T := TX8) (N := 4) hx hb hts inX8 hown hK (gn.P hS) 0 rfl rfl 0 (by decide) f16 (fun _ h9 => h9) rfl dX8_text_106 ?_
              refine lv_iconst (v := 4) hx hb dX8_text_109 (by decide) ?_
              by_cases c4 : shK G i = 4
              · skip
                refine lv_icmp_ne (tgt := 118) hx hb dX8_text_110 (by decide) (fun h5 => absurd (congrArg nI c4) h5) (fun _ => ?_)
                obtain ⟨a6, hRa6, hTa6⟩ := hL.2.2.2.2.2.2.2 ("PeepBoxLaw$Node", 64, "* ", [42, 32]) (by decide +kernel)
                refine va_ldcS hx hb hown hRa6 dX8_text_113 ?_
                refine lv_goto (tgt := 120) hx hb dX8_text_115 (by decide) ?_
                exact J2 _ H _ ls (by rw [X8_op2, if_neg c2, if_neg c3, if_pos c4]; exact hTa6) hP hD hS hl
              · skip
                refine lv_icmp_ne (tgt := 118) hx hb dX8_text_110 (by decide) (fun _ => ?_) (fun h5 => absurd h5 (fun z => c4 ((hlt 4 (by decide)).mp (show nI _ = nI 4 from z))))
                obtain ⟨a6, hRa6, hTa6⟩ := hL.2.2.2.2.2.2.2 ("PeepBoxLaw$Node", 66, "/", [47]) (by decide +kernel)
                refine va_ldcS hx hb hown hRa6 dX8_text_118 ?_
                exact J2 _ H _ ls (by rw [X8_op2, if_neg c2, if_neg c3, if_neg c4]; exact hTa6) hP hD hS hl
        refine lv_aload_n hx hb dX8_text_47 rfl (lv_at hl 0 rfl) ?_
        refine va_get (D := D) (ci := 8) (v := .int (nI (shK G i))) (C := RX8) (T := TX8) (N := 4) hx hb hts inX8 hown hK (gn.P hS) 0 rfl rfl 0 (by decide) f16 (fun _ h9 => h9) rfl dX8_text_48 ?_
        refine lv_iconst (v := 4) hx hb dX8_text_51 (by decide) ?_
        by_cases c4 : shK G i < 4
        · skip
          refine lv_icmp_ge (tgt := 59) hx hb dX8_text_52 (by decide) (fun h3 => absurd h3 (nI_ge (a := shK G i) (b := 4) c4 (by decide))) (fun _ => ?_)
          refine lv_iconst (v := 1) hx hb dX8_text_55 (by decide) ?_
          refine lv_goto (tgt := 60) hx hb dX8_text_56 (by decide) ?_
          have e1 : own = 1 := by rw [eown]; exact if_pos c4
          have J := J H _ ls hP hD hS hl
          rw [e1] at J
          exact J
        · skip
          refine lv_icmp_ge (tgt := 59) hx hb dX8_text_52 (by decide) (fun _ => ?_) (fun h3 => absurd (nI_le (a := 4) (b := shK G i) (by omega) (by omega)) h3)
          refine lv_iconst (v := 2) hx hb dX8_text_59 (by decide) ?_
          have e1 : own = 2 := by rw [eown]; exact if_neg c4
          have J := J H _ ls hP hD hS hl
          rw [e1] at J
          exact J
