/-! randomShow: the price (rs6.py) -/
theorem nb_le {d : Nat} (h : d ≤ 2) : nb d ≤ 7 := by
  rcases (show d = 0 ∨ d = 1 ∨ d = 2 by omega) with rfl | rfl | rfl <;> decide
theorem pm_asc {P C Z L : va_W} : ((P ++ (C ++ Z)) ++ L).Perm (P ++ (C ++ (Z ++ L))) := by
  rw [List.append_assoc, List.append_assoc]
/-- a graph of which only the nodes count -/
def rsG0 (K : Nat → Nat) (N : Nat → Int32) : LG := (fun _ => 0, fun _ => 0, fun _ => 0, fun _ _ => [], fun _ _ => 0, fun _ _ => 0, K, N)
theorem shQ_ndG {G : LG} (i : Nat) : shQ G i = ndQ (shK G) i := by
  unfold shQ ndQ
  match i with
  | 0 => rfl
  | 1 => rfl
  | 2 => rfl
  | 3 => rfl
  | 4 => rfl
  | 5 => rfl
  | 6 => rfl
  | 7 => rfl
  | i + 8 => rfl
theorem shQ_nd {K : Nat → Nat} {N : Nat → Int32} (i : Nat) : shQ (rsG0 K N) i = ndQ K i := shQ_ndG i
theorem kStartN {D : va_G} {cy : Nat → ClassId} {ad : Nat → Nat} {G : LG} {rN : Nat → Nat} {A : Nat → Prop} {s : State} {H : Heap} {locs : List Loc} {ws : va_W} (h0 : EY D cy ad A s s.heap) (hP : va_P D vwCl ws H) (hD : va_D A ws) (hS : va_S A s.heap H locs) (hA : ∀ q, s.heap.size ≤ q → A q) (hin : ∀ i, shQ G i = true → (rN i, nodeE G rN i) ∈ ws) (av : List Value) : ∀ U : State, U.heap = H → s.WarmedH U.vm → kP (EYN D cy ad G rN) D av [] H.size av.toArray U := by
  intro U hU hW
  obtain ⟨q1, q2, q3, q4, q5⟩ := kStart (wc := []) (EY_ok D cy ad) h0 hP hD hS hA [] rfl rfl av U hU hW
  refine ⟨q1, q2, q3, q4, q5, fun i hi => ?_⟩
  obtain ⟨k, hk⟩ := List.getElem?_of_mem (hin i hi)
  rw [hU]
  refine ⟨hP k _ hk, fun q => ?_⟩
  rcases q with ⟨j, e, hj⟩ | q
  · exact absurd hj (by simp)
  · exact absurd (hP k _ hk).lt (Nat.not_lt.mpr q)
theorem kT_strR {Ts : List Cond} {args : Array Value} {A : Nat → Prop} {D : va_G} {cy : Nat → ClassId} {ad : Nat → Nat} {s : State} {H : Heap} {locs : List Loc} {P X Z u : va_W} {tx : List Int32} {r : Nat} (hts : ∀ w ∈ Ts, w.before args s = true) (hin : ∀ w ∈ u_ws RJ0 TJ0 4, w ∈ Ts) (hK : va_K D vwCl (kTys cy) s) (hV : ∀ j, j < 4 → kStrAt (vTx j) (ad j) A s s.heap) (hu : strR cy ad tx r u) (hm : ∀ z ∈ u, z ∈ P ++ Z) (hP : va_P D vwCl (P ++ (X ++ Z)) H) (hD : va_D A (P ++ (X ++ Z))) (hS : va_S A s.heap H locs) (hA : ∀ q, s.heap.size ≤ q → A q) : kStrAt tx r (va_A X H.size) s H := by
  rcases hu with ⟨rfl, j, hj, rfl, rfl⟩ | ⟨v, f, rfl, hf⟩
  · exact kT_qo (hV j hj) hD hS hA
  · exact kT_q hts hin hK ⟨v, f, hm _ (List.mem_cons_self), hm _ (List.mem_cons_of_mem _ List.mem_cons_self), hf⟩ hP hD
theorem nodeAt {D : va_G} {tys : List (ClassId × FieldType)} {s : State} {H : Heap} {ws : va_W} {x : Nat} {f : List Value} (hK : va_K D vwCl tys s) (hP : va_P D vwCl ws H) (h : (x, (.inr (8, f) : va_E)) ∈ ws) : ∃ cell : Cell, H[x]? = some cell ∧ cell.vm.isStatics = false ∧ s.vm.findClass RX8 = some cell.cls := by
  obtain ⟨k, hk⟩ := List.getElem?_of_mem h
  exact va_recv hK hP (ci := 8) (q0 := k) rfl hk
/-- the price's text: by the kinds K and the numbers V of the nodes -/
def ndT (K V : Nat → Nat) : Nat → Nat → Nat → List Int32
  | 0, _, _ => []
  | d + 1, i, lv => if K i = 0 then dcs (V i) else if K i = 1 then vTx (V i) else if X8_own (K i) < lv then [40] ++ (ndT K V d (2 * i) (X8_own (K i)) ++ X8_op2 (K i) ++ ndT K V d (2 * i + 1) (X8_own (K i) + 1)) ++ [41] else ndT K V d (2 * i) (X8_own (K i)) ++ X8_op2 (K i) ++ ndT K V d (2 * i + 1) (X8_own (K i) + 1)
def prV (d : Nat) (s : Int32) (i : Nat) : Nat := ((tGen d s).2.1 i).toNatClampNeg
def prS (sd : Int32) : Int32 := if rnV sd % 2 = 0 then (tGen (rnV (rnS sd) % 3) (rnS (rnS sd))).2.2 else rnS sd
def prT (sd : Int32) : List Int32 := if rnV sd % 2 = 0 then [112, 114, 105, 99, 101, 32] ++ ndT (tGen (rnV (rnS sd) % 3) (rnS (rnS sd))).1 (prV (rnV (rnS sd) % 3) (rnS (rnS sd))) 3 1 0 ++ [32, 59] else []
/-- what every node's kind and number keep to -/
def ndG (K : Nat → Nat) (N : Nat → Int32) : Prop := ∀ i, K i < 6 ∧ ∃ v : Nat, N i = nI v ∧ v < 10000 ∧ (K i ≠ 0 → v < 4)
theorem tN_four {k : Nat} (s : Int32) (h : k ≠ 0) : (tN k s).1 < 4 := by
  unfold tN; rw [if_neg h]; exact Nat.mod_lt _ (by decide)
theorem tMix_G {KA KB : Nat → Nat} {NA NB : Nat → Int32} {k : Nat} {n : Int32} (h0 : k < 6 ∧ ∃ v : Nat, n = nI v ∧ v < 10000 ∧ (k ≠ 0 → v < 4)) (hA : ndG KA NA) (hB : ndG KB NB) : ndG (tMix k KA KB) (tMix n NA NB) := by
  intro i
  unfold tMix
  match i with
  | 0 => exact hB 3
  | 1 => exact h0
  | 2 => exact hA 1
  | 3 => exact hB 1
  | 4 => exact hA 2
  | 5 => exact hA 3
  | 6 => exact hB 2
  | i + 7 => exact hB 3
theorem tGen_G : ∀ (d : Nat) (s : Int32), ndG (tGen d s).1 (tGen d s).2.1
  | 0, s => fun i => ⟨tK_lt 0 s, _, rfl, tN_lt _ _, fun h => tN_four _ h⟩
  | d + 1, s => by
    unfold tGen
    split
    · exact tMix_G ⟨tK_lt _ s, _, rfl, tN_lt _ _, fun h => tN_four _ h⟩ (tGen_G d _) (tGen_G d _)
    · exact fun i => ⟨tK_lt _ s, _, rfl, tN_lt _ _, fun h => tN_four _ h⟩
/-- the tree is at most two deep -/
def ndLeaf (K : Nat → Nat) : Prop := 1 < K 1 → (1 < K 2 → K 4 < 2 ∧ K 5 < 2) ∧ (1 < K 3 → K 6 < 2 ∧ K 7 < 2)
theorem tGen_leaf : ∀ d, d ≤ 2 → ∀ s, ndLeaf (tGen d s).1
  | 0, _, s => fun h => absurd h (Nat.not_lt.mpr (Nat.le_of_lt_succ (tK_0 s)))
  | 1, _, s => fun h => by
    have h2 := (tGen_low 1 (by decide) s).2 h
    exact ⟨fun q => absurd q (by omega), fun q => absurd q (by omega)⟩
  | 2, _, s => fun h => by
    unfold tGen at h ⊢
    by_cases c : 1 < tK (1 + 1) s
    · rw [if_pos c] at h ⊢
      exact ⟨fun q => (tGen_low 1 (by decide) _).2 q, fun q => (tGen_low 1 (by decide) _).2 q⟩
    · rw [if_neg c] at h
      exact absurd h c
  | d + 3, h, _ => absurd h (by omega)
theorem vTx_len (j : Nat) : (vTx j).length ≤ 5 := by
  unfold vTx
  split <;> decide
theorem ndT_leaf {K V : Nat → Nat} {N : Nat → Int32} (hG : ndG K N) (hV : ∀ i, N i = nI (V i) ∧ V i < 10000 ∧ (K i ≠ 0 → V i < 4)) {i : Nat} (hk : K i < 2) (d lv : Nat) : X8_text (rsG0 K N) (d + 1) i lv = some (ndT K V (d + 1) i lv) ∧ (ndT K V (d + 1) i lv).length ≤ 5 := by
  obtain ⟨e1, e2, e3⟩ := hV i
  rw [X8_text, ndT, show shK (rsG0 K N) i = K i from rfl, show shN (rsG0 K N) i = N i from rfl, e1, nI_clamp (show V i < 2 ^ 31 by omega), q_ck (hG i).1]
  by_cases h0 : K i = 0
  · rw [if_pos h0, if_pos h0, q_ck (nI_pos (by omega)), q_ck e2]
    exact ⟨rfl, by rw [dcs_len]; have := dcn_le (V i); omega⟩
  · have h1 : K i = 1 := by omega
    rw [if_neg h0, if_neg h0, if_pos h1, if_pos h1, q_ck (nI_pos (by omega)), q_ck (e3 h0)]
    exact ⟨rfl, vTx_len _⟩
theorem X8_own_lt (k : Nat) : X8_own k ≤ 2 := by unfold X8_own; split <;> decide
theorem ndT_node {K V : Nat → Nat} {N : Nat → Int32} (hG : ndG K N) {i d lv m : Nat} (hk : 1 < K i) (hm : m ≤ 40) (hl : ∀ lv, X8_text (rsG0 K N) d (2 * i) lv = some (ndT K V d (2 * i) lv) ∧ (ndT K V d (2 * i) lv).length ≤ m) (hr : ∀ lv, X8_text (rsG0 K N) d (2 * i + 1) lv = some (ndT K V d (2 * i + 1) lv) ∧ (ndT K V d (2 * i + 1) lv).length ≤ m) : X8_text (rsG0 K N) (d + 1) i lv = some (ndT K V (d + 1) i lv) ∧ (ndT K V (d + 1) i lv).length ≤ 2 * m + 5 := by
  have h0 : K i ≠ 0 := by omega
  have h1 : K i ≠ 1 := by omega
  obtain ⟨a1, a2⟩ := hl (X8_own (K i))
  obtain ⟨b1, b2⟩ := hr (X8_own (K i) + 1)
  have ho := (X8_op2_asc (K i)).2
  rw [X8_text, ndT, show shK (rsG0 K N) i = K i from rfl, q_ck (hG i).1, if_neg h0, if_neg h0, if_neg h1, if_neg h1, q_b1 a1, q_b1 b1, q_ck (by omega)]
  refine ⟨rfl, ?_⟩
  split
  · simp only [List.length_append, List.length_cons, List.length_nil]; omega
  · simp only [List.length_append]; omega
theorem prV_at (d : Nat) (s : Int32) (i : Nat) : (tGen d s).2.1 i = nI (prV d s i) ∧ prV d s i < 10000 ∧ ((tGen d s).1 i ≠ 0 → prV d s i < 4) := by
  obtain ⟨-, v, e1, e2, e3⟩ := tGen_G d s i
  have e4 : prV d s i = v := by unfold prV; rw [e1, nI_clamp (by omega)]
  rw [e4]; exact ⟨e1, e2, e3⟩
theorem ndT_mid {K V : Nat → Nat} {N : Nat → Int32} (hG : ndG K N) (hV : ∀ i, N i = nI (V i) ∧ V i < 10000 ∧ (K i ≠ 0 → V i < 4)) {i : Nat} (hc : 1 < K i → K (2 * i) < 2 ∧ K (2 * i + 1) < 2) (lv : Nat) : X8_text (rsG0 K N) 2 i lv = some (ndT K V 2 i lv) ∧ (ndT K V 2 i lv).length ≤ 15 := by
  by_cases hk : 1 < K i
  · exact ndT_node (m := 5) hG hk (by decide) (fun lv => ndT_leaf hG hV (hc hk).1 0 lv) (fun lv => ndT_leaf hG hV (hc hk).2 0 lv)
  · obtain ⟨h1, h2⟩ := ndT_leaf (i := i) hG hV (by omega) 1 lv
    exact ⟨h1, Nat.le_trans h2 (by decide)⟩
theorem ndT_text (d : Nat) (s : Int32) (hd : d ≤ 2) : X8_text (rsG0 (tGen d s).1 (tGen d s).2.1) 3 1 0 = some (ndT (tGen d s).1 (prV d s) 3 1 0) ∧ (ndT (tGen d s).1 (prV d s) 3 1 0).length ≤ 35 := by
  have hG := tGen_G d s
  have hV := prV_at d s
  have hL := tGen_leaf d hd s
  by_cases hk : 1 < (tGen d s).1 1
  · exact ndT_node (m := 15) hG hk (by decide) (fun lv => ndT_mid hG hV (i := 2) (fun q => (hL hk).1 q) lv) (fun lv => ndT_mid hG hV (i := 3) (fun q => (hL hk).2 q) lv)
  · obtain ⟨h1, h2⟩ := ndT_leaf (i := 1) hG hV (by omega) 2 0
    exact ⟨h1, Nat.le_trans h2 (by decide)⟩
theorem prT_len (sd : Int32) : (prT sd).length ≤ 43 := by
  unfold prT
  split
  · have := (ndT_text (rnV (rnS sd) % 3) (rnS (rnS sd)) (by omega)).2
    simp only [List.length_append, List.length_cons, List.length_nil]; omega
  · exact Nat.zero_le _
set_option maxHeartbeats 1200000 in
set_option maxRecDepth 100000 in
theorem rs_price {p : Program} {l : Launch} {e : Env} {s : State} {m : MethodId} {args : Array Value} {below : List Frame} {meth : Method} {c : Code} {D : va_G} {cy : Nat → ClassId} {ad : Nat → Nat} {A : Nat → Prop} {QQ : State → Prop} {st : St} {u : Nat → Nat} {qo qb r a : Nat} {n w hh N : Nat} {sd s2 s3 s4 : Int32} {v5 v6 v7 v8 v10 : Value} {Y0 : va_W} {tx0 : List Int32} {c0 s0 : Nat} (C : RC p s m c args D cy ad A) (htx0 : tx0.length ≤ 550) (hc0 : c0 ≤ 2600) (hs0 : s0 ≤ 260000) {f : Int32} {b B : Nat → Int32} {H : Heap} {locs : List Loc} {ls : Array Slot} (T : TxR tx0 f b B) (hP : va_P D vwCl ([(r, .inr (9, [.int sd])), (a, .inr (10, [.int (nI w), .int (nI hh), .int s2, .int s3, .int s4, v5, v6, v7, v8, .null, v10]))] ++ ((CWB cy u qo (stW st f b) qb B) ++ Y0)) H) (hD : va_D A ([(r, .inr (9, [.int sd])), (a, .inr (10, [.int (nI w), .int (nI hh), .int s2, .int s3, .int s4, v5, v6, v7, v8, .null, v10]))] ++ ((CWB cy u qo (stW st f b) qb B) ++ Y0))) (hS : va_S A s.heap H locs) (hl : lv_has ls 10 [(7, .int (nI N)), (4, .int (nI n)), (3, .ref a), (0, .ref qo), (1, .ref qb), (2, .ref r)]) (K : ∀ (vT : Value) (rN : Nat → Nat) (f : Int32) (b B : Nat → Int32) (G : va_W) (H : Heap) (locs : List Loc) (ls : Array Slot), (vT = if rnV sd % 2 = 0 then .ref (rN 1) else .null) → (rnV sd % 2 = 0 → ndOK (tGen (rnV (rnS sd) % 3) (rnS (rnS sd))).1 (tGen (rnV (rnS sd) % 3) (rnS (rnS sd))).2.1 rN G) → TxR (tx0 ++ prT sd) f b B → va_P D vwCl ([(r, .inr (9, [.int (prS sd)])), (a, .inr (10, [.int (nI w), .int (nI hh), .int s2, .int s3, .int s4, v5, v6, v7, v8, vT, v10]))] ++ ((CWB cy u qo (stW st f b) qb B) ++ (Y0 ++ G))) H → va_D A ([(r, .inr (9, [.int (prS sd)])), (a, .inr (10, [.int (nI w), .int (nI hh), .int s2, .int s3, .int s4, v5, v6, v7, v8, vT, v10]))] ++ ((CWB cy u qo (stW st f b) qb B) ++ (Y0 ++ G))) → va_S A s.heap H locs → lv_has ls 10 [(7, .int (nI N)), (4, .int (nI n)), (3, .ref a), (0, .ref qo), (1, .ref qb), (2, .ref r)] → W p l e ({ frames := 100, cells := 4000, slots := 300000, locals := 4000 } : Room) s m args below meth c H locs (c0 + 120) (s0 + 12000) QQ (F0 m 584 ls [])) : W p l e ({ frames := 100, cells := 4000, slots := 300000, locals := 4000 } : Room) s m args below meth c H locs c0 s0 QQ (F0 m 536 ls []) := by
  obtain ⟨hx, hb, hml, hown, hts, hEZ, hA⟩ := C
  obtain ⟨⟨hEL, hDig, hVar, hNest⟩, hEW, hEH⟩ := id hEZ
  have hE := hEL.1
  have hL := hEL.2
  have hK := hE.1
  have hW1 := hEW.2.1
  have hW2 := hEW.2.2
  have inJ0 : ∀ w ∈ wsJ00, w ∈ wsL_randomShow := by decide +kernel
  have f191 := hts (.fieldLink RL 191 "PeepBoxLaw$Show" "term" "LPeepBoxLaw$Node;") (by decide +kernel)
  have inX10 : ∀ w ∈ wsX100, w ∈ wsL_randomShow := by decide +kernel
  refine lv_aload_n hx hb dL_randomShow_536 rfl (lv_at hl 5 rfl) ?_
  refine lv_iconst (v := 2) hx hb dL_randomShow_537 (by decide) ?_
  refine kc_i (va_runV (As := [.int (2 : Int32)]) (rest := []) ⟨hx, hb, hml, hown, hts⟩ (c_X9_below r (2) H.size sd (by omega) (by omega)) (cwV 1 hts gL_randomShow_X9_below rfl rfl rfl kd_X9_below ⟨Nat.le_of_ble_eq_true rfl, Nat.le_of_ble_eq_true rfl⟩) ⟨kP_blind (EN_ok D cy) D _ _ _, va_recv hK hP (ci := 9) (q0 := 0) rfl rfl, kStart (EN_ok D cy) hE hP hD hS hA [0] rfl rfl _⟩ rfl rfl hl.1 rfl (lv_room (Nat.le_of_ble_eq_true rfl)) dL_randomShow_538 ⟨by show c0 + 0 ≤ 4000; omega, by show s0 + 0 ≤ 300000; omega⟩) hP hD hS hA [0] rfl (Nat.le_refl _) (fun H locs hP hD hS => ?_)
  rw [wjn_1] at hP hD
  have hP : va_P D vwCl ([(r, .inr (9, [.int (rnS sd)])), (a, .inr (10, [.int (nI w), .int (nI hh), .int s2, .int s3, .int s4, v5, v6, v7, v8, .null, v10]))] ++ ((CWB cy u qo (stW st f b) qb B) ++ Y0)) H := hP
  have hD : va_D A ([(r, .inr (9, [.int (rnS sd)])), (a, .inr (10, [.int (nI w), .int (nI hh), .int s2, .int s3, .int s4, v5, v6, v7, v8, .null, v10]))] ++ ((CWB cy u qo (stW st f b) qb B) ++ Y0)) := hD
  by_cases hc : rnV sd % 2 = 0
  · skip
    refine lv_if_ne (tgt := 584) hx hb dL_randomShow_541 (by decide) (fun h1 => absurd (congrArg nI hc) h1) (fun _ => ?_)
    refine lv_aload_n hx hb dL_randomShow_544 rfl (lv_at hl 2 rfl) ?_
    refine lv_aload_n hx hb dL_randomShow_545 rfl (lv_at hl 5 rfl) ?_
    refine lv_aload_n hx hb dL_randomShow_546 rfl (lv_at hl 5 rfl) ?_
    refine lv_iconst (v := 3) hx hb dL_randomShow_547 (by decide) ?_
    refine kc_i (va_runV (As := [.int (3 : Int32)]) (rest := [.ref r, .ref a]) ⟨hx, hb, hml, hown, hts⟩ (c_X9_below r (3) H.size (rnS sd) (by omega) (by omega)) (cwV 1 hts gL_randomShow_X9_below rfl rfl rfl kd_X9_below ⟨Nat.le_of_ble_eq_true rfl, Nat.le_of_ble_eq_true rfl⟩) ⟨kP_blind (EN_ok D cy) D _ _ _, va_recv hK hP (ci := 9) (q0 := 0) rfl rfl, kStart (EN_ok D cy) hE hP hD hS hA [0] rfl rfl _⟩ rfl rfl hl.1 rfl (lv_room (Nat.le_of_ble_eq_true rfl)) dL_randomShow_548 ⟨by show c0 + 0 ≤ 4000; omega, by show s0 + 0 ≤ 300000; omega⟩) hP hD hS hA [0] rfl (Nat.le_refl _) (fun H locs hP hD hS => ?_)
    rw [wjn_1] at hP hD
    have hP : va_P D vwCl ([(r, .inr (9, [.int (rnS (rnS sd))])), (a, .inr (10, [.int (nI w), .int (nI hh), .int s2, .int s3, .int s4, v5, v6, v7, v8, .null, v10]))] ++ ((CWB cy u qo (stW st f b) qb B) ++ Y0)) H := hP
    have hD : va_D A ([(r, .inr (9, [.int (rnS (rnS sd))])), (a, .inr (10, [.int (nI w), .int (nI hh), .int s2, .int s3, .int s4, v5, v6, v7, v8, .null, v10]))] ++ ((CWB cy u qo (stW st f b) qb B) ++ Y0)) := hD
    obtain ⟨d, ed⟩ : ∃ z : Nat, z = rnV (rnS sd) % 3 := ⟨_, rfl⟩
    rw [← ed]
    have hd2 : d ≤ 2 := by omega
    have hnb : nb d ≤ 7 := nb_le hd2
    refine kc_R (va_runS (As := [.ref r, .int (nI d)]) (rest := [.ref a]) ⟨hx, hb, hml, hown, hts⟩ (c_X8_random d r H.size (rnS (rnS sd)) hd2) (va_cwS 2 hts gL_randomShow_X8_random rfl rfl rfl kd_X8_random ⟨by dsimp only; omega, by dsimp only; omega⟩) ⟨kP_blind (EN_ok D cy) D _ _ _, kStart (EN_ok D cy) hE hP hD hS hA [0] rfl rfl _⟩ rfl rfl hl.1 rfl (lv_room (Nat.le_of_ble_eq_true rfl)) dL_randomShow_551 ⟨by show c0 + nb d ≤ 4000; omega, by show s0 + 4 * nb d ≤ 300000; omega⟩) hP hD hS hA [0] rfl (fun _ _ => Nat.succ_le_succ (Nat.zero_le _)) (fun u9 q9 H locs hu hP hD hS => ?_)
    obtain ⟨rN, L⟩ := u9
    obtain ⟨rfl, okN⟩ := hu
    rw [wjn_set0] at hP hD
    have hP : va_P D vwCl (([(r, .inr (9, [.int (tGen d (rnS (rnS sd))).2.2])), (a, .inr (10, [.int (nI w), .int (nI hh), .int s2, .int s3, .int s4, v5, v6, v7, v8, .null, v10]))] ++ ((CWB cy u qo (stW st f b) qb B) ++ Y0)) ++ L) H := hP
    have hD : va_D A (([(r, .inr (9, [.int (tGen d (rnS (rnS sd))).2.2])), (a, .inr (10, [.int (nI w), .int (nI hh), .int s2, .int s3, .int s4, v5, v6, v7, v8, .null, v10]))] ++ ((CWB cy u qo (stW st f b) qb B) ++ Y0)) ++ L) := hD
    have hP : va_P D vwCl ([(r, .inr (9, [.int (tGen d (rnS (rnS sd))).2.2])), (a, .inr (10, [.int (nI w), .int (nI hh), .int s2, .int s3, .int s4, v5, v6, v7, v8, .null, v10]))] ++ ((CWB cy u qo (stW st f b) qb B) ++ (Y0 ++ L))) H := hP.perm (pm_asc (P := [(r, .inr (9, [.int (tGen d (rnS (rnS sd))).2.2])), (a, .inr (10, [.int (nI w), .int (nI hh), .int s2, .int s3, .int s4, v5, v6, v7, v8, .null, v10]))]) (C := (CWB cy u qo (stW st f b) qb B)) (Z := Y0) (L := L))
    have hD : va_D A ([(r, .inr (9, [.int (tGen d (rnS (rnS sd))).2.2])), (a, .inr (10, [.int (nI w), .int (nI hh), .int s2, .int s3, .int s4, v5, v6, v7, v8, .null, v10]))] ++ ((CWB cy u qo (stW st f b) qb B) ++ (Y0 ++ L))) := hD.perm (pm_asc (P := [(r, .inr (9, [.int (tGen d (rnS (rnS sd))).2.2])), (a, .inr (10, [.int (nI w), .int (nI hh), .int s2, .int s3, .int s4, v5, v6, v7, v8, .null, v10]))]) (C := (CWB cy u qo (stW st f b) qb B)) (Z := Y0) (L := L))
    show W p l e ({ frames := 100, cells := 4000, slots := 300000, locals := 4000 } : Room) s m args below meth c H _ (c0 + nb d) (s0 + 4 * nb d) QQ (F0 m 554 ls [.ref (rN 1), .ref a])
    refine va_put (D := D) (ci := 10) (v := .ref (rN 1)) (ty := (.object "PeepBoxLaw$Node")) (C := RX10) (T := TX10) (N := 11) hx hb hts inX10 tyX10 tyX10_ok nmX10 hown hK hP hD hS 1 rfl rfl 9 (by decide) f191 (fun _ h9 => h9) (by decide +kernel) rfl rfl rfl (Nat.le_of_ble_eq_true rfl) dL_randomShow_554 (fun H locs hP hD hS => ?_)
    have hP : va_P D vwCl ([(r, .inr (9, [.int (tGen d (rnS (rnS sd))).2.2])), (a, .inr (10, [.int (nI w), .int (nI hh), .int s2, .int s3, .int s4, v5, v6, v7, v8, .ref (rN 1), v10]))] ++ ((CWB cy u qo (stW st f b) qb B) ++ (Y0 ++ L))) H := hP
    have hD : va_D A ([(r, .inr (9, [.int (tGen d (rnS (rnS sd))).2.2])), (a, .inr (10, [.int (nI w), .int (nI hh), .int s2, .int s3, .int s4, v5, v6, v7, v8, .ref (rN 1), v10]))] ++ ((CWB cy u qo (stW st f b) qb B) ++ (Y0 ++ L))) := hD
    refine lv_aload_n hx hb dL_randomShow_557 rfl (lv_at hl 3 rfl) ?_
    refine lv_aload_n hx hb dL_randomShow_558 rfl (lv_at hl 4 rfl) ?_
    obtain ⟨a2, hRa2, hTa2⟩ := hL.2.2.2.2.2.2.2 ("PeepBoxLaw", 195, "price ", [112, 114, 105, 99, 101, 32]) (by decide +kernel)
    refine va_ldcS hx hb hown hRa2 dL_randomShow_559 ?_
    obtain ⟨f1, b1, B1, T1, M1⟩ := k_L_write (l := l) (D := D) (cy := cy) (s := ([112, 114, 105, 99, 101, 32] : List Int32)) u qo qb H.size (stW st f b) a2 (ascS_lit (by decide)) (by simp only [List.length_append, List.length_cons, List.length_nil]; omega) T
    refine kq_v (va_runS (As := [.ref qo, .ref qb, .ref a2]) (rest := []) ⟨hx, hb, hml, hown, hts⟩ M1 (va_cwS 3 hts gL_randomShow_L_write rfl rfl rfl kd_L_write ⟨Nat.le_of_ble_eq_true rfl, Nat.le_of_ble_eq_true rfl⟩) ⟨kP_blind (ES_ok D cy ([112, 114, 105, 99, 101, 32] : List Int32) a2) D _ _ _, kqStartS hE hP hD hS hA (kT_qo hTa2 hD hS hA) _⟩ rfl rfl hl.1 rfl (lv_room (Nat.le_of_ble_eq_true rfl)) dL_randomShow_561 ⟨by show (c0 + nb d) + 0 ≤ 4000; omega, by show (s0 + 4 * nb d) + 0 ≤ 300000; omega⟩) hP hD hS hA (fun H locs hP hD hS => ?_)
    rw [stW_stW] at hP hD
    refine lv_aload_n hx hb dL_randomShow_564 rfl (lv_at hl 3 rfl) ?_
    refine lv_aload_n hx hb dL_randomShow_565 rfl (lv_at hl 4 rfl) ?_
    refine lv_aload_n hx hb dL_randomShow_566 rfl (lv_at hl 2 rfl) ?_
    refine va_get (D := D) (ci := 10) (v := .ref (rN 1)) (C := RX10) (T := TX10) (N := 11) hx hb hts inX10 hown hK hP 1 rfl rfl 9 (by decide) f191 (fun _ h9 => h9) rfl dL_randomShow_567 ?_
    refine lv_iconst (v := 0) hx hb dL_randomShow_570 (by decide) ?_
    rw [show (0 : Int32) = (nI 0) from rfl]
    obtain ⟨hF, hFl⟩ := ndT_text d (rnS (rnS sd)) hd2
    have hin : ∀ i, shQ (rsG0 (tGen d (rnS (rnS sd))).1 (tGen d (rnS (rnS sd))).2.1) i = true → (rN i, nodeE (rsG0 (tGen d (rnS (rnS sd))).1 (tGen d (rnS (rnS sd))).2.1) rN i) ∈ [(r, .inr (9, [.int (tGen d (rnS (rnS sd))).2.2])), (a, .inr (10, [.int (nI w), .int (nI hh), .int s2, .int s3, .int s4, v5, v6, v7, v8, .ref (rN 1), v10]))] ++ ((CWB cy u qo (stW st f1 b1) qb B1) ++ (Y0 ++ L)) := fun i hi => List.mem_append_right _ (List.mem_append_right _ (List.mem_append_right _ (okN i (by rw [← shQ_nd (N := (tGen d (rnS (rnS sd))).2.1)]; exact hi))))
    have hV : ∀ j, j < 4 → kStrAt (vTx j) (ad j) A s s.heap := by obtain ⟨_, _, _, h⟩ := id hVar; exact h
    have hnT : nT 3 = 98 := rfl
    have hsT : sT 3 = 11900 := rfl
    have hr1 := nodeAt hK hP (hin 1 rfl)
    refine kc_R (va_runV (As := [.int (nI 0)]) (rest := [.ref qb, .ref qo]) ⟨hx, hb, hml, hown, hts⟩ (b_X8_text ad (rsG0 (tGen d (rnS (rnS sd))).1 (tGen d (rnS (rnS sd))).2.1) rN 3 1 0 H.size (ndT (tGen d (rnS (rnS sd))).1 (prV d (rnS (rnS sd))) 3 1 0) rfl (Or.inr (Or.inr (Or.inr ⟨rfl, rfl⟩))) hF (by decide)) (cwV 1 hts gL_randomShow_X8_text rfl rfl rfl kd_X8_text ⟨Nat.le_of_ble_eq_true rfl, Nat.le_of_ble_eq_true rfl⟩) ⟨kP_blind (EYN_ok D cy ad (rsG0 (tGen d (rnS (rnS sd))).1 (tGen d (rnS (rnS sd))).2.1) rN) D _ _ _, hr1, kStartN hEZ.1 hP hD hS hA hin _⟩ rfl rfl hl.1 rfl (lv_room (Nat.le_of_ble_eq_true rfl)) dL_randomShow_571 ⟨by show (c0 + nb d) + nT 3 ≤ 4000; omega, by show (s0 + 4 * nb d) + sT 3 ≤ 300000; omega⟩) hP hD hS hA [] rfl (fun _ _ => Nat.zero_le _) (fun u8 rc H locs hu hP hD hS => ?_)
    rw [wjn_nil] at hP hD
    have hP : va_P D vwCl ([(r, .inr (9, [.int (tGen d (rnS (rnS sd))).2.2])), (a, .inr (10, [.int (nI w), .int (nI hh), .int s2, .int s3, .int s4, v5, v6, v7, v8, .ref (rN 1), v10]))] ++ ((CWB cy u qo (stW st f1 b1) qb B1) ++ ((Y0 ++ L) ++ u8))) H := hP.perm (pm_asc (P := [(r, .inr (9, [.int (tGen d (rnS (rnS sd))).2.2])), (a, .inr (10, [.int (nI w), .int (nI hh), .int s2, .int s3, .int s4, v5, v6, v7, v8, .ref (rN 1), v10]))]) (C := (CWB cy u qo (stW st f1 b1) qb B1)) (Z := (Y0 ++ L)) (L := u8))
    have hD : va_D A ([(r, .inr (9, [.int (tGen d (rnS (rnS sd))).2.2])), (a, .inr (10, [.int (nI w), .int (nI hh), .int s2, .int s3, .int s4, v5, v6, v7, v8, .ref (rN 1), v10]))] ++ ((CWB cy u qo (stW st f1 b1) qb B1) ++ ((Y0 ++ L) ++ u8))) := hD.perm (pm_asc (P := [(r, .inr (9, [.int (tGen d (rnS (rnS sd))).2.2])), (a, .inr (10, [.int (nI w), .int (nI hh), .int s2, .int s3, .int s4, v5, v6, v7, v8, .ref (rN 1), v10]))]) (C := (CWB cy u qo (stW st f1 b1) qb B1)) (Z := (Y0 ++ L)) (L := u8))
    show W p l e ({ frames := 100, cells := 4000, slots := 300000, locals := 4000 } : Room) s m args below meth c H _ ((c0 + nb d) + nT 3) ((s0 + 4 * nb d) + sT 3) QQ (F0 m 574 ls [.ref rc, .ref qb, .ref qo])
    have hla : ascS (ndT (tGen d (rnS (rnS sd))).1 (prV d (rnS (rnS sd))) 3 1 0) := X8_text_asc _ _ _ _ hF
    obtain ⟨f2, b2, B2, T2, M2⟩ := k_L_write (l := l) (D := D) (cy := cy) (s := (ndT (tGen d (rnS (rnS sd))).1 (prV d (rnS (rnS sd))) 3 1 0)) u qo qb H.size (stW st f1 b1) rc hla (by simp only [List.length_append, List.length_cons, List.length_nil]; omega) T1
    refine kq_v (va_runS (As := [.ref qo, .ref qb, .ref rc]) (rest := []) ⟨hx, hb, hml, hown, hts⟩ M2 (va_cwS 3 hts gL_randomShow_L_write rfl rfl rfl kd_L_write ⟨Nat.le_of_ble_eq_true rfl, Nat.le_of_ble_eq_true rfl⟩) ⟨kP_blind (ES_ok D cy (ndT (tGen d (rnS (rnS sd))).1 (prV d (rnS (rnS sd))) 3 1 0) rc) D _ _ _, kqStartS hE hP hD hS hA (kT_strR hts inJ0 hK hV hu (fun z hz => List.mem_append_right _ (List.mem_append_right _ hz)) hP hD hS hA) _⟩ rfl rfl hl.1 rfl (lv_room (Nat.le_of_ble_eq_true rfl)) dL_randomShow_574 ⟨by show ((c0 + nb d) + nT 3) + 0 ≤ 4000; omega, by show ((s0 + 4 * nb d) + sT 3) + 0 ≤ 300000; omega⟩) hP hD hS hA (fun H locs hP hD hS => ?_)
    rw [stW_stW] at hP hD
    refine lv_aload_n hx hb dL_randomShow_577 rfl (lv_at hl 3 rfl) ?_
    refine lv_aload_n hx hb dL_randomShow_578 rfl (lv_at hl 4 rfl) ?_
    obtain ⟨a3, hRa3, hTa3⟩ := hL.2.2.2.2.2.2.2 ("PeepBoxLaw", 201, " ;", [32, 59]) (by decide +kernel)
    refine va_ldcS hx hb hown hRa3 dL_randomShow_579 ?_
    obtain ⟨f3, b3, B3, T3, M3⟩ := k_L_write (l := l) (D := D) (cy := cy) (s := ([32, 59] : List Int32)) u qo qb H.size (stW st f2 b2) a3 (ascS_lit (by decide)) (by simp only [List.length_append, List.length_cons, List.length_nil]; omega) T2
    refine kq_v (va_runS (As := [.ref qo, .ref qb, .ref a3]) (rest := []) ⟨hx, hb, hml, hown, hts⟩ M3 (va_cwS 3 hts gL_randomShow_L_write rfl rfl rfl kd_L_write ⟨Nat.le_of_ble_eq_true rfl, Nat.le_of_ble_eq_true rfl⟩) ⟨kP_blind (ES_ok D cy ([32, 59] : List Int32) a3) D _ _ _, kqStartS hE hP hD hS hA (kT_qo hTa3 hD hS hA) _⟩ rfl rfl hl.1 rfl (lv_room (Nat.le_of_ble_eq_true rfl)) dL_randomShow_581 ⟨by show ((c0 + nb d) + nT 3) + 0 ≤ 4000; omega, by show ((s0 + 4 * nb d) + sT 3) + 0 ≤ 300000; omega⟩) hP hD hS hA (fun H locs hP hD hS => ?_)
    rw [stW_stW] at hP hD
    have eT : (tx0 ++ [112, 114, 105, 99, 101, 32] ++ (ndT (tGen d (rnS (rnS sd))).1 (prV d (rnS (rnS sd))) 3 1 0) ++ [32, 59]) = tx0 ++ prT sd := by unfold prT; rw [if_pos hc, ← ed]; simp only [List.append_assoc]
    have T9 : TxR (tx0 ++ [112, 114, 105, 99, 101, 32] ++ (ndT (tGen d (rnS (rnS sd))).1 (prV d (rnS (rnS sd))) 3 1 0) ++ [32, 59]) _ _ _ := T3
    rw [eT] at T9
    refine W.widen (k := c0 + 120) (n := s0 + 12000) (by omega) (by omega) ?_
    have eS : (tGen d (rnS (rnS sd))).2.2 = prS sd := by unfold prS; rw [if_pos hc, ← ed]
    rw [eS, List.append_assoc Y0] at hP hD
    exact K (.ref (rN 1)) rN _ _ _ (L ++ u8) H _ ls (if_pos hc).symm (fun _ i hi => List.mem_append_left _ (by rw [← ed] at hi ⊢; exact okN i hi)) T9 hP hD hS (lv_sub hl [0, 1, 2, 3, 4, 5] rfl)
  · skip
    refine lv_if_ne (tgt := 584) hx hb dL_randomShow_541 (by decide) (fun _ => ?_) (fun h1 => absurd h1 (fun z => hc ((nI_eq (b := 0) (by omega) (by decide)).mp z)))
    refine W.widen (k := c0 + 120) (n := s0 + 12000) (by omega) (by omega) ?_
    exact K .null (fun _ => 0) _ _ _ [] H _ ls (if_neg hc).symm (fun z => absurd z hc) (by unfold prT; rw [if_neg hc, List.append_nil]; exact T) (by unfold prS; rw [if_neg hc, List.append_nil]; exact hP) (by unfold prS; rw [if_neg hc, List.append_nil]; exact hD) hS (lv_sub hl [0, 1, 2, 3, 4, 5] rfl)
