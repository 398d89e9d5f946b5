/-! the law: a turn, its loop (lw3.py) -/
theorem GI_TKs {cy : Nat → ClassId} {qP qH : Nat} {vT : Value} {rP rH : Nat → Nat} {rL : Nat → Nat → Nat} {rN : Nat → Nat} {Z : va_W} : ∀ (t : Nat) (G : LG) (va : Nat → Int64) (G2 : LG) (va2 : Nat → Int64), TKs t G va G2 va2 → GI cy G qP qH vT rP rH rL rN Z → GI cy G2 qP qH vT rP rH rL rN Z
  | 0, _, _, _, _, h, hI => h.1 ▸ hI
  | t + 1, _, _, _, _, ⟨_, _, h⟩, hI => GI_TKs t _ _ _ _ h hI.tk
set_option maxHeartbeats 1200000 in
set_option maxRecDepth 100000 in
theorem law_744n {p : Program} {l : Launch} {e : Env} {s : State} {m : MethodId} {below : List Frame} {meth : Method} {c : Code} {b L : Nat} {xs : Nat → Int32} {D : va_G} {cy : Nat → ClassId} {ad : Nat → Nat} {QQ : State → Prop} {u : Nat → Nat} {qo qb r a : Nat} {qP qU qH qG qV qB : Nat} {vT : Value} {rP rH rG : Nat → Nat} {rL : Nat → Nat → Nat} {rN : Nat → Nat} {va : Nat → Int64} {bf : Nat → Option Nat} {Z : va_W} {st : St} {G : LG} {sd : Int32} {c0 s0 : Nat} {n dn q : Nat} (C : LCx p l s m c b L xs D cy ad) {H : Heap} {locs : List Loc} {ls : Array Slot} (hP : va_P D vwCl ([(r, .inr (9, [.int sd])), (a, .inr (10, [.int (nI (shZ G 0)), .int (nI (shZ G 1)), .int (shI G 0), .int (shI G 1), .int (shI G 2), .ref qP, .ref qU, .ref qH, .ref qG, vT, .ref qV])), (qU, .inl (cy 0, (shZ G 2), .inl (shP G))), (qG, .inl (cy 8, (shZ G 4), .inr (.inr (.inr (.inr (fun i => some (rG i))))))), (qV, .inl (cy 2, 4, .inr (.inl va))), (qB, .inl (cy 9, 9, .inr (.inr (.inr (.inr bf)))))] ++ (CW cy u qo st ++ (rl (shZ G 4) rG (fun i => guestE (shG G i)) ++ Z))) H) (hD : va_D (fun q => s.heap.size ≤ q) ([(r, .inr (9, [.int sd])), (a, .inr (10, [.int (nI (shZ G 0)), .int (nI (shZ G 1)), .int (shI G 0), .int (shI G 1), .int (shI G 2), .ref qP, .ref qU, .ref qH, .ref qG, vT, .ref qV])), (qU, .inl (cy 0, (shZ G 2), .inl (shP G))), (qG, .inl (cy 8, (shZ G 4), .inr (.inr (.inr (.inr (fun i => some (rG i))))))), (qV, .inl (cy 2, 4, .inr (.inl va))), (qB, .inl (cy 9, 9, .inr (.inr (.inr (.inr bf)))))] ++ (CW cy u qo st ++ (rl (shZ G 4) rG (fun i => guestE (shG G i)) ++ Z)))) (hS : va_S (fun q => s.heap.size ≤ q) s.heap H locs) (hl : lv_has ls 23 [(11, .int (0 : Int32)), (10, .ref q), (9, .int (nI n)), (8, .int (nI dn)), (7, .ref qB), (6, .ref a), (5, .ref r), (4, .ref qb), (3, .ref qo), (1, .int (1 : Int32)), (0, .ref b), (2, .int (0 : Int32))]) (K : ∀ (H : Heap) (locs : List Loc) (ls : Array Slot), va_P D vwCl ([(r, .inr (9, [.int sd])), (a, .inr (10, [.int (nI (shZ G 0)), .int (nI (shZ G 1)), .int (shI G 0), .int (shI G 1), .int (shI G 2), .ref qP, .ref qU, .ref qH, .ref qG, vT, .ref qV])), (qU, .inl (cy 0, (shZ G 2), .inl (shP G))), (qG, .inl (cy 8, (shZ G 4), .inr (.inr (.inr (.inr (fun i => some (rG i))))))), (qV, .inl (cy 2, 4, .inr (.inl va))), (qB, .inl (cy 9, 9, .inr (.inr (.inr (.inr bf)))))] ++ (CW cy u qo st ++ (rl (shZ G 4) rG (fun i => guestE (shG G i)) ++ Z))) H → va_D (fun q => s.heap.size ≤ q) ([(r, .inr (9, [.int sd])), (a, .inr (10, [.int (nI (shZ G 0)), .int (nI (shZ G 1)), .int (shI G 0), .int (shI G 1), .int (shI G 2), .ref qP, .ref qU, .ref qH, .ref qG, vT, .ref qV])), (qU, .inl (cy 0, (shZ G 2), .inl (shP G))), (qG, .inl (cy 8, (shZ G 4), .inr (.inr (.inr (.inr (fun i => some (rG i))))))), (qV, .inl (cy 2, 4, .inr (.inl va))), (qB, .inl (cy 9, 9, .inr (.inr (.inr (.inr bf)))))] ++ (CW cy u qo st ++ (rl (shZ G 4) rG (fun i => guestE (shG G i)) ++ Z))) → va_S (fun q => s.heap.size ≤ q) s.heap H locs → lv_has ls 23 [(9, .int (nI n)), (8, .int (nI dn)), (7, .ref qB), (6, .ref a), (5, .ref r), (4, .ref qb), (3, .ref qo), (1, .int (1 : Int32)), (0, .ref b), (2, .int (0 : Int32))] → W p l e room_1 s m #[Value.ref b] below meth c H locs c0 s0 QQ (F0 m 785 ls [])) : W p l e room_1 s m #[Value.ref b] below meth c H locs c0 s0 QQ (F0 m 744 ls []) := by
  obtain ⟨hx, hb, hml, hown, hts, hX, hbl, hEZ, hst⟩ := id C
  obtain ⟨⟨hEL, hDig, hVar, hNest⟩, hEW, hEH⟩ := id hEZ
  have hE := hEL.1
  have hL := hEL.2
  have hK := hE.1
  have hA : ∀ q : Nat, s.heap.size ≤ q → (fun q : Nat => s.heap.size ≤ q) q := fun _ h => h
  refine lv_iload hx hb dL_law_744 (lv_at hl 0 rfl) ?_
  refine lv_if_eq (tgt := 785) hx hb dL_law_746 (by decide) (fun _ => ?_) (fun hbr1 => absurd (rfl) hbr1)
  exact K H _ ls hP hD hS (lv_sub hl [2, 3, 4, 5, 6, 7, 8, 9, 10, 11] rfl)
set_option maxHeartbeats 1200000 in
set_option maxRecDepth 100000 in
theorem law_turn {p : Program} {l : Launch} {e : Env} {s : State} {m : MethodId} {below : List Frame} {meth : Method} {c : Code} {b L : Nat} {xs : Nat → Int32} {D : va_G} {cy : Nat → ClassId} {ad : Nat → Nat} {QQ : State → Prop} {u : Nat → Nat} {qo qb r a : Nat} {qP qU qH qG qV qB : Nat} {vT : Value} {rP rH rG : Nat → Nat} {rL : Nat → Nat → Nat} {rN : Nat → Nat} {va : Nat → Int64} {bf : Nat → Option Nat} {Z : va_W} {st : St} {G : LG} {sd : Int32} {c0 s0 : Nat} {hs : Nat → LG} {k n dn : Nat} (C : LCx p l s m c b L xs D cy ad) {R : St → LG → (Nat → LG) → Nat → Prop} (hN : NumOK R) (hR : R st G hs k) (hI : GI cy G qP qH vT rP rH rL rN Z) (hB : BN bf Z) (hG : ∀ j, j < dn → j < 8 → GC cy (hs j) (bf j) Z) (hk : min dn 8 ≤ k) (hn : n < 18) (hdn : dn ≤ n) (hc0 : c0 + 2700 ≤ 600086) (hs0 : s0 + 65000 ≤ 7301442) {H : Heap} {locs : List Loc} {ls : Array Slot} (hP : va_P D vwCl ([(r, .inr (9, [.int sd])), (a, .inr (10, [.int (nI (shZ G 0)), .int (nI (shZ G 1)), .int (shI G 0), .int (shI G 1), .int (shI G 2), .ref qP, .ref qU, .ref qH, .ref qG, vT, .ref qV])), (qU, .inl (cy 0, (shZ G 2), .inl (shP G))), (qG, .inl (cy 8, (shZ G 4), .inr (.inr (.inr (.inr (fun i => some (rG i))))))), (qV, .inl (cy 2, 4, .inr (.inl va))), (qB, .inl (cy 9, 9, .inr (.inr (.inr (.inr bf)))))] ++ (CW cy u qo st ++ (rl (shZ G 4) rG (fun i => guestE (shG G i)) ++ Z))) H) (hD : va_D (fun q => s.heap.size ≤ q) ([(r, .inr (9, [.int sd])), (a, .inr (10, [.int (nI (shZ G 0)), .int (nI (shZ G 1)), .int (shI G 0), .int (shI G 1), .int (shI G 2), .ref qP, .ref qU, .ref qH, .ref qG, vT, .ref qV])), (qU, .inl (cy 0, (shZ G 2), .inl (shP G))), (qG, .inl (cy 8, (shZ G 4), .inr (.inr (.inr (.inr (fun i => some (rG i))))))), (qV, .inl (cy 2, 4, .inr (.inl va))), (qB, .inl (cy 9, 9, .inr (.inr (.inr (.inr bf)))))] ++ (CW cy u qo st ++ (rl (shZ G 4) rG (fun i => guestE (shG G i)) ++ Z)))) (hS : va_S (fun q => s.heap.size ≤ q) s.heap H locs) (hl : lv_has ls 23 [(9, .int (nI n)), (8, .int (nI dn)), (7, .ref qB), (6, .ref a), (5, .ref r), (4, .ref qb), (3, .ref qo), (1, .int (1 : Int32)), (0, .ref b), (2, .int (0 : Int32))]) (K : ∀ (G2 : LG) (hs2 : Nat → LG) (k2 dn2 : Nat) (st2 : St) (sd2 : Int32) (qG2 : Nat) (rG2 : Nat → Nat) (va2 : Nat → Int64) (bf2 : Nat → Option Nat) (Z2 : va_W) (H : Heap) (locs : List Loc) (ls : Array Slot), R st2 G2 hs2 k2 → GI cy G2 qP qH vT rP rH rL rN Z2 → BN bf2 Z2 → (∀ j, j < dn2 → j < 8 → GC cy (hs2 j) (bf2 j) Z2) → min dn2 8 ≤ k2 → dn2 ≤ dn + 1 → va_P D vwCl ([(r, .inr (9, [.int sd2])), (a, .inr (10, [.int (nI (shZ G2 0)), .int (nI (shZ G2 1)), .int (shI G2 0), .int (shI G2 1), .int (shI G2 2), .ref qP, .ref qU, .ref qH, .ref qG2, vT, .ref qV])), (qU, .inl (cy 0, (shZ G2 2), .inl (shP G2))), (qG2, .inl (cy 8, (shZ G2 4), .inr (.inr (.inr (.inr (fun i => some (rG2 i))))))), (qV, .inl (cy 2, 4, .inr (.inl va2))), (qB, .inl (cy 9, 9, .inr (.inr (.inr (.inr bf2)))))] ++ (CW cy u qo st2 ++ (rl (shZ G2 4) rG2 (fun i => guestE (shG G2 i)) ++ Z2))) H → va_D (fun q => s.heap.size ≤ q) ([(r, .inr (9, [.int sd2])), (a, .inr (10, [.int (nI (shZ G2 0)), .int (nI (shZ G2 1)), .int (shI G2 0), .int (shI G2 1), .int (shI G2 2), .ref qP, .ref qU, .ref qH, .ref qG2, vT, .ref qV])), (qU, .inl (cy 0, (shZ G2 2), .inl (shP G2))), (qG2, .inl (cy 8, (shZ G2 4), .inr (.inr (.inr (.inr (fun i => some (rG2 i))))))), (qV, .inl (cy 2, 4, .inr (.inl va2))), (qB, .inl (cy 9, 9, .inr (.inr (.inr (.inr bf2)))))] ++ (CW cy u qo st2 ++ (rl (shZ G2 4) rG2 (fun i => guestE (shG G2 i)) ++ Z2))) → va_S (fun q => s.heap.size ≤ q) s.heap H locs → lv_has ls 23 [(9, .int (nI (n + 1))), (8, .int (nI dn2)), (7, .ref qB), (6, .ref a), (5, .ref r), (4, .ref qb), (3, .ref qo), (1, .int (1 : Int32)), (0, .ref b), (2, .int (0 : Int32))] → W p l e room_1 s m #[Value.ref b] below meth c H locs (c0 + 2600) (s0 + 64000) QQ (F0 m 249 ls [])) : W p l e room_1 s m #[Value.ref b] below meth c H locs c0 s0 QQ (F0 m 249 ls []) := by
  obtain ⟨hx, hb, hml, hown, hts, hX, hbl, hEZ, hst⟩ := id C
  obtain ⟨⟨hEL, hDig, hVar, hNest⟩, hEW, hEH⟩ := id hEZ
  have hE := hEL.1
  have hL := hEL.2
  have hK := hE.1
  have hA : ∀ q : Nat, s.heap.size ≤ q → (fun q : Nat => s.heap.size ≤ q) q := fun _ h => h
  have inJ0 : ∀ w ∈ wsJ00, w ∈ wsL_law := by decide +kernel
  obtain ⟨n1, n2, n3, n4, n5, n6, n7, n8, n9, n10, n11, n12, n13, n14⟩ := id hN
  obtain ⟨hz2, hz1, hz4, -⟩ := n2 st G hs k hR
  refine lv_iload hx hb dL_law_249 (lv_at hl 0 rfl) ?_
  refine lv_bipush (v := 18) hx hb dL_law_251 (by decide) ?_
  refine lv_icmp_ge (tgt := 810) hx hb dL_law_253 (by decide) (fun hbr1 => absurd hbr1 (nI_ge (a := n) (b := 18) hn (by decide))) (fun _ => ?_)
  refine lv_iload_n hx hb dL_law_256 rfl (lv_at hl 7 rfl) ?_
  refine lv_if_eq (tgt := 810) hx hb dL_law_257 (by decide) (fun hbr2 => absurd hbr2 ((by decide : ¬ ((1 : Int32) = 0)))) (fun _ => ?_)
  refine lv_aload hx hb dL_law_260 (lv_at hl 3 rfl) ?_
  refine wq_copy C hI hz2.2 (by omega) hP hD hS hl dL_law_262 (by omega) (by omega) (fun q u2 r2 H locs hP hD hS => ?_)
  obtain ⟨Z1, eZ1⟩ : ∃ z : va_W, z = (Z ++ cpE cy G qP qH vT q u2 r2) := ⟨_, rfl⟩
  rw [← eZ1] at hP hD
  have hm : ∀ z ∈ Z, z ∈ Z1 := fun z hz => by rw [eZ1]; exact List.mem_append_left _ hz
  have hI : GI cy G qP qH vT rP rH rL rN Z1 := hI.mono hm
  have hB : BN bf Z1 := hB.mono hm
  have hG : ∀ j, j < dn → j < 8 → GC cy (hs j) (bf j) Z1 := fun j h1 h2 => (hG j h1 h2).mono hm
  have hq : (q, (showE G qP (u2 0) qH (u2 1) vT (u2 2) : va_E)) ∈ Z1 := by rw [eZ1]; exact List.mem_append_right _ (List.mem_append_left _ (List.mem_of_getElem? (i := 0) rfl))
  have hGq : GC cy G (some q) Z1 := ⟨q, u2 2, qP, u2 0, qH, u2 1, vT, rP, rH, r2, rL, rN, rfl, hI, hq, by rw [eZ1]; exact List.mem_append_right _ (List.mem_append_left _ (List.mem_of_getElem? (i := 1) rfl)), by rw [eZ1]; exact List.mem_append_right _ (List.mem_append_left _ (List.mem_of_getElem? (i := 2) rfl)), fun j hj => by rw [eZ1]; exact List.mem_append_right _ (List.mem_append_right _ (List.mem_of_getElem? (rl_at hj)))⟩
  have hP : va_P D vwCl ([(r, .inr (9, [.int sd])), (a, .inr (10, [.int (nI (shZ G 0)), .int (nI (shZ G 1)), .int (shI G 0), .int (shI G 1), .int (shI G 2), .ref qP, .ref qU, .ref qH, .ref qG, vT, .ref qV])), (qU, .inl (cy 0, (shZ G 2), .inl (shP G))), (qG, .inl (cy 8, (shZ G 4), .inr (.inr (.inr (.inr (fun i => some (rG i))))))), (qV, .inl (cy 2, 4, .inr (.inl va))), (qB, .inl (cy 9, 9, .inr (.inr (.inr (.inr bf)))))] ++ (CW cy u qo st ++ (rl (shZ G 4) rG (fun i => guestE (shG G i)) ++ Z1))) H := hP
  have hD : va_D (fun q => s.heap.size ≤ q) ([(r, .inr (9, [.int sd])), (a, .inr (10, [.int (nI (shZ G 0)), .int (nI (shZ G 1)), .int (shI G 0), .int (shI G 1), .int (shI G 2), .ref qP, .ref qU, .ref qH, .ref qG, vT, .ref qV])), (qU, .inl (cy 0, (shZ G 2), .inl (shP G))), (qG, .inl (cy 8, (shZ G 4), .inr (.inr (.inr (.inr (fun i => some (rG i))))))), (qV, .inl (cy 2, 4, .inr (.inl va))), (qB, .inl (cy 9, 9, .inr (.inr (.inr (.inr bf)))))] ++ (CW cy u qo st ++ (rl (shZ G 4) rG (fun i => guestE (shG G i)) ++ Z1))) := hD
  refine lv_astore (lv' := [(10, .ref q), (9, .int (nI n)), (8, .int (nI dn)), (7, .ref qB), (6, .ref a), (5, .ref r), (4, .ref qb), (3, .ref qo), (1, .int (1 : Int32)), (0, .ref b), (2, .int (0 : Int32))]) hx hb dL_law_265 hl (by decide) rfl (fun ls hl => ?_)
  refine lv_iconst (v := 1) hx hb dL_law_267 (by decide) ?_
  refine lv_istore (lv' := [(11, .int (1 : Int32)), (10, .ref q), (9, .int (nI n)), (8, .int (nI dn)), (7, .ref qB), (6, .ref a), (5, .ref r), (4, .ref qb), (3, .ref qo), (1, .int (1 : Int32)), (0, .ref b), (2, .int (0 : Int32))]) hx hb dL_law_268 hl (by decide) rfl (fun ls hl => ?_)
  refine lv_aload hx hb dL_law_270 (lv_at hl 6 rfl) ?_
  refine lv_bipush (v := 6) hx hb dL_law_272 (by decide) ?_
  refine kc_i (va_runV (As := [.int (6 : Int32)]) (rest := []) ⟨hx, hb, hml, hown, hts⟩ (c_X9_below r (6) H.size sd (by omega) (by omega)) (cwV 1 hts gL_law_X9_below rfl rfl rfl kd_X9_below ⟨Nat.le_of_ble_eq_true rfl, Nat.le_of_ble_eq_true rfl⟩) ⟨kP_blind (EN_ok D cy) D _ _ _, va_recv hK hP (ci := 9) (q0 := 0) rfl rfl, kStart (EN_ok D cy) hE hP hD hS hA [0] rfl rfl _⟩ rfl rfl hl.1 rfl (lv_room (Nat.le_of_ble_eq_true rfl)) dL_law_274 ⟨by show (c0 + 40) + 0 ≤ 600086; omega, by show (s0 + 300) + 0 ≤ 7301442; omega⟩) hP hD hS hA [0] rfl (Nat.le_refl _) (fun H locs hP hD hS => ?_)
  rw [wjn_1] at hP hD
  have hP : va_P D vwCl ([(r, .inr (9, [.int (rnS sd)])), (a, .inr (10, [.int (nI (shZ G 0)), .int (nI (shZ G 1)), .int (shI G 0), .int (shI G 1), .int (shI G 2), .ref qP, .ref qU, .ref qH, .ref qG, vT, .ref qV])), (qU, .inl (cy 0, (shZ G 2), .inl (shP G))), (qG, .inl (cy 8, (shZ G 4), .inr (.inr (.inr (.inr (fun i => some (rG i))))))), (qV, .inl (cy 2, 4, .inr (.inl va))), (qB, .inl (cy 9, 9, .inr (.inr (.inr (.inr bf)))))] ++ (CW cy u qo st ++ (rl (shZ G 4) rG (fun i => guestE (shG G i)) ++ Z1))) H := hP
  have hD : va_D (fun q => s.heap.size ≤ q) ([(r, .inr (9, [.int (rnS sd)])), (a, .inr (10, [.int (nI (shZ G 0)), .int (nI (shZ G 1)), .int (shI G 0), .int (shI G 1), .int (shI G 2), .ref qP, .ref qU, .ref qH, .ref qG, vT, .ref qV])), (qU, .inl (cy 0, (shZ G 2), .inl (shP G))), (qG, .inl (cy 8, (shZ G 4), .inr (.inr (.inr (.inr (fun i => some (rG i))))))), (qV, .inl (cy 2, 4, .inr (.inl va))), (qB, .inl (cy 9, 9, .inr (.inr (.inr (.inr bf)))))] ++ (CW cy u qo st ++ (rl (shZ G 4) rG (fun i => guestE (shG G i)) ++ Z1))) := hD
  obtain ⟨ch, ech⟩ : ∃ z : Nat, z = rnV sd % 6 := ⟨_, rfl⟩
  rw [← ech]
  have hch : ch < 6 := by omega
  have J1 : ∀ (G2 : LG) (st2 : St) (sd2 : Int32) (qG2 : Nat) (rG2 : Nat → Nat) (va2 : Nat → Int64) (H : Heap) (locs : List Loc) (ls : Array Slot), R st2 G2 (hpush G hs) (min (k + 1) 8) → GI cy G2 qP qH vT rP rH rL rN Z1 → va_P D vwCl ([(r, .inr (9, [.int sd2])), (a, .inr (10, [.int (nI (shZ G2 0)), .int (nI (shZ G2 1)), .int (shI G2 0), .int (shI G2 1), .int (shI G2 2), .ref qP, .ref qU, .ref qH, .ref qG2, vT, .ref qV])), (qU, .inl (cy 0, (shZ G2 2), .inl (shP G2))), (qG2, .inl (cy 8, (shZ G2 4), .inr (.inr (.inr (.inr (fun i => some (rG2 i))))))), (qV, .inl (cy 2, 4, .inr (.inl va2))), (qB, .inl (cy 9, 9, .inr (.inr (.inr (.inr bf)))))] ++ (CW cy u qo st2 ++ (rl (shZ G2 4) rG2 (fun i => guestE (shG G2 i)) ++ Z1))) H → va_D (fun q => s.heap.size ≤ q) ([(r, .inr (9, [.int sd2])), (a, .inr (10, [.int (nI (shZ G2 0)), .int (nI (shZ G2 1)), .int (shI G2 0), .int (shI G2 1), .int (shI G2 2), .ref qP, .ref qU, .ref qH, .ref qG2, vT, .ref qV])), (qU, .inl (cy 0, (shZ G2 2), .inl (shP G2))), (qG2, .inl (cy 8, (shZ G2 4), .inr (.inr (.inr (.inr (fun i => some (rG2 i))))))), (qV, .inl (cy 2, 4, .inr (.inl va2))), (qB, .inl (cy 9, 9, .inr (.inr (.inr (.inr bf)))))] ++ (CW cy u qo st2 ++ (rl (shZ G2 4) rG2 (fun i => guestE (shG G2 i)) ++ Z1))) → va_S (fun q => s.heap.size ≤ q) s.heap H locs → lv_has ls 23 [(11, .int (1 : Int32)), (10, .ref q), (9, .int (nI n)), (8, .int (nI dn)), (7, .ref qB), (6, .ref a), (5, .ref r), (4, .ref qb), (3, .ref qo), (1, .int (1 : Int32)), (0, .ref b), (2, .int (0 : Int32))] → W p l e room_1 s m #[Value.ref b] below meth c H locs (c0 + 2560) (s0 + 63000) QQ (F0 m 744 ls []) := by
    intro G2 st2 sd2 qG2 rG2 va2 H locs ls hR2 hI2 hP hD hS hl
    refine law_shift (rP := rP) (rH := rH) (rL := rL) (rN := rN) C hB hq hP hD hS hl (fun H locs ls hP hD hS hl => ?_)
    refine law_785 C hI2 (n1 _ _ _ _ hR2) (by omega) (by omega) hP hD hS hl (fun H locs ls hP hD hS hl => ?_)
    refine W.widen (k := c0 + 2600) (n := s0 + 64000) (by omega) (by omega) ?_
    refine K G2 (hpush G hs) (min (k + 1) 8) (dn + 1) st2 sd2 qG2 rG2 va2 (bpush q bf) Z1 H _ ls hR2 hI2 ?_ ?_ (by omega) (by omega) hP hD hS hl
    · intro i hi
      match i with
      | 0 => exact Or.inr ⟨q, _, bpush_0 q bf, hq⟩
      | i + 1 => rw [bpush_s]; exact hB i (by omega)
    · intro i h1 h2
      match i with
      | 0 => rw [bpush_0]; exact hGq
      | i + 1 => rw [bpush_s]; exact hG i (by omega) (by omega)
  have J0 : ∀ (sd2 : Int32) (H : Heap) (locs : List Loc) (ls : Array Slot), va_P D vwCl ([(r, .inr (9, [.int sd2])), (a, .inr (10, [.int (nI (shZ G 0)), .int (nI (shZ G 1)), .int (shI G 0), .int (shI G 1), .int (shI G 2), .ref qP, .ref qU, .ref qH, .ref qG, vT, .ref qV])), (qU, .inl (cy 0, (shZ G 2), .inl (shP G))), (qG, .inl (cy 8, (shZ G 4), .inr (.inr (.inr (.inr (fun i => some (rG i))))))), (qV, .inl (cy 2, 4, .inr (.inl va))), (qB, .inl (cy 9, 9, .inr (.inr (.inr (.inr bf)))))] ++ (CW cy u qo st ++ (rl (shZ G 4) rG (fun i => guestE (shG G i)) ++ Z1))) H → va_D (fun q => s.heap.size ≤ q) ([(r, .inr (9, [.int sd2])), (a, .inr (10, [.int (nI (shZ G 0)), .int (nI (shZ G 1)), .int (shI G 0), .int (shI G 1), .int (shI G 2), .ref qP, .ref qU, .ref qH, .ref qG, vT, .ref qV])), (qU, .inl (cy 0, (shZ G 2), .inl (shP G))), (qG, .inl (cy 8, (shZ G 4), .inr (.inr (.inr (.inr (fun i => some (rG i))))))), (qV, .inl (cy 2, 4, .inr (.inl va))), (qB, .inl (cy 9, 9, .inr (.inr (.inr (.inr bf)))))] ++ (CW cy u qo st ++ (rl (shZ G 4) rG (fun i => guestE (shG G i)) ++ Z1))) → va_S (fun q => s.heap.size ≤ q) s.heap H locs → lv_has ls 23 [(11, .int (0 : Int32)), (10, .ref q), (9, .int (nI n)), (8, .int (nI dn)), (7, .ref qB), (6, .ref a), (5, .ref r), (4, .ref qb), (3, .ref qo), (1, .int (1 : Int32)), (0, .ref b), (2, .int (0 : Int32))] → W p l e room_1 s m #[Value.ref b] below meth c H locs (c0 + 2560) (s0 + 63000) QQ (F0 m 744 ls []) := by
    intro sd2 H locs ls hP hD hS hl
    refine law_744n (rP := rP) (rH := rH) (rL := rL) (rN := rN) C hP hD hS hl (fun H locs ls hP hD hS hl => ?_)
    refine law_785 C hI (n1 _ _ _ _ hR) (by omega) (by omega) hP hD hS hl (fun H locs ls hP hD hS hl => ?_)
    refine W.widen (k := c0 + 2600) (n := s0 + 64000) (by omega) (by omega) ?_
    exact K G hs k dn st sd2 qG rG va bf Z1 H _ ls hR hI hB hG hk (by omega) hP hD hS hl
  have JT : ∀ (ls : Array Slot), lv_has ls 23 [(11, .int (1 : Int32)), (10, .ref q), (9, .int (nI n)), (8, .int (nI dn)), (7, .ref qB), (6, .ref a), (5, .ref r), (4, .ref qb), (3, .ref qo), (1, .int (1 : Int32)), (0, .ref b), (2, .int (0 : Int32))] → W p l e room_1 s m #[Value.ref b] below meth c H locs (c0 + 40) (s0 + 300) QQ (F0 m 312 ls []) := by
    intro ls hl
    obtain ⟨G2, va2, st2, x, y, hT, hx1, hx2, hO, hR2⟩ := n3 st G hs k (1 + rnV (rnS sd) % 4) va hR (by omega) (by omega)
    have hI2 : GI cy G2 qP qH vT rP rH rL rN Z1 := GI_TKs _ _ _ _ _ hT hI
    refine law_ticks C hI rfl hT hx1 hx2 hO (by omega) (by omega) hP hD hS hl (fun H locs ls hP hD hS hl => ?_)
    refine W.widen (k := c0 + 2560) (n := s0 + 63000) (by omega) (by omega) ?_
    exact J1 G2 st2 _ qG rG va2 H _ ls hR2 hI2 hP hD hS hl
  have JC : ∀ (ls : Array Slot), lv_has ls 23 [(11, .int (1 : Int32)), (10, .ref q), (9, .int (nI n)), (8, .int (nI dn)), (7, .ref qB), (6, .ref a), (5, .ref r), (4, .ref qb), (3, .ref qo), (1, .int (1 : Int32)), (0, .ref b), (2, .int (0 : Int32))] → W p l e room_1 s m #[Value.ref b] below meth c H locs (c0 + 40) (s0 + 300) QQ (F0 m 544 ls []) := by
    intro ls hl
    refine law_come (rP := rP) (rH := rH) (rL := rL) (rN := rN) C (K9 := fun t w co st2 => R st2 (shCo G (gNew (nI t) (nI w) (nI co))) (hpush G hs) (min (k + 1) 8)) hz4 (fun t w co h1 h2 h3 => n7 st G hs k t w co hR h1 h2 h3) (fun t w co h1 h2 h3 h4 => n6 st G hs k t w co hR h1 h2 h3 h4) (by omega) (by omega) hP hD hS hl (fun H locs ls hP hD hS hl => ?_) (fun t w co st2 q2 rG2 H locs ls h1 h2 h3 h4 hR2 hP hD hS hl => ?_)
    · refine W.widen (k := c0 + 2560) (n := s0 + 63000) (by omega) (by omega) ?_
      exact J0 _ H _ ls hP hD hS hl
    · refine W.widen (k := c0 + 2560) (n := s0 + 63000) (by omega) (by omega) ?_
      exact J1 _ st2 _ q2 rG2 va H _ ls hR2 hI.co hP hD hS hl
  rcases (show ch = 0 ∨ ch = 1 ∨ ch = 2 ∨ ch = 3 ∨ ch = 4 ∨ ch = 5 by omega) with e9 | e9 | e9 | e9 | e9 | e9
  · rw [e9]
    refine lv_tableIn (off := 35) (tgt := 312) hx hb dL_law_277 (by decide +kernel) (by decide +kernel) (by decide +kernel) (by decide) ?_
    exact JT ls (lv_sub hl [0, 1, 2, 3, 4, 5, 6, 7, 8, 9, 10, 11] rfl)
  · rw [e9]
    refine lv_tableIn (off := 35) (tgt := 312) hx hb dL_law_277 (by decide +kernel) (by decide +kernel) (by decide +kernel) (by decide) ?_
    exact JT ls (lv_sub hl [0, 1, 2, 3, 4, 5, 6, 7, 8, 9, 10, 11] rfl)
  · rw [e9]
    refine lv_tableIn (off := 99) (tgt := 376) hx hb dL_law_277 (by decide +kernel) (by decide +kernel) (by decide +kernel) (by decide) ?_
    refine law_pull C (K9 := fun p w st2 => R st2 (shPu G p w) (hpush G hs) (min (k + 1) 8)) hI hz2 hz1 (fun p w h1 h2 => n5 st G hs k p w hR h1 h2) (fun p w h1 h2 => n4 st G hs k p w hR h1 h2) (by omega) (by omega) hP hD hS (lv_sub hl [0, 1, 2, 3, 4, 5, 6, 7, 8, 9, 10, 11] rfl) (fun H locs ls hP hD hS hl => ?_) (fun p w st2 H locs ls h1 h2 hR2 hP hD hS hl => ?_)
    · refine W.widen (k := c0 + 2560) (n := s0 + 63000) (by omega) (by omega) ?_
      exact J0 _ H _ ls hP hD hS hl
    · refine W.widen (k := c0 + 2560) (n := s0 + 63000) (by omega) (by omega) ?_
      exact J1 _ st2 _ qG rG va H _ ls hR2 hI.pu hP hD hS hl
  · rw [e9]
    refine lv_tableIn (off := 267) (tgt := 544) hx hb dL_law_277 (by decide +kernel) (by decide +kernel) (by decide +kernel) (by decide) ?_
    exact JC ls (lv_sub hl [0, 1, 2, 3, 4, 5, 6, 7, 8, 9, 10, 11] rfl)
  · rw [e9]
    refine lv_tableIn (off := 267) (tgt := 544) hx hb dL_law_277 (by decide +kernel) (by decide +kernel) (by decide +kernel) (by decide) ?_
    exact JC ls (lv_sub hl [0, 1, 2, 3, 4, 5, 6, 7, 8, 9, 10, 11] rfl)
  · rw [e9]
    refine lv_tableOut (tgt := 670) hx hb dL_law_277 (Or.inr (by decide +kernel)) (by decide) ?_
    refine law_length (rP := rP) (rH := rH) (rL := rL) (rN := rN) C (K9 := fun ln st2 => R st2 (shLe G ln) (hpush G hs) (min (k + 1) 8)) (fun ln h1 h2 _ => n9 st G hs k ln hR h2 h1) (fun ln h1 h2 _ => n8 st G hs k ln hR h1 h2) (by omega) (by omega) hP hD hS (lv_sub hl [0, 1, 2, 3, 4, 5, 6, 7, 8, 9, 10, 11] rfl) (fun H locs ls hP hD hS hl => ?_) (fun ln st2 H locs ls hR2 hP hD hS hl => ?_)
    · refine W.widen (k := c0 + 2560) (n := s0 + 63000) (by omega) (by omega) ?_
      exact J0 _ H _ ls hP hD hS hl
    · refine W.widen (k := c0 + 2560) (n := s0 + 63000) (by omega) (by omega) ?_
      exact J1 _ st2 _ qG rG va H _ ls hR2 hI.le hP hD hS hl
set_option maxHeartbeats 1200000 in
set_option maxRecDepth 100000 in
theorem law_loop {p : Program} {l : Launch} {e : Env} {s : State} {m : MethodId} {below : List Frame} {meth : Method} {c : Code} {b L : Nat} {xs : Nat → Int32} {D : va_G} {cy : Nat → ClassId} {ad : Nat → Nat} {QQ : State → Prop} {u : Nat → Nat} {qo qb r a : Nat} {qP qU qH qV qB : Nat} {vT : Value} {rP rH : Nat → Nat} {rL : Nat → Nat → Nat} {rN : Nat → Nat} {c0 s0 : Nat} (C : LCx p l s m c b L xs D cy ad) {R : St → LG → (Nat → LG) → Nat → Prop} (hN : NumOK R) (hc0 : c0 + 60000 ≤ 600086) (hs0 : s0 + 1500000 ≤ 7301442) (K : ∀ (G2 : LG) (hs2 : Nat → LG) (k2 dn2 : Nat) (st2 : St) (sd2 : Int32) (qG2 : Nat) (rG2 : Nat → Nat) (va2 : Nat → Int64) (bf2 : Nat → Option Nat) (Z2 : va_W) (H : Heap) (locs : List Loc) (ls : Array Slot), R st2 G2 hs2 k2 → GI cy G2 qP qH vT rP rH rL rN Z2 → BN bf2 Z2 → (∀ j, j < dn2 → j < 8 → GC cy (hs2 j) (bf2 j) Z2) → min dn2 8 ≤ k2 → dn2 ≤ 18 → va_P D vwCl ([(r, .inr (9, [.int sd2])), (a, .inr (10, [.int (nI (shZ G2 0)), .int (nI (shZ G2 1)), .int (shI G2 0), .int (shI G2 1), .int (shI G2 2), .ref qP, .ref qU, .ref qH, .ref qG2, vT, .ref qV])), (qU, .inl (cy 0, (shZ G2 2), .inl (shP G2))), (qG2, .inl (cy 8, (shZ G2 4), .inr (.inr (.inr (.inr (fun i => some (rG2 i))))))), (qV, .inl (cy 2, 4, .inr (.inl va2))), (qB, .inl (cy 9, 9, .inr (.inr (.inr (.inr bf2)))))] ++ (CW cy u qo st2 ++ (rl (shZ G2 4) rG2 (fun i => guestE (shG G2 i)) ++ Z2))) H → va_D (fun q => s.heap.size ≤ q) ([(r, .inr (9, [.int sd2])), (a, .inr (10, [.int (nI (shZ G2 0)), .int (nI (shZ G2 1)), .int (shI G2 0), .int (shI G2 1), .int (shI G2 2), .ref qP, .ref qU, .ref qH, .ref qG2, vT, .ref qV])), (qU, .inl (cy 0, (shZ G2 2), .inl (shP G2))), (qG2, .inl (cy 8, (shZ G2 4), .inr (.inr (.inr (.inr (fun i => some (rG2 i))))))), (qV, .inl (cy 2, 4, .inr (.inl va2))), (qB, .inl (cy 9, 9, .inr (.inr (.inr (.inr bf2)))))] ++ (CW cy u qo st2 ++ (rl (shZ G2 4) rG2 (fun i => guestE (shG G2 i)) ++ Z2))) → va_S (fun q => s.heap.size ≤ q) s.heap H locs → lv_has ls 23 [(8, .int (nI dn2)), (7, .ref qB), (6, .ref a), (5, .ref r), (4, .ref qb), (3, .ref qo), (1, .int (1 : Int32)), (0, .ref b), (2, .int (0 : Int32))] → W p l e room_1 s m #[Value.ref b] below meth c H locs (c0 + 46800) (s0 + 1152000) QQ (F0 m 810 ls [])) : ∀ (j n dn k : Nat) (hs : Nat → LG) (st : St) (G : LG) (sd : Int32) (qG : Nat) (rG : Nat → Nat) (va : Nat → Int64) (bf : Nat → Option Nat) (Z : va_W) (H : Heap) (locs : List Loc) (ls : Array Slot), 18 - n < j → n ≤ 18 → dn ≤ n → R st G hs k → GI cy G qP qH vT rP rH rL rN Z → BN bf Z → (∀ j, j < dn → j < 8 → GC cy (hs j) (bf j) Z) → min dn 8 ≤ k → va_P D vwCl ([(r, .inr (9, [.int sd])), (a, .inr (10, [.int (nI (shZ G 0)), .int (nI (shZ G 1)), .int (shI G 0), .int (shI G 1), .int (shI G 2), .ref qP, .ref qU, .ref qH, .ref qG, vT, .ref qV])), (qU, .inl (cy 0, (shZ G 2), .inl (shP G))), (qG, .inl (cy 8, (shZ G 4), .inr (.inr (.inr (.inr (fun i => some (rG i))))))), (qV, .inl (cy 2, 4, .inr (.inl va))), (qB, .inl (cy 9, 9, .inr (.inr (.inr (.inr bf)))))] ++ (CW cy u qo st ++ (rl (shZ G 4) rG (fun i => guestE (shG G i)) ++ Z))) H → va_D (fun q => s.heap.size ≤ q) ([(r, .inr (9, [.int sd])), (a, .inr (10, [.int (nI (shZ G 0)), .int (nI (shZ G 1)), .int (shI G 0), .int (shI G 1), .int (shI G 2), .ref qP, .ref qU, .ref qH, .ref qG, vT, .ref qV])), (qU, .inl (cy 0, (shZ G 2), .inl (shP G))), (qG, .inl (cy 8, (shZ G 4), .inr (.inr (.inr (.inr (fun i => some (rG i))))))), (qV, .inl (cy 2, 4, .inr (.inl va))), (qB, .inl (cy 9, 9, .inr (.inr (.inr (.inr bf)))))] ++ (CW cy u qo st ++ (rl (shZ G 4) rG (fun i => guestE (shG G i)) ++ Z))) → va_S (fun q => s.heap.size ≤ q) s.heap H locs → lv_has ls 23 [(9, .int (nI n)), (8, .int (nI dn)), (7, .ref qB), (6, .ref a), (5, .ref r), (4, .ref qb), (3, .ref qo), (1, .int (1 : Int32)), (0, .ref b), (2, .int (0 : Int32))] → W p l e room_1 s m #[Value.ref b] below meth c H locs (c0 + 2600 * n) (s0 + 64000 * n) QQ (F0 m 249 ls []) := by
  obtain ⟨hx, hb, hml, hown, hts, hX, hbl, hEZ, hst⟩ := id C
  obtain ⟨⟨hEL, hDig, hVar, hNest⟩, hEW, hEH⟩ := id hEZ
  have hE := hEL.1
  have hL := hEL.2
  have hK := hE.1
  have hA : ∀ q : Nat, s.heap.size ≤ q → (fun q : Nat => s.heap.size ≤ q) q := fun _ h => h
  intro j
  induction j with
  | zero => intro n dn k hs st G sd qG rG va bf Z H locs ls h1; omega
  | succ j ih =>
    intro n dn k hs st G sd qG rG va bf Z H locs ls h1 h2 hdn hR hI hB hG hk hP hD hS hl
    by_cases hn : n < 18
    · refine law_turn C hN hR hI hB hG hk hn hdn (by omega) (by omega) hP hD hS hl (fun G2 hs2 k2 dn2 st2 sd2 qG2 rG2 va2 bf2 Z2 H locs ls hR hI hB hG hk hdn2 hP hD hS hl => ?_)
      refine W.widen (k := c0 + 2600 * (n + 1)) (n := s0 + 64000 * (n + 1)) (by omega) (by omega) ?_
      exact ih (n + 1) dn2 k2 hs2 st2 G2 sd2 qG2 rG2 va2 bf2 Z2 H _ ls (by omega) (by omega) (by omega) hR hI hB hG hk hP hD hS hl
    · skip
      refine lv_iload hx hb dL_law_249 (lv_at hl 0 rfl) ?_
      refine lv_bipush (v := 18) hx hb dL_law_251 (by decide) ?_
      refine lv_icmp_ge (tgt := 810) hx hb dL_law_253 (by decide) (fun _ => ?_) (fun hbr1 => absurd (nI_le (a := 18) (b := n) (by omega) (by omega)) hbr1)
      refine W.widen (k := c0 + 46800) (n := s0 + 1152000) (by omega) (by omega) ?_
      exact K G hs k dn st sd qG rG va bf Z H _ ls hR hI hB hG hk (by omega) hP hD hS (lv_sub hl [1, 2, 3, 4, 5, 6, 7, 8, 9] rfl)
