/-! the law: the four kinds of change (lw2.py) -/
theorem nI_last {n : Nat} : nI n = nI (n + 1) - (1 : Int32) := by
  have h := pk_sub (a := n + 1) (b := 1) (by omega)
  rw [Nat.add_sub_cancel] at h
  exact h.symm
theorem rl_come {G : LG} {x : Nat} {rG : Nat → Nat} {f : Nat → Int32} : (rl (shZ G 4) rG (fun i => guestE (shG G i)) : va_W) ++ [(x, guestE f)] = rl (shZ (shCo G f) 4) (fun j => if j = shZ G 4 then x else rG j) (fun i => guestE (shG (shCo G f) i)) := by
  have e1 : rl (shZ G 4) rG (fun i => guestE (shG G i)) = rl (shZ G 4) rG (fun i => guestE (shG (shCo G f) i)) := rl_congr (fun i hi => ⟨rfl, by
    have e : shG (shCo G f) i = shG G i := by
      funext j
      show (if i = shZ G 4 then f else shG G i) j = _
      rw [if_neg (by omega)]
    rw [e]⟩)
  have e2 : guestE f = (fun i => guestE (shG (shCo G f) i)) (shZ G 4) := by
    have e : shG (shCo G f) (shZ G 4) = f := by
      funext j
      show (if shZ G 4 = shZ G 4 then f else shG G (shZ G 4)) j = _
      rw [if_pos rfl]
    show _ = guestE (shG (shCo G f) (shZ G 4))
    rw [e]
  rw [e1, e2]
  exact rl_snoc
set_option maxHeartbeats 1200000 in
set_option maxRecDepth 100000 in
theorem law_ticks {p : Program} {l : Launch} {e : Env} {s : State} {m : MethodId} {below : List Frame} {meth : Method} {c : Code} {b L : Nat} {xs : Nat → Int32} {D : va_G} {cy : Nat → ClassId} {ad : Nat → Nat} {QQ : State → Prop} {u : Nat → Nat} {qo qb r a : Nat} {qP qU qH qG qV qB : Nat} {vT : Value} {rP rH rG : Nat → Nat} {rL : Nat → Nat → Nat} {rN : Nat → Nat} {va : Nat → Int64} {bf : Nat → Option Nat} {Z : va_W} {st : St} {G : LG} {sd : Int32} {c0 s0 : Nat} {n dn q t : Nat} {G2 : LG} {va2 : Nat → Int64} {st2 : St} {x y : Int32} (C : LCx p l s m c b L xs D cy ad) (hI : GI cy G qP qH vT rP rH rL rN Z) (et : t = 1 + rnV sd % 4) (hT : TKs t G va G2 va2) (hx1 : X10_paid G = some x) (hx2 : X10_paid G2 = some y) (hO : OP_pass st (nI t) (y - x) st2) (hc0 : c0 + 2500 ≤ 600086) (hs0 : s0 + 63000 ≤ 7301442) {H : Heap} {locs : List Loc} {ls : Array Slot} (hP : va_P D vwCl ([(r, .inr (9, [.int sd])), (a, .inr (10, [.int (nI (shZ G 0)), .int (nI (shZ G 1)), .int (shI G 0), .int (shI G 1), .int (shI G 2), .ref qP, .ref qU, .ref qH, .ref qG, vT, .ref qV])), (qU, .inl (cy 0, (shZ G 2), .inl (shP G))), (qG, .inl (cy 8, (shZ G 4), .inr (.inr (.inr (.inr (fun i => some (rG i))))))), (qV, .inl (cy 2, 4, .inr (.inl va))), (qB, .inl (cy 9, 9, .inr (.inr (.inr (.inr bf)))))] ++ (CW cy u qo st ++ (rl (shZ G 4) rG (fun i => guestE (shG G i)) ++ Z))) H) (hD : va_D (fun q => s.heap.size ≤ q) ([(r, .inr (9, [.int sd])), (a, .inr (10, [.int (nI (shZ G 0)), .int (nI (shZ G 1)), .int (shI G 0), .int (shI G 1), .int (shI G 2), .ref qP, .ref qU, .ref qH, .ref qG, vT, .ref qV])), (qU, .inl (cy 0, (shZ G 2), .inl (shP G))), (qG, .inl (cy 8, (shZ G 4), .inr (.inr (.inr (.inr (fun i => some (rG i))))))), (qV, .inl (cy 2, 4, .inr (.inl va))), (qB, .inl (cy 9, 9, .inr (.inr (.inr (.inr bf)))))] ++ (CW cy u qo st ++ (rl (shZ G 4) rG (fun i => guestE (shG G i)) ++ Z)))) (hS : va_S (fun q => s.heap.size ≤ q) s.heap H locs) (hl : lv_has ls 23 [(11, .int (1 : Int32)), (10, .ref q), (9, .int (nI n)), (8, .int (nI dn)), (7, .ref qB), (6, .ref a), (5, .ref r), (4, .ref qb), (3, .ref qo), (1, .int (1 : Int32)), (0, .ref b), (2, .int (0 : Int32))]) (K : ∀ (H : Heap) (locs : List Loc) (ls : Array Slot), va_P D vwCl ([(r, .inr (9, [.int (rnS sd)])), (a, .inr (10, [.int (nI (shZ G2 0)), .int (nI (shZ G2 1)), .int (shI G2 0), .int (shI G2 1), .int (shI G2 2), .ref qP, .ref qU, .ref qH, .ref qG, vT, .ref qV])), (qU, .inl (cy 0, (shZ G2 2), .inl (shP G2))), (qG, .inl (cy 8, (shZ G2 4), .inr (.inr (.inr (.inr (fun i => some (rG i))))))), (qV, .inl (cy 2, 4, .inr (.inl va2))), (qB, .inl (cy 9, 9, .inr (.inr (.inr (.inr bf)))))] ++ (CW cy u qo st2 ++ (rl (shZ G2 4) rG (fun i => guestE (shG G2 i)) ++ Z))) H → va_D (fun q => s.heap.size ≤ q) ([(r, .inr (9, [.int (rnS sd)])), (a, .inr (10, [.int (nI (shZ G2 0)), .int (nI (shZ G2 1)), .int (shI G2 0), .int (shI G2 1), .int (shI G2 2), .ref qP, .ref qU, .ref qH, .ref qG, vT, .ref qV])), (qU, .inl (cy 0, (shZ G2 2), .inl (shP G2))), (qG, .inl (cy 8, (shZ G2 4), .inr (.inr (.inr (.inr (fun i => some (rG i))))))), (qV, .inl (cy 2, 4, .inr (.inl va2))), (qB, .inl (cy 9, 9, .inr (.inr (.inr (.inr bf)))))] ++ (CW cy u qo st2 ++ (rl (shZ G2 4) rG (fun i => guestE (shG G2 i)) ++ Z))) → va_S (fun q => s.heap.size ≤ q) s.heap H locs → lv_has ls 23 [(11, .int (1 : Int32)), (10, .ref q), (9, .int (nI n)), (8, .int (nI dn)), (7, .ref qB), (6, .ref a), (5, .ref r), (4, .ref qb), (3, .ref qo), (1, .int (1 : Int32)), (0, .ref b), (2, .int (0 : Int32))] → W p l e room_1 s m #[Value.ref b] below meth c H locs (c0 + 2401) (s0 + 62406) QQ (F0 m 744 ls [])) : W p l e room_1 s m #[Value.ref b] below meth c H locs c0 s0 QQ (F0 m 312 ls []) := by
  obtain ⟨hx, hb, hml, hown, hts, hX, hbl, hEZ, hst⟩ := id C
  obtain ⟨⟨hEL, hDig, hVar, hNest⟩, hEW, hEH⟩ := id hEZ
  have hE := hEL.1
  have hL := hEL.2
  have hK := hE.1
  have hA : ∀ q : Nat, s.heap.size ≤ q → (fun q : Nat => s.heap.size ≤ q) q := fun _ h => h
  refine lv_iconst (v := 1) hx hb dL_law_312 (by decide) ?_
  refine lv_aload hx hb dL_law_313 (lv_at hl 6 rfl) ?_
  refine lv_iconst (v := 4) hx hb dL_law_315 (by decide) ?_
  refine kc_i (va_runV (As := [.int (4 : Int32)]) (rest := [.int (1 : Int32)]) ⟨hx, hb, hml, hown, hts⟩ (c_X9_below r (4) H.size sd (by omega) (by omega)) (cwV 1 hts gL_law_X9_below rfl rfl rfl kd_X9_below ⟨Nat.le_of_ble_eq_true rfl, Nat.le_of_ble_eq_true rfl⟩) ⟨kP_blind (EN_ok D cy) D _ _ _, va_recv hK hP (ci := 9) (q0 := 0) rfl rfl, kStart (EN_ok D cy) hE hP hD hS hA [0] rfl rfl _⟩ rfl rfl hl.1 rfl (lv_room (Nat.le_of_ble_eq_true rfl)) dL_law_316 ⟨by show c0 + 0 ≤ 600086; omega, by show s0 + 0 ≤ 7301442; omega⟩) hP hD hS hA [0] rfl (Nat.le_refl _) (fun H locs hP hD hS => ?_)
  rw [wjn_1] at hP hD
  have hP : va_P D vwCl ([(r, .inr (9, [.int (rnS sd)])), (a, .inr (10, [.int (nI (shZ G 0)), .int (nI (shZ G 1)), .int (shI G 0), .int (shI G 1), .int (shI G 2), .ref qP, .ref qU, .ref qH, .ref qG, vT, .ref qV])), (qU, .inl (cy 0, (shZ G 2), .inl (shP G))), (qG, .inl (cy 8, (shZ G 4), .inr (.inr (.inr (.inr (fun i => some (rG i))))))), (qV, .inl (cy 2, 4, .inr (.inl va))), (qB, .inl (cy 9, 9, .inr (.inr (.inr (.inr bf)))))] ++ (CW cy u qo st ++ (rl (shZ G 4) rG (fun i => guestE (shG G i)) ++ Z))) H := hP
  have hD : va_D (fun q => s.heap.size ≤ q) ([(r, .inr (9, [.int (rnS sd)])), (a, .inr (10, [.int (nI (shZ G 0)), .int (nI (shZ G 1)), .int (shI G 0), .int (shI G 1), .int (shI G 2), .ref qP, .ref qU, .ref qH, .ref qG, vT, .ref qV])), (qU, .inl (cy 0, (shZ G 2), .inl (shP G))), (qG, .inl (cy 8, (shZ G 4), .inr (.inr (.inr (.inr (fun i => some (rG i))))))), (qV, .inl (cy 2, 4, .inr (.inl va))), (qB, .inl (cy 9, 9, .inr (.inr (.inr (.inr bf)))))] ++ (CW cy u qo st ++ (rl (shZ G 4) rG (fun i => guestE (shG G i)) ++ Z))) := hD
  refine lv_iadd hx hb dL_law_319 ?_
  rw [show ((1 : Int32) + (nI (rnV sd % (4)))) = (nI (1 + rnV sd % 4)) from nI_add 1 _]
  rw [← et]
  refine lv_istore (lv' := [(12, .int (nI t)), (11, .int (1 : Int32)), (10, .ref q), (9, .int (nI n)), (8, .int (nI dn)), (7, .ref qB), (6, .ref a), (5, .ref r), (4, .ref qb), (3, .ref qo), (1, .int (1 : Int32)), (0, .ref b), (2, .int (0 : Int32))]) hx hb dL_law_320 hl (by decide) rfl (fun ls hl => ?_)
  refine lv_aload hx hb dL_law_322 (lv_at hl 6 rfl) ?_
  refine wq_paid C hI hx1 hP hD hS hl dL_law_324 (by omega) (by omega) (fun H locs hP hD hS => ?_)
  have hP : va_P D vwCl ([(r, .inr (9, [.int (rnS sd)])), (a, .inr (10, [.int (nI (shZ G 0)), .int (nI (shZ G 1)), .int (shI G 0), .int (shI G 1), .int (shI G 2), .ref qP, .ref qU, .ref qH, .ref qG, vT, .ref qV])), (qU, .inl (cy 0, (shZ G 2), .inl (shP G))), (qG, .inl (cy 8, (shZ G 4), .inr (.inr (.inr (.inr (fun i => some (rG i))))))), (qV, .inl (cy 2, 4, .inr (.inl va))), (qB, .inl (cy 9, 9, .inr (.inr (.inr (.inr bf)))))] ++ (CW cy u qo st ++ (rl (shZ G 4) rG (fun i => guestE (shG G i)) ++ Z))) H := hP
  have hD : va_D (fun q => s.heap.size ≤ q) ([(r, .inr (9, [.int (rnS sd)])), (a, .inr (10, [.int (nI (shZ G 0)), .int (nI (shZ G 1)), .int (shI G 0), .int (shI G 1), .int (shI G 2), .ref qP, .ref qU, .ref qH, .ref qG, vT, .ref qV])), (qU, .inl (cy 0, (shZ G 2), .inl (shP G))), (qG, .inl (cy 8, (shZ G 4), .inr (.inr (.inr (.inr (fun i => some (rG i))))))), (qV, .inl (cy 2, 4, .inr (.inl va))), (qB, .inl (cy 9, 9, .inr (.inr (.inr (.inr bf)))))] ++ (CW cy u qo st ++ (rl (shZ G 4) rG (fun i => guestE (shG G i)) ++ Z))) := hD
  refine lv_istore (lv' := [(13, .int x), (12, .int (nI t)), (11, .int (1 : Int32)), (10, .ref q), (9, .int (nI n)), (8, .int (nI dn)), (7, .ref qB), (6, .ref a), (5, .ref r), (4, .ref qb), (3, .ref qo), (1, .int (1 : Int32)), (0, .ref b), (2, .int (0 : Int32))]) hx hb dL_law_327 hl (by decide) rfl (fun ls hl => ?_)
  refine lv_iconst (v := 0) hx hb dL_law_329 (by decide) ?_
  refine lv_istore (lv' := [(14, .int (0 : Int32)), (13, .int x), (12, .int (nI t)), (11, .int (1 : Int32)), (10, .ref q), (9, .int (nI n)), (8, .int (nI dn)), (7, .ref qB), (6, .ref a), (5, .ref r), (4, .ref qb), (3, .ref qo), (1, .int (1 : Int32)), (0, .ref b), (2, .int (0 : Int32))]) hx hb dL_law_330 hl (by decide) rfl (fun ls hl => ?_)
  have J : ∀ (k j : Nat) (G1 : LG) (va1 : Nat → Int64) (H : Heap) (locs : List Loc) (ls : Array Slot), t - j = k → j ≤ t → TKs k G1 va1 G2 va2 → GI cy G1 qP qH vT rP rH rL rN Z → va_P D vwCl ([(r, .inr (9, [.int (rnS sd)])), (a, .inr (10, [.int (nI (shZ G1 0)), .int (nI (shZ G1 1)), .int (shI G1 0), .int (shI G1 1), .int (shI G1 2), .ref qP, .ref qU, .ref qH, .ref qG, vT, .ref qV])), (qU, .inl (cy 0, (shZ G1 2), .inl (shP G1))), (qG, .inl (cy 8, (shZ G1 4), .inr (.inr (.inr (.inr (fun i => some (rG i))))))), (qV, .inl (cy 2, 4, .inr (.inl va1))), (qB, .inl (cy 9, 9, .inr (.inr (.inr (.inr bf)))))] ++ (CW cy u qo st ++ (rl (shZ G1 4) rG (fun i => guestE (shG G1 i)) ++ Z))) H → va_D (fun q => s.heap.size ≤ q) ([(r, .inr (9, [.int (rnS sd)])), (a, .inr (10, [.int (nI (shZ G1 0)), .int (nI (shZ G1 1)), .int (shI G1 0), .int (shI G1 1), .int (shI G1 2), .ref qP, .ref qU, .ref qH, .ref qG, vT, .ref qV])), (qU, .inl (cy 0, (shZ G1 2), .inl (shP G1))), (qG, .inl (cy 8, (shZ G1 4), .inr (.inr (.inr (.inr (fun i => some (rG i))))))), (qV, .inl (cy 2, 4, .inr (.inl va1))), (qB, .inl (cy 9, 9, .inr (.inr (.inr (.inr bf)))))] ++ (CW cy u qo st ++ (rl (shZ G1 4) rG (fun i => guestE (shG G1 i)) ++ Z))) → va_S (fun q => s.heap.size ≤ q) s.heap H locs → lv_has ls 23 [(14, .int (nI j)), (13, .int x), (12, .int (nI t)), (11, .int (1 : Int32)), (10, .ref q), (9, .int (nI n)), (8, .int (nI dn)), (7, .ref qB), (6, .ref a), (5, .ref r), (4, .ref qb), (3, .ref qo), (1, .int (1 : Int32)), (0, .ref b), (2, .int (0 : Int32))] → W p l e room_1 s m #[Value.ref b] below meth c H locs (c0 + 600 * j) (s0 + 15600 * j) QQ (F0 m 332 ls []) := by
    intro k
    induction k with
    | zero =>
      intro j G1 va1 H locs ls h1 h2 hT hI hP hD hS hl
      obtain ⟨eG, ev⟩ := hT
      rw [eG] at hx2
      have ej : j = t := by omega
      refine lv_iload hx hb dL_law_332 (lv_at hl 0 rfl) ?_
      refine lv_iload hx hb dL_law_334 (lv_at hl 2 rfl) ?_
      refine lv_icmp_ge (tgt := 350) hx hb dL_law_336 (by decide) (fun _ => ?_) (fun hbr1 => absurd (nI_le (a := t) (b := j) (by omega) (by omega)) hbr1)
      refine lv_aload_n hx hb dL_law_350 rfl (lv_at hl 11 rfl) ?_
      refine lv_iload hx hb dL_law_351 (lv_at hl 2 rfl) ?_
      refine wq_pass C hO hP hD hS hl dL_law_353 (by omega) (by omega) (fun H locs hP hD hS => ?_)
      have hP : va_P D vwCl ([(r, .inr (9, [.int (rnS sd)])), (a, .inr (10, [.int (nI (shZ G1 0)), .int (nI (shZ G1 1)), .int (shI G1 0), .int (shI G1 1), .int (shI G1 2), .ref qP, .ref qU, .ref qH, .ref qG, vT, .ref qV])), (qU, .inl (cy 0, (shZ G1 2), .inl (shP G1))), (qG, .inl (cy 8, (shZ G1 4), .inr (.inr (.inr (.inr (fun i => some (rG i))))))), (qV, .inl (cy 2, 4, .inr (.inl va1))), (qB, .inl (cy 9, 9, .inr (.inr (.inr (.inr bf)))))] ++ (CW cy u qo st2 ++ (rl (shZ G1 4) rG (fun i => guestE (shG G1 i)) ++ Z))) H := hP
      have hD : va_D (fun q => s.heap.size ≤ q) ([(r, .inr (9, [.int (rnS sd)])), (a, .inr (10, [.int (nI (shZ G1 0)), .int (nI (shZ G1 1)), .int (shI G1 0), .int (shI G1 1), .int (shI G1 2), .ref qP, .ref qU, .ref qH, .ref qG, vT, .ref qV])), (qU, .inl (cy 0, (shZ G1 2), .inl (shP G1))), (qG, .inl (cy 8, (shZ G1 4), .inr (.inr (.inr (.inr (fun i => some (rG i))))))), (qV, .inl (cy 2, 4, .inr (.inl va1))), (qB, .inl (cy 9, 9, .inr (.inr (.inr (.inr bf)))))] ++ (CW cy u qo st2 ++ (rl (shZ G1 4) rG (fun i => guestE (shG G1 i)) ++ Z))) := hD
      refine lv_aload hx hb dL_law_356 (lv_at hl 8 rfl) ?_
      refine wq_paid C hI hx2 hP hD hS hl dL_law_358 (by omega) (by omega) (fun H locs hP hD hS => ?_)
      have hP : va_P D vwCl ([(r, .inr (9, [.int (rnS sd)])), (a, .inr (10, [.int (nI (shZ G1 0)), .int (nI (shZ G1 1)), .int (shI G1 0), .int (shI G1 1), .int (shI G1 2), .ref qP, .ref qU, .ref qH, .ref qG, vT, .ref qV])), (qU, .inl (cy 0, (shZ G1 2), .inl (shP G1))), (qG, .inl (cy 8, (shZ G1 4), .inr (.inr (.inr (.inr (fun i => some (rG i))))))), (qV, .inl (cy 2, 4, .inr (.inl va1))), (qB, .inl (cy 9, 9, .inr (.inr (.inr (.inr bf)))))] ++ (CW cy u qo st2 ++ (rl (shZ G1 4) rG (fun i => guestE (shG G1 i)) ++ Z))) H := hP
      have hD : va_D (fun q => s.heap.size ≤ q) ([(r, .inr (9, [.int (rnS sd)])), (a, .inr (10, [.int (nI (shZ G1 0)), .int (nI (shZ G1 1)), .int (shI G1 0), .int (shI G1 1), .int (shI G1 2), .ref qP, .ref qU, .ref qH, .ref qG, vT, .ref qV])), (qU, .inl (cy 0, (shZ G1 2), .inl (shP G1))), (qG, .inl (cy 8, (shZ G1 4), .inr (.inr (.inr (.inr (fun i => some (rG i))))))), (qV, .inl (cy 2, 4, .inr (.inl va1))), (qB, .inl (cy 9, 9, .inr (.inr (.inr (.inr bf)))))] ++ (CW cy u qo st2 ++ (rl (shZ G1 4) rG (fun i => guestE (shG G1 i)) ++ Z))) := hD
      refine lv_iload hx hb dL_law_361 (lv_at hl 1 rfl) ?_
      refine lv_isub hx hb dL_law_363 ?_
      refine lv_icmp_ne (tgt := 371) hx hb dL_law_364 (by decide) (fun hbr2 => absurd (rfl) hbr2) (fun _ => ?_)
      refine lv_iconst (v := 1) hx hb dL_law_367 (by decide) ?_
      refine lv_goto (tgt := 372) hx hb dL_law_368 (by decide) ?_
      refine lv_istore_n (lv' := [(1, .int (1 : Int32)), (14, .int (nI j)), (13, .int x), (12, .int (nI t)), (11, .int (1 : Int32)), (10, .ref q), (9, .int (nI n)), (8, .int (nI dn)), (7, .ref qB), (6, .ref a), (5, .ref r), (4, .ref qb), (3, .ref qo), (0, .ref b), (2, .int (0 : Int32))]) hx hb dL_law_372 rfl hl (by decide) rfl (fun ls hl => ?_)
      refine lv_goto (tgt := 744) hx hb dL_law_373 (by decide) ?_
      refine W.widen (k := c0 + 2401) (n := s0 + 62406) (by omega) (by omega) ?_
      subst eG ev
      exact K H _ ls hP hD hS (lv_sub hl [4, 5, 6, 7, 8, 9, 10, 11, 12, 0, 13, 14] rfl)
    | succ k ih =>
      intro j G1 va1 H locs ls h1 h2 hT hI hP hD hS hl
      obtain ⟨res, hF, hT⟩ := hT
      refine lv_iload hx hb dL_law_332 (lv_at hl 0 rfl) ?_
      refine lv_iload hx hb dL_law_334 (lv_at hl 2 rfl) ?_
      refine lv_icmp_ge (tgt := 350) hx hb dL_law_336 (by decide) (fun hbr1 => absurd hbr1 (nI_ge (a := j) (b := t) (by omega) (by omega))) (fun _ => ?_)
      refine lv_aload hx hb dL_law_339 (lv_at hl 8 rfl) ?_
      refine wq_ticks C hI hF hP hD hS hl dL_law_341 (by omega) (by omega) (fun H locs hP hD hS => ?_)
      have hP : va_P D vwCl ([(r, .inr (9, [.int (rnS sd)])), (a, .inr (10, [.int (nI (shZ (shTk G1 res.2) 0)), .int (nI (shZ (shTk G1 res.2) 1)), .int (shI (shTk G1 res.2) 0), .int (shI (shTk G1 res.2) 1), .int (shI (shTk G1 res.2) 2), .ref qP, .ref qU, .ref qH, .ref qG, vT, .ref qV])), (qU, .inl (cy 0, (shZ (shTk G1 res.2) 2), .inl (shP (shTk G1 res.2)))), (qG, .inl (cy 8, (shZ (shTk G1 res.2) 4), .inr (.inr (.inr (.inr (fun i => some (rG i))))))), (qV, .inl (cy 2, 4, .inr (.inl res.1))), (qB, .inl (cy 9, 9, .inr (.inr (.inr (.inr bf)))))] ++ (CW cy u qo st ++ (rl (shZ (shTk G1 res.2) 4) rG (fun i => guestE (shG (shTk G1 res.2) i)) ++ Z))) H := hP
      have hD : va_D (fun q => s.heap.size ≤ q) ([(r, .inr (9, [.int (rnS sd)])), (a, .inr (10, [.int (nI (shZ (shTk G1 res.2) 0)), .int (nI (shZ (shTk G1 res.2) 1)), .int (shI (shTk G1 res.2) 0), .int (shI (shTk G1 res.2) 1), .int (shI (shTk G1 res.2) 2), .ref qP, .ref qU, .ref qH, .ref qG, vT, .ref qV])), (qU, .inl (cy 0, (shZ (shTk G1 res.2) 2), .inl (shP (shTk G1 res.2)))), (qG, .inl (cy 8, (shZ (shTk G1 res.2) 4), .inr (.inr (.inr (.inr (fun i => some (rG i))))))), (qV, .inl (cy 2, 4, .inr (.inl res.1))), (qB, .inl (cy 9, 9, .inr (.inr (.inr (.inr bf)))))] ++ (CW cy u qo st ++ (rl (shZ (shTk G1 res.2) 4) rG (fun i => guestE (shG (shTk G1 res.2) i)) ++ Z))) := hD
      refine lv_iinc (v := (nI (j + 1))) (lv' := [(14, .int (nI (j + 1))), (13, .int x), (12, .int (nI t)), (11, .int (1 : Int32)), (10, .ref q), (9, .int (nI n)), (8, .int (nI dn)), (7, .ref qB), (6, .ref a), (5, .ref r), (4, .ref qb), (3, .ref qo), (1, .int (1 : Int32)), (0, .ref b), (2, .int (0 : Int32))]) hx hb dL_law_344 hl (k := 0) rfl (by rw [nI_succ]; rfl) (by decide) rfl (fun ls hl => ?_)
      refine lv_goto (tgt := 332) hx hb dL_law_347 (by decide) ?_
      refine W.widen (k := c0 + 600 * (j + 1)) (n := s0 + 15600 * (j + 1)) (by omega) (by omega) ?_
      exact ih (j + 1) _ _ H _ ls (by omega) (by omega) hT hI.tk hP hD hS (lv_sub hl [0, 1, 2, 3, 4, 5, 6, 7, 8, 9, 10, 11, 12, 13, 14] rfl)
  refine W.widen (k := c0 + 600 * 0) (n := s0 + 15600 * 0) (by omega) (by omega) ?_
  exact J t 0 G va H _ ls (by omega) (by omega) hT hI hP hD hS (lv_sub hl [0, 1, 2, 3, 4, 5, 6, 7, 8, 9, 10, 11, 12, 13, 14] rfl)
set_option maxHeartbeats 1200000 in
set_option maxRecDepth 100000 in
theorem law_length {p : Program} {l : Launch} {e : Env} {s : State} {m : MethodId} {below : List Frame} {meth : Method} {c : Code} {b L : Nat} {xs : Nat → Int32} {D : va_G} {cy : Nat → ClassId} {ad : Nat → Nat} {QQ : State → Prop} {u : Nat → Nat} {qo qb r a : Nat} {qP qU qH qG qV qB : Nat} {vT : Value} {rP rH rG : Nat → Nat} {rL : Nat → Nat → Nat} {rN : Nat → Nat} {va : Nat → Int64} {bf : Nat → Option Nat} {Z : va_W} {st : St} {G : LG} {sd : Int32} {c0 s0 : Nat} {n dn q : Nat} {K9 : Nat → St → Prop} (C : LCx p l s m c b L xs D cy ad) (h0 : ∀ ln, (ln = 0 ∨ 20 < ln) → ln < 100 → ln = rnV sd % 22 → OP_length st (nI ln) (-2000000098) st) (h1s : ∀ ln, 1 ≤ ln → ln ≤ 20 → ln = rnV sd % 22 → ∃ st2, OP_length st (nI ln) (shI G 1) st2 ∧ K9 ln st2) (hc0 : c0 + 2500 ≤ 600086) (hs0 : s0 + 63000 ≤ 7301442) {H : Heap} {locs : List Loc} {ls : Array Slot} (hP : va_P D vwCl ([(r, .inr (9, [.int sd])), (a, .inr (10, [.int (nI (shZ G 0)), .int (nI (shZ G 1)), .int (shI G 0), .int (shI G 1), .int (shI G 2), .ref qP, .ref qU, .ref qH, .ref qG, vT, .ref qV])), (qU, .inl (cy 0, (shZ G 2), .inl (shP G))), (qG, .inl (cy 8, (shZ G 4), .inr (.inr (.inr (.inr (fun i => some (rG i))))))), (qV, .inl (cy 2, 4, .inr (.inl va))), (qB, .inl (cy 9, 9, .inr (.inr (.inr (.inr bf)))))] ++ (CW cy u qo st ++ (rl (shZ G 4) rG (fun i => guestE (shG G i)) ++ Z))) H) (hD : va_D (fun q => s.heap.size ≤ q) ([(r, .inr (9, [.int sd])), (a, .inr (10, [.int (nI (shZ G 0)), .int (nI (shZ G 1)), .int (shI G 0), .int (shI G 1), .int (shI G 2), .ref qP, .ref qU, .ref qH, .ref qG, vT, .ref qV])), (qU, .inl (cy 0, (shZ G 2), .inl (shP G))), (qG, .inl (cy 8, (shZ G 4), .inr (.inr (.inr (.inr (fun i => some (rG i))))))), (qV, .inl (cy 2, 4, .inr (.inl va))), (qB, .inl (cy 9, 9, .inr (.inr (.inr (.inr bf)))))] ++ (CW cy u qo st ++ (rl (shZ G 4) rG (fun i => guestE (shG G i)) ++ Z)))) (hS : va_S (fun q => s.heap.size ≤ q) s.heap H locs) (hl : lv_has ls 23 [(11, .int (1 : Int32)), (10, .ref q), (9, .int (nI n)), (8, .int (nI dn)), (7, .ref qB), (6, .ref a), (5, .ref r), (4, .ref qb), (3, .ref qo), (1, .int (1 : Int32)), (0, .ref b), (2, .int (0 : Int32))]) (K0 : ∀ (H : Heap) (locs : List Loc) (ls : Array Slot), va_P D vwCl ([(r, .inr (9, [.int (rnS sd)])), (a, .inr (10, [.int (nI (shZ G 0)), .int (nI (shZ G 1)), .int (shI G 0), .int (shI G 1), .int (shI G 2), .ref qP, .ref qU, .ref qH, .ref qG, vT, .ref qV])), (qU, .inl (cy 0, (shZ G 2), .inl (shP G))), (qG, .inl (cy 8, (shZ G 4), .inr (.inr (.inr (.inr (fun i => some (rG i))))))), (qV, .inl (cy 2, 4, .inr (.inl va))), (qB, .inl (cy 9, 9, .inr (.inr (.inr (.inr bf)))))] ++ (CW cy u qo st ++ (rl (shZ G 4) rG (fun i => guestE (shG G i)) ++ Z))) H → va_D (fun q => s.heap.size ≤ q) ([(r, .inr (9, [.int (rnS sd)])), (a, .inr (10, [.int (nI (shZ G 0)), .int (nI (shZ G 1)), .int (shI G 0), .int (shI G 1), .int (shI G 2), .ref qP, .ref qU, .ref qH, .ref qG, vT, .ref qV])), (qU, .inl (cy 0, (shZ G 2), .inl (shP G))), (qG, .inl (cy 8, (shZ G 4), .inr (.inr (.inr (.inr (fun i => some (rG i))))))), (qV, .inl (cy 2, 4, .inr (.inl va))), (qB, .inl (cy 9, 9, .inr (.inr (.inr (.inr bf)))))] ++ (CW cy u qo st ++ (rl (shZ G 4) rG (fun i => guestE (shG G i)) ++ Z))) → va_S (fun q => s.heap.size ≤ q) s.heap H locs → lv_has ls 23 [(11, .int (0 : Int32)), (10, .ref q), (9, .int (nI n)), (8, .int (nI dn)), (7, .ref qB), (6, .ref a), (5, .ref r), (4, .ref qb), (3, .ref qo), (1, .int (1 : Int32)), (0, .ref b), (2, .int (0 : Int32))] → W p l e room_1 s m #[Value.ref b] below meth c H locs (c0 + 1) (s0 + 6) QQ (F0 m 744 ls [])) (K1 : ∀ (ln : Nat) (st2 : St) (H : Heap) (locs : List Loc) (ls : Array Slot), K9 ln st2 → va_P D vwCl ([(r, .inr (9, [.int (rnS sd)])), (a, .inr (10, [.int (nI (shZ (shLe G ln) 0)), .int (nI (shZ (shLe G ln) 1)), .int (shI (shLe G ln) 0), .int (shI (shLe G ln) 1), .int (shI (shLe G ln) 2), .ref qP, .ref qU, .ref qH, .ref qG, vT, .ref qV])), (qU, .inl (cy 0, (shZ (shLe G ln) 2), .inl (shP (shLe G ln)))), (qG, .inl (cy 8, (shZ (shLe G ln) 4), .inr (.inr (.inr (.inr (fun i => some (rG i))))))), (qV, .inl (cy 2, 4, .inr (.inl va))), (qB, .inl (cy 9, 9, .inr (.inr (.inr (.inr bf)))))] ++ (CW cy u qo st2 ++ (rl (shZ (shLe G ln) 4) rG (fun i => guestE (shG (shLe G ln) i)) ++ Z))) H → va_D (fun q => s.heap.size ≤ q) ([(r, .inr (9, [.int (rnS sd)])), (a, .inr (10, [.int (nI (shZ (shLe G ln) 0)), .int (nI (shZ (shLe G ln) 1)), .int (shI (shLe G ln) 0), .int (shI (shLe G ln) 1), .int (shI (shLe G ln) 2), .ref qP, .ref qU, .ref qH, .ref qG, vT, .ref qV])), (qU, .inl (cy 0, (shZ (shLe G ln) 2), .inl (shP (shLe G ln)))), (qG, .inl (cy 8, (shZ (shLe G ln) 4), .inr (.inr (.inr (.inr (fun i => some (rG i))))))), (qV, .inl (cy 2, 4, .inr (.inl va))), (qB, .inl (cy 9, 9, .inr (.inr (.inr (.inr bf)))))] ++ (CW cy u qo st2 ++ (rl (shZ (shLe G ln) 4) rG (fun i => guestE (shG (shLe G ln) i)) ++ Z))) → va_S (fun q => s.heap.size ≤ q) s.heap H locs → lv_has ls 23 [(11, .int (1 : Int32)), (10, .ref q), (9, .int (nI n)), (8, .int (nI dn)), (7, .ref qB), (6, .ref a), (5, .ref r), (4, .ref qb), (3, .ref qo), (1, .int (1 : Int32)), (0, .ref b), (2, .int (0 : Int32))] → W p l e room_1 s m #[Value.ref b] below meth c H locs (c0 + 1) (s0 + 6) QQ (F0 m 744 ls [])) : W p l e room_1 s m #[Value.ref b] below meth c H locs c0 s0 QQ (F0 m 670 ls []) := by
  obtain ⟨hx, hb, hml, hown, hts, hX, hbl, hEZ, hst⟩ := id C
  obtain ⟨⟨hEL, hDig, hVar, hNest⟩, hEW, hEH⟩ := id hEZ
  have hE := hEL.1
  have hL := hEL.2
  have hK := hE.1
  have hA : ∀ q : Nat, s.heap.size ≤ q → (fun q : Nat => s.heap.size ≤ q) q := fun _ h => h
  have f161 := hts (.fieldLink RL 161 "PeepBoxLaw$Show" "length" "I") (by decide +kernel)
  have inX10 : ∀ w ∈ wsX100, w ∈ wsL_law := by decide +kernel
  have c42 := hts (.constant RL 42 (-2000000098)) (by decide +kernel)
  refine lv_aload hx hb dL_law_670 (lv_at hl 6 rfl) ?_
  refine lv_bipush (v := 22) hx hb dL_law_672 (by decide) ?_
  refine kc_i (va_runV (As := [.int (22 : Int32)]) (rest := []) ⟨hx, hb, hml, hown, hts⟩ (c_X9_below r (22) H.size sd (by omega) (by omega)) (cwV 1 hts gL_law_X9_below rfl rfl rfl kd_X9_below ⟨Nat.le_of_ble_eq_true rfl, Nat.le_of_ble_eq_true rfl⟩) ⟨kP_blind (EN_ok D cy) D _ _ _, va_recv hK hP (ci := 9) (q0 := 0) rfl rfl, kStart (EN_ok D cy) hE hP hD hS hA [0] rfl rfl _⟩ rfl rfl hl.1 rfl (lv_room (Nat.le_of_ble_eq_true rfl)) dL_law_674 ⟨by show c0 + 0 ≤ 600086; omega, by show s0 + 0 ≤ 7301442; omega⟩) hP hD hS hA [0] rfl (Nat.le_refl _) (fun H locs hP hD hS => ?_)
  rw [wjn_1] at hP hD
  have hP : va_P D vwCl ([(r, .inr (9, [.int (rnS sd)])), (a, .inr (10, [.int (nI (shZ G 0)), .int (nI (shZ G 1)), .int (shI G 0), .int (shI G 1), .int (shI G 2), .ref qP, .ref qU, .ref qH, .ref qG, vT, .ref qV])), (qU, .inl (cy 0, (shZ G 2), .inl (shP G))), (qG, .inl (cy 8, (shZ G 4), .inr (.inr (.inr (.inr (fun i => some (rG i))))))), (qV, .inl (cy 2, 4, .inr (.inl va))), (qB, .inl (cy 9, 9, .inr (.inr (.inr (.inr bf)))))] ++ (CW cy u qo st ++ (rl (shZ G 4) rG (fun i => guestE (shG G i)) ++ Z))) H := hP
  have hD : va_D (fun q => s.heap.size ≤ q) ([(r, .inr (9, [.int (rnS sd)])), (a, .inr (10, [.int (nI (shZ G 0)), .int (nI (shZ G 1)), .int (shI G 0), .int (shI G 1), .int (shI G 2), .ref qP, .ref qU, .ref qH, .ref qG, vT, .ref qV])), (qU, .inl (cy 0, (shZ G 2), .inl (shP G))), (qG, .inl (cy 8, (shZ G 4), .inr (.inr (.inr (.inr (fun i => some (rG i))))))), (qV, .inl (cy 2, 4, .inr (.inl va))), (qB, .inl (cy 9, 9, .inr (.inr (.inr (.inr bf)))))] ++ (CW cy u qo st ++ (rl (shZ G 4) rG (fun i => guestE (shG G i)) ++ Z))) := hD
  obtain ⟨ln, eln⟩ : ∃ z : Nat, z = rnV sd % 22 := ⟨_, rfl⟩
  rw [← eln]
  refine lv_istore (lv' := [(21, .int (nI ln)), (11, .int (1 : Int32)), (10, .ref q), (9, .int (nI n)), (8, .int (nI dn)), (7, .ref qB), (6, .ref a), (5, .ref r), (4, .ref qb), (3, .ref qo), (1, .int (1 : Int32)), (0, .ref b), (2, .int (0 : Int32))]) hx hb dL_law_677 hl (by decide) rfl (fun ls hl => ?_)
  refine lv_iload hx hb dL_law_679 (lv_at hl 0 rfl) ?_
  have J0 : (ln = 0 ∨ 20 < ln) → ∀ (H : Heap) (locs : List Loc) (ls : Array Slot), va_P D vwCl ([(r, .inr (9, [.int (rnS sd)])), (a, .inr (10, [.int (nI (shZ G 0)), .int (nI (shZ G 1)), .int (shI G 0), .int (shI G 1), .int (shI G 2), .ref qP, .ref qU, .ref qH, .ref qG, vT, .ref qV])), (qU, .inl (cy 0, (shZ G 2), .inl (shP G))), (qG, .inl (cy 8, (shZ G 4), .inr (.inr (.inr (.inr (fun i => some (rG i))))))), (qV, .inl (cy 2, 4, .inr (.inl va))), (qB, .inl (cy 9, 9, .inr (.inr (.inr (.inr bf)))))] ++ (CW cy u qo st ++ (rl (shZ G 4) rG (fun i => guestE (shG G i)) ++ Z))) H → va_D (fun q => s.heap.size ≤ q) ([(r, .inr (9, [.int (rnS sd)])), (a, .inr (10, [.int (nI (shZ G 0)), .int (nI (shZ G 1)), .int (shI G 0), .int (shI G 1), .int (shI G 2), .ref qP, .ref qU, .ref qH, .ref qG, vT, .ref qV])), (qU, .inl (cy 0, (shZ G 2), .inl (shP G))), (qG, .inl (cy 8, (shZ G 4), .inr (.inr (.inr (.inr (fun i => some (rG i))))))), (qV, .inl (cy 2, 4, .inr (.inl va))), (qB, .inl (cy 9, 9, .inr (.inr (.inr (.inr bf)))))] ++ (CW cy u qo st ++ (rl (shZ G 4) rG (fun i => guestE (shG G i)) ++ Z))) → va_S (fun q => s.heap.size ≤ q) s.heap H locs → lv_has ls 23 [(21, .int (nI ln)), (10, .ref q), (9, .int (nI n)), (8, .int (nI dn)), (7, .ref qB), (6, .ref a), (5, .ref r), (4, .ref qb), (3, .ref qo), (1, .int (1 : Int32)), (0, .ref b), (2, .int (0 : Int32))] → W p l e room_1 s m #[Value.ref b] below meth c H locs c0 s0 QQ (F0 m 695 ls []) := by
    intro hc H locs ls hP hD hS hl
    have hO := h0 ln hc (by omega) eln
    refine lv_iconst (v := 0) hx hb dL_law_695 (by decide) ?_
    refine lv_istore (lv' := [(11, .int (0 : Int32)), (21, .int (nI ln)), (10, .ref q), (9, .int (nI n)), (8, .int (nI dn)), (7, .ref qB), (6, .ref a), (5, .ref r), (4, .ref qb), (3, .ref qo), (1, .int (1 : Int32)), (0, .ref b), (2, .int (0 : Int32))]) hx hb dL_law_696 hl (by decide) rfl (fun ls hl => ?_)
    refine lv_aload hx hb dL_law_698 (lv_at hl 6 rfl) ?_
    refine va_get (D := D) (ci := 10) (v := .int (shI G 1)) (C := RX10) (T := TX10) (N := 11) hx hb hts inX10 hown hK hP 1 rfl rfl 3 (by decide) f161 (fun _ h9 => h9) rfl dL_law_700 ?_
    refine lv_istore (lv' := [(22, .int (shI G 1)), (11, .int (0 : Int32)), (21, .int (nI ln)), (10, .ref q), (9, .int (nI n)), (8, .int (nI dn)), (7, .ref qB), (6, .ref a), (5, .ref r), (4, .ref qb), (3, .ref qo), (1, .int (1 : Int32)), (0, .ref b), (2, .int (0 : Int32))]) hx hb dL_law_703 hl (by decide) rfl (fun ls hl => ?_)
    refine lv_iload hx hb dL_law_705 (lv_at hl 1 rfl) ?_
    refine lv_if_eq (tgt := 717) hx hb dL_law_707 (by decide) (fun _ => ?_) (fun hbr1 => absurd (rfl) hbr1)
    refine lv_aload_n hx hb dL_law_717 rfl (lv_at hl 10 rfl) ?_
    refine lv_iload hx hb dL_law_718 (lv_at hl 2 rfl) ?_
    refine wq_length C hO hP hD hS hl dL_law_720 (by omega) (by omega) (fun H locs hP hD hS => ?_)
    have hP : va_P D vwCl ([(r, .inr (9, [.int (rnS sd)])), (a, .inr (10, [.int (nI (shZ G 0)), .int (nI (shZ G 1)), .int (shI G 0), .int (shI G 1), .int (shI G 2), .ref qP, .ref qU, .ref qH, .ref qG, vT, .ref qV])), (qU, .inl (cy 0, (shZ G 2), .inl (shP G))), (qG, .inl (cy 8, (shZ G 4), .inr (.inr (.inr (.inr (fun i => some (rG i))))))), (qV, .inl (cy 2, 4, .inr (.inl va))), (qB, .inl (cy 9, 9, .inr (.inr (.inr (.inr bf)))))] ++ (CW cy u qo st ++ (rl (shZ G 4) rG (fun i => guestE (shG G i)) ++ Z))) H := hP
    have hD : va_D (fun q => s.heap.size ≤ q) ([(r, .inr (9, [.int (rnS sd)])), (a, .inr (10, [.int (nI (shZ G 0)), .int (nI (shZ G 1)), .int (shI G 0), .int (shI G 1), .int (shI G 2), .ref qP, .ref qU, .ref qH, .ref qG, vT, .ref qV])), (qU, .inl (cy 0, (shZ G 2), .inl (shP G))), (qG, .inl (cy 8, (shZ G 4), .inr (.inr (.inr (.inr (fun i => some (rG i))))))), (qV, .inl (cy 2, 4, .inr (.inl va))), (qB, .inl (cy 9, 9, .inr (.inr (.inr (.inr bf)))))] ++ (CW cy u qo st ++ (rl (shZ G 4) rG (fun i => guestE (shG G i)) ++ Z))) := hD
    refine lv_iload hx hb dL_law_723 (lv_at hl 1 rfl) ?_
    refine lv_if_eq (tgt := 733) hx hb dL_law_725 (by decide) (fun _ => ?_) (fun hbr2 => absurd (rfl) hbr2)
    refine lv_ldc (v := -2000000098) hx hb hown c42 dL_law_733 ?_
    refine lv_icmp_ne (tgt := 742) hx hb dL_law_735 (by decide) (fun hbr3 => absurd (rfl) hbr3) (fun _ => ?_)
    refine lv_iconst (v := 1) hx hb dL_law_738 (by decide) ?_
    refine lv_goto (tgt := 743) hx hb dL_law_739 (by decide) ?_
    refine lv_istore_n (lv' := [(1, .int (1 : Int32)), (22, .int (shI G 1)), (11, .int (0 : Int32)), (21, .int (nI ln)), (10, .ref q), (9, .int (nI n)), (8, .int (nI dn)), (7, .ref qB), (6, .ref a), (5, .ref r), (4, .ref qb), (3, .ref qo), (0, .ref b), (2, .int (0 : Int32))]) hx hb dL_law_743 rfl hl (by decide) rfl (fun ls hl => ?_)
    exact K0 H _ ls hP hD hS (lv_sub hl [2, 4, 5, 6, 7, 8, 9, 10, 11, 0, 12, 13] rfl)
  by_cases h1 : 0 < ln
  · skip
    refine lv_if_le (tgt := 695) hx hb dL_law_681 (by decide) (fun hbr1 => absurd hbr1 (nI_nle (by omega) (by omega))) (fun _ => ?_)
    refine lv_iload hx hb dL_law_684 (lv_at hl 0 rfl) ?_
    refine lv_bipush (v := 21) hx hb dL_law_686 (by decide) ?_
    by_cases h2 : ln < 21
    · skip
      refine lv_icmp_ge (tgt := 695) hx hb dL_law_688 (by decide) (fun hbr2 => absurd hbr2 (nI_ge (a := ln) (b := 21) h2 (by decide))) (fun _ => ?_)
      obtain ⟨st2, hO, hK2⟩ := h1s ln h1 (by omega) eln
      refine lv_iconst (v := 1) hx hb dL_law_691 (by decide) ?_
      refine lv_goto (tgt := 696) hx hb dL_law_692 (by decide) ?_
      refine lv_istore (lv' := [(11, .int (1 : Int32)), (21, .int (nI ln)), (10, .ref q), (9, .int (nI n)), (8, .int (nI dn)), (7, .ref qB), (6, .ref a), (5, .ref r), (4, .ref qb), (3, .ref qo), (1, .int (1 : Int32)), (0, .ref b), (2, .int (0 : Int32))]) hx hb dL_law_696 hl (by decide) rfl (fun ls hl => ?_)
      refine lv_aload hx hb dL_law_698 (lv_at hl 6 rfl) ?_
      refine va_get (D := D) (ci := 10) (v := .int (shI G 1)) (C := RX10) (T := TX10) (N := 11) hx hb hts inX10 hown hK hP 1 rfl rfl 3 (by decide) f161 (fun _ h9 => h9) rfl dL_law_700 ?_
      refine lv_istore (lv' := [(22, .int (shI G 1)), (11, .int (1 : Int32)), (21, .int (nI ln)), (10, .ref q), (9, .int (nI n)), (8, .int (nI dn)), (7, .ref qB), (6, .ref a), (5, .ref r), (4, .ref qb), (3, .ref qo), (1, .int (1 : Int32)), (0, .ref b), (2, .int (0 : Int32))]) hx hb dL_law_703 hl (by decide) rfl (fun ls hl => ?_)
      refine lv_iload hx hb dL_law_705 (lv_at hl 1 rfl) ?_
      refine lv_if_eq (tgt := 717) hx hb dL_law_707 (by decide) (fun hbr3 => absurd hbr3 ((by decide : ¬ ((1 : Int32) = 0)))) (fun _ => ?_)
      refine lv_aload hx hb dL_law_710 (lv_at hl 7 rfl) ?_
      refine lv_iload hx hb dL_law_712 (lv_at hl 2 rfl) ?_
      refine va_put (D := D) (ci := 10) (v := .int (nI ln)) (ty := .int) (C := RX10) (T := TX10) (N := 11) hx hb hts inX10 tyX10 tyX10_ok nmX10 hown hK hP hD hS 1 rfl rfl 3 (by decide) f161 (fun _ h9 => h9) (by decide +kernel) rfl rfl rfl (Nat.le_of_ble_eq_true rfl) dL_law_714 (fun H locs hP hD hS => ?_)
      have hP : va_P D vwCl ([(r, .inr (9, [.int (rnS sd)])), (a, .inr (10, [.int (nI (shZ G 0)), .int (nI (shZ G 1)), .int (shI G 0), .int (nI ln), .int (shI G 2), .ref qP, .ref qU, .ref qH, .ref qG, vT, .ref qV])), (qU, .inl (cy 0, (shZ G 2), .inl (shP G))), (qG, .inl (cy 8, (shZ G 4), .inr (.inr (.inr (.inr (fun i => some (rG i))))))), (qV, .inl (cy 2, 4, .inr (.inl va))), (qB, .inl (cy 9, 9, .inr (.inr (.inr (.inr bf)))))] ++ (CW cy u qo st ++ (rl (shZ G 4) rG (fun i => guestE (shG G i)) ++ Z))) H := hP
      have hD : va_D (fun q => s.heap.size ≤ q) ([(r, .inr (9, [.int (rnS sd)])), (a, .inr (10, [.int (nI (shZ G 0)), .int (nI (shZ G 1)), .int (shI G 0), .int (nI ln), .int (shI G 2), .ref qP, .ref qU, .ref qH, .ref qG, vT, .ref qV])), (qU, .inl (cy 0, (shZ G 2), .inl (shP G))), (qG, .inl (cy 8, (shZ G 4), .inr (.inr (.inr (.inr (fun i => some (rG i))))))), (qV, .inl (cy 2, 4, .inr (.inl va))), (qB, .inl (cy 9, 9, .inr (.inr (.inr (.inr bf)))))] ++ (CW cy u qo st ++ (rl (shZ G 4) rG (fun i => guestE (shG G i)) ++ Z))) := hD
      refine lv_aload_n hx hb dL_law_717 rfl (lv_at hl 10 rfl) ?_
      refine lv_iload hx hb dL_law_718 (lv_at hl 2 rfl) ?_
      have hP : va_P D vwCl ([(r, .inr (9, [.int (rnS sd)])), (a, .inr (10, [.int (nI (shZ (shLe G ln) 0)), .int (nI (shZ (shLe G ln) 1)), .int (shI (shLe G ln) 0), .int (shI (shLe G ln) 1), .int (shI (shLe G ln) 2), .ref qP, .ref qU, .ref qH, .ref qG, vT, .ref qV])), (qU, .inl (cy 0, (shZ (shLe G ln) 2), .inl (shP (shLe G ln)))), (qG, .inl (cy 8, (shZ (shLe G ln) 4), .inr (.inr (.inr (.inr (fun i => some (rG i))))))), (qV, .inl (cy 2, 4, .inr (.inl va))), (qB, .inl (cy 9, 9, .inr (.inr (.inr (.inr bf)))))] ++ (CW cy u qo st ++ (rl (shZ G 4) rG (fun i => guestE (shG G i)) ++ Z))) H := hP
      have hD : va_D (fun q => s.heap.size ≤ q) ([(r, .inr (9, [.int (rnS sd)])), (a, .inr (10, [.int (nI (shZ (shLe G ln) 0)), .int (nI (shZ (shLe G ln) 1)), .int (shI (shLe G ln) 0), .int (shI (shLe G ln) 1), .int (shI (shLe G ln) 2), .ref qP, .ref qU, .ref qH, .ref qG, vT, .ref qV])), (qU, .inl (cy 0, (shZ (shLe G ln) 2), .inl (shP (shLe G ln)))), (qG, .inl (cy 8, (shZ (shLe G ln) 4), .inr (.inr (.inr (.inr (fun i => some (rG i))))))), (qV, .inl (cy 2, 4, .inr (.inl va))), (qB, .inl (cy 9, 9, .inr (.inr (.inr (.inr bf)))))] ++ (CW cy u qo st ++ (rl (shZ G 4) rG (fun i => guestE (shG G i)) ++ Z))) := hD
      refine wq_length C hO hP hD hS hl dL_law_720 (by omega) (by omega) (fun H locs hP hD hS => ?_)
      have hP : va_P D vwCl ([(r, .inr (9, [.int (rnS sd)])), (a, .inr (10, [.int (nI (shZ (shLe G ln) 0)), .int (nI (shZ (shLe G ln) 1)), .int (shI (shLe G ln) 0), .int (shI (shLe G ln) 1), .int (shI (shLe G ln) 2), .ref qP, .ref qU, .ref qH, .ref qG, vT, .ref qV])), (qU, .inl (cy 0, (shZ (shLe G ln) 2), .inl (shP (shLe G ln)))), (qG, .inl (cy 8, (shZ (shLe G ln) 4), .inr (.inr (.inr (.inr (fun i => some (rG i))))))), (qV, .inl (cy 2, 4, .inr (.inl va))), (qB, .inl (cy 9, 9, .inr (.inr (.inr (.inr bf)))))] ++ (CW cy u qo st2 ++ (rl (shZ G 4) rG (fun i => guestE (shG G i)) ++ Z))) H := hP
      have hD : va_D (fun q => s.heap.size ≤ q) ([(r, .inr (9, [.int (rnS sd)])), (a, .inr (10, [.int (nI (shZ (shLe G ln) 0)), .int (nI (shZ (shLe G ln) 1)), .int (shI (shLe G ln) 0), .int (shI (shLe G ln) 1), .int (shI (shLe G ln) 2), .ref qP, .ref qU, .ref qH, .ref qG, vT, .ref qV])), (qU, .inl (cy 0, (shZ (shLe G ln) 2), .inl (shP (shLe G ln)))), (qG, .inl (cy 8, (shZ (shLe G ln) 4), .inr (.inr (.inr (.inr (fun i => some (rG i))))))), (qV, .inl (cy 2, 4, .inr (.inl va))), (qB, .inl (cy 9, 9, .inr (.inr (.inr (.inr bf)))))] ++ (CW cy u qo st2 ++ (rl (shZ G 4) rG (fun i => guestE (shG G i)) ++ Z))) := hD
      refine lv_iload hx hb dL_law_723 (lv_at hl 1 rfl) ?_
      refine lv_if_eq (tgt := 733) hx hb dL_law_725 (by decide) (fun hbr4 => absurd hbr4 ((by decide : ¬ ((1 : Int32) = 0)))) (fun _ => ?_)
      refine lv_iload hx hb dL_law_728 (lv_at hl 0 rfl) ?_
      refine lv_goto (tgt := 735) hx hb dL_law_730 (by decide) ?_
      refine lv_icmp_ne (tgt := 742) hx hb dL_law_735 (by decide) (fun hbr5 => absurd (rfl) hbr5) (fun _ => ?_)
      refine lv_iconst (v := 1) hx hb dL_law_738 (by decide) ?_
      refine lv_goto (tgt := 743) hx hb dL_law_739 (by decide) ?_
      refine lv_istore_n (lv' := [(1, .int (1 : Int32)), (22, .int (shI G 1)), (11, .int (1 : Int32)), (21, .int (nI ln)), (10, .ref q), (9, .int (nI n)), (8, .int (nI dn)), (7, .ref qB), (6, .ref a), (5, .ref r), (4, .ref qb), (3, .ref qo), (0, .ref b), (2, .int (0 : Int32))]) hx hb dL_law_743 rfl hl (by decide) rfl (fun ls hl => ?_)
      exact K1 ln st2 H _ ls hK2 hP hD hS (lv_sub hl [2, 4, 5, 6, 7, 8, 9, 10, 11, 0, 12, 13] rfl)
    · skip
      refine lv_icmp_ge (tgt := 695) hx hb dL_law_688 (by decide) (fun _ => ?_) (fun hbr2 => absurd (nI_le (a := 21) (b := ln) (by omega) (by omega)) hbr2)
      exact J0 (Or.inr (by omega)) H _ ls hP hD hS (lv_sub hl [0, 2, 3, 4, 5, 6, 7, 8, 9, 10, 11, 12] rfl)
  · skip
    have eln0 : ln = 0 := by omega
    refine lv_if_le (tgt := 695) hx hb dL_law_681 (by decide) (fun _ => ?_) (fun hbr1 => absurd ((by rw [eln0]; decide)) hbr1)
    exact J0 (Or.inl eln0) H _ ls hP hD hS (lv_sub hl [0, 2, 3, 4, 5, 6, 7, 8, 9, 10, 11, 12] rfl)
set_option maxHeartbeats 1200000 in
set_option maxRecDepth 100000 in
theorem law_come {p : Program} {l : Launch} {e : Env} {s : State} {m : MethodId} {below : List Frame} {meth : Method} {c : Code} {b L : Nat} {xs : Nat → Int32} {D : va_G} {cy : Nat → ClassId} {ad : Nat → Nat} {QQ : State → Prop} {u : Nat → Nat} {qo qb r a : Nat} {qP qU qH qG qV qB : Nat} {vT : Value} {rP rH rG : Nat → Nat} {rL : Nat → Nat → Nat} {rN : Nat → Nat} {va : Nat → Int64} {bf : Nat → Option Nat} {Z : va_W} {st : St} {G : LG} {sd : Int32} {c0 s0 : Nat} {n dn q : Nat} {K9 : Nat → Nat → Nat → St → Prop} (C : LCx p l s m c b L xs D cy ad) (h4 : shZ G 4 ≤ 20) (h0 : ∀ t w co, t < 100 → w < 100 → co ≤ 999 → (9 < t ∨ 25 < w → OP_come st (nI t) (nI w) (nI co) (-2000000098) st) ∧ (t ≤ 9 → w ≤ 25 → 20 ≤ shZ G 4 → OP_come st (nI t) (nI w) (nI co) (-2000000099) st)) (h1s : ∀ t w co, t ≤ 9 → w ≤ 25 → co ≤ 999 → shZ G 4 < 20 → ∃ st2, OP_come st (nI t) (nI w) (nI co) (nI (shZ G 4)) st2 ∧ K9 t w co st2) (hc0 : c0 + 2500 ≤ 600086) (hs0 : s0 + 63000 ≤ 7301442) {H : Heap} {locs : List Loc} {ls : Array Slot} (hP : va_P D vwCl ([(r, .inr (9, [.int sd])), (a, .inr (10, [.int (nI (shZ G 0)), .int (nI (shZ G 1)), .int (shI G 0), .int (shI G 1), .int (shI G 2), .ref qP, .ref qU, .ref qH, .ref qG, vT, .ref qV])), (qU, .inl (cy 0, (shZ G 2), .inl (shP G))), (qG, .inl (cy 8, (shZ G 4), .inr (.inr (.inr (.inr (fun i => some (rG i))))))), (qV, .inl (cy 2, 4, .inr (.inl va))), (qB, .inl (cy 9, 9, .inr (.inr (.inr (.inr bf)))))] ++ (CW cy u qo st ++ (rl (shZ G 4) rG (fun i => guestE (shG G i)) ++ Z))) H) (hD : va_D (fun q => s.heap.size ≤ q) ([(r, .inr (9, [.int sd])), (a, .inr (10, [.int (nI (shZ G 0)), .int (nI (shZ G 1)), .int (shI G 0), .int (shI G 1), .int (shI G 2), .ref qP, .ref qU, .ref qH, .ref qG, vT, .ref qV])), (qU, .inl (cy 0, (shZ G 2), .inl (shP G))), (qG, .inl (cy 8, (shZ G 4), .inr (.inr (.inr (.inr (fun i => some (rG i))))))), (qV, .inl (cy 2, 4, .inr (.inl va))), (qB, .inl (cy 9, 9, .inr (.inr (.inr (.inr bf)))))] ++ (CW cy u qo st ++ (rl (shZ G 4) rG (fun i => guestE (shG G i)) ++ Z)))) (hS : va_S (fun q => s.heap.size ≤ q) s.heap H locs) (hl : lv_has ls 23 [(11, .int (1 : Int32)), (10, .ref q), (9, .int (nI n)), (8, .int (nI dn)), (7, .ref qB), (6, .ref a), (5, .ref r), (4, .ref qb), (3, .ref qo), (1, .int (1 : Int32)), (0, .ref b), (2, .int (0 : Int32))]) (K0 : ∀ (H : Heap) (locs : List Loc) (ls : Array Slot), va_P D vwCl ([(r, .inr (9, [.int (rnS (rnS (rnS sd)))])), (a, .inr (10, [.int (nI (shZ G 0)), .int (nI (shZ G 1)), .int (shI G 0), .int (shI G 1), .int (shI G 2), .ref qP, .ref qU, .ref qH, .ref qG, vT, .ref qV])), (qU, .inl (cy 0, (shZ G 2), .inl (shP G))), (qG, .inl (cy 8, (shZ G 4), .inr (.inr (.inr (.inr (fun i => some (rG i))))))), (qV, .inl (cy 2, 4, .inr (.inl va))), (qB, .inl (cy 9, 9, .inr (.inr (.inr (.inr bf)))))] ++ (CW cy u qo st ++ (rl (shZ G 4) rG (fun i => guestE (shG G i)) ++ Z))) H → va_D (fun q => s.heap.size ≤ q) ([(r, .inr (9, [.int (rnS (rnS (rnS sd)))])), (a, .inr (10, [.int (nI (shZ G 0)), .int (nI (shZ G 1)), .int (shI G 0), .int (shI G 1), .int (shI G 2), .ref qP, .ref qU, .ref qH, .ref qG, vT, .ref qV])), (qU, .inl (cy 0, (shZ G 2), .inl (shP G))), (qG, .inl (cy 8, (shZ G 4), .inr (.inr (.inr (.inr (fun i => some (rG i))))))), (qV, .inl (cy 2, 4, .inr (.inl va))), (qB, .inl (cy 9, 9, .inr (.inr (.inr (.inr bf)))))] ++ (CW cy u qo st ++ (rl (shZ G 4) rG (fun i => guestE (shG G i)) ++ Z))) → va_S (fun q => s.heap.size ≤ q) s.heap H locs → lv_has ls 23 [(11, .int (0 : Int32)), (10, .ref q), (9, .int (nI n)), (8, .int (nI dn)), (7, .ref qB), (6, .ref a), (5, .ref r), (4, .ref qb), (3, .ref qo), (1, .int (1 : Int32)), (0, .ref b), (2, .int (0 : Int32))] → W p l e room_1 s m #[Value.ref b] below meth c H locs (c0 + 80) (s0 + 80) QQ (F0 m 744 ls [])) (K1 : ∀ (t w co : Nat) (st2 : St) (q2 : Nat) (rG2 : Nat → Nat) (H : Heap) (locs : List Loc) (ls : Array Slot), t ≤ 9 → w ≤ 25 → co ≤ 999 → shZ G 4 < 20 → K9 t w co st2 → va_P D vwCl ([(r, .inr (9, [.int (rnS (rnS (rnS sd)))])), (a, .inr (10, [.int (nI (shZ (shCo G (gNew (nI t) (nI w) (nI co))) 0)), .int (nI (shZ (shCo G (gNew (nI t) (nI w) (nI co))) 1)), .int (shI (shCo G (gNew (nI t) (nI w) (nI co))) 0), .int (shI (shCo G (gNew (nI t) (nI w) (nI co))) 1), .int (shI (shCo G (gNew (nI t) (nI w) (nI co))) 2), .ref qP, .ref qU, .ref qH, .ref q2, vT, .ref qV])), (qU, .inl (cy 0, (shZ (shCo G (gNew (nI t) (nI w) (nI co))) 2), .inl (shP (shCo G (gNew (nI t) (nI w) (nI co)))))), (q2, .inl (cy 8, (shZ (shCo G (gNew (nI t) (nI w) (nI co))) 4), .inr (.inr (.inr (.inr (fun i => some (rG2 i))))))), (qV, .inl (cy 2, 4, .inr (.inl va))), (qB, .inl (cy 9, 9, .inr (.inr (.inr (.inr bf)))))] ++ (CW cy u qo st2 ++ (rl (shZ (shCo G (gNew (nI t) (nI w) (nI co))) 4) rG2 (fun i => guestE (shG (shCo G (gNew (nI t) (nI w) (nI co))) i)) ++ Z))) H → va_D (fun q => s.heap.size ≤ q) ([(r, .inr (9, [.int (rnS (rnS (rnS sd)))])), (a, .inr (10, [.int (nI (shZ (shCo G (gNew (nI t) (nI w) (nI co))) 0)), .int (nI (shZ (shCo G (gNew (nI t) (nI w) (nI co))) 1)), .int (shI (shCo G (gNew (nI t) (nI w) (nI co))) 0), .int (shI (shCo G (gNew (nI t) (nI w) (nI co))) 1), .int (shI (shCo G (gNew (nI t) (nI w) (nI co))) 2), .ref qP, .ref qU, .ref qH, .ref q2, vT, .ref qV])), (qU, .inl (cy 0, (shZ (shCo G (gNew (nI t) (nI w) (nI co))) 2), .inl (shP (shCo G (gNew (nI t) (nI w) (nI co)))))), (q2, .inl (cy 8, (shZ (shCo G (gNew (nI t) (nI w) (nI co))) 4), .inr (.inr (.inr (.inr (fun i => some (rG2 i))))))), (qV, .inl (cy 2, 4, .inr (.inl va))), (qB, .inl (cy 9, 9, .inr (.inr (.inr (.inr bf)))))] ++ (CW cy u qo st2 ++ (rl (shZ (shCo G (gNew (nI t) (nI w) (nI co))) 4) rG2 (fun i => guestE (shG (shCo G (gNew (nI t) (nI w) (nI co))) i)) ++ Z))) → va_S (fun q => s.heap.size ≤ q) s.heap H locs → lv_has ls 23 [(11, .int (1 : Int32)), (10, .ref q), (9, .int (nI n)), (8, .int (nI dn)), (7, .ref qB), (6, .ref a), (5, .ref r), (4, .ref qb), (3, .ref qo), (1, .int (1 : Int32)), (0, .ref b), (2, .int (0 : Int32))] → W p l e room_1 s m #[Value.ref b] below meth c H locs (c0 + 80) (s0 + 80) QQ (F0 m 744 ls [])) : W p l e room_1 s m #[Value.ref b] below meth c H locs c0 s0 QQ (F0 m 544 ls []) := by
  obtain ⟨hx, hb, hml, hown, hts, hX, hbl, hEZ, hst⟩ := id C
  obtain ⟨⟨hEL, hDig, hVar, hNest⟩, hEW, hEH⟩ := id hEZ
  have hE := hEL.1
  have hL := hEL.2
  have hK := hE.1
  have hA : ∀ q : Nat, s.heap.size ≤ q → (fun q : Nat => s.heap.size ≤ q) q := fun _ h => h
  have c42 := hts (.constant RL 42 (-2000000098)) (by decide +kernel)
  have c90 := hts (.constant RL 90 (-2000000099)) (by decide +kernel)
  have f219 := hts (.fieldLink RL 219 "PeepBoxLaw$Show" "guests" "[LPeepBoxLaw$Guest;") (by decide +kernel)
  have inX10 : ∀ w ∈ wsX100, w ∈ wsL_law := by decide +kernel
  have k166 := hts (.classLink RL 166 RX7) (by decide +kernel)
  have nX7 := hts (.instantiable RX7 7) (by decide +kernel)
  have iRX7 := hts (.initialized RX7) (by decide +kernel)
  have inX7 : ∀ w ∈ wsX70, w ∈ wsL_law := by decide +kernel
  have l168 := hts (.methodLink RL 168 yX7_init) (by decide +kernel)
  have imX7_init := hts (.instanceMethod yX7_init) (by decide +kernel)
  refine lv_aload hx hb dL_law_544 (lv_at hl 6 rfl) ?_
  refine lv_bipush (v := 11) hx hb dL_law_546 (by decide) ?_
  refine kc_i (va_runV (As := [.int (11 : Int32)]) (rest := []) ⟨hx, hb, hml, hown, hts⟩ (c_X9_below r (11) H.size sd (by omega) (by omega)) (cwV 1 hts gL_law_X9_below rfl rfl rfl kd_X9_below ⟨Nat.le_of_ble_eq_true rfl, Nat.le_of_ble_eq_true rfl⟩) ⟨kP_blind (EN_ok D cy) D _ _ _, va_recv hK hP (ci := 9) (q0 := 0) rfl rfl, kStart (EN_ok D cy) hE hP hD hS hA [0] rfl rfl _⟩ rfl rfl hl.1 rfl (lv_room (Nat.le_of_ble_eq_true rfl)) dL_law_548 ⟨by show c0 + 0 ≤ 600086; omega, by show s0 + 0 ≤ 7301442; omega⟩) hP hD hS hA [0] rfl (Nat.le_refl _) (fun H locs hP hD hS => ?_)
  rw [wjn_1] at hP hD
  have hP : va_P D vwCl ([(r, .inr (9, [.int (rnS sd)])), (a, .inr (10, [.int (nI (shZ G 0)), .int (nI (shZ G 1)), .int (shI G 0), .int (shI G 1), .int (shI G 2), .ref qP, .ref qU, .ref qH, .ref qG, vT, .ref qV])), (qU, .inl (cy 0, (shZ G 2), .inl (shP G))), (qG, .inl (cy 8, (shZ G 4), .inr (.inr (.inr (.inr (fun i => some (rG i))))))), (qV, .inl (cy 2, 4, .inr (.inl va))), (qB, .inl (cy 9, 9, .inr (.inr (.inr (.inr bf)))))] ++ (CW cy u qo st ++ (rl (shZ G 4) rG (fun i => guestE (shG G i)) ++ Z))) H := hP
  have hD : va_D (fun q => s.heap.size ≤ q) ([(r, .inr (9, [.int (rnS sd)])), (a, .inr (10, [.int (nI (shZ G 0)), .int (nI (shZ G 1)), .int (shI G 0), .int (shI G 1), .int (shI G 2), .ref qP, .ref qU, .ref qH, .ref qG, vT, .ref qV])), (qU, .inl (cy 0, (shZ G 2), .inl (shP G))), (qG, .inl (cy 8, (shZ G 4), .inr (.inr (.inr (.inr (fun i => some (rG i))))))), (qV, .inl (cy 2, 4, .inr (.inl va))), (qB, .inl (cy 9, 9, .inr (.inr (.inr (.inr bf)))))] ++ (CW cy u qo st ++ (rl (shZ G 4) rG (fun i => guestE (shG G i)) ++ Z))) := hD
  refine lv_istore (lv' := [(18, .int (nI (rnV sd % (11)))), (11, .int (1 : Int32)), (10, .ref q), (9, .int (nI n)), (8, .int (nI dn)), (7, .ref qB), (6, .ref a), (5, .ref r), (4, .ref qb), (3, .ref qo), (1, .int (1 : Int32)), (0, .ref b), (2, .int (0 : Int32))]) hx hb dL_law_551 hl (by decide) rfl (fun ls hl => ?_)
  obtain ⟨t, et⟩ : ∃ z : Nat, z = rnV sd % 11 := ⟨_, rfl⟩
  rw [← et] at hl
  refine lv_aload hx hb dL_law_553 (lv_at hl 7 rfl) ?_
  refine lv_iconst (v := 5) hx hb dL_law_555 (by decide) ?_
  refine kc_i (va_runV (As := [.int (5 : Int32)]) (rest := []) ⟨hx, hb, hml, hown, hts⟩ (c_X9_below r (5) H.size (rnS sd) (by omega) (by omega)) (cwV 1 hts gL_law_X9_below rfl rfl rfl kd_X9_below ⟨Nat.le_of_ble_eq_true rfl, Nat.le_of_ble_eq_true rfl⟩) ⟨kP_blind (EN_ok D cy) D _ _ _, va_recv hK hP (ci := 9) (q0 := 0) rfl rfl, kStart (EN_ok D cy) hE hP hD hS hA [0] rfl rfl _⟩ rfl rfl hl.1 rfl (lv_room (Nat.le_of_ble_eq_true rfl)) dL_law_556 ⟨by show c0 + 0 ≤ 600086; omega, by show s0 + 0 ≤ 7301442; omega⟩) hP hD hS hA [0] rfl (Nat.le_refl _) (fun H locs hP hD hS => ?_)
  rw [wjn_1] at hP hD
  have hP : va_P D vwCl ([(r, .inr (9, [.int (rnS (rnS sd))])), (a, .inr (10, [.int (nI (shZ G 0)), .int (nI (shZ G 1)), .int (shI G 0), .int (shI G 1), .int (shI G 2), .ref qP, .ref qU, .ref qH, .ref qG, vT, .ref qV])), (qU, .inl (cy 0, (shZ G 2), .inl (shP G))), (qG, .inl (cy 8, (shZ G 4), .inr (.inr (.inr (.inr (fun i => some (rG i))))))), (qV, .inl (cy 2, 4, .inr (.inl va))), (qB, .inl (cy 9, 9, .inr (.inr (.inr (.inr bf)))))] ++ (CW cy u qo st ++ (rl (shZ G 4) rG (fun i => guestE (shG G i)) ++ Z))) H := hP
  have hD : va_D (fun q => s.heap.size ≤ q) ([(r, .inr (9, [.int (rnS (rnS sd))])), (a, .inr (10, [.int (nI (shZ G 0)), .int (nI (shZ G 1)), .int (shI G 0), .int (shI G 1), .int (shI G 2), .ref qP, .ref qU, .ref qH, .ref qG, vT, .ref qV])), (qU, .inl (cy 0, (shZ G 2), .inl (shP G))), (qG, .inl (cy 8, (shZ G 4), .inr (.inr (.inr (.inr (fun i => some (rG i))))))), (qV, .inl (cy 2, 4, .inr (.inl va))), (qB, .inl (cy 9, 9, .inr (.inr (.inr (.inr bf)))))] ++ (CW cy u qo st ++ (rl (shZ G 4) rG (fun i => guestE (shG G i)) ++ Z))) := hD
  refine lv_istore (lv' := [(19, .int (nI (rnV (rnS sd) % (5)))), (18, .int (nI t)), (11, .int (1 : Int32)), (10, .ref q), (9, .int (nI n)), (8, .int (nI dn)), (7, .ref qB), (6, .ref a), (5, .ref r), (4, .ref qb), (3, .ref qo), (1, .int (1 : Int32)), (0, .ref b), (2, .int (0 : Int32))]) hx hb dL_law_559 hl (by decide) rfl (fun ls hl => ?_)
  obtain ⟨w, ew⟩ : ∃ z : Nat, z = rnV (rnS sd) % 5 := ⟨_, rfl⟩
  rw [← ew] at hl
  refine lv_aload hx hb dL_law_561 (lv_at hl 8 rfl) ?_
  refine lv_bipush (v := 40) hx hb dL_law_563 (by decide) ?_
  refine kc_i (va_runV (As := [.int (40 : Int32)]) (rest := []) ⟨hx, hb, hml, hown, hts⟩ (c_X9_below r (40) H.size (rnS (rnS sd)) (by omega) (by omega)) (cwV 1 hts gL_law_X9_below rfl rfl rfl kd_X9_below ⟨Nat.le_of_ble_eq_true rfl, Nat.le_of_ble_eq_true rfl⟩) ⟨kP_blind (EN_ok D cy) D _ _ _, va_recv hK hP (ci := 9) (q0 := 0) rfl rfl, kStart (EN_ok D cy) hE hP hD hS hA [0] rfl rfl _⟩ rfl rfl hl.1 rfl (lv_room (Nat.le_of_ble_eq_true rfl)) dL_law_565 ⟨by show c0 + 0 ≤ 600086; omega, by show s0 + 0 ≤ 7301442; omega⟩) hP hD hS hA [0] rfl (Nat.le_refl _) (fun H locs hP hD hS => ?_)
  rw [wjn_1] at hP hD
  have hP : va_P D vwCl ([(r, .inr (9, [.int (rnS (rnS (rnS sd)))])), (a, .inr (10, [.int (nI (shZ G 0)), .int (nI (shZ G 1)), .int (shI G 0), .int (shI G 1), .int (shI G 2), .ref qP, .ref qU, .ref qH, .ref qG, vT, .ref qV])), (qU, .inl (cy 0, (shZ G 2), .inl (shP G))), (qG, .inl (cy 8, (shZ G 4), .inr (.inr (.inr (.inr (fun i => some (rG i))))))), (qV, .inl (cy 2, 4, .inr (.inl va))), (qB, .inl (cy 9, 9, .inr (.inr (.inr (.inr bf)))))] ++ (CW cy u qo st ++ (rl (shZ G 4) rG (fun i => guestE (shG G i)) ++ Z))) H := hP
  have hD : va_D (fun q => s.heap.size ≤ q) ([(r, .inr (9, [.int (rnS (rnS (rnS sd)))])), (a, .inr (10, [.int (nI (shZ G 0)), .int (nI (shZ G 1)), .int (shI G 0), .int (shI G 1), .int (shI G 2), .ref qP, .ref qU, .ref qH, .ref qG, vT, .ref qV])), (qU, .inl (cy 0, (shZ G 2), .inl (shP G))), (qG, .inl (cy 8, (shZ G 4), .inr (.inr (.inr (.inr (fun i => some (rG i))))))), (qV, .inl (cy 2, 4, .inr (.inl va))), (qB, .inl (cy 9, 9, .inr (.inr (.inr (.inr bf)))))] ++ (CW cy u qo st ++ (rl (shZ G 4) rG (fun i => guestE (shG G i)) ++ Z))) := hD
  refine lv_istore (lv' := [(20, .int (nI (rnV (rnS (rnS sd)) % (40)))), (19, .int (nI w)), (18, .int (nI t)), (11, .int (1 : Int32)), (10, .ref q), (9, .int (nI n)), (8, .int (nI dn)), (7, .ref qB), (6, .ref a), (5, .ref r), (4, .ref qb), (3, .ref qo), (1, .int (1 : Int32)), (0, .ref b), (2, .int (0 : Int32))]) hx hb dL_law_568 hl (by decide) rfl (fun ls hl => ?_)
  obtain ⟨co, eco⟩ : ∃ z : Nat, z = rnV (rnS (rnS sd)) % 40 := ⟨_, rfl⟩
  rw [← eco] at hl
  have ht : t < 11 := by omega
  have hw : w < 5 := by omega
  have hco : co < 40 := by omega
  refine lv_iload hx hb dL_law_570 (lv_at hl 2 rfl) ?_
  refine lv_bipush (v := 10) hx hb dL_law_572 (by decide) ?_
  have J0 : ¬ (t < 10 ∧ shZ G 4 < 20) → ∀ (H : Heap) (locs : List Loc) (ls : Array Slot), va_P D vwCl ([(r, .inr (9, [.int (rnS (rnS (rnS sd)))])), (a, .inr (10, [.int (nI (shZ G 0)), .int (nI (shZ G 1)), .int (shI G 0), .int (shI G 1), .int (shI G 2), .ref qP, .ref qU, .ref qH, .ref qG, vT, .ref qV])), (qU, .inl (cy 0, (shZ G 2), .inl (shP G))), (qG, .inl (cy 8, (shZ G 4), .inr (.inr (.inr (.inr (fun i => some (rG i))))))), (qV, .inl (cy 2, 4, .inr (.inl va))), (qB, .inl (cy 9, 9, .inr (.inr (.inr (.inr bf)))))] ++ (CW cy u qo st ++ (rl (shZ G 4) rG (fun i => guestE (shG G i)) ++ Z))) H → va_D (fun q => s.heap.size ≤ q) ([(r, .inr (9, [.int (rnS (rnS (rnS sd)))])), (a, .inr (10, [.int (nI (shZ G 0)), .int (nI (shZ G 1)), .int (shI G 0), .int (shI G 1), .int (shI G 2), .ref qP, .ref qU, .ref qH, .ref qG, vT, .ref qV])), (qU, .inl (cy 0, (shZ G 2), .inl (shP G))), (qG, .inl (cy 8, (shZ G 4), .inr (.inr (.inr (.inr (fun i => some (rG i))))))), (qV, .inl (cy 2, 4, .inr (.inl va))), (qB, .inl (cy 9, 9, .inr (.inr (.inr (.inr bf)))))] ++ (CW cy u qo st ++ (rl (shZ G 4) rG (fun i => guestE (shG G i)) ++ Z))) → va_S (fun q => s.heap.size ≤ q) s.heap H locs → lv_has ls 23 [(20, .int (nI co)), (19, .int (nI w)), (18, .int (nI t)), (10, .ref q), (9, .int (nI n)), (8, .int (nI dn)), (7, .ref qB), (6, .ref a), (5, .ref r), (4, .ref qb), (3, .ref qo), (1, .int (1 : Int32)), (0, .ref b), (2, .int (0 : Int32))] → W p l e room_1 s m #[Value.ref b] below meth c H locs c0 s0 QQ (F0 m 592 ls []) := by
    intro hc H locs ls hP hD hS hl
    obtain ⟨hO1, hO2⟩ := h0 t w co (by omega) (by omega) (by omega)
    refine lv_iconst (v := 0) hx hb dL_law_592 (by decide) ?_
    refine lv_istore (lv' := [(11, .int (0 : Int32)), (20, .int (nI co)), (19, .int (nI w)), (18, .int (nI t)), (10, .ref q), (9, .int (nI n)), (8, .int (nI dn)), (7, .ref qB), (6, .ref a), (5, .ref r), (4, .ref qb), (3, .ref qo), (1, .int (1 : Int32)), (0, .ref b), (2, .int (0 : Int32))]) hx hb dL_law_593 hl (by decide) rfl (fun ls hl => ?_)
    refine lv_iload hx hb dL_law_595 (lv_at hl 0 rfl) ?_
    refine lv_if_eq (tgt := 618) hx hb dL_law_597 (by decide) (fun _ => ?_) (fun hbr1 => absurd (rfl) hbr1)
    refine lv_aload_n hx hb dL_law_618 rfl (lv_at hl 11 rfl) ?_
    refine lv_iload hx hb dL_law_619 (lv_at hl 3 rfl) ?_
    refine lv_iload hx hb dL_law_621 (lv_at hl 2 rfl) ?_
    refine lv_iload hx hb dL_law_623 (lv_at hl 1 rfl) ?_
    by_cases h9 : 9 < t
    · skip
      refine wq_come C (hO1 (Or.inl h9)) hP hD hS hl dL_law_625 (by omega) (by omega) (fun H locs hP hD hS => ?_)
      have hP : va_P D vwCl ([(r, .inr (9, [.int (rnS (rnS (rnS sd)))])), (a, .inr (10, [.int (nI (shZ G 0)), .int (nI (shZ G 1)), .int (shI G 0), .int (shI G 1), .int (shI G 2), .ref qP, .ref qU, .ref qH, .ref qG, vT, .ref qV])), (qU, .inl (cy 0, (shZ G 2), .inl (shP G))), (qG, .inl (cy 8, (shZ G 4), .inr (.inr (.inr (.inr (fun i => some (rG i))))))), (qV, .inl (cy 2, 4, .inr (.inl va))), (qB, .inl (cy 9, 9, .inr (.inr (.inr (.inr bf)))))] ++ (CW cy u qo st ++ (rl (shZ G 4) rG (fun i => guestE (shG G i)) ++ Z))) H := hP
      have hD : va_D (fun q => s.heap.size ≤ q) ([(r, .inr (9, [.int (rnS (rnS (rnS sd)))])), (a, .inr (10, [.int (nI (shZ G 0)), .int (nI (shZ G 1)), .int (shI G 0), .int (shI G 1), .int (shI G 2), .ref qP, .ref qU, .ref qH, .ref qG, vT, .ref qV])), (qU, .inl (cy 0, (shZ G 2), .inl (shP G))), (qG, .inl (cy 8, (shZ G 4), .inr (.inr (.inr (.inr (fun i => some (rG i))))))), (qV, .inl (cy 2, 4, .inr (.inl va))), (qB, .inl (cy 9, 9, .inr (.inr (.inr (.inr bf)))))] ++ (CW cy u qo st ++ (rl (shZ G 4) rG (fun i => guestE (shG G i)) ++ Z))) := hD
      refine lv_iload hx hb dL_law_628 (lv_at hl 0 rfl) ?_
      refine lv_if_eq (tgt := 644) hx hb dL_law_630 (by decide) (fun _ => ?_) (fun hbr2 => absurd (rfl) hbr2)
      refine lv_iload hx hb dL_law_644 (lv_at hl 3 rfl) ?_
      refine lv_bipush (v := 9) hx hb dL_law_646 (by decide) ?_
      refine lv_icmp_le (tgt := 656) hx hb dL_law_648 (by decide) (fun hbr3 => absurd hbr3 (nI_ge (a := 9) (b := t) h9 (by omega))) (fun _ => ?_)
      refine lv_ldc (v := -2000000098) hx hb hown c42 dL_law_651 ?_
      refine lv_goto (tgt := 658) hx hb dL_law_653 (by decide) ?_
      refine lv_icmp_ne (tgt := 665) hx hb dL_law_658 (by decide) (fun hbr4 => absurd (rfl) hbr4) (fun _ => ?_)
      refine lv_iconst (v := 1) hx hb dL_law_661 (by decide) ?_
      refine lv_goto (tgt := 666) hx hb dL_law_662 (by decide) ?_
      refine lv_istore_n (lv' := [(1, .int (1 : Int32)), (11, .int (0 : Int32)), (20, .int (nI co)), (19, .int (nI w)), (18, .int (nI t)), (10, .ref q), (9, .int (nI n)), (8, .int (nI dn)), (7, .ref qB), (6, .ref a), (5, .ref r), (4, .ref qb), (3, .ref qo), (0, .ref b), (2, .int (0 : Int32))]) hx hb dL_law_666 rfl hl (by decide) rfl (fun ls hl => ?_)
      refine lv_goto (tgt := 744) hx hb dL_law_667 (by decide) ?_
      refine W.widen (k := c0 + 80) (n := s0 + 80) (by omega) (by omega) ?_
      exact K0 H _ ls hP hD hS (lv_sub hl [1, 5, 6, 7, 8, 9, 10, 11, 12, 0, 13, 14] rfl)
    · skip
      refine wq_come C (hO2 (by omega) (by omega) (by omega)) hP hD hS hl dL_law_625 (by omega) (by omega) (fun H locs hP hD hS => ?_)
      have hP : va_P D vwCl ([(r, .inr (9, [.int (rnS (rnS (rnS sd)))])), (a, .inr (10, [.int (nI (shZ G 0)), .int (nI (shZ G 1)), .int (shI G 0), .int (shI G 1), .int (shI G 2), .ref qP, .ref qU, .ref qH, .ref qG, vT, .ref qV])), (qU, .inl (cy 0, (shZ G 2), .inl (shP G))), (qG, .inl (cy 8, (shZ G 4), .inr (.inr (.inr (.inr (fun i => some (rG i))))))), (qV, .inl (cy 2, 4, .inr (.inl va))), (qB, .inl (cy 9, 9, .inr (.inr (.inr (.inr bf)))))] ++ (CW cy u qo st ++ (rl (shZ G 4) rG (fun i => guestE (shG G i)) ++ Z))) H := hP
      have hD : va_D (fun q => s.heap.size ≤ q) ([(r, .inr (9, [.int (rnS (rnS (rnS sd)))])), (a, .inr (10, [.int (nI (shZ G 0)), .int (nI (shZ G 1)), .int (shI G 0), .int (shI G 1), .int (shI G 2), .ref qP, .ref qU, .ref qH, .ref qG, vT, .ref qV])), (qU, .inl (cy 0, (shZ G 2), .inl (shP G))), (qG, .inl (cy 8, (shZ G 4), .inr (.inr (.inr (.inr (fun i => some (rG i))))))), (qV, .inl (cy 2, 4, .inr (.inl va))), (qB, .inl (cy 9, 9, .inr (.inr (.inr (.inr bf)))))] ++ (CW cy u qo st ++ (rl (shZ G 4) rG (fun i => guestE (shG G i)) ++ Z))) := hD
      refine lv_iload hx hb dL_law_628 (lv_at hl 0 rfl) ?_
      refine lv_if_eq (tgt := 644) hx hb dL_law_630 (by decide) (fun _ => ?_) (fun hbr2 => absurd (rfl) hbr2)
      refine lv_iload hx hb dL_law_644 (lv_at hl 3 rfl) ?_
      refine lv_bipush (v := 9) hx hb dL_law_646 (by decide) ?_
      refine lv_icmp_le (tgt := 656) hx hb dL_law_648 (by decide) (fun _ => ?_) (fun hbr3 => absurd (nI_le (a := t) (b := 9) (by omega) (by omega)) hbr3)
      refine lv_ldc (v := -2000000099) hx hb hown c90 dL_law_656 ?_
      refine lv_icmp_ne (tgt := 665) hx hb dL_law_658 (by decide) (fun hbr4 => absurd (rfl) hbr4) (fun _ => ?_)
      refine lv_iconst (v := 1) hx hb dL_law_661 (by decide) ?_
      refine lv_goto (tgt := 666) hx hb dL_law_662 (by decide) ?_
      refine lv_istore_n (lv' := [(1, .int (1 : Int32)), (11, .int (0 : Int32)), (20, .int (nI co)), (19, .int (nI w)), (18, .int (nI t)), (10, .ref q), (9, .int (nI n)), (8, .int (nI dn)), (7, .ref qB), (6, .ref a), (5, .ref r), (4, .ref qb), (3, .ref qo), (0, .ref b), (2, .int (0 : Int32))]) hx hb dL_law_666 rfl hl (by decide) rfl (fun ls hl => ?_)
      refine lv_goto (tgt := 744) hx hb dL_law_667 (by decide) ?_
      refine W.widen (k := c0 + 80) (n := s0 + 80) (by omega) (by omega) ?_
      exact K0 H _ ls hP hD hS (lv_sub hl [1, 5, 6, 7, 8, 9, 10, 11, 12, 0, 13, 14] rfl)
  by_cases h1 : t < 10
  · skip
    refine lv_icmp_ge (tgt := 592) hx hb dL_law_574 (by decide) (fun hbr1 => absurd hbr1 (nI_ge (a := t) (b := 10) h1 (by decide))) (fun _ => ?_)
    refine lv_aload hx hb dL_law_577 (lv_at hl 8 rfl) ?_
    refine va_get (D := D) (ci := 10) (v := .ref qG) (C := RX10) (T := TX10) (N := 11) hx hb hts inX10 hown hK hP 1 rfl rfl 8 (by decide) f219 (fun _ h9 => h9) rfl dL_law_579 ?_
    refine va_alen hx hb hK hP 3 8 rfl rfl (v := nI (shZ G 4)) rfl dL_law_582 ?_
    refine lv_bipush (v := 20) hx hb dL_law_583 (by decide) ?_
    by_cases h2 : shZ G 4 < 20
    · skip
      refine lv_icmp_ge (tgt := 592) hx hb dL_law_585 (by decide) (fun hbr2 => absurd hbr2 (nI_ge (a := shZ G 4) (b := 20) h2 (by decide))) (fun _ => ?_)
      obtain ⟨st2, hO, hK2⟩ := h1s t w co (by omega) (by omega) (by omega) h2
      refine lv_iconst (v := 1) hx hb dL_law_588 (by decide) ?_
      refine lv_goto (tgt := 593) hx hb dL_law_589 (by decide) ?_
      refine lv_istore (lv' := [(11, .int (1 : Int32)), (20, .int (nI co)), (19, .int (nI w)), (18, .int (nI t)), (10, .ref q), (9, .int (nI n)), (8, .int (nI dn)), (7, .ref qB), (6, .ref a), (5, .ref r), (4, .ref qb), (3, .ref qo), (1, .int (1 : Int32)), (0, .ref b), (2, .int (0 : Int32))]) hx hb dL_law_593 hl (by decide) rfl (fun ls hl => ?_)
      refine lv_iload hx hb dL_law_595 (lv_at hl 0 rfl) ?_
      refine lv_if_eq (tgt := 618) hx hb dL_law_597 (by decide) (fun hbr3 => absurd hbr3 ((by decide : ¬ ((1 : Int32) = 0)))) (fun _ => ?_)
      refine lv_aload hx hb dL_law_600 (lv_at hl 8 rfl) ?_
      refine va_new (ci := 7) (fs := [.int 0, .int 0, .int 0, .int 0, .int 0, .int 0, .int 0]) (C := RX7) (T := TX7) (N := 7) hx hb hts inX7 tyX7 tyX7_ok hown k166 nX7 iRX7 hK hP hD hS hA rfl (fun j hj => by rcases (show j = 0 ∨ j = 1 ∨ j = 2 ∨ j = 3 ∨ j = 4 ∨ j = 5 ∨ j = 6 by omega) with rfl | rfl | rfl | rfl | rfl | rfl | rfl <;> rfl) (by show (c0 + 1) ≤ 600086; omega) (by show (s0 + 7) ≤ 7301442; omega) dL_law_602 (fun x H hP hD hS => ?_)
      have hP := va_P.swap hP
      have hD := va_D.swap hD
      have hP : va_P D vwCl ([(r, .inr (9, [.int (rnS (rnS (rnS sd)))])), (a, .inr (10, [.int (nI (shZ G 0)), .int (nI (shZ G 1)), .int (shI G 0), .int (shI G 1), .int (shI G 2), .ref qP, .ref qU, .ref qH, .ref qG, vT, .ref qV])), (qU, .inl (cy 0, (shZ G 2), .inl (shP G))), (qG, .inl (cy 8, (shZ G 4), .inr (.inr (.inr (.inr (fun i => some (rG i))))))), (qV, .inl (cy 2, 4, .inr (.inl va))), (qB, .inl (cy 9, 9, .inr (.inr (.inr (.inr bf))))), (x, .inr (7, [.int (0 : Int32), .int (0 : Int32), .int (0 : Int32), .int (0 : Int32), .int (0 : Int32), .int (0 : Int32), .int (0 : Int32)]))] ++ (CW cy u qo st ++ (rl (shZ G 4) rG (fun i => guestE (shG G i)) ++ Z))) H := hP
      have hD : va_D (fun q => s.heap.size ≤ q) ([(r, .inr (9, [.int (rnS (rnS (rnS sd)))])), (a, .inr (10, [.int (nI (shZ G 0)), .int (nI (shZ G 1)), .int (shI G 0), .int (shI G 1), .int (shI G 2), .ref qP, .ref qU, .ref qH, .ref qG, vT, .ref qV])), (qU, .inl (cy 0, (shZ G 2), .inl (shP G))), (qG, .inl (cy 8, (shZ G 4), .inr (.inr (.inr (.inr (fun i => some (rG i))))))), (qV, .inl (cy 2, 4, .inr (.inl va))), (qB, .inl (cy 9, 9, .inr (.inr (.inr (.inr bf))))), (x, .inr (7, [.int (0 : Int32), .int (0 : Int32), .int (0 : Int32), .int (0 : Int32), .int (0 : Int32), .int (0 : Int32), .int (0 : Int32)]))] ++ (CW cy u qo st ++ (rl (shZ G 4) rG (fun i => guestE (shG G i)) ++ Z))) := hD
      refine lv_dup hx hb dL_law_605 rfl ?_
      refine lv_iload hx hb dL_law_606 (lv_at hl 3 rfl) ?_
      refine lv_iload hx hb dL_law_608 (lv_at hl 2 rfl) ?_
      refine lv_iload hx hb dL_law_610 (lv_at hl 1 rfl) ?_
      refine kc_v (va_runI (As := [.int (nI t), .int (nI w), .int (nI co)]) (rest := [.ref x, .ref a]) ⟨hx, hb, hml, hown, hts⟩ (c_X7_init x H.size (nI t) (nI w) (nI co)) (cwI 3 hts gL_law_X7_init rfl rfl rfl iRX7 l168 imX7_init rfl kd_X7_init ⟨Nat.le_of_ble_eq_true rfl, Nat.le_of_ble_eq_true rfl⟩) ⟨kP_blind (EN_ok D cy) D _ _ _, kStart (EN_ok D cy) hE hP hD hS hA [6] rfl rfl _⟩ rfl rfl hl.1 rfl (lv_room (Nat.le_of_ble_eq_true rfl)) dL_law_612 ⟨by show (c0 + 1) + 0 ≤ 600086; omega, by show (s0 + 7) + 0 ≤ 7301442; omega⟩) hP hD hS hA [6] rfl (Nat.le_refl _) (fun H locs hP hD hS => ?_)
      rw [wjn_1] at hP hD
      have hP : va_P D vwCl ([(r, .inr (9, [.int (rnS (rnS (rnS sd)))])), (a, .inr (10, [.int (nI (shZ G 0)), .int (nI (shZ G 1)), .int (shI G 0), .int (shI G 1), .int (shI G 2), .ref qP, .ref qU, .ref qH, .ref qG, vT, .ref qV])), (qU, .inl (cy 0, (shZ G 2), .inl (shP G))), (qG, .inl (cy 8, (shZ G 4), .inr (.inr (.inr (.inr (fun i => some (rG i))))))), (qV, .inl (cy 2, 4, .inr (.inl va))), (qB, .inl (cy 9, 9, .inr (.inr (.inr (.inr bf))))), (x, .inr (7, [.int (nI t), .int (nI w), .int (nI co), .int (0 : Int32), .int (-1 : Int32), .int (0 : Int32), .int (0 : Int32)]))] ++ (CW cy u qo st ++ (rl (shZ G 4) rG (fun i => guestE (shG G i)) ++ Z))) H := hP
      have hD : va_D (fun q => s.heap.size ≤ q) ([(r, .inr (9, [.int (rnS (rnS (rnS sd)))])), (a, .inr (10, [.int (nI (shZ G 0)), .int (nI (shZ G 1)), .int (shI G 0), .int (shI G 1), .int (shI G 2), .ref qP, .ref qU, .ref qH, .ref qG, vT, .ref qV])), (qU, .inl (cy 0, (shZ G 2), .inl (shP G))), (qG, .inl (cy 8, (shZ G 4), .inr (.inr (.inr (.inr (fun i => some (rG i))))))), (qV, .inl (cy 2, 4, .inr (.inl va))), (qB, .inl (cy 9, 9, .inr (.inr (.inr (.inr bf))))), (x, .inr (7, [.int (nI t), .int (nI w), .int (nI co), .int (0 : Int32), .int (-1 : Int32), .int (0 : Int32), .int (0 : Int32)]))] ++ (CW cy u qo st ++ (rl (shZ G 4) rG (fun i => guestE (shG G i)) ++ Z))) := hD
      have hP : va_P D vwCl (([(r, .inr (9, [.int (rnS (rnS (rnS sd)))])), (a, .inr (10, [.int (nI (shZ G 0)), .int (nI (shZ G 1)), .int (shI G 0), .int (shI G 1), .int (shI G 2), .ref qP, .ref qU, .ref qH, .ref qG, vT, .ref qV])), (qU, .inl (cy 0, (shZ G 2), .inl (shP G))), (qG, .inl (cy 8, (shZ G 4), .inr (.inr (.inr (.inr (fun i => some (rG i))))))), (qV, .inl (cy 2, 4, .inr (.inl va))), (qB, .inl (cy 9, 9, .inr (.inr (.inr (.inr bf)))))] ++ [(x, .inr (7, [.int (nI t), .int (nI w), .int (nI co), .int (0 : Int32), .int (-1 : Int32), .int (0 : Int32), .int (0 : Int32)]))]) ++ (CW cy u qo st ++ (rl (shZ G 4) rG (fun i => guestE (shG G i)) ++ Z))) H := hP
      have hD : va_D (fun q => s.heap.size ≤ q) (([(r, .inr (9, [.int (rnS (rnS (rnS sd)))])), (a, .inr (10, [.int (nI (shZ G 0)), .int (nI (shZ G 1)), .int (shI G 0), .int (shI G 1), .int (shI G 2), .ref qP, .ref qU, .ref qH, .ref qG, vT, .ref qV])), (qU, .inl (cy 0, (shZ G 2), .inl (shP G))), (qG, .inl (cy 8, (shZ G 4), .inr (.inr (.inr (.inr (fun i => some (rG i))))))), (qV, .inl (cy 2, 4, .inr (.inl va))), (qB, .inl (cy 9, 9, .inr (.inr (.inr (.inr bf)))))] ++ [(x, .inr (7, [.int (nI t), .int (nI w), .int (nI co), .int (0 : Int32), .int (-1 : Int32), .int (0 : Int32), .int (0 : Int32)]))]) ++ (CW cy u qo st ++ (rl (shZ G 4) rG (fun i => guestE (shG G i)) ++ Z))) := hD
      have hP := hP.perm pm_com
      have hD := hD.perm pm_com
      refine kp_E (va_runV (As := [.ref x]) (rest := []) ⟨hx, hb, hml, hown, hts⟩ (c_X10_comes a x qG (shZ G 4) H.size (nI (shZ G 0)) (nI (shZ G 1)) (shI G 0) (shI G 1) (shI G 2) (.ref qP) (.ref qU) (.ref qH) vT (.ref qV) (gNew (nI t) (nI w) (nI co)) rG (fun i => shG G i) (by omega)) (cwV 1 hts gL_law_X10_comes rfl rfl rfl kd_X10_comes ⟨Nat.le_of_ble_eq_true rfl, Nat.le_of_ble_eq_true rfl⟩) ⟨kP_blind (EL_ok D cy) D _ _ _, va_recv hK hP (ci := 10) (q0 := 0) rfl rfl, kpStart (EL_ok D cy) hEL hP hD hS hA _⟩ rfl rfl hl.1 rfl (lv_room (Nat.le_of_ble_eq_true rfl)) dL_law_615 ⟨by show (c0 + 1) + 1 ≤ 600086; omega, by show (s0 + 7) + 64 ≤ 7301442; omega⟩) hP hD hS hA (fun q2 H locs _ hP hD hS => ?_)
      have hP := hP.perm pm_com2
      have hD := hD.perm pm_com2
      have e9 : rl (shZ G 4) rG (fun i => guestE (shG G i)) ++ [(x, guestE (gNew (nI t) (nI w) (nI co)))] = rl (shZ (shCo G (gNew (nI t) (nI w) (nI co))) 4) (fun j => if j = shZ G 4 then x else rG j) (fun i => guestE (shG (shCo G (gNew (nI t) (nI w) (nI co))) i)) := rl_come
      rw [e9] at hP hD
      have hP : va_P D vwCl ([(r, .inr (9, [.int (rnS (rnS (rnS sd)))])), (a, .inr (10, [.int (nI (shZ (shCo G (gNew (nI t) (nI w) (nI co))) 0)), .int (nI (shZ (shCo G (gNew (nI t) (nI w) (nI co))) 1)), .int (shI (shCo G (gNew (nI t) (nI w) (nI co))) 0), .int (shI (shCo G (gNew (nI t) (nI w) (nI co))) 1), .int (shI (shCo G (gNew (nI t) (nI w) (nI co))) 2), .ref qP, .ref qU, .ref qH, .ref q2, vT, .ref qV])), (qU, .inl (cy 0, (shZ (shCo G (gNew (nI t) (nI w) (nI co))) 2), .inl (shP (shCo G (gNew (nI t) (nI w) (nI co)))))), (q2, .inl (cy 8, (shZ (shCo G (gNew (nI t) (nI w) (nI co))) 4), .inr (.inr (.inr (.inr (fun i => some ((fun j => if j = shZ G 4 then x else rG j) i))))))), (qV, .inl (cy 2, 4, .inr (.inl va))), (qB, .inl (cy 9, 9, .inr (.inr (.inr (.inr bf)))))] ++ (CW cy u qo st ++ (rl (shZ (shCo G (gNew (nI t) (nI w) (nI co))) 4) (fun j => if j = shZ G 4 then x else rG j) (fun i => guestE (shG (shCo G (gNew (nI t) (nI w) (nI co))) i)) ++ Z))) H := hP
      have hD : va_D (fun q => s.heap.size ≤ q) ([(r, .inr (9, [.int (rnS (rnS (rnS sd)))])), (a, .inr (10, [.int (nI (shZ (shCo G (gNew (nI t) (nI w) (nI co))) 0)), .int (nI (shZ (shCo G (gNew (nI t) (nI w) (nI co))) 1)), .int (shI (shCo G (gNew (nI t) (nI w) (nI co))) 0), .int (shI (shCo G (gNew (nI t) (nI w) (nI co))) 1), .int (shI (shCo G (gNew (nI t) (nI w) (nI co))) 2), .ref qP, .ref qU, .ref qH, .ref q2, vT, .ref qV])), (qU, .inl (cy 0, (shZ (shCo G (gNew (nI t) (nI w) (nI co))) 2), .inl (shP (shCo G (gNew (nI t) (nI w) (nI co)))))), (q2, .inl (cy 8, (shZ (shCo G (gNew (nI t) (nI w) (nI co))) 4), .inr (.inr (.inr (.inr (fun i => some ((fun j => if j = shZ G 4 then x else rG j) i))))))), (qV, .inl (cy 2, 4, .inr (.inl va))), (qB, .inl (cy 9, 9, .inr (.inr (.inr (.inr bf)))))] ++ (CW cy u qo st ++ (rl (shZ (shCo G (gNew (nI t) (nI w) (nI co))) 4) (fun j => if j = shZ G 4 then x else rG j) (fun i => guestE (shG (shCo G (gNew (nI t) (nI w) (nI co))) i)) ++ Z))) := hD
      refine lv_aload_n hx hb dL_law_618 rfl (lv_at hl 11 rfl) ?_
      refine lv_iload hx hb dL_law_619 (lv_at hl 3 rfl) ?_
      refine lv_iload hx hb dL_law_621 (lv_at hl 2 rfl) ?_
      refine lv_iload hx hb dL_law_623 (lv_at hl 1 rfl) ?_
      refine wq_come C hO hP hD hS hl dL_law_625 (by omega) (by omega) (fun H locs hP hD hS => ?_)
      have hP : va_P D vwCl ([(r, .inr (9, [.int (rnS (rnS (rnS sd)))])), (a, .inr (10, [.int (nI (shZ (shCo G (gNew (nI t) (nI w) (nI co))) 0)), .int (nI (shZ (shCo G (gNew (nI t) (nI w) (nI co))) 1)), .int (shI (shCo G (gNew (nI t) (nI w) (nI co))) 0), .int (shI (shCo G (gNew (nI t) (nI w) (nI co))) 1), .int (shI (shCo G (gNew (nI t) (nI w) (nI co))) 2), .ref qP, .ref qU, .ref qH, .ref q2, vT, .ref qV])), (qU, .inl (cy 0, (shZ (shCo G (gNew (nI t) (nI w) (nI co))) 2), .inl (shP (shCo G (gNew (nI t) (nI w) (nI co)))))), (q2, .inl (cy 8, (shZ (shCo G (gNew (nI t) (nI w) (nI co))) 4), .inr (.inr (.inr (.inr (fun i => some ((fun j => if j = shZ G 4 then x else rG j) i))))))), (qV, .inl (cy 2, 4, .inr (.inl va))), (qB, .inl (cy 9, 9, .inr (.inr (.inr (.inr bf)))))] ++ (CW cy u qo st2 ++ (rl (shZ (shCo G (gNew (nI t) (nI w) (nI co))) 4) (fun j => if j = shZ G 4 then x else rG j) (fun i => guestE (shG (shCo G (gNew (nI t) (nI w) (nI co))) i)) ++ Z))) H := hP
      have hD : va_D (fun q => s.heap.size ≤ q) ([(r, .inr (9, [.int (rnS (rnS (rnS sd)))])), (a, .inr (10, [.int (nI (shZ (shCo G (gNew (nI t) (nI w) (nI co))) 0)), .int (nI (shZ (shCo G (gNew (nI t) (nI w) (nI co))) 1)), .int (shI (shCo G (gNew (nI t) (nI w) (nI co))) 0), .int (shI (shCo G (gNew (nI t) (nI w) (nI co))) 1), .int (shI (shCo G (gNew (nI t) (nI w) (nI co))) 2), .ref qP, .ref qU, .ref qH, .ref q2, vT, .ref qV])), (qU, .inl (cy 0, (shZ (shCo G (gNew (nI t) (nI w) (nI co))) 2), .inl (shP (shCo G (gNew (nI t) (nI w) (nI co)))))), (q2, .inl (cy 8, (shZ (shCo G (gNew (nI t) (nI w) (nI co))) 4), .inr (.inr (.inr (.inr (fun i => some ((fun j => if j = shZ G 4 then x else rG j) i))))))), (qV, .inl (cy 2, 4, .inr (.inl va))), (qB, .inl (cy 9, 9, .inr (.inr (.inr (.inr bf)))))] ++ (CW cy u qo st2 ++ (rl (shZ (shCo G (gNew (nI t) (nI w) (nI co))) 4) (fun j => if j = shZ G 4 then x else rG j) (fun i => guestE (shG (shCo G (gNew (nI t) (nI w) (nI co))) i)) ++ Z))) := hD
      refine lv_iload hx hb dL_law_628 (lv_at hl 0 rfl) ?_
      refine lv_if_eq (tgt := 644) hx hb dL_law_630 (by decide) (fun hbr4 => absurd hbr4 ((by decide : ¬ ((1 : Int32) = 0)))) (fun _ => ?_)
      refine lv_aload hx hb dL_law_633 (lv_at hl 8 rfl) ?_
      refine va_get (D := D) (ci := 10) (v := .ref q2) (C := RX10) (T := TX10) (N := 11) hx hb hts inX10 hown hK hP 1 rfl rfl 8 (by decide) f219 (fun _ h9 => h9) rfl dL_law_635 ?_
      refine va_alen hx hb hK hP 3 8 rfl rfl (v := nI (shZ (shCo G (gNew (nI t) (nI w) (nI co))) 4)) rfl dL_law_638 ?_
      refine lv_iconst (v := 1) hx hb dL_law_639 (by decide) ?_
      refine lv_isub hx hb dL_law_640 ?_
      refine lv_goto (tgt := 658) hx hb dL_law_641 (by decide) ?_
      refine lv_icmp_ne (tgt := 665) hx hb dL_law_658 (by decide) (fun hbr5 => absurd ((nI_last (n := shZ G 4))) hbr5) (fun _ => ?_)
      refine lv_iconst (v := 1) hx hb dL_law_661 (by decide) ?_
      refine lv_goto (tgt := 666) hx hb dL_law_662 (by decide) ?_
      refine lv_istore_n (lv' := [(1, .int (1 : Int32)), (11, .int (1 : Int32)), (20, .int (nI co)), (19, .int (nI w)), (18, .int (nI t)), (10, .ref q), (9, .int (nI n)), (8, .int (nI dn)), (7, .ref qB), (6, .ref a), (5, .ref r), (4, .ref qb), (3, .ref qo), (0, .ref b), (2, .int (0 : Int32))]) hx hb dL_law_666 rfl hl (by decide) rfl (fun ls hl => ?_)
      refine lv_goto (tgt := 744) hx hb dL_law_667 (by decide) ?_
      refine W.widen (k := c0 + 80) (n := s0 + 80) (by omega) (by omega) ?_
      exact K1 t w co st2 q2 (fun j => if j = shZ G 4 then x else rG j) H _ ls (by omega) (by omega) (by omega) h2 hK2 hP hD hS (lv_sub hl [1, 5, 6, 7, 8, 9, 10, 11, 12, 0, 13, 14] rfl)
    · skip
      refine lv_icmp_ge (tgt := 592) hx hb dL_law_585 (by decide) (fun _ => ?_) (fun hbr2 => absurd (nI_le (a := 20) (b := shZ G 4) (by omega) (by omega)) hbr2)
      exact J0 (fun z => h2 z.2) H _ ls hP hD hS (lv_sub hl [0, 1, 2, 4, 5, 6, 7, 8, 9, 10, 11, 12, 13, 14] rfl)
  · skip
    refine lv_icmp_ge (tgt := 592) hx hb dL_law_574 (by decide) (fun _ => ?_) (fun hbr1 => absurd (nI_le (a := 10) (b := t) (by omega) (by omega)) hbr1)
    exact J0 (fun z => h1 z.1) H _ ls hP hD hS (lv_sub hl [0, 1, 2, 4, 5, 6, 7, 8, 9, 10, 11, 12, 13, 14] rfl)
set_option maxHeartbeats 1200000 in
set_option maxRecDepth 100000 in
theorem law_pull {p : Program} {l : Launch} {e : Env} {s : State} {m : MethodId} {below : List Frame} {meth : Method} {c : Code} {b L : Nat} {xs : Nat → Int32} {D : va_G} {cy : Nat → ClassId} {ad : Nat → Nat} {QQ : State → Prop} {u : Nat → Nat} {qo qb r a : Nat} {qP qU qH qG qV qB : Nat} {vT : Value} {rP rH rG : Nat → Nat} {rL : Nat → Nat → Nat} {rN : Nat → Nat} {va : Nat → Int64} {bf : Nat → Option Nat} {Z : va_W} {st : St} {G : LG} {sd : Int32} {c0 s0 : Nat} {n dn q : Nat} {K9 : Nat → Nat → St → Prop} (C : LCx p l s m c b L xs D cy ad) (hI : GI cy G qP qH vT rP rH rL rN Z) (hz2 : 1 ≤ shZ G 2 ∧ shZ G 2 ≤ 5) (hz1 : shZ G 1 ≤ 8) (h0 : ∀ pn w, pn < 100 → w < 100 → (shZ G 2 ≤ pn → OP_pull st (nI pn) (nI w) (-2000000097) st) ∧ (pn < shZ G 2 → shZ G 1 < w → OP_pull st (nI pn) (nI w) (-2000000098) st) ∧ (pn + 1 = shZ G 2 → w ≤ shZ G 1 → OP_pull st (nI pn) (nI w) (-2000000099) st)) (h1s : ∀ pn w, pn + 1 < shZ G 2 → w ≤ shZ G 1 → ∃ st2, OP_pull st (nI pn) (nI w) (shP G pn) st2 ∧ K9 pn w st2) (hc0 : c0 + 2500 ≤ 600086) (hs0 : s0 + 63000 ≤ 7301442) {H : Heap} {locs : List Loc} {ls : Array Slot} (hP : va_P D vwCl ([(r, .inr (9, [.int sd])), (a, .inr (10, [.int (nI (shZ G 0)), .int (nI (shZ G 1)), .int (shI G 0), .int (shI G 1), .int (shI G 2), .ref qP, .ref qU, .ref qH, .ref qG, vT, .ref qV])), (qU, .inl (cy 0, (shZ G 2), .inl (shP G))), (qG, .inl (cy 8, (shZ G 4), .inr (.inr (.inr (.inr (fun i => some (rG i))))))), (qV, .inl (cy 2, 4, .inr (.inl va))), (qB, .inl (cy 9, 9, .inr (.inr (.inr (.inr bf)))))] ++ (CW cy u qo st ++ (rl (shZ G 4) rG (fun i => guestE (shG G i)) ++ Z))) H) (hD : va_D (fun q => s.heap.size ≤ q) ([(r, .inr (9, [.int sd])), (a, .inr (10, [.int (nI (shZ G 0)), .int (nI (shZ G 1)), .int (shI G 0), .int (shI G 1), .int (shI G 2), .ref qP, .ref qU, .ref qH, .ref qG, vT, .ref qV])), (qU, .inl (cy 0, (shZ G 2), .inl (shP G))), (qG, .inl (cy 8, (shZ G 4), .inr (.inr (.inr (.inr (fun i => some (rG i))))))), (qV, .inl (cy 2, 4, .inr (.inl va))), (qB, .inl (cy 9, 9, .inr (.inr (.inr (.inr bf)))))] ++ (CW cy u qo st ++ (rl (shZ G 4) rG (fun i => guestE (shG G i)) ++ Z)))) (hS : va_S (fun q => s.heap.size ≤ q) s.heap H locs) (hl : lv_has ls 23 [(11, .int (1 : Int32)), (10, .ref q), (9, .int (nI n)), (8, .int (nI dn)), (7, .ref qB), (6, .ref a), (5, .ref r), (4, .ref qb), (3, .ref qo), (1, .int (1 : Int32)), (0, .ref b), (2, .int (0 : Int32))]) (K0 : ∀ (H : Heap) (locs : List Loc) (ls : Array Slot), va_P D vwCl ([(r, .inr (9, [.int (rnS (rnS sd))])), (a, .inr (10, [.int (nI (shZ G 0)), .int (nI (shZ G 1)), .int (shI G 0), .int (shI G 1), .int (shI G 2), .ref qP, .ref qU, .ref qH, .ref qG, vT, .ref qV])), (qU, .inl (cy 0, (shZ G 2), .inl (shP G))), (qG, .inl (cy 8, (shZ G 4), .inr (.inr (.inr (.inr (fun i => some (rG i))))))), (qV, .inl (cy 2, 4, .inr (.inl va))), (qB, .inl (cy 9, 9, .inr (.inr (.inr (.inr bf)))))] ++ (CW cy u qo st ++ (rl (shZ G 4) rG (fun i => guestE (shG G i)) ++ Z))) H → va_D (fun q => s.heap.size ≤ q) ([(r, .inr (9, [.int (rnS (rnS sd))])), (a, .inr (10, [.int (nI (shZ G 0)), .int (nI (shZ G 1)), .int (shI G 0), .int (shI G 1), .int (shI G 2), .ref qP, .ref qU, .ref qH, .ref qG, vT, .ref qV])), (qU, .inl (cy 0, (shZ G 2), .inl (shP G))), (qG, .inl (cy 8, (shZ G 4), .inr (.inr (.inr (.inr (fun i => some (rG i))))))), (qV, .inl (cy 2, 4, .inr (.inl va))), (qB, .inl (cy 9, 9, .inr (.inr (.inr (.inr bf)))))] ++ (CW cy u qo st ++ (rl (shZ G 4) rG (fun i => guestE (shG G i)) ++ Z))) → va_S (fun q => s.heap.size ≤ q) s.heap H locs → lv_has ls 23 [(11, .int (0 : Int32)), (10, .ref q), (9, .int (nI n)), (8, .int (nI dn)), (7, .ref qB), (6, .ref a), (5, .ref r), (4, .ref qb), (3, .ref qo), (1, .int (1 : Int32)), (0, .ref b), (2, .int (0 : Int32))] → W p l e room_1 s m #[Value.ref b] below meth c H locs (c0 + 80) (s0 + 80) QQ (F0 m 744 ls [])) (K1 : ∀ (pn w : Nat) (st2 : St) (H : Heap) (locs : List Loc) (ls : Array Slot), pn + 1 < shZ G 2 → w ≤ shZ G 1 → K9 pn w st2 → va_P D vwCl ([(r, .inr (9, [.int (rnS (rnS sd))])), (a, .inr (10, [.int (nI (shZ (shPu G pn w) 0)), .int (nI (shZ (shPu G pn w) 1)), .int (shI (shPu G pn w) 0), .int (shI (shPu G pn w) 1), .int (shI (shPu G pn w) 2), .ref qP, .ref qU, .ref qH, .ref qG, vT, .ref qV])), (qU, .inl (cy 0, (shZ (shPu G pn w) 2), .inl (shP (shPu G pn w)))), (qG, .inl (cy 8, (shZ (shPu G pn w) 4), .inr (.inr (.inr (.inr (fun i => some (rG i))))))), (qV, .inl (cy 2, 4, .inr (.inl va))), (qB, .inl (cy 9, 9, .inr (.inr (.inr (.inr bf)))))] ++ (CW cy u qo st2 ++ (rl (shZ (shPu G pn w) 4) rG (fun i => guestE (shG (shPu G pn w) i)) ++ Z))) H → va_D (fun q => s.heap.size ≤ q) ([(r, .inr (9, [.int (rnS (rnS sd))])), (a, .inr (10, [.int (nI (shZ (shPu G pn w) 0)), .int (nI (shZ (shPu G pn w) 1)), .int (shI (shPu G pn w) 0), .int (shI (shPu G pn w) 1), .int (shI (shPu G pn w) 2), .ref qP, .ref qU, .ref qH, .ref qG, vT, .ref qV])), (qU, .inl (cy 0, (shZ (shPu G pn w) 2), .inl (shP (shPu G pn w)))), (qG, .inl (cy 8, (shZ (shPu G pn w) 4), .inr (.inr (.inr (.inr (fun i => some (rG i))))))), (qV, .inl (cy 2, 4, .inr (.inl va))), (qB, .inl (cy 9, 9, .inr (.inr (.inr (.inr bf)))))] ++ (CW cy u qo st2 ++ (rl (shZ (shPu G pn w) 4) rG (fun i => guestE (shG (shPu G pn w) i)) ++ Z))) → va_S (fun q => s.heap.size ≤ q) s.heap H locs → lv_has ls 23 [(11, .int (1 : Int32)), (10, .ref q), (9, .int (nI n)), (8, .int (nI dn)), (7, .ref qB), (6, .ref a), (5, .ref r), (4, .ref qb), (3, .ref qo), (1, .int (1 : Int32)), (0, .ref b), (2, .int (0 : Int32))] → W p l e room_1 s m #[Value.ref b] below meth c H locs (c0 + 80) (s0 + 80) QQ (F0 m 744 ls [])) : W p l e room_1 s m #[Value.ref b] below meth c H locs c0 s0 QQ (F0 m 376 ls []) := by
  obtain ⟨hx, hb, hml, hown, hts, hX, hbl, hEZ, hst⟩ := id C
  obtain ⟨⟨hEL, hDig, hVar, hNest⟩, hEW, hEH⟩ := id hEZ
  have hE := hEL.1
  have hL := hEL.2
  have hK := hE.1
  have hA : ∀ q : Nat, s.heap.size ≤ q → (fun q : Nat => s.heap.size ≤ q) q := fun _ h => h
  have f148 := hts (.fieldLink RL 148 "PeepBoxLaw$Show" "planes" "[[Ljava/lang/String;") (by decide +kernel)
  have inX10 : ∀ w ∈ wsX100, w ∈ wsL_law := by decide +kernel
  have f117 := hts (.fieldLink RL 117 "PeepBoxLaw$Show" "height" "I") (by decide +kernel)
  have f265 := hts (.fieldLink RL 265 "PeepBoxLaw$Show" "pulls" "[I") (by decide +kernel)
  have c42 := hts (.constant RL 42 (-2000000098)) (by decide +kernel)
  have c90 := hts (.constant RL 90 (-2000000099)) (by decide +kernel)
  have c52 := hts (.constant RL 52 (-2000000097)) (by decide +kernel)
  refine lv_aload hx hb dL_law_376 (lv_at hl 6 rfl) ?_
  refine lv_aload hx hb dL_law_378 (lv_at hl 5 rfl) ?_
  refine va_get (D := D) (ci := 10) (v := .ref qP) (C := RX10) (T := TX10) (N := 11) hx hb hts inX10 hown hK hP 1 rfl rfl 5 (by decide) f148 (fun _ h9 => h9) rfl dL_law_380 ?_
  refine va_alen hx hb hK (va_P.of (ws2 := [(qP, refsE (cy 7) (shZ G 2) rP)]) hP (fun z hz => by rw [List.mem_singleton.mp hz]; exact List.mem_append_right _ (List.mem_append_right _ (List.mem_append_right _ hI.1)))) 0 7 rfl rfl (v := nI (shZ G 2)) rfl dL_law_383 ?_
  refine lv_iconst (v := 1) hx hb dL_law_384 (by decide) ?_
  refine lv_iadd hx hb dL_law_385 ?_
  rw [show ((nI (shZ G 2)) + (1 : Int32)) = (nI (shZ G 2 + 1)) from nI_1 _]
  refine kc_i (va_runV (As := [.int (nI (shZ G 2 + 1))]) (rest := []) ⟨hx, hb, hml, hown, hts⟩ (c_X9_below r (shZ G 2 + 1) H.size sd (by omega) (by omega)) (cwV 1 hts gL_law_X9_below rfl rfl rfl kd_X9_below ⟨Nat.le_of_ble_eq_true rfl, Nat.le_of_ble_eq_true rfl⟩) ⟨kP_blind (EN_ok D cy) D _ _ _, va_recv hK hP (ci := 9) (q0 := 0) rfl rfl, kStart (EN_ok D cy) hE hP hD hS hA [0] rfl rfl _⟩ rfl rfl hl.1 rfl (lv_room (Nat.le_of_ble_eq_true rfl)) dL_law_386 ⟨by show c0 + 0 ≤ 600086; omega, by show s0 + 0 ≤ 7301442; omega⟩) hP hD hS hA [0] rfl (Nat.le_refl _) (fun H locs hP hD hS => ?_)
  rw [wjn_1] at hP hD
  have hP : va_P D vwCl ([(r, .inr (9, [.int (rnS sd)])), (a, .inr (10, [.int (nI (shZ G 0)), .int (nI (shZ G 1)), .int (shI G 0), .int (shI G 1), .int (shI G 2), .ref qP, .ref qU, .ref qH, .ref qG, vT, .ref qV])), (qU, .inl (cy 0, (shZ G 2), .inl (shP G))), (qG, .inl (cy 8, (shZ G 4), .inr (.inr (.inr (.inr (fun i => some (rG i))))))), (qV, .inl (cy 2, 4, .inr (.inl va))), (qB, .inl (cy 9, 9, .inr (.inr (.inr (.inr bf)))))] ++ (CW cy u qo st ++ (rl (shZ G 4) rG (fun i => guestE (shG G i)) ++ Z))) H := hP
  have hD : va_D (fun q => s.heap.size ≤ q) ([(r, .inr (9, [.int (rnS sd)])), (a, .inr (10, [.int (nI (shZ G 0)), .int (nI (shZ G 1)), .int (shI G 0), .int (shI G 1), .int (shI G 2), .ref qP, .ref qU, .ref qH, .ref qG, vT, .ref qV])), (qU, .inl (cy 0, (shZ G 2), .inl (shP G))), (qG, .inl (cy 8, (shZ G 4), .inr (.inr (.inr (.inr (fun i => some (rG i))))))), (qV, .inl (cy 2, 4, .inr (.inl va))), (qB, .inl (cy 9, 9, .inr (.inr (.inr (.inr bf)))))] ++ (CW cy u qo st ++ (rl (shZ G 4) rG (fun i => guestE (shG G i)) ++ Z))) := hD
  refine lv_istore (lv' := [(14, .int (nI (rnV sd % (shZ G 2 + 1)))), (11, .int (1 : Int32)), (10, .ref q), (9, .int (nI n)), (8, .int (nI dn)), (7, .ref qB), (6, .ref a), (5, .ref r), (4, .ref qb), (3, .ref qo), (1, .int (1 : Int32)), (0, .ref b), (2, .int (0 : Int32))]) hx hb dL_law_389 hl (by decide) rfl (fun ls hl => ?_)
  obtain ⟨pn, ep⟩ : ∃ z : Nat, z = rnV sd % (shZ G 2 + 1) := ⟨_, rfl⟩
  have hp : pn < shZ G 2 + 1 := by rw [ep]; exact Nat.mod_lt _ (by omega)
  rw [← ep] at hl
  refine lv_aload hx hb dL_law_391 (lv_at hl 7 rfl) ?_
  refine lv_aload hx hb dL_law_393 (lv_at hl 6 rfl) ?_
  refine va_get (D := D) (ci := 10) (v := .int (nI (shZ G 1))) (C := RX10) (T := TX10) (N := 11) hx hb hts inX10 hown hK hP 1 rfl rfl 1 (by decide) f117 (fun _ h9 => h9) rfl dL_law_395 ?_
  refine lv_iconst (v := 2) hx hb dL_law_398 (by decide) ?_
  refine lv_iadd hx hb dL_law_399 ?_
  rw [show ((nI (shZ G 1)) + (2 : Int32)) = (nI (shZ G 1 + 2)) from nI_add _ 2]
  refine kc_i (va_runV (As := [.int (nI (shZ G 1 + 2))]) (rest := []) ⟨hx, hb, hml, hown, hts⟩ (c_X9_below r (shZ G 1 + 2) H.size (rnS sd) (by omega) (by omega)) (cwV 1 hts gL_law_X9_below rfl rfl rfl kd_X9_below ⟨Nat.le_of_ble_eq_true rfl, Nat.le_of_ble_eq_true rfl⟩) ⟨kP_blind (EN_ok D cy) D _ _ _, va_recv hK hP (ci := 9) (q0 := 0) rfl rfl, kStart (EN_ok D cy) hE hP hD hS hA [0] rfl rfl _⟩ rfl rfl hl.1 rfl (lv_room (Nat.le_of_ble_eq_true rfl)) dL_law_400 ⟨by show c0 + 0 ≤ 600086; omega, by show s0 + 0 ≤ 7301442; omega⟩) hP hD hS hA [0] rfl (Nat.le_refl _) (fun H locs hP hD hS => ?_)
  rw [wjn_1] at hP hD
  have hP : va_P D vwCl ([(r, .inr (9, [.int (rnS (rnS sd))])), (a, .inr (10, [.int (nI (shZ G 0)), .int (nI (shZ G 1)), .int (shI G 0), .int (shI G 1), .int (shI G 2), .ref qP, .ref qU, .ref qH, .ref qG, vT, .ref qV])), (qU, .inl (cy 0, (shZ G 2), .inl (shP G))), (qG, .inl (cy 8, (shZ G 4), .inr (.inr (.inr (.inr (fun i => some (rG i))))))), (qV, .inl (cy 2, 4, .inr (.inl va))), (qB, .inl (cy 9, 9, .inr (.inr (.inr (.inr bf)))))] ++ (CW cy u qo st ++ (rl (shZ G 4) rG (fun i => guestE (shG G i)) ++ Z))) H := hP
  have hD : va_D (fun q => s.heap.size ≤ q) ([(r, .inr (9, [.int (rnS (rnS sd))])), (a, .inr (10, [.int (nI (shZ G 0)), .int (nI (shZ G 1)), .int (shI G 0), .int (shI G 1), .int (shI G 2), .ref qP, .ref qU, .ref qH, .ref qG, vT, .ref qV])), (qU, .inl (cy 0, (shZ G 2), .inl (shP G))), (qG, .inl (cy 8, (shZ G 4), .inr (.inr (.inr (.inr (fun i => some (rG i))))))), (qV, .inl (cy 2, 4, .inr (.inl va))), (qB, .inl (cy 9, 9, .inr (.inr (.inr (.inr bf)))))] ++ (CW cy u qo st ++ (rl (shZ G 4) rG (fun i => guestE (shG G i)) ++ Z))) := hD
  refine lv_istore (lv' := [(15, .int (nI (rnV (rnS sd) % (shZ G 1 + 2)))), (14, .int (nI pn)), (11, .int (1 : Int32)), (10, .ref q), (9, .int (nI n)), (8, .int (nI dn)), (7, .ref qB), (6, .ref a), (5, .ref r), (4, .ref qb), (3, .ref qo), (1, .int (1 : Int32)), (0, .ref b), (2, .int (0 : Int32))]) hx hb dL_law_403 hl (by decide) rfl (fun ls hl => ?_)
  obtain ⟨w, ew⟩ : ∃ z : Nat, z = rnV (rnS sd) % (shZ G 1 + 2) := ⟨_, rfl⟩
  have hw : w < shZ G 1 + 2 := by rw [ew]; exact Nat.mod_lt _ (by omega)
  rw [← ew] at hl
  obtain ⟨hOx, hOr, hOb⟩ := h0 pn w (by omega) (by omega)
  refine lv_iload hx hb dL_law_405 (lv_at hl 1 rfl) ?_
  refine lv_aload hx hb dL_law_407 (lv_at hl 7 rfl) ?_
  refine va_get (D := D) (ci := 10) (v := .ref qP) (C := RX10) (T := TX10) (N := 11) hx hb hts inX10 hown hK hP 1 rfl rfl 5 (by decide) f148 (fun _ h9 => h9) rfl dL_law_409 ?_
  refine va_alen hx hb hK (va_P.of (ws2 := [(qP, refsE (cy 7) (shZ G 2) rP)]) hP (fun z hz => by rw [List.mem_singleton.mp hz]; exact List.mem_append_right _ (List.mem_append_right _ (List.mem_append_right _ hI.1)))) 0 7 rfl rfl (v := nI (shZ G 2)) rfl dL_law_412 ?_
  by_cases h1 : pn < shZ G 2
  · skip
    refine lv_icmp_ge (tgt := 420) hx hb dL_law_413 (by decide) (fun hbr1 => absurd hbr1 (nI_ge h1 (by omega))) (fun _ => ?_)
    refine lv_iconst (v := 1) hx hb dL_law_416 (by decide) ?_
    refine lv_goto (tgt := 421) hx hb dL_law_417 (by decide) ?_
    refine lv_istore (lv' := [(16, .int (1 : Int32)), (15, .int (nI w)), (14, .int (nI pn)), (11, .int (1 : Int32)), (10, .ref q), (9, .int (nI n)), (8, .int (nI dn)), (7, .ref qB), (6, .ref a), (5, .ref r), (4, .ref qb), (3, .ref qo), (1, .int (1 : Int32)), (0, .ref b), (2, .int (0 : Int32))]) hx hb dL_law_421 hl (by decide) rfl (fun ls hl => ?_)
    refine lv_iload hx hb dL_law_423 (lv_at hl 2 rfl) ?_
    refine lv_iconst (v := 1) hx hb dL_law_425 (by decide) ?_
    refine lv_iadd hx hb dL_law_426 ?_
    refine lv_aload hx hb dL_law_427 (lv_at hl 8 rfl) ?_
    refine va_get (D := D) (ci := 10) (v := .ref qP) (C := RX10) (T := TX10) (N := 11) hx hb hts inX10 hown hK hP 1 rfl rfl 5 (by decide) f148 (fun _ h9 => h9) rfl dL_law_429 ?_
    refine va_alen hx hb hK (va_P.of (ws2 := [(qP, refsE (cy 7) (shZ G 2) rP)]) hP (fun z hz => by rw [List.mem_singleton.mp hz]; exact List.mem_append_right _ (List.mem_append_right _ (List.mem_append_right _ hI.1)))) 0 7 rfl rfl (v := nI (shZ G 2)) rfl dL_law_432 ?_
    rw [show nI pn + (1 : Int32) = nI (pn + 1) from nI_1 pn]
    have J0 : ¬ (pn + 1 < shZ G 2 ∧ w ≤ shZ G 1) → ∀ (H : Heap) (locs : List Loc) (ls : Array Slot), va_P D vwCl ([(r, .inr (9, [.int (rnS (rnS sd))])), (a, .inr (10, [.int (nI (shZ G 0)), .int (nI (shZ G 1)), .int (shI G 0), .int (shI G 1), .int (shI G 2), .ref qP, .ref qU, .ref qH, .ref qG, vT, .ref qV])), (qU, .inl (cy 0, (shZ G 2), .inl (shP G))), (qG, .inl (cy 8, (shZ G 4), .inr (.inr (.inr (.inr (fun i => some (rG i))))))), (qV, .inl (cy 2, 4, .inr (.inl va))), (qB, .inl (cy 9, 9, .inr (.inr (.inr (.inr bf)))))] ++ (CW cy u qo st ++ (rl (shZ G 4) rG (fun i => guestE (shG G i)) ++ Z))) H → va_D (fun q => s.heap.size ≤ q) ([(r, .inr (9, [.int (rnS (rnS sd))])), (a, .inr (10, [.int (nI (shZ G 0)), .int (nI (shZ G 1)), .int (shI G 0), .int (shI G 1), .int (shI G 2), .ref qP, .ref qU, .ref qH, .ref qG, vT, .ref qV])), (qU, .inl (cy 0, (shZ G 2), .inl (shP G))), (qG, .inl (cy 8, (shZ G 4), .inr (.inr (.inr (.inr (fun i => some (rG i))))))), (qV, .inl (cy 2, 4, .inr (.inl va))), (qB, .inl (cy 9, 9, .inr (.inr (.inr (.inr bf)))))] ++ (CW cy u qo st ++ (rl (shZ G 4) rG (fun i => guestE (shG G i)) ++ Z))) → va_S (fun q => s.heap.size ≤ q) s.heap H locs → lv_has ls 23 [(16, .int (1 : Int32)), (15, .int (nI w)), (14, .int (nI pn)), (10, .ref q), (9, .int (nI n)), (8, .int (nI dn)), (7, .ref qB), (6, .ref a), (5, .ref r), (4, .ref qb), (3, .ref qo), (1, .int (1 : Int32)), (0, .ref b), (2, .int (0 : Int32))] → W p l e room_1 s m #[Value.ref b] below meth c H locs c0 s0 QQ (F0 m 450 ls []) := by
      intro hc H locs ls hP hD hS hl
      refine lv_iconst (v := 0) hx hb dL_law_450 (by decide) ?_
      refine lv_istore (lv' := [(11, .int (0 : Int32)), (16, .int (1 : Int32)), (15, .int (nI w)), (14, .int (nI pn)), (10, .ref q), (9, .int (nI n)), (8, .int (nI dn)), (7, .ref qB), (6, .ref a), (5, .ref r), (4, .ref qb), (3, .ref qo), (1, .int (1 : Int32)), (0, .ref b), (2, .int (0 : Int32))]) hx hb dL_law_451 hl (by decide) rfl (fun ls hl => ?_)
      refine lv_iload hx hb dL_law_453 (lv_at hl 1 rfl) ?_
      refine lv_if_eq (tgt := 469) hx hb dL_law_455 (by decide) (fun hbr2 => absurd hbr2 ((by decide : ¬ ((1 : Int32) = 0)))) (fun _ => ?_)
      refine lv_aload hx hb dL_law_458 (lv_at hl 8 rfl) ?_
      refine va_get (D := D) (ci := 10) (v := .ref qU) (C := RX10) (T := TX10) (N := 11) hx hb hts inX10 hown hK hP 1 rfl rfl 6 (by decide) f265 (fun _ h9 => h9) rfl dL_law_460 ?_
      refine lv_iload hx hb dL_law_463 (lv_at hl 3 rfl) ?_
      refine va_iald hx hb hK hP 2 0 rfl rfl (vp_in_nI h1 (by omega)) dL_law_465 ?_
      rw [nI_clamp (by omega)]
      refine lv_goto (tgt := 470) hx hb dL_law_466 (by decide) ?_
      refine lv_istore (lv' := [(17, .int (shP G pn)), (11, .int (0 : Int32)), (16, .int (1 : Int32)), (15, .int (nI w)), (14, .int (nI pn)), (10, .ref q), (9, .int (nI n)), (8, .int (nI dn)), (7, .ref qB), (6, .ref a), (5, .ref r), (4, .ref qb), (3, .ref qo), (1, .int (1 : Int32)), (0, .ref b), (2, .int (0 : Int32))]) hx hb dL_law_470 hl (by decide) rfl (fun ls hl => ?_)
      refine lv_iload hx hb dL_law_472 (lv_at hl 1 rfl) ?_
      refine lv_if_eq (tgt := 487) hx hb dL_law_474 (by decide) (fun _ => ?_) (fun hbr3 => absurd (rfl) hbr3)
      refine lv_aload_n hx hb dL_law_487 rfl (lv_at hl 12 rfl) ?_
      refine lv_iload hx hb dL_law_488 (lv_at hl 4 rfl) ?_
      refine lv_iload hx hb dL_law_490 (lv_at hl 3 rfl) ?_
      by_cases h9 : shZ G 1 < w
      · skip
        refine wq_pull C (hOr h1 h9) hP hD hS hl dL_law_492 (by omega) (by omega) (fun H locs hP hD hS => ?_)
        have hP : va_P D vwCl ([(r, .inr (9, [.int (rnS (rnS sd))])), (a, .inr (10, [.int (nI (shZ G 0)), .int (nI (shZ G 1)), .int (shI G 0), .int (shI G 1), .int (shI G 2), .ref qP, .ref qU, .ref qH, .ref qG, vT, .ref qV])), (qU, .inl (cy 0, (shZ G 2), .inl (shP G))), (qG, .inl (cy 8, (shZ G 4), .inr (.inr (.inr (.inr (fun i => some (rG i))))))), (qV, .inl (cy 2, 4, .inr (.inl va))), (qB, .inl (cy 9, 9, .inr (.inr (.inr (.inr bf)))))] ++ (CW cy u qo st ++ (rl (shZ G 4) rG (fun i => guestE (shG G i)) ++ Z))) H := hP
        have hD : va_D (fun q => s.heap.size ≤ q) ([(r, .inr (9, [.int (rnS (rnS sd))])), (a, .inr (10, [.int (nI (shZ G 0)), .int (nI (shZ G 1)), .int (shI G 0), .int (shI G 1), .int (shI G 2), .ref qP, .ref qU, .ref qH, .ref qG, vT, .ref qV])), (qU, .inl (cy 0, (shZ G 2), .inl (shP G))), (qG, .inl (cy 8, (shZ G 4), .inr (.inr (.inr (.inr (fun i => some (rG i))))))), (qV, .inl (cy 2, 4, .inr (.inl va))), (qB, .inl (cy 9, 9, .inr (.inr (.inr (.inr bf)))))] ++ (CW cy u qo st ++ (rl (shZ G 4) rG (fun i => guestE (shG G i)) ++ Z))) := hD
        refine lv_iload hx hb dL_law_495 (lv_at hl 1 rfl) ?_
        refine lv_if_eq (tgt := 505) hx hb dL_law_497 (by decide) (fun _ => ?_) (fun hbr4 => absurd (rfl) hbr4)
        refine lv_iload hx hb dL_law_505 (lv_at hl 2 rfl) ?_
        refine lv_if_ne (tgt := 515) hx hb dL_law_507 (by decide) (fun _ => ?_) (fun hbr5 => absurd hbr5 ((by decide : ¬ ((1 : Int32) = 0))))
        refine lv_iload hx hb dL_law_515 (lv_at hl 3 rfl) ?_
        refine lv_aload hx hb dL_law_517 (lv_at hl 9 rfl) ?_
        refine va_get (D := D) (ci := 10) (v := .int (nI (shZ G 1))) (C := RX10) (T := TX10) (N := 11) hx hb hts inX10 hown hK hP 1 rfl rfl 1 (by decide) f117 (fun _ h9 => h9) rfl dL_law_519 ?_
        refine lv_icmp_le (tgt := 530) hx hb dL_law_522 (by decide) (fun hbr6 => absurd hbr6 (nI_ge h9 (by omega))) (fun _ => ?_)
        refine lv_ldc (v := -2000000098) hx hb hown c42 dL_law_525 ?_
        refine lv_goto (tgt := 532) hx hb dL_law_527 (by decide) ?_
        refine lv_icmp_ne (tgt := 539) hx hb dL_law_532 (by decide) (fun hbr7 => absurd (rfl) hbr7) (fun _ => ?_)
        refine lv_iconst (v := 1) hx hb dL_law_535 (by decide) ?_
        refine lv_goto (tgt := 540) hx hb dL_law_536 (by decide) ?_
        refine lv_istore_n (lv' := [(1, .int (1 : Int32)), (17, .int (shP G pn)), (11, .int (0 : Int32)), (16, .int (1 : Int32)), (15, .int (nI w)), (14, .int (nI pn)), (10, .ref q), (9, .int (nI n)), (8, .int (nI dn)), (7, .ref qB), (6, .ref a), (5, .ref r), (4, .ref qb), (3, .ref qo), (0, .ref b), (2, .int (0 : Int32))]) hx hb dL_law_540 rfl hl (by decide) rfl (fun ls hl => ?_)
        refine lv_goto (tgt := 744) hx hb dL_law_541 (by decide) ?_
        refine W.widen (k := c0 + 80) (n := s0 + 80) (by omega) (by omega) ?_
        exact K0 H _ ls hP hD hS (lv_sub hl [2, 6, 7, 8, 9, 10, 11, 12, 13, 0, 14, 15] rfl)
      · skip
        refine wq_pull C (hOb (by omega) (by omega)) hP hD hS hl dL_law_492 (by omega) (by omega) (fun H locs hP hD hS => ?_)
        have hP : va_P D vwCl ([(r, .inr (9, [.int (rnS (rnS sd))])), (a, .inr (10, [.int (nI (shZ G 0)), .int (nI (shZ G 1)), .int (shI G 0), .int (shI G 1), .int (shI G 2), .ref qP, .ref qU, .ref qH, .ref qG, vT, .ref qV])), (qU, .inl (cy 0, (shZ G 2), .inl (shP G))), (qG, .inl (cy 8, (shZ G 4), .inr (.inr (.inr (.inr (fun i => some (rG i))))))), (qV, .inl (cy 2, 4, .inr (.inl va))), (qB, .inl (cy 9, 9, .inr (.inr (.inr (.inr bf)))))] ++ (CW cy u qo st ++ (rl (shZ G 4) rG (fun i => guestE (shG G i)) ++ Z))) H := hP
        have hD : va_D (fun q => s.heap.size ≤ q) ([(r, .inr (9, [.int (rnS (rnS sd))])), (a, .inr (10, [.int (nI (shZ G 0)), .int (nI (shZ G 1)), .int (shI G 0), .int (shI G 1), .int (shI G 2), .ref qP, .ref qU, .ref qH, .ref qG, vT, .ref qV])), (qU, .inl (cy 0, (shZ G 2), .inl (shP G))), (qG, .inl (cy 8, (shZ G 4), .inr (.inr (.inr (.inr (fun i => some (rG i))))))), (qV, .inl (cy 2, 4, .inr (.inl va))), (qB, .inl (cy 9, 9, .inr (.inr (.inr (.inr bf)))))] ++ (CW cy u qo st ++ (rl (shZ G 4) rG (fun i => guestE (shG G i)) ++ Z))) := hD
        refine lv_iload hx hb dL_law_495 (lv_at hl 1 rfl) ?_
        refine lv_if_eq (tgt := 505) hx hb dL_law_497 (by decide) (fun _ => ?_) (fun hbr4 => absurd (rfl) hbr4)
        refine lv_iload hx hb dL_law_505 (lv_at hl 2 rfl) ?_
        refine lv_if_ne (tgt := 515) hx hb dL_law_507 (by decide) (fun _ => ?_) (fun hbr5 => absurd hbr5 ((by decide : ¬ ((1 : Int32) = 0))))
        refine lv_iload hx hb dL_law_515 (lv_at hl 3 rfl) ?_
        refine lv_aload hx hb dL_law_517 (lv_at hl 9 rfl) ?_
        refine va_get (D := D) (ci := 10) (v := .int (nI (shZ G 1))) (C := RX10) (T := TX10) (N := 11) hx hb hts inX10 hown hK hP 1 rfl rfl 1 (by decide) f117 (fun _ h9 => h9) rfl dL_law_519 ?_
        refine lv_icmp_le (tgt := 530) hx hb dL_law_522 (by decide) (fun _ => ?_) (fun hbr6 => absurd (nI_le (by omega) (by omega)) hbr6)
        refine lv_ldc (v := -2000000099) hx hb hown c90 dL_law_530 ?_
        refine lv_icmp_ne (tgt := 539) hx hb dL_law_532 (by decide) (fun hbr7 => absurd (rfl) hbr7) (fun _ => ?_)
        refine lv_iconst (v := 1) hx hb dL_law_535 (by decide) ?_
        refine lv_goto (tgt := 540) hx hb dL_law_536 (by decide) ?_
        refine lv_istore_n (lv' := [(1, .int (1 : Int32)), (17, .int (shP G pn)), (11, .int (0 : Int32)), (16, .int (1 : Int32)), (15, .int (nI w)), (14, .int (nI pn)), (10, .ref q), (9, .int (nI n)), (8, .int (nI dn)), (7, .ref qB), (6, .ref a), (5, .ref r), (4, .ref qb), (3, .ref qo), (0, .ref b), (2, .int (0 : Int32))]) hx hb dL_law_540 rfl hl (by decide) rfl (fun ls hl => ?_)
        refine lv_goto (tgt := 744) hx hb dL_law_541 (by decide) ?_
        refine W.widen (k := c0 + 80) (n := s0 + 80) (by omega) (by omega) ?_
        exact K0 H _ ls hP hD hS (lv_sub hl [2, 6, 7, 8, 9, 10, 11, 12, 13, 0, 14, 15] rfl)
    by_cases h2 : pn + 1 < shZ G 2
    · skip
      refine lv_icmp_ge (tgt := 450) hx hb dL_law_433 (by decide) (fun hbr2 => absurd hbr2 (nI_ge h2 (by omega))) (fun _ => ?_)
      refine lv_iload hx hb dL_law_436 (lv_at hl 1 rfl) ?_
      refine lv_aload hx hb dL_law_438 (lv_at hl 8 rfl) ?_
      refine va_get (D := D) (ci := 10) (v := .int (nI (shZ G 1))) (C := RX10) (T := TX10) (N := 11) hx hb hts inX10 hown hK hP 1 rfl rfl 1 (by decide) f117 (fun _ h9 => h9) rfl dL_law_440 ?_
      by_cases h3 : w ≤ shZ G 1
      · skip
        refine lv_icmp_gt (tgt := 450) hx hb dL_law_443 (by decide) (fun hbr3 => absurd hbr3 (nI_nlt h3 (by omega))) (fun _ => ?_)
        obtain ⟨st2, hO, hK2⟩ := h1s pn w h2 h3
        refine lv_iconst (v := 1) hx hb dL_law_446 (by decide) ?_
        refine lv_goto (tgt := 451) hx hb dL_law_447 (by decide) ?_
        refine lv_istore (lv' := [(11, .int (1 : Int32)), (16, .int (1 : Int32)), (15, .int (nI w)), (14, .int (nI pn)), (10, .ref q), (9, .int (nI n)), (8, .int (nI dn)), (7, .ref qB), (6, .ref a), (5, .ref r), (4, .ref qb), (3, .ref qo), (1, .int (1 : Int32)), (0, .ref b), (2, .int (0 : Int32))]) hx hb dL_law_451 hl (by decide) rfl (fun ls hl => ?_)
        refine lv_iload hx hb dL_law_453 (lv_at hl 1 rfl) ?_
        refine lv_if_eq (tgt := 469) hx hb dL_law_455 (by decide) (fun hbr4 => absurd hbr4 ((by decide : ¬ ((1 : Int32) = 0)))) (fun _ => ?_)
        refine lv_aload hx hb dL_law_458 (lv_at hl 8 rfl) ?_
        refine va_get (D := D) (ci := 10) (v := .ref qU) (C := RX10) (T := TX10) (N := 11) hx hb hts inX10 hown hK hP 1 rfl rfl 6 (by decide) f265 (fun _ h9 => h9) rfl dL_law_460 ?_
        refine lv_iload hx hb dL_law_463 (lv_at hl 3 rfl) ?_
        refine va_iald hx hb hK hP 2 0 rfl rfl (vp_in_nI h1 (by omega)) dL_law_465 ?_
        rw [nI_clamp (by omega)]
        refine lv_goto (tgt := 470) hx hb dL_law_466 (by decide) ?_
        refine lv_istore (lv' := [(17, .int (shP G pn)), (11, .int (1 : Int32)), (16, .int (1 : Int32)), (15, .int (nI w)), (14, .int (nI pn)), (10, .ref q), (9, .int (nI n)), (8, .int (nI dn)), (7, .ref qB), (6, .ref a), (5, .ref r), (4, .ref qb), (3, .ref qo), (1, .int (1 : Int32)), (0, .ref b), (2, .int (0 : Int32))]) hx hb dL_law_470 hl (by decide) rfl (fun ls hl => ?_)
        refine lv_iload hx hb dL_law_472 (lv_at hl 1 rfl) ?_
        refine lv_if_eq (tgt := 487) hx hb dL_law_474 (by decide) (fun hbr5 => absurd hbr5 ((by decide : ¬ ((1 : Int32) = 0)))) (fun _ => ?_)
        refine lv_aload hx hb dL_law_477 (lv_at hl 9 rfl) ?_
        refine va_get (D := D) (ci := 10) (v := .ref qU) (C := RX10) (T := TX10) (N := 11) hx hb hts inX10 hown hK hP 1 rfl rfl 6 (by decide) f265 (fun _ h9 => h9) rfl dL_law_479 ?_
        refine lv_iload hx hb dL_law_482 (lv_at hl 4 rfl) ?_
        refine lv_iload hx hb dL_law_484 (lv_at hl 3 rfl) ?_
        refine va_iast hx hb hK hP hD hS 2 0 rfl rfl (vp_in_nI h1 (by omega)) dL_law_486 (fun H locs hP hD hS => ?_)
        have hP : va_P D vwCl ([(r, .inr (9, [.int (rnS (rnS sd))])), (a, .inr (10, [.int (nI (shZ G 0)), .int (nI (shZ G 1)), .int (shI G 0), .int (shI G 1), .int (shI G 2), .ref qP, .ref qU, .ref qH, .ref qG, vT, .ref qV])), (qU, .inl (cy 0, (shZ G 2), .inl (upd (shP G) ((nI pn)).toNatClampNeg (nI w)))), (qG, .inl (cy 8, (shZ G 4), .inr (.inr (.inr (.inr (fun i => some (rG i))))))), (qV, .inl (cy 2, 4, .inr (.inl va))), (qB, .inl (cy 9, 9, .inr (.inr (.inr (.inr bf)))))] ++ (CW cy u qo st ++ (rl (shZ G 4) rG (fun i => guestE (shG G i)) ++ Z))) H := hP
        have hD : va_D (fun q => s.heap.size ≤ q) ([(r, .inr (9, [.int (rnS (rnS sd))])), (a, .inr (10, [.int (nI (shZ G 0)), .int (nI (shZ G 1)), .int (shI G 0), .int (shI G 1), .int (shI G 2), .ref qP, .ref qU, .ref qH, .ref qG, vT, .ref qV])), (qU, .inl (cy 0, (shZ G 2), .inl (upd (shP G) ((nI pn)).toNatClampNeg (nI w)))), (qG, .inl (cy 8, (shZ G 4), .inr (.inr (.inr (.inr (fun i => some (rG i))))))), (qV, .inl (cy 2, 4, .inr (.inl va))), (qB, .inl (cy 9, 9, .inr (.inr (.inr (.inr bf)))))] ++ (CW cy u qo st ++ (rl (shZ G 4) rG (fun i => guestE (shG G i)) ++ Z))) := hD
        rw [nI_clamp (by omega)] at hP hD
        have hP : va_P D vwCl ([(r, .inr (9, [.int (rnS (rnS sd))])), (a, .inr (10, [.int (nI (shZ (shPu G pn w) 0)), .int (nI (shZ (shPu G pn w) 1)), .int (shI (shPu G pn w) 0), .int (shI (shPu G pn w) 1), .int (shI (shPu G pn w) 2), .ref qP, .ref qU, .ref qH, .ref qG, vT, .ref qV])), (qU, .inl (cy 0, (shZ (shPu G pn w) 2), .inl (shP (shPu G pn w)))), (qG, .inl (cy 8, (shZ (shPu G pn w) 4), .inr (.inr (.inr (.inr (fun i => some (rG i))))))), (qV, .inl (cy 2, 4, .inr (.inl va))), (qB, .inl (cy 9, 9, .inr (.inr (.inr (.inr bf)))))] ++ (CW cy u qo st ++ (rl (shZ G 4) rG (fun i => guestE (shG G i)) ++ Z))) H := hP
        have hD : va_D (fun q => s.heap.size ≤ q) ([(r, .inr (9, [.int (rnS (rnS sd))])), (a, .inr (10, [.int (nI (shZ (shPu G pn w) 0)), .int (nI (shZ (shPu G pn w) 1)), .int (shI (shPu G pn w) 0), .int (shI (shPu G pn w) 1), .int (shI (shPu G pn w) 2), .ref qP, .ref qU, .ref qH, .ref qG, vT, .ref qV])), (qU, .inl (cy 0, (shZ (shPu G pn w) 2), .inl (shP (shPu G pn w)))), (qG, .inl (cy 8, (shZ (shPu G pn w) 4), .inr (.inr (.inr (.inr (fun i => some (rG i))))))), (qV, .inl (cy 2, 4, .inr (.inl va))), (qB, .inl (cy 9, 9, .inr (.inr (.inr (.inr bf)))))] ++ (CW cy u qo st ++ (rl (shZ G 4) rG (fun i => guestE (shG G i)) ++ Z))) := hD
        refine lv_aload_n hx hb dL_law_487 rfl (lv_at hl 12 rfl) ?_
        refine lv_iload hx hb dL_law_488 (lv_at hl 4 rfl) ?_
        refine lv_iload hx hb dL_law_490 (lv_at hl 3 rfl) ?_
        refine wq_pull C hO hP hD hS hl dL_law_492 (by omega) (by omega) (fun H locs hP hD hS => ?_)
        have hP : va_P D vwCl ([(r, .inr (9, [.int (rnS (rnS sd))])), (a, .inr (10, [.int (nI (shZ (shPu G pn w) 0)), .int (nI (shZ (shPu G pn w) 1)), .int (shI (shPu G pn w) 0), .int (shI (shPu G pn w) 1), .int (shI (shPu G pn w) 2), .ref qP, .ref qU, .ref qH, .ref qG, vT, .ref qV])), (qU, .inl (cy 0, (shZ (shPu G pn w) 2), .inl (shP (shPu G pn w)))), (qG, .inl (cy 8, (shZ (shPu G pn w) 4), .inr (.inr (.inr (.inr (fun i => some (rG i))))))), (qV, .inl (cy 2, 4, .inr (.inl va))), (qB, .inl (cy 9, 9, .inr (.inr (.inr (.inr bf)))))] ++ (CW cy u qo st2 ++ (rl (shZ G 4) rG (fun i => guestE (shG G i)) ++ Z))) H := hP
        have hD : va_D (fun q => s.heap.size ≤ q) ([(r, .inr (9, [.int (rnS (rnS sd))])), (a, .inr (10, [.int (nI (shZ (shPu G pn w) 0)), .int (nI (shZ (shPu G pn w) 1)), .int (shI (shPu G pn w) 0), .int (shI (shPu G pn w) 1), .int (shI (shPu G pn w) 2), .ref qP, .ref qU, .ref qH, .ref qG, vT, .ref qV])), (qU, .inl (cy 0, (shZ (shPu G pn w) 2), .inl (shP (shPu G pn w)))), (qG, .inl (cy 8, (shZ (shPu G pn w) 4), .inr (.inr (.inr (.inr (fun i => some (rG i))))))), (qV, .inl (cy 2, 4, .inr (.inl va))), (qB, .inl (cy 9, 9, .inr (.inr (.inr (.inr bf)))))] ++ (CW cy u qo st2 ++ (rl (shZ G 4) rG (fun i => guestE (shG G i)) ++ Z))) := hD
        refine lv_iload hx hb dL_law_495 (lv_at hl 1 rfl) ?_
        refine lv_if_eq (tgt := 505) hx hb dL_law_497 (by decide) (fun hbr6 => absurd hbr6 ((by decide : ¬ ((1 : Int32) = 0)))) (fun _ => ?_)
        refine lv_iload hx hb dL_law_500 (lv_at hl 0 rfl) ?_
        refine lv_goto (tgt := 532) hx hb dL_law_502 (by decide) ?_
        refine lv_icmp_ne (tgt := 539) hx hb dL_law_532 (by decide) (fun hbr7 => absurd (rfl) hbr7) (fun _ => ?_)
        refine lv_iconst (v := 1) hx hb dL_law_535 (by decide) ?_
        refine lv_goto (tgt := 540) hx hb dL_law_536 (by decide) ?_
        refine lv_istore_n (lv' := [(1, .int (1 : Int32)), (17, .int (shP G pn)), (11, .int (1 : Int32)), (16, .int (1 : Int32)), (15, .int (nI w)), (14, .int (nI pn)), (10, .ref q), (9, .int (nI n)), (8, .int (nI dn)), (7, .ref qB), (6, .ref a), (5, .ref r), (4, .ref qb), (3, .ref qo), (0, .ref b), (2, .int (0 : Int32))]) hx hb dL_law_540 rfl hl (by decide) rfl (fun ls hl => ?_)
        refine lv_goto (tgt := 744) hx hb dL_law_541 (by decide) ?_
        refine W.widen (k := c0 + 80) (n := s0 + 80) (by omega) (by omega) ?_
        exact K1 pn w st2 H _ ls h2 h3 hK2 hP hD hS (lv_sub hl [2, 6, 7, 8, 9, 10, 11, 12, 13, 0, 14, 15] rfl)
      · skip
        refine lv_icmp_gt (tgt := 450) hx hb dL_law_443 (by decide) (fun _ => ?_) (fun hbr3 => absurd (nI_lt (by omega) (by omega)) hbr3)
        exact J0 (fun z => h3 z.2) H _ ls hP hD hS (lv_sub hl [0, 1, 2, 4, 5, 6, 7, 8, 9, 10, 11, 12, 13, 14] rfl)
    · skip
      refine lv_icmp_ge (tgt := 450) hx hb dL_law_433 (by decide) (fun _ => ?_) (fun hbr2 => absurd (nI_le (by omega) (by omega)) hbr2)
      exact J0 (fun z => h2 z.1) H _ ls hP hD hS (lv_sub hl [0, 1, 2, 4, 5, 6, 7, 8, 9, 10, 11, 12, 13, 14] rfl)
  · skip
    refine lv_icmp_ge (tgt := 420) hx hb dL_law_413 (by decide) (fun _ => ?_) (fun hbr1 => absurd (nI_le (by omega) (by omega)) hbr1)
    refine lv_iconst (v := 0) hx hb dL_law_420 (by decide) ?_
    refine lv_istore (lv' := [(16, .int (0 : Int32)), (15, .int (nI w)), (14, .int (nI pn)), (11, .int (1 : Int32)), (10, .ref q), (9, .int (nI n)), (8, .int (nI dn)), (7, .ref qB), (6, .ref a), (5, .ref r), (4, .ref qb), (3, .ref qo), (1, .int (1 : Int32)), (0, .ref b), (2, .int (0 : Int32))]) hx hb dL_law_421 hl (by decide) rfl (fun ls hl => ?_)
    refine lv_iload hx hb dL_law_423 (lv_at hl 2 rfl) ?_
    refine lv_iconst (v := 1) hx hb dL_law_425 (by decide) ?_
    refine lv_iadd hx hb dL_law_426 ?_
    refine lv_aload hx hb dL_law_427 (lv_at hl 8 rfl) ?_
    refine va_get (D := D) (ci := 10) (v := .ref qP) (C := RX10) (T := TX10) (N := 11) hx hb hts inX10 hown hK hP 1 rfl rfl 5 (by decide) f148 (fun _ h9 => h9) rfl dL_law_429 ?_
    refine va_alen hx hb hK (va_P.of (ws2 := [(qP, refsE (cy 7) (shZ G 2) rP)]) hP (fun z hz => by rw [List.mem_singleton.mp hz]; exact List.mem_append_right _ (List.mem_append_right _ (List.mem_append_right _ hI.1)))) 0 7 rfl rfl (v := nI (shZ G 2)) rfl dL_law_432 ?_
    rw [show nI pn + (1 : Int32) = nI (pn + 1) from nI_1 pn]
    refine lv_icmp_ge (tgt := 450) hx hb dL_law_433 (by decide) (fun _ => ?_) (fun hbr2 => absurd (nI_le (by omega) (by omega)) hbr2)
    refine lv_iconst (v := 0) hx hb dL_law_450 (by decide) ?_
    refine lv_istore (lv' := [(11, .int (0 : Int32)), (16, .int (0 : Int32)), (15, .int (nI w)), (14, .int (nI pn)), (10, .ref q), (9, .int (nI n)), (8, .int (nI dn)), (7, .ref qB), (6, .ref a), (5, .ref r), (4, .ref qb), (3, .ref qo), (1, .int (1 : Int32)), (0, .ref b), (2, .int (0 : Int32))]) hx hb dL_law_451 hl (by decide) rfl (fun ls hl => ?_)
    refine lv_iload hx hb dL_law_453 (lv_at hl 1 rfl) ?_
    refine lv_if_eq (tgt := 469) hx hb dL_law_455 (by decide) (fun _ => ?_) (fun hbr3 => absurd (rfl) hbr3)
    refine lv_iconst (v := 0) hx hb dL_law_469 (by decide) ?_
    refine lv_istore (lv' := [(17, .int (0 : Int32)), (11, .int (0 : Int32)), (16, .int (0 : Int32)), (15, .int (nI w)), (14, .int (nI pn)), (10, .ref q), (9, .int (nI n)), (8, .int (nI dn)), (7, .ref qB), (6, .ref a), (5, .ref r), (4, .ref qb), (3, .ref qo), (1, .int (1 : Int32)), (0, .ref b), (2, .int (0 : Int32))]) hx hb dL_law_470 hl (by decide) rfl (fun ls hl => ?_)
    refine lv_iload hx hb dL_law_472 (lv_at hl 1 rfl) ?_
    refine lv_if_eq (tgt := 487) hx hb dL_law_474 (by decide) (fun _ => ?_) (fun hbr4 => absurd (rfl) hbr4)
    refine lv_aload_n hx hb dL_law_487 rfl (lv_at hl 12 rfl) ?_
    refine lv_iload hx hb dL_law_488 (lv_at hl 4 rfl) ?_
    refine lv_iload hx hb dL_law_490 (lv_at hl 3 rfl) ?_
    refine wq_pull C (hOx (by omega)) hP hD hS hl dL_law_492 (by omega) (by omega) (fun H locs hP hD hS => ?_)
    have hP : va_P D vwCl ([(r, .inr (9, [.int (rnS (rnS sd))])), (a, .inr (10, [.int (nI (shZ G 0)), .int (nI (shZ G 1)), .int (shI G 0), .int (shI G 1), .int (shI G 2), .ref qP, .ref qU, .ref qH, .ref qG, vT, .ref qV])), (qU, .inl (cy 0, (shZ G 2), .inl (shP G))), (qG, .inl (cy 8, (shZ G 4), .inr (.inr (.inr (.inr (fun i => some (rG i))))))), (qV, .inl (cy 2, 4, .inr (.inl va))), (qB, .inl (cy 9, 9, .inr (.inr (.inr (.inr bf)))))] ++ (CW cy u qo st ++ (rl (shZ G 4) rG (fun i => guestE (shG G i)) ++ Z))) H := hP
    have hD : va_D (fun q => s.heap.size ≤ q) ([(r, .inr (9, [.int (rnS (rnS sd))])), (a, .inr (10, [.int (nI (shZ G 0)), .int (nI (shZ G 1)), .int (shI G 0), .int (shI G 1), .int (shI G 2), .ref qP, .ref qU, .ref qH, .ref qG, vT, .ref qV])), (qU, .inl (cy 0, (shZ G 2), .inl (shP G))), (qG, .inl (cy 8, (shZ G 4), .inr (.inr (.inr (.inr (fun i => some (rG i))))))), (qV, .inl (cy 2, 4, .inr (.inl va))), (qB, .inl (cy 9, 9, .inr (.inr (.inr (.inr bf)))))] ++ (CW cy u qo st ++ (rl (shZ G 4) rG (fun i => guestE (shG G i)) ++ Z))) := hD
    refine lv_iload hx hb dL_law_495 (lv_at hl 1 rfl) ?_
    refine lv_if_eq (tgt := 505) hx hb dL_law_497 (by decide) (fun _ => ?_) (fun hbr5 => absurd (rfl) hbr5)
    refine lv_iload hx hb dL_law_505 (lv_at hl 2 rfl) ?_
    refine lv_if_ne (tgt := 515) hx hb dL_law_507 (by decide) (fun hbr6 => absurd (rfl) hbr6) (fun _ => ?_)
    refine lv_ldc (v := -2000000097) hx hb hown c52 dL_law_510 ?_
    refine lv_goto (tgt := 532) hx hb dL_law_512 (by decide) ?_
    refine lv_icmp_ne (tgt := 539) hx hb dL_law_532 (by decide) (fun hbr7 => absurd (rfl) hbr7) (fun _ => ?_)
    refine lv_iconst (v := 1) hx hb dL_law_535 (by decide) ?_
    refine lv_goto (tgt := 540) hx hb dL_law_536 (by decide) ?_
    refine lv_istore_n (lv' := [(1, .int (1 : Int32)), (17, .int (0 : Int32)), (11, .int (0 : Int32)), (16, .int (0 : Int32)), (15, .int (nI w)), (14, .int (nI pn)), (10, .ref q), (9, .int (nI n)), (8, .int (nI dn)), (7, .ref qB), (6, .ref a), (5, .ref r), (4, .ref qb), (3, .ref qo), (0, .ref b), (2, .int (0 : Int32))]) hx hb dL_law_540 rfl hl (by decide) rfl (fun ls hl => ?_)
    refine lv_goto (tgt := 744) hx hb dL_law_541 (by decide) ?_
    refine W.widen (k := c0 + 80) (n := s0 + 80) (by omega) (by omega) ?_
    exact K0 H _ ls hP hD hS (lv_sub hl [2, 6, 7, 8, 9, 10, 11, 12, 13, 0, 14, 15] rfl)
