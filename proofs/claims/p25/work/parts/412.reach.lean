/-! randomShow: reach and length (rs4.py) -/
/-- the reach and the length that are drawn, or not -/
def reS (sd : Int32) : Int32 := if rnV sd % 2 = 0 then rnS (rnS (rnS sd)) else rnS sd
def reR (sd : Int32) : Nat := if rnV sd % 2 = 0 then rnV (rnS sd) % 10 else 9
def reL (sd : Int32) : Nat := if rnV sd % 2 = 0 then 1 + rnV (rnS (rnS sd)) % 6 else 3
def reT (sd : Int32) : List Int32 := if rnV sd % 2 = 0 then [114, 101, 97, 99, 104] ++ numT (fun _ => rnV (rnS sd) % 10) 1 ++ [59, 108, 101, 110, 103, 116, 104] ++ numT (fun _ => 1 + rnV (rnS (rnS sd)) % 6) 1 ++ [59] else []
theorem reT_len (sd : Int32) : (reT sd).length ≤ 23 := by
  unfold reT
  split
  · have := numT_len (fun _ => rnV (rnS sd) % 10) 1
    have := numT_len (fun _ => 1 + rnV (rnS (rnS sd)) % 6) 1
    rw [List.length_append, List.length_append, List.length_append, List.length_append]
    show 5 + _ + 7 + _ + 1 ≤ 23
    omega
  · exact Nat.zero_le _
set_option maxHeartbeats 8000000 in
set_option maxRecDepth 100000 in
theorem rs_reach {p : Program} {l : Launch} {e : Env} {s : State} {m : MethodId} {args : Array Value} {below : List Frame} {meth : Method} {c : Code} {D : va_G} {cy : Nat → ClassId} {ad : Nat → Nat} {A : Nat → Prop} {QQ : State → Prop} {st : St} {u : Nat → Nat} {qo qb r a : Nat} {n w hh : Nat} {sd s4 : Int32} {v5 v6 v7 v8 v9 v10 : Value} {Y0 G : va_W} {tx0 : List Int32} {c0 s0 : Nat} (C : RC p s m c args D cy ad A) (htx0 : tx0.length ≤ 300) (hc0 : c0 ≤ 2000) (hs0 : s0 ≤ 200000) {f : Int32} {b B : Nat → Int32} {H : Heap} {locs : List Loc} {ls : Array Slot} (T : TxR tx0 f b B) (hP : va_P D vwCl ([(r, .inr (9, [.int sd])), (a, .inr (10, [.int (nI w), .int (nI hh), .int (9 : Int32), .int (3 : Int32), .int s4, v5, v6, v7, v8, v9, v10]))] ++ ((CWB cy u qo (stW st f b) qb B) ++ (Y0 ++ G))) H) (hD : va_D A ([(r, .inr (9, [.int sd])), (a, .inr (10, [.int (nI w), .int (nI hh), .int (9 : Int32), .int (3 : Int32), .int s4, v5, v6, v7, v8, v9, v10]))] ++ ((CWB cy u qo (stW st f b) qb B) ++ (Y0 ++ G)))) (hS : va_S A s.heap H locs) (hl : lv_has ls 10 [(4, .int (nI n)), (3, .ref a), (0, .ref qo), (1, .ref qb), (2, .ref r)]) (K : ∀ (f : Int32) (b B : Nat → Int32) (G : va_W) (H : Heap) (locs : List Loc) (ls : Array Slot), TxR (tx0 ++ reT sd) f b B → va_P D vwCl ([(r, .inr (9, [.int (reS sd)])), (a, .inr (10, [.int (nI w), .int (nI hh), .int (nI (reR sd)), .int (nI (reL sd)), .int s4, v5, v6, v7, v8, v9, v10]))] ++ ((CWB cy u qo (stW st f b) qb B) ++ (Y0 ++ G))) H → va_D A ([(r, .inr (9, [.int (reS sd)])), (a, .inr (10, [.int (nI w), .int (nI hh), .int (nI (reR sd)), .int (nI (reL sd)), .int s4, v5, v6, v7, v8, v9, v10]))] ++ ((CWB cy u qo (stW st f b) qb B) ++ (Y0 ++ G))) → va_S A s.heap H locs → lv_has ls 10 [(4, .int (nI n)), (3, .ref a), (0, .ref qo), (1, .ref qb), (2, .ref r)] → W p l e ({ frames := 100, cells := 4000, slots := 300000, locals := 4000 } : Room) s m args below meth c H locs (c0 + 10) (s0 + 10) QQ (F0 m 405 ls [])) : W p l e ({ frames := 100, cells := 4000, slots := 300000, locals := 4000 } : Room) s m args below meth c H locs c0 s0 QQ (F0 m 334 ls []) := by
  obtain ⟨hx, hb, hml, hown, hts, hEZ, hA⟩ := C
  obtain ⟨⟨hEL, hDig, hVar, hNest⟩, hEW, hEH⟩ := id hEZ
  have hE := hEL.1
  have hL := hEL.2
  have hK := hE.1
  have hW1 := hEW.2.1
  have hW2 := hEW.2.2
  have f158 := hts (.fieldLink RL 158 "PeepBoxLaw$Show" "reach" "I") (by decide +kernel)
  have inX10 : ∀ w ∈ wsX100, w ∈ wsL_randomShow := by decide +kernel
  have f161 := hts (.fieldLink RL 161 "PeepBoxLaw$Show" "length" "I") (by decide +kernel)
  have aI := hts (.arrayClass .int) (by decide +kernel)
  refine lv_aload_n hx hb dL_randomShow_334 rfl (lv_at hl 4 rfl) ?_
  refine lv_iconst (v := 2) hx hb dL_randomShow_335 (by decide) ?_
  refine kc_i (va_runV (As := [.int (2 : Int32)]) (rest := []) ⟨hx, hb, hml, hown, hts⟩ (c_X9_below r (2) H.size sd (by omega) (by omega)) (cwV 1 hts gL_randomShow_X9_below rfl rfl rfl kd_X9_below ⟨Nat.le_of_ble_eq_true rfl, Nat.le_of_ble_eq_true rfl⟩) ⟨kP_blind (EN_ok D cy) D _ _ _, va_recv hK hP (ci := 9) (q0 := 0) rfl rfl, kStart (EN_ok D cy) hE hP hD hS hA [0] rfl rfl _⟩ rfl rfl hl.1 rfl (lv_room (Nat.le_of_ble_eq_true rfl)) dL_randomShow_336 ⟨by show c0 + 0 ≤ 4000; omega, by show s0 + 0 ≤ 300000; omega⟩) hP hD hS hA [0] rfl (Nat.le_refl _) (fun H locs hP hD hS => ?_)
  rw [wjn_1] at hP hD
  have hP : va_P D vwCl ([(r, .inr (9, [.int (rnS sd)])), (a, .inr (10, [.int (nI w), .int (nI hh), .int (9 : Int32), .int (3 : Int32), .int s4, v5, v6, v7, v8, v9, v10]))] ++ ((CWB cy u qo (stW st f b) qb B) ++ (Y0 ++ G))) H := hP
  have hD : va_D A ([(r, .inr (9, [.int (rnS sd)])), (a, .inr (10, [.int (nI w), .int (nI hh), .int (9 : Int32), .int (3 : Int32), .int s4, v5, v6, v7, v8, v9, v10]))] ++ ((CWB cy u qo (stW st f b) qb B) ++ (Y0 ++ G))) := hD
  by_cases hc : rnV sd % 2 = 0
  · skip
    refine lv_if_ne (tgt := 405) hx hb dL_randomShow_339 (by decide) (fun h1 => absurd (congrArg nI hc) h1) (fun _ => ?_)
    refine lv_aload_n hx hb dL_randomShow_342 rfl (lv_at hl 1 rfl) ?_
    refine lv_aload_n hx hb dL_randomShow_343 rfl (lv_at hl 4 rfl) ?_
    refine lv_bipush (v := 10) hx hb dL_randomShow_344 (by decide) ?_
    refine kc_i (va_runV (As := [.int (10 : Int32)]) (rest := [.ref a]) ⟨hx, hb, hml, hown, hts⟩ (c_X9_below r (10) H.size (rnS sd) (by omega) (by omega)) (cwV 1 hts gL_randomShow_X9_below rfl rfl rfl kd_X9_below ⟨Nat.le_of_ble_eq_true rfl, Nat.le_of_ble_eq_true rfl⟩) ⟨kP_blind (EN_ok D cy) D _ _ _, va_recv hK hP (ci := 9) (q0 := 0) rfl rfl, kStart (EN_ok D cy) hE hP hD hS hA [0] rfl rfl _⟩ rfl rfl hl.1 rfl (lv_room (Nat.le_of_ble_eq_true rfl)) dL_randomShow_346 ⟨by show c0 + 0 ≤ 4000; omega, by show s0 + 0 ≤ 300000; omega⟩) hP hD hS hA [0] rfl (Nat.le_refl _) (fun H locs hP hD hS => ?_)
    rw [wjn_1] at hP hD
    have hP : va_P D vwCl ([(r, .inr (9, [.int (rnS (rnS sd))])), (a, .inr (10, [.int (nI w), .int (nI hh), .int (9 : Int32), .int (3 : Int32), .int s4, v5, v6, v7, v8, v9, v10]))] ++ ((CWB cy u qo (stW st f b) qb B) ++ (Y0 ++ G))) H := hP
    have hD : va_D A ([(r, .inr (9, [.int (rnS (rnS sd))])), (a, .inr (10, [.int (nI w), .int (nI hh), .int (9 : Int32), .int (3 : Int32), .int s4, v5, v6, v7, v8, v9, v10]))] ++ ((CWB cy u qo (stW st f b) qb B) ++ (Y0 ++ G))) := hD
    refine va_put (D := D) (ci := 10) (v := .int (nI (rnV (rnS sd) % (10)))) (ty := .int) (C := RX10) (T := TX10) (N := 11) hx hb hts inX10 tyX10 tyX10_ok nmX10 hown hK hP hD hS 1 rfl rfl 2 (by decide) f158 (fun _ h9 => h9) (by decide +kernel) rfl rfl rfl (Nat.le_of_ble_eq_true rfl) dL_randomShow_349 (fun H locs hP hD hS => ?_)
    have hP : va_P D vwCl ([(r, .inr (9, [.int (rnS (rnS sd))])), (a, .inr (10, [.int (nI w), .int (nI hh), .int (nI (rnV (rnS sd) % (10))), .int (3 : Int32), .int s4, v5, v6, v7, v8, v9, v10]))] ++ ((CWB cy u qo (stW st f b) qb B) ++ (Y0 ++ G))) H := hP
    have hD : va_D A ([(r, .inr (9, [.int (rnS (rnS sd))])), (a, .inr (10, [.int (nI w), .int (nI hh), .int (nI (rnV (rnS sd) % (10))), .int (3 : Int32), .int s4, v5, v6, v7, v8, v9, v10]))] ++ ((CWB cy u qo (stW st f b) qb B) ++ (Y0 ++ G))) := hD
    refine lv_aload_n hx hb dL_randomShow_352 rfl (lv_at hl 1 rfl) ?_
    refine lv_iconst (v := 1) hx hb dL_randomShow_353 (by decide) ?_
    refine lv_aload_n hx hb dL_randomShow_354 rfl (lv_at hl 4 rfl) ?_
    refine lv_bipush (v := 6) hx hb dL_randomShow_355 (by decide) ?_
    refine kc_i (va_runV (As := [.int (6 : Int32)]) (rest := [.int (1 : Int32), .ref a]) ⟨hx, hb, hml, hown, hts⟩ (c_X9_below r (6) H.size (rnS (rnS sd)) (by omega) (by omega)) (cwV 1 hts gL_randomShow_X9_below rfl rfl rfl kd_X9_below ⟨Nat.le_of_ble_eq_true rfl, Nat.le_of_ble_eq_true rfl⟩) ⟨kP_blind (EN_ok D cy) D _ _ _, va_recv hK hP (ci := 9) (q0 := 0) rfl rfl, kStart (EN_ok D cy) hE hP hD hS hA [0] rfl rfl _⟩ rfl rfl hl.1 rfl (lv_room (Nat.le_of_ble_eq_true rfl)) dL_randomShow_357 ⟨by show c0 + 0 ≤ 4000; omega, by show s0 + 0 ≤ 300000; omega⟩) hP hD hS hA [0] rfl (Nat.le_refl _) (fun H locs hP hD hS => ?_)
    rw [wjn_1] at hP hD
    have hP : va_P D vwCl ([(r, .inr (9, [.int (rnS (rnS (rnS sd)))])), (a, .inr (10, [.int (nI w), .int (nI hh), .int (nI (rnV (rnS sd) % (10))), .int (3 : Int32), .int s4, v5, v6, v7, v8, v9, v10]))] ++ ((CWB cy u qo (stW st f b) qb B) ++ (Y0 ++ G))) H := hP
    have hD : va_D A ([(r, .inr (9, [.int (rnS (rnS (rnS sd)))])), (a, .inr (10, [.int (nI w), .int (nI hh), .int (nI (rnV (rnS sd) % (10))), .int (3 : Int32), .int s4, v5, v6, v7, v8, v9, v10]))] ++ ((CWB cy u qo (stW st f b) qb B) ++ (Y0 ++ G))) := hD
    refine lv_iadd hx hb dL_randomShow_360 ?_
    rw [show ((1 : Int32) + (nI (rnV (rnS (rnS sd)) % (6)))) = (nI (1 + rnV (rnS (rnS sd)) % 6)) from nI_add 1 _]
    refine va_put (D := D) (ci := 10) (v := .int (nI (1 + rnV (rnS (rnS sd)) % 6))) (ty := .int) (C := RX10) (T := TX10) (N := 11) hx hb hts inX10 tyX10 tyX10_ok nmX10 hown hK hP hD hS 1 rfl rfl 3 (by decide) f161 (fun _ h9 => h9) (by decide +kernel) rfl rfl rfl (Nat.le_of_ble_eq_true rfl) dL_randomShow_361 (fun H locs hP hD hS => ?_)
    have hP : va_P D vwCl ([(r, .inr (9, [.int (rnS (rnS (rnS sd)))])), (a, .inr (10, [.int (nI w), .int (nI hh), .int (nI (rnV (rnS sd) % (10))), .int (nI (1 + rnV (rnS (rnS sd)) % 6)), .int s4, v5, v6, v7, v8, v9, v10]))] ++ ((CWB cy u qo (stW st f b) qb B) ++ (Y0 ++ G))) H := hP
    have hD : va_D A ([(r, .inr (9, [.int (rnS (rnS (rnS sd)))])), (a, .inr (10, [.int (nI w), .int (nI hh), .int (nI (rnV (rnS sd) % (10))), .int (nI (1 + rnV (rnS (rnS sd)) % 6)), .int s4, v5, v6, v7, v8, v9, v10]))] ++ ((CWB cy u qo (stW st f b) qb B) ++ (Y0 ++ G))) := hD
    refine lv_aload_n hx hb dL_randomShow_364 rfl (lv_at hl 2 rfl) ?_
    refine lv_aload_n hx hb dL_randomShow_365 rfl (lv_at hl 3 rfl) ?_
    obtain ⟨a2, hRa2, hTa2⟩ := hL.2.2.2.2.2.2.2 ("PeepBoxLaw", 163, "reach", [114, 101, 97, 99, 104]) (by decide +kernel)
    refine va_ldcS hx hb hown hRa2 dL_randomShow_366 ?_
    refine lv_iconst (v := 1) hx hb dL_randomShow_368 (by decide) ?_
    refine kn_newi (N' := 1) hx hb aI hK hP hD hS hA (by decide) (by decide) (by decide) (by show (c0 + 1) ≤ 4000; omega) (by show (s0 + 1) ≤ 300000; omega) dL_randomShow_369 (fun q1 H hP hD hS => ?_)
    have hP := va_P.swap hP
    have hD := va_D.swap hD
    have hP : va_P D vwCl ([(r, .inr (9, [.int (rnS (rnS (rnS sd)))])), (a, .inr (10, [.int (nI w), .int (nI hh), .int (nI (rnV (rnS sd) % (10))), .int (nI (1 + rnV (rnS (rnS sd)) % 6)), .int s4, v5, v6, v7, v8, v9, v10])), (q1, .inl (cy 0, 1, .inl (fun _ => (0 : Int32))))] ++ ((CWB cy u qo (stW st f b) qb B) ++ (Y0 ++ G))) H := hP
    have hD : va_D A ([(r, .inr (9, [.int (rnS (rnS (rnS sd)))])), (a, .inr (10, [.int (nI w), .int (nI hh), .int (nI (rnV (rnS sd) % (10))), .int (nI (1 + rnV (rnS (rnS sd)) % 6)), .int s4, v5, v6, v7, v8, v9, v10])), (q1, .inl (cy 0, 1, .inl (fun _ => (0 : Int32))))] ++ ((CWB cy u qo (stW st f b) qb B) ++ (Y0 ++ G))) := hD
    refine lv_dup hx hb dL_randomShow_371 rfl ?_
    refine lv_iconst (v := 0) hx hb dL_randomShow_372 (by decide) ?_
    refine lv_aload_n hx hb dL_randomShow_373 rfl (lv_at hl 1 rfl) ?_
    refine va_get (D := D) (ci := 10) (v := .int (nI (rnV (rnS sd) % (10)))) (C := RX10) (T := TX10) (N := 11) hx hb hts inX10 hown hK hP 1 rfl rfl 2 (by decide) f158 (fun _ h9 => h9) rfl dL_randomShow_374 ?_
    rw [show (nI (rnV (rnS sd) % (10))) = (nI (rnV (rnS sd) % 10)) from rfl]
    refine va_iast hx hb hK hP hD hS 2 0 rfl rfl (vin_of (by decide)) dL_randomShow_377 (fun H locs hP hD hS => ?_)
    have hP : va_P D vwCl ([(r, .inr (9, [.int (rnS (rnS (rnS sd)))])), (a, .inr (10, [.int (nI w), .int (nI hh), .int (nI (rnV (rnS sd) % (10))), .int (nI (1 + rnV (rnS (rnS sd)) % 6)), .int s4, v5, v6, v7, v8, v9, v10])), (q1, .inl (cy 0, 1, .inl (upd (fun _ => (0 : Int32)) ((0 : Int32)).toNatClampNeg (nI (rnV (rnS sd) % 10)))))] ++ ((CWB cy u qo (stW st f b) qb B) ++ (Y0 ++ G))) H := hP
    have hD : va_D A ([(r, .inr (9, [.int (rnS (rnS (rnS sd)))])), (a, .inr (10, [.int (nI w), .int (nI hh), .int (nI (rnV (rnS sd) % (10))), .int (nI (1 + rnV (rnS (rnS sd)) % 6)), .int s4, v5, v6, v7, v8, v9, v10])), (q1, .inl (cy 0, 1, .inl (upd (fun _ => (0 : Int32)) ((0 : Int32)).toNatClampNeg (nI (rnV (rnS sd) % 10)))))] ++ ((CWB cy u qo (stW st f b) qb B) ++ (Y0 ++ G))) := hD
    have hP := hP.perm (pm_last (P := [(r, .inr (9, [.int (rnS (rnS (rnS sd)))])), (a, .inr (10, [.int (nI w), .int (nI hh), .int (nI (rnV (rnS sd) % (10))), .int (nI (1 + rnV (rnS (rnS sd)) % 6)), .int s4, v5, v6, v7, v8, v9, v10]))]) (Q := [(q1, .inl (cy 0, 1, .inl (upd (fun _ => (0 : Int32)) ((0 : Int32)).toNatClampNeg (nI (rnV (rnS sd) % 10)))))]) (B := (CWB cy u qo (stW st f b) qb B)) (Z := (Y0 ++ G)))
    have hD := hD.perm (pm_last (P := [(r, .inr (9, [.int (rnS (rnS (rnS sd)))])), (a, .inr (10, [.int (nI w), .int (nI hh), .int (nI (rnV (rnS sd) % (10))), .int (nI (1 + rnV (rnS (rnS sd)) % 6)), .int s4, v5, v6, v7, v8, v9, v10]))]) (Q := [(q1, .inl (cy 0, 1, .inl (upd (fun _ => (0 : Int32)) ((0 : Int32)).toNatClampNeg (nI (rnV (rnS sd) % 10)))))]) (B := (CWB cy u qo (stW st f b) qb B)) (Z := (Y0 ++ G)))
    rw [CWN_eq] at hP hD
    obtain ⟨f2, b2, B2, T2, M2⟩ := k_L_writeAll (l := l) (D := D) (cy := cy) (s := ([114, 101, 97, 99, 104] : List Int32)) (p3 := (upd (fun _ => (0 : Int32)) ((0 : Int32)).toNatClampNeg (nI (rnV (rnS sd) % 10)))) u qo qb H.size (stW st f b) a2 q1 1 (fun _ => rnV (rnS sd) % 10) (ascS_lit (by decide)) (fun j hj => by obtain rfl : j = 0 := (by omega); exact ⟨rfl, by omega⟩) (by decide) (by show _ + 5 + 5 * 1 ≤ 780; omega) T
    refine kq_v (va_runS (As := [.ref qo, .ref qb, .ref a2, .ref q1]) (rest := []) ⟨hx, hb, hml, hown, hts⟩ M2 (va_cwS 4 hts gL_randomShow_L_writeAll rfl rfl rfl kd_L_writeAll ⟨Nat.le_of_ble_eq_true rfl, Nat.le_of_ble_eq_true rfl⟩) ⟨kP_blind (ESL_ok D cy ([114, 101, 97, 99, 104] : List Int32) a2) D _ _ _, kqStartL hEL hP hD hS hA (kT_qo hTa2 hD hS hA) _⟩ rfl rfl hl.1 rfl (lv_room (Nat.le_of_ble_eq_true rfl)) dL_randomShow_378 ⟨by show (c0 + 1) + 0 ≤ 4000; omega, by show (s0 + 1) + 0 ≤ 300000; omega⟩) hP hD hS hA (fun H locs hP hD hS => ?_)
    rw [stW_stW] at hP hD
    rw [← CWN_eq] at hP hD
    have hP := hP.perm (pm_garb (P := [(r, .inr (9, [.int (rnS (rnS (rnS sd)))])), (a, .inr (10, [.int (nI w), .int (nI hh), .int (nI (rnV (rnS sd) % (10))), .int (nI (1 + rnV (rnS (rnS sd)) % 6)), .int s4, v5, v6, v7, v8, v9, v10]))]) (Q := [(q1, .inl (cy 0, 1, .inl (upd (fun _ => (0 : Int32)) ((0 : Int32)).toNatClampNeg (nI (rnV (rnS sd) % 10)))))]) (B := (CWB cy u qo (stW st f2 b2) qb B2)) (Z := (Y0 ++ G)))
    have hD := hD.perm (pm_garb (P := [(r, .inr (9, [.int (rnS (rnS (rnS sd)))])), (a, .inr (10, [.int (nI w), .int (nI hh), .int (nI (rnV (rnS sd) % (10))), .int (nI (1 + rnV (rnS (rnS sd)) % 6)), .int s4, v5, v6, v7, v8, v9, v10]))]) (Q := [(q1, .inl (cy 0, 1, .inl (upd (fun _ => (0 : Int32)) ((0 : Int32)).toNatClampNeg (nI (rnV (rnS sd) % 10)))))]) (B := (CWB cy u qo (stW st f2 b2) qb B2)) (Z := (Y0 ++ G)))
    have hP : va_P D vwCl ([(r, .inr (9, [.int (rnS (rnS (rnS sd)))])), (a, .inr (10, [.int (nI w), .int (nI hh), .int (nI (rnV (rnS sd) % (10))), .int (nI (1 + rnV (rnS (rnS sd)) % 6)), .int s4, v5, v6, v7, v8, v9, v10]))] ++ ((CWB cy u qo (stW st f2 b2) qb B2) ++ ((Y0 ++ G) ++ [(q1, .inl (cy 0, 1, .inl (upd (fun _ => (0 : Int32)) ((0 : Int32)).toNatClampNeg (nI (rnV (rnS sd) % 10)))))]))) H := hP
    have hD : va_D A ([(r, .inr (9, [.int (rnS (rnS (rnS sd)))])), (a, .inr (10, [.int (nI w), .int (nI hh), .int (nI (rnV (rnS sd) % (10))), .int (nI (1 + rnV (rnS (rnS sd)) % 6)), .int s4, v5, v6, v7, v8, v9, v10]))] ++ ((CWB cy u qo (stW st f2 b2) qb B2) ++ ((Y0 ++ G) ++ [(q1, .inl (cy 0, 1, .inl (upd (fun _ => (0 : Int32)) ((0 : Int32)).toNatClampNeg (nI (rnV (rnS sd) % 10)))))]))) := hD
    refine lv_aload_n hx hb dL_randomShow_381 rfl (lv_at hl 2 rfl) ?_
    refine lv_aload_n hx hb dL_randomShow_382 rfl (lv_at hl 3 rfl) ?_
    obtain ⟨a3, hRa3, hTa3⟩ := hL.2.2.2.2.2.2.2 ("PeepBoxLaw", 164, ";length", [59, 108, 101, 110, 103, 116, 104]) (by decide +kernel)
    refine va_ldcS hx hb hown hRa3 dL_randomShow_383 ?_
    refine lv_iconst (v := 1) hx hb dL_randomShow_385 (by decide) ?_
    refine kn_newi (N' := 1) hx hb aI hK hP hD hS hA (by decide) (by decide) (by decide) (by show ((c0 + 1) + 1) ≤ 4000; omega) (by show ((s0 + 1) + 1) ≤ 300000; omega) dL_randomShow_386 (fun q3 H hP hD hS => ?_)
    have hP := va_P.swap hP
    have hD := va_D.swap hD
    have hP : va_P D vwCl ([(r, .inr (9, [.int (rnS (rnS (rnS sd)))])), (a, .inr (10, [.int (nI w), .int (nI hh), .int (nI (rnV (rnS sd) % (10))), .int (nI (1 + rnV (rnS (rnS sd)) % 6)), .int s4, v5, v6, v7, v8, v9, v10])), (q3, .inl (cy 0, 1, .inl (fun _ => (0 : Int32))))] ++ ((CWB cy u qo (stW st f2 b2) qb B2) ++ ((Y0 ++ G) ++ [(q1, .inl (cy 0, 1, .inl (upd (fun _ => (0 : Int32)) ((0 : Int32)).toNatClampNeg (nI (rnV (rnS sd) % 10)))))]))) H := hP
    have hD : va_D A ([(r, .inr (9, [.int (rnS (rnS (rnS sd)))])), (a, .inr (10, [.int (nI w), .int (nI hh), .int (nI (rnV (rnS sd) % (10))), .int (nI (1 + rnV (rnS (rnS sd)) % 6)), .int s4, v5, v6, v7, v8, v9, v10])), (q3, .inl (cy 0, 1, .inl (fun _ => (0 : Int32))))] ++ ((CWB cy u qo (stW st f2 b2) qb B2) ++ ((Y0 ++ G) ++ [(q1, .inl (cy 0, 1, .inl (upd (fun _ => (0 : Int32)) ((0 : Int32)).toNatClampNeg (nI (rnV (rnS sd) % 10)))))]))) := hD
    refine lv_dup hx hb dL_randomShow_388 rfl ?_
    refine lv_iconst (v := 0) hx hb dL_randomShow_389 (by decide) ?_
    refine lv_aload_n hx hb dL_randomShow_390 rfl (lv_at hl 1 rfl) ?_
    refine va_get (D := D) (ci := 10) (v := .int (nI (1 + rnV (rnS (rnS sd)) % 6))) (C := RX10) (T := TX10) (N := 11) hx hb hts inX10 hown hK hP 1 rfl rfl 3 (by decide) f161 (fun _ h9 => h9) rfl dL_randomShow_391 ?_
    refine va_iast hx hb hK hP hD hS 2 0 rfl rfl (vin_of (by decide)) dL_randomShow_394 (fun H locs hP hD hS => ?_)
    have hP : va_P D vwCl ([(r, .inr (9, [.int (rnS (rnS (rnS sd)))])), (a, .inr (10, [.int (nI w), .int (nI hh), .int (nI (rnV (rnS sd) % (10))), .int (nI (1 + rnV (rnS (rnS sd)) % 6)), .int s4, v5, v6, v7, v8, v9, v10])), (q3, .inl (cy 0, 1, .inl (upd (fun _ => (0 : Int32)) ((0 : Int32)).toNatClampNeg (nI (1 + rnV (rnS (rnS sd)) % 6)))))] ++ ((CWB cy u qo (stW st f2 b2) qb B2) ++ ((Y0 ++ G) ++ [(q1, .inl (cy 0, 1, .inl (upd (fun _ => (0 : Int32)) ((0 : Int32)).toNatClampNeg (nI (rnV (rnS sd) % 10)))))]))) H := hP
    have hD : va_D A ([(r, .inr (9, [.int (rnS (rnS (rnS sd)))])), (a, .inr (10, [.int (nI w), .int (nI hh), .int (nI (rnV (rnS sd) % (10))), .int (nI (1 + rnV (rnS (rnS sd)) % 6)), .int s4, v5, v6, v7, v8, v9, v10])), (q3, .inl (cy 0, 1, .inl (upd (fun _ => (0 : Int32)) ((0 : Int32)).toNatClampNeg (nI (1 + rnV (rnS (rnS sd)) % 6)))))] ++ ((CWB cy u qo (stW st f2 b2) qb B2) ++ ((Y0 ++ G) ++ [(q1, .inl (cy 0, 1, .inl (upd (fun _ => (0 : Int32)) ((0 : Int32)).toNatClampNeg (nI (rnV (rnS sd) % 10)))))]))) := hD
    have hP := hP.perm (pm_last (P := [(r, .inr (9, [.int (rnS (rnS (rnS sd)))])), (a, .inr (10, [.int (nI w), .int (nI hh), .int (nI (rnV (rnS sd) % (10))), .int (nI (1 + rnV (rnS (rnS sd)) % 6)), .int s4, v5, v6, v7, v8, v9, v10]))]) (Q := [(q3, .inl (cy 0, 1, .inl (upd (fun _ => (0 : Int32)) ((0 : Int32)).toNatClampNeg (nI (1 + rnV (rnS (rnS sd)) % 6)))))]) (B := (CWB cy u qo (stW st f2 b2) qb B2)) (Z := ((Y0 ++ G) ++ [(q1, .inl (cy 0, 1, .inl (upd (fun _ => (0 : Int32)) ((0 : Int32)).toNatClampNeg (nI (rnV (rnS sd) % 10)))))])))
    have hD := hD.perm (pm_last (P := [(r, .inr (9, [.int (rnS (rnS (rnS sd)))])), (a, .inr (10, [.int (nI w), .int (nI hh), .int (nI (rnV (rnS sd) % (10))), .int (nI (1 + rnV (rnS (rnS sd)) % 6)), .int s4, v5, v6, v7, v8, v9, v10]))]) (Q := [(q3, .inl (cy 0, 1, .inl (upd (fun _ => (0 : Int32)) ((0 : Int32)).toNatClampNeg (nI (1 + rnV (rnS (rnS sd)) % 6)))))]) (B := (CWB cy u qo (stW st f2 b2) qb B2)) (Z := ((Y0 ++ G) ++ [(q1, .inl (cy 0, 1, .inl (upd (fun _ => (0 : Int32)) ((0 : Int32)).toNatClampNeg (nI (rnV (rnS sd) % 10)))))])))
    rw [CWN_eq] at hP hD
    obtain ⟨f4, b4, B4, T4, M4⟩ := k_L_writeAll (l := l) (D := D) (cy := cy) (s := ([59, 108, 101, 110, 103, 116, 104] : List Int32)) (p3 := (upd (fun _ => (0 : Int32)) ((0 : Int32)).toNatClampNeg (nI (1 + rnV (rnS (rnS sd)) % 6)))) u qo qb H.size (stW st f2 b2) a3 q3 1 (fun _ => 1 + rnV (rnS (rnS sd)) % 6) (ascS_lit (by decide)) (fun j hj => by obtain rfl : j = 0 := (by omega); exact ⟨rfl, by omega⟩) (by decide) (by have := numT_len (fun _ => rnV (rnS sd) % 10) 1; rw [List.length_append, List.length_append]; show _ + 5 + _ + 7 + 5 * 1 ≤ 780; omega) T2
    refine kq_v (va_runS (As := [.ref qo, .ref qb, .ref a3, .ref q3]) (rest := []) ⟨hx, hb, hml, hown, hts⟩ M4 (va_cwS 4 hts gL_randomShow_L_writeAll rfl rfl rfl kd_L_writeAll ⟨Nat.le_of_ble_eq_true rfl, Nat.le_of_ble_eq_true rfl⟩) ⟨kP_blind (ESL_ok D cy ([59, 108, 101, 110, 103, 116, 104] : List Int32) a3) D _ _ _, kqStartL hEL hP hD hS hA (kT_qo hTa3 hD hS hA) _⟩ rfl rfl hl.1 rfl (lv_room (Nat.le_of_ble_eq_true rfl)) dL_randomShow_395 ⟨by show ((c0 + 1) + 1) + 0 ≤ 4000; omega, by show ((s0 + 1) + 1) + 0 ≤ 300000; omega⟩) hP hD hS hA (fun H locs hP hD hS => ?_)
    rw [stW_stW] at hP hD
    rw [← CWN_eq] at hP hD
    have hP := hP.perm (pm_garb (P := [(r, .inr (9, [.int (rnS (rnS (rnS sd)))])), (a, .inr (10, [.int (nI w), .int (nI hh), .int (nI (rnV (rnS sd) % (10))), .int (nI (1 + rnV (rnS (rnS sd)) % 6)), .int s4, v5, v6, v7, v8, v9, v10]))]) (Q := [(q3, .inl (cy 0, 1, .inl (upd (fun _ => (0 : Int32)) ((0 : Int32)).toNatClampNeg (nI (1 + rnV (rnS (rnS sd)) % 6)))))]) (B := (CWB cy u qo (stW st f4 b4) qb B4)) (Z := ((Y0 ++ G) ++ [(q1, .inl (cy 0, 1, .inl (upd (fun _ => (0 : Int32)) ((0 : Int32)).toNatClampNeg (nI (rnV (rnS sd) % 10)))))])))
    have hD := hD.perm (pm_garb (P := [(r, .inr (9, [.int (rnS (rnS (rnS sd)))])), (a, .inr (10, [.int (nI w), .int (nI hh), .int (nI (rnV (rnS sd) % (10))), .int (nI (1 + rnV (rnS (rnS sd)) % 6)), .int s4, v5, v6, v7, v8, v9, v10]))]) (Q := [(q3, .inl (cy 0, 1, .inl (upd (fun _ => (0 : Int32)) ((0 : Int32)).toNatClampNeg (nI (1 + rnV (rnS (rnS sd)) % 6)))))]) (B := (CWB cy u qo (stW st f4 b4) qb B4)) (Z := ((Y0 ++ G) ++ [(q1, .inl (cy 0, 1, .inl (upd (fun _ => (0 : Int32)) ((0 : Int32)).toNatClampNeg (nI (rnV (rnS sd) % 10)))))])))
    have hP : va_P D vwCl ([(r, .inr (9, [.int (rnS (rnS (rnS sd)))])), (a, .inr (10, [.int (nI w), .int (nI hh), .int (nI (rnV (rnS sd) % (10))), .int (nI (1 + rnV (rnS (rnS sd)) % 6)), .int s4, v5, v6, v7, v8, v9, v10]))] ++ ((CWB cy u qo (stW st f4 b4) qb B4) ++ (((Y0 ++ G) ++ [(q1, .inl (cy 0, 1, .inl (upd (fun _ => (0 : Int32)) ((0 : Int32)).toNatClampNeg (nI (rnV (rnS sd) % 10)))))]) ++ [(q3, .inl (cy 0, 1, .inl (upd (fun _ => (0 : Int32)) ((0 : Int32)).toNatClampNeg (nI (1 + rnV (rnS (rnS sd)) % 6)))))]))) H := hP
    have hD : va_D A ([(r, .inr (9, [.int (rnS (rnS (rnS sd)))])), (a, .inr (10, [.int (nI w), .int (nI hh), .int (nI (rnV (rnS sd) % (10))), .int (nI (1 + rnV (rnS (rnS sd)) % 6)), .int s4, v5, v6, v7, v8, v9, v10]))] ++ ((CWB cy u qo (stW st f4 b4) qb B4) ++ (((Y0 ++ G) ++ [(q1, .inl (cy 0, 1, .inl (upd (fun _ => (0 : Int32)) ((0 : Int32)).toNatClampNeg (nI (rnV (rnS sd) % 10)))))]) ++ [(q3, .inl (cy 0, 1, .inl (upd (fun _ => (0 : Int32)) ((0 : Int32)).toNatClampNeg (nI (1 + rnV (rnS (rnS sd)) % 6)))))]))) := hD
    refine lv_aload_n hx hb dL_randomShow_398 rfl (lv_at hl 2 rfl) ?_
    refine lv_aload_n hx hb dL_randomShow_399 rfl (lv_at hl 3 rfl) ?_
    obtain ⟨a4, hRa4, hTa4⟩ := hL.2.2.2.2.2.2.2 ("PeepBoxLaw", 126, ";", [59]) (by decide +kernel)
    refine va_ldcS hx hb hown hRa4 dL_randomShow_400 ?_
    obtain ⟨f5, b5, B5, T5, M5⟩ := k_L_write (l := l) (D := D) (cy := cy) (s := ([59] : List Int32)) u qo qb H.size (stW st f4 b4) a4 (ascS_lit (by decide)) (by have := numT_len (fun _ => rnV (rnS sd) % 10) 1; have := numT_len (fun _ => 1 + rnV (rnS (rnS sd)) % 6) 1; rw [List.length_append, List.length_append, List.length_append, List.length_append]; show _ + 5 + _ + 7 + _ + 1 ≤ 780; omega) T4
    refine kq_v (va_runS (As := [.ref qo, .ref qb, .ref a4]) (rest := []) ⟨hx, hb, hml, hown, hts⟩ M5 (va_cwS 3 hts gL_randomShow_L_write rfl rfl rfl kd_L_write ⟨Nat.le_of_ble_eq_true rfl, Nat.le_of_ble_eq_true rfl⟩) ⟨kP_blind (ES_ok D cy ([59] : List Int32) a4) D _ _ _, kqStartS hE hP hD hS hA (kT_qo hTa4 hD hS hA) _⟩ rfl rfl hl.1 rfl (lv_room (Nat.le_of_ble_eq_true rfl)) dL_randomShow_402 ⟨by show ((c0 + 1) + 1) + 0 ≤ 4000; omega, by show ((s0 + 1) + 1) + 0 ≤ 300000; omega⟩) hP hD hS hA (fun H locs hP hD hS => ?_)
    rw [stW_stW] at hP hD
    refine W.widen (k := c0 + 10) (n := s0 + 10) (by omega) (by omega) ?_
    rw [List.append_assoc Y0, List.append_assoc] at hP hD
    exact K _ _ _ _ H _ ls (by unfold reT; rw [if_pos hc]; simpa only [List.append_assoc] using T5) (by unfold reS reR reL; rw [if_pos hc, if_pos hc, if_pos hc]; exact hP) (by unfold reS reR reL; rw [if_pos hc, if_pos hc, if_pos hc]; exact hD) hS (lv_sub hl [0, 1, 2, 3, 4] rfl)
  · skip
    refine lv_if_ne (tgt := 405) hx hb dL_randomShow_339 (by decide) (fun _ => ?_) (fun h1 => absurd h1 (fun z => hc ((nI_eq (b := 0) (by omega) (by decide)).mp z)))
    refine W.widen (k := c0 + 10) (n := s0 + 10) (by omega) (by omega) ?_
    exact K _ _ _ G H _ ls (by unfold reT; rw [if_neg hc, List.append_nil]; exact T) (by unfold reS reR reL; rw [if_neg hc, if_neg hc, if_neg hc]; exact hP) (by unfold reS reR reL; rw [if_neg hc, if_neg hc, if_neg hc]; exact hD) hS (lv_sub hl [0, 1, 2, 3, 4] rfl)
