/-! Show.copy (cp.py) -/
theorem fi_congr {r r2 : Nat → Nat} {i : Nat} (h : ∀ j, j < i → r j = r2 j) : (fun j => if j < i then some (r j) else none) = fun j => if j < i then some (r2 j) else none := by
  funext j
  by_cases c : j < i
  · rw [if_pos c, if_pos c, h j c]
  · rw [if_neg c, if_neg c]
theorem kfitI {c : ClassId} {n : Nat} {f : Nat → Int32} {i : Nat} {v : Value} (h : (vp_cell c (n, .inl f)).slots[i]? = some v) : fits .int v = true := by
  have h1 : (arrV c n (fun j => .int (f j))).slots[i]? = some v := h
  by_cases hi : i < n
  · rw [arrV_read _ _ hi] at h1
    rw [← Option.some.inj h1]; rfl
  · have h2 : (arrV c n (fun j => .int (f j))).slots.size = n := arrV_size _ _ _
    rw [Array.getElem?_eq_none (by omega)] at h1
    cases h1
/-- a copy's cells: the show, its pulls, its guests' row, its variables, its guests -/
abbrev cpE (cy : Nat → ClassId) (G : LG) (qP qH : Nat) (vT : Value) (q : Nat) (u r : Nat → Nat) : va_W := [(q, showE G qP (u 0) qH (u 1) vT (u 2)), (u 0, .inl (cy 0, shZ G 2, .inl (shP G))), (u 1, refsE (cy 8) (shZ G 4) r), (u 2, .inl (cy 2, 4, .inr (.inl (fun _ => 0))))] ++ rl (shZ G 4) r (fun k => guestE (shG G k))
theorem cp_mem {x0 x1 x2 x3 : Nat × va_E} {L : va_W} : ∀ z ∈ [x0, x2, x3, x1] ++ L, z ∈ [x0, x1, x2, x3] ++ L := by
  intro z hz
  simp only [List.mem_append, List.mem_cons, List.not_mem_nil, or_false] at hz ⊢
  rcases hz with (h | h | h | h) | h <;> simp [h]
theorem cp_D {A : Nat → Prop} {x0 x1 x2 x3 : Nat × va_E} {L : va_W} (h : va_D A ([x0, x1, x2, x3] ++ L)) : va_D A ([x0, x2, x3, x1] ++ L) := by
  have g : ∀ (i : Nat) (q : Nat × va_E), ([x0, x2, x3, x1] ++ L)[i]? = some q → ([x0, x1, x2, x3] ++ L)[if i = 1 then 2 else if i = 2 then 3 else if i = 3 then 1 else i]? = some q := by
    intro i q hq
    match i with
    | 0 => exact hq
    | 1 => exact hq
    | 2 => exact hq
    | 3 => exact hq
    | i + 4 => exact hq
  refine ⟨fun i j p q hi hj e => ?_, fun k q hk => h.2 _ q (g k q hk)⟩
  have := h.1 _ _ p q (g i p hi) (g j q hj) e
  (repeat' split at this) <;> omega
theorem kd_X10_copy : yX10_copy.cls = RX10 ∧ yX10_copy.cls ≠ "java/lang/invoke/MethodHandle" ∧ yX10_copy.cls ≠ "java/lang/invoke/VarHandle" ∧ (parseMethodDescriptor yX10_copy.desc).map (fun d => d.parameters.length) = some 0 := by decide +kernel
set_option maxHeartbeats 4000000 in
set_option maxRecDepth 100000 in
theorem c_X10_copy {l : Launch} {D : va_G} {cy : Nat → ClassId} (G : LG) (a qV qP qU qH qG sz : Nat) (vT : Value) (rP rH rG : Nat → Nat) (rL : Nat → Nat → Nat) (rN : Nat → Nat) (hN2 : shZ G 2 ≤ 5) (hN4 : shZ G 4 ≤ 24) : Met l yX10_copy wsX10_copy ({ frames := 5, cells := 40, slots := 300, locals := 160 } : Room) (kP (EX D cy G a qV qP qU qH qG vT rP rH rG rL rN) D [.ref a] (([] : va_W)) sz) (kQR D (fun (_ : (Nat → Nat) × (Nat → Nat)) (_ : Nat) => True) (fun u r => cpE cy G qP qH vT r u.1 u.2) (va_A (([] : va_W)) sz)) 40 300 (va_A (([] : va_W)) sz) := by
  refine kMet (y := yX10_copy) (av := [.ref a]) (cc := cX10_copy) (maxL := 3) (ret := some (.object "PeepBoxLaw$Show")) (own := RX10) (Qc := fun A9 => (kQR D (fun (_ : (Nat → Nat) × (Nat → Nat)) (_ : Nat) => True) (fun u r => cpE cy G qP qH vT r u.1 u.2) A9)) (by decide) rfl rfl (Nat.le_of_ble_eq_true rfl) ?_
  intro p e s m args below meth c A hx hb hr hts hown hml hlocks hname hE hP hD hA hsz ls hl
  have hEX := hE
  obtain ⟨hEW, g0, g1, g2, g3, g4, g5, g6, g7, g8, g9, g10⟩ := hE
  have hEL := hEW.1
  have hE := hEL.1
  have hL := hEL.2
  have hK := hE.1
  have hl : lv_has ls 3 [(0, .ref a)] := hl
  have hS : va_S A s.heap s.heap [] := va_S.rf
  have k8 := hts (.classLink RX10 8 RX10) (by decide +kernel)
  have nX10 := hts (.instantiable RX10 11) (by decide +kernel)
  have iRX10 := hts (.initialized RX10) (by decide +kernel)
  have inX10 : ∀ w ∈ wsX100, w ∈ wsX10_copy := by decide +kernel
  have l47 := hts (.methodLink RX10 47 yX10_init) (by decide +kernel)
  have imX10_init := hts (.instanceMethod yX10_init) (by decide +kernel)
  have f7 := hts (.fieldLink RX10 7 "PeepBoxLaw$Show" "width" "I") (by decide +kernel)
  have f13 := hts (.fieldLink RX10 13 "PeepBoxLaw$Show" "height" "I") (by decide +kernel)
  have f16 := hts (.fieldLink RX10 16 "PeepBoxLaw$Show" "reach" "I") (by decide +kernel)
  have f19 := hts (.fieldLink RX10 19 "PeepBoxLaw$Show" "length" "I") (by decide +kernel)
  have f48 := hts (.fieldLink RX10 48 "PeepBoxLaw$Show" "time" "I") (by decide +kernel)
  have f24 := hts (.fieldLink RX10 24 "PeepBoxLaw$Show" "planes" "[[Ljava/lang/String;") (by decide +kernel)
  have f28 := hts (.fieldLink RX10 28 "PeepBoxLaw$Show" "pulls" "[I") (by decide +kernel)
  have lk := hts (.methodLink RX10 51 ⟨"[I", "clone", "()Ljava/lang/Object;"⟩) (by decide +kernel)
  have sm := hts (.sameMethod "[I" "java/lang/Object" "clone" "()Ljava/lang/Object;") (by decide +kernel)
  have nt := hts (.native ⟨"java/lang/Object", "clone", "()Ljava/lang/Object;"⟩) (by decide +kernel)
  have ist := hts (.instanceMethod ⟨"java/lang/Object", "clone", "()Ljava/lang/Object;"⟩) (by decide +kernel)
  have sl := hts (.selects "[I" ⟨"[I", "clone", "()Ljava/lang/Object;"⟩ ⟨"java/lang/Object", "clone", "()Ljava/lang/Object;"⟩) (by decide +kernel)
  have clI := hts (.classLink RX10 32 "[I") (by decide +kernel)
  have f33 := hts (.fieldLink RX10 33 "PeepBoxLaw$Show" "holes" "[[I") (by decide +kernel)
  have f39 := hts (.fieldLink RX10 39 "PeepBoxLaw$Show" "guests" "[LPeepBoxLaw$Guest;") (by decide +kernel)
  have kl37 := hts (.classLink RX10 37 "PeepBoxLaw$Guest") (by decide +kernel)
  have f59 := hts (.fieldLink RX10 59 "PeepBoxLaw$Show" "term" "LPeepBoxLaw$Node;") (by decide +kernel)
  obtain ⟨QQ, hQQ⟩ : ∃ Q9, Q9 = MQ below (kQR D (fun (_ : (Nat → Nat) × (Nat → Nat)) (_ : Nat) => True) (fun u r => cpE cy G qP qH vT r u.1 u.2) A) args s 40 300 A := ⟨_, rfl⟩
  rw [← hQQ]
  obtain ⟨H, hH⟩ : ∃ H9, H9 = s.heap := ⟨_, rfl⟩
  have hP : va_P D vwCl (([] : va_W)) H := by rw [hH]; exact hP
  have hS : va_S A s.heap H [] := by rw [hH]; exact hS
  rw [← hH]
  refine va_new (ci := 10) (fs := [.int 0, .int 0, .int 0, .int 0, .int 0, .null, .null, .null, .null, .null, .null]) (C := RX10) (T := TX10) (N := 11) hx hb hts inX10 tyX10 tyX10_ok hown k8 nX10 iRX10 hK hP hD hS hA rfl (fun j hj => by rcases (show j = 0 ∨ j = 1 ∨ j = 2 ∨ j = 3 ∨ j = 4 ∨ j = 5 ∨ j = 6 ∨ j = 7 ∨ j = 8 ∨ j = 9 ∨ j = 10 by omega) with rfl | rfl | rfl | rfl | rfl | rfl | rfl | rfl | rfl | rfl | rfl <;> rfl) (Nat.le_of_ble_eq_true rfl) (Nat.le_of_ble_eq_true rfl) dX10_copy_0 (fun q H hP hD hS => ?_)
  have hP : va_P D vwCl ([(q, .inr (10, [.int (0 : Int32), .int (0 : Int32), .int (0 : Int32), .int (0 : Int32), .int (0 : Int32), .null, .null, .null, .null, .null, .null]))]) H := hP
  have hD : va_D A ([(q, .inr (10, [.int (0 : Int32), .int (0 : Int32), .int (0 : Int32), .int (0 : Int32), .int (0 : Int32), .null, .null, .null, .null, .null, .null]))]) := hD
  refine lv_dup hx hb dX10_copy_3 rfl ?_
  refine kc_E (va_runI (As := []) (rest := [.ref q]) ⟨hx, hb, hml, hown, hts⟩ (c_X10_init q H.size) (cwI 0 hts gX10_copy_X10_init rfl rfl rfl iRX10 l47 imX10_init rfl kd_X10_init ⟨Nat.le_of_ble_eq_true rfl, Nat.le_of_ble_eq_true rfl⟩) ⟨kP_blind (EW_ok D cy) D _ _ _, kStart (EW_ok D cy) hEW hP hD hS hA [0] rfl rfl _⟩ rfl rfl hl.1 rfl (lv_room (Nat.le_of_ble_eq_true rfl)) dX10_copy_4 ⟨Nat.le_of_ble_eq_true rfl, Nat.le_of_ble_eq_true rfl⟩) hP hD hS hA [0] rfl (fun _ => Nat.le_of_ble_eq_true rfl) (fun u H locs _ hP hD hS => ?_)
  have hP : va_P D vwCl [(q, .inr (10, [.int (4 : Int32), .int (3 : Int32), .int (9 : Int32), .int (3 : Int32), .int (0 : Int32), .ref (u 0), .ref (u 1), .ref (u 2), .ref (u 4), .null, .ref (u 5)])), (u 5, .inl (cy 2, 4, .inr (.inl (fun _ => 0))))] H := hP.sub [0, 6] rfl
  have hD : va_D A [(q, .inr (10, [.int (4 : Int32), .int (3 : Int32), .int (9 : Int32), .int (3 : Int32), .int (0 : Int32), .ref (u 0), .ref (u 1), .ref (u 2), .ref (u 4), .null, .ref (u 5)])), (u 5, .inl (cy 2, 4, .inr (.inl (fun _ => 0))))] := hD.sub [0, 6] rfl rfl
  refine lv_astore_n (lv' := [(1, .ref q), (0, .ref a)]) hx hb dX10_copy_7 rfl hl (by decide) rfl (fun ls hl => ?_)
  refine lv_aload_n hx hb dX10_copy_8 rfl (lv_at hl 0 rfl) ?_
  refine lv_aload_n hx hb dX10_copy_9 rfl (lv_at hl 1 rfl) ?_
  refine va_get (D := D) (ci := 10) (v := .int (nI (shZ G 0))) (C := RX10) (T := TX10) (N := 11) hx hb hts inX10 hown hK (g0.P hS) 0 rfl rfl 0 (by decide) f7 (fun _ h9 => h9) rfl dX10_copy_10 ?_
  refine va_put (D := D) (ci := 10) (v := .int (nI (shZ G 0))) (ty := .int) (C := RX10) (T := TX10) (N := 11) hx hb hts inX10 tyX10 tyX10_ok nmX10 hown hK hP hD hS 0 rfl rfl 0 (by decide) f7 (fun _ h9 => h9) (by decide +kernel) rfl rfl rfl (Nat.le_of_ble_eq_true rfl) dX10_copy_13 (fun H locs hP hD hS => ?_)
  have hP : va_P D vwCl ([(q, .inr (10, [.int (nI (shZ G 0)), .int (3 : Int32), .int (9 : Int32), .int (3 : Int32), .int (0 : Int32), .ref (u 0), .ref (u 1), .ref (u 2), .ref (u 4), .null, .ref (u 5)])), ((u 5), .inl (cy 2, 4, .inr (.inl (fun _ => 0))))]) H := hP
  have hD : va_D A ([(q, .inr (10, [.int (nI (shZ G 0)), .int (3 : Int32), .int (9 : Int32), .int (3 : Int32), .int (0 : Int32), .ref (u 0), .ref (u 1), .ref (u 2), .ref (u 4), .null, .ref (u 5)])), ((u 5), .inl (cy 2, 4, .inr (.inl (fun _ => 0))))]) := hD
  refine lv_aload_n hx hb dX10_copy_16 rfl (lv_at hl 0 rfl) ?_
  refine lv_aload_n hx hb dX10_copy_17 rfl (lv_at hl 1 rfl) ?_
  refine va_get (D := D) (ci := 10) (v := .int (nI (shZ G 1))) (C := RX10) (T := TX10) (N := 11) hx hb hts inX10 hown hK (g0.P hS) 0 rfl rfl 1 (by decide) f13 (fun _ h9 => h9) rfl dX10_copy_18 ?_
  refine va_put (D := D) (ci := 10) (v := .int (nI (shZ G 1))) (ty := .int) (C := RX10) (T := TX10) (N := 11) hx hb hts inX10 tyX10 tyX10_ok nmX10 hown hK hP hD hS 0 rfl rfl 1 (by decide) f13 (fun _ h9 => h9) (by decide +kernel) rfl rfl rfl (Nat.le_of_ble_eq_true rfl) dX10_copy_21 (fun H locs hP hD hS => ?_)
  have hP : va_P D vwCl ([(q, .inr (10, [.int (nI (shZ G 0)), .int (nI (shZ G 1)), .int (9 : Int32), .int (3 : Int32), .int (0 : Int32), .ref (u 0), .ref (u 1), .ref (u 2), .ref (u 4), .null, .ref (u 5)])), ((u 5), .inl (cy 2, 4, .inr (.inl (fun _ => 0))))]) H := hP
  have hD : va_D A ([(q, .inr (10, [.int (nI (shZ G 0)), .int (nI (shZ G 1)), .int (9 : Int32), .int (3 : Int32), .int (0 : Int32), .ref (u 0), .ref (u 1), .ref (u 2), .ref (u 4), .null, .ref (u 5)])), ((u 5), .inl (cy 2, 4, .inr (.inl (fun _ => 0))))]) := hD
  refine lv_aload_n hx hb dX10_copy_24 rfl (lv_at hl 0 rfl) ?_
  refine lv_aload_n hx hb dX10_copy_25 rfl (lv_at hl 1 rfl) ?_
  refine va_get (D := D) (ci := 10) (v := .int (shI G 0)) (C := RX10) (T := TX10) (N := 11) hx hb hts inX10 hown hK (g0.P hS) 0 rfl rfl 2 (by decide) f16 (fun _ h9 => h9) rfl dX10_copy_26 ?_
  refine va_put (D := D) (ci := 10) (v := .int (shI G 0)) (ty := .int) (C := RX10) (T := TX10) (N := 11) hx hb hts inX10 tyX10 tyX10_ok nmX10 hown hK hP hD hS 0 rfl rfl 2 (by decide) f16 (fun _ h9 => h9) (by decide +kernel) rfl rfl rfl (Nat.le_of_ble_eq_true rfl) dX10_copy_29 (fun H locs hP hD hS => ?_)
  have hP : va_P D vwCl ([(q, .inr (10, [.int (nI (shZ G 0)), .int (nI (shZ G 1)), .int (shI G 0), .int (3 : Int32), .int (0 : Int32), .ref (u 0), .ref (u 1), .ref (u 2), .ref (u 4), .null, .ref (u 5)])), ((u 5), .inl (cy 2, 4, .inr (.inl (fun _ => 0))))]) H := hP
  have hD : va_D A ([(q, .inr (10, [.int (nI (shZ G 0)), .int (nI (shZ G 1)), .int (shI G 0), .int (3 : Int32), .int (0 : Int32), .ref (u 0), .ref (u 1), .ref (u 2), .ref (u 4), .null, .ref (u 5)])), ((u 5), .inl (cy 2, 4, .inr (.inl (fun _ => 0))))]) := hD
  refine lv_aload_n hx hb dX10_copy_32 rfl (lv_at hl 0 rfl) ?_
  refine lv_aload_n hx hb dX10_copy_33 rfl (lv_at hl 1 rfl) ?_
  refine va_get (D := D) (ci := 10) (v := .int (shI G 1)) (C := RX10) (T := TX10) (N := 11) hx hb hts inX10 hown hK (g0.P hS) 0 rfl rfl 3 (by decide) f19 (fun _ h9 => h9) rfl dX10_copy_34 ?_
  refine va_put (D := D) (ci := 10) (v := .int (shI G 1)) (ty := .int) (C := RX10) (T := TX10) (N := 11) hx hb hts inX10 tyX10 tyX10_ok nmX10 hown hK hP hD hS 0 rfl rfl 3 (by decide) f19 (fun _ h9 => h9) (by decide +kernel) rfl rfl rfl (Nat.le_of_ble_eq_true rfl) dX10_copy_37 (fun H locs hP hD hS => ?_)
  have hP : va_P D vwCl ([(q, .inr (10, [.int (nI (shZ G 0)), .int (nI (shZ G 1)), .int (shI G 0), .int (shI G 1), .int (0 : Int32), .ref (u 0), .ref (u 1), .ref (u 2), .ref (u 4), .null, .ref (u 5)])), ((u 5), .inl (cy 2, 4, .inr (.inl (fun _ => 0))))]) H := hP
  have hD : va_D A ([(q, .inr (10, [.int (nI (shZ G 0)), .int (nI (shZ G 1)), .int (shI G 0), .int (shI G 1), .int (0 : Int32), .ref (u 0), .ref (u 1), .ref (u 2), .ref (u 4), .null, .ref (u 5)])), ((u 5), .inl (cy 2, 4, .inr (.inl (fun _ => 0))))]) := hD
  refine lv_aload_n hx hb dX10_copy_40 rfl (lv_at hl 0 rfl) ?_
  refine lv_aload_n hx hb dX10_copy_41 rfl (lv_at hl 1 rfl) ?_
  refine va_get (D := D) (ci := 10) (v := .int (shI G 2)) (C := RX10) (T := TX10) (N := 11) hx hb hts inX10 hown hK (g0.P hS) 0 rfl rfl 4 (by decide) f48 (fun _ h9 => h9) rfl dX10_copy_42 ?_
  refine va_put (D := D) (ci := 10) (v := .int (shI G 2)) (ty := .int) (C := RX10) (T := TX10) (N := 11) hx hb hts inX10 tyX10 tyX10_ok nmX10 hown hK hP hD hS 0 rfl rfl 4 (by decide) f48 (fun _ h9 => h9) (by decide +kernel) rfl rfl rfl (Nat.le_of_ble_eq_true rfl) dX10_copy_45 (fun H locs hP hD hS => ?_)
  have hP : va_P D vwCl ([(q, .inr (10, [.int (nI (shZ G 0)), .int (nI (shZ G 1)), .int (shI G 0), .int (shI G 1), .int (shI G 2), .ref (u 0), .ref (u 1), .ref (u 2), .ref (u 4), .null, .ref (u 5)])), ((u 5), .inl (cy 2, 4, .inr (.inl (fun _ => 0))))]) H := hP
  have hD : va_D A ([(q, .inr (10, [.int (nI (shZ G 0)), .int (nI (shZ G 1)), .int (shI G 0), .int (shI G 1), .int (shI G 2), .ref (u 0), .ref (u 1), .ref (u 2), .ref (u 4), .null, .ref (u 5)])), ((u 5), .inl (cy 2, 4, .inr (.inl (fun _ => 0))))]) := hD
  refine lv_aload_n hx hb dX10_copy_48 rfl (lv_at hl 0 rfl) ?_
  refine lv_aload_n hx hb dX10_copy_49 rfl (lv_at hl 1 rfl) ?_
  refine va_get (D := D) (ci := 10) (v := .ref qP) (C := RX10) (T := TX10) (N := 11) hx hb hts inX10 hown hK (g0.P hS) 0 rfl rfl 5 (by decide) f24 (fun _ h9 => h9) rfl dX10_copy_50 ?_
  refine va_put (D := D) (ci := 10) (v := .ref qP) (ty := (.array (.array (.object "java/lang/String")))) (C := RX10) (T := TX10) (N := 11) hx hb hts inX10 tyX10 tyX10_ok nmX10 hown hK hP hD hS 0 rfl rfl 5 (by decide) f24 (fun _ h9 => h9) (by decide +kernel) rfl rfl rfl (Nat.le_of_ble_eq_true rfl) dX10_copy_53 (fun H locs hP hD hS => ?_)
  have hP : va_P D vwCl ([(q, .inr (10, [.int (nI (shZ G 0)), .int (nI (shZ G 1)), .int (shI G 0), .int (shI G 1), .int (shI G 2), .ref qP, .ref (u 1), .ref (u 2), .ref (u 4), .null, .ref (u 5)])), ((u 5), .inl (cy 2, 4, .inr (.inl (fun _ => 0))))]) H := hP
  have hD : va_D A ([(q, .inr (10, [.int (nI (shZ G 0)), .int (nI (shZ G 1)), .int (shI G 0), .int (shI G 1), .int (shI G 2), .ref qP, .ref (u 1), .ref (u 2), .ref (u 4), .null, .ref (u 5)])), ((u 5), .inl (cy 2, 4, .inr (.inl (fun _ => 0))))]) := hD
  refine lv_aload_n hx hb dX10_copy_56 rfl (lv_at hl 0 rfl) ?_
  refine lv_aload_n hx hb dX10_copy_57 rfl (lv_at hl 1 rfl) ?_
  refine va_get (D := D) (ci := 10) (v := .ref qU) (C := RX10) (T := TX10) (N := 11) hx hb hts inX10 hown hK (g0.P hS) 0 rfl rfl 6 (by decide) f28 (fun _ h9 => h9) rfl dX10_copy_58 ?_
  have hnm : s.vm.findClass "[I" = some (cy 0) := (hK.2 0 _ rfl).2
  refine kg_clone hx hb (by rw [hml]; exact hl.1.symm) hown lk sm nt ist sl hL.2.1 hK hP hD hS hA 0 g4 rfl hnm (fun i v hv => kfitI hv) (Nat.le_of_ble_eq_true rfl) (Nat.le_of_ble_eq_true rfl) (Nat.le_of_ble_eq_true rfl) (by show 0 + 11 + 7 + shZ G 2 ≤ 300; omega) dX10_copy_61 (fun x1 H hP hD hS => ?_)
  have hP : va_P D vwCl ([(q, .inr (10, [.int (nI (shZ G 0)), .int (nI (shZ G 1)), .int (shI G 0), .int (shI G 1), .int (shI G 2), .ref qP, .ref (u 1), .ref (u 2), .ref (u 4), .null, .ref (u 5)])), ((u 5), .inl (cy 2, 4, .inr (.inl (fun _ => 0)))), (x1, .inl (cy 0, (shZ G 2), .inl (shP G)))]) H := hP
  have hD : va_D A ([(q, .inr (10, [.int (nI (shZ G 0)), .int (nI (shZ G 1)), .int (shI G 0), .int (shI G 1), .int (shI G 2), .ref qP, .ref (u 1), .ref (u 2), .ref (u 4), .null, .ref (u 5)])), ((u 5), .inl (cy 2, 4, .inr (.inl (fun _ => 0)))), (x1, .inl (cy 0, (shZ G 2), .inl (shP G)))]) := hD
  refine va_castA hx hb hown clI hP 2 rfl hnm dX10_copy_64 ?_
  refine va_put (D := D) (ci := 10) (v := .ref x1) (ty := (.array .int)) (C := RX10) (T := TX10) (N := 11) hx hb hts inX10 tyX10 tyX10_ok nmX10 hown hK hP hD hS 0 rfl rfl 6 (by decide) f28 (fun _ h9 => h9) (by decide +kernel) rfl rfl rfl (Nat.le_of_ble_eq_true rfl) dX10_copy_67 (fun H locs hP hD hS => ?_)
  have hP : va_P D vwCl ([(q, .inr (10, [.int (nI (shZ G 0)), .int (nI (shZ G 1)), .int (shI G 0), .int (shI G 1), .int (shI G 2), .ref qP, .ref x1, .ref (u 2), .ref (u 4), .null, .ref (u 5)])), ((u 5), .inl (cy 2, 4, .inr (.inl (fun _ => 0)))), (x1, .inl (cy 0, (shZ G 2), .inl (shP G)))]) H := hP
  have hD : va_D A ([(q, .inr (10, [.int (nI (shZ G 0)), .int (nI (shZ G 1)), .int (shI G 0), .int (shI G 1), .int (shI G 2), .ref qP, .ref x1, .ref (u 2), .ref (u 4), .null, .ref (u 5)])), ((u 5), .inl (cy 2, 4, .inr (.inl (fun _ => 0)))), (x1, .inl (cy 0, (shZ G 2), .inl (shP G)))]) := hD
  refine lv_aload_n hx hb dX10_copy_70 rfl (lv_at hl 0 rfl) ?_
  refine lv_aload_n hx hb dX10_copy_71 rfl (lv_at hl 1 rfl) ?_
  refine va_get (D := D) (ci := 10) (v := .ref qH) (C := RX10) (T := TX10) (N := 11) hx hb hts inX10 hown hK (g0.P hS) 0 rfl rfl 7 (by decide) f33 (fun _ h9 => h9) rfl dX10_copy_72 ?_
  refine va_put (D := D) (ci := 10) (v := .ref qH) (ty := (.array (.array .int))) (C := RX10) (T := TX10) (N := 11) hx hb hts inX10 tyX10 tyX10_ok nmX10 hown hK hP hD hS 0 rfl rfl 7 (by decide) f33 (fun _ h9 => h9) (by decide +kernel) rfl rfl rfl (Nat.le_of_ble_eq_true rfl) dX10_copy_75 (fun H locs hP hD hS => ?_)
  have hP : va_P D vwCl ([(q, .inr (10, [.int (nI (shZ G 0)), .int (nI (shZ G 1)), .int (shI G 0), .int (shI G 1), .int (shI G 2), .ref qP, .ref x1, .ref qH, .ref (u 4), .null, .ref (u 5)])), ((u 5), .inl (cy 2, 4, .inr (.inl (fun _ => 0)))), (x1, .inl (cy 0, (shZ G 2), .inl (shP G)))]) H := hP
  have hD : va_D A ([(q, .inr (10, [.int (nI (shZ G 0)), .int (nI (shZ G 1)), .int (shI G 0), .int (shI G 1), .int (shI G 2), .ref qP, .ref x1, .ref qH, .ref (u 4), .null, .ref (u 5)])), ((u 5), .inl (cy 2, 4, .inr (.inl (fun _ => 0)))), (x1, .inl (cy 0, (shZ G 2), .inl (shP G)))]) := hD
  refine lv_aload_n hx hb dX10_copy_78 rfl (lv_at hl 0 rfl) ?_
  refine lv_aload_n hx hb dX10_copy_79 rfl (lv_at hl 1 rfl) ?_
  refine va_get (D := D) (ci := 10) (v := .ref qG) (C := RX10) (T := TX10) (N := 11) hx hb hts inX10 hown hK (g0.P hS) 0 rfl rfl 8 (by decide) f39 (fun _ h9 => h9) rfl dX10_copy_80 ?_
  refine va_alen hx hb hK (g7.P hS) 0 8 rfl rfl (v := nI (shZ G 4)) rfl dX10_copy_83 ?_
  refine kn_newr (N' := shZ G 4) 8 hx hb hown kl37 hL.2.2.2.1 hK rfl hP hD hS hA (nI_pos (by omega)) (nI_clamp (by omega)) (by omega) (Nat.le_of_ble_eq_true rfl) (by show 0 + 11 + 7 + shZ G 2 + shZ G 4 ≤ 300; omega) dX10_copy_84 (fun x2 H hP hD hS => ?_)
  have hP : va_P D vwCl ([(q, .inr (10, [.int (nI (shZ G 0)), .int (nI (shZ G 1)), .int (shI G 0), .int (shI G 1), .int (shI G 2), .ref qP, .ref x1, .ref qH, .ref (u 4), .null, .ref (u 5)])), ((u 5), .inl (cy 2, 4, .inr (.inl (fun _ => 0)))), (x1, .inl (cy 0, (shZ G 2), .inl (shP G))), (x2, .inl (cy 8, (shZ G 4), .inr (.inr (.inr (.inr (fun _ => none))))))]) H := hP
  have hD : va_D A ([(q, .inr (10, [.int (nI (shZ G 0)), .int (nI (shZ G 1)), .int (shI G 0), .int (shI G 1), .int (shI G 2), .ref qP, .ref x1, .ref qH, .ref (u 4), .null, .ref (u 5)])), ((u 5), .inl (cy 2, 4, .inr (.inl (fun _ => 0)))), (x1, .inl (cy 0, (shZ G 2), .inl (shP G))), (x2, .inl (cy 8, (shZ G 4), .inr (.inr (.inr (.inr (fun _ => none))))))]) := hD
  refine va_put (D := D) (ci := 10) (v := .ref x2) (ty := (.array (.object "PeepBoxLaw$Guest"))) (C := RX10) (T := TX10) (N := 11) hx hb hts inX10 tyX10 tyX10_ok nmX10 hown hK hP hD hS 0 rfl rfl 8 (by decide) f39 (fun _ h9 => h9) (by decide +kernel) rfl rfl rfl (Nat.le_of_ble_eq_true rfl) dX10_copy_87 (fun H locs hP hD hS => ?_)
  have hP : va_P D vwCl ([(q, .inr (10, [.int (nI (shZ G 0)), .int (nI (shZ G 1)), .int (shI G 0), .int (shI G 1), .int (shI G 2), .ref qP, .ref x1, .ref qH, .ref x2, .null, .ref (u 5)])), ((u 5), .inl (cy 2, 4, .inr (.inl (fun _ => 0)))), (x1, .inl (cy 0, (shZ G 2), .inl (shP G))), (x2, .inl (cy 8, (shZ G 4), .inr (.inr (.inr (.inr (fun _ => none))))))]) H := hP
  have hD : va_D A ([(q, .inr (10, [.int (nI (shZ G 0)), .int (nI (shZ G 1)), .int (shI G 0), .int (shI G 1), .int (shI G 2), .ref qP, .ref x1, .ref qH, .ref x2, .null, .ref (u 5)])), ((u 5), .inl (cy 2, 4, .inr (.inl (fun _ => 0)))), (x1, .inl (cy 0, (shZ G 2), .inl (shP G))), (x2, .inl (cy 8, (shZ G 4), .inr (.inr (.inr (.inr (fun _ => none))))))]) := hD
  refine lv_iconst (v := 0) hx hb dX10_copy_90 (by decide) ?_
  refine lv_istore_n (lv' := [(2, .int (0 : Int32)), (1, .ref q), (0, .ref a)]) hx hb dX10_copy_91 rfl hl (by decide) rfl (fun ls hl => ?_)
  have J : ∀ (n i : Nat) (r : Nat → Nat) (H : Heap) (locs : List Loc) (ls : Array Slot), shZ G 4 - i < n → i ≤ shZ G 4 → va_P D vwCl ([(q, .inr (10, [.int (nI (shZ G 0)), .int (nI (shZ G 1)), .int (shI G 0), .int (shI G 1), .int (shI G 2), .ref qP, .ref x1, .ref qH, .ref x2, .null, .ref (u 5)])), ((u 5), .inl (cy 2, 4, .inr (.inl (fun _ => 0)))), (x1, .inl (cy 0, (shZ G 2), .inl (shP G))), (x2, .inl (cy 8, (shZ G 4), .inr (.inr (.inr (.inr (fun j => if j < i then some (r j) else none))))))] ++ rl i r (fun k => guestE (shG G k))) H → va_D A ([(q, .inr (10, [.int (nI (shZ G 0)), .int (nI (shZ G 1)), .int (shI G 0), .int (shI G 1), .int (shI G 2), .ref qP, .ref x1, .ref qH, .ref x2, .null, .ref (u 5)])), ((u 5), .inl (cy 2, 4, .inr (.inl (fun _ => 0)))), (x1, .inl (cy 0, (shZ G 2), .inl (shP G))), (x2, .inl (cy 8, (shZ G 4), .inr (.inr (.inr (.inr (fun j => if j < i then some (r j) else none))))))] ++ rl i r (fun k => guestE (shG G k))) → va_S A s.heap H locs → lv_has ls 3 [(2, .int (nI i)), (1, .ref q), (0, .ref a)] → W p l e ({ frames := 5, cells := 40, slots := 300, locals := 160 } : Room) s m args below meth c H locs (9 + i) (18 + shZ G 2 + shZ G 4 + 7 * i) QQ (F0 m 92 ls []) := by
    intro n
    induction n with
    | zero => intro i r H locs ls h1; omega
    | succ n ih =>
      intro i r H locs ls h1 h2 hP hD hS hl
      refine lv_iload_n hx hb dX10_copy_92 rfl (lv_at hl 0 rfl) ?_
      refine lv_aload_n hx hb dX10_copy_93 rfl (lv_at hl 2 rfl) ?_
      refine va_get (D := D) (ci := 10) (v := .ref qG) (C := RX10) (T := TX10) (N := 11) hx hb hts inX10 hown hK (g0.P hS) 0 rfl rfl 8 (by decide) f39 (fun _ h9 => h9) rfl dX10_copy_94 ?_
      refine va_alen hx hb hK (g7.P hS) 0 8 rfl rfl (v := nI (shZ G 4)) rfl dX10_copy_97 ?_
      by_cases hc : i < shZ G 4
      · skip
        refine lv_icmp_ge (tgt := 122) hx hb dX10_copy_98 (by decide) (fun h1 => absurd h1 (nI_ge hc (by omega))) (fun _ => ?_)
        refine lv_aload_n hx hb dX10_copy_101 rfl (lv_at hl 1 rfl) ?_
        refine va_get (D := D) (ci := 10) (v := .ref x2) (C := RX10) (T := TX10) (N := 11) hx hb hts inX10 hown hK hP 0 rfl rfl 8 (by decide) f39 (fun _ h9 => h9) rfl dX10_copy_102 ?_
        refine lv_iload_n hx hb dX10_copy_105 rfl (lv_at hl 0 rfl) ?_
        refine lv_aload_n hx hb dX10_copy_106 rfl (lv_at hl 2 rfl) ?_
        refine va_get (D := D) (ci := 10) (v := .ref qG) (C := RX10) (T := TX10) (N := 11) hx hb hts inX10 hown hK (g0.P hS) 0 rfl rfl 8 (by decide) f39 (fun _ h9 => h9) rfl dX10_copy_107 ?_
        refine lv_iload_n hx hb dX10_copy_110 rfl (lv_at hl 0 rfl) ?_
        refine va_aldq hx hb hK (g7.P hS) 0 8 rfl rfl (vp_in_nI hc (by omega)) dX10_copy_111 ?_
        rw [nI_clamp (by omega)]
        show W p l e ({ frames := 5, cells := 40, slots := 300, locals := 160 } : Room) s m args below meth c H _ (9 + i) (18 + shZ G 2 + shZ G 4 + 7 * i) QQ (F0 m 112 ls [.ref (rG i), .int (nI i), .ref x2])
        refine kc_R (va_runV (As := []) (rest := [.int (nI i), .ref x2]) ⟨hx, hb, hml, hown, hts⟩ (c_X7_copy (rG i) H.size (shG G i)) (cwV 0 hts gX10_copy_X7_copy rfl rfl rfl kd_X7_copy ⟨Nat.le_of_ble_eq_true rfl, Nat.le_of_ble_eq_true rfl⟩) ⟨kP_blind (EC_ok D cy (rG i) (shG G i)) D _ _ _, va_recv hK ((g8 i hc).P hS) (ci := 7) (q0 := 0) rfl rfl, kStart (EC_ok D cy (rG i) (shG G i)) (show EC D cy (rG i) (shG G i) A s s.heap from ⟨hE, g8 i hc⟩) hP hD hS hA [] rfl rfl _⟩ rfl rfl hl.1 rfl (lv_room (Nat.le_of_ble_eq_true rfl)) dX10_copy_112 ⟨by show 9 + i + 1 ≤ 40; omega, by show 18 + shZ G 2 + shZ G 4 + 7 * i + 7 ≤ 300; omega⟩) hP hD hS hA [] rfl (fun _ _ => Nat.zero_le _) (fun _ x H locs _ hP hD hS => ?_)
        obtain ⟨r2, er2⟩ : ∃ z : Nat → Nat, z = fun k => if k = i then x else r k := ⟨_, rfl⟩
        have e8 : ([(q, .inr (10, [.int (nI (shZ G 0)), .int (nI (shZ G 1)), .int (shI G 0), .int (shI G 1), .int (shI G 2), .ref qP, .ref x1, .ref qH, .ref x2, .null, .ref (u 5)])), ((u 5), .inl (cy 2, 4, .inr (.inl (fun _ => 0)))), (x1, .inl (cy 0, (shZ G 2), .inl (shP G))), (x2, .inl (cy 8, (shZ G 4), .inr (.inr (.inr (.inr (fun j => if j < i then some (r j) else none))))))] ++ rl i r (fun k => guestE (shG G k))) ++ [(x, guestE (shG G i))] = [(q, .inr (10, [.int (nI (shZ G 0)), .int (nI (shZ G 1)), .int (shI G 0), .int (shI G 1), .int (shI G 2), .ref qP, .ref x1, .ref qH, .ref x2, .null, .ref (u 5)])), ((u 5), .inl (cy 2, 4, .inr (.inl (fun _ => 0)))), (x1, .inl (cy 0, (shZ G 2), .inl (shP G))), (x2, .inl (cy 8, (shZ G 4), .inr (.inr (.inr (.inr (fun j => if j < i then some (r j) else none))))))] ++ rl (i + 1) r2 (fun k => guestE (shG G k)) := by rw [er2]; exact rl_more rfl
        have hP : va_P D vwCl ([(q, .inr (10, [.int (nI (shZ G 0)), .int (nI (shZ G 1)), .int (shI G 0), .int (shI G 1), .int (shI G 2), .ref qP, .ref x1, .ref qH, .ref x2, .null, .ref (u 5)])), ((u 5), .inl (cy 2, 4, .inr (.inl (fun _ => 0)))), (x1, .inl (cy 0, (shZ G 2), .inl (shP G))), (x2, .inl (cy 8, (shZ G 4), .inr (.inr (.inr (.inr (fun j => if j < i then some (r j) else none))))))] ++ rl (i + 1) r2 (fun k => guestE (shG G k))) H := by rw [← e8]; exact hP
        have hD : va_D A ([(q, .inr (10, [.int (nI (shZ G 0)), .int (nI (shZ G 1)), .int (shI G 0), .int (shI G 1), .int (shI G 2), .ref qP, .ref x1, .ref qH, .ref x2, .null, .ref (u 5)])), ((u 5), .inl (cy 2, 4, .inr (.inl (fun _ => 0)))), (x1, .inl (cy 0, (shZ G 2), .inl (shP G))), (x2, .inl (cy 8, (shZ G 4), .inr (.inr (.inr (.inr (fun j => if j < i then some (r j) else none))))))] ++ rl (i + 1) r2 (fun k => guestE (shG G k))) := by rw [← e8]; exact hD
        have ex : x = r2 i := by rw [er2]; exact (if_pos rfl).symm
        have e7 : (fun j => if j < i then some (r j) else none) = fun j => if j < i then some (r2 j) else none := fi_congr (fun j hj => by rw [er2]; exact (if_neg (by omega)).symm)
        rw [e7] at hP hD
        rw [ex]
        refine va_astq (r := (RX7, TX7, 7)) hx hb hK hP hD hS 3 8 (4 + i) 7 rfl rfl (rl_get (Nat.lt_succ_self i)) rfl (vp_in_nI hc (by omega)) dX10_copy_115 (fun H locs hP hD hS => ?_)
        rw [nI_clamp (by omega), va_up_step] at hP hD
        have hP : va_P D vwCl ([(q, .inr (10, [.int (nI (shZ G 0)), .int (nI (shZ G 1)), .int (shI G 0), .int (shI G 1), .int (shI G 2), .ref qP, .ref x1, .ref qH, .ref x2, .null, .ref (u 5)])), ((u 5), .inl (cy 2, 4, .inr (.inl (fun _ => 0)))), (x1, .inl (cy 0, (shZ G 2), .inl (shP G))), (x2, .inl (cy 8, (shZ G 4), .inr (.inr (.inr (.inr (fun j => if j < i + 1 then some (r2 j) else none))))))] ++ rl (i + 1) r2 (fun k => guestE (shG G k))) H := hP
        have hD : va_D A ([(q, .inr (10, [.int (nI (shZ G 0)), .int (nI (shZ G 1)), .int (shI G 0), .int (shI G 1), .int (shI G 2), .ref qP, .ref x1, .ref qH, .ref x2, .null, .ref (u 5)])), ((u 5), .inl (cy 2, 4, .inr (.inl (fun _ => 0)))), (x1, .inl (cy 0, (shZ G 2), .inl (shP G))), (x2, .inl (cy 8, (shZ G 4), .inr (.inr (.inr (.inr (fun j => if j < i + 1 then some (r2 j) else none))))))] ++ rl (i + 1) r2 (fun k => guestE (shG G k))) := hD
        refine lv_iinc (v := nI (i + 1)) (lv' := [(2, .int (nI (i + 1))), (1, .ref q), (0, .ref a)]) hx hb dX10_copy_116 hl (k := 0) rfl (by rw [nI_succ]; rfl) (by decide) rfl (fun ls hl => ?_)
        refine lv_goto (tgt := 92) hx hb dX10_copy_119 (by decide) ?_
        exact ih (i + 1) r2 H _ ls (by omega) (by omega) hP hD hS hl
      · skip
        have hi : i = shZ G 4 := (by omega)
        refine lv_icmp_ge (tgt := 122) hx hb dX10_copy_98 (by decide) (fun _ => ?_) (fun h1 => absurd (nI_le (by omega) (by omega)) h1)
        subst hi
        obtain ⟨hP, hD⟩ := refs_refit (k := 3) (g := fun j => some (r j)) hP hD rfl (fun j hj => if_pos hj)
        have hP : va_P D vwCl ([(q, .inr (10, [.int (nI (shZ G 0)), .int (nI (shZ G 1)), .int (shI G 0), .int (shI G 1), .int (shI G 2), .ref qP, .ref x1, .ref qH, .ref x2, .null, .ref (u 5)])), ((u 5), .inl (cy 2, 4, .inr (.inl (fun _ => 0)))), (x1, .inl (cy 0, (shZ G 2), .inl (shP G))), (x2, .inl (cy 8, (shZ G 4), .inr (.inr (.inr (.inr (fun j => some (r j)))))))] ++ rl (shZ G 4) r (fun k => guestE (shG G k))) H := hP
        have hD : va_D A ([(q, .inr (10, [.int (nI (shZ G 0)), .int (nI (shZ G 1)), .int (shI G 0), .int (shI G 1), .int (shI G 2), .ref qP, .ref x1, .ref qH, .ref x2, .null, .ref (u 5)])), ((u 5), .inl (cy 2, 4, .inr (.inl (fun _ => 0)))), (x1, .inl (cy 0, (shZ G 2), .inl (shP G))), (x2, .inl (cy 8, (shZ G 4), .inr (.inr (.inr (.inr (fun j => some (r j)))))))] ++ rl (shZ G 4) r (fun k => guestE (shG G k))) := hD
        refine lv_aload_n hx hb dX10_copy_122 rfl (lv_at hl 1 rfl) ?_
        refine lv_aload_n hx hb dX10_copy_123 rfl (lv_at hl 2 rfl) ?_
        refine va_get (D := D) (ci := 10) (v := vT) (C := RX10) (T := TX10) (N := 11) hx hb hts inX10 hown hK (g0.P hS) 0 rfl rfl 9 (by decide) f59 (fun _ h9 => h9) rfl dX10_copy_124 ?_
        refine va_put (D := D) (ci := 10) (v := vT) (ty := (.object "PeepBoxLaw$Node")) (C := RX10) (T := TX10) (N := 11) hx hb hts inX10 tyX10 tyX10_ok nmX10 hown hK hP hD hS 0 rfl rfl 9 (by decide) f59 (fun _ h9 => h9) (by decide +kernel) rfl (by rw [g9]; split <;> rfl) (by rw [g9]; split <;> rfl) (Nat.le_of_ble_eq_true rfl) dX10_copy_127 (fun H locs hP hD hS => ?_)
        have hP : va_P D vwCl ([(q, .inr (10, [.int (nI (shZ G 0)), .int (nI (shZ G 1)), .int (shI G 0), .int (shI G 1), .int (shI G 2), .ref qP, .ref x1, .ref qH, .ref x2, vT, .ref (u 5)])), ((u 5), .inl (cy 2, 4, .inr (.inl (fun _ => 0)))), (x1, .inl (cy 0, (shZ G 2), .inl (shP G))), (x2, .inl (cy 8, (shZ G 4), .inr (.inr (.inr (.inr (fun j => some (r j)))))))] ++ rl (shZ G 4) r (fun k => guestE (shG G k))) H := hP
        have hD : va_D A ([(q, .inr (10, [.int (nI (shZ G 0)), .int (nI (shZ G 1)), .int (shI G 0), .int (shI G 1), .int (shI G 2), .ref qP, .ref x1, .ref qH, .ref x2, vT, .ref (u 5)])), ((u 5), .inl (cy 2, 4, .inr (.inl (fun _ => 0)))), (x1, .inl (cy 0, (shZ G 2), .inl (shP G))), (x2, .inl (cy 8, (shZ G 4), .inr (.inr (.inr (.inr (fun j => some (r j)))))))] ++ rl (shZ G 4) r (fun k => guestE (shG G k))) := hD
        refine lv_aload_n hx hb dX10_copy_130 rfl (lv_at hl 1 rfl) ?_
        rw [hQQ]
        exact kr_R (u6 x1 x2 (u 5) 0 0 0, r) trivial hx hb hr (Or.inl ⟨_, rfl⟩) hlocks (va_P.of hP cp_mem) (cp_D hD) hS dX10_copy_131 (by show 9 + shZ G 4 ≤ 40; omega) (by show 18 + shZ G 2 + shZ G 4 + 7 * shZ G 4 ≤ 300; omega)
  exact J (shZ G 4 + 1) 0 (fun _ => 0) H _ ls (by omega) (Nat.zero_le _) (by have e9 : (fun j : Nat => if j < 0 then some ((fun _ => 0 : Nat → Nat) j) else none) = (fun _ => none) := (by funext j; exact if_neg (Nat.not_lt_zero j)); rw [e9]; exact hP) (by have e9 : (fun j : Nat => if j < 0 then some ((fun _ => 0 : Nat → Nat) j) else none) = (fun _ => none) := (by funext j; exact if_neg (Nat.not_lt_zero j)); rw [e9]; exact hD) hS (lv_sub hl [0, 1, 2] rfl)
