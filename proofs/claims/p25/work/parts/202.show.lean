/-! Show: its making, and who comes (sh.py) -/
/-- EL, and the two links that the lists of words lack -/
def EW (D : va_G) (cy : Nat → ClassId) (A : Nat → Prop) (U : State) (H : Heap) : Prop := EL D cy A U H ∧ va_Nw (.classLink RX10 22 "[Ljava/lang/String;") U ∧ va_Nw (.classLink RX10 63 "[[Ljava/lang/String;") U
theorem EW_ok (D : va_G) (cy : Nat → ClassId) : EOK (EW D cy) := fun A B s U H0 H h hq hAB hW => ⟨EL_ok D cy A B s U H0 H h.1 hq hAB hW, word_at hW (Or.inl rfl) h.2.1, word_at hW (Or.inl rfl) h.2.2⟩
theorem vin_of {i : Int32} {n : Nat} (h : (decide (i < 0) || decide (n ≤ i.toNatClampNeg)) = false) : vp_in i n := by
  intro q
  rcases q with q | q
  · rw [decide_eq_true q] at h; cases h
  · rw [decide_eq_true q, Bool.or_true] at h; cases h
/-- the cells of a new show -/
abbrev shNew (cy : Nat → ClassId) (a : Nat) (u : Nat → Nat) : va_W := [(a, .inr (10, [.int (4 : Int32), .int (3 : Int32), .int (9 : Int32), .int (3 : Int32), .int (0 : Int32), .ref (u 0), .ref (u 1), .ref (u 2), .ref (u 4), .null, .ref (u 5)])), (u 0, .inl (cy 7, 0, .inr (.inr (.inr (.inr (fun _ => none)))))), (u 1, .inl (cy 0, 0, .inl (fun _ => 0))), (u 2, refsE (cy 4) 1 (fun _ => u 3)), (u 3, .inl (cy 0, 2, .inl (fun _ => 0))), (u 4, .inl (cy 8, 0, .inr (.inr (.inr (.inr (fun _ => none)))))), (u 5, .inl (cy 2, 4, .inr (.inl (fun _ => 0))))]
def u6 (a b c d e f : Nat) : Nat → Nat := fun j => match j with
  | 0 => a
  | 1 => b
  | 2 => c
  | 3 => d
  | 4 => e
  | _ => f
theorem upd00 : upd (upd (fun _ => (0 : Int32)) 0 0) 1 0 = fun _ => 0 := by
  funext j
  unfold upd
  split
  · rfl
  · split <;> rfl
theorem kd_X10_init : yX10_init.cls ≠ "java/lang/invoke/MethodHandle" ∧ yX10_init.cls ≠ "java/lang/invoke/VarHandle" ∧ (parseMethodDescriptor yX10_init.desc).map (fun d => d.parameters.length) = some 0 := by decide +kernel
set_option maxHeartbeats 4000000 in
set_option maxRecDepth 100000 in
theorem c_X10_init {l : Launch} {D : va_G} {cy : Nat → ClassId} (a sz : Nat) : Met l yX10_init wsX10_init ({ frames := 1, cells := 6, slots := 7, locals := 40 } : Room) (kP (EW D cy) D [.ref a] ([(a, .inr (10, [.int (0 : Int32), .int (0 : Int32), .int (0 : Int32), .int (0 : Int32), .int (0 : Int32), .null, .null, .null, .null, .null, .null]))]) sz) (kQE D (fun (_ : Nat → Nat) => True) (fun u => shNew cy a u) (va_A ([(a, .inr (10, [.int (0 : Int32), .int (0 : Int32), .int (0 : Int32), .int (0 : Int32), .int (0 : Int32), .null, .null, .null, .null, .null, .null]))]) sz)) 6 7 (va_A ([(a, .inr (10, [.int (0 : Int32), .int (0 : Int32), .int (0 : Int32), .int (0 : Int32), .int (0 : Int32), .null, .null, .null, .null, .null, .null]))]) sz) := by
  refine kMet (y := yX10_init) (av := [.ref a]) (cc := cX10_init) (maxL := 1) (ret := none) (own := RX10) (Qc := fun A9 => (kQE D (fun (_ : Nat → Nat) => True) (fun u => shNew cy a u) A9)) (by decide) rfl rfl (Nat.le_of_ble_eq_true rfl) ?_
  intro p e s m args below meth c A hx hb hr hts hown hml hlocks hname hE hP hD hA hsz ls hl
  have hEW := hE
  obtain ⟨hE, hW1, hW2⟩ := hE
  have hEL := hE
  obtain ⟨hE, hL⟩ := hE
  have hK := hE.1
  have hl : lv_has ls 1 [(0, .ref a)] := hl
  have hS : va_S A s.heap s.heap [] := va_S.rf
  have oi := hts (.methodLink RX10 1 objectInit) (by decide +kernel)
  have oin := hts (.instanceMethod objectInit) (by decide +kernel)
  have oic := hts (.code objectInit ⟨#[0xb1]⟩ 1 none) (by decide +kernel)
  have f7 := hts (.fieldLink RX10 7 "PeepBoxLaw$Show" "width" "I") (by decide +kernel)
  have inX10 : ∀ w ∈ wsX100, w ∈ wsX10_init := by decide +kernel
  have f13 := hts (.fieldLink RX10 13 "PeepBoxLaw$Show" "height" "I") (by decide +kernel)
  have f16 := hts (.fieldLink RX10 16 "PeepBoxLaw$Show" "reach" "I") (by decide +kernel)
  have f19 := hts (.fieldLink RX10 19 "PeepBoxLaw$Show" "length" "I") (by decide +kernel)
  have f24 := hts (.fieldLink RX10 24 "PeepBoxLaw$Show" "planes" "[[Ljava/lang/String;") (by decide +kernel)
  have aint := hts (.arrayClass .int) (by decide +kernel)
  have f28 := hts (.fieldLink RX10 28 "PeepBoxLaw$Show" "pulls" "[I") (by decide +kernel)
  have kl32 := hts (.classLink RX10 32 "[I") (by decide +kernel)
  have f33 := hts (.fieldLink RX10 33 "PeepBoxLaw$Show" "holes" "[[I") (by decide +kernel)
  have kl37 := hts (.classLink RX10 37 "PeepBoxLaw$Guest") (by decide +kernel)
  have f39 := hts (.fieldLink RX10 39 "PeepBoxLaw$Show" "guests" "[LPeepBoxLaw$Guest;") (by decide +kernel)
  have along := hts (.arrayClass .long) (by decide +kernel)
  have f43 := hts (.fieldLink RX10 43 "PeepBoxLaw$Show" "variables" "[J") (by decide +kernel)
  obtain ⟨QQ, hQQ⟩ : ∃ Q9, Q9 = MQ below (kQE D (fun (_ : Nat → Nat) => True) (fun u => shNew cy a u) A) args s 6 7 A := ⟨_, rfl⟩
  rw [← hQQ]
  obtain ⟨H, hH⟩ : ∃ H9, H9 = s.heap := ⟨_, rfl⟩
  have hP : va_P D vwCl ([(a, .inr (10, [.int (0 : Int32), .int (0 : Int32), .int (0 : Int32), .int (0 : Int32), .int (0 : Int32), .null, .null, .null, .null, .null, .null]))]) H := by rw [hH]; exact hP
  have hS : va_S A s.heap H [] := by rw [hH]; exact hS
  rw [← hH]
  refine lv_aload_n hx hb dX10_init_0 rfl (lv_at hl 0 rfl) ?_
  refine W.objInit hx hb hown oi oin oic rfl (by rw [hml]; exact hl.1) rfl dX10_init_1 (Nat.le_of_ble_eq_true rfl) (Nat.le_of_ble_eq_true rfl) ?_
  show W p l e ({ frames := 1, cells := 6, slots := 7, locals := 40 } : Room) s m args below meth c H _ 0 0 QQ (F0 m 4 ls [])
  refine lv_aload_n hx hb dX10_init_4 rfl (lv_at hl 0 rfl) ?_
  refine lv_iconst (v := 4) hx hb dX10_init_5 (by decide) ?_
  refine va_put (D := D) (ci := 10) (v := .int (4 : Int32)) (ty := .int) (C := RX10) (T := TX10) (N := 11) hx hb hts inX10 tyX10 tyX10_ok nmX10 hown hK hP hD hS 0 rfl rfl 0 (by decide) f7 (fun _ h9 => h9) (by decide +kernel) rfl rfl rfl (Nat.le_of_ble_eq_true rfl) dX10_init_6 (fun H locs hP hD hS => ?_)
  have hP : va_P D vwCl ([(a, .inr (10, [.int (4 : Int32), .int (0 : Int32), .int (0 : Int32), .int (0 : Int32), .int (0 : Int32), .null, .null, .null, .null, .null, .null]))]) H := hP
  have hD : va_D A ([(a, .inr (10, [.int (4 : Int32), .int (0 : Int32), .int (0 : Int32), .int (0 : Int32), .int (0 : Int32), .null, .null, .null, .null, .null, .null]))]) := hD
  refine lv_aload_n hx hb dX10_init_9 rfl (lv_at hl 0 rfl) ?_
  refine lv_iconst (v := 3) hx hb dX10_init_10 (by decide) ?_
  refine va_put (D := D) (ci := 10) (v := .int (3 : Int32)) (ty := .int) (C := RX10) (T := TX10) (N := 11) hx hb hts inX10 tyX10 tyX10_ok nmX10 hown hK hP hD hS 0 rfl rfl 1 (by decide) f13 (fun _ h9 => h9) (by decide +kernel) rfl rfl rfl (Nat.le_of_ble_eq_true rfl) dX10_init_11 (fun H locs hP hD hS => ?_)
  have hP : va_P D vwCl ([(a, .inr (10, [.int (4 : Int32), .int (3 : Int32), .int (0 : Int32), .int (0 : Int32), .int (0 : Int32), .null, .null, .null, .null, .null, .null]))]) H := hP
  have hD : va_D A ([(a, .inr (10, [.int (4 : Int32), .int (3 : Int32), .int (0 : Int32), .int (0 : Int32), .int (0 : Int32), .null, .null, .null, .null, .null, .null]))]) := hD
  refine lv_aload_n hx hb dX10_init_14 rfl (lv_at hl 0 rfl) ?_
  refine lv_bipush (v := 9) hx hb dX10_init_15 (by decide) ?_
  refine va_put (D := D) (ci := 10) (v := .int (9 : Int32)) (ty := .int) (C := RX10) (T := TX10) (N := 11) hx hb hts inX10 tyX10 tyX10_ok nmX10 hown hK hP hD hS 0 rfl rfl 2 (by decide) f16 (fun _ h9 => h9) (by decide +kernel) rfl rfl rfl (Nat.le_of_ble_eq_true rfl) dX10_init_17 (fun H locs hP hD hS => ?_)
  have hP : va_P D vwCl ([(a, .inr (10, [.int (4 : Int32), .int (3 : Int32), .int (9 : Int32), .int (0 : Int32), .int (0 : Int32), .null, .null, .null, .null, .null, .null]))]) H := hP
  have hD : va_D A ([(a, .inr (10, [.int (4 : Int32), .int (3 : Int32), .int (9 : Int32), .int (0 : Int32), .int (0 : Int32), .null, .null, .null, .null, .null, .null]))]) := hD
  refine lv_aload_n hx hb dX10_init_20 rfl (lv_at hl 0 rfl) ?_
  refine lv_iconst (v := 3) hx hb dX10_init_21 (by decide) ?_
  refine va_put (D := D) (ci := 10) (v := .int (3 : Int32)) (ty := .int) (C := RX10) (T := TX10) (N := 11) hx hb hts inX10 tyX10 tyX10_ok nmX10 hown hK hP hD hS 0 rfl rfl 3 (by decide) f19 (fun _ h9 => h9) (by decide +kernel) rfl rfl rfl (Nat.le_of_ble_eq_true rfl) dX10_init_22 (fun H locs hP hD hS => ?_)
  have hP : va_P D vwCl ([(a, .inr (10, [.int (4 : Int32), .int (3 : Int32), .int (9 : Int32), .int (3 : Int32), .int (0 : Int32), .null, .null, .null, .null, .null, .null]))]) H := hP
  have hD : va_D A ([(a, .inr (10, [.int (4 : Int32), .int (3 : Int32), .int (9 : Int32), .int (3 : Int32), .int (0 : Int32), .null, .null, .null, .null, .null, .null]))]) := hD
  refine lv_aload_n hx hb dX10_init_25 rfl (lv_at hl 0 rfl) ?_
  refine lv_iconst (v := 0) hx hb dX10_init_26 (by decide) ?_
  refine kn_newA (N' := 0) 7 hx hb hown (va_Nw.use rfl hW1) hL.2.2.2.2.2.2.1 hK rfl hP hD hS hA (by decide) (by decide) (by decide) (Nat.le_of_ble_eq_true rfl) (Nat.le_of_ble_eq_true rfl) dX10_init_27 (fun q0 H hP hD hS => ?_)
  have hP : va_P D vwCl ([(a, .inr (10, [.int (4 : Int32), .int (3 : Int32), .int (9 : Int32), .int (3 : Int32), .int (0 : Int32), .null, .null, .null, .null, .null, .null])), (q0, .inl (cy 7, 0, .inr (.inr (.inr (.inr (fun _ => none))))))]) H := hP
  have hD : va_D A ([(a, .inr (10, [.int (4 : Int32), .int (3 : Int32), .int (9 : Int32), .int (3 : Int32), .int (0 : Int32), .null, .null, .null, .null, .null, .null])), (q0, .inl (cy 7, 0, .inr (.inr (.inr (.inr (fun _ => none))))))]) := hD
  refine va_put (D := D) (ci := 10) (v := .ref q0) (ty := (.array (.array (.object "java/lang/String")))) (C := RX10) (T := TX10) (N := 11) hx hb hts inX10 tyX10 tyX10_ok nmX10 hown hK hP hD hS 0 rfl rfl 5 (by decide) f24 (fun _ h9 => h9) (by decide +kernel) rfl rfl rfl (Nat.le_of_ble_eq_true rfl) dX10_init_30 (fun H locs hP hD hS => ?_)
  have hP : va_P D vwCl ([(a, .inr (10, [.int (4 : Int32), .int (3 : Int32), .int (9 : Int32), .int (3 : Int32), .int (0 : Int32), .ref q0, .null, .null, .null, .null, .null])), (q0, .inl (cy 7, 0, .inr (.inr (.inr (.inr (fun _ => none))))))]) H := hP
  have hD : va_D A ([(a, .inr (10, [.int (4 : Int32), .int (3 : Int32), .int (9 : Int32), .int (3 : Int32), .int (0 : Int32), .ref q0, .null, .null, .null, .null, .null])), (q0, .inl (cy 7, 0, .inr (.inr (.inr (.inr (fun _ => none))))))]) := hD
  refine lv_aload_n hx hb dX10_init_33 rfl (lv_at hl 0 rfl) ?_
  refine lv_iconst (v := 0) hx hb dX10_init_34 (by decide) ?_
  refine kn_newi (N' := 0) hx hb aint hK hP hD hS hA (by decide) (by decide) (by decide) (Nat.le_of_ble_eq_true rfl) (Nat.le_of_ble_eq_true rfl) dX10_init_35 (fun q1 H hP hD hS => ?_)
  have hP : va_P D vwCl ([(a, .inr (10, [.int (4 : Int32), .int (3 : Int32), .int (9 : Int32), .int (3 : Int32), .int (0 : Int32), .ref q0, .null, .null, .null, .null, .null])), (q0, .inl (cy 7, 0, .inr (.inr (.inr (.inr (fun _ => none)))))), (q1, .inl (cy 0, 0, .inl (fun _ => (0 : Int32))))]) H := hP
  have hD : va_D A ([(a, .inr (10, [.int (4 : Int32), .int (3 : Int32), .int (9 : Int32), .int (3 : Int32), .int (0 : Int32), .ref q0, .null, .null, .null, .null, .null])), (q0, .inl (cy 7, 0, .inr (.inr (.inr (.inr (fun _ => none)))))), (q1, .inl (cy 0, 0, .inl (fun _ => (0 : Int32))))]) := hD
  refine va_put (D := D) (ci := 10) (v := .ref q1) (ty := (.array .int)) (C := RX10) (T := TX10) (N := 11) hx hb hts inX10 tyX10 tyX10_ok nmX10 hown hK hP hD hS 0 rfl rfl 6 (by decide) f28 (fun _ h9 => h9) (by decide +kernel) rfl rfl rfl (Nat.le_of_ble_eq_true rfl) dX10_init_37 (fun H locs hP hD hS => ?_)
  have hP : va_P D vwCl ([(a, .inr (10, [.int (4 : Int32), .int (3 : Int32), .int (9 : Int32), .int (3 : Int32), .int (0 : Int32), .ref q0, .ref q1, .null, .null, .null, .null])), (q0, .inl (cy 7, 0, .inr (.inr (.inr (.inr (fun _ => none)))))), (q1, .inl (cy 0, 0, .inl (fun _ => (0 : Int32))))]) H := hP
  have hD : va_D A ([(a, .inr (10, [.int (4 : Int32), .int (3 : Int32), .int (9 : Int32), .int (3 : Int32), .int (0 : Int32), .ref q0, .ref q1, .null, .null, .null, .null])), (q0, .inl (cy 7, 0, .inr (.inr (.inr (.inr (fun _ => none)))))), (q1, .inl (cy 0, 0, .inl (fun _ => (0 : Int32))))]) := hD
  refine lv_aload_n hx hb dX10_init_40 rfl (lv_at hl 0 rfl) ?_
  refine lv_iconst (v := 1) hx hb dX10_init_41 (by decide) ?_
  refine kn_newA (N' := 1) 4 hx hb hown kl32 hL.2.2.2.2.2.1 hK rfl hP hD hS hA (by decide) (by decide) (by decide) (Nat.le_of_ble_eq_true rfl) (Nat.le_of_ble_eq_true rfl) dX10_init_42 (fun q2 H hP hD hS => ?_)
  have hP : va_P D vwCl ([(a, .inr (10, [.int (4 : Int32), .int (3 : Int32), .int (9 : Int32), .int (3 : Int32), .int (0 : Int32), .ref q0, .ref q1, .null, .null, .null, .null])), (q0, .inl (cy 7, 0, .inr (.inr (.inr (.inr (fun _ => none)))))), (q1, .inl (cy 0, 0, .inl (fun _ => (0 : Int32)))), (q2, .inl (cy 4, 1, .inr (.inr (.inr (.inr (fun _ => none))))))]) H := hP
  have hD : va_D A ([(a, .inr (10, [.int (4 : Int32), .int (3 : Int32), .int (9 : Int32), .int (3 : Int32), .int (0 : Int32), .ref q0, .ref q1, .null, .null, .null, .null])), (q0, .inl (cy 7, 0, .inr (.inr (.inr (.inr (fun _ => none)))))), (q1, .inl (cy 0, 0, .inl (fun _ => (0 : Int32)))), (q2, .inl (cy 4, 1, .inr (.inr (.inr (.inr (fun _ => none))))))]) := hD
  refine lv_dup hx hb dX10_init_45 rfl ?_
  refine lv_iconst (v := 0) hx hb dX10_init_46 (by decide) ?_
  refine lv_iconst (v := 2) hx hb dX10_init_47 (by decide) ?_
  refine kn_newi (N' := 2) hx hb aint hK hP hD hS hA (by decide) (by decide) (by decide) (Nat.le_of_ble_eq_true rfl) (Nat.le_of_ble_eq_true rfl) dX10_init_48 (fun q3 H hP hD hS => ?_)
  have hP : va_P D vwCl ([(a, .inr (10, [.int (4 : Int32), .int (3 : Int32), .int (9 : Int32), .int (3 : Int32), .int (0 : Int32), .ref q0, .ref q1, .null, .null, .null, .null])), (q0, .inl (cy 7, 0, .inr (.inr (.inr (.inr (fun _ => none)))))), (q1, .inl (cy 0, 0, .inl (fun _ => (0 : Int32)))), (q2, .inl (cy 4, 1, .inr (.inr (.inr (.inr (fun _ => none)))))), (q3, .inl (cy 0, 2, .inl (fun _ => (0 : Int32))))]) H := hP
  have hD : va_D A ([(a, .inr (10, [.int (4 : Int32), .int (3 : Int32), .int (9 : Int32), .int (3 : Int32), .int (0 : Int32), .ref q0, .ref q1, .null, .null, .null, .null])), (q0, .inl (cy 7, 0, .inr (.inr (.inr (.inr (fun _ => none)))))), (q1, .inl (cy 0, 0, .inl (fun _ => (0 : Int32)))), (q2, .inl (cy 4, 1, .inr (.inr (.inr (.inr (fun _ => none)))))), (q3, .inl (cy 0, 2, .inl (fun _ => (0 : Int32))))]) := hD
  refine lv_dup hx hb dX10_init_50 rfl ?_
  refine lv_iconst (v := 0) hx hb dX10_init_51 (by decide) ?_
  refine lv_iconst (v := 0) hx hb dX10_init_52 (by decide) ?_
  refine va_iast hx hb hK hP hD hS 4 0 rfl rfl (vin_of (by decide)) dX10_init_53 (fun H locs hP hD hS => ?_)
  have hP : va_P D vwCl ([(a, .inr (10, [.int (4 : Int32), .int (3 : Int32), .int (9 : Int32), .int (3 : Int32), .int (0 : Int32), .ref q0, .ref q1, .null, .null, .null, .null])), (q0, .inl (cy 7, 0, .inr (.inr (.inr (.inr (fun _ => none)))))), (q1, .inl (cy 0, 0, .inl (fun _ => (0 : Int32)))), (q2, .inl (cy 4, 1, .inr (.inr (.inr (.inr (fun _ => none)))))), (q3, .inl (cy 0, 2, .inl (upd (fun _ => (0 : Int32)) ((0 : Int32)).toNatClampNeg (0 : Int32))))]) H := hP
  have hD : va_D A ([(a, .inr (10, [.int (4 : Int32), .int (3 : Int32), .int (9 : Int32), .int (3 : Int32), .int (0 : Int32), .ref q0, .ref q1, .null, .null, .null, .null])), (q0, .inl (cy 7, 0, .inr (.inr (.inr (.inr (fun _ => none)))))), (q1, .inl (cy 0, 0, .inl (fun _ => (0 : Int32)))), (q2, .inl (cy 4, 1, .inr (.inr (.inr (.inr (fun _ => none)))))), (q3, .inl (cy 0, 2, .inl (upd (fun _ => (0 : Int32)) ((0 : Int32)).toNatClampNeg (0 : Int32))))]) := hD
  refine lv_dup hx hb dX10_init_54 rfl ?_
  refine lv_iconst (v := 1) hx hb dX10_init_55 (by decide) ?_
  refine lv_iconst (v := 0) hx hb dX10_init_56 (by decide) ?_
  refine va_iast hx hb hK hP hD hS 4 0 rfl rfl (vin_of (by decide)) dX10_init_57 (fun H locs hP hD hS => ?_)
  have hP : va_P D vwCl ([(a, .inr (10, [.int (4 : Int32), .int (3 : Int32), .int (9 : Int32), .int (3 : Int32), .int (0 : Int32), .ref q0, .ref q1, .null, .null, .null, .null])), (q0, .inl (cy 7, 0, .inr (.inr (.inr (.inr (fun _ => none)))))), (q1, .inl (cy 0, 0, .inl (fun _ => (0 : Int32)))), (q2, .inl (cy 4, 1, .inr (.inr (.inr (.inr (fun _ => none)))))), (q3, .inl (cy 0, 2, .inl (upd (upd (fun _ => (0 : Int32)) ((0 : Int32)).toNatClampNeg (0 : Int32)) ((1 : Int32)).toNatClampNeg (0 : Int32))))]) H := hP
  have hD : va_D A ([(a, .inr (10, [.int (4 : Int32), .int (3 : Int32), .int (9 : Int32), .int (3 : Int32), .int (0 : Int32), .ref q0, .ref q1, .null, .null, .null, .null])), (q0, .inl (cy 7, 0, .inr (.inr (.inr (.inr (fun _ => none)))))), (q1, .inl (cy 0, 0, .inl (fun _ => (0 : Int32)))), (q2, .inl (cy 4, 1, .inr (.inr (.inr (.inr (fun _ => none)))))), (q3, .inl (cy 0, 2, .inl (upd (upd (fun _ => (0 : Int32)) ((0 : Int32)).toNatClampNeg (0 : Int32)) ((1 : Int32)).toNatClampNeg (0 : Int32))))]) := hD
  have e9 : (upd (upd (fun _ => (0 : Int32)) ((0 : Int32)).toNatClampNeg (0 : Int32)) ((1 : Int32)).toNatClampNeg (0 : Int32)) = (fun _ => (0 : Int32)) := upd00
  rw [e9] at hP hD
  refine kn_asta (own := RX10) hx hb hL.2.2.2.2.2.1 hK hP hD hS 3 4 4 0 rfl rfl rfl rfl (vin_of (by decide)) dX10_init_58 (fun H locs hP hD hS => ?_)
  obtain ⟨hP, hD⟩ := refs_refit (k := 3) (g := fun _ => some q3) hP hD rfl (fun i hi => by obtain rfl : i = 0 := (by omega); rfl)
  have hP : va_P D vwCl ([(a, .inr (10, [.int (4 : Int32), .int (3 : Int32), .int (9 : Int32), .int (3 : Int32), .int (0 : Int32), .ref q0, .ref q1, .null, .null, .null, .null])), (q0, .inl (cy 7, 0, .inr (.inr (.inr (.inr (fun _ => none)))))), (q1, .inl (cy 0, 0, .inl (fun _ => (0 : Int32)))), (q2, .inl (cy 4, 1, .inr (.inr (.inr (.inr (fun _ => some q3)))))), (q3, .inl (cy 0, 2, .inl (fun _ => (0 : Int32))))]) H := hP
  have hD : va_D A ([(a, .inr (10, [.int (4 : Int32), .int (3 : Int32), .int (9 : Int32), .int (3 : Int32), .int (0 : Int32), .ref q0, .ref q1, .null, .null, .null, .null])), (q0, .inl (cy 7, 0, .inr (.inr (.inr (.inr (fun _ => none)))))), (q1, .inl (cy 0, 0, .inl (fun _ => (0 : Int32)))), (q2, .inl (cy 4, 1, .inr (.inr (.inr (.inr (fun _ => some q3)))))), (q3, .inl (cy 0, 2, .inl (fun _ => (0 : Int32))))]) := hD
  refine va_put (D := D) (ci := 10) (v := .ref q2) (ty := (.array (.array .int))) (C := RX10) (T := TX10) (N := 11) hx hb hts inX10 tyX10 tyX10_ok nmX10 hown hK hP hD hS 0 rfl rfl 7 (by decide) f33 (fun _ h9 => h9) (by decide +kernel) rfl rfl rfl (Nat.le_of_ble_eq_true rfl) dX10_init_59 (fun H locs hP hD hS => ?_)
  have hP : va_P D vwCl ([(a, .inr (10, [.int (4 : Int32), .int (3 : Int32), .int (9 : Int32), .int (3 : Int32), .int (0 : Int32), .ref q0, .ref q1, .ref q2, .null, .null, .null])), (q0, .inl (cy 7, 0, .inr (.inr (.inr (.inr (fun _ => none)))))), (q1, .inl (cy 0, 0, .inl (fun _ => (0 : Int32)))), (q2, .inl (cy 4, 1, .inr (.inr (.inr (.inr (fun _ => some q3)))))), (q3, .inl (cy 0, 2, .inl (fun _ => (0 : Int32))))]) H := hP
  have hD : va_D A ([(a, .inr (10, [.int (4 : Int32), .int (3 : Int32), .int (9 : Int32), .int (3 : Int32), .int (0 : Int32), .ref q0, .ref q1, .ref q2, .null, .null, .null])), (q0, .inl (cy 7, 0, .inr (.inr (.inr (.inr (fun _ => none)))))), (q1, .inl (cy 0, 0, .inl (fun _ => (0 : Int32)))), (q2, .inl (cy 4, 1, .inr (.inr (.inr (.inr (fun _ => some q3)))))), (q3, .inl (cy 0, 2, .inl (fun _ => (0 : Int32))))]) := hD
  refine lv_aload_n hx hb dX10_init_62 rfl (lv_at hl 0 rfl) ?_
  refine lv_iconst (v := 0) hx hb dX10_init_63 (by decide) ?_
  refine kn_newr (N' := 0) 8 hx hb hown kl37 hL.2.2.2.1 hK rfl hP hD hS hA (by decide) (by decide) (by decide) (Nat.le_of_ble_eq_true rfl) (Nat.le_of_ble_eq_true rfl) dX10_init_64 (fun q4 H hP hD hS => ?_)
  have hP : va_P D vwCl ([(a, .inr (10, [.int (4 : Int32), .int (3 : Int32), .int (9 : Int32), .int (3 : Int32), .int (0 : Int32), .ref q0, .ref q1, .ref q2, .null, .null, .null])), (q0, .inl (cy 7, 0, .inr (.inr (.inr (.inr (fun _ => none)))))), (q1, .inl (cy 0, 0, .inl (fun _ => (0 : Int32)))), (q2, .inl (cy 4, 1, .inr (.inr (.inr (.inr (fun _ => some q3)))))), (q3, .inl (cy 0, 2, .inl (fun _ => (0 : Int32)))), (q4, .inl (cy 8, 0, .inr (.inr (.inr (.inr (fun _ => none))))))]) H := hP
  have hD : va_D A ([(a, .inr (10, [.int (4 : Int32), .int (3 : Int32), .int (9 : Int32), .int (3 : Int32), .int (0 : Int32), .ref q0, .ref q1, .ref q2, .null, .null, .null])), (q0, .inl (cy 7, 0, .inr (.inr (.inr (.inr (fun _ => none)))))), (q1, .inl (cy 0, 0, .inl (fun _ => (0 : Int32)))), (q2, .inl (cy 4, 1, .inr (.inr (.inr (.inr (fun _ => some q3)))))), (q3, .inl (cy 0, 2, .inl (fun _ => (0 : Int32)))), (q4, .inl (cy 8, 0, .inr (.inr (.inr (.inr (fun _ => none))))))]) := hD
  refine va_put (D := D) (ci := 10) (v := .ref q4) (ty := (.array (.object "PeepBoxLaw$Guest"))) (C := RX10) (T := TX10) (N := 11) hx hb hts inX10 tyX10 tyX10_ok nmX10 hown hK hP hD hS 0 rfl rfl 8 (by decide) f39 (fun _ h9 => h9) (by decide +kernel) rfl rfl rfl (Nat.le_of_ble_eq_true rfl) dX10_init_67 (fun H locs hP hD hS => ?_)
  have hP : va_P D vwCl ([(a, .inr (10, [.int (4 : Int32), .int (3 : Int32), .int (9 : Int32), .int (3 : Int32), .int (0 : Int32), .ref q0, .ref q1, .ref q2, .ref q4, .null, .null])), (q0, .inl (cy 7, 0, .inr (.inr (.inr (.inr (fun _ => none)))))), (q1, .inl (cy 0, 0, .inl (fun _ => (0 : Int32)))), (q2, .inl (cy 4, 1, .inr (.inr (.inr (.inr (fun _ => some q3)))))), (q3, .inl (cy 0, 2, .inl (fun _ => (0 : Int32)))), (q4, .inl (cy 8, 0, .inr (.inr (.inr (.inr (fun _ => none))))))]) H := hP
  have hD : va_D A ([(a, .inr (10, [.int (4 : Int32), .int (3 : Int32), .int (9 : Int32), .int (3 : Int32), .int (0 : Int32), .ref q0, .ref q1, .ref q2, .ref q4, .null, .null])), (q0, .inl (cy 7, 0, .inr (.inr (.inr (.inr (fun _ => none)))))), (q1, .inl (cy 0, 0, .inl (fun _ => (0 : Int32)))), (q2, .inl (cy 4, 1, .inr (.inr (.inr (.inr (fun _ => some q3)))))), (q3, .inl (cy 0, 2, .inl (fun _ => (0 : Int32)))), (q4, .inl (cy 8, 0, .inr (.inr (.inr (.inr (fun _ => none))))))]) := hD
  refine lv_aload_n hx hb dX10_init_70 rfl (lv_at hl 0 rfl) ?_
  refine lv_iconst (v := 4) hx hb dX10_init_71 (by decide) ?_
  refine kn_newl (N' := 4) hx hb along hK hP hD hS hA (by decide) (by decide) (by decide) (Nat.le_of_ble_eq_true rfl) (Nat.le_of_ble_eq_true rfl) dX10_init_72 (fun q5 H hP hD hS => ?_)
  have hP : va_P D vwCl ([(a, .inr (10, [.int (4 : Int32), .int (3 : Int32), .int (9 : Int32), .int (3 : Int32), .int (0 : Int32), .ref q0, .ref q1, .ref q2, .ref q4, .null, .null])), (q0, .inl (cy 7, 0, .inr (.inr (.inr (.inr (fun _ => none)))))), (q1, .inl (cy 0, 0, .inl (fun _ => (0 : Int32)))), (q2, .inl (cy 4, 1, .inr (.inr (.inr (.inr (fun _ => some q3)))))), (q3, .inl (cy 0, 2, .inl (fun _ => (0 : Int32)))), (q4, .inl (cy 8, 0, .inr (.inr (.inr (.inr (fun _ => none)))))), (q5, .inl (cy 2, 4, .inr (.inl (fun _ => (0 : Int64)))))]) H := hP
  have hD : va_D A ([(a, .inr (10, [.int (4 : Int32), .int (3 : Int32), .int (9 : Int32), .int (3 : Int32), .int (0 : Int32), .ref q0, .ref q1, .ref q2, .ref q4, .null, .null])), (q0, .inl (cy 7, 0, .inr (.inr (.inr (.inr (fun _ => none)))))), (q1, .inl (cy 0, 0, .inl (fun _ => (0 : Int32)))), (q2, .inl (cy 4, 1, .inr (.inr (.inr (.inr (fun _ => some q3)))))), (q3, .inl (cy 0, 2, .inl (fun _ => (0 : Int32)))), (q4, .inl (cy 8, 0, .inr (.inr (.inr (.inr (fun _ => none)))))), (q5, .inl (cy 2, 4, .inr (.inl (fun _ => (0 : Int64)))))]) := hD
  refine va_putF (D := D) (ci := 10) (v := .ref q5) (ty := (.array .long)) (C := RX10) (T := TX10) (N := 11) hx hb hts inX10 tyX10 tyX10_ok nmX10 hown hK hP hD hS 0 rfl rfl 10 (by decide) f43 (fun _ h9 => h9) (by decide +kernel) hname rfl rfl rfl rfl (Nat.le_of_ble_eq_true rfl) dX10_init_74 (fun H locs hP hD hS => ?_)
  have hP : va_P D vwCl ([(a, .inr (10, [.int (4 : Int32), .int (3 : Int32), .int (9 : Int32), .int (3 : Int32), .int (0 : Int32), .ref q0, .ref q1, .ref q2, .ref q4, .null, .ref q5])), (q0, .inl (cy 7, 0, .inr (.inr (.inr (.inr (fun _ => none)))))), (q1, .inl (cy 0, 0, .inl (fun _ => (0 : Int32)))), (q2, .inl (cy 4, 1, .inr (.inr (.inr (.inr (fun _ => some q3)))))), (q3, .inl (cy 0, 2, .inl (fun _ => (0 : Int32)))), (q4, .inl (cy 8, 0, .inr (.inr (.inr (.inr (fun _ => none)))))), (q5, .inl (cy 2, 4, .inr (.inl (fun _ => (0 : Int64)))))]) H := hP
  have hD : va_D A ([(a, .inr (10, [.int (4 : Int32), .int (3 : Int32), .int (9 : Int32), .int (3 : Int32), .int (0 : Int32), .ref q0, .ref q1, .ref q2, .ref q4, .null, .ref q5])), (q0, .inl (cy 7, 0, .inr (.inr (.inr (.inr (fun _ => none)))))), (q1, .inl (cy 0, 0, .inl (fun _ => (0 : Int32)))), (q2, .inl (cy 4, 1, .inr (.inr (.inr (.inr (fun _ => some q3)))))), (q3, .inl (cy 0, 2, .inl (fun _ => (0 : Int32)))), (q4, .inl (cy 8, 0, .inr (.inr (.inr (.inr (fun _ => none)))))), (q5, .inl (cy 2, 4, .inr (.inl (fun _ => (0 : Int64)))))]) := hD
  rw [hQQ]
  exact kr_E (u6 q0 q1 q2 q3 q4 q5) trivial hx hb hr hlocks hP hD hS dX10_init_77 (Nat.le_of_ble_eq_true rfl) (Nat.le_of_ble_eq_true rfl)
theorem va_up_step {r : Nat → Nat} {i : Nat} : va_up (fun j => if j < i then some (r j) else none) i (some (r i)) = fun j => if j < i + 1 then some (r j) else none := by
  funext j
  unfold va_up
  by_cases h : j = i
  · subst h; rw [if_pos rfl, if_pos (by omega)]
  · rw [if_neg h]
    show (if j < i then some (r j) else none) = _
    by_cases h2 : j < i
    · rw [if_pos h2, if_pos (by omega)]
    · rw [if_neg h2, if_neg (by omega)]
/-- the cells behind a coming: the show, its guests' new row, the new guest, the guests -/
abbrev cmE (cy : Nat → ClassId) (a x : Nat) (s0 s1 s2 s3 s4 : Int32) (v5 v6 v7 v9 v10 : Value) (f : Nat → Int32) (rG : Nat → Nat) (eG : Nat → Nat → Int32) (k q : Nat) : va_W := [(a, .inr (10, [.int s0, .int s1, .int s2, .int s3, .int s4, v5, v6, v7, .ref q, v9, v10])), (q, refsE (cy 8) (k + 1) (fun j => if j = k then x else rG j)), (x, guestE f)] ++ rl k rG (fun i => guestE (eG i))
theorem va_D_drop1 {A : Nat → Prop} {p0 p1 p2 p3 : Nat × va_E} {L : va_W} (h : va_D A ([p0, p1, p2, p3] ++ L)) : va_D A ([p0, p3, p2] ++ L) := by
  have g : ∀ (i : Nat) (q : Nat × va_E), ([p0, p3, p2] ++ L)[i]? = some q → ∃ j : Nat, ([p0, p1, p2, p3] ++ L)[j]? = some q ∧ (j = if i = 0 then 0 else if i = 1 then 3 else i + 1 - (if i = 2 then 1 else 0)) := by
    intro i q hq
    match i with
    | 0 => exact ⟨0, hq, rfl⟩
    | 1 => exact ⟨3, hq, rfl⟩
    | 2 => exact ⟨2, hq, rfl⟩
    | i + 3 => exact ⟨i + 4, hq, by simp⟩
  refine ⟨fun i j p q hi hj e => ?_, fun k q hk => ?_⟩
  · obtain ⟨i2, h1, e1⟩ := g i p hi
    obtain ⟨j2, h2, e2⟩ := g j q hj
    have := h.1 i2 j2 p q h1 h2 e
    rw [e1, e2] at this
    (repeat' split at this) <;> omega
  · obtain ⟨j, h1, -⟩ := g k q hk
    exact h.2 j q h1
theorem kd_X10_comes : yX10_comes.cls = RX10 ∧ yX10_comes.cls ≠ "java/lang/invoke/MethodHandle" ∧ yX10_comes.cls ≠ "java/lang/invoke/VarHandle" ∧ (parseMethodDescriptor yX10_comes.desc).map (fun d => d.parameters.length) = some 1 := by decide +kernel
set_option maxHeartbeats 4000000 in
set_option maxRecDepth 100000 in
theorem c_X10_comes {l : Launch} {D : va_G} {cy : Nat → ClassId} (a x qG k sz : Nat) (s0 s1 s2 s3 s4 : Int32) (v5 v6 v7 v9 v10 : Value) (f : Nat → Int32) (rG : Nat → Nat) (eG : Nat → Nat → Int32) (hk : k < 60) : Met l yX10_comes wsX10_comes ({ frames := 0, cells := 1, slots := 64, locals := 0 } : Room) (kP (EL D cy) D [.ref a, .ref x] ([(a, .inr (10, [.int s0, .int s1, .int s2, .int s3, .int s4, v5, v6, v7, .ref qG, v9, v10])), (qG, .inl (cy 8, k, .inr (.inr (.inr (.inr (fun i => some (rG i))))))), (x, .inr (7, [.int (f 0), .int (f 1), .int (f 2), .int (f 3), .int (f 4), .int (f 5), .int (f 6)]))] ++ rl k rG (fun i => guestE (eG i))) sz) (kQE D (fun (_ : Nat) => True) (fun q => cmE cy a x s0 s1 s2 s3 s4 v5 v6 v7 v9 v10 f rG eG k q) (va_A ([(a, .inr (10, [.int s0, .int s1, .int s2, .int s3, .int s4, v5, v6, v7, .ref qG, v9, v10])), (qG, .inl (cy 8, k, .inr (.inr (.inr (.inr (fun i => some (rG i))))))), (x, .inr (7, [.int (f 0), .int (f 1), .int (f 2), .int (f 3), .int (f 4), .int (f 5), .int (f 6)]))] ++ rl k rG (fun i => guestE (eG i))) sz)) 1 64 (va_A ([(a, .inr (10, [.int s0, .int s1, .int s2, .int s3, .int s4, v5, v6, v7, .ref qG, v9, v10])), (qG, .inl (cy 8, k, .inr (.inr (.inr (.inr (fun i => some (rG i))))))), (x, .inr (7, [.int (f 0), .int (f 1), .int (f 2), .int (f 3), .int (f 4), .int (f 5), .int (f 6)]))] ++ rl k rG (fun i => guestE (eG i))) sz) := by
  refine kMet (y := yX10_comes) (av := [.ref a, .ref x]) (cc := cX10_comes) (maxL := 4) (ret := none) (own := RX10) (Qc := fun A9 => (kQE D (fun (_ : Nat) => True) (fun q => cmE cy a x s0 s1 s2 s3 s4 v5 v6 v7 v9 v10 f rG eG k q) A9)) (by decide) rfl rfl (Nat.le_of_ble_eq_true rfl) ?_
  intro p e s m args below meth c A hx hb hr hts hown hml hlocks hname hE hP hD hA hsz ls hl
  have hEL := hE
  obtain ⟨hE, hL⟩ := hE
  have hK := hE.1
  have hl : lv_has ls 4 [(0, .ref a), (1, .ref x)] := hl
  have hS : va_S A s.heap s.heap [] := va_S.rf
  have f39 := hts (.fieldLink RX10 39 "PeepBoxLaw$Show" "guests" "[LPeepBoxLaw$Guest;") (by decide +kernel)
  have inX10 : ∀ w ∈ wsX100, w ∈ wsX10_comes := by decide +kernel
  have kl37 := hts (.classLink RX10 37 "PeepBoxLaw$Guest") (by decide +kernel)
  obtain ⟨QQ, hQQ⟩ : ∃ Q9, Q9 = MQ below (kQE D (fun (_ : Nat) => True) (fun q => cmE cy a x s0 s1 s2 s3 s4 v5 v6 v7 v9 v10 f rG eG k q) A) args s 1 64 A := ⟨_, rfl⟩
  rw [← hQQ]
  obtain ⟨H, hH⟩ : ∃ H9, H9 = s.heap := ⟨_, rfl⟩
  have hP : va_P D vwCl ([(a, .inr (10, [.int s0, .int s1, .int s2, .int s3, .int s4, v5, v6, v7, .ref qG, v9, v10])), (qG, .inl (cy 8, k, .inr (.inr (.inr (.inr (fun i => some (rG i))))))), (x, .inr (7, [.int (f 0), .int (f 1), .int (f 2), .int (f 3), .int (f 4), .int (f 5), .int (f 6)]))] ++ rl k rG (fun i => guestE (eG i))) H := by rw [hH]; exact hP
  have hS : va_S A s.heap H [] := by rw [hH]; exact hS
  rw [← hH]
  refine lv_aload_n hx hb dX10_comes_0 rfl (lv_at hl 0 rfl) ?_
  refine va_get (D := D) (ci := 10) (v := .ref qG) (C := RX10) (T := TX10) (N := 11) hx hb hts inX10 hown hK hP 0 rfl rfl 8 (by decide) f39 (fun _ h9 => h9) rfl dX10_comes_1 ?_
  refine va_alen hx hb hK hP 1 8 rfl rfl (v := nI k) rfl dX10_comes_4 ?_
  refine lv_iconst (v := 1) hx hb dX10_comes_5 (by decide) ?_
  refine lv_iadd hx hb dX10_comes_6 ?_
  rw [show ((nI k) + (1 : Int32)) = (nI (k + 1)) from nI_1 k]
  refine kn_newr (N' := k + 1) 8 hx hb hown kl37 hL.2.2.2.1 hK rfl hP hD hS hA (nI_pos (by omega)) (nI_clamp (by omega)) (by omega) (Nat.le_of_ble_eq_true rfl) (by show 0 + (k + 1) ≤ 64; omega) dX10_comes_7 (fun q H hP hD hS => ?_)
  have hP := va_P.swap hP
  have hD := va_D.swap hD
  have hP : va_P D vwCl ([(a, .inr (10, [.int s0, .int s1, .int s2, .int s3, .int s4, v5, v6, v7, .ref qG, v9, v10])), (qG, .inl (cy 8, k, .inr (.inr (.inr (.inr (fun i => some (rG i))))))), (x, .inr (7, [.int (f 0), .int (f 1), .int (f 2), .int (f 3), .int (f 4), .int (f 5), .int (f 6)])), (q, .inl (cy 8, (k + 1), .inr (.inr (.inr (.inr (fun _ => none))))))] ++ rl k rG (fun i => guestE (eG i))) H := hP
  have hD : va_D A ([(a, .inr (10, [.int s0, .int s1, .int s2, .int s3, .int s4, v5, v6, v7, .ref qG, v9, v10])), (qG, .inl (cy 8, k, .inr (.inr (.inr (.inr (fun i => some (rG i))))))), (x, .inr (7, [.int (f 0), .int (f 1), .int (f 2), .int (f 3), .int (f 4), .int (f 5), .int (f 6)])), (q, .inl (cy 8, (k + 1), .inr (.inr (.inr (.inr (fun _ => none))))))] ++ rl k rG (fun i => guestE (eG i))) := hD
  refine lv_astore_n (lv' := [(2, .ref q), (0, .ref a), (1, .ref x)]) hx hb dX10_comes_10 rfl hl (by decide) rfl (fun ls hl => ?_)
  refine lv_iconst (v := 0) hx hb dX10_comes_11 (by decide) ?_
  refine lv_istore_n (lv' := [(3, .int (0 : Int32)), (2, .ref q), (0, .ref a), (1, .ref x)]) hx hb dX10_comes_12 rfl hl (by decide) rfl (fun ls hl => ?_)
  have J : ∀ (n i : Nat) (H : Heap) (locs : List Loc) (ls : Array Slot), k - i < n → i ≤ k → va_P D vwCl ([(a, .inr (10, [.int s0, .int s1, .int s2, .int s3, .int s4, v5, v6, v7, .ref qG, v9, v10])), (qG, .inl (cy 8, k, .inr (.inr (.inr (.inr (fun i => some (rG i))))))), (x, .inr (7, [.int (f 0), .int (f 1), .int (f 2), .int (f 3), .int (f 4), .int (f 5), .int (f 6)])), (q, .inl (cy 8, (k + 1), .inr (.inr (.inr (.inr (fun j => if j < i then some (rG j) else none))))))] ++ rl k rG (fun i => guestE (eG i))) H → va_D A ([(a, .inr (10, [.int s0, .int s1, .int s2, .int s3, .int s4, v5, v6, v7, .ref qG, v9, v10])), (qG, .inl (cy 8, k, .inr (.inr (.inr (.inr (fun i => some (rG i))))))), (x, .inr (7, [.int (f 0), .int (f 1), .int (f 2), .int (f 3), .int (f 4), .int (f 5), .int (f 6)])), (q, .inl (cy 8, (k + 1), .inr (.inr (.inr (.inr (fun j => if j < i then some (rG j) else none))))))] ++ rl k rG (fun i => guestE (eG i))) → va_S A s.heap H locs → lv_has ls 4 [(3, .int (nI i)), (2, .ref q), (0, .ref a), (1, .ref x)] → W p l e ({ frames := 0, cells := 1, slots := 64, locals := 0 } : Room) s m args below meth c H locs (0 + 1) (0 + (k + 1)) QQ (F0 m 13 ls []) := by
    intro n
    induction n with
    | zero => intro i H locs ls h1; omega
    | succ n ih =>
      intro i H locs ls h1 h2 hP hD hS hl
      refine lv_iload_n hx hb dX10_comes_13 rfl (lv_at hl 0 rfl) ?_
      refine lv_aload_n hx hb dX10_comes_14 rfl (lv_at hl 2 rfl) ?_
      refine va_get (D := D) (ci := 10) (v := .ref qG) (C := RX10) (T := TX10) (N := 11) hx hb hts inX10 hown hK hP 0 rfl rfl 8 (by decide) f39 (fun _ h9 => h9) rfl dX10_comes_15 ?_
      refine va_alen hx hb hK hP 1 8 rfl rfl (v := nI k) rfl dX10_comes_18 ?_
      by_cases hc : i < k
      · skip
        refine lv_icmp_ge (tgt := 37) hx hb dX10_comes_19 (by decide) (fun h1 => absurd h1 (nI_ge hc (by omega))) (fun _ => ?_)
        refine lv_aload_n hx hb dX10_comes_22 rfl (lv_at hl 1 rfl) ?_
        refine lv_iload_n hx hb dX10_comes_23 rfl (lv_at hl 0 rfl) ?_
        refine lv_aload_n hx hb dX10_comes_24 rfl (lv_at hl 2 rfl) ?_
        refine va_get (D := D) (ci := 10) (v := .ref qG) (C := RX10) (T := TX10) (N := 11) hx hb hts inX10 hown hK hP 0 rfl rfl 8 (by decide) f39 (fun _ h9 => h9) rfl dX10_comes_25 ?_
        refine lv_iload_n hx hb dX10_comes_28 rfl (lv_at hl 0 rfl) ?_
        refine va_aldq hx hb hK hP 1 8 rfl rfl (vp_in_nI hc (by omega)) dX10_comes_29 ?_
        rw [nI_clamp (by omega)]
        show W p l e ({ frames := 0, cells := 1, slots := 64, locals := 0 } : Room) s m args below meth c H _ (0 + 1) (0 + (k + 1)) QQ (F0 m 30 ls [.ref (rG i), .int (nI i), .ref q])
        refine va_astq (r := (RX7, TX7, 7)) hx hb hK hP hD hS 3 8 (4 + i) 7 rfl rfl (rl_get hc) rfl (vp_in_nI (by omega) (by omega)) dX10_comes_30 (fun H locs hP hD hS => ?_)
        rw [nI_clamp (by omega), va_up_step] at hP hD
        have hP : va_P D vwCl ([(a, .inr (10, [.int s0, .int s1, .int s2, .int s3, .int s4, v5, v6, v7, .ref qG, v9, v10])), (qG, .inl (cy 8, k, .inr (.inr (.inr (.inr (fun i => some (rG i))))))), (x, .inr (7, [.int (f 0), .int (f 1), .int (f 2), .int (f 3), .int (f 4), .int (f 5), .int (f 6)])), (q, .inl (cy 8, (k + 1), .inr (.inr (.inr (.inr (fun j => if j < i + 1 then some (rG j) else none))))))] ++ rl k rG (fun i => guestE (eG i))) H := hP
        have hD : va_D A ([(a, .inr (10, [.int s0, .int s1, .int s2, .int s3, .int s4, v5, v6, v7, .ref qG, v9, v10])), (qG, .inl (cy 8, k, .inr (.inr (.inr (.inr (fun i => some (rG i))))))), (x, .inr (7, [.int (f 0), .int (f 1), .int (f 2), .int (f 3), .int (f 4), .int (f 5), .int (f 6)])), (q, .inl (cy 8, (k + 1), .inr (.inr (.inr (.inr (fun j => if j < i + 1 then some (rG j) else none))))))] ++ rl k rG (fun i => guestE (eG i))) := hD
        refine lv_iinc (v := nI (i + 1)) (lv' := [(3, .int (nI (i + 1))), (2, .ref q), (0, .ref a), (1, .ref x)]) hx hb dX10_comes_31 hl (k := 0) rfl (by rw [nI_succ]; rfl) (by decide) rfl (fun ls hl => ?_)
        refine lv_goto (tgt := 13) hx hb dX10_comes_34 (by decide) ?_
        exact ih (i + 1) H _ ls (by omega) (by omega) hP hD hS hl
      · skip
        obtain rfl : i = k := (by omega)
        refine lv_icmp_ge (tgt := 37) hx hb dX10_comes_19 (by decide) (fun _ => ?_) (fun h1 => absurd (nI_le (Nat.le_refl _) (by omega)) h1)
        refine lv_aload_n hx hb dX10_comes_37 rfl (lv_at hl 1 rfl) ?_
        refine lv_aload_n hx hb dX10_comes_38 rfl (lv_at hl 2 rfl) ?_
        refine va_get (D := D) (ci := 10) (v := .ref qG) (C := RX10) (T := TX10) (N := 11) hx hb hts inX10 hown hK hP 0 rfl rfl 8 (by decide) f39 (fun _ h9 => h9) rfl dX10_comes_39 ?_
        refine va_alen hx hb hK hP 1 8 rfl rfl (v := nI i) rfl dX10_comes_42 ?_
        refine lv_aload_n hx hb dX10_comes_43 rfl (lv_at hl 3 rfl) ?_
        refine va_astq (r := (RX7, TX7, 7)) hx hb hK hP hD hS 3 8 2 7 rfl rfl rfl rfl (vp_in_nI (by omega) (by omega)) dX10_comes_44 (fun H locs hP hD hS => ?_)
        rw [nI_clamp (by omega)] at hP hD
        have hP : va_P D vwCl ([(a, .inr (10, [.int s0, .int s1, .int s2, .int s3, .int s4, v5, v6, v7, .ref qG, v9, v10])), (qG, .inl (cy 8, i, .inr (.inr (.inr (.inr (fun i => some (rG i))))))), (x, .inr (7, [.int (f 0), .int (f 1), .int (f 2), .int (f 3), .int (f 4), .int (f 5), .int (f 6)])), (q, .inl (cy 8, (i + 1), .inr (.inr (.inr (.inr (va_up (fun j => if j < i then some (rG j) else none) i (some x)))))))] ++ rl i rG (fun i => guestE (eG i))) H := hP
        have hD : va_D A ([(a, .inr (10, [.int s0, .int s1, .int s2, .int s3, .int s4, v5, v6, v7, .ref qG, v9, v10])), (qG, .inl (cy 8, i, .inr (.inr (.inr (.inr (fun i => some (rG i))))))), (x, .inr (7, [.int (f 0), .int (f 1), .int (f 2), .int (f 3), .int (f 4), .int (f 5), .int (f 6)])), (q, .inl (cy 8, (i + 1), .inr (.inr (.inr (.inr (va_up (fun j => if j < i then some (rG j) else none) i (some x)))))))] ++ rl i rG (fun i => guestE (eG i))) := hD
        obtain ⟨hP, hD⟩ := refs_refit (k := 3) (g := fun j => some (if j = i then x else rG j)) hP hD rfl (fun j hj => by unfold va_up; by_cases h : j = i <;> simp [h] <;> omega)
        have hP : va_P D vwCl ([(a, .inr (10, [.int s0, .int s1, .int s2, .int s3, .int s4, v5, v6, v7, .ref qG, v9, v10])), (qG, .inl (cy 8, i, .inr (.inr (.inr (.inr (fun i => some (rG i))))))), (x, .inr (7, [.int (f 0), .int (f 1), .int (f 2), .int (f 3), .int (f 4), .int (f 5), .int (f 6)])), (q, .inl (cy 8, (i + 1), .inr (.inr (.inr (.inr (fun j => some (if j = i then x else rG j)))))))] ++ rl i rG (fun i => guestE (eG i))) H := hP
        have hD : va_D A ([(a, .inr (10, [.int s0, .int s1, .int s2, .int s3, .int s4, v5, v6, v7, .ref qG, v9, v10])), (qG, .inl (cy 8, i, .inr (.inr (.inr (.inr (fun i => some (rG i))))))), (x, .inr (7, [.int (f 0), .int (f 1), .int (f 2), .int (f 3), .int (f 4), .int (f 5), .int (f 6)])), (q, .inl (cy 8, (i + 1), .inr (.inr (.inr (.inr (fun j => some (if j = i then x else rG j)))))))] ++ rl i rG (fun i => guestE (eG i))) := hD
        refine lv_aload_n hx hb dX10_comes_45 rfl (lv_at hl 2 rfl) ?_
        refine lv_aload_n hx hb dX10_comes_46 rfl (lv_at hl 1 rfl) ?_
        refine va_put (D := D) (ci := 10) (v := .ref q) (ty := (.array (.object "PeepBoxLaw$Guest"))) (C := RX10) (T := TX10) (N := 11) hx hb hts inX10 tyX10 tyX10_ok nmX10 hown hK hP hD hS 0 rfl rfl 8 (by decide) f39 (fun _ h9 => h9) (by decide +kernel) rfl rfl rfl (Nat.le_of_ble_eq_true rfl) dX10_comes_47 (fun H locs hP hD hS => ?_)
        have hP : va_P D vwCl ([(a, .inr (10, [.int s0, .int s1, .int s2, .int s3, .int s4, v5, v6, v7, .ref q, v9, v10])), (qG, .inl (cy 8, i, .inr (.inr (.inr (.inr (fun i => some (rG i))))))), (x, .inr (7, [.int (f 0), .int (f 1), .int (f 2), .int (f 3), .int (f 4), .int (f 5), .int (f 6)])), (q, .inl (cy 8, (i + 1), .inr (.inr (.inr (.inr (fun j => some (if j = i then x else rG j)))))))] ++ rl i rG (fun i => guestE (eG i))) H := hP
        have hD : va_D A ([(a, .inr (10, [.int s0, .int s1, .int s2, .int s3, .int s4, v5, v6, v7, .ref q, v9, v10])), (qG, .inl (cy 8, i, .inr (.inr (.inr (.inr (fun i => some (rG i))))))), (x, .inr (7, [.int (f 0), .int (f 1), .int (f 2), .int (f 3), .int (f 4), .int (f 5), .int (f 6)])), (q, .inl (cy 8, (i + 1), .inr (.inr (.inr (.inr (fun j => some (if j = i then x else rG j)))))))] ++ rl i rG (fun i => guestE (eG i))) := hD
        have hP : va_P D vwCl (cmE cy a x s0 s1 s2 s3 s4 v5 v6 v7 v9 v10 f rG eG i q) H := va_P.of hP (fun z hz => by simp only [cmE, List.mem_append, List.mem_cons, List.not_mem_nil, or_false] at hz ⊢; rcases hz with (h | h | h) | h <;> simp [h])
        have hD : va_D A (cmE cy a x s0 s1 s2 s3 s4 v5 v6 v7 v9 v10 f rG eG i q) := va_D_drop1 hD
        rw [hQQ]
        exact kr_E q trivial hx hb hr hlocks hP hD hS dX10_comes_50 (Nat.le_of_ble_eq_true rfl) (by show 0 + (i + 1) ≤ 64; omega)
  exact J (k + 1) 0 H _ ls (by omega) (Nat.zero_le _) (by have e9 : (fun j : Nat => if j < 0 then some (rG j) else none) = (fun _ => none) := (by funext j; exact if_neg (Nat.not_lt_zero j)); rw [e9]; exact hP) (by have e9 : (fun j : Nat => if j < 0 then some (rG j) else none) = (fun _ => none) := (by funext j; exact if_neg (Nat.not_lt_zero j)); rw [e9]; exact hD) hS (lv_sub hl [0, 1, 2, 3] rfl)
