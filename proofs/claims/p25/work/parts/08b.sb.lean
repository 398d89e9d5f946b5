/-! StringBuilder: its own methods (sb.py) -/
theorem kd_J5_isLatin1_aae02 : yJ5_isLatin1_aae02.cls = RJ5 ∧ yJ5_isLatin1_aae02.cls ≠ "java/lang/invoke/MethodHandle" ∧ yJ5_isLatin1_aae02.cls ≠ "java/lang/invoke/VarHandle" ∧ (parseMethodDescriptor yJ5_isLatin1_aae02.desc).map (fun d => d.parameters.length) = some 0 := by decide +kernel
set_option maxHeartbeats 4000000 in
set_option maxRecDepth 100000 in
theorem c_J5_isLatin1_aae02 {l : Launch} {D : va_G} {cy : Nat → ClassId} (b v n sz : Nat) (ml : Int32) : Met l yJ5_isLatin1_aae02 wsJ5_isLatin1_aae02 ({ frames := 0, cells := 0, slots := 0, locals := 0 } : Room) (kP (EN D cy) D [.ref b] ([(b, .inr (12, [.ref v, .int (0 : Int32), .int ml, .int (nI n)]))]) sz) (kQi D 1 [(b, .inr (12, [.ref v, .int (0 : Int32), .int ml, .int (nI n)]))] (va_A ([(b, .inr (12, [.ref v, .int (0 : Int32), .int ml, .int (nI n)]))]) sz)) 0 0 (va_A ([(b, .inr (12, [.ref v, .int (0 : Int32), .int ml, .int (nI n)]))]) sz) := by
  refine kMet (y := yJ5_isLatin1_aae02) (av := [.ref b]) (cc := cJ5_isLatin1_aae02) (maxL := 1) (ret := some .boolean) (own := RJ5) (Qc := fun A9 => (kQi D 1 [(b, .inr (12, [.ref v, .int (0 : Int32), .int ml, .int (nI n)]))] A9)) (by decide) rfl rfl (Nat.le_of_ble_eq_true rfl) ?_
  intro p e s m args below meth c A hx hb hr hts hown hml hlocks hname hE hP hD hA hsz ls hl
  have hK := hE.1
  have hl : lv_has ls 1 [(0, .ref b)] := hl
  have hS : va_S A s.heap s.heap [] := va_S.rf
  have f18 := hts (.fieldLink RJ5 18 "java/lang/String" "COMPACT_STRINGS" "Z") (by decide +kernel)
  have f22 := hts (.fieldLink RJ5 22 "java/lang/AbstractStringBuilder" "coder" "B") (by decide +kernel)
  have inJ4 : ∀ w ∈ wsJ40, w ∈ wsJ5_isLatin1_aae02 := by decide +kernel
  obtain ⟨QQ, hQQ⟩ : ∃ Q9, Q9 = MQ below (kQi D 1 [(b, .inr (12, [.ref v, .int (0 : Int32), .int ml, .int (nI n)]))] A) args s 0 0 A := ⟨_, rfl⟩
  rw [← hQQ]
  obtain ⟨H, hH⟩ : ∃ H9, H9 = s.heap := ⟨_, rfl⟩
  have hP : va_P D vwCl ([(b, .inr (12, [.ref v, .int (0 : Int32), .int ml, .int (nI n)]))]) H := by rw [hH]; exact hP
  have hS : va_S A s.heap H [] := by rw [hH]; exact hS
  rw [← hH]
  refine va_gets (v := .int 1) hx hb hE.2.2.2.1 hS hown f18 (fun _ h9 => h9) dJ5_isLatin1_aae02_0 ?_
  refine lv_if_eq (tgt := 17) hx hb dJ5_isLatin1_aae02_3 (by decide) (fun h1 => absurd h1 ((by decide : ¬ ((1 : Int32) = 0)))) (fun _ => ?_)
  refine lv_aload_n hx hb dJ5_isLatin1_aae02_6 rfl (lv_at hl 0 rfl) ?_
  refine va_get (D := D) (ci := 12) (v := .int (0 : Int32)) (C := RJ4) (T := TJ4) (N := 4) hx hb hts inJ4 hown hK hP 0 rfl rfl 1 (by decide) f22 (fun _ h9 => h9) rfl dJ5_isLatin1_aae02_7 ?_
  refine lv_if_ne (tgt := 17) hx hb dJ5_isLatin1_aae02_10 (by decide) (fun h2 => absurd (rfl) h2) (fun _ => ?_)
  refine lv_iconst (v := 1) hx hb dJ5_isLatin1_aae02_13 (by decide) ?_
  refine lv_goto (tgt := 18) hx hb dJ5_isLatin1_aae02_14 (by decide) ?_
  rw [hQQ]
  exact kr_z (v := 1) hx hb hr hlocks rfl hP hD hS dJ5_isLatin1_aae02_18
theorem kd_J1_canEncode_fc78d : yJ1_canEncode_fc78d.cls ≠ "java/lang/invoke/MethodHandle" ∧ yJ1_canEncode_fc78d.cls ≠ "java/lang/invoke/VarHandle" ∧ (parseMethodDescriptor yJ1_canEncode_fc78d.desc).map (fun d => d.parameters.length) = some 1 := by decide +kernel
set_option maxHeartbeats 4000000 in
set_option maxRecDepth 100000 in
theorem c_J1_canEncode_fc78d {l : Launch} {D : va_G} {cy : Nat → ClassId} (sz : Nat) (x : Int32) (hx8 : ¬ (255 : Int32) < x) : Met l yJ1_canEncode_fc78d wsJ1_canEncode_fc78d ({ frames := 0, cells := 0, slots := 0, locals := 0 } : Room) (kP (EN D cy) D [.int x] (([] : va_W)) sz) (kQi D 1 ([] : va_W) (va_A (([] : va_W)) sz)) 0 0 (va_A (([] : va_W)) sz) := by
  refine kMet (y := yJ1_canEncode_fc78d) (av := [.int x]) (cc := cJ1_canEncode_fc78d) (maxL := 1) (ret := some .boolean) (own := RJ1) (Qc := fun A9 => (kQi D 1 ([] : va_W) A9)) (by decide) rfl rfl (Nat.le_of_ble_eq_true rfl) ?_
  intro p e s m args below meth c A hx hb hr hts hown hml hlocks hname hE hP hD hA hsz ls hl
  have hK := hE.1
  have hl : lv_has ls 1 [(0, .int x)] := hl
  have hS : va_S A s.heap s.heap [] := va_S.rf
  obtain ⟨QQ, hQQ⟩ : ∃ Q9, Q9 = MQ below (kQi D 1 ([] : va_W) A) args s 0 0 A := ⟨_, rfl⟩
  rw [← hQQ]
  obtain ⟨H, hH⟩ : ∃ H9, H9 = s.heap := ⟨_, rfl⟩
  have hP : va_P D vwCl (([] : va_W)) H := by rw [hH]; exact hP
  have hS : va_S A s.heap H [] := by rw [hH]; exact hS
  rw [← hH]
  refine lv_iload_n hx hb dJ1_canEncode_fc78d_0 rfl (lv_at hl 0 rfl) ?_
  refine lv_sipush (v := 255) hx hb dJ1_canEncode_fc78d_1 (by decide) ?_
  refine lv_icmp_gt (tgt := 11) hx hb dJ1_canEncode_fc78d_4 (by decide) (fun h1 => absurd h1 (hx8)) (fun _ => ?_)
  refine lv_iconst (v := 1) hx hb dJ1_canEncode_fc78d_7 (by decide) ?_
  refine lv_goto (tgt := 12) hx hb dJ1_canEncode_fc78d_8 (by decide) ?_
  rw [hQQ]
  exact kr_z (v := 1) hx hb hr hlocks rfl hP hD hS dJ1_canEncode_fc78d_12
theorem kd_J8_newLength_cabcc : yJ8_newLength_cabcc.cls ≠ "java/lang/invoke/MethodHandle" ∧ yJ8_newLength_cabcc.cls ≠ "java/lang/invoke/VarHandle" ∧ (parseMethodDescriptor yJ8_newLength_cabcc.desc).map (fun d => d.parameters.length) = some 3 := by decide +kernel
set_option maxHeartbeats 4000000 in
set_option maxRecDepth 100000 in
theorem c_J8_newLength_cabcc {l : Launch} {D : va_G} {cy : Nat → ClassId} (m0 g p0 sz : Nat) (h1 : 0 < m0 + max g p0) (h2 : m0 + max g p0 < 2 ^ 30) : Met l yJ8_newLength_cabcc wsJ8_newLength_cabcc ({ frames := 1, cells := 0, slots := 0, locals := 40 } : Room) (kP (EN D cy) D [.int (nI m0), .int (nI g), .int (nI p0)] (([] : va_W)) sz) (kQi D (nI (m0 + max g p0)) ([] : va_W) (va_A (([] : va_W)) sz)) 0 0 (va_A (([] : va_W)) sz) := by
  refine kMet (y := yJ8_newLength_cabcc) (av := [.int (nI m0), .int (nI g), .int (nI p0)]) (cc := cJ8_newLength_cabcc) (maxL := 4) (ret := some .int) (own := RJ8) (Qc := fun A9 => (kQi D (nI (m0 + max g p0)) ([] : va_W) A9)) (by decide) rfl rfl (Nat.le_of_ble_eq_true rfl) ?_
  intro p e s m args below meth c A hx hb hr hts hown hml hlocks hname hE hP hD hA hsz ls hl
  have hK := hE.1
  have hl : lv_has ls 4 [(0, .int (nI m0)), (1, .int (nI g)), (2, .int (nI p0))] := hl
  have hS : va_S A s.heap s.heap [] := va_S.rf
  have m194 := hts (.methodLink RJ8 194 Lib.Math.max.name) (by decide +kernel)
  have s_va_mmax := hts (.static Lib.Math.max.name) (by decide +kernel)
  have iMath := hts (.initialized "java/lang/Math") (by decide +kernel)
  have k_va_mmax := hts (.code Lib.Math.max.name Lib.Math.max.code 2 (some .int)) (by decide +kernel)
  have c200 := hts (.constant RJ8 200 (2147483639)) (by decide +kernel)
  obtain ⟨QQ, hQQ⟩ : ∃ Q9, Q9 = MQ below (kQi D (nI (m0 + max g p0)) ([] : va_W) A) args s 0 0 A := ⟨_, rfl⟩
  rw [← hQQ]
  obtain ⟨H, hH⟩ : ∃ H9, H9 = s.heap := ⟨_, rfl⟩
  have hP : va_P D vwCl (([] : va_W)) H := by rw [hH]; exact hP
  have hS : va_S A s.heap H [] := by rw [hH]; exact hS
  rw [← hH]
  refine lv_iload_n hx hb dJ8_newLength_cabcc_0 rfl (lv_at hl 0 rfl) ?_
  refine lv_iload_n hx hb dJ8_newLength_cabcc_1 rfl (lv_at hl 1 rfl) ?_
  refine lv_iload_n hx hb dJ8_newLength_cabcc_2 rfl (lv_at hl 2 rfl) ?_
  refine va_mmax hx hb (by rw [hml]; exact hl.1.symm) hown m194 s_va_mmax iMath k_va_mmax (Nat.le_of_ble_eq_true rfl) (Nat.le_of_ble_eq_true rfl) (Nat.zero_le _) (Nat.zero_le _) dJ8_newLength_cabcc_3 ?_
  refine lv_iadd hx hb dJ8_newLength_cabcc_6 ?_
  rw [show ((nI m0) + (if (nI g) < (nI p0) then (nI p0) else (nI g))) = (nI (m0 + max g p0)) from newLen_eq (by omega) (by omega)]
  refine lv_istore_n (lv' := [(3, .int (nI (m0 + max g p0))), (0, .int (nI m0)), (1, .int (nI g)), (2, .int (nI p0))]) hx hb dJ8_newLength_cabcc_7 rfl hl (by decide) rfl (fun ls hl => ?_)
  refine lv_iconst (v := 0) hx hb dJ8_newLength_cabcc_8 (by decide) ?_
  refine lv_iload_n hx hb dJ8_newLength_cabcc_9 rfl (lv_at hl 0 rfl) ?_
  refine lv_icmp_ge (tgt := 21) hx hb dJ8_newLength_cabcc_10 (by decide) (fun h1 => absurd h1 (nI_nle (by omega) (by omega))) (fun _ => ?_)
  refine lv_iload_n hx hb dJ8_newLength_cabcc_13 rfl (lv_at hl 0 rfl) ?_
  refine lv_ldc (v := 2147483639) hx hb hown c200 dJ8_newLength_cabcc_14 ?_
  refine lv_icmp_gt (tgt := 21) hx hb dJ8_newLength_cabcc_16 (by decide) (fun h2 => absurd h2 (nI_nlt (a := 2147483639) (by omega) (by decide))) (fun _ => ?_)
  refine lv_iload_n hx hb dJ8_newLength_cabcc_19 rfl (lv_at hl 0 rfl) ?_
  rw [hQQ]
  exact kr_i hx hb hr hlocks hP hD hS dJ8_newLength_cabcc_20
theorem kd_J5_newCapacity_0f7a4 : yJ5_newCapacity_0f7a4.cls = RJ5 ∧ yJ5_newCapacity_0f7a4.cls ≠ "java/lang/invoke/MethodHandle" ∧ yJ5_newCapacity_0f7a4.cls ≠ "java/lang/invoke/VarHandle" ∧ (parseMethodDescriptor yJ5_newCapacity_0f7a4.desc).map (fun d => d.parameters.length) = some 1 := by decide +kernel
set_option maxHeartbeats 4000000 in
set_option maxRecDepth 100000 in
theorem c_J5_newCapacity_0f7a4 {l : Launch} {D : va_G} {cy : Nat → ClassId} (b v m0 n q sz : Nat) (ml : Int32) (f : Nat → Int32) (hm : m0 ≤ 200) (hq : q ≤ 100) (hmq : m0 < q) : Met l yJ5_newCapacity_0f7a4 wsJ5_newCapacity_0f7a4 ({ frames := 2, cells := 0, slots := 0, locals := 80 } : Room) (kP (EN D cy) D [.ref b, .int (nI q)] ([(b, .inr (12, [.ref v, .int (0 : Int32), .int ml, .int (nI n)])), (v, .inl (cy 1, m0, .inl f))]) sz) (kQi D (nI (m0 + max (q - m0) (m0 + 2))) [(b, .inr (12, [.ref v, .int (0 : Int32), .int ml, .int (nI n)])), (v, .inl (cy 1, m0, .inl f))] (va_A ([(b, .inr (12, [.ref v, .int (0 : Int32), .int ml, .int (nI n)])), (v, .inl (cy 1, m0, .inl f))]) sz)) 0 0 (va_A ([(b, .inr (12, [.ref v, .int (0 : Int32), .int ml, .int (nI n)])), (v, .inl (cy 1, m0, .inl f))]) sz) := by
  refine kMet (y := yJ5_newCapacity_0f7a4) (av := [.ref b, .int (nI q)]) (cc := cJ5_newCapacity_0f7a4) (maxL := 6) (ret := some .int) (own := RJ5) (Qc := fun A9 => (kQi D (nI (m0 + max (q - m0) (m0 + 2))) [(b, .inr (12, [.ref v, .int (0 : Int32), .int ml, .int (nI n)])), (v, .inl (cy 1, m0, .inl f))] A9)) (by decide) rfl rfl (Nat.le_of_ble_eq_true rfl) ?_
  intro p e s m args below meth c A hx hb hr hts hown hml hlocks hname hE hP hD hA hsz ls hl
  have hK := hE.1
  have hl : lv_has ls 6 [(0, .ref b), (1, .int (nI q))] := hl
  have hS : va_S A s.heap s.heap [] := va_S.rf
  have f15 := hts (.fieldLink RJ5 15 "java/lang/AbstractStringBuilder" "value" "[B") (by decide +kernel)
  have inJ4 : ∀ w ∈ wsJ40, w ∈ wsJ5_newCapacity_0f7a4 := by decide +kernel
  have f22 := hts (.fieldLink RJ5 22 "java/lang/AbstractStringBuilder" "coder" "B") (by decide +kernel)
  have c39 := hts (.constant RJ5 39 (2147483647)) (by decide +kernel)
  obtain ⟨QQ, hQQ⟩ : ∃ Q9, Q9 = MQ below (kQi D (nI (m0 + max (q - m0) (m0 + 2))) [(b, .inr (12, [.ref v, .int (0 : Int32), .int ml, .int (nI n)])), (v, .inl (cy 1, m0, .inl f))] A) args s 0 0 A := ⟨_, rfl⟩
  rw [← hQQ]
  obtain ⟨H, hH⟩ : ∃ H9, H9 = s.heap := ⟨_, rfl⟩
  have hP : va_P D vwCl ([(b, .inr (12, [.ref v, .int (0 : Int32), .int ml, .int (nI n)])), (v, .inl (cy 1, m0, .inl f))]) H := by rw [hH]; exact hP
  have hS : va_S A s.heap H [] := by rw [hH]; exact hS
  rw [← hH]
  refine lv_aload_n hx hb dJ5_newCapacity_0f7a4_0 rfl (lv_at hl 0 rfl) ?_
  refine va_get (D := D) (ci := 12) (v := .ref v) (C := RJ4) (T := TJ4) (N := 4) hx hb hts inJ4 hown hK hP 0 rfl rfl 0 (by decide) f15 (fun _ h9 => h9) rfl dJ5_newCapacity_0f7a4_1 ?_
  refine va_alen hx hb hK hP 1 1 rfl rfl (v := nI m0) rfl dJ5_newCapacity_0f7a4_4 ?_
  refine lv_istore_n (lv' := [(2, .int (nI m0)), (0, .ref b), (1, .int (nI q))]) hx hb dJ5_newCapacity_0f7a4_5 rfl hl (by decide) rfl (fun ls hl => ?_)
  refine lv_iload_n hx hb dJ5_newCapacity_0f7a4_6 rfl (lv_at hl 2 rfl) ?_
  refine lv_aload_n hx hb dJ5_newCapacity_0f7a4_7 rfl (lv_at hl 1 rfl) ?_
  refine va_get (D := D) (ci := 12) (v := .int (0 : Int32)) (C := RJ4) (T := TJ4) (N := 4) hx hb hts inJ4 hown hK hP 0 rfl rfl 1 (by decide) f22 (fun _ h9 => h9) rfl dJ5_newCapacity_0f7a4_8 ?_
  refine lv_ishl hx hb dJ5_newCapacity_0f7a4_11 ?_
  rw [show ((nI q) <<< ((0 : Int32) &&& 31)) = (nI q) from sb_shl0 (nI q)]
  refine lv_istore_n (lv' := [(3, .int (nI q)), (2, .int (nI m0)), (0, .ref b), (1, .int (nI q))]) hx hb dJ5_newCapacity_0f7a4_12 rfl hl (by decide) rfl (fun ls hl => ?_)
  refine lv_iload_n hx hb dJ5_newCapacity_0f7a4_13 rfl (lv_at hl 0 rfl) ?_
  refine lv_iload_n hx hb dJ5_newCapacity_0f7a4_14 rfl (lv_at hl 1 rfl) ?_
  refine lv_isub hx hb dJ5_newCapacity_0f7a4_15 ?_
  rw [show ((nI q) - (nI m0)) = (nI (q - m0)) from pk_sub (by omega)]
  refine lv_istore (lv' := [(4, .int (nI (q - m0))), (3, .int (nI q)), (2, .int (nI m0)), (0, .ref b), (1, .int (nI q))]) hx hb dJ5_newCapacity_0f7a4_16 hl (by decide) rfl (fun ls hl => ?_)
  refine lv_iload_n hx hb dJ5_newCapacity_0f7a4_18 rfl (lv_at hl 2 rfl) ?_
  refine lv_iload hx hb dJ5_newCapacity_0f7a4_19 (lv_at hl 0 rfl) ?_
  refine lv_iload_n hx hb dJ5_newCapacity_0f7a4_21 rfl (lv_at hl 2 rfl) ?_
  refine lv_iconst (v := 2) hx hb dJ5_newCapacity_0f7a4_22 (by decide) ?_
  refine lv_aload_n hx hb dJ5_newCapacity_0f7a4_23 rfl (lv_at hl 3 rfl) ?_
  refine va_get (D := D) (ci := 12) (v := .int (0 : Int32)) (C := RJ4) (T := TJ4) (N := 4) hx hb hts inJ4 hown hK hP 0 rfl rfl 1 (by decide) f22 (fun _ h9 => h9) rfl dJ5_newCapacity_0f7a4_24 ?_
  refine lv_ishl hx hb dJ5_newCapacity_0f7a4_27 ?_
  rw [show ((2 : Int32) <<< ((0 : Int32) &&& 31)) = (nI 2) from sb_shl0 (nI 2)]
  refine lv_iadd hx hb dJ5_newCapacity_0f7a4_28 ?_
  rw [show ((nI m0) + (nI 2)) = (nI (m0 + 2)) from nI_add m0 2]
  refine kg_i (va_runS (As := [.int (nI m0), .int (nI (q - m0)), .int (nI (m0 + 2))]) (rest := []) ⟨hx, hb, hml, hown, hts⟩ (c_J8_newLength_cabcc m0 (q - m0) (m0 + 2) H.size (by omega) (by omega)) (va_cwS 3 hts gJ5_newCapacity_0f7a4_J8_newLength_cabcc rfl rfl rfl kd_J8_newLength_cabcc ⟨Nat.le_of_ble_eq_true rfl, Nat.le_of_ble_eq_true rfl⟩) ⟨kP_blind (EN_ok D cy) D _ _ _, kStart (EN_ok D cy) hE hP hD hS hA [] rfl rfl _⟩ rfl rfl hl.1 rfl (lv_room (Nat.le_of_ble_eq_true rfl)) dJ5_newCapacity_0f7a4_29 ⟨Nat.le_of_ble_eq_true rfl, Nat.le_of_ble_eq_true rfl⟩) hP hD hS hA (fun H locs hP hD hS => ?_)
  refine lv_istore (lv' := [(5, .int (nI (m0 + max (q - m0) (m0 + 2)))), (4, .int (nI (q - m0))), (3, .int (nI q)), (2, .int (nI m0)), (0, .ref b), (1, .int (nI q))]) hx hb dJ5_newCapacity_0f7a4_32 hl (by decide) rfl (fun ls hl => ?_)
  refine lv_iload hx hb dJ5_newCapacity_0f7a4_34 (lv_at hl 0 rfl) ?_
  refine lv_ldc (v := 2147483647) hx hb hown c39 dJ5_newCapacity_0f7a4_36 ?_
  refine lv_icmp_ne (tgt := 51) hx hb dJ5_newCapacity_0f7a4_38 (by decide) (fun _ => ?_) (fun h1 => absurd h1 (fun z => by have := (nI_eq (by omega) (by decide)).mp (show nI (m0 + max (q - m0) (m0 + 2)) = nI 2147483647 from z); omega))
  refine lv_iload hx hb dJ5_newCapacity_0f7a4_51 (lv_at hl 0 rfl) ?_
  refine lv_aload_n hx hb dJ5_newCapacity_0f7a4_53 rfl (lv_at hl 4 rfl) ?_
  refine va_get (D := D) (ci := 12) (v := .int (0 : Int32)) (C := RJ4) (T := TJ4) (N := 4) hx hb hts inJ4 hown hK hP 0 rfl rfl 1 (by decide) f22 (fun _ h9 => h9) rfl dJ5_newCapacity_0f7a4_54 ?_
  refine lv_ishr hx hb dJ5_newCapacity_0f7a4_57 ?_
  rw [show ((nI (m0 + max (q - m0) (m0 + 2))) >>> ((0 : Int32) &&& 31)) = (nI (m0 + max (q - m0) (m0 + 2))) from sb_shr0 _]
  rw [hQQ]
  exact kr_i hx hb hr hlocks hP hD hS dJ5_newCapacity_0f7a4_58
theorem sub_le0 {q m : Nat} (hq : q < 2 ^ 30) (hm : m < 2 ^ 30) : nI q - nI m ≤ 0 ↔ q ≤ m := by
  rw [Int32.le_iff_toInt_le, pk_sub_toInt (by omega) (by omega), Int32.toInt_zero]; omega
theorem min_r {a b : Nat} (h : a ≤ b) (hb : b < 2 ^ 31) : (if nI b < nI a then nI b else nI a) = nI a := if_neg (nI_nlt h hb)
theorem kd_J7_copyOf_9075b : yJ7_copyOf_9075b.cls ≠ "java/lang/invoke/MethodHandle" ∧ yJ7_copyOf_9075b.cls ≠ "java/lang/invoke/VarHandle" ∧ (parseMethodDescriptor yJ7_copyOf_9075b.desc).map (fun d => d.parameters.length) = some 2 := by decide +kernel
set_option maxHeartbeats 4000000 in
set_option maxRecDepth 100000 in
theorem c_J7_copyOf_9075b {l : Launch} {D : va_G} {cy : Nat → ClassId} (v m0 q sz : Nat) (f : Nat → Int32) (hmq : m0 < q) (hq : q ≤ 200) (hf : sb_Fit f) : Met l yJ7_copyOf_9075b wsJ7_copyOf_9075b ({ frames := 1, cells := 1, slots := 200, locals := 60 } : Room) (kP (EN D cy) D [.ref v, .int (nI q)] ([(v, .inl (cy 1, m0, .inl f))]) sz) (kQR D (fun (g : Nat → Int32) (_ : Nat) => sb_Fit g ∧ ∀ j, j < m0 → g j = f j) (fun g x => [(v, byE cy m0 f), (x, byE cy q g)]) (va_A ([(v, .inl (cy 1, m0, .inl f))]) sz)) 1 200 (va_A ([(v, .inl (cy 1, m0, .inl f))]) sz) := by
  refine kMet (y := yJ7_copyOf_9075b) (av := [.ref v, .int (nI q)]) (cc := cJ7_copyOf_9075b) (maxL := 3) (ret := some (.array .byte)) (own := RJ7) (Qc := fun A9 => (kQR D (fun (g : Nat → Int32) (_ : Nat) => sb_Fit g ∧ ∀ j, j < m0 → g j = f j) (fun g x => [(v, byE cy m0 f), (x, byE cy q g)]) A9)) (by decide) rfl rfl (Nat.le_of_ble_eq_true rfl) ?_
  intro p e s m args below meth c A hx hb hr hts hown hml hlocks hname hE hP hD hA hsz ls hl
  have hK := hE.1
  have hl : lv_has ls 3 [(0, .ref v), (1, .int (nI q))] := hl
  have hS : va_S A s.heap s.heap [] := va_S.rf
  have aB := hts (.arrayClass .byte) (by decide +kernel)
  have m304 := hts (.methodLink RJ7 304 Lib.Math.min.name) (by decide +kernel)
  have s_va_mmin := hts (.static Lib.Math.min.name) (by decide +kernel)
  have iMath := hts (.initialized "java/lang/Math") (by decide +kernel)
  have k_va_mmin := hts (.code Lib.Math.min.name Lib.Math.min.code 2 (some .int)) (by decide +kernel)
  have m150 := hts (.methodLink RJ7 150 arraycopyName) (by decide +kernel)
  have nat := hts (.native arraycopyName) (by decide +kernel)
  have snat := hts (.static arraycopyName) (by decide +kernel)
  have iSys := hts (.initialized "java/lang/System") (by decide +kernel)
  obtain ⟨QQ, hQQ⟩ : ∃ Q9, Q9 = MQ below (kQR D (fun (g : Nat → Int32) (_ : Nat) => sb_Fit g ∧ ∀ j, j < m0 → g j = f j) (fun g x => [(v, byE cy m0 f), (x, byE cy q g)]) A) args s 1 200 A := ⟨_, rfl⟩
  rw [← hQQ]
  obtain ⟨H, hH⟩ : ∃ H9, H9 = s.heap := ⟨_, rfl⟩
  have hP : va_P D vwCl ([(v, .inl (cy 1, m0, .inl f))]) H := by rw [hH]; exact hP
  have hS : va_S A s.heap H [] := by rw [hH]; exact hS
  rw [← hH]
  refine lv_iload_n hx hb dJ7_copyOf_9075b_0 rfl (lv_at hl 1 rfl) ?_
  refine lv_aload_n hx hb dJ7_copyOf_9075b_1 rfl (lv_at hl 0 rfl) ?_
  refine va_alen hx hb hK hP 0 1 rfl rfl (v := nI m0) rfl dJ7_copyOf_9075b_2 ?_
  refine lv_icmp_ne (tgt := 14) hx hb dJ7_copyOf_9075b_3 (by decide) (fun _ => ?_) (fun h1 => absurd h1 (fun z => by have := (nI_eq (by omega) (by omega)).mp z; omega))
  refine lv_iload_n hx hb dJ7_copyOf_9075b_14 rfl (lv_at hl 1 rfl) ?_
  refine kn_newb (N' := q) hx hb aB hK hP hD hS hA (nI_pos (by omega)) (nI_clamp (by omega)) (by omega) (Nat.le_of_ble_eq_true rfl) (by show 0 + q ≤ 200; omega) dJ7_copyOf_9075b_15 (fun x H hP hD hS => ?_)
  have hP : va_P D vwCl ([(v, .inl (cy 1, m0, .inl f)), (x, .inl (cy 1, q, .inl (fun _ => (0 : Int32))))]) H := hP
  have hD : va_D A ([(v, .inl (cy 1, m0, .inl f)), (x, .inl (cy 1, q, .inl (fun _ => (0 : Int32))))]) := hD
  refine lv_astore_n (lv' := [(2, .ref x), (0, .ref v), (1, .int (nI q))]) hx hb dJ7_copyOf_9075b_17 rfl hl (by decide) rfl (fun ls hl => ?_)
  refine lv_aload_n hx hb dJ7_copyOf_9075b_18 rfl (lv_at hl 1 rfl) ?_
  refine lv_iconst (v := 0) hx hb dJ7_copyOf_9075b_19 (by decide) ?_
  refine lv_aload_n hx hb dJ7_copyOf_9075b_20 rfl (lv_at hl 0 rfl) ?_
  refine lv_iconst (v := 0) hx hb dJ7_copyOf_9075b_21 (by decide) ?_
  refine lv_aload_n hx hb dJ7_copyOf_9075b_22 rfl (lv_at hl 1 rfl) ?_
  refine va_alen hx hb hK hP 0 1 rfl rfl (v := nI m0) rfl dJ7_copyOf_9075b_23 ?_
  refine lv_iload_n hx hb dJ7_copyOf_9075b_24 rfl (lv_at hl 2 rfl) ?_
  refine va_mmin hx hb (by rw [hml]; exact hl.1.symm) hown m304 s_va_mmin iMath k_va_mmin (Nat.le_of_ble_eq_true rfl) (Nat.le_of_ble_eq_true rfl) (Nat.le_of_ble_eq_true rfl) (by show 0 + q ≤ 200; omega) dJ7_copyOf_9075b_25 ?_
  rw [show (if (nI q) < (nI m0) then (nI q) else (nI m0)) = (nI m0) from min_r (by omega) (by omega)]
  refine va_copyi hx hb (by rw [hml]; exact hl.1.symm) hown m150 nat snat iSys hK hP hD hS 0 1 1 1 rfl rfl rfl rfl rfl (by decide) (by decide) (nI_pos (by omega)) (by rw [nI_clamp (by omega)]; show 0 + m0 ≤ m0; omega) (by rw [nI_clamp (by omega)]; show 0 + m0 ≤ q; omega) (fun i _ => hf _) (Nat.le_of_ble_eq_true rfl) (Nat.le_of_ble_eq_true rfl) dJ7_copyOf_9075b_28 (fun H locs hP hD hS => ?_)
  obtain ⟨g, eg⟩ : ∃ g9 : Nat → Int32, g9 = va_cpy f (fun _ => 0) (0 : Int32).toNatClampNeg (0 : Int32).toNatClampNeg (nI m0).toNatClampNeg := ⟨_, rfl⟩
  have hP : va_P D vwCl ([(v, .inl (cy 1, m0, .inl f)), (x, .inl (cy 1, q, .inl g))]) H := by rw [eg]; exact hP
  have hD : va_D A ([(v, .inl (cy 1, m0, .inl f)), (x, .inl (cy 1, q, .inl g))]) := by rw [eg]; exact hD
  rw [nI_clamp (by omega), sb_cl0] at eg
  refine lv_aload_n hx hb dJ7_copyOf_9075b_31 rfl (lv_at hl 0 rfl) ?_
  rw [hQQ]
  exact kr_R g ⟨by rw [eg]; exact sb_fitC hf sb_fit0, fun j hj => by rw [eg]; exact sb_cpy0 hj⟩ hx hb hr (Or.inr ⟨_, rfl⟩) hlocks hP hD hS dJ7_copyOf_9075b_32 (Nat.le_of_ble_eq_true rfl) (by show 0 + q ≤ 200; omega)
theorem kd_J5_ensureCapacityInternal_d00df : yJ5_ensureCapacityInternal_d00df.cls = RJ5 ∧ yJ5_ensureCapacityInternal_d00df.cls ≠ "java/lang/invoke/MethodHandle" ∧ yJ5_ensureCapacityInternal_d00df.cls ≠ "java/lang/invoke/VarHandle" ∧ (parseMethodDescriptor yJ5_ensureCapacityInternal_d00df.desc).map (fun d => d.parameters.length) = some 1 := by decide +kernel
set_option maxHeartbeats 4000000 in
set_option maxRecDepth 100000 in
theorem c_J5_ensureCapacityInternal_d00df {l : Launch} {D : va_G} {cy : Nat → ClassId} (b v m0 n q sz : Nat) (ml : Int32) (f : Nat → Int32) (hm : m0 ≤ 200) (hq : q ≤ 99) (hf : sb_Fit f) : Met l yJ5_ensureCapacityInternal_d00df wsJ5_ensureCapacityInternal_d00df ({ frames := 3, cells := 1, slots := 200, locals := 120 } : Room) (kP (EN D cy) D [.ref b, .int (nI q)] ([(b, .inr (12, [.ref v, .int (0 : Int32), .int ml, .int (nI n)])), (v, .inl (cy 1, m0, .inl f))]) sz) (kQE D (fun (u : Nat × Nat × (Nat → Int32)) => q ≤ u.2.1 ∧ u.2.1 ≤ 200 ∧ sb_Fit u.2.2 ∧ ∀ j, j < m0 → u.2.2 j = f j) (fun u => [(b, sbE u.1 ml n), (u.1, byE cy u.2.1 u.2.2)]) (va_A ([(b, .inr (12, [.ref v, .int (0 : Int32), .int ml, .int (nI n)])), (v, .inl (cy 1, m0, .inl f))]) sz)) 1 200 (va_A ([(b, .inr (12, [.ref v, .int (0 : Int32), .int ml, .int (nI n)])), (v, .inl (cy 1, m0, .inl f))]) sz) := by
  refine kMet (y := yJ5_ensureCapacityInternal_d00df) (av := [.ref b, .int (nI q)]) (cc := cJ5_ensureCapacityInternal_d00df) (maxL := 3) (ret := none) (own := RJ5) (Qc := fun A9 => (kQE D (fun (u : Nat × Nat × (Nat → Int32)) => q ≤ u.2.1 ∧ u.2.1 ≤ 200 ∧ sb_Fit u.2.2 ∧ ∀ j, j < m0 → u.2.2 j = f j) (fun u => [(b, sbE u.1 ml n), (u.1, byE cy u.2.1 u.2.2)]) A9)) (by decide) rfl rfl (Nat.le_of_ble_eq_true rfl) ?_
  intro p e s m args below meth c A hx hb hr hts hown hml hlocks hname hE hP hD hA hsz ls hl
  have hK := hE.1
  have hl : lv_has ls 3 [(0, .ref b), (1, .int (nI q))] := hl
  have hS : va_S A s.heap s.heap [] := va_S.rf
  have f15 := hts (.fieldLink RJ5 15 "java/lang/AbstractStringBuilder" "value" "[B") (by decide +kernel)
  have inJ4 : ∀ w ∈ wsJ40, w ∈ wsJ5_ensureCapacityInternal_d00df := by decide +kernel
  have f22 := hts (.fieldLink RJ5 22 "java/lang/AbstractStringBuilder" "coder" "B") (by decide +kernel)
  obtain ⟨QQ, hQQ⟩ : ∃ Q9, Q9 = MQ below (kQE D (fun (u : Nat × Nat × (Nat → Int32)) => q ≤ u.2.1 ∧ u.2.1 ≤ 200 ∧ sb_Fit u.2.2 ∧ ∀ j, j < m0 → u.2.2 j = f j) (fun u => [(b, sbE u.1 ml n), (u.1, byE cy u.2.1 u.2.2)]) A) args s 1 200 A := ⟨_, rfl⟩
  rw [← hQQ]
  obtain ⟨H, hH⟩ : ∃ H9, H9 = s.heap := ⟨_, rfl⟩
  have hP : va_P D vwCl ([(b, .inr (12, [.ref v, .int (0 : Int32), .int ml, .int (nI n)])), (v, .inl (cy 1, m0, .inl f))]) H := by rw [hH]; exact hP
  have hS : va_S A s.heap H [] := by rw [hH]; exact hS
  rw [← hH]
  refine lv_aload_n hx hb dJ5_ensureCapacityInternal_d00df_0 rfl (lv_at hl 0 rfl) ?_
  refine va_get (D := D) (ci := 12) (v := .ref v) (C := RJ4) (T := TJ4) (N := 4) hx hb hts inJ4 hown hK hP 0 rfl rfl 0 (by decide) f15 (fun _ h9 => h9) rfl dJ5_ensureCapacityInternal_d00df_1 ?_
  refine va_alen hx hb hK hP 1 1 rfl rfl (v := nI m0) rfl dJ5_ensureCapacityInternal_d00df_4 ?_
  refine lv_aload_n hx hb dJ5_ensureCapacityInternal_d00df_5 rfl (lv_at hl 0 rfl) ?_
  refine va_get (D := D) (ci := 12) (v := .int (0 : Int32)) (C := RJ4) (T := TJ4) (N := 4) hx hb hts inJ4 hown hK hP 0 rfl rfl 1 (by decide) f22 (fun _ h9 => h9) rfl dJ5_ensureCapacityInternal_d00df_6 ?_
  refine lv_ishr hx hb dJ5_ensureCapacityInternal_d00df_9 ?_
  rw [show ((nI m0) >>> ((0 : Int32) &&& 31)) = (nI m0) from sb_shr0 (nI m0)]
  refine lv_istore_n (lv' := [(2, .int (nI m0)), (0, .ref b), (1, .int (nI q))]) hx hb dJ5_ensureCapacityInternal_d00df_10 rfl hl (by decide) rfl (fun ls hl => ?_)
  refine lv_iload_n hx hb dJ5_ensureCapacityInternal_d00df_11 rfl (lv_at hl 2 rfl) ?_
  refine lv_iload_n hx hb dJ5_ensureCapacityInternal_d00df_12 rfl (lv_at hl 0 rfl) ?_
  refine lv_isub hx hb dJ5_ensureCapacityInternal_d00df_13 ?_
  by_cases hc : q ≤ m0
  · skip
    refine lv_if_le (tgt := 38) hx hb dJ5_ensureCapacityInternal_d00df_14 (by decide) (fun _ => ?_) (fun h1 => absurd ((sub_le0 (by omega) (by omega)).mpr hc) h1)
    rw [hQQ]
    exact kr_E (v, m0, f) ⟨hc, hm, hf, fun j _ => rfl⟩ hx hb hr hlocks hP hD hS dJ5_ensureCapacityInternal_d00df_38 (Nat.le_of_ble_eq_true rfl) (Nat.le_of_ble_eq_true rfl)
  · skip
    refine lv_if_le (tgt := 38) hx hb dJ5_ensureCapacityInternal_d00df_14 (by decide) (fun h1 => absurd h1 (fun z => hc ((sub_le0 (by omega) (by omega)).mp z))) (fun _ => ?_)
    refine lv_aload_n hx hb dJ5_ensureCapacityInternal_d00df_17 rfl (lv_at hl 1 rfl) ?_
    refine lv_aload_n hx hb dJ5_ensureCapacityInternal_d00df_18 rfl (lv_at hl 1 rfl) ?_
    refine va_get (D := D) (ci := 12) (v := .ref v) (C := RJ4) (T := TJ4) (N := 4) hx hb hts inJ4 hown hK hP 0 rfl rfl 0 (by decide) f15 (fun _ h9 => h9) rfl dJ5_ensureCapacityInternal_d00df_19 ?_
    refine lv_aload_n hx hb dJ5_ensureCapacityInternal_d00df_22 rfl (lv_at hl 1 rfl) ?_
    refine lv_iload_n hx hb dJ5_ensureCapacityInternal_d00df_23 rfl (lv_at hl 2 rfl) ?_
    obtain ⟨cap, ecap⟩ : ∃ c9 : Nat, c9 = m0 + max (q - m0) (m0 + 2) := ⟨_, rfl⟩
    have hcap : q ≤ cap ∧ m0 < cap ∧ cap ≤ 200 := by omega
    refine kc_i (va_runU (As := [.int (nI q)]) (rest := [.ref v, .ref b]) ⟨hx, hb, hml, hown, hts⟩ (c_J5_newCapacity_0f7a4 b v m0 n q H.size ml f hm (by omega) (by omega)) (va_cwU 1 hts gJ5_ensureCapacityInternal_d00df_J5_newCapacity_0f7a4_u104J4 rfl rfl rfl rfl (by decide +kernel) ⟨Nat.le_of_ble_eq_true rfl, Nat.le_of_ble_eq_true rfl⟩) ⟨kP_blind (EN_ok D cy) D _ _ _, va_recv hK hP (ci := 12) (q0 := 0) rfl rfl, kStart (EN_ok D cy) hE hP hD hS hA [0, 1] rfl rfl _⟩ rfl rfl hl.1 rfl (lv_room (Nat.le_of_ble_eq_true rfl)) dJ5_ensureCapacityInternal_d00df_24 ⟨Nat.le_of_ble_eq_true rfl, Nat.le_of_ble_eq_true rfl⟩) hP hD hS hA [0, 1] rfl (Nat.le_refl _) (fun H locs hP hD hS => ?_)
    have hP : va_P D vwCl ([(b, .inr (12, [.ref v, .int (0 : Int32), .int ml, .int (nI n)])), (v, .inl (cy 1, m0, .inl f))]) H := hP
    have hD : va_D A ([(b, .inr (12, [.ref v, .int (0 : Int32), .int ml, .int (nI n)])), (v, .inl (cy 1, m0, .inl f))]) := hD
    rw [← ecap]
    refine lv_aload_n hx hb dJ5_ensureCapacityInternal_d00df_27 rfl (lv_at hl 1 rfl) ?_
    refine va_get (D := D) (ci := 12) (v := .int (0 : Int32)) (C := RJ4) (T := TJ4) (N := 4) hx hb hts inJ4 hown hK hP 0 rfl rfl 1 (by decide) f22 (fun _ h9 => h9) rfl dJ5_ensureCapacityInternal_d00df_28 ?_
    refine lv_ishl hx hb dJ5_ensureCapacityInternal_d00df_31 ?_
    rw [show ((nI cap) <<< ((0 : Int32) &&& 31)) = (nI cap) from sb_shl0 (nI cap)]
    refine kc_R (va_runS (As := [.ref v, .int (nI cap)]) (rest := [.ref b]) ⟨hx, hb, hml, hown, hts⟩ (c_J7_copyOf_9075b v m0 cap H.size f hcap.2.1 hcap.2.2 hf) (va_cwS 2 hts gJ5_ensureCapacityInternal_d00df_J7_copyOf_9075b rfl rfl rfl kd_J7_copyOf_9075b ⟨Nat.le_of_ble_eq_true rfl, Nat.le_of_ble_eq_true rfl⟩) ⟨kP_blind (EN_ok D cy) D _ _ _, kStart (EN_ok D cy) hE hP hD hS hA [1] rfl rfl _⟩ rfl rfl hl.1 rfl (lv_room (Nat.le_of_ble_eq_true rfl)) dJ5_ensureCapacityInternal_d00df_32 ⟨Nat.le_of_ble_eq_true rfl, Nat.le_of_ble_eq_true rfl⟩) hP hD hS hA [1] rfl (fun _ _ => Nat.le_of_ble_eq_true rfl) (fun g x H locs hg hP hD hS => ?_)
    have hP : va_P D vwCl ([(b, .inr (12, [.ref v, .int (0 : Int32), .int ml, .int (nI n)])), (v, .inl (cy 1, m0, .inl f)), (x, .inl (cy 1, cap, .inl g))]) H := hP
    have hD : va_D A ([(b, .inr (12, [.ref v, .int (0 : Int32), .int ml, .int (nI n)])), (v, .inl (cy 1, m0, .inl f)), (x, .inl (cy 1, cap, .inl g))]) := hD
    refine va_put (D := D) (ci := 12) (v := .ref x) (ty := (.array .byte)) (C := RJ4) (T := TJ4) (N := 4) hx hb hts inJ4 tyJ4 tyJ4_ok nmJ4 hown hK hP hD hS 0 rfl rfl 0 (by decide) f15 (fun _ h9 => h9) (by decide +kernel) rfl rfl rfl (Nat.le_of_ble_eq_true rfl) dJ5_ensureCapacityInternal_d00df_35 (fun H locs hP hD hS => ?_)
    have hP : va_P D vwCl ([(b, .inr (12, [.ref x, .int (0 : Int32), .int ml, .int (nI n)])), (v, .inl (cy 1, m0, .inl f)), (x, .inl (cy 1, cap, .inl g))]) H := hP
    have hD : va_D A ([(b, .inr (12, [.ref x, .int (0 : Int32), .int ml, .int (nI n)])), (v, .inl (cy 1, m0, .inl f)), (x, .inl (cy 1, cap, .inl g))]) := hD
    rw [hQQ]
    exact kr_E (x, cap, g) ⟨hcap.1, hcap.2.2, hg.1, hg.2⟩ hx hb hr hlocks (hP.sub [0, 2] rfl) (hD.sub [0, 2] rfl rfl) hS dJ5_ensureCapacityInternal_d00df_38 (Nat.le_of_ble_eq_true rfl) (Nat.le_of_ble_eq_true rfl)
theorem asc_all : ∀ c : Fin 128, (nI c.val).toInt8.toInt32 = nI c.val := by decide +kernel
theorem asc_nI {x : Int32} (h : asc x) : ∃ c : Nat, c < 128 ∧ x = nI c := by
  obtain ⟨j, hj, rfl⟩ := nI_of (Int32.not_lt.mpr h.1)
  refine ⟨j, ?_, rfl⟩
  have := h.2
  exact Nat.lt_of_not_le (fun q => nI_nlt (a := j) (b := 128) q hj (show nI j < nI 128 from this))
theorem asc_b {x : Int32} (h : asc x) : x.toInt8.toInt32 = x := by
  obtain ⟨c, hc, rfl⟩ := asc_nI h
  exact asc_all ⟨c, hc⟩
theorem asc_255 {x : Int32} (h : asc x) : ¬ (255 : Int32) < x := by
  obtain ⟨c, hc, rfl⟩ := asc_nI h
  exact nI_nlt (a := 255) (by omega) (by decide)
theorem asc_fit {x : Int32} (h : asc x) : fits .byte (.int x) = true := by
  have := pk_fb x
  rw [← asc_b h]
  simpa [vp_nar_byte] using this
theorem asc_S {s : List Int32} (h : ascS s) (i : Nat) : fits .byte (.int (s.getD i 0)) = true := by
  by_cases c : i < s.length
  · have e : s.getD i 0 = s[i] := by simp [List.getD_eq_getElem?_getD, c]
    rw [e]; exact asc_fit (h _ (List.getElem_mem c))
  · have e : s.getD i 0 = 0 := by simp [List.getD_eq_getElem?_getD, Nat.le_of_not_lt c]
    rw [e]; decide
theorem sbOK_app {tx s : List Int32} {m0 m1 : Nat} {f g : Nat → Int32} (ok : sbOK tx m0 f) (h1 : tx.length + s.length ≤ m1) (h2 : m1 ≤ 200) (hg : sb_Fit g) (hlo : ∀ j, j < tx.length → g j = f j) (hhi : ∀ i, i < s.length → g (tx.length + i) = s.getD i 0) : sbOK (tx ++ s) m1 g := by
  refine ⟨by rw [List.length_append]; exact h1, h2, hg, fun j hj => ?_⟩
  rw [List.length_append] at hj
  by_cases c : j < tx.length
  · rw [getD_appL c, hlo j c]; exact ok.2.2.2 j c
  · rw [getD_appR (Nat.le_of_not_lt c)]
    have := hhi (j - tx.length) (by omega)
    rw [show tx.length + (j - tx.length) = j by omega] at this
    exact this
theorem kd_J5_append_3fe6f : yJ5_append_3fe6f.cls = RJ5 ∧ yJ5_append_3fe6f.cls ≠ "java/lang/invoke/MethodHandle" ∧ yJ5_append_3fe6f.cls ≠ "java/lang/invoke/VarHandle" ∧ (parseMethodDescriptor yJ5_append_3fe6f.desc).map (fun d => d.parameters.length) = some 1 := by decide +kernel
set_option maxHeartbeats 4000000 in
set_option maxRecDepth 100000 in
theorem c_J5_append_3fe6f {l : Launch} {D : va_G} {cy : Nat → ClassId} (b v m0 sz : Nat) (ml x : Int32) (tx : List Int32) (f : Nat → Int32) (ok : sbOK tx m0 f) (hn : tx.length < 99) (hx1 : asc x) : Met l yJ5_append_3fe6f wsJ5_append_3fe6f ({ frames := 4, cells := 1, slots := 200, locals := 160 } : Room) (kP (EN D cy) D [.ref b, .int x] ([(b, .inr (12, [.ref v, .int (0 : Int32), .int ml, .int (nI tx.length)])), (v, .inl (cy 1, m0, .inl f))]) sz) (kQR D (fun (u : Nat × Nat × (Nat → Int32)) (r : Nat) => r = b ∧ sbOK (tx ++ [x]) u.2.1 u.2.2) (fun u _ => [(b, sbE u.1 ml (tx.length + 1)), (u.1, byE cy u.2.1 u.2.2)]) (va_A ([(b, .inr (12, [.ref v, .int (0 : Int32), .int ml, .int (nI tx.length)])), (v, .inl (cy 1, m0, .inl f))]) sz)) 1 200 (va_A ([(b, .inr (12, [.ref v, .int (0 : Int32), .int ml, .int (nI tx.length)])), (v, .inl (cy 1, m0, .inl f))]) sz) := by
  refine kMet (y := yJ5_append_3fe6f) (av := [.ref b, .int x]) (cc := cJ5_append_3fe6f) (maxL := 2) (ret := some (.object "java/lang/AbstractStringBuilder")) (own := RJ5) (Qc := fun A9 => (kQR D (fun (u : Nat × Nat × (Nat → Int32)) (r : Nat) => r = b ∧ sbOK (tx ++ [x]) u.2.1 u.2.2) (fun u _ => [(b, sbE u.1 ml (tx.length + 1)), (u.1, byE cy u.2.1 u.2.2)]) A9)) (by decide) rfl rfl (Nat.le_of_ble_eq_true rfl) ?_
  intro p e s m args below meth c A hx hb hr hts hown hml hlocks hname hE hP hD hA hsz ls hl
  have hK := hE.1
  have hl : lv_has ls 2 [(0, .ref b), (1, .int x)] := hl
  have hS : va_S A s.heap s.heap [] := va_S.rf
  have f79 := hts (.fieldLink RJ5 79 "java/lang/AbstractStringBuilder" "count" "I") (by decide +kernel)
  have inJ4 : ∀ w ∈ wsJ40, w ∈ wsJ5_append_3fe6f := by decide +kernel
  have f15 := hts (.fieldLink RJ5 15 "java/lang/AbstractStringBuilder" "value" "[B") (by decide +kernel)
  obtain ⟨QQ, hQQ⟩ : ∃ Q9, Q9 = MQ below (kQR D (fun (u : Nat × Nat × (Nat → Int32)) (r : Nat) => r = b ∧ sbOK (tx ++ [x]) u.2.1 u.2.2) (fun u _ => [(b, sbE u.1 ml (tx.length + 1)), (u.1, byE cy u.2.1 u.2.2)]) A) args s 1 200 A := ⟨_, rfl⟩
  rw [← hQQ]
  obtain ⟨H, hH⟩ : ∃ H9, H9 = s.heap := ⟨_, rfl⟩
  have hP : va_P D vwCl ([(b, .inr (12, [.ref v, .int (0 : Int32), .int ml, .int (nI tx.length)])), (v, .inl (cy 1, m0, .inl f))]) H := by rw [hH]; exact hP
  have hS : va_S A s.heap H [] := by rw [hH]; exact hS
  rw [← hH]
  refine lv_aload_n hx hb dJ5_append_3fe6f_0 rfl (lv_at hl 0 rfl) ?_
  refine lv_aload_n hx hb dJ5_append_3fe6f_1 rfl (lv_at hl 0 rfl) ?_
  refine va_get (D := D) (ci := 12) (v := .int (nI tx.length)) (C := RJ4) (T := TJ4) (N := 4) hx hb hts inJ4 hown hK hP 0 rfl rfl 3 (by decide) f79 (fun _ h9 => h9) rfl dJ5_append_3fe6f_2 ?_
  refine lv_iconst (v := 1) hx hb dJ5_append_3fe6f_5 (by decide) ?_
  refine lv_iadd hx hb dJ5_append_3fe6f_6 ?_
  rw [show ((nI tx.length) + (1 : Int32)) = (nI (tx.length + 1)) from nI_1 tx.length]
  refine kc_E (va_runU (As := [.int (nI (tx.length + 1))]) (rest := []) ⟨hx, hb, hml, hown, hts⟩ (c_J5_ensureCapacityInternal_d00df b v m0 tx.length (tx.length + 1) H.size ml f ok.2.1 (by omega) ok.2.2.1) (va_cwU 1 hts gJ5_append_3fe6f_J5_ensureCapacityInternal_d00df_u100J4 rfl rfl rfl rfl (by decide +kernel) ⟨Nat.le_of_ble_eq_true rfl, Nat.le_of_ble_eq_true rfl⟩) ⟨kP_blind (EN_ok D cy) D _ _ _, va_recv hK hP (ci := 12) (q0 := 0) rfl rfl, kStart (EN_ok D cy) hE hP hD hS hA [0, 1] rfl rfl _⟩ rfl rfl hl.1 rfl (lv_room (Nat.le_of_ble_eq_true rfl)) dJ5_append_3fe6f_7 ⟨Nat.le_of_ble_eq_true rfl, Nat.le_of_ble_eq_true rfl⟩) hP hD hS hA [0, 1] rfl (fun _ => Nat.le_of_ble_eq_true rfl) (fun u H locs hu hP hD hS => ?_)
  obtain ⟨v1, m1, f1⟩ := u
  have hu : tx.length + 1 ≤ m1 ∧ m1 ≤ 200 ∧ sb_Fit f1 ∧ ∀ j, j < m0 → f1 j = f j := hu
  have hP : va_P D vwCl ([(b, .inr (12, [.ref v1, .int (0 : Int32), .int ml, .int (nI tx.length)])), (v1, .inl (cy 1, m1, .inl f1))]) H := hP
  have hD : va_D A ([(b, .inr (12, [.ref v1, .int (0 : Int32), .int ml, .int (nI tx.length)])), (v1, .inl (cy 1, m1, .inl f1))]) := hD
  refine lv_aload_n hx hb dJ5_append_3fe6f_10 rfl (lv_at hl 0 rfl) ?_
  refine kc_i (va_runU (As := []) (rest := []) ⟨hx, hb, hml, hown, hts⟩ (c_J5_isLatin1_aae02 b v1 tx.length H.size ml) (va_cwU 0 hts gJ5_append_3fe6f_J5_isLatin1_aae02_u83J4 rfl rfl rfl rfl (by decide +kernel) ⟨Nat.le_of_ble_eq_true rfl, Nat.le_of_ble_eq_true rfl⟩) ⟨kP_blind (EN_ok D cy) D _ _ _, va_recv hK hP (ci := 12) (q0 := 0) rfl rfl, kStart (EN_ok D cy) hE hP hD hS hA [0] rfl rfl _⟩ rfl rfl hl.1 rfl (lv_room (Nat.le_of_ble_eq_true rfl)) dJ5_append_3fe6f_11 ⟨Nat.le_of_ble_eq_true rfl, Nat.le_of_ble_eq_true rfl⟩) hP hD hS hA [0] rfl (Nat.le_refl _) (fun H locs hP hD hS => ?_)
  have hP : va_P D vwCl ([(b, .inr (12, [.ref v1, .int (0 : Int32), .int ml, .int (nI tx.length)])), (v1, .inl (cy 1, m1, .inl f1))]) H := hP
  have hD : va_D A ([(b, .inr (12, [.ref v1, .int (0 : Int32), .int ml, .int (nI tx.length)])), (v1, .inl (cy 1, m1, .inl f1))]) := hD
  refine lv_if_eq (tgt := 45) hx hb dJ5_append_3fe6f_14 (by decide) (fun h1 => absurd h1 ((by decide : ¬ ((1 : Int32) = 0)))) (fun _ => ?_)
  refine lv_iload_n hx hb dJ5_append_3fe6f_17 rfl (lv_at hl 1 rfl) ?_
  refine kg_i (va_runS (As := [.int x]) (rest := []) ⟨hx, hb, hml, hown, hts⟩ (c_J1_canEncode_fc78d H.size x (asc_255 hx1)) (va_cwS 1 hts gJ5_append_3fe6f_J1_canEncode_fc78d rfl rfl rfl kd_J1_canEncode_fc78d ⟨Nat.le_of_ble_eq_true rfl, Nat.le_of_ble_eq_true rfl⟩) ⟨kP_blind (EN_ok D cy) D _ _ _, kStart (EN_ok D cy) hE hP hD hS hA [] rfl rfl _⟩ rfl rfl hl.1 rfl (lv_room (Nat.le_of_ble_eq_true rfl)) dJ5_append_3fe6f_18 ⟨Nat.le_of_ble_eq_true rfl, Nat.le_of_ble_eq_true rfl⟩) hP hD hS hA (fun H locs hP hD hS => ?_)
  refine lv_if_eq (tgt := 45) hx hb dJ5_append_3fe6f_21 (by decide) (fun h2 => absurd h2 ((by decide : ¬ ((1 : Int32) = 0)))) (fun _ => ?_)
  refine lv_aload_n hx hb dJ5_append_3fe6f_24 rfl (lv_at hl 0 rfl) ?_
  refine va_get (D := D) (ci := 12) (v := .ref v1) (C := RJ4) (T := TJ4) (N := 4) hx hb hts inJ4 hown hK hP 0 rfl rfl 0 (by decide) f15 (fun _ h9 => h9) rfl dJ5_append_3fe6f_25 ?_
  refine lv_aload_n hx hb dJ5_append_3fe6f_28 rfl (lv_at hl 0 rfl) ?_
  refine lv_dup hx hb dJ5_append_3fe6f_29 rfl ?_
  refine va_get (D := D) (ci := 12) (v := .int (nI tx.length)) (C := RJ4) (T := TJ4) (N := 4) hx hb hts inJ4 hown hK hP 0 rfl rfl 3 (by decide) f79 (fun _ h9 => h9) rfl dJ5_append_3fe6f_30 ?_
  refine lv_dup_x1 hx hb dJ5_append_3fe6f_33 rfl rfl ?_
  refine lv_iconst (v := 1) hx hb dJ5_append_3fe6f_34 (by decide) ?_
  refine lv_iadd hx hb dJ5_append_3fe6f_35 ?_
  rw [show ((nI tx.length) + (1 : Int32)) = (nI (tx.length + 1)) from nI_1 tx.length]
  refine va_put (D := D) (ci := 12) (v := .int (nI (tx.length + 1))) (ty := .int) (C := RJ4) (T := TJ4) (N := 4) hx hb hts inJ4 tyJ4 tyJ4_ok nmJ4 hown hK hP hD hS 0 rfl rfl 3 (by decide) f79 (fun _ h9 => h9) (by decide +kernel) rfl rfl rfl (Nat.le_of_ble_eq_true rfl) dJ5_append_3fe6f_36 (fun H locs hP hD hS => ?_)
  have hP : va_P D vwCl ([(b, .inr (12, [.ref v1, .int (0 : Int32), .int ml, .int (nI (tx.length + 1))])), (v1, .inl (cy 1, m1, .inl f1))]) H := hP
  have hD : va_D A ([(b, .inr (12, [.ref v1, .int (0 : Int32), .int ml, .int (nI (tx.length + 1))])), (v1, .inl (cy 1, m1, .inl f1))]) := hD
  refine lv_iload_n hx hb dJ5_append_3fe6f_39 rfl (lv_at hl 1 rfl) ?_
  refine lv_i2b hx hb dJ5_append_3fe6f_40 rfl ?_
  rw [show (x).toInt8.toInt32 = x from asc_b hx1]
  refine va_bast hx hb hK hP hD hS 1 1 rfl rfl (vp_in_nI (by omega) (by omega)) dJ5_append_3fe6f_41 (fun H locs hP hD hS => ?_)
  have hP : va_P D vwCl ([(b, .inr (12, [.ref v1, .int (0 : Int32), .int ml, .int (nI (tx.length + 1))])), (v1, .inl (cy 1, m1, .inl (upd f1 ((nI tx.length)).toNatClampNeg (vp_nar .byte x))))]) H := hP
  have hD : va_D A ([(b, .inr (12, [.ref v1, .int (0 : Int32), .int ml, .int (nI (tx.length + 1))])), (v1, .inl (cy 1, m1, .inl (upd f1 ((nI tx.length)).toNatClampNeg (vp_nar .byte x))))]) := hD
  have e9 : (upd f1 ((nI tx.length)).toNatClampNeg (vp_nar .byte x)) = (upd f1 tx.length x) := (by rw [nI_clamp (by have := ok.2.1; have := ok.1; omega), vp_nar_byte, asc_b hx1])
  rw [e9] at hP hD
  refine lv_goto (tgt := 75) hx hb dJ5_append_3fe6f_42 (by decide) ?_
  refine lv_aload_n hx hb dJ5_append_3fe6f_75 rfl (lv_at hl 0 rfl) ?_
  rw [hQQ]
  exact kr_R (v1, m1, upd f1 tx.length x) ⟨rfl, sbOK_app (m1 := m1) (g := upd f1 tx.length x) ok (by show tx.length + 1 ≤ m1; omega) hu.2.1 (sb_fitU hu.2.2.1 (asc_fit hx1)) (fun j hj => by rw [pk_un (by omega)]; exact hu.2.2.2 j (by have := ok.1; omega)) (fun i hi => by obtain rfl : i = 0 := (by simpa using hi); exact pk_us)⟩ hx hb hr (Or.inl ⟨_, rfl⟩) hlocks hP hD hS dJ5_append_3fe6f_76 (Nat.le_of_ble_eq_true rfl) (Nat.le_of_ble_eq_true rfl)
theorem kd_J4_append_cf468 : yJ4_append_cf468.cls = RJ4 ∧ yJ4_append_cf468.cls ≠ "java/lang/invoke/MethodHandle" ∧ yJ4_append_cf468.cls ≠ "java/lang/invoke/VarHandle" ∧ (parseMethodDescriptor yJ4_append_cf468.desc).map (fun d => d.parameters.length) = some 1 := by decide +kernel
set_option maxHeartbeats 4000000 in
set_option maxRecDepth 100000 in
theorem c_J4_append_cf468 {l : Launch} {D : va_G} {cy : Nat → ClassId} (b v m0 sz : Nat) (ml x : Int32) (tx : List Int32) (f : Nat → Int32) (ok : sbOK tx m0 f) (hn : tx.length < 99) (hx1 : asc x) : Met l yJ4_append_cf468 wsJ4_append_cf468 ({ frames := 5, cells := 1, slots := 200, locals := 240 } : Room) (kP (EN D cy) D [.ref b, .int x] ([(b, .inr (12, [.ref v, .int (0 : Int32), .int ml, .int (nI tx.length)])), (v, .inl (cy 1, m0, .inl f))]) sz) (kQR D (fun (u : Nat × Nat × (Nat → Int32)) (r : Nat) => r = b ∧ sbOK (tx ++ [x]) u.2.1 u.2.2) (fun u _ => [(b, sbE u.1 ml (tx.length + 1)), (u.1, byE cy u.2.1 u.2.2)]) (va_A ([(b, .inr (12, [.ref v, .int (0 : Int32), .int ml, .int (nI tx.length)])), (v, .inl (cy 1, m0, .inl f))]) sz)) 1 200 (va_A ([(b, .inr (12, [.ref v, .int (0 : Int32), .int ml, .int (nI tx.length)])), (v, .inl (cy 1, m0, .inl f))]) sz) := by
  refine kMet (y := yJ4_append_cf468) (av := [.ref b, .int x]) (cc := cJ4_append_cf468) (maxL := 2) (ret := some (.object "java/lang/StringBuilder")) (own := RJ4) (Qc := fun A9 => (kQR D (fun (u : Nat × Nat × (Nat → Int32)) (r : Nat) => r = b ∧ sbOK (tx ++ [x]) u.2.1 u.2.2) (fun u _ => [(b, sbE u.1 ml (tx.length + 1)), (u.1, byE cy u.2.1 u.2.2)]) A9)) (by decide) rfl rfl (Nat.le_of_ble_eq_true rfl) ?_
  intro p e s m args below meth c A hx hb hr hts hown hml hlocks hname hE hP hD hA hsz ls hl
  have hK := hE.1
  have hl : lv_has ls 2 [(0, .ref b), (1, .int x)] := hl
  have hS : va_S A s.heap s.heap [] := va_S.rf
  obtain ⟨QQ, hQQ⟩ : ∃ Q9, Q9 = MQ below (kQR D (fun (u : Nat × Nat × (Nat → Int32)) (r : Nat) => r = b ∧ sbOK (tx ++ [x]) u.2.1 u.2.2) (fun u _ => [(b, sbE u.1 ml (tx.length + 1)), (u.1, byE cy u.2.1 u.2.2)]) A) args s 1 200 A := ⟨_, rfl⟩
  rw [← hQQ]
  obtain ⟨H, hH⟩ : ∃ H9, H9 = s.heap := ⟨_, rfl⟩
  have hP : va_P D vwCl ([(b, .inr (12, [.ref v, .int (0 : Int32), .int ml, .int (nI tx.length)])), (v, .inl (cy 1, m0, .inl f))]) H := by rw [hH]; exact hP
  have hS : va_S A s.heap H [] := by rw [hH]; exact hS
  rw [← hH]
  refine lv_aload_n hx hb dJ4_append_cf468_0 rfl (lv_at hl 0 rfl) ?_
  refine lv_iload_n hx hb dJ4_append_cf468_1 rfl (lv_at hl 1 rfl) ?_
  refine kc_R (va_runSU (As := [.int x]) (rest := []) (hK.1 12 _ rfl).2 ⟨hx, hb, hml, hown, hts⟩ (c_J5_append_3fe6f b v m0 H.size ml x tx f ok hn hx1) (va_cwSU 1 hts gJ4_append_cf468_J5_append_3fe6f_s50 rfl rfl rfl ⟨by decide, by decide +kernel⟩ ⟨Nat.le_of_ble_eq_true rfl, Nat.le_of_ble_eq_true rfl⟩) ⟨kP_blind (EN_ok D cy) D _ _ _, va_recv hK hP (ci := 12) (q0 := 0) rfl rfl, kStart (EN_ok D cy) hE hP hD hS hA [0, 1] rfl rfl _⟩ rfl rfl hl.1 rfl (lv_room (Nat.le_of_ble_eq_true rfl)) dJ4_append_cf468_2 ⟨Nat.le_of_ble_eq_true rfl, Nat.le_of_ble_eq_true rfl⟩) hP hD hS hA [0, 1] rfl (fun _ _ => Nat.le_of_ble_eq_true rfl) (fun u r H locs hu hP hD hS => ?_)
  obtain ⟨v1, m1, f1⟩ := u
  obtain ⟨rfl, hu⟩ := hu
  have hP : va_P D vwCl ([(r, .inr (12, [.ref v1, .int (0 : Int32), .int ml, .int (nI (tx.length + 1))])), (v1, .inl (cy 1, m1, .inl f1))]) H := hP
  have hD : va_D A ([(r, .inr (12, [.ref v1, .int (0 : Int32), .int ml, .int (nI (tx.length + 1))])), (v1, .inl (cy 1, m1, .inl f1))]) := hD
  refine lv_pop hx hb dJ4_append_cf468_5 rfl ?_
  refine lv_aload_n hx hb dJ4_append_cf468_6 rfl (lv_at hl 0 rfl) ?_
  rw [hQQ]
  exact kr_R (v1, m1, f1) ⟨rfl, hu⟩ hx hb hr (Or.inl ⟨_, rfl⟩) hlocks hP hD hS dJ4_append_cf468_7 (Nat.le_of_ble_eq_true rfl) (Nat.le_of_ble_eq_true rfl)
theorem kd_J5_inflateIfNeededFor_a7421 : yJ5_inflateIfNeededFor_a7421.cls = RJ5 ∧ yJ5_inflateIfNeededFor_a7421.cls ≠ "java/lang/invoke/MethodHandle" ∧ yJ5_inflateIfNeededFor_a7421.cls ≠ "java/lang/invoke/VarHandle" ∧ (parseMethodDescriptor yJ5_inflateIfNeededFor_a7421.desc).map (fun d => d.parameters.length) = some 1 := by decide +kernel
set_option maxHeartbeats 4000000 in
set_option maxRecDepth 100000 in
theorem c_J5_inflateIfNeededFor_a7421 {l : Launch} {D : va_G} {cy : Nat → ClassId} (b v n a2 sz : Nat) (ml : Int32) (s2 : List Int32) : Met l yJ5_inflateIfNeededFor_a7421 wsJ5_inflateIfNeededFor_a7421 ({ frames := 1, cells := 0, slots := 0, locals := 60 } : Room) (kP (ES D cy s2 a2) D [.ref b, .ref a2] ([(b, .inr (12, [.ref v, .int (0 : Int32), .int ml, .int (nI n)]))]) sz) (kQv D [(b, .inr (12, [.ref v, .int (0 : Int32), .int ml, .int (nI n)]))] (va_A ([(b, .inr (12, [.ref v, .int (0 : Int32), .int ml, .int (nI n)]))]) sz)) 0 0 (va_A ([(b, .inr (12, [.ref v, .int (0 : Int32), .int ml, .int (nI n)]))]) sz) := by
  refine kMet (y := yJ5_inflateIfNeededFor_a7421) (av := [.ref b, .ref a2]) (cc := cJ5_inflateIfNeededFor_a7421) (maxL := 2) (ret := none) (own := RJ5) (Qc := fun A9 => (kQv D [(b, .inr (12, [.ref v, .int (0 : Int32), .int ml, .int (nI n)]))] A9)) (by decide) rfl rfl (Nat.le_of_ble_eq_true rfl) ?_
  intro p e s m args below meth c A hx hb hr hts hown hml hlocks hname hE hP hD hA hsz ls hl
  obtain ⟨hN, hT⟩ := hE
  have hE2 : ES D cy s2 a2 A s s.heap := ⟨hN, hT⟩
  have hK := hN.1
  have hl : lv_has ls 2 [(0, .ref b), (1, .ref a2)] := hl
  have hS : va_S A s.heap s.heap [] := va_S.rf
  have f18 := hts (.fieldLink RJ5 18 "java/lang/String" "COMPACT_STRINGS" "Z") (by decide +kernel)
  have f22 := hts (.fieldLink RJ5 22 "java/lang/AbstractStringBuilder" "coder" "B") (by decide +kernel)
  have inJ4 : ∀ w ∈ wsJ40, w ∈ wsJ5_inflateIfNeededFor_a7421 := by decide +kernel
  obtain ⟨QQ, hQQ⟩ : ∃ Q9, Q9 = MQ below (kQv D [(b, .inr (12, [.ref v, .int (0 : Int32), .int ml, .int (nI n)]))] A) args s 0 0 A := ⟨_, rfl⟩
  rw [← hQQ]
  obtain ⟨H, hH⟩ : ∃ H9, H9 = s.heap := ⟨_, rfl⟩
  have hP : va_P D vwCl ([(b, .inr (12, [.ref v, .int (0 : Int32), .int ml, .int (nI n)]))]) H := by rw [hH]; exact hP
  have hS : va_S A s.heap H [] := by rw [hH]; exact hS
  rw [← hH]
  refine va_gets (v := .int 1) hx hb hN.2.2.2.1 hS hown f18 (fun _ h9 => h9) dJ5_inflateIfNeededFor_a7421_0 ?_
  refine lv_if_eq (tgt := 21) hx hb dJ5_inflateIfNeededFor_a7421_3 (by decide) (fun h1 => absurd h1 ((by decide : ¬ ((1 : Int32) = 0)))) (fun _ => ?_)
  refine lv_aload_n hx hb dJ5_inflateIfNeededFor_a7421_6 rfl (lv_at hl 0 rfl) ?_
  refine va_get (D := D) (ci := 12) (v := .int (0 : Int32)) (C := RJ4) (T := TJ4) (N := 4) hx hb hts inJ4 hown hK hP 0 rfl rfl 1 (by decide) f22 (fun _ h9 => h9) rfl dJ5_inflateIfNeededFor_a7421_7 ?_
  refine lv_aload_n hx hb dJ5_inflateIfNeededFor_a7421_10 rfl (lv_at hl 1 rfl) ?_
  refine kg_i (va_runV (As := []) (rest := [.int (0 : Int32)]) ⟨hx, hb, hml, hown, hts⟩ (c_J0_coder_7d493 H.size s2 a2) (cwV 0 hts gJ5_inflateIfNeededFor_a7421_J0_coder_7d493 rfl rfl rfl kd_J0_coder_7d493 ⟨Nat.le_of_ble_eq_true rfl, Nat.le_of_ble_eq_true rfl⟩) ⟨kP_blind (ES_ok D cy s2 a2) D _ _ _, kStr_recv hT hS, kStart (ES_ok D cy s2 a2) hE2 hP hD hS hA [] rfl rfl _⟩ rfl rfl hl.1 rfl (lv_room (Nat.le_of_ble_eq_true rfl)) dJ5_inflateIfNeededFor_a7421_11 ⟨Nat.le_of_ble_eq_true rfl, Nat.le_of_ble_eq_true rfl⟩) hP hD hS hA (fun H locs hP hD hS => ?_)
  refine lv_icmp_eq (tgt := 21) hx hb dJ5_inflateIfNeededFor_a7421_14 (by decide) (fun _ => ?_) (fun h2 => absurd (rfl) h2)
  rw [hQQ]
  exact kr_v hx hb hr hlocks hP hD hS dJ5_inflateIfNeededFor_a7421_21
theorem kd_J0_getBytes_840e7 : yJ0_getBytes_840e7.cls = RJ0 ∧ yJ0_getBytes_840e7.cls ≠ "java/lang/invoke/MethodHandle" ∧ yJ0_getBytes_840e7.cls ≠ "java/lang/invoke/VarHandle" ∧ (parseMethodDescriptor yJ0_getBytes_840e7.desc).map (fun d => d.parameters.length) = some 3 := by decide +kernel
set_option maxHeartbeats 4000000 in
set_option maxRecDepth 100000 in
theorem c_J0_getBytes_840e7 {l : Launch} {D : va_G} {cy : Nat → ClassId} (v m0 a2 p0 sz : Nat) (f : Nat → Int32) (s2 : List Int32) (hf : sb_Fit f) (has : ascS s2) (hfit : p0 + s2.length ≤ m0) (hm : m0 ≤ 200) : Met l yJ0_getBytes_840e7 wsJ0_getBytes_840e7 ({ frames := 1, cells := 0, slots := 0, locals := 80 } : Room) (kP (ES D cy s2 a2) D [.ref a2, .ref v, .int (nI p0), .int (0 : Int32)] ([(v, .inl (cy 1, m0, .inl f))]) sz) (kQE D (fun (g : Nat → Int32) => sb_Fit g ∧ (∀ j, j < p0 → g j = f j) ∧ ∀ i, i < s2.length → g (p0 + i) = s2.getD i 0) (fun g => [(v, byE cy m0 g)]) (va_A ([(v, .inl (cy 1, m0, .inl f))]) sz)) 0 0 (va_A ([(v, .inl (cy 1, m0, .inl f))]) sz) := by
  refine kMet (y := yJ0_getBytes_840e7) (av := [.ref a2, .ref v, .int (nI p0), .int (0 : Int32)]) (cc := cJ0_getBytes_840e7) (maxL := 4) (ret := none) (own := RJ0) (Qc := fun A9 => (kQE D (fun (g : Nat → Int32) => sb_Fit g ∧ (∀ j, j < p0 → g j = f j) ∧ ∀ i, i < s2.length → g (p0 + i) = s2.getD i 0) (fun g => [(v, byE cy m0 g)]) A9)) (by decide) rfl rfl (Nat.le_of_ble_eq_true rfl) ?_
  intro p e s m args below meth c A hx hb hr hts hown hml hlocks hname hE hP hD hA hsz ls hl
  obtain ⟨hN, hT⟩ := hE
  have hE2 : ES D cy s2 a2 A s s.heap := ⟨hN, hT⟩
  obtain ⟨vb, hv1, hv2⟩ := hT.2.2
  have hK := hN.1
  have hl : lv_has ls 4 [(0, .ref a2), (1, .ref v), (2, .int (nI p0)), (3, .int (0 : Int32))] := hl
  have hS : va_S A s.heap s.heap [] := va_S.rf
  have f9 := hts (.fieldLink RJ0 9 "java/lang/String" "value" "[B") (by decide +kernel)
  have m212 := hts (.methodLink RJ0 212 arraycopyName) (by decide +kernel)
  have nat := hts (.native arraycopyName) (by decide +kernel)
  have snat := hts (.static arraycopyName) (by decide +kernel)
  have iSys := hts (.initialized "java/lang/System") (by decide +kernel)
  obtain ⟨QQ, hQQ⟩ : ∃ Q9, Q9 = MQ below (kQE D (fun (g : Nat → Int32) => sb_Fit g ∧ (∀ j, j < p0 → g j = f j) ∧ ∀ i, i < s2.length → g (p0 + i) = s2.getD i 0) (fun g => [(v, byE cy m0 g)]) A) args s 0 0 A := ⟨_, rfl⟩
  rw [← hQQ]
  obtain ⟨H, hH⟩ : ∃ H9, H9 = s.heap := ⟨_, rfl⟩
  have hP : va_P D vwCl ([(v, .inl (cy 1, m0, .inl f))]) H := by rw [hH]; exact hP
  have hS : va_S A s.heap H [] := by rw [hH]; exact hS
  rw [← hH]
  refine lv_aload_n hx hb dJ0_getBytes_840e7_0 rfl (lv_at hl 0 rfl) ?_
  refine kg_i (va_runV (As := []) (rest := []) ⟨hx, hb, hml, hown, hts⟩ (c_J0_coder_7d493 H.size s2 a2) (cwV 0 hts gJ0_getBytes_840e7_J0_coder_7d493 rfl rfl rfl kd_J0_coder_7d493 ⟨Nat.le_of_ble_eq_true rfl, Nat.le_of_ble_eq_true rfl⟩) ⟨kP_blind (ES_ok D cy s2 a2) D _ _ _, kStr_recv hT hS, kStart (ES_ok D cy s2 a2) hE2 hP hD hS hA [] rfl rfl _⟩ rfl rfl hl.1 rfl (lv_room (Nat.le_of_ble_eq_true rfl)) dJ0_getBytes_840e7_1 ⟨Nat.le_of_ble_eq_true rfl, Nat.le_of_ble_eq_true rfl⟩) hP hD hS hA (fun H locs hP hD hS => ?_)
  refine lv_iload_n hx hb dJ0_getBytes_840e7_4 rfl (lv_at hl 3 rfl) ?_
  refine lv_icmp_ne (tgt := 28) hx hb dJ0_getBytes_840e7_5 (by decide) (fun h1 => absurd (rfl) h1) (fun _ => ?_)
  refine lv_aload_n hx hb dJ0_getBytes_840e7_8 rfl (lv_at hl 0 rfl) ?_
  refine vk_getf hx hb hv1 hS hown f9 (fun _ h9 => h9) dJ0_getBytes_840e7_9 ?_
  refine lv_iconst (v := 0) hx hb dJ0_getBytes_840e7_12 (by decide) ?_
  refine lv_aload_n hx hb dJ0_getBytes_840e7_13 rfl (lv_at hl 1 rfl) ?_
  refine lv_iload_n hx hb dJ0_getBytes_840e7_14 rfl (lv_at hl 2 rfl) ?_
  refine lv_iload_n hx hb dJ0_getBytes_840e7_15 rfl (lv_at hl 3 rfl) ?_
  refine lv_ishl hx hb dJ0_getBytes_840e7_16 ?_
  rw [show ((nI p0) <<< ((0 : Int32) &&& 31)) = (nI p0) from sb_shl0 (nI p0)]
  refine lv_aload_n hx hb dJ0_getBytes_840e7_17 rfl (lv_at hl 0 rfl) ?_
  refine vk_getf hx hb hv1 hS hown f9 (fun _ h9 => h9) dJ0_getBytes_840e7_18 ?_
  refine va_tlen (v := nI s2.length) hx hb hv2 hS rfl dJ0_getBytes_840e7_21 ?_
  refine vk_copyt hx hb (by rw [hml]; exact hl.1.symm) hown m212 nat snat iSys hK hP hD hS hv2 0 1 rfl rfl (by decide) (nI_pos (by omega)) (nI_pos (by omega)) (by rw [nI_clamp (by omega)]; show 0 + s2.length ≤ s2.length; omega) (by rw [nI_clamp (by omega), nI_clamp (by omega)]; exact hfit) (fun i _ => asc_S has _) (Nat.le_of_ble_eq_true rfl) (Nat.le_of_ble_eq_true rfl) dJ0_getBytes_840e7_22 (fun H locs hP hD hS => ?_)
  obtain ⟨g, eg⟩ : ∃ g9 : Nat → Int32, g9 = va_cpy (fun j => s2.getD j 0) f (0 : Int32).toNatClampNeg (nI p0).toNatClampNeg (nI s2.length).toNatClampNeg := ⟨_, rfl⟩
  have hP : va_P D vwCl ([(v, .inl (cy 1, m0, .inl g))]) H := by rw [eg]; exact hP
  have hD : va_D A ([(v, .inl (cy 1, m0, .inl g))]) := by rw [eg]; exact hD
  rw [nI_clamp (by omega), nI_clamp (by omega), sb_cl0] at eg
  refine lv_goto (tgt := 43) hx hb dJ0_getBytes_840e7_25 (by decide) ?_
  rw [hQQ]
  exact kr_E g ⟨by rw [eg]; exact sb_fitC (fun j => asc_S has j) hf, fun j hj => by rw [eg]; exact pk_cpy_out (Or.inl hj), fun i hi => by rw [eg, pk_cpy_in (by omega) (by omega), show 0 + (p0 + i - p0) = i by omega]⟩ hx hb hr hlocks hP hD hS dJ0_getBytes_840e7_43 (Nat.le_refl _) (Nat.le_refl _)
theorem kd_J5_putStringAt_47b60 : yJ5_putStringAt_47b60.cls = RJ5 ∧ yJ5_putStringAt_47b60.cls ≠ "java/lang/invoke/MethodHandle" ∧ yJ5_putStringAt_47b60.cls ≠ "java/lang/invoke/VarHandle" ∧ (parseMethodDescriptor yJ5_putStringAt_47b60.desc).map (fun d => d.parameters.length) = some 2 := by decide +kernel
set_option maxHeartbeats 4000000 in
set_option maxRecDepth 100000 in
theorem c_J5_putStringAt_47b60 {l : Launch} {D : va_G} {cy : Nat → ClassId} (b v m0 n a2 p0 sz : Nat) (ml : Int32) (f : Nat → Int32) (s2 : List Int32) (hf : sb_Fit f) (has : ascS s2) (hfit : p0 + s2.length ≤ m0) (hm : m0 ≤ 200) : Met l yJ5_putStringAt_47b60 wsJ5_putStringAt_47b60 ({ frames := 2, cells := 0, slots := 0, locals := 140 } : Room) (kP (ES D cy s2 a2) D [.ref b, .int (nI p0), .ref a2] ([(b, .inr (12, [.ref v, .int (0 : Int32), .int ml, .int (nI n)])), (v, .inl (cy 1, m0, .inl f))]) sz) (kQE D (fun (g : Nat → Int32) => sb_Fit g ∧ (∀ j, j < p0 → g j = f j) ∧ ∀ i, i < s2.length → g (p0 + i) = s2.getD i 0) (fun g => [(b, sbE v ml n), (v, byE cy m0 g)]) (va_A ([(b, .inr (12, [.ref v, .int (0 : Int32), .int ml, .int (nI n)])), (v, .inl (cy 1, m0, .inl f))]) sz)) 0 0 (va_A ([(b, .inr (12, [.ref v, .int (0 : Int32), .int ml, .int (nI n)])), (v, .inl (cy 1, m0, .inl f))]) sz) := by
  refine kMet (y := yJ5_putStringAt_47b60) (av := [.ref b, .int (nI p0), .ref a2]) (cc := cJ5_putStringAt_47b60) (maxL := 3) (ret := none) (own := RJ5) (Qc := fun A9 => (kQE D (fun (g : Nat → Int32) => sb_Fit g ∧ (∀ j, j < p0 → g j = f j) ∧ ∀ i, i < s2.length → g (p0 + i) = s2.getD i 0) (fun g => [(b, sbE v ml n), (v, byE cy m0 g)]) A9)) (by decide) rfl rfl (Nat.le_of_ble_eq_true rfl) ?_
  intro p e s m args below meth c A hx hb hr hts hown hml hlocks hname hE hP hD hA hsz ls hl
  obtain ⟨hN, hT⟩ := hE
  have hE2 : ES D cy s2 a2 A s s.heap := ⟨hN, hT⟩
  have hK := hN.1
  have hl : lv_has ls 3 [(0, .ref b), (1, .int (nI p0)), (2, .ref a2)] := hl
  have hS : va_S A s.heap s.heap [] := va_S.rf
  have f15 := hts (.fieldLink RJ5 15 "java/lang/AbstractStringBuilder" "value" "[B") (by decide +kernel)
  have inJ4 : ∀ w ∈ wsJ40, w ∈ wsJ5_putStringAt_47b60 := by decide +kernel
  have f22 := hts (.fieldLink RJ5 22 "java/lang/AbstractStringBuilder" "coder" "B") (by decide +kernel)
  obtain ⟨QQ, hQQ⟩ : ∃ Q9, Q9 = MQ below (kQE D (fun (g : Nat → Int32) => sb_Fit g ∧ (∀ j, j < p0 → g j = f j) ∧ ∀ i, i < s2.length → g (p0 + i) = s2.getD i 0) (fun g => [(b, sbE v ml n), (v, byE cy m0 g)]) A) args s 0 0 A := ⟨_, rfl⟩
  rw [← hQQ]
  obtain ⟨H, hH⟩ : ∃ H9, H9 = s.heap := ⟨_, rfl⟩
  have hP : va_P D vwCl ([(b, .inr (12, [.ref v, .int (0 : Int32), .int ml, .int (nI n)])), (v, .inl (cy 1, m0, .inl f))]) H := by rw [hH]; exact hP
  have hS : va_S A s.heap H [] := by rw [hH]; exact hS
  rw [← hH]
  refine lv_aload_n hx hb dJ5_putStringAt_47b60_0 rfl (lv_at hl 0 rfl) ?_
  refine lv_aload_n hx hb dJ5_putStringAt_47b60_1 rfl (lv_at hl 2 rfl) ?_
  refine kc_v (va_runU (As := [.ref a2]) (rest := []) ⟨hx, hb, hml, hown, hts⟩ (c_J5_inflateIfNeededFor_a7421 b v n a2 H.size ml s2) (va_cwU 1 hts gJ5_putStringAt_47b60_J5_inflateIfNeededFor_a7421_u397J4 rfl rfl rfl rfl (by decide +kernel) ⟨Nat.le_of_ble_eq_true rfl, Nat.le_of_ble_eq_true rfl⟩) ⟨kP_blind (ES_ok D cy s2 a2) D _ _ _, va_recv hK hP (ci := 12) (q0 := 0) rfl rfl, kStart (ES_ok D cy s2 a2) hE2 hP hD hS hA [0] rfl rfl _⟩ rfl rfl hl.1 rfl (lv_room (Nat.le_of_ble_eq_true rfl)) dJ5_putStringAt_47b60_2 ⟨Nat.le_of_ble_eq_true rfl, Nat.le_of_ble_eq_true rfl⟩) hP hD hS hA [0] rfl (Nat.le_refl _) (fun H locs hP hD hS => ?_)
  have hP : va_P D vwCl ([(b, .inr (12, [.ref v, .int (0 : Int32), .int ml, .int (nI n)])), (v, .inl (cy 1, m0, .inl f))]) H := hP
  have hD : va_D A ([(b, .inr (12, [.ref v, .int (0 : Int32), .int ml, .int (nI n)])), (v, .inl (cy 1, m0, .inl f))]) := hD
  refine lv_aload_n hx hb dJ5_putStringAt_47b60_5 rfl (lv_at hl 2 rfl) ?_
  refine lv_aload_n hx hb dJ5_putStringAt_47b60_6 rfl (lv_at hl 0 rfl) ?_
  refine va_get (D := D) (ci := 12) (v := .ref v) (C := RJ4) (T := TJ4) (N := 4) hx hb hts inJ4 hown hK hP 0 rfl rfl 0 (by decide) f15 (fun _ h9 => h9) rfl dJ5_putStringAt_47b60_7 ?_
  refine lv_iload_n hx hb dJ5_putStringAt_47b60_10 rfl (lv_at hl 1 rfl) ?_
  refine lv_aload_n hx hb dJ5_putStringAt_47b60_11 rfl (lv_at hl 0 rfl) ?_
  refine va_get (D := D) (ci := 12) (v := .int (0 : Int32)) (C := RJ4) (T := TJ4) (N := 4) hx hb hts inJ4 hown hK hP 0 rfl rfl 1 (by decide) f22 (fun _ h9 => h9) rfl dJ5_putStringAt_47b60_12 ?_
  refine kc_E (va_runV (As := [.ref v, .int (nI p0), .int (0 : Int32)]) (rest := []) ⟨hx, hb, hml, hown, hts⟩ (c_J0_getBytes_840e7 v m0 a2 p0 H.size f s2 hf has hfit hm) (cwV 3 hts gJ5_putStringAt_47b60_J0_getBytes_840e7 rfl rfl rfl kd_J0_getBytes_840e7 ⟨Nat.le_of_ble_eq_true rfl, Nat.le_of_ble_eq_true rfl⟩) ⟨kP_blind (ES_ok D cy s2 a2) D _ _ _, kStr_recv hT hS, kStart (ES_ok D cy s2 a2) hE2 hP hD hS hA [1] rfl rfl _⟩ rfl rfl hl.1 rfl (lv_room (Nat.le_of_ble_eq_true rfl)) dJ5_putStringAt_47b60_15 ⟨Nat.le_of_ble_eq_true rfl, Nat.le_of_ble_eq_true rfl⟩) hP hD hS hA [1] rfl (fun _ => Nat.le_of_ble_eq_true rfl) (fun g H locs hu hP hD hS => ?_)
  have hP : va_P D vwCl ([(b, .inr (12, [.ref v, .int (0 : Int32), .int ml, .int (nI n)])), (v, .inl (cy 1, m0, .inl g))]) H := hP
  have hD : va_D A ([(b, .inr (12, [.ref v, .int (0 : Int32), .int ml, .int (nI n)])), (v, .inl (cy 1, m0, .inl g))]) := hD
  rw [hQQ]
  exact kr_E g hu hx hb hr hlocks hP hD hS dJ5_putStringAt_47b60_18 (Nat.le_refl _) (Nat.le_refl _)
theorem kd_J5_append_cf1ce : yJ5_append_cf1ce.cls = RJ5 ∧ yJ5_append_cf1ce.cls ≠ "java/lang/invoke/MethodHandle" ∧ yJ5_append_cf1ce.cls ≠ "java/lang/invoke/VarHandle" ∧ (parseMethodDescriptor yJ5_append_cf1ce.desc).map (fun d => d.parameters.length) = some 1 := by decide +kernel
set_option maxHeartbeats 4000000 in
set_option maxRecDepth 100000 in
theorem c_J5_append_cf1ce {l : Launch} {D : va_G} {cy : Nat → ClassId} (b v m0 a2 sz : Nat) (ml : Int32) (tx s2 : List Int32) (f : Nat → Int32) (ok : sbOK tx m0 f) (has : ascS s2) (hn : tx.length + s2.length ≤ 99) : Met l yJ5_append_cf1ce wsJ5_append_cf1ce ({ frames := 4, cells := 1, slots := 200, locals := 220 } : Room) (kP (ES D cy s2 a2) D [.ref b, .ref a2] ([(b, .inr (12, [.ref v, .int (0 : Int32), .int ml, .int (nI tx.length)])), (v, .inl (cy 1, m0, .inl f))]) sz) (kQR D (fun (u : Nat × Nat × (Nat → Int32)) (r : Nat) => r = b ∧ sbOK (tx ++ s2) u.2.1 u.2.2) (fun u _ => [(b, sbE u.1 ml (tx.length + s2.length)), (u.1, byE cy u.2.1 u.2.2)]) (va_A ([(b, .inr (12, [.ref v, .int (0 : Int32), .int ml, .int (nI tx.length)])), (v, .inl (cy 1, m0, .inl f))]) sz)) 1 200 (va_A ([(b, .inr (12, [.ref v, .int (0 : Int32), .int ml, .int (nI tx.length)])), (v, .inl (cy 1, m0, .inl f))]) sz) := by
  refine kMet (y := yJ5_append_cf1ce) (av := [.ref b, .ref a2]) (cc := cJ5_append_cf1ce) (maxL := 3) (ret := some (.object "java/lang/AbstractStringBuilder")) (own := RJ5) (Qc := fun A9 => (kQR D (fun (u : Nat × Nat × (Nat → Int32)) (r : Nat) => r = b ∧ sbOK (tx ++ s2) u.2.1 u.2.2) (fun u _ => [(b, sbE u.1 ml (tx.length + s2.length)), (u.1, byE cy u.2.1 u.2.2)]) A9)) (by decide) rfl rfl (Nat.le_of_ble_eq_true rfl) ?_
  intro p e s m args below meth c A hx hb hr hts hown hml hlocks hname hE hP hD hA hsz ls hl
  obtain ⟨hN, hT⟩ := hE
  have hE2 : ES D cy s2 a2 A s s.heap := ⟨hN, hT⟩
  have hK := hN.1
  have hl : lv_has ls 3 [(0, .ref b), (1, .ref a2)] := hl
  have hS : va_S A s.heap s.heap [] := va_S.rf
  have f79 := hts (.fieldLink RJ5 79 "java/lang/AbstractStringBuilder" "count" "I") (by decide +kernel)
  have inJ4 : ∀ w ∈ wsJ40, w ∈ wsJ5_append_cf1ce := by decide +kernel
  obtain ⟨QQ, hQQ⟩ : ∃ Q9, Q9 = MQ below (kQR D (fun (u : Nat × Nat × (Nat → Int32)) (r : Nat) => r = b ∧ sbOK (tx ++ s2) u.2.1 u.2.2) (fun u _ => [(b, sbE u.1 ml (tx.length + s2.length)), (u.1, byE cy u.2.1 u.2.2)]) A) args s 1 200 A := ⟨_, rfl⟩
  rw [← hQQ]
  obtain ⟨H, hH⟩ : ∃ H9, H9 = s.heap := ⟨_, rfl⟩
  have hP : va_P D vwCl ([(b, .inr (12, [.ref v, .int (0 : Int32), .int ml, .int (nI tx.length)])), (v, .inl (cy 1, m0, .inl f))]) H := by rw [hH]; exact hP
  have hS : va_S A s.heap H [] := by rw [hH]; exact hS
  rw [← hH]
  refine lv_aload_n hx hb dJ5_append_cf1ce_0 rfl (lv_at hl 1 rfl) ?_
  refine lv_ifnonnull (tgt := 9) hx hb dJ5_append_cf1ce_1 (by decide) ?_
  refine lv_aload_n hx hb dJ5_append_cf1ce_9 rfl (lv_at hl 1 rfl) ?_
  refine kg_i (va_runV (As := []) (rest := []) ⟨hx, hb, hml, hown, hts⟩ (c_J0_length_8abf5 H.size s2 a2 (nI s2.length) (if_pos (by have := ok.1; omega))) (cwV 0 hts gJ5_append_cf1ce_J0_length_8abf5 rfl rfl rfl kd_J0_length_8abf5 ⟨Nat.le_of_ble_eq_true rfl, Nat.le_of_ble_eq_true rfl⟩) ⟨kP_blind (ES_ok D cy s2 a2) D _ _ _, kStr_recv hT hS, kStart (ES_ok D cy s2 a2) hE2 hP hD hS hA [] rfl rfl _⟩ rfl rfl hl.1 rfl (lv_room (Nat.le_of_ble_eq_true rfl)) dJ5_append_cf1ce_10 ⟨Nat.le_of_ble_eq_true rfl, Nat.le_of_ble_eq_true rfl⟩) hP hD hS hA (fun H locs hP hD hS => ?_)
  refine lv_istore_n (lv' := [(2, .int (nI s2.length)), (0, .ref b), (1, .ref a2)]) hx hb dJ5_append_cf1ce_13 rfl hl (by decide) rfl (fun ls hl => ?_)
  refine lv_aload_n hx hb dJ5_append_cf1ce_14 rfl (lv_at hl 1 rfl) ?_
  refine lv_aload_n hx hb dJ5_append_cf1ce_15 rfl (lv_at hl 1 rfl) ?_
  refine va_get (D := D) (ci := 12) (v := .int (nI tx.length)) (C := RJ4) (T := TJ4) (N := 4) hx hb hts inJ4 hown hK hP 0 rfl rfl 3 (by decide) f79 (fun _ h9 => h9) rfl dJ5_append_cf1ce_16 ?_
  refine lv_iload_n hx hb dJ5_append_cf1ce_19 rfl (lv_at hl 0 rfl) ?_
  refine lv_iadd hx hb dJ5_append_cf1ce_20 ?_
  rw [show ((nI tx.length) + (nI s2.length)) = (nI (tx.length + s2.length)) from nI_add _ _]
  refine kc_E (va_runU (As := [.int (nI (tx.length + s2.length))]) (rest := []) ⟨hx, hb, hml, hown, hts⟩ (c_J5_ensureCapacityInternal_d00df b v m0 tx.length (tx.length + s2.length) H.size ml f ok.2.1 (by omega) ok.2.2.1) (va_cwU 1 hts gJ5_append_cf1ce_J5_ensureCapacityInternal_d00df_u100J4 rfl rfl rfl rfl (by decide +kernel) ⟨Nat.le_of_ble_eq_true rfl, Nat.le_of_ble_eq_true rfl⟩) ⟨kP_blind (EN_ok D cy) D _ _ _, va_recv hK hP (ci := 12) (q0 := 0) rfl rfl, kStart (EN_ok D cy) hN hP hD hS hA [0, 1] rfl rfl _⟩ rfl rfl hl.1 rfl (lv_room (Nat.le_of_ble_eq_true rfl)) dJ5_append_cf1ce_21 ⟨Nat.le_of_ble_eq_true rfl, Nat.le_of_ble_eq_true rfl⟩) hP hD hS hA [0, 1] rfl (fun _ => Nat.le_of_ble_eq_true rfl) (fun u H locs hu hP hD hS => ?_)
  obtain ⟨v1, m1, f1⟩ := u
  have hu : tx.length + s2.length ≤ m1 ∧ m1 ≤ 200 ∧ sb_Fit f1 ∧ ∀ j, j < m0 → f1 j = f j := hu
  have hP : va_P D vwCl ([(b, .inr (12, [.ref v1, .int (0 : Int32), .int ml, .int (nI tx.length)])), (v1, .inl (cy 1, m1, .inl f1))]) H := hP
  have hD : va_D A ([(b, .inr (12, [.ref v1, .int (0 : Int32), .int ml, .int (nI tx.length)])), (v1, .inl (cy 1, m1, .inl f1))]) := hD
  refine lv_aload_n hx hb dJ5_append_cf1ce_24 rfl (lv_at hl 1 rfl) ?_
  refine lv_aload_n hx hb dJ5_append_cf1ce_25 rfl (lv_at hl 1 rfl) ?_
  refine va_get (D := D) (ci := 12) (v := .int (nI tx.length)) (C := RJ4) (T := TJ4) (N := 4) hx hb hts inJ4 hown hK hP 0 rfl rfl 3 (by decide) f79 (fun _ h9 => h9) rfl dJ5_append_cf1ce_26 ?_
  refine lv_aload_n hx hb dJ5_append_cf1ce_29 rfl (lv_at hl 2 rfl) ?_
  refine kc_E (va_runU (As := [.int (nI tx.length), .ref a2]) (rest := []) ⟨hx, hb, hml, hown, hts⟩ (c_J5_putStringAt_47b60 b v1 m1 tx.length a2 tx.length H.size ml f1 s2 hu.2.2.1 has hu.1 hu.2.1) (va_cwU 2 hts gJ5_append_cf1ce_J5_putStringAt_47b60_u208J4 rfl rfl rfl rfl (by decide +kernel) ⟨Nat.le_of_ble_eq_true rfl, Nat.le_of_ble_eq_true rfl⟩) ⟨kP_blind (ES_ok D cy s2 a2) D _ _ _, va_recv hK hP (ci := 12) (q0 := 0) rfl rfl, kStart (ES_ok D cy s2 a2) hE2 hP hD hS hA [0, 1] rfl rfl _⟩ rfl rfl hl.1 rfl (lv_room (Nat.le_of_ble_eq_true rfl)) dJ5_append_cf1ce_30 ⟨Nat.le_of_ble_eq_true rfl, Nat.le_of_ble_eq_true rfl⟩) hP hD hS hA [0, 1] rfl (fun _ => Nat.le_of_ble_eq_true rfl) (fun g H locs hg hP hD hS => ?_)
  have hP : va_P D vwCl ([(b, .inr (12, [.ref v1, .int (0 : Int32), .int ml, .int (nI tx.length)])), (v1, .inl (cy 1, m1, .inl g))]) H := hP
  have hD : va_D A ([(b, .inr (12, [.ref v1, .int (0 : Int32), .int ml, .int (nI tx.length)])), (v1, .inl (cy 1, m1, .inl g))]) := hD
  refine lv_aload_n hx hb dJ5_append_cf1ce_33 rfl (lv_at hl 1 rfl) ?_
  refine lv_dup hx hb dJ5_append_cf1ce_34 rfl ?_
  refine va_get (D := D) (ci := 12) (v := .int (nI tx.length)) (C := RJ4) (T := TJ4) (N := 4) hx hb hts inJ4 hown hK hP 0 rfl rfl 3 (by decide) f79 (fun _ h9 => h9) rfl dJ5_append_cf1ce_35 ?_
  refine lv_iload_n hx hb dJ5_append_cf1ce_38 rfl (lv_at hl 0 rfl) ?_
  refine lv_iadd hx hb dJ5_append_cf1ce_39 ?_
  rw [show ((nI tx.length) + (nI s2.length)) = (nI (tx.length + s2.length)) from nI_add _ _]
  refine va_put (D := D) (ci := 12) (v := .int (nI (tx.length + s2.length))) (ty := .int) (C := RJ4) (T := TJ4) (N := 4) hx hb hts inJ4 tyJ4 tyJ4_ok nmJ4 hown hK hP hD hS 0 rfl rfl 3 (by decide) f79 (fun _ h9 => h9) (by decide +kernel) rfl rfl rfl (Nat.le_of_ble_eq_true rfl) dJ5_append_cf1ce_40 (fun H locs hP hD hS => ?_)
  have hP : va_P D vwCl ([(b, .inr (12, [.ref v1, .int (0 : Int32), .int ml, .int (nI (tx.length + s2.length))])), (v1, .inl (cy 1, m1, .inl g))]) H := hP
  have hD : va_D A ([(b, .inr (12, [.ref v1, .int (0 : Int32), .int ml, .int (nI (tx.length + s2.length))])), (v1, .inl (cy 1, m1, .inl g))]) := hD
  refine lv_aload_n hx hb dJ5_append_cf1ce_43 rfl (lv_at hl 1 rfl) ?_
  rw [hQQ]
  exact kr_R (v1, m1, g) ⟨rfl, sbOK_app (m1 := m1) (g := g) ok hu.1 hu.2.1 hg.1 (fun j hj => (hg.2.1 j hj).trans (hu.2.2.2 j (by have := ok.1; omega))) hg.2.2⟩ hx hb hr (Or.inl ⟨_, rfl⟩) hlocks hP hD hS dJ5_append_cf1ce_44 (Nat.le_of_ble_eq_true rfl) (Nat.le_of_ble_eq_true rfl)
theorem kd_J4_append_15ec4 : yJ4_append_15ec4.cls = RJ4 ∧ yJ4_append_15ec4.cls ≠ "java/lang/invoke/MethodHandle" ∧ yJ4_append_15ec4.cls ≠ "java/lang/invoke/VarHandle" ∧ (parseMethodDescriptor yJ4_append_15ec4.desc).map (fun d => d.parameters.length) = some 1 := by decide +kernel
set_option maxHeartbeats 4000000 in
set_option maxRecDepth 100000 in
theorem c_J4_append_15ec4 {l : Launch} {D : va_G} {cy : Nat → ClassId} (b v m0 a2 sz : Nat) (ml : Int32) (tx s2 : List Int32) (f : Nat → Int32) (ok : sbOK tx m0 f) (has : ascS s2) (hn : tx.length + s2.length ≤ 99) : Met l yJ4_append_15ec4 wsJ4_append_15ec4 ({ frames := 5, cells := 1, slots := 200, locals := 280 } : Room) (kP (ES D cy s2 a2) D [.ref b, .ref a2] ([(b, .inr (12, [.ref v, .int (0 : Int32), .int ml, .int (nI tx.length)])), (v, .inl (cy 1, m0, .inl f))]) sz) (kQR D (fun (u : Nat × Nat × (Nat → Int32)) (r : Nat) => r = b ∧ sbOK (tx ++ s2) u.2.1 u.2.2) (fun u _ => [(b, sbE u.1 ml (tx.length + s2.length)), (u.1, byE cy u.2.1 u.2.2)]) (va_A ([(b, .inr (12, [.ref v, .int (0 : Int32), .int ml, .int (nI tx.length)])), (v, .inl (cy 1, m0, .inl f))]) sz)) 1 200 (va_A ([(b, .inr (12, [.ref v, .int (0 : Int32), .int ml, .int (nI tx.length)])), (v, .inl (cy 1, m0, .inl f))]) sz) := by
  refine kMet (y := yJ4_append_15ec4) (av := [.ref b, .ref a2]) (cc := cJ4_append_15ec4) (maxL := 2) (ret := some (.object "java/lang/StringBuilder")) (own := RJ4) (Qc := fun A9 => (kQR D (fun (u : Nat × Nat × (Nat → Int32)) (r : Nat) => r = b ∧ sbOK (tx ++ s2) u.2.1 u.2.2) (fun u _ => [(b, sbE u.1 ml (tx.length + s2.length)), (u.1, byE cy u.2.1 u.2.2)]) A9)) (by decide) rfl rfl (Nat.le_of_ble_eq_true rfl) ?_
  intro p e s m args below meth c A hx hb hr hts hown hml hlocks hname hE hP hD hA hsz ls hl
  obtain ⟨hN, hT⟩ := hE
  have hE2 : ES D cy s2 a2 A s s.heap := ⟨hN, hT⟩
  have hK := hN.1
  have hl : lv_has ls 2 [(0, .ref b), (1, .ref a2)] := hl
  have hS : va_S A s.heap s.heap [] := va_S.rf
  obtain ⟨QQ, hQQ⟩ : ∃ Q9, Q9 = MQ below (kQR D (fun (u : Nat × Nat × (Nat → Int32)) (r : Nat) => r = b ∧ sbOK (tx ++ s2) u.2.1 u.2.2) (fun u _ => [(b, sbE u.1 ml (tx.length + s2.length)), (u.1, byE cy u.2.1 u.2.2)]) A) args s 1 200 A := ⟨_, rfl⟩
  rw [← hQQ]
  obtain ⟨H, hH⟩ : ∃ H9, H9 = s.heap := ⟨_, rfl⟩
  have hP : va_P D vwCl ([(b, .inr (12, [.ref v, .int (0 : Int32), .int ml, .int (nI tx.length)])), (v, .inl (cy 1, m0, .inl f))]) H := by rw [hH]; exact hP
  have hS : va_S A s.heap H [] := by rw [hH]; exact hS
  rw [← hH]
  refine lv_aload_n hx hb dJ4_append_15ec4_0 rfl (lv_at hl 0 rfl) ?_
  refine lv_aload_n hx hb dJ4_append_15ec4_1 rfl (lv_at hl 1 rfl) ?_
  refine kc_R (va_runSU (As := [.ref a2]) (rest := []) (hK.1 12 _ rfl).2 ⟨hx, hb, hml, hown, hts⟩ (c_J5_append_cf1ce b v m0 a2 H.size ml tx s2 f ok has hn) (va_cwSU 1 hts gJ4_append_15ec4_J5_append_cf1ce_s29 rfl rfl rfl ⟨by decide, by decide +kernel⟩ ⟨Nat.le_of_ble_eq_true rfl, Nat.le_of_ble_eq_true rfl⟩) ⟨kP_blind (ES_ok D cy s2 a2) D _ _ _, va_recv hK hP (ci := 12) (q0 := 0) rfl rfl, kStart (ES_ok D cy s2 a2) hE2 hP hD hS hA [0, 1] rfl rfl _⟩ rfl rfl hl.1 rfl (lv_room (Nat.le_of_ble_eq_true rfl)) dJ4_append_15ec4_2 ⟨Nat.le_of_ble_eq_true rfl, Nat.le_of_ble_eq_true rfl⟩) hP hD hS hA [0, 1] rfl (fun _ _ => Nat.le_of_ble_eq_true rfl) (fun u r H locs hu hP hD hS => ?_)
  obtain ⟨v1, m1, f1⟩ := u
  obtain ⟨rfl, hu⟩ := hu
  have hP : va_P D vwCl ([(r, .inr (12, [.ref v1, .int (0 : Int32), .int ml, .int (nI (tx.length + s2.length))])), (v1, .inl (cy 1, m1, .inl f1))]) H := hP
  have hD : va_D A ([(r, .inr (12, [.ref v1, .int (0 : Int32), .int ml, .int (nI (tx.length + s2.length))])), (v1, .inl (cy 1, m1, .inl f1))]) := hD
  refine lv_pop hx hb dJ4_append_15ec4_5 rfl ?_
  refine lv_aload_n hx hb dJ4_append_15ec4_6 rfl (lv_at hl 0 rfl) ?_
  rw [hQQ]
  exact kr_R (v1, m1, f1) ⟨rfl, hu⟩ hx hb hr (Or.inl ⟨_, rfl⟩) hlocks hP hD hS dJ4_append_15ec4_7 (Nat.le_of_ble_eq_true rfl) (Nat.le_of_ble_eq_true rfl)
theorem min_l {a b : Nat} (h : a ≤ b) (hb : b < 2 ^ 31) : (if nI a < nI b then nI a else nI b) = nI a := by
  by_cases c : a < b
  · rw [if_pos (nI_lt c hb)]
  · obtain rfl : a = b := by omega
    rw [if_neg (nI_nlt (Nat.le_refl _) hb)]
theorem kd_J7_checkLength_df160 : yJ7_checkLength_df160.cls ≠ "java/lang/invoke/MethodHandle" ∧ yJ7_checkLength_df160.cls ≠ "java/lang/invoke/VarHandle" ∧ (parseMethodDescriptor yJ7_checkLength_df160.desc).map (fun d => d.parameters.length) = some 2 := by decide +kernel
set_option maxHeartbeats 4000000 in
set_option maxRecDepth 100000 in
theorem c_J7_checkLength_df160 {l : Launch} {D : va_G} {cy : Nat → ClassId} (k sz : Nat) (hk : k < 2 ^ 31) : Met l yJ7_checkLength_df160 wsJ7_checkLength_df160 ({ frames := 0, cells := 0, slots := 0, locals := 0 } : Room) (kP (EN D cy) D [.int (0 : Int32), .int (nI k)] (([] : va_W)) sz) (kQv D ([] : va_W) (va_A (([] : va_W)) sz)) 0 0 (va_A (([] : va_W)) sz) := by
  refine kMet (y := yJ7_checkLength_df160) (av := [.int (0 : Int32), .int (nI k)]) (cc := cJ7_checkLength_df160) (maxL := 2) (ret := none) (own := RJ7) (Qc := fun A9 => (kQv D ([] : va_W) A9)) (by decide) rfl rfl (Nat.le_of_ble_eq_true rfl) ?_
  intro p e s m args below meth c A hx hb hr hts hown hml hlocks hname hE hP hD hA hsz ls hl
  have hK := hE.1
  have hl : lv_has ls 2 [(0, .int (0 : Int32)), (1, .int (nI k))] := hl
  have hS : va_S A s.heap s.heap [] := va_S.rf
  obtain ⟨QQ, hQQ⟩ : ∃ Q9, Q9 = MQ below (kQv D ([] : va_W) A) args s 0 0 A := ⟨_, rfl⟩
  rw [← hQQ]
  obtain ⟨H, hH⟩ : ∃ H9, H9 = s.heap := ⟨_, rfl⟩
  have hP : va_P D vwCl (([] : va_W)) H := by rw [hH]; exact hP
  have hS : va_S A s.heap H [] := by rw [hH]; exact hS
  rw [← hH]
  refine lv_iload_n hx hb dJ7_checkLength_df160_0 rfl (lv_at hl 1 rfl) ?_
  refine lv_iload_n hx hb dJ7_checkLength_df160_1 rfl (lv_at hl 0 rfl) ?_
  refine lv_icmp_ge (tgt := 37) hx hb dJ7_checkLength_df160_2 (by decide) (fun _ => ?_) (fun h1 => absurd (nI_pos' hk) h1)
  rw [hQQ]
  exact kr_v hx hb hr hlocks hP hD hS dJ7_checkLength_df160_37
theorem kd_J7_copyOfRangeByte_39247 : yJ7_copyOfRangeByte_39247.cls ≠ "java/lang/invoke/MethodHandle" ∧ yJ7_copyOfRangeByte_39247.cls ≠ "java/lang/invoke/VarHandle" ∧ (parseMethodDescriptor yJ7_copyOfRangeByte_39247.desc).map (fun d => d.parameters.length) = some 3 := by decide +kernel
set_option maxHeartbeats 4000000 in
set_option maxRecDepth 100000 in
theorem c_J7_copyOfRangeByte_39247 {l : Launch} {D : va_G} {cy : Nat → ClassId} (v m0 k sz : Nat) (f : Nat → Int32) (hkm : k ≤ m0) (hm : m0 ≤ 200) (hf : sb_Fit f) : Met l yJ7_copyOfRangeByte_39247 wsJ7_copyOfRangeByte_39247 ({ frames := 1, cells := 1, slots := 200, locals := 80 } : Room) (kP (EN D cy) D [.ref v, .int (0 : Int32), .int (nI k)] ([(v, .inl (cy 1, m0, .inl f))]) sz) (kQR D (fun (g : Nat → Int32) (_ : Nat) => sb_Fit g ∧ ∀ j, j < k → g j = f j) (fun g x => [(v, byE cy m0 f), (x, byE cy k g)]) (va_A ([(v, .inl (cy 1, m0, .inl f))]) sz)) 1 200 (va_A ([(v, .inl (cy 1, m0, .inl f))]) sz) := by
  refine kMet (y := yJ7_copyOfRangeByte_39247) (av := [.ref v, .int (0 : Int32), .int (nI k)]) (cc := cJ7_copyOfRangeByte_39247) (maxL := 5) (ret := some (.array .byte)) (own := RJ7) (Qc := fun A9 => (kQR D (fun (g : Nat → Int32) (_ : Nat) => sb_Fit g ∧ ∀ j, j < k → g j = f j) (fun g x => [(v, byE cy m0 f), (x, byE cy k g)]) A9)) (by decide) rfl rfl (Nat.le_of_ble_eq_true rfl) ?_
  intro p e s m args below meth c A hx hb hr hts hown hml hlocks hname hE hP hD hA hsz ls hl
  have hK := hE.1
  have hl : lv_has ls 5 [(0, .ref v), (1, .int (0 : Int32)), (2, .int (nI k))] := hl
  have hS : va_S A s.heap s.heap [] := va_S.rf
  have aB := hts (.arrayClass .byte) (by decide +kernel)
  have m304 := hts (.methodLink RJ7 304 Lib.Math.min.name) (by decide +kernel)
  have s_va_mmin := hts (.static Lib.Math.min.name) (by decide +kernel)
  have iMath := hts (.initialized "java/lang/Math") (by decide +kernel)
  have k_va_mmin := hts (.code Lib.Math.min.name Lib.Math.min.code 2 (some .int)) (by decide +kernel)
  have m150 := hts (.methodLink RJ7 150 arraycopyName) (by decide +kernel)
  have nat := hts (.native arraycopyName) (by decide +kernel)
  have snat := hts (.static arraycopyName) (by decide +kernel)
  have iSys := hts (.initialized "java/lang/System") (by decide +kernel)
  obtain ⟨QQ, hQQ⟩ : ∃ Q9, Q9 = MQ below (kQR D (fun (g : Nat → Int32) (_ : Nat) => sb_Fit g ∧ ∀ j, j < k → g j = f j) (fun g x => [(v, byE cy m0 f), (x, byE cy k g)]) A) args s 1 200 A := ⟨_, rfl⟩
  rw [← hQQ]
  obtain ⟨H, hH⟩ : ∃ H9, H9 = s.heap := ⟨_, rfl⟩
  have hP : va_P D vwCl ([(v, .inl (cy 1, m0, .inl f))]) H := by rw [hH]; exact hP
  have hS : va_S A s.heap H [] := by rw [hH]; exact hS
  rw [← hH]
  refine lv_iload_n hx hb dJ7_copyOfRangeByte_39247_0 rfl (lv_at hl 1 rfl) ?_
  refine lv_iload_n hx hb dJ7_copyOfRangeByte_39247_1 rfl (lv_at hl 2 rfl) ?_
  refine kc_v (va_runS (As := [.int (0 : Int32), .int (nI k)]) (rest := []) ⟨hx, hb, hml, hown, hts⟩ (c_J7_checkLength_df160 k H.size (by omega)) (va_cwS 2 hts gJ7_copyOfRangeByte_39247_J7_checkLength_df160 rfl rfl rfl kd_J7_checkLength_df160 ⟨Nat.le_of_ble_eq_true rfl, Nat.le_of_ble_eq_true rfl⟩) ⟨kP_blind (EN_ok D cy) D _ _ _, kStart (EN_ok D cy) hE hP hD hS hA [] rfl rfl _⟩ rfl rfl hl.1 rfl (lv_room (Nat.le_of_ble_eq_true rfl)) dJ7_copyOfRangeByte_39247_2 ⟨Nat.le_of_ble_eq_true rfl, Nat.le_of_ble_eq_true rfl⟩) hP hD hS hA [] rfl (Nat.le_refl _) (fun H locs hP hD hS => ?_)
  have hP : va_P D vwCl ([(v, .inl (cy 1, m0, .inl f))]) H := hP
  have hD : va_D A ([(v, .inl (cy 1, m0, .inl f))]) := hD
  refine lv_iload_n hx hb dJ7_copyOfRangeByte_39247_5 rfl (lv_at hl 2 rfl) ?_
  refine lv_iload_n hx hb dJ7_copyOfRangeByte_39247_6 rfl (lv_at hl 1 rfl) ?_
  refine lv_isub hx hb dJ7_copyOfRangeByte_39247_7 ?_
  rw [show ((nI k) - (0 : Int32)) = (nI k) from (pk_sub (b := 0) (a := k) (Nat.zero_le _) : nI k - nI 0 = nI k)]
  refine lv_istore_n (lv' := [(3, .int (nI k)), (0, .ref v), (1, .int (0 : Int32)), (2, .int (nI k))]) hx hb dJ7_copyOfRangeByte_39247_8 rfl hl (by decide) rfl (fun ls hl => ?_)
  refine lv_iload_n hx hb dJ7_copyOfRangeByte_39247_9 rfl (lv_at hl 0 rfl) ?_
  refine kn_newb (N' := k) hx hb aB hK hP hD hS hA (nI_pos (by omega)) (nI_clamp (by omega)) (by omega) (Nat.le_of_ble_eq_true rfl) (by show 0 + k ≤ 200; omega) dJ7_copyOfRangeByte_39247_10 (fun x H hP hD hS => ?_)
  have hP : va_P D vwCl ([(v, .inl (cy 1, m0, .inl f)), (x, .inl (cy 1, k, .inl (fun _ => (0 : Int32))))]) H := hP
  have hD : va_D A ([(v, .inl (cy 1, m0, .inl f)), (x, .inl (cy 1, k, .inl (fun _ => (0 : Int32))))]) := hD
  refine lv_astore (lv' := [(4, .ref x), (3, .int (nI k)), (0, .ref v), (1, .int (0 : Int32)), (2, .int (nI k))]) hx hb dJ7_copyOfRangeByte_39247_12 hl (by decide) rfl (fun ls hl => ?_)
  refine lv_aload_n hx hb dJ7_copyOfRangeByte_39247_14 rfl (lv_at hl 2 rfl) ?_
  refine lv_iload_n hx hb dJ7_copyOfRangeByte_39247_15 rfl (lv_at hl 3 rfl) ?_
  refine lv_aload hx hb dJ7_copyOfRangeByte_39247_16 (lv_at hl 0 rfl) ?_
  refine lv_iconst (v := 0) hx hb dJ7_copyOfRangeByte_39247_18 (by decide) ?_
  refine lv_aload_n hx hb dJ7_copyOfRangeByte_39247_19 rfl (lv_at hl 2 rfl) ?_
  refine va_alen hx hb hK hP 0 1 rfl rfl (v := nI m0) rfl dJ7_copyOfRangeByte_39247_20 ?_
  refine lv_iload_n hx hb dJ7_copyOfRangeByte_39247_21 rfl (lv_at hl 3 rfl) ?_
  refine lv_isub hx hb dJ7_copyOfRangeByte_39247_22 ?_
  rw [show ((nI m0) - (0 : Int32)) = (nI m0) from (pk_sub (b := 0) (a := m0) (Nat.zero_le _) : nI m0 - nI 0 = nI m0)]
  refine lv_iload_n hx hb dJ7_copyOfRangeByte_39247_23 rfl (lv_at hl 1 rfl) ?_
  refine va_mmin hx hb (by rw [hml]; exact hl.1.symm) hown m304 s_va_mmin iMath k_va_mmin (Nat.le_of_ble_eq_true rfl) (Nat.le_of_ble_eq_true rfl) (Nat.le_of_ble_eq_true rfl) (by show 0 + k ≤ 200; omega) dJ7_copyOfRangeByte_39247_24 ?_
  rw [show (if (nI k) < (nI m0) then (nI k) else (nI m0)) = (nI k) from min_l hkm (by omega)]
  refine va_copyi hx hb (by rw [hml]; exact hl.1.symm) hown m150 nat snat iSys hK hP hD hS 0 1 1 1 rfl rfl rfl rfl rfl (by decide) (by decide) (nI_pos (by omega)) (by rw [nI_clamp (by omega)]; show 0 + k ≤ m0; omega) (by rw [nI_clamp (by omega)]; show 0 + k ≤ k; omega) (fun i _ => hf _) (Nat.le_of_ble_eq_true rfl) (Nat.le_of_ble_eq_true rfl) dJ7_copyOfRangeByte_39247_27 (fun H locs hP hD hS => ?_)
  obtain ⟨g, eg⟩ : ∃ g9 : Nat → Int32, g9 = va_cpy f (fun _ => 0) (0 : Int32).toNatClampNeg (0 : Int32).toNatClampNeg (nI k).toNatClampNeg := ⟨_, rfl⟩
  have hP : va_P D vwCl ([(v, .inl (cy 1, m0, .inl f)), (x, .inl (cy 1, k, .inl g))]) H := by rw [eg]; exact hP
  have hD : va_D A ([(v, .inl (cy 1, m0, .inl f)), (x, .inl (cy 1, k, .inl g))]) := by rw [eg]; exact hD
  rw [nI_clamp (by omega), sb_cl0] at eg
  refine lv_aload hx hb dJ7_copyOfRangeByte_39247_30 (lv_at hl 0 rfl) ?_
  rw [hQQ]
  exact kr_R g ⟨by rw [eg]; exact sb_fitC hf sb_fit0, fun j hj => by rw [eg]; exact sb_cpy0 hj⟩ hx hb hr (Or.inr ⟨_, rfl⟩) hlocks hP hD hS dJ7_copyOfRangeByte_39247_32 (Nat.le_of_ble_eq_true rfl) (by show 0 + k ≤ 200; omega)
theorem kd_J7_copyOfRange_39247 : yJ7_copyOfRange_39247.cls ≠ "java/lang/invoke/MethodHandle" ∧ yJ7_copyOfRange_39247.cls ≠ "java/lang/invoke/VarHandle" ∧ (parseMethodDescriptor yJ7_copyOfRange_39247.desc).map (fun d => d.parameters.length) = some 3 := by decide +kernel
set_option maxHeartbeats 4000000 in
set_option maxRecDepth 100000 in
theorem c_J7_copyOfRange_39247 {l : Launch} {D : va_G} {cy : Nat → ClassId} (v m0 k sz : Nat) (f : Nat → Int32) (hkm : k ≤ m0) (hm : m0 ≤ 200) (hf : sb_Fit f) : Met l yJ7_copyOfRange_39247 wsJ7_copyOfRange_39247 ({ frames := 2, cells := 1, slots := 200, locals := 140 } : Room) (kP (EL D cy) D [.ref v, .int (0 : Int32), .int (nI k)] ([(v, .inl (cy 1, m0, .inl f))]) sz) (kQR D (fun (g : Nat → Int32) (_ : Nat) => sb_Fit g ∧ ∀ j, j < k → g j = f j) (fun g x => [(v, byE cy m0 f), (x, byE cy k g)]) (va_A ([(v, .inl (cy 1, m0, .inl f))]) sz)) 1 200 (va_A ([(v, .inl (cy 1, m0, .inl f))]) sz) := by
  refine kMet (y := yJ7_copyOfRange_39247) (av := [.ref v, .int (0 : Int32), .int (nI k)]) (cc := cJ7_copyOfRange_39247) (maxL := 3) (ret := some (.array .byte)) (own := RJ7) (Qc := fun A9 => (kQR D (fun (g : Nat → Int32) (_ : Nat) => sb_Fit g ∧ ∀ j, j < k → g j = f j) (fun g x => [(v, byE cy m0 f), (x, byE cy k g)]) A9)) (by decide) rfl rfl (Nat.le_of_ble_eq_true rfl) ?_
  intro p e s m args below meth c A hx hb hr hts hown hml hlocks hname hE hP hD hA hsz ls hl
  obtain ⟨hE, hL⟩ := hE
  have hCl := hL.1
  have hK := hE.1
  have hl : lv_has ls 3 [(0, .ref v), (1, .int (0 : Int32)), (2, .int (nI k))] := hl
  have hS : va_S A s.heap s.heap [] := va_S.rf
  have lk := hts (.methodLink RJ7 310 ⟨"[B", "clone", "()Ljava/lang/Object;"⟩) (by decide +kernel)
  have sm := hts (.sameMethod "[B" "java/lang/Object" "clone" "()Ljava/lang/Object;") (by decide +kernel)
  have nt := hts (.native ⟨"java/lang/Object", "clone", "()Ljava/lang/Object;"⟩) (by decide +kernel)
  have ist := hts (.instanceMethod ⟨"java/lang/Object", "clone", "()Ljava/lang/Object;"⟩) (by decide +kernel)
  have sl := hts (.selects "[B" ⟨"[B", "clone", "()Ljava/lang/Object;"⟩ ⟨"java/lang/Object", "clone", "()Ljava/lang/Object;"⟩) (by decide +kernel)
  have clB := hts (.classLink RJ7 311 "[B") (by decide +kernel)
  obtain ⟨QQ, hQQ⟩ : ∃ Q9, Q9 = MQ below (kQR D (fun (g : Nat → Int32) (_ : Nat) => sb_Fit g ∧ ∀ j, j < k → g j = f j) (fun g x => [(v, byE cy m0 f), (x, byE cy k g)]) A) args s 1 200 A := ⟨_, rfl⟩
  rw [← hQQ]
  obtain ⟨H, hH⟩ : ∃ H9, H9 = s.heap := ⟨_, rfl⟩
  have hP : va_P D vwCl ([(v, .inl (cy 1, m0, .inl f))]) H := by rw [hH]; exact hP
  have hS : va_S A s.heap H [] := by rw [hH]; exact hS
  rw [← hH]
  refine lv_iload_n hx hb dJ7_copyOfRange_39247_0 rfl (lv_at hl 1 rfl) ?_
  refine lv_if_ne (tgt := 10) hx hb dJ7_copyOfRange_39247_1 (by decide) (fun h1 => absurd (rfl) h1) (fun _ => ?_)
  refine lv_iload_n hx hb dJ7_copyOfRange_39247_4 rfl (lv_at hl 2 rfl) ?_
  refine lv_aload_n hx hb dJ7_copyOfRange_39247_5 rfl (lv_at hl 0 rfl) ?_
  refine va_alen hx hb hK hP 0 1 rfl rfl (v := nI m0) rfl dJ7_copyOfRange_39247_6 ?_
  by_cases hc : k = m0
  · skip
    refine lv_icmp_eq (tgt := 17) hx hb dJ7_copyOfRange_39247_7 (by decide) (fun _ => ?_) (fun h2 => absurd (congrArg nI hc) h2)
    refine lv_aload_n hx hb dJ7_copyOfRange_39247_17 rfl (lv_at hl 0 rfl) ?_
    have hnm : s.vm.findClass "[B" = some (cy 1) := (hK.2 1 _ rfl).2
    refine va_clone hx hb (by rw [hml]; exact hl.1.symm) hown lk sm nt ist sl hCl hK hP hD hS hA 0 1 rfl rfl hnm (kfitB hf) (Nat.le_of_ble_eq_true rfl) (Nat.le_of_ble_eq_true rfl) (Nat.le_of_ble_eq_true rfl) (by show 0 + m0 ≤ 200; omega) dJ7_copyOfRange_39247_18 (fun x H _ hP hD hS => ?_)
    have hP : va_P D vwCl ([(v, .inl (cy 1, m0, .inl f)), (x, .inl (cy 1, m0, .inl f))]) H := hP
    have hD : va_D A ([(v, .inl (cy 1, m0, .inl f)), (x, .inl (cy 1, m0, .inl f))]) := hD
    refine va_castA hx hb hown clB hP 1 rfl hnm dJ7_copyOfRange_39247_21 ?_
    subst hc
    rw [hQQ]
    exact kr_R f ⟨hf, fun _ _ => rfl⟩ hx hb hr (Or.inr ⟨_, rfl⟩) hlocks hP hD hS dJ7_copyOfRange_39247_24 (Nat.le_of_ble_eq_true rfl) (by show 0 + k ≤ 200; omega)
  · skip
    refine lv_icmp_eq (tgt := 17) hx hb dJ7_copyOfRange_39247_7 (by decide) (fun h2 => absurd h2 (fun z => hc ((nI_eq (by omega) (by omega)).mp z))) (fun _ => ?_)
    refine lv_aload_n hx hb dJ7_copyOfRange_39247_10 rfl (lv_at hl 0 rfl) ?_
    refine lv_iload_n hx hb dJ7_copyOfRange_39247_11 rfl (lv_at hl 1 rfl) ?_
    refine lv_iload_n hx hb dJ7_copyOfRange_39247_12 rfl (lv_at hl 2 rfl) ?_
    refine kc_R (va_runS (As := [.ref v, .int (0 : Int32), .int (nI k)]) (rest := []) ⟨hx, hb, hml, hown, hts⟩ (c_J7_copyOfRangeByte_39247 v m0 k H.size f hkm hm hf) (va_cwS 3 hts gJ7_copyOfRange_39247_J7_copyOfRangeByte_39247 rfl rfl rfl kd_J7_copyOfRangeByte_39247 ⟨Nat.le_of_ble_eq_true rfl, Nat.le_of_ble_eq_true rfl⟩) ⟨kP_blind (EN_ok D cy) D _ _ _, kStart (EN_ok D cy) hE hP hD hS hA [0] rfl rfl _⟩ rfl rfl hl.1 rfl (lv_room (Nat.le_of_ble_eq_true rfl)) dJ7_copyOfRange_39247_13 ⟨Nat.le_of_ble_eq_true rfl, Nat.le_of_ble_eq_true rfl⟩) hP hD hS hA [0] rfl (fun _ _ => Nat.le_of_ble_eq_true rfl) (fun g x H locs hg hP hD hS => ?_)
    have hP : va_P D vwCl ([(v, .inl (cy 1, m0, .inl f)), (x, .inl (cy 1, k, .inl g))]) H := hP
    have hD : va_D A ([(v, .inl (cy 1, m0, .inl f)), (x, .inl (cy 1, k, .inl g))]) := hD
    rw [hQQ]
    exact kr_R g hg hx hb hr (Or.inr ⟨_, rfl⟩) hlocks hP hD hS dJ7_copyOfRange_39247_16 (Nat.le_of_ble_eq_true rfl) (Nat.le_of_ble_eq_true rfl)
theorem kd_J5_getValue_6d5f1 : yJ5_getValue_6d5f1.cls = RJ5 ∧ yJ5_getValue_6d5f1.cls ≠ "java/lang/invoke/MethodHandle" ∧ yJ5_getValue_6d5f1.cls ≠ "java/lang/invoke/VarHandle" ∧ (parseMethodDescriptor yJ5_getValue_6d5f1.desc).map (fun d => d.parameters.length) = some 0 := by decide +kernel
set_option maxHeartbeats 4000000 in
set_option maxRecDepth 100000 in
theorem c_J5_getValue_6d5f1 {l : Launch} {D : va_G} {cy : Nat → ClassId} (b v n sz : Nat) (ml : Int32) : Met l yJ5_getValue_6d5f1 wsJ5_getValue_6d5f1 ({ frames := 0, cells := 0, slots := 0, locals := 0 } : Room) (kP (EN D cy) D [.ref b] ([(b, .inr (12, [.ref v, .int (0 : Int32), .int ml, .int (nI n)]))]) sz) (kQR D (fun (_ : Unit) (r : Nat) => r = v) (fun _ _ => [(b, .inr (12, [.ref v, .int (0 : Int32), .int ml, .int (nI n)]))]) (va_A ([(b, .inr (12, [.ref v, .int (0 : Int32), .int ml, .int (nI n)]))]) sz)) 0 0 (va_A ([(b, .inr (12, [.ref v, .int (0 : Int32), .int ml, .int (nI n)]))]) sz) := by
  refine kMet (y := yJ5_getValue_6d5f1) (av := [.ref b]) (cc := cJ5_getValue_6d5f1) (maxL := 1) (ret := some (.array .byte)) (own := RJ5) (Qc := fun A9 => (kQR D (fun (_ : Unit) (r : Nat) => r = v) (fun _ _ => [(b, .inr (12, [.ref v, .int (0 : Int32), .int ml, .int (nI n)]))]) A9)) (by decide) rfl rfl (Nat.le_of_ble_eq_true rfl) ?_
  intro p e s m args below meth c A hx hb hr hts hown hml hlocks hname hE hP hD hA hsz ls hl
  have hK := hE.1
  have hl : lv_has ls 1 [(0, .ref b)] := hl
  have hS : va_S A s.heap s.heap [] := va_S.rf
  have f15 := hts (.fieldLink RJ5 15 "java/lang/AbstractStringBuilder" "value" "[B") (by decide +kernel)
  have inJ4 : ∀ w ∈ wsJ40, w ∈ wsJ5_getValue_6d5f1 := by decide +kernel
  obtain ⟨QQ, hQQ⟩ : ∃ Q9, Q9 = MQ below (kQR D (fun (_ : Unit) (r : Nat) => r = v) (fun _ _ => [(b, .inr (12, [.ref v, .int (0 : Int32), .int ml, .int (nI n)]))]) A) args s 0 0 A := ⟨_, rfl⟩
  rw [← hQQ]
  obtain ⟨H, hH⟩ : ∃ H9, H9 = s.heap := ⟨_, rfl⟩
  have hP : va_P D vwCl ([(b, .inr (12, [.ref v, .int (0 : Int32), .int ml, .int (nI n)]))]) H := by rw [hH]; exact hP
  have hS : va_S A s.heap H [] := by rw [hH]; exact hS
  rw [← hH]
  refine lv_aload_n hx hb dJ5_getValue_6d5f1_0 rfl (lv_at hl 0 rfl) ?_
  refine va_get (D := D) (ci := 12) (v := .ref v) (C := RJ4) (T := TJ4) (N := 4) hx hb hts inJ4 hown hK hP 0 rfl rfl 0 (by decide) f15 (fun _ h9 => h9) rfl dJ5_getValue_6d5f1_1 ?_
  rw [hQQ]
  exact kr_R () rfl hx hb hr (Or.inr ⟨_, rfl⟩) hlocks hP hD hS dJ5_getValue_6d5f1_4 (Nat.le_of_ble_eq_true rfl) (Nat.le_of_ble_eq_true rfl)
theorem kd_J5_length_8abf5 : yJ5_length_8abf5.cls = RJ5 ∧ yJ5_length_8abf5.cls ≠ "java/lang/invoke/MethodHandle" ∧ yJ5_length_8abf5.cls ≠ "java/lang/invoke/VarHandle" ∧ (parseMethodDescriptor yJ5_length_8abf5.desc).map (fun d => d.parameters.length) = some 0 := by decide +kernel
set_option maxHeartbeats 4000000 in
set_option maxRecDepth 100000 in
theorem c_J5_length_8abf5 {l : Launch} {D : va_G} {cy : Nat → ClassId} (b v n sz : Nat) (ml : Int32) : Met l yJ5_length_8abf5 wsJ5_length_8abf5 ({ frames := 0, cells := 0, slots := 0, locals := 0 } : Room) (kP (EN D cy) D [.ref b] ([(b, .inr (12, [.ref v, .int (0 : Int32), .int ml, .int (nI n)]))]) sz) (kQi D (nI n) [(b, .inr (12, [.ref v, .int (0 : Int32), .int ml, .int (nI n)]))] (va_A ([(b, .inr (12, [.ref v, .int (0 : Int32), .int ml, .int (nI n)]))]) sz)) 0 0 (va_A ([(b, .inr (12, [.ref v, .int (0 : Int32), .int ml, .int (nI n)]))]) sz) := by
  refine kMet (y := yJ5_length_8abf5) (av := [.ref b]) (cc := cJ5_length_8abf5) (maxL := 1) (ret := some .int) (own := RJ5) (Qc := fun A9 => (kQi D (nI n) [(b, .inr (12, [.ref v, .int (0 : Int32), .int ml, .int (nI n)]))] A9)) (by decide) rfl rfl (Nat.le_of_ble_eq_true rfl) ?_
  intro p e s m args below meth c A hx hb hr hts hown hml hlocks hname hE hP hD hA hsz ls hl
  have hK := hE.1
  have hl : lv_has ls 1 [(0, .ref b)] := hl
  have hS : va_S A s.heap s.heap [] := va_S.rf
  have f79 := hts (.fieldLink RJ5 79 "java/lang/AbstractStringBuilder" "count" "I") (by decide +kernel)
  have inJ4 : ∀ w ∈ wsJ40, w ∈ wsJ5_length_8abf5 := by decide +kernel
  obtain ⟨QQ, hQQ⟩ : ∃ Q9, Q9 = MQ below (kQi D (nI n) [(b, .inr (12, [.ref v, .int (0 : Int32), .int ml, .int (nI n)]))] A) args s 0 0 A := ⟨_, rfl⟩
  rw [← hQQ]
  obtain ⟨H, hH⟩ : ∃ H9, H9 = s.heap := ⟨_, rfl⟩
  have hP : va_P D vwCl ([(b, .inr (12, [.ref v, .int (0 : Int32), .int ml, .int (nI n)]))]) H := by rw [hH]; exact hP
  have hS : va_S A s.heap H [] := by rw [hH]; exact hS
  rw [← hH]
  refine lv_aload_n hx hb dJ5_length_8abf5_0 rfl (lv_at hl 0 rfl) ?_
  refine va_get (D := D) (ci := 12) (v := .int (nI n)) (C := RJ4) (T := TJ4) (N := 4) hx hb hts inJ4 hown hK hP 0 rfl rfl 3 (by decide) f79 (fun _ h9 => h9) rfl dJ5_length_8abf5_1 ?_
  rw [hQQ]
  exact kr_i hx hb hr hlocks hP hD hS dJ5_length_8abf5_4
theorem kd_J4_length_8abf5 : yJ4_length_8abf5.cls = RJ4 ∧ yJ4_length_8abf5.cls ≠ "java/lang/invoke/MethodHandle" ∧ yJ4_length_8abf5.cls ≠ "java/lang/invoke/VarHandle" ∧ (parseMethodDescriptor yJ4_length_8abf5.desc).map (fun d => d.parameters.length) = some 0 := by decide +kernel
set_option maxHeartbeats 4000000 in
set_option maxRecDepth 100000 in
theorem c_J4_length_8abf5 {l : Launch} {D : va_G} {cy : Nat → ClassId} (b v n sz : Nat) (ml : Int32) : Met l yJ4_length_8abf5 wsJ4_length_8abf5 ({ frames := 1, cells := 0, slots := 0, locals := 40 } : Room) (kP (EN D cy) D [.ref b] ([(b, .inr (12, [.ref v, .int (0 : Int32), .int ml, .int (nI n)]))]) sz) (kQi D (nI n) [(b, .inr (12, [.ref v, .int (0 : Int32), .int ml, .int (nI n)]))] (va_A ([(b, .inr (12, [.ref v, .int (0 : Int32), .int ml, .int (nI n)]))]) sz)) 0 0 (va_A ([(b, .inr (12, [.ref v, .int (0 : Int32), .int ml, .int (nI n)]))]) sz) := by
  refine kMet (y := yJ4_length_8abf5) (av := [.ref b]) (cc := cJ4_length_8abf5) (maxL := 1) (ret := some .int) (own := RJ4) (Qc := fun A9 => (kQi D (nI n) [(b, .inr (12, [.ref v, .int (0 : Int32), .int ml, .int (nI n)]))] A9)) (by decide) rfl rfl (Nat.le_of_ble_eq_true rfl) ?_
  intro p e s m args below meth c A hx hb hr hts hown hml hlocks hname hE hP hD hA hsz ls hl
  have hK := hE.1
  have hl : lv_has ls 1 [(0, .ref b)] := hl
  have hS : va_S A s.heap s.heap [] := va_S.rf
  obtain ⟨QQ, hQQ⟩ : ∃ Q9, Q9 = MQ below (kQi D (nI n) [(b, .inr (12, [.ref v, .int (0 : Int32), .int ml, .int (nI n)]))] A) args s 0 0 A := ⟨_, rfl⟩
  rw [← hQQ]
  obtain ⟨H, hH⟩ : ∃ H9, H9 = s.heap := ⟨_, rfl⟩
  have hP : va_P D vwCl ([(b, .inr (12, [.ref v, .int (0 : Int32), .int ml, .int (nI n)]))]) H := by rw [hH]; exact hP
  have hS : va_S A s.heap H [] := by rw [hH]; exact hS
  rw [← hH]
  refine lv_aload_n hx hb dJ4_length_8abf5_0 rfl (lv_at hl 0 rfl) ?_
  refine kc_i (va_runSU (As := []) (rest := []) (hK.1 12 _ rfl).2 ⟨hx, hb, hml, hown, hts⟩ (c_J5_length_8abf5 b v n H.size ml) (va_cwSU 0 hts gJ4_length_8abf5_J5_length_8abf5_s343 rfl rfl rfl ⟨by decide, by decide +kernel⟩ ⟨Nat.le_of_ble_eq_true rfl, Nat.le_of_ble_eq_true rfl⟩) ⟨kP_blind (EN_ok D cy) D _ _ _, va_recv hK hP (ci := 12) (q0 := 0) rfl rfl, kStart (EN_ok D cy) hE hP hD hS hA [0] rfl rfl _⟩ rfl rfl hl.1 rfl (lv_room (Nat.le_of_ble_eq_true rfl)) dJ4_length_8abf5_1 ⟨Nat.le_of_ble_eq_true rfl, Nat.le_of_ble_eq_true rfl⟩) hP hD hS hA [0] rfl (Nat.le_refl _) (fun H locs hP hD hS => ?_)
  have hP : va_P D vwCl ([(b, .inr (12, [.ref v, .int (0 : Int32), .int ml, .int (nI n)]))]) H := hP
  have hD : va_D A ([(b, .inr (12, [.ref v, .int (0 : Int32), .int ml, .int (nI n)]))]) := hD
  rw [hQQ]
  exact kr_i hx hb hr hlocks hP hD hS dJ4_length_8abf5_4
theorem kd_J0_init_db425 : yJ0_init_db425.cls ≠ "java/lang/invoke/MethodHandle" ∧ yJ0_init_db425.cls ≠ "java/lang/invoke/VarHandle" ∧ (parseMethodDescriptor yJ0_init_db425.desc).map (fun d => d.parameters.length) = some 2 := by decide +kernel
set_option maxHeartbeats 4000000 in
set_option maxRecDepth 100000 in
theorem c_J0_init_db425 {l : Launch} {D : va_G} {cy : Nat → ClassId} (q b v m0 n sz : Nat) (ml : Int32) (f : Nat → Int32) (hnm : n ≤ m0) (hm : m0 ≤ 200) (hf : sb_Fit f) : Met l yJ0_init_db425 wsJ0_init_db425 ({ frames := 4, cells := 1, slots := 200, locals := 220 } : Room) (kP (EL D cy) D [.ref q, .ref b, .null] ([(q, .inr (11, [.null, .int (0 : Int32), .int (0 : Int32), .int (0 : Int32)])), (b, .inr (12, [.ref v, .int (0 : Int32), .int ml, .int (nI n)])), (v, .inl (cy 1, m0, .inl f))]) sz) (kQE D (fun (u : Nat × (Nat → Int32)) => sb_Fit u.2 ∧ ∀ j, j < n → u.2 j = f j) (fun u => [(q, .inr (11, [.ref u.1, .int (0 : Int32), .int (0 : Int32), .int (0 : Int32)])), (b, sbE v ml n), (v, byE cy m0 f), (u.1, byE cy n u.2)]) (va_A ([(q, .inr (11, [.null, .int (0 : Int32), .int (0 : Int32), .int (0 : Int32)])), (b, .inr (12, [.ref v, .int (0 : Int32), .int ml, .int (nI n)])), (v, .inl (cy 1, m0, .inl f))]) sz)) 1 200 (va_A ([(q, .inr (11, [.null, .int (0 : Int32), .int (0 : Int32), .int (0 : Int32)])), (b, .inr (12, [.ref v, .int (0 : Int32), .int ml, .int (nI n)])), (v, .inl (cy 1, m0, .inl f))]) sz) := by
  refine kMet (y := yJ0_init_db425) (av := [.ref q, .ref b, .null]) (cc := cJ0_init_db425) (maxL := 5) (ret := none) (own := RJ0) (Qc := fun A9 => (kQE D (fun (u : Nat × (Nat → Int32)) => sb_Fit u.2 ∧ ∀ j, j < n → u.2 j = f j) (fun u => [(q, .inr (11, [.ref u.1, .int (0 : Int32), .int (0 : Int32), .int (0 : Int32)])), (b, sbE v ml n), (v, byE cy m0 f), (u.1, byE cy n u.2)]) A9)) (by decide) rfl rfl (Nat.le_of_ble_eq_true rfl) ?_
  intro p e s m args below meth c A hx hb hr hts hown hml hlocks hname hE hP hD hA hsz ls hl
  obtain ⟨hE, hL⟩ := hE
  have hEL : EL D cy A s s.heap := ⟨hE, hL⟩
  have hK := hE.1
  have hl : lv_has ls 5 [(0, .ref q), (1, .ref b), (2, .null)] := hl
  have hS : va_S A s.heap s.heap [] := va_S.rf
  have oi := hts (.methodLink RJ0 1 objectInit) (by decide +kernel)
  have oin := hts (.instanceMethod objectInit) (by decide +kernel)
  have oic := hts (.code objectInit ⟨#[0xb1]⟩ 1 none) (by decide +kernel)
  have f15 := hts (.fieldLink RJ0 15 "java/lang/String" "coder" "B") (by decide +kernel)
  have inJ0 : ∀ w ∈ wsJ00, w ∈ wsJ0_init_db425 := by decide +kernel
  have f9 := hts (.fieldLink RJ0 9 "java/lang/String" "value" "[B") (by decide +kernel)
  obtain ⟨QQ, hQQ⟩ : ∃ Q9, Q9 = MQ below (kQE D (fun (u : Nat × (Nat → Int32)) => sb_Fit u.2 ∧ ∀ j, j < n → u.2 j = f j) (fun u => [(q, .inr (11, [.ref u.1, .int (0 : Int32), .int (0 : Int32), .int (0 : Int32)])), (b, sbE v ml n), (v, byE cy m0 f), (u.1, byE cy n u.2)]) A) args s 1 200 A := ⟨_, rfl⟩
  rw [← hQQ]
  obtain ⟨H, hH⟩ : ∃ H9, H9 = s.heap := ⟨_, rfl⟩
  have hP : va_P D vwCl ([(q, .inr (11, [.null, .int (0 : Int32), .int (0 : Int32), .int (0 : Int32)])), (b, .inr (12, [.ref v, .int (0 : Int32), .int ml, .int (nI n)])), (v, .inl (cy 1, m0, .inl f))]) H := by rw [hH]; exact hP
  have hS : va_S A s.heap H [] := by rw [hH]; exact hS
  rw [← hH]
  refine lv_aload_n hx hb dJ0_init_db425_0 rfl (lv_at hl 0 rfl) ?_
  refine W.objInit hx hb hown oi oin oic rfl (by rw [hml]; exact hl.1) rfl dJ0_init_db425_1 (Nat.le_of_ble_eq_true rfl) (Nat.le_of_ble_eq_true rfl) ?_
  show W p l e ({ frames := 4, cells := 1, slots := 200, locals := 220 } : Room) s m args below meth c H _ 0 0 QQ (F0 m 4 ls [])
  refine lv_aload_n hx hb dJ0_init_db425_4 rfl (lv_at hl 1 rfl) ?_
  refine kc_R (va_runU (As := []) (rest := []) ⟨hx, hb, hml, hown, hts⟩ (c_J5_getValue_6d5f1 b v n H.size ml) (va_cwU 0 hts gJ0_init_db425_J5_getValue_6d5f1_u552J4 rfl rfl rfl rfl (by decide +kernel) ⟨Nat.le_of_ble_eq_true rfl, Nat.le_of_ble_eq_true rfl⟩) ⟨kP_blind (EN_ok D cy) D _ _ _, va_recv hK hP (ci := 12) (q0 := 1) rfl rfl, kStart (EN_ok D cy) hE hP hD hS hA [1] rfl rfl _⟩ rfl rfl hl.1 rfl (lv_room (Nat.le_of_ble_eq_true rfl)) dJ0_init_db425_5 ⟨Nat.le_of_ble_eq_true rfl, Nat.le_of_ble_eq_true rfl⟩) hP hD hS hA [1] rfl (fun _ _ => Nat.le_of_ble_eq_true rfl) (fun _ r H locs hr9 hP hD hS => ?_)
  have hr9 := hr9.symm
  subst hr9
  have hP : va_P D vwCl ([(q, .inr (11, [.null, .int (0 : Int32), .int (0 : Int32), .int (0 : Int32)])), (b, .inr (12, [.ref v, .int (0 : Int32), .int ml, .int (nI n)])), (v, .inl (cy 1, m0, .inl f))]) H := hP
  have hD : va_D A ([(q, .inr (11, [.null, .int (0 : Int32), .int (0 : Int32), .int (0 : Int32)])), (b, .inr (12, [.ref v, .int (0 : Int32), .int ml, .int (nI n)])), (v, .inl (cy 1, m0, .inl f))]) := hD
  refine lv_astore_n (lv' := [(3, .ref v), (0, .ref q), (1, .ref b), (2, .null)]) hx hb dJ0_init_db425_8 rfl hl (by decide) rfl (fun ls hl => ?_)
  refine lv_aload_n hx hb dJ0_init_db425_9 rfl (lv_at hl 2 rfl) ?_
  refine kc_i (va_runU (As := []) (rest := []) ⟨hx, hb, hml, hown, hts⟩ (c_J4_length_8abf5 b v n H.size ml) (va_cwO 0 hts gJ0_init_db425_J4_length_8abf5_u549J4 rfl rfl rfl (show Cond.code yJ5_length_8abf5 cJ5_length_8abf5 1 (some .int) ∈ wsJ0_init_db425 from by decide +kernel) (by decide +kernel) ⟨Nat.le_of_ble_eq_true rfl, Nat.le_of_ble_eq_true rfl⟩) ⟨kP_blind (EN_ok D cy) D _ _ _, va_recv hK hP (ci := 12) (q0 := 1) rfl rfl, kStart (EN_ok D cy) hE hP hD hS hA [1] rfl rfl _⟩ rfl rfl hl.1 rfl (lv_room (Nat.le_of_ble_eq_true rfl)) dJ0_init_db425_10 ⟨Nat.le_of_ble_eq_true rfl, Nat.le_of_ble_eq_true rfl⟩) hP hD hS hA [1] rfl (Nat.le_refl _) (fun H locs hP hD hS => ?_)
  have hP : va_P D vwCl ([(q, .inr (11, [.null, .int (0 : Int32), .int (0 : Int32), .int (0 : Int32)])), (b, .inr (12, [.ref v, .int (0 : Int32), .int ml, .int (nI n)])), (v, .inl (cy 1, m0, .inl f))]) H := hP
  have hD : va_D A ([(q, .inr (11, [.null, .int (0 : Int32), .int (0 : Int32), .int (0 : Int32)])), (b, .inr (12, [.ref v, .int (0 : Int32), .int ml, .int (nI n)])), (v, .inl (cy 1, m0, .inl f))]) := hD
  refine lv_istore (lv' := [(4, .int (nI n)), (3, .ref v), (0, .ref q), (1, .ref b), (2, .null)]) hx hb dJ0_init_db425_13 hl (by decide) rfl (fun ls hl => ?_)
  refine lv_aload_n hx hb dJ0_init_db425_15 rfl (lv_at hl 3 rfl) ?_
  refine kc_i (va_runU (As := []) (rest := []) ⟨hx, hb, hml, hown, hts⟩ (c_J5_isLatin1_aae02 b v n H.size ml) (va_cwU 0 hts gJ0_init_db425_J5_isLatin1_aae02_u1047J4 rfl rfl rfl rfl (by decide +kernel) ⟨Nat.le_of_ble_eq_true rfl, Nat.le_of_ble_eq_true rfl⟩) ⟨kP_blind (EN_ok D cy) D _ _ _, va_recv hK hP (ci := 12) (q0 := 1) rfl rfl, kStart (EN_ok D cy) hE hP hD hS hA [1] rfl rfl _⟩ rfl rfl hl.1 rfl (lv_room (Nat.le_of_ble_eq_true rfl)) dJ0_init_db425_16 ⟨Nat.le_of_ble_eq_true rfl, Nat.le_of_ble_eq_true rfl⟩) hP hD hS hA [1] rfl (Nat.le_refl _) (fun H locs hP hD hS => ?_)
  have hP : va_P D vwCl ([(q, .inr (11, [.null, .int (0 : Int32), .int (0 : Int32), .int (0 : Int32)])), (b, .inr (12, [.ref v, .int (0 : Int32), .int ml, .int (nI n)])), (v, .inl (cy 1, m0, .inl f))]) H := hP
  have hD : va_D A ([(q, .inr (11, [.null, .int (0 : Int32), .int (0 : Int32), .int (0 : Int32)])), (b, .inr (12, [.ref v, .int (0 : Int32), .int ml, .int (nI n)])), (v, .inl (cy 1, m0, .inl f))]) := hD
  refine lv_if_eq (tgt := 41) hx hb dJ0_init_db425_19 (by decide) (fun h1 => absurd h1 ((by decide : ¬ ((1 : Int32) = 0)))) (fun _ => ?_)
  refine lv_aload_n hx hb dJ0_init_db425_22 rfl (lv_at hl 2 rfl) ?_
  refine lv_iconst (v := 0) hx hb dJ0_init_db425_23 (by decide) ?_
  refine va_putF (D := D) (ci := 11) (v := .int (0 : Int32)) (ty := .byte) (C := RJ0) (T := TJ0) (N := 4) hx hb hts inJ0 tyJ0 tyJ0_ok nmJ0 hown hK hP hD hS 0 rfl rfl 1 (by decide) f15 (fun _ h9 => h9) (by decide +kernel) hname rfl rfl rfl rfl (Nat.le_of_ble_eq_true rfl) dJ0_init_db425_24 (fun H locs hP hD hS => ?_)
  have hP : va_P D vwCl ([(q, .inr (11, [.null, .int (0 : Int32), .int (0 : Int32), .int (0 : Int32)])), (b, .inr (12, [.ref v, .int (0 : Int32), .int ml, .int (nI n)])), (v, .inl (cy 1, m0, .inl f))]) H := hP
  have hD : va_D A ([(q, .inr (11, [.null, .int (0 : Int32), .int (0 : Int32), .int (0 : Int32)])), (b, .inr (12, [.ref v, .int (0 : Int32), .int ml, .int (nI n)])), (v, .inl (cy 1, m0, .inl f))]) := hD
  refine lv_aload_n hx hb dJ0_init_db425_27 rfl (lv_at hl 2 rfl) ?_
  refine lv_aload_n hx hb dJ0_init_db425_28 rfl (lv_at hl 1 rfl) ?_
  refine lv_iconst (v := 0) hx hb dJ0_init_db425_29 (by decide) ?_
  refine lv_iload hx hb dJ0_init_db425_30 (lv_at hl 0 rfl) ?_
  refine kc_R (va_runS (As := [.ref v, .int (0 : Int32), .int (nI n)]) (rest := [.ref q]) ⟨hx, hb, hml, hown, hts⟩ (c_J7_copyOfRange_39247 v m0 n H.size f hnm hm hf) (va_cwS 3 hts gJ0_init_db425_J7_copyOfRange_39247 rfl rfl rfl kd_J7_copyOfRange_39247 ⟨Nat.le_of_ble_eq_true rfl, Nat.le_of_ble_eq_true rfl⟩) ⟨kP_blind (EL_ok D cy) D _ _ _, kStart (EL_ok D cy) hEL hP hD hS hA [2] rfl rfl _⟩ rfl rfl hl.1 rfl (lv_room (Nat.le_of_ble_eq_true rfl)) dJ0_init_db425_32 ⟨Nat.le_of_ble_eq_true rfl, Nat.le_of_ble_eq_true rfl⟩) hP hD hS hA [2] rfl (fun _ _ => Nat.le_of_ble_eq_true rfl) (fun g x H locs hg hP hD hS => ?_)
  have hP : va_P D vwCl ([(q, .inr (11, [.null, .int (0 : Int32), .int (0 : Int32), .int (0 : Int32)])), (b, .inr (12, [.ref v, .int (0 : Int32), .int ml, .int (nI n)])), (v, .inl (cy 1, m0, .inl f)), (x, .inl (cy 1, n, .inl g))]) H := hP
  have hD : va_D A ([(q, .inr (11, [.null, .int (0 : Int32), .int (0 : Int32), .int (0 : Int32)])), (b, .inr (12, [.ref v, .int (0 : Int32), .int ml, .int (nI n)])), (v, .inl (cy 1, m0, .inl f)), (x, .inl (cy 1, n, .inl g))]) := hD
  refine va_putF (D := D) (ci := 11) (v := .ref x) (ty := (.array .byte)) (C := RJ0) (T := TJ0) (N := 4) hx hb hts inJ0 tyJ0 tyJ0_ok nmJ0 hown hK hP hD hS 0 rfl rfl 0 (by decide) f9 (fun _ h9 => h9) (by decide +kernel) hname rfl rfl rfl rfl (Nat.le_of_ble_eq_true rfl) dJ0_init_db425_35 (fun H locs hP hD hS => ?_)
  have hP : va_P D vwCl ([(q, .inr (11, [.ref x, .int (0 : Int32), .int (0 : Int32), .int (0 : Int32)])), (b, .inr (12, [.ref v, .int (0 : Int32), .int ml, .int (nI n)])), (v, .inl (cy 1, m0, .inl f)), (x, .inl (cy 1, n, .inl g))]) H := hP
  have hD : va_D A ([(q, .inr (11, [.ref x, .int (0 : Int32), .int (0 : Int32), .int (0 : Int32)])), (b, .inr (12, [.ref v, .int (0 : Int32), .int ml, .int (nI n)])), (v, .inl (cy 1, m0, .inl f)), (x, .inl (cy 1, n, .inl g))]) := hD
  refine lv_goto (tgt := 97) hx hb dJ0_init_db425_38 (by decide) ?_
  rw [hQQ]
  exact kr_E (x, g) hg hx hb hr hlocks hP hD hS dJ0_init_db425_97 (Nat.le_of_ble_eq_true rfl) (Nat.le_of_ble_eq_true rfl)
theorem kd_J0_init_81219 : yJ0_init_81219.cls ≠ "java/lang/invoke/MethodHandle" ∧ yJ0_init_81219.cls ≠ "java/lang/invoke/VarHandle" ∧ (parseMethodDescriptor yJ0_init_81219.desc).map (fun d => d.parameters.length) = some 1 := by decide +kernel
set_option maxHeartbeats 4000000 in
set_option maxRecDepth 100000 in
theorem c_J0_init_81219 {l : Launch} {D : va_G} {cy : Nat → ClassId} (q b v m0 n sz : Nat) (ml : Int32) (f : Nat → Int32) (hnm : n ≤ m0) (hm : m0 ≤ 200) (hf : sb_Fit f) : Met l yJ0_init_81219 wsJ0_init_81219 ({ frames := 5, cells := 1, slots := 200, locals := 280 } : Room) (kP (EL D cy) D [.ref q, .ref b] ([(q, .inr (11, [.null, .int (0 : Int32), .int (0 : Int32), .int (0 : Int32)])), (b, .inr (12, [.ref v, .int (0 : Int32), .int ml, .int (nI n)])), (v, .inl (cy 1, m0, .inl f))]) sz) (kQE D (fun (u : Nat × (Nat → Int32)) => sb_Fit u.2 ∧ ∀ j, j < n → u.2 j = f j) (fun u => [(q, .inr (11, [.ref u.1, .int (0 : Int32), .int (0 : Int32), .int (0 : Int32)])), (b, sbE v ml n), (v, byE cy m0 f), (u.1, byE cy n u.2)]) (va_A ([(q, .inr (11, [.null, .int (0 : Int32), .int (0 : Int32), .int (0 : Int32)])), (b, .inr (12, [.ref v, .int (0 : Int32), .int ml, .int (nI n)])), (v, .inl (cy 1, m0, .inl f))]) sz)) 1 200 (va_A ([(q, .inr (11, [.null, .int (0 : Int32), .int (0 : Int32), .int (0 : Int32)])), (b, .inr (12, [.ref v, .int (0 : Int32), .int ml, .int (nI n)])), (v, .inl (cy 1, m0, .inl f))]) sz) := by
  refine kMet (y := yJ0_init_81219) (av := [.ref q, .ref b]) (cc := cJ0_init_81219) (maxL := 2) (ret := none) (own := RJ0) (Qc := fun A9 => (kQE D (fun (u : Nat × (Nat → Int32)) => sb_Fit u.2 ∧ ∀ j, j < n → u.2 j = f j) (fun u => [(q, .inr (11, [.ref u.1, .int (0 : Int32), .int (0 : Int32), .int (0 : Int32)])), (b, sbE v ml n), (v, byE cy m0 f), (u.1, byE cy n u.2)]) A9)) (by decide) rfl rfl (Nat.le_of_ble_eq_true rfl) ?_
  intro p e s m args below meth c A hx hb hr hts hown hml hlocks hname hE hP hD hA hsz ls hl
  obtain ⟨hE, hL⟩ := hE
  have hEL : EL D cy A s s.heap := ⟨hE, hL⟩
  have hK := hE.1
  have hl : lv_has ls 2 [(0, .ref q), (1, .ref b)] := hl
  have hS : va_S A s.heap s.heap [] := va_S.rf
  have iRJ0 := hts (.initialized RJ0) (by decide +kernel)
  have l489 := hts (.methodLink RJ0 489 yJ0_init_db425) (by decide +kernel)
  have imJ0_init_db425 := hts (.instanceMethod yJ0_init_db425) (by decide +kernel)
  obtain ⟨QQ, hQQ⟩ : ∃ Q9, Q9 = MQ below (kQE D (fun (u : Nat × (Nat → Int32)) => sb_Fit u.2 ∧ ∀ j, j < n → u.2 j = f j) (fun u => [(q, .inr (11, [.ref u.1, .int (0 : Int32), .int (0 : Int32), .int (0 : Int32)])), (b, sbE v ml n), (v, byE cy m0 f), (u.1, byE cy n u.2)]) A) args s 1 200 A := ⟨_, rfl⟩
  rw [← hQQ]
  obtain ⟨H, hH⟩ : ∃ H9, H9 = s.heap := ⟨_, rfl⟩
  have hP : va_P D vwCl ([(q, .inr (11, [.null, .int (0 : Int32), .int (0 : Int32), .int (0 : Int32)])), (b, .inr (12, [.ref v, .int (0 : Int32), .int ml, .int (nI n)])), (v, .inl (cy 1, m0, .inl f))]) H := by rw [hH]; exact hP
  have hS : va_S A s.heap H [] := by rw [hH]; exact hS
  rw [← hH]
  refine lv_aload_n hx hb dJ0_init_81219_0 rfl (lv_at hl 0 rfl) ?_
  refine lv_aload_n hx hb dJ0_init_81219_1 rfl (lv_at hl 1 rfl) ?_
  refine lv_null hx hb dJ0_init_81219_2 ?_
  refine kc_E (va_runI (As := [.ref b, .null]) (rest := []) ⟨hx, hb, hml, hown, hts⟩ (c_J0_init_db425 q b v m0 n H.size ml f hnm hm hf) (cwI 2 hts gJ0_init_81219_J0_init_db425 rfl rfl rfl iRJ0 l489 imJ0_init_db425 rfl kd_J0_init_db425 ⟨Nat.le_of_ble_eq_true rfl, Nat.le_of_ble_eq_true rfl⟩) ⟨kP_blind (EL_ok D cy) D _ _ _, kStart (EL_ok D cy) hEL hP hD hS hA [0, 1, 2] rfl rfl _⟩ rfl rfl hl.1 rfl (lv_room (Nat.le_of_ble_eq_true rfl)) dJ0_init_81219_3 ⟨Nat.le_of_ble_eq_true rfl, Nat.le_of_ble_eq_true rfl⟩) hP hD hS hA [0, 1, 2] rfl (fun _ => Nat.le_of_ble_eq_true rfl) (fun u H locs hg hP hD hS => ?_)
  obtain ⟨x, g⟩ := u
  have hP : va_P D vwCl ([(q, .inr (11, [.ref x, .int (0 : Int32), .int (0 : Int32), .int (0 : Int32)])), (b, .inr (12, [.ref v, .int (0 : Int32), .int ml, .int (nI n)])), (v, .inl (cy 1, m0, .inl f)), (x, .inl (cy 1, n, .inl g))]) H := hP
  have hD : va_D A ([(q, .inr (11, [.ref x, .int (0 : Int32), .int (0 : Int32), .int (0 : Int32)])), (b, .inr (12, [.ref v, .int (0 : Int32), .int ml, .int (nI n)])), (v, .inl (cy 1, m0, .inl f)), (x, .inl (cy 1, n, .inl g))]) := hD
  rw [hQQ]
  exact kr_E (x, g) hg hx hb hr hlocks hP hD hS dJ0_init_81219_6 (Nat.le_of_ble_eq_true rfl) (Nat.le_of_ble_eq_true rfl)
theorem kd_J4_toString_0e30d : yJ4_toString_0e30d.cls = RJ4 ∧ yJ4_toString_0e30d.cls ≠ "java/lang/invoke/MethodHandle" ∧ yJ4_toString_0e30d.cls ≠ "java/lang/invoke/VarHandle" ∧ (parseMethodDescriptor yJ4_toString_0e30d.desc).map (fun d => d.parameters.length) = some 0 := by decide +kernel
set_option maxHeartbeats 4000000 in
set_option maxRecDepth 100000 in
theorem c_J4_toString_0e30d {l : Launch} {D : va_G} {cy : Nat → ClassId} (b v m0 n sz : Nat) (ml : Int32) (f : Nat → Int32) (hnm : n ≤ m0) (hm : m0 ≤ 200) (hf : sb_Fit f) : Met l yJ4_toString_0e30d wsJ4_toString_0e30d ({ frames := 6, cells := 2, slots := 204, locals := 340 } : Room) (kP (EL D cy) D [.ref b] ([(b, .inr (12, [.ref v, .int (0 : Int32), .int ml, .int (nI n)])), (v, .inl (cy 1, m0, .inl f))]) sz) (kQR D (fun (u : Nat × (Nat → Int32)) (_ : Nat) => sb_Fit u.2 ∧ ∀ j, j < n → u.2 j = f j) (fun u r => [(b, sbE v ml n), (v, byE cy m0 f), (r, .inr (11, [.ref u.1, .int (0 : Int32), .int (0 : Int32), .int (0 : Int32)])), (u.1, byE cy n u.2)]) (va_A ([(b, .inr (12, [.ref v, .int (0 : Int32), .int ml, .int (nI n)])), (v, .inl (cy 1, m0, .inl f))]) sz)) 2 204 (va_A ([(b, .inr (12, [.ref v, .int (0 : Int32), .int ml, .int (nI n)])), (v, .inl (cy 1, m0, .inl f))]) sz) := by
  refine kMet (y := yJ4_toString_0e30d) (av := [.ref b]) (cc := cJ4_toString_0e30d) (maxL := 1) (ret := some (.object "java/lang/String")) (own := RJ4) (Qc := fun A9 => (kQR D (fun (u : Nat × (Nat → Int32)) (_ : Nat) => sb_Fit u.2 ∧ ∀ j, j < n → u.2 j = f j) (fun u r => [(b, sbE v ml n), (v, byE cy m0 f), (r, .inr (11, [.ref u.1, .int (0 : Int32), .int (0 : Int32), .int (0 : Int32)])), (u.1, byE cy n u.2)]) A9)) (by decide) rfl rfl (Nat.le_of_ble_eq_true rfl) ?_
  intro p e s m args below meth c A hx hb hr hts hown hml hlocks hname hE hP hD hA hsz ls hl
  obtain ⟨hE, hL⟩ := hE
  have hEL : EL D cy A s s.heap := ⟨hE, hL⟩
  have hK := hE.1
  have hl : lv_has ls 1 [(0, .ref b)] := hl
  have hS : va_S A s.heap s.heap [] := va_S.rf
  have k18 := hts (.classLink RJ4 18 RJ0) (by decide +kernel)
  have nJ0 := hts (.instantiable RJ0 4) (by decide +kernel)
  have iRJ0 := hts (.initialized RJ0) (by decide +kernel)
  have inJ0 : ∀ w ∈ wsJ00, w ∈ wsJ4_toString_0e30d := by decide +kernel
  have l137 := hts (.methodLink RJ4 137 yJ0_init_81219) (by decide +kernel)
  have imJ0_init_81219 := hts (.instanceMethod yJ0_init_81219) (by decide +kernel)
  obtain ⟨QQ, hQQ⟩ : ∃ Q9, Q9 = MQ below (kQR D (fun (u : Nat × (Nat → Int32)) (_ : Nat) => sb_Fit u.2 ∧ ∀ j, j < n → u.2 j = f j) (fun u r => [(b, sbE v ml n), (v, byE cy m0 f), (r, .inr (11, [.ref u.1, .int (0 : Int32), .int (0 : Int32), .int (0 : Int32)])), (u.1, byE cy n u.2)]) A) args s 2 204 A := ⟨_, rfl⟩
  rw [← hQQ]
  obtain ⟨H, hH⟩ : ∃ H9, H9 = s.heap := ⟨_, rfl⟩
  have hP : va_P D vwCl ([(b, .inr (12, [.ref v, .int (0 : Int32), .int ml, .int (nI n)])), (v, .inl (cy 1, m0, .inl f))]) H := by rw [hH]; exact hP
  have hS : va_S A s.heap H [] := by rw [hH]; exact hS
  rw [← hH]
  refine va_new (ci := 11) (fs := [.null, .int 0, .int 0, .int 0]) (C := RJ0) (T := TJ0) (N := 4) hx hb hts inJ0 tyJ0 tyJ0_ok hown k18 nJ0 iRJ0 hK hP hD hS hA rfl (fun j hj => by rcases (show j = 0 ∨ j = 1 ∨ j = 2 ∨ j = 3 by omega) with rfl | rfl | rfl | rfl <;> rfl) (Nat.le_of_ble_eq_true rfl) (Nat.le_of_ble_eq_true rfl) dJ4_toString_0e30d_0 (fun q H hP hD hS => ?_)
  have hP : va_P D vwCl ([(b, .inr (12, [.ref v, .int (0 : Int32), .int ml, .int (nI n)])), (v, .inl (cy 1, m0, .inl f)), (q, .inr (11, [.null, .int (0 : Int32), .int (0 : Int32), .int (0 : Int32)]))]) H := hP
  have hD : va_D A ([(b, .inr (12, [.ref v, .int (0 : Int32), .int ml, .int (nI n)])), (v, .inl (cy 1, m0, .inl f)), (q, .inr (11, [.null, .int (0 : Int32), .int (0 : Int32), .int (0 : Int32)]))]) := hD
  refine lv_dup hx hb dJ4_toString_0e30d_3 rfl ?_
  refine lv_aload_n hx hb dJ4_toString_0e30d_4 rfl (lv_at hl 0 rfl) ?_
  refine kc_E (va_runI (As := [.ref b]) (rest := [.ref q]) ⟨hx, hb, hml, hown, hts⟩ (c_J0_init_81219 q b v m0 n H.size ml f hnm hm hf) (cwI 1 hts gJ4_toString_0e30d_J0_init_81219 rfl rfl rfl iRJ0 l137 imJ0_init_81219 rfl kd_J0_init_81219 ⟨Nat.le_of_ble_eq_true rfl, Nat.le_of_ble_eq_true rfl⟩) ⟨kP_blind (EL_ok D cy) D _ _ _, kStart (EL_ok D cy) hEL hP hD hS hA [2, 0, 1] rfl rfl _⟩ rfl rfl hl.1 rfl (lv_room (Nat.le_of_ble_eq_true rfl)) dJ4_toString_0e30d_5 ⟨Nat.le_of_ble_eq_true rfl, Nat.le_of_ble_eq_true rfl⟩) hP hD hS hA [2, 0, 1] rfl (fun _ => Nat.le_of_ble_eq_true rfl) (fun u H locs hg hP hD hS => ?_)
  obtain ⟨x, g⟩ := u
  have hP : va_P D vwCl ([(b, .inr (12, [.ref v, .int (0 : Int32), .int ml, .int (nI n)])), (v, .inl (cy 1, m0, .inl f)), (q, .inr (11, [.ref x, .int (0 : Int32), .int (0 : Int32), .int (0 : Int32)])), (x, .inl (cy 1, n, .inl g))]) H := hP
  have hD : va_D A ([(b, .inr (12, [.ref v, .int (0 : Int32), .int ml, .int (nI n)])), (v, .inl (cy 1, m0, .inl f)), (q, .inr (11, [.ref x, .int (0 : Int32), .int (0 : Int32), .int (0 : Int32)])), (x, .inl (cy 1, n, .inl g))]) := hD
  rw [hQQ]
  exact kr_R (x, g) hg hx hb hr (Or.inl ⟨_, rfl⟩) hlocks hP hD hS dJ4_toString_0e30d_8 (Nat.le_of_ble_eq_true rfl) (Nat.le_of_ble_eq_true rfl)
theorem kd_J5_init_d00df : yJ5_init_d00df.cls ≠ "java/lang/invoke/MethodHandle" ∧ yJ5_init_d00df.cls ≠ "java/lang/invoke/VarHandle" ∧ (parseMethodDescriptor yJ5_init_d00df.desc).map (fun d => d.parameters.length) = some 1 := by decide +kernel
set_option maxHeartbeats 4000000 in
set_option maxRecDepth 100000 in
theorem c_J5_init_d00df {l : Launch} {D : va_G} {cy : Nat → ClassId} (b sz : Nat) : Met l yJ5_init_d00df wsJ5_init_d00df ({ frames := 1, cells := 1, slots := 16, locals := 40 } : Room) (kP (EN D cy) D [.ref b, .int (16 : Int32)] ([(b, .inr (12, [.null, .int (0 : Int32), .int (0 : Int32), .int (0 : Int32)]))]) sz) (kQE D (fun (_ : Nat) => True) (fun v => [(b, sbE v 0 0), (v, byE cy 16 (fun _ => 0))]) (va_A ([(b, .inr (12, [.null, .int (0 : Int32), .int (0 : Int32), .int (0 : Int32)]))]) sz)) 1 16 (va_A ([(b, .inr (12, [.null, .int (0 : Int32), .int (0 : Int32), .int (0 : Int32)]))]) sz) := by
  refine kMet (y := yJ5_init_d00df) (av := [.ref b, .int (16 : Int32)]) (cc := cJ5_init_d00df) (maxL := 2) (ret := none) (own := RJ5) (Qc := fun A9 => (kQE D (fun (_ : Nat) => True) (fun v => [(b, sbE v 0 0), (v, byE cy 16 (fun _ => 0))]) A9)) (by decide) rfl rfl (Nat.le_of_ble_eq_true rfl) ?_
  intro p e s m args below meth c A hx hb hr hts hown hml hlocks hname hE hP hD hA hsz ls hl
  have hK := hE.1
  have hl : lv_has ls 2 [(0, .ref b), (1, .int (16 : Int32))] := hl
  have hS : va_S A s.heap s.heap [] := va_S.rf
  have oi := hts (.methodLink RJ5 3 objectInit) (by decide +kernel)
  have oin := hts (.instanceMethod objectInit) (by decide +kernel)
  have oic := hts (.code objectInit ⟨#[0xb1]⟩ 1 none) (by decide +kernel)
  have f18 := hts (.fieldLink RJ5 18 "java/lang/String" "COMPACT_STRINGS" "Z") (by decide +kernel)
  have aB := hts (.arrayClass .byte) (by decide +kernel)
  have f15 := hts (.fieldLink RJ5 15 "java/lang/AbstractStringBuilder" "value" "[B") (by decide +kernel)
  have inJ4 : ∀ w ∈ wsJ40, w ∈ wsJ5_init_d00df := by decide +kernel
  have f22 := hts (.fieldLink RJ5 22 "java/lang/AbstractStringBuilder" "coder" "B") (by decide +kernel)
  obtain ⟨QQ, hQQ⟩ : ∃ Q9, Q9 = MQ below (kQE D (fun (_ : Nat) => True) (fun v => [(b, sbE v 0 0), (v, byE cy 16 (fun _ => 0))]) A) args s 1 16 A := ⟨_, rfl⟩
  rw [← hQQ]
  obtain ⟨H, hH⟩ : ∃ H9, H9 = s.heap := ⟨_, rfl⟩
  have hP : va_P D vwCl ([(b, .inr (12, [.null, .int (0 : Int32), .int (0 : Int32), .int (0 : Int32)]))]) H := by rw [hH]; exact hP
  have hS : va_S A s.heap H [] := by rw [hH]; exact hS
  rw [← hH]
  refine lv_aload_n hx hb dJ5_init_d00df_0 rfl (lv_at hl 0 rfl) ?_
  refine W.objInit hx hb hown oi oin oic rfl (by rw [hml]; exact hl.1) rfl dJ5_init_d00df_1 (Nat.le_of_ble_eq_true rfl) (Nat.le_of_ble_eq_true rfl) ?_
  show W p l e ({ frames := 1, cells := 1, slots := 16, locals := 40 } : Room) s m args below meth c H _ 0 0 QQ (F0 m 4 ls [])
  refine va_gets (v := .int 1) hx hb hE.2.2.2.1 hS hown f18 (fun _ h9 => h9) dJ5_init_d00df_4 ?_
  refine lv_if_eq (tgt := 25) hx hb dJ5_init_d00df_7 (by decide) (fun h1 => absurd h1 ((by decide : ¬ ((1 : Int32) = 0)))) (fun _ => ?_)
  refine lv_aload_n hx hb dJ5_init_d00df_10 rfl (lv_at hl 0 rfl) ?_
  refine lv_iload_n hx hb dJ5_init_d00df_11 rfl (lv_at hl 1 rfl) ?_
  refine kn_newb (N' := 16) hx hb aB hK hP hD hS hA (by decide) (by decide) (by decide) (Nat.le_of_ble_eq_true rfl) (Nat.le_of_ble_eq_true rfl) dJ5_init_d00df_12 (fun v H hP hD hS => ?_)
  have hP : va_P D vwCl ([(b, .inr (12, [.null, .int (0 : Int32), .int (0 : Int32), .int (0 : Int32)])), (v, .inl (cy 1, 16, .inl (fun _ => (0 : Int32))))]) H := hP
  have hD : va_D A ([(b, .inr (12, [.null, .int (0 : Int32), .int (0 : Int32), .int (0 : Int32)])), (v, .inl (cy 1, 16, .inl (fun _ => (0 : Int32))))]) := hD
  refine va_put (D := D) (ci := 12) (v := .ref v) (ty := (.array .byte)) (C := RJ4) (T := TJ4) (N := 4) hx hb hts inJ4 tyJ4 tyJ4_ok nmJ4 hown hK hP hD hS 0 rfl rfl 0 (by decide) f15 (fun _ h9 => h9) (by decide +kernel) rfl rfl rfl (Nat.le_of_ble_eq_true rfl) dJ5_init_d00df_14 (fun H locs hP hD hS => ?_)
  have hP : va_P D vwCl ([(b, .inr (12, [.ref v, .int (0 : Int32), .int (0 : Int32), .int (0 : Int32)])), (v, .inl (cy 1, 16, .inl (fun _ => (0 : Int32))))]) H := hP
  have hD : va_D A ([(b, .inr (12, [.ref v, .int (0 : Int32), .int (0 : Int32), .int (0 : Int32)])), (v, .inl (cy 1, 16, .inl (fun _ => (0 : Int32))))]) := hD
  refine lv_aload_n hx hb dJ5_init_d00df_17 rfl (lv_at hl 0 rfl) ?_
  refine lv_iconst (v := 0) hx hb dJ5_init_d00df_18 (by decide) ?_
  refine va_put (D := D) (ci := 12) (v := .int (0 : Int32)) (ty := .byte) (C := RJ4) (T := TJ4) (N := 4) hx hb hts inJ4 tyJ4 tyJ4_ok nmJ4 hown hK hP hD hS 0 rfl rfl 1 (by decide) f22 (fun _ h9 => h9) (by decide +kernel) rfl rfl rfl (Nat.le_of_ble_eq_true rfl) dJ5_init_d00df_19 (fun H locs hP hD hS => ?_)
  have hP : va_P D vwCl ([(b, .inr (12, [.ref v, .int (0 : Int32), .int (0 : Int32), .int (0 : Int32)])), (v, .inl (cy 1, 16, .inl (fun _ => (0 : Int32))))]) H := hP
  have hD : va_D A ([(b, .inr (12, [.ref v, .int (0 : Int32), .int (0 : Int32), .int (0 : Int32)])), (v, .inl (cy 1, 16, .inl (fun _ => (0 : Int32))))]) := hD
  refine lv_goto (tgt := 38) hx hb dJ5_init_d00df_22 (by decide) ?_
  rw [hQQ]
  exact kr_E v trivial hx hb hr hlocks hP hD hS dJ5_init_d00df_38 (Nat.le_of_ble_eq_true rfl) (Nat.le_of_ble_eq_true rfl)
theorem kd_J4_init_da8c8 : yJ4_init_da8c8.cls ≠ "java/lang/invoke/MethodHandle" ∧ yJ4_init_da8c8.cls ≠ "java/lang/invoke/VarHandle" ∧ (parseMethodDescriptor yJ4_init_da8c8.desc).map (fun d => d.parameters.length) = some 0 := by decide +kernel
set_option maxHeartbeats 4000000 in
set_option maxRecDepth 100000 in
theorem c_J4_init_da8c8 {l : Launch} {D : va_G} {cy : Nat → ClassId} (b sz : Nat) : Met l yJ4_init_da8c8 wsJ4_init_da8c8 ({ frames := 2, cells := 1, slots := 16, locals := 80 } : Room) (kP (EN D cy) D [.ref b] ([(b, .inr (12, [.null, .int (0 : Int32), .int (0 : Int32), .int (0 : Int32)]))]) sz) (kQE D (fun (_ : Nat) => True) (fun v => [(b, sbE v 0 0), (v, byE cy 16 (fun _ => 0))]) (va_A ([(b, .inr (12, [.null, .int (0 : Int32), .int (0 : Int32), .int (0 : Int32)]))]) sz)) 1 16 (va_A ([(b, .inr (12, [.null, .int (0 : Int32), .int (0 : Int32), .int (0 : Int32)]))]) sz) := by
  refine kMet (y := yJ4_init_da8c8) (av := [.ref b]) (cc := cJ4_init_da8c8) (maxL := 1) (ret := none) (own := RJ4) (Qc := fun A9 => (kQE D (fun (_ : Nat) => True) (fun v => [(b, sbE v 0 0), (v, byE cy 16 (fun _ => 0))]) A9)) (by decide) rfl rfl (Nat.le_of_ble_eq_true rfl) ?_
  intro p e s m args below meth c A hx hb hr hts hown hml hlocks hname hE hP hD hA hsz ls hl
  have hK := hE.1
  have hl : lv_has ls 1 [(0, .ref b)] := hl
  have hS : va_S A s.heap s.heap [] := va_S.rf
  have iRJ5 := hts (.initialized RJ5) (by decide +kernel)
  have l1 := hts (.methodLink RJ4 1 yJ5_init_d00df) (by decide +kernel)
  have imJ5_init_d00df := hts (.instanceMethod yJ5_init_d00df) (by decide +kernel)
  obtain ⟨QQ, hQQ⟩ : ∃ Q9, Q9 = MQ below (kQE D (fun (_ : Nat) => True) (fun v => [(b, sbE v 0 0), (v, byE cy 16 (fun _ => 0))]) A) args s 1 16 A := ⟨_, rfl⟩
  rw [← hQQ]
  obtain ⟨H, hH⟩ : ∃ H9, H9 = s.heap := ⟨_, rfl⟩
  have hP : va_P D vwCl ([(b, .inr (12, [.null, .int (0 : Int32), .int (0 : Int32), .int (0 : Int32)]))]) H := by rw [hH]; exact hP
  have hS : va_S A s.heap H [] := by rw [hH]; exact hS
  rw [← hH]
  refine lv_aload_n hx hb dJ4_init_da8c8_0 rfl (lv_at hl 0 rfl) ?_
  refine lv_bipush (v := 16) hx hb dJ4_init_da8c8_1 (by decide) ?_
  refine kc_E (va_runI (As := [.int (16 : Int32)]) (rest := []) ⟨hx, hb, hml, hown, hts⟩ (c_J5_init_d00df b H.size) (cwI 1 hts gJ4_init_da8c8_J5_init_d00df rfl rfl rfl iRJ5 l1 imJ5_init_d00df rfl kd_J5_init_d00df ⟨Nat.le_of_ble_eq_true rfl, Nat.le_of_ble_eq_true rfl⟩) ⟨kP_blind (EN_ok D cy) D _ _ _, kStart (EN_ok D cy) hE hP hD hS hA [0] rfl rfl _⟩ rfl rfl hl.1 rfl (lv_room (Nat.le_of_ble_eq_true rfl)) dJ4_init_da8c8_3 ⟨Nat.le_of_ble_eq_true rfl, Nat.le_of_ble_eq_true rfl⟩) hP hD hS hA [0] rfl (fun _ => Nat.le_of_ble_eq_true rfl) (fun v H locs _ hP hD hS => ?_)
  have hP : va_P D vwCl ([(b, .inr (12, [.ref v, .int (0 : Int32), .int 0, .int (nI 0)])), (v, .inl (cy 1, 16, .inl (fun _ => (0 : Int32))))]) H := hP
  have hD : va_D A ([(b, .inr (12, [.ref v, .int (0 : Int32), .int 0, .int (nI 0)])), (v, .inl (cy 1, 16, .inl (fun _ => (0 : Int32))))]) := hD
  rw [hQQ]
  exact kr_E v trivial hx hb hr hlocks hP hD hS dJ4_init_da8c8_6 (Nat.le_of_ble_eq_true rfl) (Nat.le_of_ble_eq_true rfl)
